def finC (h : Hp) (f : Nat) : Hp := ui (ui h 0 9 (nI f)) 49 f ((ui h 0 9 (nI f)).1 49 f + nI 1)

set_option maxRecDepth 20000 in
theorem c_X6_refuse {f : Nat} {h : Hp} (hf : 1 ≤ f) (hf5 : f ≤ 5) : CT 1 yX6_refuse cX6_refuse 2 (some .int) [.ref 0, .int (nI f)] h (some (.int (-3))) (finC h f) := by
  refine CT.of (own := RX6) rfl (by decide) (ro_i _) [.ref 0, .int (nI f)] rfl (Nat.le_of_ble_eq_true rfl) (fun E hp => ?_)
  refine s_iload_n (pc := 0) 1 rfl rfl dX6_refuse_0 ?_
  refine s_iconst (pc := 1) (k_i1N) dX6_refuse_1 ?_
  refine s_icmp_ltN (pc := 2) (by omega) (by omega) 25 dX6_refuse_2 (by decide) (fun c_2 => ?_) (fun c_2 => ?_)
  · exfalso; omega
  · refine s_iload_n (pc := 5) 1 rfl rfl dX6_refuse_5 ?_
    refine s_iconst (pc := 6) (k_i5N) dX6_refuse_6 ?_
    refine s_icmp_gtN (pc := 7) (by omega) (by omega) 25 dX6_refuse_7 (by decide) (fun c_7 => ?_) (fun c_7 => ?_)
    · exfalso; omega
    · refine s_aload_n (pc := 10) 0 rfl rfl dX6_refuse_10 ?_
      refine s_iload_n (pc := 11) 1 rfl rfl dX6_refuse_11 ?_
      refine s_puti (pc := 12) fl_X6_65 fw_6_9 rfl rfl dX6_refuse_12 ?_
      refine s_aload_n (pc := 15) 0 rfl rfl dX6_refuse_15 ?_
      refine s_getr (pc := 16) (b := 49) fl_X6_61 rfl rfl rfl dX6_refuse_16 ?_
      refine s_iload_n (pc := 19) 1 rfl rfl dX6_refuse_19 ?_
      refine s_dup2 (pc := 20) rfl rfl dX6_refuse_20 ?_
      refine s_iald (pc := 21) (_) rfl rfl (by omega) dX6_refuse_21 ?_
      refine s_iconst (pc := 22) (k_i1N) dX6_refuse_22 ?_
      refine s_iadd (pc := 23) dX6_refuse_23 ?_
      refine s_iast (pc := 24) (_) rfl rfl (by omega) dX6_refuse_24 ?_
      refine s_bipush (pc := 25) (k_bm3) dX6_refuse_25 ?_
      refine s_iret (pc := 27) dX6_refuse_27 (PostE.of hp ?_ ?_)
      · first | rfl | (exfalso; omega)
      · first | rfl | (exfalso; omega)

set_option maxRecDepth 20000 in
theorem c_X6_refusalOfSheet_1B {s : Int32} {h : Hp} (hm : h.1 1 0 = nI 6) (hb : s < 0 ∨ nI 6 ≤ s) : CT 4 yX6_refusalOfSheet cX6_refusalOfSheet 3 (some .int) [.ref 0, .ref 1, .int s] h (some (.int (-1))) (h) := by
  refine CT.of (own := RX6) rfl (by decide) (ro_i _) [.ref 0, .ref 1, .int s] rfl (Nat.le_of_ble_eq_true rfl) (fun E hp => ?_)
  refine s_aload_n (pc := 0) 1 rfl rfl dX6_refusalOfSheet_0 ?_
  refine s_iload_n (pc := 1) 2 rfl rfl dX6_refusalOfSheet_1 ?_
  refine s_cvi1 (pc := 2) (c_X5_isNumber_1F hm hb) ml_X6_96 mw_X5_isNumber rfl (by decide) (Nat.le_of_ble_eq_true rfl) dX6_refusalOfSheet_2 ?_
  refine s_if_neF (pc := 5) 10 dX6_refusalOfSheet_5 (by decide) ?_
  refine s_iconst (pc := 8) (k_im1) dX6_refusalOfSheet_8 ?_
  refine s_iret (pc := 9) dX6_refusalOfSheet_9 (PostE.of hp ?_ ?_)
  · rfl
  · rfl

set_option maxRecDepth 20000 in
theorem c_X6_refusalOfSheet_1M {k : Nat} {h : Hp} (hm : h.1 1 0 = nI 6) (hk : k < 6) (hz : h.1 2 k = -1) : CT 4 yX6_refusalOfSheet cX6_refusalOfSheet 3 (some .int) [.ref 0, .ref 1, .int (nI k)] h (some (.int (-3))) (finC h 1) := by
  refine CT.of (own := RX6) rfl (by decide) (ro_i _) [.ref 0, .ref 1, .int (nI k)] rfl (Nat.le_of_ble_eq_true rfl) (fun E hp => ?_)
  refine s_aload_n (pc := 0) 1 rfl rfl dX6_refusalOfSheet_0 ?_
  refine s_iload_n (pc := 1) 2 rfl rfl dX6_refusalOfSheet_1 ?_
  refine s_cvi1 (pc := 2) (c_X5_isNumber_1T hm hk) ml_X6_96 mw_X5_isNumber rfl (by decide) (Nat.le_of_ble_eq_true rfl) dX6_refusalOfSheet_2 ?_
  refine s_if_neT (pc := 5) 10 dX6_refusalOfSheet_5 (by decide) ?_
  refine s_aload_n (pc := 10) 1 rfl rfl dX6_refusalOfSheet_10 ?_
  refine s_iload_n (pc := 11) 2 rfl rfl dX6_refusalOfSheet_11 ?_
  refine s_cvi1 (pc := 12) (c_X5_isThere_1F hm hk hz) ml_X6_104 mw_X5_isThere rfl (by decide) (Nat.le_of_ble_eq_true rfl) dX6_refusalOfSheet_12 ?_
  refine s_if_eqF (pc := 15) 22 dX6_refusalOfSheet_15 (by decide) ?_
  refine s_aload_n (pc := 22) 0 rfl rfl dX6_refusalOfSheet_22 ?_
  refine s_iconst (pc := 23) (k_i1N) dX6_refusalOfSheet_23 ?_
  refine s_cvi1 (pc := 24) (c_X6_refuse (by decide) (by decide)) ml_X6_100 mw_X6_refuse rfl (by decide) (Nat.le_of_ble_eq_true rfl) dX6_refusalOfSheet_24 ?_
  refine s_iret (pc := 27) dX6_refusalOfSheet_27 (PostE.of hp ?_ ?_)
  · rfl
  · rfl

set_option maxRecDepth 20000 in
theorem c_X6_refusalOfSheet_1O {k m : Nat} {h : Hp} (hm : h.1 1 0 = nI 6) (hk : k < 6) (hz : h.1 2 k = nI m) (hz6 : m ≤ 40) : CT 4 yX6_refusalOfSheet cX6_refusalOfSheet 3 (some .int) [.ref 0, .ref 1, .int (nI k)] h (some (.int (nI 0))) (h) := by
  refine CT.of (own := RX6) rfl (by decide) (ro_i _) [.ref 0, .ref 1, .int (nI k)] rfl (Nat.le_of_ble_eq_true rfl) (fun E hp => ?_)
  refine s_aload_n (pc := 0) 1 rfl rfl dX6_refusalOfSheet_0 ?_
  refine s_iload_n (pc := 1) 2 rfl rfl dX6_refusalOfSheet_1 ?_
  refine s_cvi1 (pc := 2) (c_X5_isNumber_1T hm hk) ml_X6_96 mw_X5_isNumber rfl (by decide) (Nat.le_of_ble_eq_true rfl) dX6_refusalOfSheet_2 ?_
  refine s_if_neT (pc := 5) 10 dX6_refusalOfSheet_5 (by decide) ?_
  refine s_aload_n (pc := 10) 1 rfl rfl dX6_refusalOfSheet_10 ?_
  refine s_iload_n (pc := 11) 2 rfl rfl dX6_refusalOfSheet_11 ?_
  refine s_cvi1 (pc := 12) (c_X5_isThere_1T hm hk hz (by omega)) ml_X6_104 mw_X5_isThere rfl (by decide) (Nat.le_of_ble_eq_true rfl) dX6_refusalOfSheet_12 ?_
  refine s_if_eqT (pc := 15) 22 dX6_refusalOfSheet_15 (by decide) ?_
  refine s_iconst (pc := 18) (k_i0N) dX6_refusalOfSheet_18 ?_
  refine s_goto (pc := 19) 27 dX6_refusalOfSheet_19 (by decide) ?_
  refine s_iret (pc := 27) dX6_refusalOfSheet_27 (PostE.of hp ?_ ?_)
  · rfl
  · rfl

set_option maxRecDepth 20000 in
theorem c_X6_refusalOfPlace_1B {s i : Int32} {h : Hp} (hm : h.1 1 0 = nI 6) (hb : s < 0 ∨ nI 6 ≤ s) : CT 5 yX6_refusalOfPlace cX6_refusalOfPlace 5 (some .int) [.ref 0, .ref 1, .int s, .int i] h (some (.int (-1))) (h) := by
  refine CT.of (own := RX6) rfl (by decide) (ro_i _) [.ref 0, .ref 1, .int s, .int i, .null] rfl (Nat.le_of_ble_eq_true rfl) (fun E hp => ?_)
  refine s_aload_n (pc := 0) 0 rfl rfl dX6_refusalOfPlace_0 ?_
  refine s_aload_n (pc := 1) 1 rfl rfl dX6_refusalOfPlace_1 ?_
  refine s_iload_n (pc := 2) 2 rfl rfl dX6_refusalOfPlace_2 ?_
  refine s_cvi2 (pc := 3) (c_X6_refusalOfSheet_1B hm hb) ml_X6_88 mw_X6_refusalOfSheet rfl (by decide) (Nat.le_of_ble_eq_true rfl) dX6_refusalOfPlace_3 ?_
  refine s_istore (pc := 6) (by decide) rfl dX6_refusalOfPlace_6 ?_
  refine s_iload (pc := 8) rfl dX6_refusalOfPlace_8 ?_
  refine s_if_eq (pc := 10) 16 dX6_refusalOfPlace_10 (by decide) (fun c_10 => ?_) (fun c_10 => ?_)
  · exfalso; exact absurd c_10 (by decide)
  · refine s_iload (pc := 13) rfl dX6_refusalOfPlace_13 ?_
    refine s_iret (pc := 15) dX6_refusalOfPlace_15 (PostE.of hp ?_ ?_)
    · rfl
    · rfl

set_option maxRecDepth 20000 in
theorem c_X6_refusalOfPlace_1M {k : Nat} {i : Int32} {h : Hp} (hm : h.1 1 0 = nI 6) (hk : k < 6) (hz : h.1 2 k = -1) : CT 5 yX6_refusalOfPlace cX6_refusalOfPlace 5 (some .int) [.ref 0, .ref 1, .int (nI k), .int i] h (some (.int (-3))) (finC h 1) := by
  refine CT.of (own := RX6) rfl (by decide) (ro_i _) [.ref 0, .ref 1, .int (nI k), .int i, .null] rfl (Nat.le_of_ble_eq_true rfl) (fun E hp => ?_)
  refine s_aload_n (pc := 0) 0 rfl rfl dX6_refusalOfPlace_0 ?_
  refine s_aload_n (pc := 1) 1 rfl rfl dX6_refusalOfPlace_1 ?_
  refine s_iload_n (pc := 2) 2 rfl rfl dX6_refusalOfPlace_2 ?_
  refine s_cvi2 (pc := 3) (c_X6_refusalOfSheet_1M hm hk hz) ml_X6_88 mw_X6_refusalOfSheet rfl (by decide) (Nat.le_of_ble_eq_true rfl) dX6_refusalOfPlace_3 ?_
  refine s_istore (pc := 6) (by decide) rfl dX6_refusalOfPlace_6 ?_
  refine s_iload (pc := 8) rfl dX6_refusalOfPlace_8 ?_
  refine s_if_eq (pc := 10) 16 dX6_refusalOfPlace_10 (by decide) (fun c_10 => ?_) (fun c_10 => ?_)
  · exfalso; exact absurd c_10 (by decide)
  · refine s_iload (pc := 13) rfl dX6_refusalOfPlace_13 ?_
    refine s_iret (pc := 15) dX6_refusalOfPlace_15 (PostE.of hp ?_ ?_)
    · rfl
    · rfl

set_option maxRecDepth 20000 in
theorem c_X6_refusalOfPlace_1Y {k m : Nat} {i : Int32} {h : Hp} (hm : h.1 1 0 = nI 6) (hk : k < 6) (hz : h.1 2 k = nI m) (hz6 : m ≤ 40) (hb : i < 0 ∨ nI m ≤ i) : CT 5 yX6_refusalOfPlace cX6_refusalOfPlace 5 (some .int) [.ref 0, .ref 1, .int (nI k), .int i] h (some (.int (-3))) (finC h 2) := by
  refine CT.of (own := RX6) rfl (by decide) (ro_i _) [.ref 0, .ref 1, .int (nI k), .int i, .null] rfl (Nat.le_of_ble_eq_true rfl) (fun E hp => ?_)
  refine s_aload_n (pc := 0) 0 rfl rfl dX6_refusalOfPlace_0 ?_
  refine s_aload_n (pc := 1) 1 rfl rfl dX6_refusalOfPlace_1 ?_
  refine s_iload_n (pc := 2) 2 rfl rfl dX6_refusalOfPlace_2 ?_
  refine s_cvi2 (pc := 3) (c_X6_refusalOfSheet_1O hm hk hz hz6) ml_X6_88 mw_X6_refusalOfSheet rfl (by decide) (Nat.le_of_ble_eq_true rfl) dX6_refusalOfPlace_3 ?_
  refine s_istore (pc := 6) (by decide) rfl dX6_refusalOfPlace_6 ?_
  refine s_iload (pc := 8) rfl dX6_refusalOfPlace_8 ?_
  refine s_if_eqN (pc := 10) (by omega) 16 dX6_refusalOfPlace_10 (by decide) (fun c_10 => ?_) (fun c_10 => ?_)
  · refine s_aload_n (pc := 16) 1 rfl rfl dX6_refusalOfPlace_16 ?_
    refine s_iload_n (pc := 17) 2 rfl rfl dX6_refusalOfPlace_17 ?_
    refine s_iload_n (pc := 18) 3 rfl rfl dX6_refusalOfPlace_18 ?_
    refine s_cvi2 (pc := 19) (c_X5_isPlace_1F hm hk hz hz6 hb) ml_X6_305 mw_X5_isPlace rfl (by decide) (Nat.le_of_ble_eq_true rfl) dX6_refusalOfPlace_19 ?_
    refine s_if_eqF (pc := 22) 29 dX6_refusalOfPlace_22 (by decide) ?_
    refine s_aload_n (pc := 29) 0 rfl rfl dX6_refusalOfPlace_29 ?_
    refine s_iconst (pc := 30) (k_i2N) dX6_refusalOfPlace_30 ?_
    refine s_cvi1 (pc := 31) (c_X6_refuse (by decide) (by decide)) ml_X6_100 mw_X6_refuse rfl (by decide) (Nat.le_of_ble_eq_true rfl) dX6_refusalOfPlace_31 ?_
    refine s_iret (pc := 34) dX6_refusalOfPlace_34 (PostE.of hp ?_ ?_)
    · rfl
    · rfl
  · exfalso; omega

set_option maxRecDepth 20000 in
theorem c_X6_refusalOfPlace_1O {k m j : Nat} {h : Hp} (hm : h.1 1 0 = nI 6) (hk : k < 6) (hz : h.1 2 k = nI m) (hz6 : m ≤ 40) (hj : j < m) : CT 5 yX6_refusalOfPlace cX6_refusalOfPlace 5 (some .int) [.ref 0, .ref 1, .int (nI k), .int (nI j)] h (some (.int (nI 0))) (h) := by
  refine CT.of (own := RX6) rfl (by decide) (ro_i _) [.ref 0, .ref 1, .int (nI k), .int (nI j), .null] rfl (Nat.le_of_ble_eq_true rfl) (fun E hp => ?_)
  refine s_aload_n (pc := 0) 0 rfl rfl dX6_refusalOfPlace_0 ?_
  refine s_aload_n (pc := 1) 1 rfl rfl dX6_refusalOfPlace_1 ?_
  refine s_iload_n (pc := 2) 2 rfl rfl dX6_refusalOfPlace_2 ?_
  refine s_cvi2 (pc := 3) (c_X6_refusalOfSheet_1O hm hk hz hz6) ml_X6_88 mw_X6_refusalOfSheet rfl (by decide) (Nat.le_of_ble_eq_true rfl) dX6_refusalOfPlace_3 ?_
  refine s_istore (pc := 6) (by decide) rfl dX6_refusalOfPlace_6 ?_
  refine s_iload (pc := 8) rfl dX6_refusalOfPlace_8 ?_
  refine s_if_eqN (pc := 10) (by omega) 16 dX6_refusalOfPlace_10 (by decide) (fun c_10 => ?_) (fun c_10 => ?_)
  · refine s_aload_n (pc := 16) 1 rfl rfl dX6_refusalOfPlace_16 ?_
    refine s_iload_n (pc := 17) 2 rfl rfl dX6_refusalOfPlace_17 ?_
    refine s_iload_n (pc := 18) 3 rfl rfl dX6_refusalOfPlace_18 ?_
    refine s_cvi2 (pc := 19) (c_X5_isPlace_1T hm hk hz hz6 hj) ml_X6_305 mw_X5_isPlace rfl (by decide) (Nat.le_of_ble_eq_true rfl) dX6_refusalOfPlace_19 ?_
    refine s_if_eqT (pc := 22) 29 dX6_refusalOfPlace_22 (by decide) ?_
    refine s_iconst (pc := 25) (k_i0N) dX6_refusalOfPlace_25 ?_
    refine s_goto (pc := 26) 34 dX6_refusalOfPlace_26 (by decide) ?_
    refine s_iret (pc := 34) dX6_refusalOfPlace_34 (PostE.of hp ?_ ?_)
    · rfl
    · rfl
  · exfalso; omega

set_option maxRecDepth 20000 in
theorem c_X6_laidOut_1B {s n v : Int32} {h : Hp} (hm : h.1 1 0 = nI 6) (hb : s < 0 ∨ nI 6 ≤ s) : CT 5 yX6_laidOut cX6_laidOut 5 (some .int) [.ref 0, .ref 1, .int s, .int n, .int v] h (some (.int (-1))) (h) := by
  refine CT.of (own := RX6) rfl (by decide) (ro_i _) [.ref 0, .ref 1, .int s, .int n, .int v] rfl (Nat.le_of_ble_eq_true rfl) (fun E hp => ?_)
  refine s_aload_n (pc := 0) 1 rfl rfl dX6_laidOut_0 ?_
  refine s_iload_n (pc := 1) 2 rfl rfl dX6_laidOut_1 ?_
  refine s_cvi1 (pc := 2) (c_X5_isNumber_1F hm hb) ml_X6_96 mw_X5_isNumber rfl (by decide) (Nat.le_of_ble_eq_true rfl) dX6_laidOut_2 ?_
  refine s_if_eqF (pc := 5) 16 dX6_laidOut_5 (by decide) ?_
  refine s_iconst (pc := 16) (k_im1) dX6_laidOut_16 ?_
  refine s_iret (pc := 17) dX6_laidOut_17 (PostE.of hp ?_ ?_)
  · rfl
  · rfl

set_option maxRecDepth 20000 in
theorem c_X6_laidOut_1G {k : Nat} {n v : Int32} {h : Hp} (hm : h.1 1 0 = nI 6) (hq : h.1 1 1 = nI 40) (hk : k < 6) (hn : nI 40 < n) : CT 5 yX6_laidOut cX6_laidOut 5 (some .int) [.ref 0, .ref 1, .int (nI k), .int n, .int v] h (some (.int (-1))) (h) := by
  refine CT.of (own := RX6) rfl (by decide) (ro_i _) [.ref 0, .ref 1, .int (nI k), .int n, .int v] rfl (Nat.le_of_ble_eq_true rfl) (fun E hp => ?_)
  refine s_aload_n (pc := 0) 1 rfl rfl dX6_laidOut_0 ?_
  refine s_iload_n (pc := 1) 2 rfl rfl dX6_laidOut_1 ?_
  refine s_cvi1 (pc := 2) (c_X5_isNumber_1T hm hk) ml_X6_96 mw_X5_isNumber rfl (by decide) (Nat.le_of_ble_eq_true rfl) dX6_laidOut_2 ?_
  refine s_if_eqT (pc := 5) 16 dX6_laidOut_5 (by decide) ?_
  refine s_iload_n (pc := 8) 3 rfl rfl dX6_laidOut_8 ?_
  refine s_aload_n (pc := 9) 1 rfl rfl dX6_laidOut_9 ?_
  refine s_getiE (pc := 10) fl_X6_308 rfl rfl hq dX6_laidOut_10 ?_
  refine s_icmp_le (pc := 13) 18 dX6_laidOut_13 (by decide) (fun c_13 => ?_) (fun c_13 => ?_)
  · exfalso; exact absurd c_13 (Int32.not_le.mpr hn)
  · refine s_iconst (pc := 16) (k_im1) dX6_laidOut_16 ?_
    refine s_iret (pc := 17) dX6_laidOut_17 (PostE.of hp ?_ ?_)
    · rfl
    · rfl

set_option maxRecDepth 20000 in
theorem c_X6_laidOut_1S {k : Nat} {n v : Int32} {h : Hp} (hm : h.1 1 0 = nI 6) (hq : h.1 1 1 = nI 40) (hk : k < 6) (hn : n < 0) : CT 5 yX6_laidOut cX6_laidOut 5 (some .int) [.ref 0, .ref 1, .int (nI k), .int n, .int v] h (some (.int (-3))) (finC h 5) := by
  refine CT.of (own := RX6) rfl (by decide) (ro_i _) [.ref 0, .ref 1, .int (nI k), .int n, .int v] rfl (Nat.le_of_ble_eq_true rfl) (fun E hp => ?_)
  refine s_aload_n (pc := 0) 1 rfl rfl dX6_laidOut_0 ?_
  refine s_iload_n (pc := 1) 2 rfl rfl dX6_laidOut_1 ?_
  refine s_cvi1 (pc := 2) (c_X5_isNumber_1T hm hk) ml_X6_96 mw_X5_isNumber rfl (by decide) (Nat.le_of_ble_eq_true rfl) dX6_laidOut_2 ?_
  refine s_if_eqT (pc := 5) 16 dX6_laidOut_5 (by decide) ?_
  refine s_iload_n (pc := 8) 3 rfl rfl dX6_laidOut_8 ?_
  refine s_aload_n (pc := 9) 1 rfl rfl dX6_laidOut_9 ?_
  refine s_getiE (pc := 10) fl_X6_308 rfl rfl hq dX6_laidOut_10 ?_
  refine s_icmp_le (pc := 13) 18 dX6_laidOut_13 (by decide) (fun c_13 => ?_) (fun c_13 => ?_)
  · refine s_iload_n (pc := 18) 3 rfl rfl dX6_laidOut_18 ?_
    refine s_if_ge (pc := 19) 28 dX6_laidOut_19 (by decide) (fun c_19 => ?_) (fun c_19 => ?_)
    · exfalso; exact absurd hn (Int32.not_lt.mpr c_19)
    · refine s_aload_n (pc := 22) 0 rfl rfl dX6_laidOut_22 ?_
      refine s_iconst (pc := 23) (k_i5N) dX6_laidOut_23 ?_
      refine s_cvi1 (pc := 24) (c_X6_refuse (by decide) (by decide)) ml_X6_100 mw_X6_refuse rfl (by decide) (Nat.le_of_ble_eq_true rfl) dX6_laidOut_24 ?_
      refine s_iret (pc := 27) dX6_laidOut_27 (PostE.of hp ?_ ?_)
      · rfl
      · rfl
  · exfalso; exact absurd (Int32.le_trans (Int32.le_of_lt hn) (nI_pos' (n := 40) (by decide))) c_13

set_option maxRecDepth 20000 in
theorem c_X6_laidOut_1O {k n : Nat} {v : Int32} {h : Hp} (hm : h.1 1 0 = nI 6) (hq : h.1 1 1 = nI 40) (hk : k < 6) (hn : n ≤ 40) : CT 5 yX6_laidOut cX6_laidOut 5 (some .int) [.ref 0, .ref 1, .int (nI k), .int (nI n), .int v] h (some (.int (nI n))) (fil (ui h 2 k (nI n)) (3 + 1 + k) 0 40 v) := by
  refine CT.of (own := RX6) rfl (by decide) (ro_i _) [.ref 0, .ref 1, .int (nI k), .int (nI n), .int v] rfl (Nat.le_of_ble_eq_true rfl) (fun E hp => ?_)
  refine s_aload_n (pc := 0) 1 rfl rfl dX6_laidOut_0 ?_
  refine s_iload_n (pc := 1) 2 rfl rfl dX6_laidOut_1 ?_
  refine s_cvi1 (pc := 2) (c_X5_isNumber_1T hm hk) ml_X6_96 mw_X5_isNumber rfl (by decide) (Nat.le_of_ble_eq_true rfl) dX6_laidOut_2 ?_
  refine s_if_eqT (pc := 5) 16 dX6_laidOut_5 (by decide) ?_
  refine s_iload_n (pc := 8) 3 rfl rfl dX6_laidOut_8 ?_
  refine s_aload_n (pc := 9) 1 rfl rfl dX6_laidOut_9 ?_
  refine s_getiE (pc := 10) fl_X6_308 rfl rfl hq dX6_laidOut_10 ?_
  refine s_icmp_leN (pc := 13) (by omega) (by omega) 18 dX6_laidOut_13 (by decide) (fun c_13 => ?_) (fun c_13 => ?_)
  · refine s_iload_n (pc := 18) 3 rfl rfl dX6_laidOut_18 ?_
    refine s_if_geN (pc := 19) (by omega) 28 dX6_laidOut_19 (by decide) ?_
    refine s_aload_n (pc := 28) 1 rfl rfl dX6_laidOut_28 ?_
    refine s_iload_n (pc := 29) 2 rfl rfl dX6_laidOut_29 ?_
    refine s_iload_n (pc := 30) 3 rfl rfl dX6_laidOut_30 ?_
    refine s_iload (pc := 31) rfl dX6_laidOut_31 ?_
    refine s_cvn3 (pc := 33) (c_X5_make_1 hm hq hk hn) ml_X6_187 mw_X5_make rfl (by decide) (Nat.le_of_ble_eq_true rfl) dX6_laidOut_33 ?_
    refine s_iload_n (pc := 36) 3 rfl rfl dX6_laidOut_36 ?_
    refine s_iret (pc := 37) dX6_laidOut_37 (PostE.of hp ?_ ?_)
    · rfl
    · rfl
  · exfalso; omega

set_option maxRecDepth 20000 in
theorem c_X6_refusalOfSheet_10B {s : Int32} {h : Hp} (hm : h.1 10 0 = nI 4) (hb : s < 0 ∨ nI 4 ≤ s) : CT 4 yX6_refusalOfSheet cX6_refusalOfSheet 3 (some .int) [.ref 0, .ref 10, .int s] h (some (.int (-1))) (h) := by
  refine CT.of (own := RX6) rfl (by decide) (ro_i _) [.ref 0, .ref 10, .int s] rfl (Nat.le_of_ble_eq_true rfl) (fun E hp => ?_)
  refine s_aload_n (pc := 0) 1 rfl rfl dX6_refusalOfSheet_0 ?_
  refine s_iload_n (pc := 1) 2 rfl rfl dX6_refusalOfSheet_1 ?_
  refine s_cvi1 (pc := 2) (c_X5_isNumber_10F hm hb) ml_X6_96 mw_X5_isNumber rfl (by decide) (Nat.le_of_ble_eq_true rfl) dX6_refusalOfSheet_2 ?_
  refine s_if_neF (pc := 5) 10 dX6_refusalOfSheet_5 (by decide) ?_
  refine s_iconst (pc := 8) (k_im1) dX6_refusalOfSheet_8 ?_
  refine s_iret (pc := 9) dX6_refusalOfSheet_9 (PostE.of hp ?_ ?_)
  · rfl
  · rfl

set_option maxRecDepth 20000 in
theorem c_X6_refusalOfSheet_10M {k : Nat} {h : Hp} (hm : h.1 10 0 = nI 4) (hk : k < 4) (hz : h.1 11 k = -1) : CT 4 yX6_refusalOfSheet cX6_refusalOfSheet 3 (some .int) [.ref 0, .ref 10, .int (nI k)] h (some (.int (-3))) (finC h 1) := by
  refine CT.of (own := RX6) rfl (by decide) (ro_i _) [.ref 0, .ref 10, .int (nI k)] rfl (Nat.le_of_ble_eq_true rfl) (fun E hp => ?_)
  refine s_aload_n (pc := 0) 1 rfl rfl dX6_refusalOfSheet_0 ?_
  refine s_iload_n (pc := 1) 2 rfl rfl dX6_refusalOfSheet_1 ?_
  refine s_cvi1 (pc := 2) (c_X5_isNumber_10T hm hk) ml_X6_96 mw_X5_isNumber rfl (by decide) (Nat.le_of_ble_eq_true rfl) dX6_refusalOfSheet_2 ?_
  refine s_if_neT (pc := 5) 10 dX6_refusalOfSheet_5 (by decide) ?_
  refine s_aload_n (pc := 10) 1 rfl rfl dX6_refusalOfSheet_10 ?_
  refine s_iload_n (pc := 11) 2 rfl rfl dX6_refusalOfSheet_11 ?_
  refine s_cvi1 (pc := 12) (c_X5_isThere_10F hm hk hz) ml_X6_104 mw_X5_isThere rfl (by decide) (Nat.le_of_ble_eq_true rfl) dX6_refusalOfSheet_12 ?_
  refine s_if_eqF (pc := 15) 22 dX6_refusalOfSheet_15 (by decide) ?_
  refine s_aload_n (pc := 22) 0 rfl rfl dX6_refusalOfSheet_22 ?_
  refine s_iconst (pc := 23) (k_i1N) dX6_refusalOfSheet_23 ?_
  refine s_cvi1 (pc := 24) (c_X6_refuse (by decide) (by decide)) ml_X6_100 mw_X6_refuse rfl (by decide) (Nat.le_of_ble_eq_true rfl) dX6_refusalOfSheet_24 ?_
  refine s_iret (pc := 27) dX6_refusalOfSheet_27 (PostE.of hp ?_ ?_)
  · rfl
  · rfl

set_option maxRecDepth 20000 in
theorem c_X6_refusalOfSheet_10O {k m : Nat} {h : Hp} (hm : h.1 10 0 = nI 4) (hk : k < 4) (hz : h.1 11 k = nI m) (hz6 : m ≤ 60) : CT 4 yX6_refusalOfSheet cX6_refusalOfSheet 3 (some .int) [.ref 0, .ref 10, .int (nI k)] h (some (.int (nI 0))) (h) := by
  refine CT.of (own := RX6) rfl (by decide) (ro_i _) [.ref 0, .ref 10, .int (nI k)] rfl (Nat.le_of_ble_eq_true rfl) (fun E hp => ?_)
  refine s_aload_n (pc := 0) 1 rfl rfl dX6_refusalOfSheet_0 ?_
  refine s_iload_n (pc := 1) 2 rfl rfl dX6_refusalOfSheet_1 ?_
  refine s_cvi1 (pc := 2) (c_X5_isNumber_10T hm hk) ml_X6_96 mw_X5_isNumber rfl (by decide) (Nat.le_of_ble_eq_true rfl) dX6_refusalOfSheet_2 ?_
  refine s_if_neT (pc := 5) 10 dX6_refusalOfSheet_5 (by decide) ?_
  refine s_aload_n (pc := 10) 1 rfl rfl dX6_refusalOfSheet_10 ?_
  refine s_iload_n (pc := 11) 2 rfl rfl dX6_refusalOfSheet_11 ?_
  refine s_cvi1 (pc := 12) (c_X5_isThere_10T hm hk hz (by omega)) ml_X6_104 mw_X5_isThere rfl (by decide) (Nat.le_of_ble_eq_true rfl) dX6_refusalOfSheet_12 ?_
  refine s_if_eqT (pc := 15) 22 dX6_refusalOfSheet_15 (by decide) ?_
  refine s_iconst (pc := 18) (k_i0N) dX6_refusalOfSheet_18 ?_
  refine s_goto (pc := 19) 27 dX6_refusalOfSheet_19 (by decide) ?_
  refine s_iret (pc := 27) dX6_refusalOfSheet_27 (PostE.of hp ?_ ?_)
  · rfl
  · rfl

set_option maxRecDepth 20000 in
theorem c_X6_refusalOfPlace_10B {s i : Int32} {h : Hp} (hm : h.1 10 0 = nI 4) (hb : s < 0 ∨ nI 4 ≤ s) : CT 5 yX6_refusalOfPlace cX6_refusalOfPlace 5 (some .int) [.ref 0, .ref 10, .int s, .int i] h (some (.int (-1))) (h) := by
  refine CT.of (own := RX6) rfl (by decide) (ro_i _) [.ref 0, .ref 10, .int s, .int i, .null] rfl (Nat.le_of_ble_eq_true rfl) (fun E hp => ?_)
  refine s_aload_n (pc := 0) 0 rfl rfl dX6_refusalOfPlace_0 ?_
  refine s_aload_n (pc := 1) 1 rfl rfl dX6_refusalOfPlace_1 ?_
  refine s_iload_n (pc := 2) 2 rfl rfl dX6_refusalOfPlace_2 ?_
  refine s_cvi2 (pc := 3) (c_X6_refusalOfSheet_10B hm hb) ml_X6_88 mw_X6_refusalOfSheet rfl (by decide) (Nat.le_of_ble_eq_true rfl) dX6_refusalOfPlace_3 ?_
  refine s_istore (pc := 6) (by decide) rfl dX6_refusalOfPlace_6 ?_
  refine s_iload (pc := 8) rfl dX6_refusalOfPlace_8 ?_
  refine s_if_eq (pc := 10) 16 dX6_refusalOfPlace_10 (by decide) (fun c_10 => ?_) (fun c_10 => ?_)
  · exfalso; exact absurd c_10 (by decide)
  · refine s_iload (pc := 13) rfl dX6_refusalOfPlace_13 ?_
    refine s_iret (pc := 15) dX6_refusalOfPlace_15 (PostE.of hp ?_ ?_)
    · rfl
    · rfl

set_option maxRecDepth 20000 in
theorem c_X6_refusalOfPlace_10M {k : Nat} {i : Int32} {h : Hp} (hm : h.1 10 0 = nI 4) (hk : k < 4) (hz : h.1 11 k = -1) : CT 5 yX6_refusalOfPlace cX6_refusalOfPlace 5 (some .int) [.ref 0, .ref 10, .int (nI k), .int i] h (some (.int (-3))) (finC h 1) := by
  refine CT.of (own := RX6) rfl (by decide) (ro_i _) [.ref 0, .ref 10, .int (nI k), .int i, .null] rfl (Nat.le_of_ble_eq_true rfl) (fun E hp => ?_)
  refine s_aload_n (pc := 0) 0 rfl rfl dX6_refusalOfPlace_0 ?_
  refine s_aload_n (pc := 1) 1 rfl rfl dX6_refusalOfPlace_1 ?_
  refine s_iload_n (pc := 2) 2 rfl rfl dX6_refusalOfPlace_2 ?_
  refine s_cvi2 (pc := 3) (c_X6_refusalOfSheet_10M hm hk hz) ml_X6_88 mw_X6_refusalOfSheet rfl (by decide) (Nat.le_of_ble_eq_true rfl) dX6_refusalOfPlace_3 ?_
  refine s_istore (pc := 6) (by decide) rfl dX6_refusalOfPlace_6 ?_
  refine s_iload (pc := 8) rfl dX6_refusalOfPlace_8 ?_
  refine s_if_eq (pc := 10) 16 dX6_refusalOfPlace_10 (by decide) (fun c_10 => ?_) (fun c_10 => ?_)
  · exfalso; exact absurd c_10 (by decide)
  · refine s_iload (pc := 13) rfl dX6_refusalOfPlace_13 ?_
    refine s_iret (pc := 15) dX6_refusalOfPlace_15 (PostE.of hp ?_ ?_)
    · rfl
    · rfl

set_option maxRecDepth 20000 in
theorem c_X6_refusalOfPlace_10Y {k m : Nat} {i : Int32} {h : Hp} (hm : h.1 10 0 = nI 4) (hk : k < 4) (hz : h.1 11 k = nI m) (hz6 : m ≤ 60) (hb : i < 0 ∨ nI m ≤ i) : CT 5 yX6_refusalOfPlace cX6_refusalOfPlace 5 (some .int) [.ref 0, .ref 10, .int (nI k), .int i] h (some (.int (-3))) (finC h 2) := by
  refine CT.of (own := RX6) rfl (by decide) (ro_i _) [.ref 0, .ref 10, .int (nI k), .int i, .null] rfl (Nat.le_of_ble_eq_true rfl) (fun E hp => ?_)
  refine s_aload_n (pc := 0) 0 rfl rfl dX6_refusalOfPlace_0 ?_
  refine s_aload_n (pc := 1) 1 rfl rfl dX6_refusalOfPlace_1 ?_
  refine s_iload_n (pc := 2) 2 rfl rfl dX6_refusalOfPlace_2 ?_
  refine s_cvi2 (pc := 3) (c_X6_refusalOfSheet_10O hm hk hz hz6) ml_X6_88 mw_X6_refusalOfSheet rfl (by decide) (Nat.le_of_ble_eq_true rfl) dX6_refusalOfPlace_3 ?_
  refine s_istore (pc := 6) (by decide) rfl dX6_refusalOfPlace_6 ?_
  refine s_iload (pc := 8) rfl dX6_refusalOfPlace_8 ?_
  refine s_if_eqN (pc := 10) (by omega) 16 dX6_refusalOfPlace_10 (by decide) (fun c_10 => ?_) (fun c_10 => ?_)
  · refine s_aload_n (pc := 16) 1 rfl rfl dX6_refusalOfPlace_16 ?_
    refine s_iload_n (pc := 17) 2 rfl rfl dX6_refusalOfPlace_17 ?_
    refine s_iload_n (pc := 18) 3 rfl rfl dX6_refusalOfPlace_18 ?_
    refine s_cvi2 (pc := 19) (c_X5_isPlace_10F hm hk hz hz6 hb) ml_X6_305 mw_X5_isPlace rfl (by decide) (Nat.le_of_ble_eq_true rfl) dX6_refusalOfPlace_19 ?_
    refine s_if_eqF (pc := 22) 29 dX6_refusalOfPlace_22 (by decide) ?_
    refine s_aload_n (pc := 29) 0 rfl rfl dX6_refusalOfPlace_29 ?_
    refine s_iconst (pc := 30) (k_i2N) dX6_refusalOfPlace_30 ?_
    refine s_cvi1 (pc := 31) (c_X6_refuse (by decide) (by decide)) ml_X6_100 mw_X6_refuse rfl (by decide) (Nat.le_of_ble_eq_true rfl) dX6_refusalOfPlace_31 ?_
    refine s_iret (pc := 34) dX6_refusalOfPlace_34 (PostE.of hp ?_ ?_)
    · rfl
    · rfl
  · exfalso; omega

set_option maxRecDepth 20000 in
theorem c_X6_refusalOfPlace_10O {k m j : Nat} {h : Hp} (hm : h.1 10 0 = nI 4) (hk : k < 4) (hz : h.1 11 k = nI m) (hz6 : m ≤ 60) (hj : j < m) : CT 5 yX6_refusalOfPlace cX6_refusalOfPlace 5 (some .int) [.ref 0, .ref 10, .int (nI k), .int (nI j)] h (some (.int (nI 0))) (h) := by
  refine CT.of (own := RX6) rfl (by decide) (ro_i _) [.ref 0, .ref 10, .int (nI k), .int (nI j), .null] rfl (Nat.le_of_ble_eq_true rfl) (fun E hp => ?_)
  refine s_aload_n (pc := 0) 0 rfl rfl dX6_refusalOfPlace_0 ?_
  refine s_aload_n (pc := 1) 1 rfl rfl dX6_refusalOfPlace_1 ?_
  refine s_iload_n (pc := 2) 2 rfl rfl dX6_refusalOfPlace_2 ?_
  refine s_cvi2 (pc := 3) (c_X6_refusalOfSheet_10O hm hk hz hz6) ml_X6_88 mw_X6_refusalOfSheet rfl (by decide) (Nat.le_of_ble_eq_true rfl) dX6_refusalOfPlace_3 ?_
  refine s_istore (pc := 6) (by decide) rfl dX6_refusalOfPlace_6 ?_
  refine s_iload (pc := 8) rfl dX6_refusalOfPlace_8 ?_
  refine s_if_eqN (pc := 10) (by omega) 16 dX6_refusalOfPlace_10 (by decide) (fun c_10 => ?_) (fun c_10 => ?_)
  · refine s_aload_n (pc := 16) 1 rfl rfl dX6_refusalOfPlace_16 ?_
    refine s_iload_n (pc := 17) 2 rfl rfl dX6_refusalOfPlace_17 ?_
    refine s_iload_n (pc := 18) 3 rfl rfl dX6_refusalOfPlace_18 ?_
    refine s_cvi2 (pc := 19) (c_X5_isPlace_10T hm hk hz hz6 hj) ml_X6_305 mw_X5_isPlace rfl (by decide) (Nat.le_of_ble_eq_true rfl) dX6_refusalOfPlace_19 ?_
    refine s_if_eqT (pc := 22) 29 dX6_refusalOfPlace_22 (by decide) ?_
    refine s_iconst (pc := 25) (k_i0N) dX6_refusalOfPlace_25 ?_
    refine s_goto (pc := 26) 34 dX6_refusalOfPlace_26 (by decide) ?_
    refine s_iret (pc := 34) dX6_refusalOfPlace_34 (PostE.of hp ?_ ?_)
    · rfl
    · rfl
  · exfalso; omega

set_option maxRecDepth 20000 in
theorem c_X6_laidOut_10B {s n v : Int32} {h : Hp} (hm : h.1 10 0 = nI 4) (hb : s < 0 ∨ nI 4 ≤ s) : CT 5 yX6_laidOut cX6_laidOut 5 (some .int) [.ref 0, .ref 10, .int s, .int n, .int v] h (some (.int (-1))) (h) := by
  refine CT.of (own := RX6) rfl (by decide) (ro_i _) [.ref 0, .ref 10, .int s, .int n, .int v] rfl (Nat.le_of_ble_eq_true rfl) (fun E hp => ?_)
  refine s_aload_n (pc := 0) 1 rfl rfl dX6_laidOut_0 ?_
  refine s_iload_n (pc := 1) 2 rfl rfl dX6_laidOut_1 ?_
  refine s_cvi1 (pc := 2) (c_X5_isNumber_10F hm hb) ml_X6_96 mw_X5_isNumber rfl (by decide) (Nat.le_of_ble_eq_true rfl) dX6_laidOut_2 ?_
  refine s_if_eqF (pc := 5) 16 dX6_laidOut_5 (by decide) ?_
  refine s_iconst (pc := 16) (k_im1) dX6_laidOut_16 ?_
  refine s_iret (pc := 17) dX6_laidOut_17 (PostE.of hp ?_ ?_)
  · rfl
  · rfl

set_option maxRecDepth 20000 in
theorem c_X6_laidOut_10G {k : Nat} {n v : Int32} {h : Hp} (hm : h.1 10 0 = nI 4) (hq : h.1 10 1 = nI 60) (hk : k < 4) (hn : nI 60 < n) : CT 5 yX6_laidOut cX6_laidOut 5 (some .int) [.ref 0, .ref 10, .int (nI k), .int n, .int v] h (some (.int (-1))) (h) := by
  refine CT.of (own := RX6) rfl (by decide) (ro_i _) [.ref 0, .ref 10, .int (nI k), .int n, .int v] rfl (Nat.le_of_ble_eq_true rfl) (fun E hp => ?_)
  refine s_aload_n (pc := 0) 1 rfl rfl dX6_laidOut_0 ?_
  refine s_iload_n (pc := 1) 2 rfl rfl dX6_laidOut_1 ?_
  refine s_cvi1 (pc := 2) (c_X5_isNumber_10T hm hk) ml_X6_96 mw_X5_isNumber rfl (by decide) (Nat.le_of_ble_eq_true rfl) dX6_laidOut_2 ?_
  refine s_if_eqT (pc := 5) 16 dX6_laidOut_5 (by decide) ?_
  refine s_iload_n (pc := 8) 3 rfl rfl dX6_laidOut_8 ?_
  refine s_aload_n (pc := 9) 1 rfl rfl dX6_laidOut_9 ?_
  refine s_getiE (pc := 10) fl_X6_308 rfl rfl hq dX6_laidOut_10 ?_
  refine s_icmp_le (pc := 13) 18 dX6_laidOut_13 (by decide) (fun c_13 => ?_) (fun c_13 => ?_)
  · exfalso; exact absurd c_13 (Int32.not_le.mpr hn)
  · refine s_iconst (pc := 16) (k_im1) dX6_laidOut_16 ?_
    refine s_iret (pc := 17) dX6_laidOut_17 (PostE.of hp ?_ ?_)
    · rfl
    · rfl

set_option maxRecDepth 20000 in
theorem c_X6_laidOut_10S {k : Nat} {n v : Int32} {h : Hp} (hm : h.1 10 0 = nI 4) (hq : h.1 10 1 = nI 60) (hk : k < 4) (hn : n < 0) : CT 5 yX6_laidOut cX6_laidOut 5 (some .int) [.ref 0, .ref 10, .int (nI k), .int n, .int v] h (some (.int (-3))) (finC h 5) := by
  refine CT.of (own := RX6) rfl (by decide) (ro_i _) [.ref 0, .ref 10, .int (nI k), .int n, .int v] rfl (Nat.le_of_ble_eq_true rfl) (fun E hp => ?_)
  refine s_aload_n (pc := 0) 1 rfl rfl dX6_laidOut_0 ?_
  refine s_iload_n (pc := 1) 2 rfl rfl dX6_laidOut_1 ?_
  refine s_cvi1 (pc := 2) (c_X5_isNumber_10T hm hk) ml_X6_96 mw_X5_isNumber rfl (by decide) (Nat.le_of_ble_eq_true rfl) dX6_laidOut_2 ?_
  refine s_if_eqT (pc := 5) 16 dX6_laidOut_5 (by decide) ?_
  refine s_iload_n (pc := 8) 3 rfl rfl dX6_laidOut_8 ?_
  refine s_aload_n (pc := 9) 1 rfl rfl dX6_laidOut_9 ?_
  refine s_getiE (pc := 10) fl_X6_308 rfl rfl hq dX6_laidOut_10 ?_
  refine s_icmp_le (pc := 13) 18 dX6_laidOut_13 (by decide) (fun c_13 => ?_) (fun c_13 => ?_)
  · refine s_iload_n (pc := 18) 3 rfl rfl dX6_laidOut_18 ?_
    refine s_if_ge (pc := 19) 28 dX6_laidOut_19 (by decide) (fun c_19 => ?_) (fun c_19 => ?_)
    · exfalso; exact absurd hn (Int32.not_lt.mpr c_19)
    · refine s_aload_n (pc := 22) 0 rfl rfl dX6_laidOut_22 ?_
      refine s_iconst (pc := 23) (k_i5N) dX6_laidOut_23 ?_
      refine s_cvi1 (pc := 24) (c_X6_refuse (by decide) (by decide)) ml_X6_100 mw_X6_refuse rfl (by decide) (Nat.le_of_ble_eq_true rfl) dX6_laidOut_24 ?_
      refine s_iret (pc := 27) dX6_laidOut_27 (PostE.of hp ?_ ?_)
      · rfl
      · rfl
  · exfalso; exact absurd (Int32.le_trans (Int32.le_of_lt hn) (nI_pos' (n := 60) (by decide))) c_13

set_option maxRecDepth 20000 in
theorem c_X6_laidOut_10O {k n : Nat} {v : Int32} {h : Hp} (hm : h.1 10 0 = nI 4) (hq : h.1 10 1 = nI 60) (hk : k < 4) (hn : n ≤ 60) : CT 5 yX6_laidOut cX6_laidOut 5 (some .int) [.ref 0, .ref 10, .int (nI k), .int (nI n), .int v] h (some (.int (nI n))) (fil (ui h 11 k (nI n)) (12 + 1 + k) 0 60 v) := by
  refine CT.of (own := RX6) rfl (by decide) (ro_i _) [.ref 0, .ref 10, .int (nI k), .int (nI n), .int v] rfl (Nat.le_of_ble_eq_true rfl) (fun E hp => ?_)
  refine s_aload_n (pc := 0) 1 rfl rfl dX6_laidOut_0 ?_
  refine s_iload_n (pc := 1) 2 rfl rfl dX6_laidOut_1 ?_
  refine s_cvi1 (pc := 2) (c_X5_isNumber_10T hm hk) ml_X6_96 mw_X5_isNumber rfl (by decide) (Nat.le_of_ble_eq_true rfl) dX6_laidOut_2 ?_
  refine s_if_eqT (pc := 5) 16 dX6_laidOut_5 (by decide) ?_
  refine s_iload_n (pc := 8) 3 rfl rfl dX6_laidOut_8 ?_
  refine s_aload_n (pc := 9) 1 rfl rfl dX6_laidOut_9 ?_
  refine s_getiE (pc := 10) fl_X6_308 rfl rfl hq dX6_laidOut_10 ?_
  refine s_icmp_leN (pc := 13) (by omega) (by omega) 18 dX6_laidOut_13 (by decide) (fun c_13 => ?_) (fun c_13 => ?_)
  · refine s_iload_n (pc := 18) 3 rfl rfl dX6_laidOut_18 ?_
    refine s_if_geN (pc := 19) (by omega) 28 dX6_laidOut_19 (by decide) ?_
    refine s_aload_n (pc := 28) 1 rfl rfl dX6_laidOut_28 ?_
    refine s_iload_n (pc := 29) 2 rfl rfl dX6_laidOut_29 ?_
    refine s_iload_n (pc := 30) 3 rfl rfl dX6_laidOut_30 ?_
    refine s_iload (pc := 31) rfl dX6_laidOut_31 ?_
    refine s_cvn3 (pc := 33) (c_X5_make_10 hm hq hk hn) ml_X6_187 mw_X5_make rfl (by decide) (Nat.le_of_ble_eq_true rfl) dX6_laidOut_33 ?_
    refine s_iload_n (pc := 36) 3 rfl rfl dX6_laidOut_36 ?_
    refine s_iret (pc := 37) dX6_laidOut_37 (PostE.of hp ?_ ?_)
    · rfl
    · rfl
  · exfalso; omega

set_option maxRecDepth 20000 in
theorem c_X6_refusalOfSheet_17B {s : Int32} {h : Hp} (hm : h.1 17 0 = nI 3) (hb : s < 0 ∨ nI 3 ≤ s) : CT 4 yX6_refusalOfSheet cX6_refusalOfSheet 3 (some .int) [.ref 0, .ref 17, .int s] h (some (.int (-1))) (h) := by
  refine CT.of (own := RX6) rfl (by decide) (ro_i _) [.ref 0, .ref 17, .int s] rfl (Nat.le_of_ble_eq_true rfl) (fun E hp => ?_)
  refine s_aload_n (pc := 0) 1 rfl rfl dX6_refusalOfSheet_0 ?_
  refine s_iload_n (pc := 1) 2 rfl rfl dX6_refusalOfSheet_1 ?_
  refine s_cvi1 (pc := 2) (c_X5_isNumber_17F hm hb) ml_X6_96 mw_X5_isNumber rfl (by decide) (Nat.le_of_ble_eq_true rfl) dX6_refusalOfSheet_2 ?_
  refine s_if_neF (pc := 5) 10 dX6_refusalOfSheet_5 (by decide) ?_
  refine s_iconst (pc := 8) (k_im1) dX6_refusalOfSheet_8 ?_
  refine s_iret (pc := 9) dX6_refusalOfSheet_9 (PostE.of hp ?_ ?_)
  · rfl
  · rfl

set_option maxRecDepth 20000 in
theorem c_X6_refusalOfSheet_17M {k : Nat} {h : Hp} (hm : h.1 17 0 = nI 3) (hk : k < 3) (hz : h.1 18 k = -1) : CT 4 yX6_refusalOfSheet cX6_refusalOfSheet 3 (some .int) [.ref 0, .ref 17, .int (nI k)] h (some (.int (-3))) (finC h 1) := by
  refine CT.of (own := RX6) rfl (by decide) (ro_i _) [.ref 0, .ref 17, .int (nI k)] rfl (Nat.le_of_ble_eq_true rfl) (fun E hp => ?_)
  refine s_aload_n (pc := 0) 1 rfl rfl dX6_refusalOfSheet_0 ?_
  refine s_iload_n (pc := 1) 2 rfl rfl dX6_refusalOfSheet_1 ?_
  refine s_cvi1 (pc := 2) (c_X5_isNumber_17T hm hk) ml_X6_96 mw_X5_isNumber rfl (by decide) (Nat.le_of_ble_eq_true rfl) dX6_refusalOfSheet_2 ?_
  refine s_if_neT (pc := 5) 10 dX6_refusalOfSheet_5 (by decide) ?_
  refine s_aload_n (pc := 10) 1 rfl rfl dX6_refusalOfSheet_10 ?_
  refine s_iload_n (pc := 11) 2 rfl rfl dX6_refusalOfSheet_11 ?_
  refine s_cvi1 (pc := 12) (c_X5_isThere_17F hm hk hz) ml_X6_104 mw_X5_isThere rfl (by decide) (Nat.le_of_ble_eq_true rfl) dX6_refusalOfSheet_12 ?_
  refine s_if_eqF (pc := 15) 22 dX6_refusalOfSheet_15 (by decide) ?_
  refine s_aload_n (pc := 22) 0 rfl rfl dX6_refusalOfSheet_22 ?_
  refine s_iconst (pc := 23) (k_i1N) dX6_refusalOfSheet_23 ?_
  refine s_cvi1 (pc := 24) (c_X6_refuse (by decide) (by decide)) ml_X6_100 mw_X6_refuse rfl (by decide) (Nat.le_of_ble_eq_true rfl) dX6_refusalOfSheet_24 ?_
  refine s_iret (pc := 27) dX6_refusalOfSheet_27 (PostE.of hp ?_ ?_)
  · rfl
  · rfl

set_option maxRecDepth 20000 in
theorem c_X6_refusalOfSheet_17O {k m : Nat} {h : Hp} (hm : h.1 17 0 = nI 3) (hk : k < 3) (hz : h.1 18 k = nI m) (hz6 : m ≤ 40) : CT 4 yX6_refusalOfSheet cX6_refusalOfSheet 3 (some .int) [.ref 0, .ref 17, .int (nI k)] h (some (.int (nI 0))) (h) := by
  refine CT.of (own := RX6) rfl (by decide) (ro_i _) [.ref 0, .ref 17, .int (nI k)] rfl (Nat.le_of_ble_eq_true rfl) (fun E hp => ?_)
  refine s_aload_n (pc := 0) 1 rfl rfl dX6_refusalOfSheet_0 ?_
  refine s_iload_n (pc := 1) 2 rfl rfl dX6_refusalOfSheet_1 ?_
  refine s_cvi1 (pc := 2) (c_X5_isNumber_17T hm hk) ml_X6_96 mw_X5_isNumber rfl (by decide) (Nat.le_of_ble_eq_true rfl) dX6_refusalOfSheet_2 ?_
  refine s_if_neT (pc := 5) 10 dX6_refusalOfSheet_5 (by decide) ?_
  refine s_aload_n (pc := 10) 1 rfl rfl dX6_refusalOfSheet_10 ?_
  refine s_iload_n (pc := 11) 2 rfl rfl dX6_refusalOfSheet_11 ?_
  refine s_cvi1 (pc := 12) (c_X5_isThere_17T hm hk hz (by omega)) ml_X6_104 mw_X5_isThere rfl (by decide) (Nat.le_of_ble_eq_true rfl) dX6_refusalOfSheet_12 ?_
  refine s_if_eqT (pc := 15) 22 dX6_refusalOfSheet_15 (by decide) ?_
  refine s_iconst (pc := 18) (k_i0N) dX6_refusalOfSheet_18 ?_
  refine s_goto (pc := 19) 27 dX6_refusalOfSheet_19 (by decide) ?_
  refine s_iret (pc := 27) dX6_refusalOfSheet_27 (PostE.of hp ?_ ?_)
  · rfl
  · rfl

set_option maxRecDepth 20000 in
theorem c_X6_rowB {s n : Int32} {h : Hp} (hm : h.1 1 0 = nI 6) (hb : s < 0 ∨ nI 6 ≤ s) : CT 6 yX6_row cX6_row 3 (some .int) [.ref 0, .int s, .int n] h (some (.int (-1))) (h) := by
  refine CT.of (own := RX6) rfl (by decide) (ro_i _) [.ref 0, .int s, .int n] rfl (Nat.le_of_ble_eq_true rfl) (fun E hp => ?_)
  refine s_aload_n (pc := 0) 0 rfl rfl dX6_row_0 ?_
  refine s_aload_n (pc := 1) 0 rfl rfl dX6_row_1 ?_
  refine s_getr (pc := 2) (b := 1) fl_X6_14 rfl rfl rfl dX6_row_2 ?_
  refine s_iload_n (pc := 5) 1 rfl rfl dX6_row_5 ?_
  refine s_iload_n (pc := 6) 2 rfl rfl dX6_row_6 ?_
  refine s_iconst (pc := 7) (k_i0N) dX6_row_7 ?_
  refine s_cvi4 (pc := 8) (c_X6_laidOut_1B hm hb) ml_X6_72 mw_X6_laidOut rfl (by decide) (Nat.le_of_ble_eq_true rfl) dX6_row_8 ?_
  refine s_iret (pc := 11) dX6_row_11 (PostE.of hp ?_ ?_)
  · rfl
  · rfl

set_option maxRecDepth 20000 in
theorem c_X6_rowG {k : Nat} {n : Int32} {h : Hp} (hm : h.1 1 0 = nI 6) (hq : h.1 1 1 = nI 40) (hk : k < 6) (hn : nI 40 < n) : CT 6 yX6_row cX6_row 3 (some .int) [.ref 0, .int (nI k), .int n] h (some (.int (-1))) (h) := by
  refine CT.of (own := RX6) rfl (by decide) (ro_i _) [.ref 0, .int (nI k), .int n] rfl (Nat.le_of_ble_eq_true rfl) (fun E hp => ?_)
  refine s_aload_n (pc := 0) 0 rfl rfl dX6_row_0 ?_
  refine s_aload_n (pc := 1) 0 rfl rfl dX6_row_1 ?_
  refine s_getr (pc := 2) (b := 1) fl_X6_14 rfl rfl rfl dX6_row_2 ?_
  refine s_iload_n (pc := 5) 1 rfl rfl dX6_row_5 ?_
  refine s_iload_n (pc := 6) 2 rfl rfl dX6_row_6 ?_
  refine s_iconst (pc := 7) (k_i0N) dX6_row_7 ?_
  refine s_cvi4 (pc := 8) (c_X6_laidOut_1G hm hq hk hn) ml_X6_72 mw_X6_laidOut rfl (by decide) (Nat.le_of_ble_eq_true rfl) dX6_row_8 ?_
  refine s_iret (pc := 11) dX6_row_11 (PostE.of hp ?_ ?_)
  · rfl
  · rfl

set_option maxRecDepth 20000 in
theorem c_X6_rowS {k : Nat} {n : Int32} {h : Hp} (hm : h.1 1 0 = nI 6) (hq : h.1 1 1 = nI 40) (hk : k < 6) (hn : n < 0) : CT 6 yX6_row cX6_row 3 (some .int) [.ref 0, .int (nI k), .int n] h (some (.int (-3))) (finC h 5) := by
  refine CT.of (own := RX6) rfl (by decide) (ro_i _) [.ref 0, .int (nI k), .int n] rfl (Nat.le_of_ble_eq_true rfl) (fun E hp => ?_)
  refine s_aload_n (pc := 0) 0 rfl rfl dX6_row_0 ?_
  refine s_aload_n (pc := 1) 0 rfl rfl dX6_row_1 ?_
  refine s_getr (pc := 2) (b := 1) fl_X6_14 rfl rfl rfl dX6_row_2 ?_
  refine s_iload_n (pc := 5) 1 rfl rfl dX6_row_5 ?_
  refine s_iload_n (pc := 6) 2 rfl rfl dX6_row_6 ?_
  refine s_iconst (pc := 7) (k_i0N) dX6_row_7 ?_
  refine s_cvi4 (pc := 8) (c_X6_laidOut_1S hm hq hk hn) ml_X6_72 mw_X6_laidOut rfl (by decide) (Nat.le_of_ble_eq_true rfl) dX6_row_8 ?_
  refine s_iret (pc := 11) dX6_row_11 (PostE.of hp ?_ ?_)
  · rfl
  · rfl

set_option maxRecDepth 20000 in
theorem c_X6_rowO {k n : Nat} {h : Hp} (hm : h.1 1 0 = nI 6) (hq : h.1 1 1 = nI 40) (hk : k < 6) (hn : n ≤ 40) : CT 6 yX6_row cX6_row 3 (some .int) [.ref 0, .int (nI k), .int (nI n)] h (some (.int (nI n))) (fil (ui h 2 k (nI n)) (3 + 1 + k) 0 40 (nI 0)) := by
  refine CT.of (own := RX6) rfl (by decide) (ro_i _) [.ref 0, .int (nI k), .int (nI n)] rfl (Nat.le_of_ble_eq_true rfl) (fun E hp => ?_)
  refine s_aload_n (pc := 0) 0 rfl rfl dX6_row_0 ?_
  refine s_aload_n (pc := 1) 0 rfl rfl dX6_row_1 ?_
  refine s_getr (pc := 2) (b := 1) fl_X6_14 rfl rfl rfl dX6_row_2 ?_
  refine s_iload_n (pc := 5) 1 rfl rfl dX6_row_5 ?_
  refine s_iload_n (pc := 6) 2 rfl rfl dX6_row_6 ?_
  refine s_iconst (pc := 7) (k_i0N) dX6_row_7 ?_
  refine s_cvi4 (pc := 8) (c_X6_laidOut_1O hm hq hk hn) ml_X6_72 mw_X6_laidOut rfl (by decide) (Nat.le_of_ble_eq_true rfl) dX6_row_8 ?_
  refine s_iret (pc := 11) dX6_row_11 (PostE.of hp ?_ ?_)
  · rfl
  · rfl

set_option maxRecDepth 20000 in
theorem c_X6_textB {s n : Int32} {h : Hp} (hm : h.1 10 0 = nI 4) (hb : s < 0 ∨ nI 4 ≤ s) : CT 6 yX6_text cX6_text 3 (some .int) [.ref 0, .int s, .int n] h (some (.int (-1))) (h) := by
  refine CT.of (own := RX6) rfl (by decide) (ro_i _) [.ref 0, .int s, .int n] rfl (Nat.le_of_ble_eq_true rfl) (fun E hp => ?_)
  refine s_aload_n (pc := 0) 0 rfl rfl dX6_text_0 ?_
  refine s_aload_n (pc := 1) 0 rfl rfl dX6_text_1 ?_
  refine s_getr (pc := 2) (b := 10) fl_X6_18 rfl rfl rfl dX6_text_2 ?_
  refine s_iload_n (pc := 5) 1 rfl rfl dX6_text_5 ?_
  refine s_iload_n (pc := 6) 2 rfl rfl dX6_text_6 ?_
  refine s_bipush (pc := 7) (k_b32N) dX6_text_7 ?_
  refine s_cvi4 (pc := 9) (c_X6_laidOut_10B hm hb) ml_X6_72 mw_X6_laidOut rfl (by decide) (Nat.le_of_ble_eq_true rfl) dX6_text_9 ?_
  refine s_iret (pc := 12) dX6_text_12 (PostE.of hp ?_ ?_)
  · rfl
  · rfl

set_option maxRecDepth 20000 in
theorem c_X6_textG {k : Nat} {n : Int32} {h : Hp} (hm : h.1 10 0 = nI 4) (hq : h.1 10 1 = nI 60) (hk : k < 4) (hn : nI 60 < n) : CT 6 yX6_text cX6_text 3 (some .int) [.ref 0, .int (nI k), .int n] h (some (.int (-1))) (h) := by
  refine CT.of (own := RX6) rfl (by decide) (ro_i _) [.ref 0, .int (nI k), .int n] rfl (Nat.le_of_ble_eq_true rfl) (fun E hp => ?_)
  refine s_aload_n (pc := 0) 0 rfl rfl dX6_text_0 ?_
  refine s_aload_n (pc := 1) 0 rfl rfl dX6_text_1 ?_
  refine s_getr (pc := 2) (b := 10) fl_X6_18 rfl rfl rfl dX6_text_2 ?_
  refine s_iload_n (pc := 5) 1 rfl rfl dX6_text_5 ?_
  refine s_iload_n (pc := 6) 2 rfl rfl dX6_text_6 ?_
  refine s_bipush (pc := 7) (k_b32N) dX6_text_7 ?_
  refine s_cvi4 (pc := 9) (c_X6_laidOut_10G hm hq hk hn) ml_X6_72 mw_X6_laidOut rfl (by decide) (Nat.le_of_ble_eq_true rfl) dX6_text_9 ?_
  refine s_iret (pc := 12) dX6_text_12 (PostE.of hp ?_ ?_)
  · rfl
  · rfl

set_option maxRecDepth 20000 in
theorem c_X6_textS {k : Nat} {n : Int32} {h : Hp} (hm : h.1 10 0 = nI 4) (hq : h.1 10 1 = nI 60) (hk : k < 4) (hn : n < 0) : CT 6 yX6_text cX6_text 3 (some .int) [.ref 0, .int (nI k), .int n] h (some (.int (-3))) (finC h 5) := by
  refine CT.of (own := RX6) rfl (by decide) (ro_i _) [.ref 0, .int (nI k), .int n] rfl (Nat.le_of_ble_eq_true rfl) (fun E hp => ?_)
  refine s_aload_n (pc := 0) 0 rfl rfl dX6_text_0 ?_
  refine s_aload_n (pc := 1) 0 rfl rfl dX6_text_1 ?_
  refine s_getr (pc := 2) (b := 10) fl_X6_18 rfl rfl rfl dX6_text_2 ?_
  refine s_iload_n (pc := 5) 1 rfl rfl dX6_text_5 ?_
  refine s_iload_n (pc := 6) 2 rfl rfl dX6_text_6 ?_
  refine s_bipush (pc := 7) (k_b32N) dX6_text_7 ?_
  refine s_cvi4 (pc := 9) (c_X6_laidOut_10S hm hq hk hn) ml_X6_72 mw_X6_laidOut rfl (by decide) (Nat.le_of_ble_eq_true rfl) dX6_text_9 ?_
  refine s_iret (pc := 12) dX6_text_12 (PostE.of hp ?_ ?_)
  · rfl
  · rfl

set_option maxRecDepth 20000 in
theorem c_X6_textO {k n : Nat} {h : Hp} (hm : h.1 10 0 = nI 4) (hq : h.1 10 1 = nI 60) (hk : k < 4) (hn : n ≤ 60) : CT 6 yX6_text cX6_text 3 (some .int) [.ref 0, .int (nI k), .int (nI n)] h (some (.int (nI n))) (fil (ui h 11 k (nI n)) (12 + 1 + k) 0 60 (nI 32)) := by
  refine CT.of (own := RX6) rfl (by decide) (ro_i _) [.ref 0, .int (nI k), .int (nI n)] rfl (Nat.le_of_ble_eq_true rfl) (fun E hp => ?_)
  refine s_aload_n (pc := 0) 0 rfl rfl dX6_text_0 ?_
  refine s_aload_n (pc := 1) 0 rfl rfl dX6_text_1 ?_
  refine s_getr (pc := 2) (b := 10) fl_X6_18 rfl rfl rfl dX6_text_2 ?_
  refine s_iload_n (pc := 5) 1 rfl rfl dX6_text_5 ?_
  refine s_iload_n (pc := 6) 2 rfl rfl dX6_text_6 ?_
  refine s_bipush (pc := 7) (k_b32N) dX6_text_7 ?_
  refine s_cvi4 (pc := 9) (c_X6_laidOut_10O hm hq hk hn) ml_X6_72 mw_X6_laidOut rfl (by decide) (Nat.le_of_ble_eq_true rfl) dX6_text_9 ?_
  refine s_iret (pc := 12) dX6_text_12 (PostE.of hp ?_ ?_)
  · rfl
  · rfl

set_option maxRecDepth 20000 in
theorem c_X6_atB {s i : Int32} {h : Hp} (hm : h.1 1 0 = nI 6) (hb : s < 0 ∨ nI 6 ≤ s) : CT 6 yX6_at cX6_at 4 (some .int) [.ref 0, .int s, .int i] h (some (.int (-1))) (h) := by
  refine CT.of (own := RX6) rfl (by decide) (ro_i _) [.ref 0, .int s, .int i, .null] rfl (Nat.le_of_ble_eq_true rfl) (fun E hp => ?_)
  refine s_aload_n (pc := 0) 0 rfl rfl dX6_at_0 ?_
  refine s_aload_n (pc := 1) 0 rfl rfl dX6_at_1 ?_
  refine s_getr (pc := 2) (b := 1) fl_X6_14 rfl rfl rfl dX6_at_2 ?_
  refine s_iload_n (pc := 5) 1 rfl rfl dX6_at_5 ?_
  refine s_iload_n (pc := 6) 2 rfl rfl dX6_at_6 ?_
  refine s_cvi3 (pc := 7) (c_X6_refusalOfPlace_1B hm hb) ml_X6_76 mw_X6_refusalOfPlace rfl (by decide) (Nat.le_of_ble_eq_true rfl) dX6_at_7 ?_
  refine s_istore_n (pc := 10) 3 rfl (by decide) rfl dX6_at_10 ?_
  refine s_iload_n (pc := 11) 3 rfl rfl dX6_at_11 ?_
  refine s_if_eq (pc := 12) 17 dX6_at_12 (by decide) (fun c_12 => ?_) (fun c_12 => ?_)
  · exfalso; exact absurd c_12 (by decide)
  · refine s_iload_n (pc := 15) 3 rfl rfl dX6_at_15 ?_
    refine s_iret (pc := 16) dX6_at_16 (PostE.of hp ?_ ?_)
    · rfl
    · rfl

set_option maxRecDepth 20000 in
theorem c_X6_atM {k : Nat} {i : Int32} {h : Hp} (hm : h.1 1 0 = nI 6) (hk : k < 6) (hz : h.1 2 k = -1) : CT 6 yX6_at cX6_at 4 (some .int) [.ref 0, .int (nI k), .int i] h (some (.int (-3))) (finC h 1) := by
  refine CT.of (own := RX6) rfl (by decide) (ro_i _) [.ref 0, .int (nI k), .int i, .null] rfl (Nat.le_of_ble_eq_true rfl) (fun E hp => ?_)
  refine s_aload_n (pc := 0) 0 rfl rfl dX6_at_0 ?_
  refine s_aload_n (pc := 1) 0 rfl rfl dX6_at_1 ?_
  refine s_getr (pc := 2) (b := 1) fl_X6_14 rfl rfl rfl dX6_at_2 ?_
  refine s_iload_n (pc := 5) 1 rfl rfl dX6_at_5 ?_
  refine s_iload_n (pc := 6) 2 rfl rfl dX6_at_6 ?_
  refine s_cvi3 (pc := 7) (c_X6_refusalOfPlace_1M hm hk hz) ml_X6_76 mw_X6_refusalOfPlace rfl (by decide) (Nat.le_of_ble_eq_true rfl) dX6_at_7 ?_
  refine s_istore_n (pc := 10) 3 rfl (by decide) rfl dX6_at_10 ?_
  refine s_iload_n (pc := 11) 3 rfl rfl dX6_at_11 ?_
  refine s_if_eq (pc := 12) 17 dX6_at_12 (by decide) (fun c_12 => ?_) (fun c_12 => ?_)
  · exfalso; exact absurd c_12 (by decide)
  · refine s_iload_n (pc := 15) 3 rfl rfl dX6_at_15 ?_
    refine s_iret (pc := 16) dX6_at_16 (PostE.of hp ?_ ?_)
    · rfl
    · rfl

set_option maxRecDepth 20000 in
theorem c_X6_atY {k m : Nat} {i : Int32} {h : Hp} (hm : h.1 1 0 = nI 6) (hk : k < 6) (hz : h.1 2 k = nI m) (hz6 : m ≤ 40) (hb : i < 0 ∨ nI m ≤ i) : CT 6 yX6_at cX6_at 4 (some .int) [.ref 0, .int (nI k), .int i] h (some (.int (-3))) (finC h 2) := by
  refine CT.of (own := RX6) rfl (by decide) (ro_i _) [.ref 0, .int (nI k), .int i, .null] rfl (Nat.le_of_ble_eq_true rfl) (fun E hp => ?_)
  refine s_aload_n (pc := 0) 0 rfl rfl dX6_at_0 ?_
  refine s_aload_n (pc := 1) 0 rfl rfl dX6_at_1 ?_
  refine s_getr (pc := 2) (b := 1) fl_X6_14 rfl rfl rfl dX6_at_2 ?_
  refine s_iload_n (pc := 5) 1 rfl rfl dX6_at_5 ?_
  refine s_iload_n (pc := 6) 2 rfl rfl dX6_at_6 ?_
  refine s_cvi3 (pc := 7) (c_X6_refusalOfPlace_1Y hm hk hz hz6 hb) ml_X6_76 mw_X6_refusalOfPlace rfl (by decide) (Nat.le_of_ble_eq_true rfl) dX6_at_7 ?_
  refine s_istore_n (pc := 10) 3 rfl (by decide) rfl dX6_at_10 ?_
  refine s_iload_n (pc := 11) 3 rfl rfl dX6_at_11 ?_
  refine s_if_eq (pc := 12) 17 dX6_at_12 (by decide) (fun c_12 => ?_) (fun c_12 => ?_)
  · exfalso; exact absurd c_12 (by decide)
  · refine s_iload_n (pc := 15) 3 rfl rfl dX6_at_15 ?_
    refine s_iret (pc := 16) dX6_at_16 (PostE.of hp ?_ ?_)
    · rfl
    · rfl

set_option maxRecDepth 20000 in
theorem c_X6_atO {k m j : Nat} {h : Hp} (hm : h.1 1 0 = nI 6) (hk : k < 6) (hz : h.1 2 k = nI m) (hz6 : m ≤ 40) (hj : j < m) : CT 6 yX6_at cX6_at 4 (some .int) [.ref 0, .int (nI k), .int (nI j)] h (some (.int (nI 1))) (ui h 0 10 (h.1 (3 + 1 + k) j)) := by
  refine CT.of (own := RX6) rfl (by decide) (ro_i _) [.ref 0, .int (nI k), .int (nI j), .null] rfl (Nat.le_of_ble_eq_true rfl) (fun E hp => ?_)
  refine s_aload_n (pc := 0) 0 rfl rfl dX6_at_0 ?_
  refine s_aload_n (pc := 1) 0 rfl rfl dX6_at_1 ?_
  refine s_getr (pc := 2) (b := 1) fl_X6_14 rfl rfl rfl dX6_at_2 ?_
  refine s_iload_n (pc := 5) 1 rfl rfl dX6_at_5 ?_
  refine s_iload_n (pc := 6) 2 rfl rfl dX6_at_6 ?_
  refine s_cvi3 (pc := 7) (c_X6_refusalOfPlace_1O hm hk hz hz6 hj) ml_X6_76 mw_X6_refusalOfPlace rfl (by decide) (Nat.le_of_ble_eq_true rfl) dX6_at_7 ?_
  refine s_istore_n (pc := 10) 3 rfl (by decide) rfl dX6_at_10 ?_
  refine s_iload_n (pc := 11) 3 rfl rfl dX6_at_11 ?_
  refine s_if_eqN (pc := 12) (by omega) 17 dX6_at_12 (by decide) (fun c_12 => ?_) (fun c_12 => ?_)
  · refine s_aload_n (pc := 17) 0 rfl rfl dX6_at_17 ?_
    refine s_aload_n (pc := 18) 0 rfl rfl dX6_at_18 ?_
    refine s_getr (pc := 19) (b := 1) fl_X6_14 rfl rfl rfl dX6_at_19 ?_
    refine s_iload_n (pc := 22) 1 rfl rfl dX6_at_22 ?_
    refine s_iload_n (pc := 23) 2 rfl rfl dX6_at_23 ?_
    refine s_iconst (pc := 24) (k_i0N) dX6_at_24 ?_
    refine s_cvi3 (pc := 25) (c_X5_get_1 hm hk hz hz6 hj) ml_X6_80 mw_X5_get rfl (by decide) (Nat.le_of_ble_eq_true rfl) dX6_at_25 ?_
    refine s_puti (pc := 28) fl_X6_69 fw_6_10 rfl rfl dX6_at_28 ?_
    refine s_iconst (pc := 31) (k_i1N) dX6_at_31 ?_
    refine s_iret (pc := 32) dX6_at_32 (PostE.of hp ?_ ?_)
    · rfl
    · rfl
  · exfalso; omega

set_option maxRecDepth 20000 in
theorem c_X6_layB {s i v : Int32} {h : Hp} (hm : h.1 1 0 = nI 6) (hb : s < 0 ∨ nI 6 ≤ s) : CT 6 yX6_lay cX6_lay 5 (some .int) [.ref 0, .int s, .int i, .int v] h (some (.int (-1))) (h) := by
  refine CT.of (own := RX6) rfl (by decide) (ro_i _) [.ref 0, .int s, .int i, .int v, .null] rfl (Nat.le_of_ble_eq_true rfl) (fun E hp => ?_)
  refine s_aload_n (pc := 0) 0 rfl rfl dX6_lay_0 ?_
  refine s_aload_n (pc := 1) 0 rfl rfl dX6_lay_1 ?_
  refine s_getr (pc := 2) (b := 1) fl_X6_14 rfl rfl rfl dX6_lay_2 ?_
  refine s_iload_n (pc := 5) 1 rfl rfl dX6_lay_5 ?_
  refine s_iload_n (pc := 6) 2 rfl rfl dX6_lay_6 ?_
  refine s_cvi3 (pc := 7) (c_X6_refusalOfPlace_1B hm hb) ml_X6_76 mw_X6_refusalOfPlace rfl (by decide) (Nat.le_of_ble_eq_true rfl) dX6_lay_7 ?_
  refine s_istore (pc := 10) (by decide) rfl dX6_lay_10 ?_
  refine s_iload (pc := 12) rfl dX6_lay_12 ?_
  refine s_if_eq (pc := 14) 20 dX6_lay_14 (by decide) (fun c_14 => ?_) (fun c_14 => ?_)
  · exfalso; exact absurd c_14 (by decide)
  · refine s_iload (pc := 17) rfl dX6_lay_17 ?_
    refine s_iret (pc := 19) dX6_lay_19 (PostE.of hp ?_ ?_)
    · rfl
    · rfl

set_option maxRecDepth 20000 in
theorem c_X6_layM {k : Nat} {i v : Int32} {h : Hp} (hm : h.1 1 0 = nI 6) (hk : k < 6) (hz : h.1 2 k = -1) : CT 6 yX6_lay cX6_lay 5 (some .int) [.ref 0, .int (nI k), .int i, .int v] h (some (.int (-3))) (finC h 1) := by
  refine CT.of (own := RX6) rfl (by decide) (ro_i _) [.ref 0, .int (nI k), .int i, .int v, .null] rfl (Nat.le_of_ble_eq_true rfl) (fun E hp => ?_)
  refine s_aload_n (pc := 0) 0 rfl rfl dX6_lay_0 ?_
  refine s_aload_n (pc := 1) 0 rfl rfl dX6_lay_1 ?_
  refine s_getr (pc := 2) (b := 1) fl_X6_14 rfl rfl rfl dX6_lay_2 ?_
  refine s_iload_n (pc := 5) 1 rfl rfl dX6_lay_5 ?_
  refine s_iload_n (pc := 6) 2 rfl rfl dX6_lay_6 ?_
  refine s_cvi3 (pc := 7) (c_X6_refusalOfPlace_1M hm hk hz) ml_X6_76 mw_X6_refusalOfPlace rfl (by decide) (Nat.le_of_ble_eq_true rfl) dX6_lay_7 ?_
  refine s_istore (pc := 10) (by decide) rfl dX6_lay_10 ?_
  refine s_iload (pc := 12) rfl dX6_lay_12 ?_
  refine s_if_eq (pc := 14) 20 dX6_lay_14 (by decide) (fun c_14 => ?_) (fun c_14 => ?_)
  · exfalso; exact absurd c_14 (by decide)
  · refine s_iload (pc := 17) rfl dX6_lay_17 ?_
    refine s_iret (pc := 19) dX6_lay_19 (PostE.of hp ?_ ?_)
    · rfl
    · rfl

set_option maxRecDepth 20000 in
theorem c_X6_layY {k m : Nat} {i v : Int32} {h : Hp} (hm : h.1 1 0 = nI 6) (hk : k < 6) (hz : h.1 2 k = nI m) (hz6 : m ≤ 40) (hb : i < 0 ∨ nI m ≤ i) : CT 6 yX6_lay cX6_lay 5 (some .int) [.ref 0, .int (nI k), .int i, .int v] h (some (.int (-3))) (finC h 2) := by
  refine CT.of (own := RX6) rfl (by decide) (ro_i _) [.ref 0, .int (nI k), .int i, .int v, .null] rfl (Nat.le_of_ble_eq_true rfl) (fun E hp => ?_)
  refine s_aload_n (pc := 0) 0 rfl rfl dX6_lay_0 ?_
  refine s_aload_n (pc := 1) 0 rfl rfl dX6_lay_1 ?_
  refine s_getr (pc := 2) (b := 1) fl_X6_14 rfl rfl rfl dX6_lay_2 ?_
  refine s_iload_n (pc := 5) 1 rfl rfl dX6_lay_5 ?_
  refine s_iload_n (pc := 6) 2 rfl rfl dX6_lay_6 ?_
  refine s_cvi3 (pc := 7) (c_X6_refusalOfPlace_1Y hm hk hz hz6 hb) ml_X6_76 mw_X6_refusalOfPlace rfl (by decide) (Nat.le_of_ble_eq_true rfl) dX6_lay_7 ?_
  refine s_istore (pc := 10) (by decide) rfl dX6_lay_10 ?_
  refine s_iload (pc := 12) rfl dX6_lay_12 ?_
  refine s_if_eq (pc := 14) 20 dX6_lay_14 (by decide) (fun c_14 => ?_) (fun c_14 => ?_)
  · exfalso; exact absurd c_14 (by decide)
  · refine s_iload (pc := 17) rfl dX6_lay_17 ?_
    refine s_iret (pc := 19) dX6_lay_19 (PostE.of hp ?_ ?_)
    · rfl
    · rfl

set_option maxRecDepth 20000 in
theorem c_X6_layO {k m j : Nat} {v : Int32} {h : Hp} (hm : h.1 1 0 = nI 6) (hk : k < 6) (hz : h.1 2 k = nI m) (hz6 : m ≤ 40) (hj : j < m) : CT 6 yX6_lay cX6_lay 5 (some .int) [.ref 0, .int (nI k), .int (nI j), .int v] h (some (.int (nI 1))) (ui (ui h 0 10 (h.1 (3 + 1 + k) j)) (3 + 1 + k) j v) := by
  refine CT.of (own := RX6) rfl (by decide) (ro_i _) [.ref 0, .int (nI k), .int (nI j), .int v, .null] rfl (Nat.le_of_ble_eq_true rfl) (fun E hp => ?_)
  refine s_aload_n (pc := 0) 0 rfl rfl dX6_lay_0 ?_
  refine s_aload_n (pc := 1) 0 rfl rfl dX6_lay_1 ?_
  refine s_getr (pc := 2) (b := 1) fl_X6_14 rfl rfl rfl dX6_lay_2 ?_
  refine s_iload_n (pc := 5) 1 rfl rfl dX6_lay_5 ?_
  refine s_iload_n (pc := 6) 2 rfl rfl dX6_lay_6 ?_
  refine s_cvi3 (pc := 7) (c_X6_refusalOfPlace_1O hm hk hz hz6 hj) ml_X6_76 mw_X6_refusalOfPlace rfl (by decide) (Nat.le_of_ble_eq_true rfl) dX6_lay_7 ?_
  refine s_istore (pc := 10) (by decide) rfl dX6_lay_10 ?_
  refine s_iload (pc := 12) rfl dX6_lay_12 ?_
  refine s_if_eqN (pc := 14) (by omega) 20 dX6_lay_14 (by decide) (fun c_14 => ?_) (fun c_14 => ?_)
  · refine s_aload_n (pc := 20) 0 rfl rfl dX6_lay_20 ?_
    refine s_aload_n (pc := 21) 0 rfl rfl dX6_lay_21 ?_
    refine s_getr (pc := 22) (b := 1) fl_X6_14 rfl rfl rfl dX6_lay_22 ?_
    refine s_iload_n (pc := 25) 1 rfl rfl dX6_lay_25 ?_
    refine s_iload_n (pc := 26) 2 rfl rfl dX6_lay_26 ?_
    refine s_iconst (pc := 27) (k_i0N) dX6_lay_27 ?_
    refine s_cvi3 (pc := 28) (c_X5_get_1 hm hk hz hz6 hj) ml_X6_80 mw_X5_get rfl (by decide) (Nat.le_of_ble_eq_true rfl) dX6_lay_28 ?_
    refine s_puti (pc := 31) fl_X6_69 fw_6_10 rfl rfl dX6_lay_31 ?_
    refine s_aload_n (pc := 34) 0 rfl rfl dX6_lay_34 ?_
    refine s_getr (pc := 35) (b := 1) fl_X6_14 rfl rfl rfl dX6_lay_35 ?_
    refine s_iload_n (pc := 38) 1 rfl rfl dX6_lay_38 ?_
    refine s_iload_n (pc := 39) 2 rfl rfl dX6_lay_39 ?_
    refine s_iload_n (pc := 40) 3 rfl rfl dX6_lay_40 ?_
    refine s_cvn3 (pc := 41) (c_X5_set_1 (h := ui h 0 10 (h.1 (3 + 1 + k) j)) hm hk hz hz6 hj) ml_X6_84 mw_X5_set rfl (by decide) (Nat.le_of_ble_eq_true rfl) dX6_lay_41 ?_
    refine s_iconst (pc := 44) (k_i1N) dX6_lay_44 ?_
    refine s_iret (pc := 45) dX6_lay_45 (PostE.of hp ?_ ?_)
    · rfl
    · rfl
  · exfalso; omega

set_option maxRecDepth 20000 in
theorem c_X6_putB {s i v : Int32} {h : Hp} (hm : h.1 10 0 = nI 4) (hb : s < 0 ∨ nI 4 ≤ s) : CT 6 yX6_put cX6_put 6 (some .int) [.ref 0, .int s, .int i, .int v] h (some (.int (-1))) (h) := by
  refine CT.of (own := RX6) rfl (by decide) (ro_i _) [.ref 0, .int s, .int i, .int v, .null, .null] rfl (Nat.le_of_ble_eq_true rfl) (fun E hp => ?_)
  refine s_aload_n (pc := 0) 0 rfl rfl dX6_put_0 ?_
  refine s_aload_n (pc := 1) 0 rfl rfl dX6_put_1 ?_
  refine s_getr (pc := 2) (b := 10) fl_X6_18 rfl rfl rfl dX6_put_2 ?_
  refine s_iload_n (pc := 5) 1 rfl rfl dX6_put_5 ?_
  refine s_iload_n (pc := 6) 2 rfl rfl dX6_put_6 ?_
  refine s_cvi3 (pc := 7) (c_X6_refusalOfPlace_10B hm hb) ml_X6_76 mw_X6_refusalOfPlace rfl (by decide) (Nat.le_of_ble_eq_true rfl) dX6_put_7 ?_
  refine s_istore (pc := 10) (by decide) rfl dX6_put_10 ?_
  refine s_iload (pc := 12) rfl dX6_put_12 ?_
  refine s_if_eq (pc := 14) 20 dX6_put_14 (by decide) (fun c_14 => ?_) (fun c_14 => ?_)
  · exfalso; exact absurd c_14 (by decide)
  · refine s_iload (pc := 17) rfl dX6_put_17 ?_
    refine s_iret (pc := 19) dX6_put_19 (PostE.of hp ?_ ?_)
    · rfl
    · rfl

set_option maxRecDepth 20000 in
theorem c_X6_putM {k : Nat} {i v : Int32} {h : Hp} (hm : h.1 10 0 = nI 4) (hk : k < 4) (hz : h.1 11 k = -1) : CT 6 yX6_put cX6_put 6 (some .int) [.ref 0, .int (nI k), .int i, .int v] h (some (.int (-3))) (finC h 1) := by
  refine CT.of (own := RX6) rfl (by decide) (ro_i _) [.ref 0, .int (nI k), .int i, .int v, .null, .null] rfl (Nat.le_of_ble_eq_true rfl) (fun E hp => ?_)
  refine s_aload_n (pc := 0) 0 rfl rfl dX6_put_0 ?_
  refine s_aload_n (pc := 1) 0 rfl rfl dX6_put_1 ?_
  refine s_getr (pc := 2) (b := 10) fl_X6_18 rfl rfl rfl dX6_put_2 ?_
  refine s_iload_n (pc := 5) 1 rfl rfl dX6_put_5 ?_
  refine s_iload_n (pc := 6) 2 rfl rfl dX6_put_6 ?_
  refine s_cvi3 (pc := 7) (c_X6_refusalOfPlace_10M hm hk hz) ml_X6_76 mw_X6_refusalOfPlace rfl (by decide) (Nat.le_of_ble_eq_true rfl) dX6_put_7 ?_
  refine s_istore (pc := 10) (by decide) rfl dX6_put_10 ?_
  refine s_iload (pc := 12) rfl dX6_put_12 ?_
  refine s_if_eq (pc := 14) 20 dX6_put_14 (by decide) (fun c_14 => ?_) (fun c_14 => ?_)
  · exfalso; exact absurd c_14 (by decide)
  · refine s_iload (pc := 17) rfl dX6_put_17 ?_
    refine s_iret (pc := 19) dX6_put_19 (PostE.of hp ?_ ?_)
    · rfl
    · rfl

set_option maxRecDepth 20000 in
theorem c_X6_putY {k m : Nat} {i v : Int32} {h : Hp} (hm : h.1 10 0 = nI 4) (hk : k < 4) (hz : h.1 11 k = nI m) (hz6 : m ≤ 60) (hb : i < 0 ∨ nI m ≤ i) : CT 6 yX6_put cX6_put 6 (some .int) [.ref 0, .int (nI k), .int i, .int v] h (some (.int (-3))) (finC h 2) := by
  refine CT.of (own := RX6) rfl (by decide) (ro_i _) [.ref 0, .int (nI k), .int i, .int v, .null, .null] rfl (Nat.le_of_ble_eq_true rfl) (fun E hp => ?_)
  refine s_aload_n (pc := 0) 0 rfl rfl dX6_put_0 ?_
  refine s_aload_n (pc := 1) 0 rfl rfl dX6_put_1 ?_
  refine s_getr (pc := 2) (b := 10) fl_X6_18 rfl rfl rfl dX6_put_2 ?_
  refine s_iload_n (pc := 5) 1 rfl rfl dX6_put_5 ?_
  refine s_iload_n (pc := 6) 2 rfl rfl dX6_put_6 ?_
  refine s_cvi3 (pc := 7) (c_X6_refusalOfPlace_10Y hm hk hz hz6 hb) ml_X6_76 mw_X6_refusalOfPlace rfl (by decide) (Nat.le_of_ble_eq_true rfl) dX6_put_7 ?_
  refine s_istore (pc := 10) (by decide) rfl dX6_put_10 ?_
  refine s_iload (pc := 12) rfl dX6_put_12 ?_
  refine s_if_eq (pc := 14) 20 dX6_put_14 (by decide) (fun c_14 => ?_) (fun c_14 => ?_)
  · exfalso; exact absurd c_14 (by decide)
  · refine s_iload (pc := 17) rfl dX6_put_17 ?_
    refine s_iret (pc := 19) dX6_put_19 (PostE.of hp ?_ ?_)
    · rfl
    · rfl

set_option maxRecDepth 20000 in
theorem c_X6_putO {k m j : Nat} {v : Int32} {h : Hp} (hm : h.1 10 0 = nI 4) (hk : k < 4) (hz : h.1 11 k = nI m) (hz6 : m ≤ 60) (hj : j < m) : CT 6 yX6_put cX6_put 6 (some .int) [.ref 0, .int (nI k), .int (nI j), .int v] h (some (.int (h.1 (12 + 1 + k) j + nI 1000))) (ui h (12 + 1 + k) j v.toInt8.toInt32) := by
  refine CT.of (own := RX6) rfl (by decide) (ro_i _) [.ref 0, .int (nI k), .int (nI j), .int v, .null, .null] rfl (Nat.le_of_ble_eq_true rfl) (fun E hp => ?_)
  refine s_aload_n (pc := 0) 0 rfl rfl dX6_put_0 ?_
  refine s_aload_n (pc := 1) 0 rfl rfl dX6_put_1 ?_
  refine s_getr (pc := 2) (b := 10) fl_X6_18 rfl rfl rfl dX6_put_2 ?_
  refine s_iload_n (pc := 5) 1 rfl rfl dX6_put_5 ?_
  refine s_iload_n (pc := 6) 2 rfl rfl dX6_put_6 ?_
  refine s_cvi3 (pc := 7) (c_X6_refusalOfPlace_10O hm hk hz hz6 hj) ml_X6_76 mw_X6_refusalOfPlace rfl (by decide) (Nat.le_of_ble_eq_true rfl) dX6_put_7 ?_
  refine s_istore (pc := 10) (by decide) rfl dX6_put_10 ?_
  refine s_iload (pc := 12) rfl dX6_put_12 ?_
  refine s_if_eqN (pc := 14) (by omega) 20 dX6_put_14 (by decide) (fun c_14 => ?_) (fun c_14 => ?_)
  · refine s_aload_n (pc := 20) 0 rfl rfl dX6_put_20 ?_
    refine s_getr (pc := 21) (b := 10) fl_X6_18 rfl rfl rfl dX6_put_21 ?_
    refine s_iload_n (pc := 24) 1 rfl rfl dX6_put_24 ?_
    refine s_iload_n (pc := 25) 2 rfl rfl dX6_put_25 ?_
    refine s_iconst (pc := 26) (k_i0N) dX6_put_26 ?_
    refine s_cvi3 (pc := 27) (c_X5_get_10 hm hk hz hz6 hj) ml_X6_80 mw_X5_get rfl (by decide) (Nat.le_of_ble_eq_true rfl) dX6_put_27 ?_
    refine s_istore (pc := 30) (by decide) rfl dX6_put_30 ?_
    refine s_aload_n (pc := 32) 0 rfl rfl dX6_put_32 ?_
    refine s_getr (pc := 33) (b := 10) fl_X6_18 rfl rfl rfl dX6_put_33 ?_
    refine s_iload_n (pc := 36) 1 rfl rfl dX6_put_36 ?_
    refine s_iload_n (pc := 37) 2 rfl rfl dX6_put_37 ?_
    refine s_iload_n (pc := 38) 3 rfl rfl dX6_put_38 ?_
    refine s_i2b (pc := 39) dX6_put_39 ?_
    refine s_cvn3 (pc := 40) (c_X5_set_10 hm hk hz hz6 hj) ml_X6_84 mw_X5_set rfl (by decide) (Nat.le_of_ble_eq_true rfl) dX6_put_40 ?_
    refine s_iload (pc := 43) rfl dX6_put_43 ?_
    refine s_sipush (pc := 45) (k_s1000N) dX6_put_45 ?_
    refine s_iadd (pc := 48) dX6_put_48 ?_
    refine s_iret (pc := 49) dX6_put_49 (PostE.of hp ?_ ?_)
    · rfl
    · rfl
  · exfalso; omega

set_option maxRecDepth 20000 in
theorem c_X6_tearB {s : Int32} {h : Hp} (hm : h.1 1 0 = nI 6) (hb : s < 0 ∨ nI 6 ≤ s) : CT 6 yX6_tear cX6_tear 3 (some .int) [.ref 0, .int s] h (some (.int (-1))) (h) := by
  refine CT.of (own := RX6) rfl (by decide) (ro_i _) [.ref 0, .int s, .null] rfl (Nat.le_of_ble_eq_true rfl) (fun E hp => ?_)
  refine s_aload_n (pc := 0) 0 rfl rfl dX6_tear_0 ?_
  refine s_aload_n (pc := 1) 0 rfl rfl dX6_tear_1 ?_
  refine s_getr (pc := 2) (b := 1) fl_X6_14 rfl rfl rfl dX6_tear_2 ?_
  refine s_iload_n (pc := 5) 1 rfl rfl dX6_tear_5 ?_
  refine s_cvi2 (pc := 6) (c_X6_refusalOfSheet_1B hm hb) ml_X6_88 mw_X6_refusalOfSheet rfl (by decide) (Nat.le_of_ble_eq_true rfl) dX6_tear_6 ?_
  refine s_istore_n (pc := 9) 2 rfl (by decide) rfl dX6_tear_9 ?_
  refine s_iload_n (pc := 10) 2 rfl rfl dX6_tear_10 ?_
  refine s_if_eq (pc := 11) 16 dX6_tear_11 (by decide) (fun c_11 => ?_) (fun c_11 => ?_)
  · exfalso; exact absurd c_11 (by decide)
  · refine s_iload_n (pc := 14) 2 rfl rfl dX6_tear_14 ?_
    refine s_iret (pc := 15) dX6_tear_15 (PostE.of hp ?_ ?_)
    · rfl
    · rfl

set_option maxRecDepth 20000 in
theorem c_X6_tearM {k : Nat} {h : Hp} (hm : h.1 1 0 = nI 6) (hk : k < 6) (hz : h.1 2 k = -1) : CT 6 yX6_tear cX6_tear 3 (some .int) [.ref 0, .int (nI k)] h (some (.int (-3))) (finC h 1) := by
  refine CT.of (own := RX6) rfl (by decide) (ro_i _) [.ref 0, .int (nI k), .null] rfl (Nat.le_of_ble_eq_true rfl) (fun E hp => ?_)
  refine s_aload_n (pc := 0) 0 rfl rfl dX6_tear_0 ?_
  refine s_aload_n (pc := 1) 0 rfl rfl dX6_tear_1 ?_
  refine s_getr (pc := 2) (b := 1) fl_X6_14 rfl rfl rfl dX6_tear_2 ?_
  refine s_iload_n (pc := 5) 1 rfl rfl dX6_tear_5 ?_
  refine s_cvi2 (pc := 6) (c_X6_refusalOfSheet_1M hm hk hz) ml_X6_88 mw_X6_refusalOfSheet rfl (by decide) (Nat.le_of_ble_eq_true rfl) dX6_tear_6 ?_
  refine s_istore_n (pc := 9) 2 rfl (by decide) rfl dX6_tear_9 ?_
  refine s_iload_n (pc := 10) 2 rfl rfl dX6_tear_10 ?_
  refine s_if_eq (pc := 11) 16 dX6_tear_11 (by decide) (fun c_11 => ?_) (fun c_11 => ?_)
  · exfalso; exact absurd c_11 (by decide)
  · refine s_iload_n (pc := 14) 2 rfl rfl dX6_tear_14 ?_
    refine s_iret (pc := 15) dX6_tear_15 (PostE.of hp ?_ ?_)
    · rfl
    · rfl

set_option maxRecDepth 20000 in
theorem c_X6_tearO {k m : Nat} {h : Hp} (hm : h.1 1 0 = nI 6) (hk : k < 6) (hz : h.1 2 k = nI m) (hz6 : m ≤ 40) : CT 6 yX6_tear cX6_tear 3 (some .int) [.ref 0, .int (nI k)] h (some (.int (nI 1))) (ui h 2 k (-1)) := by
  refine CT.of (own := RX6) rfl (by decide) (ro_i _) [.ref 0, .int (nI k), .null] rfl (Nat.le_of_ble_eq_true rfl) (fun E hp => ?_)
  refine s_aload_n (pc := 0) 0 rfl rfl dX6_tear_0 ?_
  refine s_aload_n (pc := 1) 0 rfl rfl dX6_tear_1 ?_
  refine s_getr (pc := 2) (b := 1) fl_X6_14 rfl rfl rfl dX6_tear_2 ?_
  refine s_iload_n (pc := 5) 1 rfl rfl dX6_tear_5 ?_
  refine s_cvi2 (pc := 6) (c_X6_refusalOfSheet_1O hm hk hz hz6) ml_X6_88 mw_X6_refusalOfSheet rfl (by decide) (Nat.le_of_ble_eq_true rfl) dX6_tear_6 ?_
  refine s_istore_n (pc := 9) 2 rfl (by decide) rfl dX6_tear_9 ?_
  refine s_iload_n (pc := 10) 2 rfl rfl dX6_tear_10 ?_
  refine s_if_eqN (pc := 11) (by omega) 16 dX6_tear_11 (by decide) (fun c_11 => ?_) (fun c_11 => ?_)
  · refine s_aload_n (pc := 16) 0 rfl rfl dX6_tear_16 ?_
    refine s_getr (pc := 17) (b := 1) fl_X6_14 rfl rfl rfl dX6_tear_17 ?_
    refine s_iload_n (pc := 20) 1 rfl rfl dX6_tear_20 ?_
    refine s_cvn1 (pc := 21) (c_X5_drop_1 hm hk) ml_X6_92 mw_X5_drop rfl (by decide) (Nat.le_of_ble_eq_true rfl) dX6_tear_21 ?_
    refine s_iconst (pc := 24) (k_i1N) dX6_tear_24 ?_
    refine s_iret (pc := 25) dX6_tear_25 (PostE.of hp ?_ ?_)
    · rfl
    · rfl
  · exfalso; omega

set_option maxRecDepth 20000 in
theorem c_X6_onB {s : Int32} {h : Hp} (hm : h.1 17 0 = nI 3) (hb : s < 0 ∨ nI 3 ≤ s) : CT 6 yX6_on cX6_on 3 (some .int) [.ref 0, .int s] h (some (.int (-1))) (h) := by
  refine CT.of (own := RX6) rfl (by decide) (ro_i _) [.ref 0, .int s, .null] rfl (Nat.le_of_ble_eq_true rfl) (fun E hp => ?_)
  refine s_aload_n (pc := 0) 0 rfl rfl dX6_on_0 ?_
  refine s_aload_n (pc := 1) 0 rfl rfl dX6_on_1 ?_
  refine s_getr (pc := 2) (b := 17) fl_X6_21 rfl rfl rfl dX6_on_2 ?_
  refine s_iload_n (pc := 5) 1 rfl rfl dX6_on_5 ?_
  refine s_cvi2 (pc := 6) (c_X6_refusalOfSheet_17B hm hb) ml_X6_88 mw_X6_refusalOfSheet rfl (by decide) (Nat.le_of_ble_eq_true rfl) dX6_on_6 ?_
  refine s_istore_n (pc := 9) 2 rfl (by decide) rfl dX6_on_9 ?_
  refine s_iload_n (pc := 10) 2 rfl rfl dX6_on_10 ?_
  refine s_if_eq (pc := 11) 16 dX6_on_11 (by decide) (fun c_11 => ?_) (fun c_11 => ?_)
  · exfalso; exact absurd c_11 (by decide)
  · refine s_iload_n (pc := 14) 2 rfl rfl dX6_on_14 ?_
    refine s_iret (pc := 15) dX6_on_15 (PostE.of hp ?_ ?_)
    · rfl
    · rfl

set_option maxRecDepth 20000 in
theorem c_X6_onM {k : Nat} {h : Hp} (hm : h.1 17 0 = nI 3) (hk : k < 3) (hz : h.1 18 k = -1) : CT 6 yX6_on cX6_on 3 (some .int) [.ref 0, .int (nI k)] h (some (.int (-3))) (finC h 1) := by
  refine CT.of (own := RX6) rfl (by decide) (ro_i _) [.ref 0, .int (nI k), .null] rfl (Nat.le_of_ble_eq_true rfl) (fun E hp => ?_)
  refine s_aload_n (pc := 0) 0 rfl rfl dX6_on_0 ?_
  refine s_aload_n (pc := 1) 0 rfl rfl dX6_on_1 ?_
  refine s_getr (pc := 2) (b := 17) fl_X6_21 rfl rfl rfl dX6_on_2 ?_
  refine s_iload_n (pc := 5) 1 rfl rfl dX6_on_5 ?_
  refine s_cvi2 (pc := 6) (c_X6_refusalOfSheet_17M hm hk hz) ml_X6_88 mw_X6_refusalOfSheet rfl (by decide) (Nat.le_of_ble_eq_true rfl) dX6_on_6 ?_
  refine s_istore_n (pc := 9) 2 rfl (by decide) rfl dX6_on_9 ?_
  refine s_iload_n (pc := 10) 2 rfl rfl dX6_on_10 ?_
  refine s_if_eq (pc := 11) 16 dX6_on_11 (by decide) (fun c_11 => ?_) (fun c_11 => ?_)
  · exfalso; exact absurd c_11 (by decide)
  · refine s_iload_n (pc := 14) 2 rfl rfl dX6_on_14 ?_
    refine s_iret (pc := 15) dX6_on_15 (PostE.of hp ?_ ?_)
    · rfl
    · rfl

def sumL (f : Nat → Int32) : Nat → Int64
  | 0 => 0
  | k + 1 => sumL f k + (f k).toInt64

set_option maxRecDepth 20000 in
theorem c_X6_meanB {s : Int32} {h : Hp} (hm : h.1 1 0 = nI 6) (hb : s < 0 ∨ nI 6 ≤ s) : CT 6 yX6_mean cX6_mean 7 (some .int) [.ref 0, .int s] h (some (.int (-1))) (h) := by
  refine CT.of (own := RX6) rfl (by decide) (ro_i _) [.ref 0, .int s, .null, .null, .null, .null, .null] rfl (Nat.le_of_ble_eq_true rfl) (fun E hp => ?_)
  refine s_aload_n (pc := 0) 0 rfl rfl dX6_mean_0 ?_
  refine s_aload_n (pc := 1) 0 rfl rfl dX6_mean_1 ?_
  refine s_getr (pc := 2) (b := 1) fl_X6_14 rfl rfl rfl dX6_mean_2 ?_
  refine s_iload_n (pc := 5) 1 rfl rfl dX6_mean_5 ?_
  refine s_cvi2 (pc := 6) (c_X6_refusalOfSheet_1B hm hb) ml_X6_88 mw_X6_refusalOfSheet rfl (by decide) (Nat.le_of_ble_eq_true rfl) dX6_mean_6 ?_
  refine s_istore_n (pc := 9) 2 rfl (by decide) rfl dX6_mean_9 ?_
  refine s_iload_n (pc := 10) 2 rfl rfl dX6_mean_10 ?_
  refine s_if_eq (pc := 11) 16 dX6_mean_11 (by decide) (fun c_11 => ?_) (fun c_11 => ?_)
  · exfalso; exact absurd c_11 (by decide)
  · refine s_iload_n (pc := 14) 2 rfl rfl dX6_mean_14 ?_
    refine s_iret (pc := 15) dX6_mean_15 (PostE.of hp ?_ ?_)
    · rfl
    · rfl

set_option maxRecDepth 20000 in
theorem c_X6_meanM {k : Nat} {h : Hp} (hm : h.1 1 0 = nI 6) (hk : k < 6) (hz : h.1 2 k = -1) : CT 6 yX6_mean cX6_mean 7 (some .int) [.ref 0, .int (nI k)] h (some (.int (-3))) (finC h 1) := by
  refine CT.of (own := RX6) rfl (by decide) (ro_i _) [.ref 0, .int (nI k), .null, .null, .null, .null, .null] rfl (Nat.le_of_ble_eq_true rfl) (fun E hp => ?_)
  refine s_aload_n (pc := 0) 0 rfl rfl dX6_mean_0 ?_
  refine s_aload_n (pc := 1) 0 rfl rfl dX6_mean_1 ?_
  refine s_getr (pc := 2) (b := 1) fl_X6_14 rfl rfl rfl dX6_mean_2 ?_
  refine s_iload_n (pc := 5) 1 rfl rfl dX6_mean_5 ?_
  refine s_cvi2 (pc := 6) (c_X6_refusalOfSheet_1M hm hk hz) ml_X6_88 mw_X6_refusalOfSheet rfl (by decide) (Nat.le_of_ble_eq_true rfl) dX6_mean_6 ?_
  refine s_istore_n (pc := 9) 2 rfl (by decide) rfl dX6_mean_9 ?_
  refine s_iload_n (pc := 10) 2 rfl rfl dX6_mean_10 ?_
  refine s_if_eq (pc := 11) 16 dX6_mean_11 (by decide) (fun c_11 => ?_) (fun c_11 => ?_)
  · exfalso; exact absurd c_11 (by decide)
  · refine s_iload_n (pc := 14) 2 rfl rfl dX6_mean_14 ?_
    refine s_iret (pc := 15) dX6_mean_15 (PostE.of hp ?_ ?_)
    · rfl
    · rfl

set_option maxRecDepth 20000 in
theorem c_X6_meanN {k : Nat} {h : Hp} (hm : h.1 1 0 = nI 6) (hk : k < 6) (hz : h.1 2 k = nI 0) : CT 6 yX6_mean cX6_mean 7 (some .int) [.ref 0, .int (nI k)] h (some (.int (-3))) (finC h 4) := by
  refine CT.of (own := RX6) rfl (by decide) (ro_i _) [.ref 0, .int (nI k), .null, .null, .null, .null, .null] rfl (Nat.le_of_ble_eq_true rfl) (fun E hp => ?_)
  refine s_aload_n (pc := 0) 0 rfl rfl dX6_mean_0 ?_
  refine s_aload_n (pc := 1) 0 rfl rfl dX6_mean_1 ?_
  refine s_getr (pc := 2) (b := 1) fl_X6_14 rfl rfl rfl dX6_mean_2 ?_
  refine s_iload_n (pc := 5) 1 rfl rfl dX6_mean_5 ?_
  refine s_cvi2 (pc := 6) (c_X6_refusalOfSheet_1O hm hk hz (by decide)) ml_X6_88 mw_X6_refusalOfSheet rfl (by decide) (Nat.le_of_ble_eq_true rfl) dX6_mean_6 ?_
  refine s_istore_n (pc := 9) 2 rfl (by decide) rfl dX6_mean_9 ?_
  refine s_iload_n (pc := 10) 2 rfl rfl dX6_mean_10 ?_
  refine s_if_eqN (pc := 11) (by omega) 16 dX6_mean_11 (by decide) (fun c_11 => ?_) (fun c_11 => ?_)
  · refine s_aload_n (pc := 16) 0 rfl rfl dX6_mean_16 ?_
    refine s_getr (pc := 17) (b := 1) fl_X6_14 rfl rfl rfl dX6_mean_17 ?_
    refine s_getr (pc := 20) (b := 2) fl_X6_121 rfl rfl rfl dX6_mean_20 ?_
    refine s_iload_n (pc := 23) 1 rfl rfl dX6_mean_23 ?_
    refine s_ialdN (pc := 24) (_) rfl rfl (by omega) hz dX6_mean_24 ?_
    refine s_istore_n (pc := 25) 3 rfl (by decide) rfl dX6_mean_25 ?_
    refine s_iload_n (pc := 26) 3 rfl rfl dX6_mean_26 ?_
    refine s_if_gtN (pc := 27) (by omega) 36 dX6_mean_27 (by decide) (fun c_27 => ?_) (fun c_27 => ?_)
    · exfalso; omega
    · refine s_aload_n (pc := 30) 0 rfl rfl dX6_mean_30 ?_
      refine s_iconst (pc := 31) (k_i4N) dX6_mean_31 ?_
      refine s_cvi1 (pc := 32) (c_X6_refuse (by decide) (by decide)) ml_X6_100 mw_X6_refuse rfl (by decide) (Nat.le_of_ble_eq_true rfl) dX6_mean_32 ?_
      refine s_iret (pc := 35) dX6_mean_35 (PostE.of hp ?_ ?_)
      · rfl
      · rfl
  · exfalso; omega

set_option maxRecDepth 20000 in
theorem c_X6_meanO {k m : Nat} {h : Hp} (hm : h.1 1 0 = nI 6) (hk : k < 6) (hz : h.1 2 k = nI m) (hz6 : m ≤ 40) (h0 : 0 < m) : CT 6 yX6_mean cX6_mean 7 (some .int) [.ref 0, .int (nI k)] h (some (.int (nI 1))) (ui h 0 10 (sumL (h.1 (3 + 1 + k)) m / (nI m).toInt64).toInt32) := by
  refine CT.of (own := RX6) rfl (by decide) (ro_i _) [.ref 0, .int (nI k), .null, .null, .null, .null, .null] rfl (Nat.le_of_ble_eq_true rfl) (fun E hp => ?_)
  refine s_aload_n (pc := 0) 0 rfl rfl dX6_mean_0 ?_
  refine s_aload_n (pc := 1) 0 rfl rfl dX6_mean_1 ?_
  refine s_getr (pc := 2) (b := 1) fl_X6_14 rfl rfl rfl dX6_mean_2 ?_
  refine s_iload_n (pc := 5) 1 rfl rfl dX6_mean_5 ?_
  refine s_cvi2 (pc := 6) (c_X6_refusalOfSheet_1O hm hk hz (by omega)) ml_X6_88 mw_X6_refusalOfSheet rfl (by decide) (Nat.le_of_ble_eq_true rfl) dX6_mean_6 ?_
  refine s_istore_n (pc := 9) 2 rfl (by decide) rfl dX6_mean_9 ?_
  refine s_iload_n (pc := 10) 2 rfl rfl dX6_mean_10 ?_
  refine s_if_eqN (pc := 11) (by omega) 16 dX6_mean_11 (by decide) (fun c_11 => ?_) (fun c_11 => ?_)
  · refine s_aload_n (pc := 16) 0 rfl rfl dX6_mean_16 ?_
    refine s_getr (pc := 17) (b := 1) fl_X6_14 rfl rfl rfl dX6_mean_17 ?_
    refine s_getr (pc := 20) (b := 2) fl_X6_121 rfl rfl rfl dX6_mean_20 ?_
    refine s_iload_n (pc := 23) 1 rfl rfl dX6_mean_23 ?_
    refine s_ialdN (pc := 24) (_) rfl rfl (by omega) hz dX6_mean_24 ?_
    refine s_istore_n (pc := 25) 3 rfl (by decide) rfl dX6_mean_25 ?_
    refine s_iload_n (pc := 26) 3 rfl rfl dX6_mean_26 ?_
    refine s_if_gtN (pc := 27) (by omega) 36 dX6_mean_27 (by decide) (fun c_27 => ?_) (fun c_27 => ?_)
    · refine s_lconst (pc := 36) (v := 0) rfl dX6_mean_36 ?_
      refine s_lstore (pc := 37) (by decide) rfl dX6_mean_37 ?_
      refine s_iconst (pc := 39) (k_i0N) dX6_mean_39 ?_
      refine s_istore (pc := 40) (by decide) rfl dX6_mean_40 ?_
      suffices lp_42 : ∀ j, j ≤ m → WW E cX6_mean RX6 7 _ 42 [.ref 0, .int (nI k), .int (nI 0), .int (nI m), .long (sumL (h.1 (3 + 1 + k)) j), .null, .int (nI j)] (h) [] from lp_42 (0) (by omega)
      refine lpi (m) (fun j hk_j ih_42 => ?_)
      refine s_iload (pc := 42) rfl dX6_mean_42 ?_
      refine s_iload_n (pc := 44) 3 rfl rfl dX6_mean_44 ?_
      refine s_icmp_geN (pc := 45) (by omega) (by omega) 72 dX6_mean_45 (by decide) (fun c_45 => ?_) (fun c_45 => ?_)
      · obtain rfl : j = m := by omega
        refine s_aload_n (pc := 72) 0 rfl rfl dX6_mean_72 ?_
        refine s_lload (pc := 73) rfl dX6_mean_73 ?_
        refine s_iload_n (pc := 75) 3 rfl rfl dX6_mean_75 ?_
        refine s_i2l (pc := 76) dX6_mean_76 ?_
        refine s_ldiv (pc := 77) (by rw [nI_l (by omega)]; intro q; rw [show (0 : Int64) = lN 0 from rfl, lN_eq (by omega) (by decide)] at q; omega) dX6_mean_77 ?_
        refine s_l2i (pc := 78) dX6_mean_78 ?_
        refine s_puti (pc := 79) fl_X6_69 fw_6_10 rfl rfl dX6_mean_79 ?_
        refine s_iconst (pc := 82) (k_i1N) dX6_mean_82 ?_
        refine s_iret (pc := 83) dX6_mean_83 (PostE.of hp ?_ ?_)
        · rfl
        · rfl
      · refine s_lload (pc := 48) rfl dX6_mean_48 ?_
        refine s_aload_n (pc := 50) 0 rfl rfl dX6_mean_50 ?_
        refine s_getr (pc := 51) (b := 1) fl_X6_14 rfl rfl rfl dX6_mean_51 ?_
        refine s_getr (pc := 54) (b := 3) fl_X6_111 rfl rfl rfl dX6_mean_54 ?_
        refine s_iload_n (pc := 57) 1 rfl rfl dX6_mean_57 ?_
        refine s_aald (pc := 58) (b := 3 + 1 + k) (_) rfl rfl (by omega) rfl dX6_mean_58 ?_
        refine s_iload (pc := 59) rfl dX6_mean_59 ?_
        refine s_iald (pc := 61) (_) (ly_1 k hk) rfl (by omega) dX6_mean_61 ?_
        refine s_i2l (pc := 62) dX6_mean_62 ?_
        refine s_ladd (pc := 63) dX6_mean_63 ?_
        refine s_lstore (pc := 64) (by decide) rfl dX6_mean_64 ?_
        refine s_iincN (pc := 66) rfl (by decide) rfl dX6_mean_66 ?_
        refine s_goto (pc := 69) 42 dX6_mean_69 (by decide) ?_
        exact ih_42 (by omega)
    · exfalso; omega
  · exfalso; omega

set_option maxRecDepth 20000 in
theorem c_X6_copyB1 {r i t j n : Int32} {h : Hp} (hm : h.1 1 0 = nI 6) (hb : r < 0 ∨ nI 6 ≤ r) : CT 5 yX6_copy cX6_copy 6 (some .int) [.ref 0, .int r, .int i, .int t, .int j, .int n] h (some (.int (-1))) (h) := by
  refine CT.of (own := RX6) rfl (by decide) (ro_i _) [.ref 0, .int r, .int i, .int t, .int j, .int n] rfl (Nat.le_of_ble_eq_true rfl) (fun E hp => ?_)
  refine s_aload_n (pc := 0) 0 rfl rfl dX6_copy_0 ?_
  refine s_getr (pc := 1) (b := 1) fl_X6_14 rfl rfl rfl dX6_copy_1 ?_
  refine s_iload_n (pc := 4) 1 rfl rfl dX6_copy_4 ?_
  refine s_cvi1 (pc := 5) (c_X5_isNumber_1F hm hb) ml_X6_96 mw_X5_isNumber rfl (by decide) (Nat.le_of_ble_eq_true rfl) dX6_copy_5 ?_
  refine s_if_eqF (pc := 8) 22 dX6_copy_8 (by decide) ?_
  refine s_iconst (pc := 22) (k_im1) dX6_copy_22 ?_
  refine s_iret (pc := 23) dX6_copy_23 (PostE.of hp ?_ ?_)
  · rfl
  · rfl

set_option maxRecDepth 20000 in
theorem c_X6_copyB2 {k : Nat} {i t j n : Int32} {h : Hp} (hm : h.1 1 0 = nI 6) (hk : k < 6) (hb : t < 0 ∨ nI 6 ≤ t) : CT 5 yX6_copy cX6_copy 6 (some .int) [.ref 0, .int (nI k), .int i, .int t, .int j, .int n] h (some (.int (-1))) (h) := by
  refine CT.of (own := RX6) rfl (by decide) (ro_i _) [.ref 0, .int (nI k), .int i, .int t, .int j, .int n] rfl (Nat.le_of_ble_eq_true rfl) (fun E hp => ?_)
  refine s_aload_n (pc := 0) 0 rfl rfl dX6_copy_0 ?_
  refine s_getr (pc := 1) (b := 1) fl_X6_14 rfl rfl rfl dX6_copy_1 ?_
  refine s_iload_n (pc := 4) 1 rfl rfl dX6_copy_4 ?_
  refine s_cvi1 (pc := 5) (c_X5_isNumber_1T hm hk) ml_X6_96 mw_X5_isNumber rfl (by decide) (Nat.le_of_ble_eq_true rfl) dX6_copy_5 ?_
  refine s_if_eqT (pc := 8) 22 dX6_copy_8 (by decide) ?_
  refine s_aload_n (pc := 11) 0 rfl rfl dX6_copy_11 ?_
  refine s_getr (pc := 12) (b := 1) fl_X6_14 rfl rfl rfl dX6_copy_12 ?_
  refine s_iload_n (pc := 15) 3 rfl rfl dX6_copy_15 ?_
  refine s_cvi1 (pc := 16) (c_X5_isNumber_1F hm hb) ml_X6_96 mw_X5_isNumber rfl (by decide) (Nat.le_of_ble_eq_true rfl) dX6_copy_16 ?_
  refine s_if_neF (pc := 19) 24 dX6_copy_19 (by decide) ?_
  refine s_iconst (pc := 22) (k_im1) dX6_copy_22 ?_
  refine s_iret (pc := 23) dX6_copy_23 (PostE.of hp ?_ ?_)
  · rfl
  · rfl

set_option maxRecDepth 20000 in
theorem c_X6_copyS {k q : Nat} {i j n : Int32} {h : Hp} (hm : h.1 1 0 = nI 6) (hk : k < 6) (hl : q < 6) (hn : n < 0) : CT 5 yX6_copy cX6_copy 6 (some .int) [.ref 0, .int (nI k), .int i, .int (nI q), .int j, .int n] h (some (.int (-3))) (finC h 5) := by
  refine CT.of (own := RX6) rfl (by decide) (ro_i _) [.ref 0, .int (nI k), .int i, .int (nI q), .int j, .int n] rfl (Nat.le_of_ble_eq_true rfl) (fun E hp => ?_)
  refine s_aload_n (pc := 0) 0 rfl rfl dX6_copy_0 ?_
  refine s_getr (pc := 1) (b := 1) fl_X6_14 rfl rfl rfl dX6_copy_1 ?_
  refine s_iload_n (pc := 4) 1 rfl rfl dX6_copy_4 ?_
  refine s_cvi1 (pc := 5) (c_X5_isNumber_1T hm hk) ml_X6_96 mw_X5_isNumber rfl (by decide) (Nat.le_of_ble_eq_true rfl) dX6_copy_5 ?_
  refine s_if_eqT (pc := 8) 22 dX6_copy_8 (by decide) ?_
  refine s_aload_n (pc := 11) 0 rfl rfl dX6_copy_11 ?_
  refine s_getr (pc := 12) (b := 1) fl_X6_14 rfl rfl rfl dX6_copy_12 ?_
  refine s_iload_n (pc := 15) 3 rfl rfl dX6_copy_15 ?_
  refine s_cvi1 (pc := 16) (c_X5_isNumber_1T hm hl) ml_X6_96 mw_X5_isNumber rfl (by decide) (Nat.le_of_ble_eq_true rfl) dX6_copy_16 ?_
  refine s_if_neT (pc := 19) 24 dX6_copy_19 (by decide) ?_
  refine s_iload (pc := 24) rfl dX6_copy_24 ?_
  refine s_if_ge (pc := 26) 35 dX6_copy_26 (by decide) (fun c_26 => ?_) (fun c_26 => ?_)
  · exfalso; exact absurd hn (Int32.not_lt.mpr c_26)
  · refine s_aload_n (pc := 29) 0 rfl rfl dX6_copy_29 ?_
    refine s_iconst (pc := 30) (k_i5N) dX6_copy_30 ?_
    refine s_cvi1 (pc := 31) (c_X6_refuse (by decide) (by decide)) ml_X6_100 mw_X6_refuse rfl (by decide) (Nat.le_of_ble_eq_true rfl) dX6_copy_31 ?_
    refine s_iret (pc := 34) dX6_copy_34 (PostE.of hp ?_ ?_)
    · rfl
    · rfl

set_option maxRecDepth 20000 in
theorem c_X6_copyM1 {k q n : Nat} {i j : Int32} {h : Hp} (hm : h.1 1 0 = nI 6) (hk : k < 6) (hl : q < 6) (hn : n < 2 ^ 31) (hz : h.1 2 k = -1) : CT 5 yX6_copy cX6_copy 6 (some .int) [.ref 0, .int (nI k), .int i, .int (nI q), .int j, .int (nI n)] h (some (.int (-3))) (finC h 1) := by
  refine CT.of (own := RX6) rfl (by decide) (ro_i _) [.ref 0, .int (nI k), .int i, .int (nI q), .int j, .int (nI n)] rfl (Nat.le_of_ble_eq_true rfl) (fun E hp => ?_)
  refine s_aload_n (pc := 0) 0 rfl rfl dX6_copy_0 ?_
  refine s_getr (pc := 1) (b := 1) fl_X6_14 rfl rfl rfl dX6_copy_1 ?_
  refine s_iload_n (pc := 4) 1 rfl rfl dX6_copy_4 ?_
  refine s_cvi1 (pc := 5) (c_X5_isNumber_1T hm hk) ml_X6_96 mw_X5_isNumber rfl (by decide) (Nat.le_of_ble_eq_true rfl) dX6_copy_5 ?_
  refine s_if_eqT (pc := 8) 22 dX6_copy_8 (by decide) ?_
  refine s_aload_n (pc := 11) 0 rfl rfl dX6_copy_11 ?_
  refine s_getr (pc := 12) (b := 1) fl_X6_14 rfl rfl rfl dX6_copy_12 ?_
  refine s_iload_n (pc := 15) 3 rfl rfl dX6_copy_15 ?_
  refine s_cvi1 (pc := 16) (c_X5_isNumber_1T hm hl) ml_X6_96 mw_X5_isNumber rfl (by decide) (Nat.le_of_ble_eq_true rfl) dX6_copy_16 ?_
  refine s_if_neT (pc := 19) 24 dX6_copy_19 (by decide) ?_
  refine s_iload (pc := 24) rfl dX6_copy_24 ?_
  refine s_if_geN (pc := 26) (by omega) 35 dX6_copy_26 (by decide) ?_
  refine s_aload_n (pc := 35) 0 rfl rfl dX6_copy_35 ?_
  refine s_getr (pc := 36) (b := 1) fl_X6_14 rfl rfl rfl dX6_copy_36 ?_
  refine s_iload_n (pc := 39) 1 rfl rfl dX6_copy_39 ?_
  refine s_cvi1 (pc := 40) (c_X5_isThere_1F hm hk hz) ml_X6_104 mw_X5_isThere rfl (by decide) (Nat.le_of_ble_eq_true rfl) dX6_copy_40 ?_
  refine s_if_eqF (pc := 43) 57 dX6_copy_43 (by decide) ?_
  refine s_aload_n (pc := 57) 0 rfl rfl dX6_copy_57 ?_
  refine s_iconst (pc := 58) (k_i1N) dX6_copy_58 ?_
  refine s_cvi1 (pc := 59) (c_X6_refuse (by decide) (by decide)) ml_X6_100 mw_X6_refuse rfl (by decide) (Nat.le_of_ble_eq_true rfl) dX6_copy_59 ?_
  refine s_iret (pc := 62) dX6_copy_62 (PostE.of hp ?_ ?_)
  · rfl
  · rfl

set_option maxRecDepth 20000 in
theorem c_X6_copyM2 {k q n m : Nat} {i j : Int32} {h : Hp} (hm : h.1 1 0 = nI 6) (hk : k < 6) (hl : q < 6) (hn : n < 2 ^ 31) (hz : h.1 2 k = nI m) (hz6 : m ≤ 40) (hy : h.1 2 q = -1) : CT 5 yX6_copy cX6_copy 6 (some .int) [.ref 0, .int (nI k), .int i, .int (nI q), .int j, .int (nI n)] h (some (.int (-3))) (finC h 1) := by
  refine CT.of (own := RX6) rfl (by decide) (ro_i _) [.ref 0, .int (nI k), .int i, .int (nI q), .int j, .int (nI n)] rfl (Nat.le_of_ble_eq_true rfl) (fun E hp => ?_)
  refine s_aload_n (pc := 0) 0 rfl rfl dX6_copy_0 ?_
  refine s_getr (pc := 1) (b := 1) fl_X6_14 rfl rfl rfl dX6_copy_1 ?_
  refine s_iload_n (pc := 4) 1 rfl rfl dX6_copy_4 ?_
  refine s_cvi1 (pc := 5) (c_X5_isNumber_1T hm hk) ml_X6_96 mw_X5_isNumber rfl (by decide) (Nat.le_of_ble_eq_true rfl) dX6_copy_5 ?_
  refine s_if_eqT (pc := 8) 22 dX6_copy_8 (by decide) ?_
  refine s_aload_n (pc := 11) 0 rfl rfl dX6_copy_11 ?_
  refine s_getr (pc := 12) (b := 1) fl_X6_14 rfl rfl rfl dX6_copy_12 ?_
  refine s_iload_n (pc := 15) 3 rfl rfl dX6_copy_15 ?_
  refine s_cvi1 (pc := 16) (c_X5_isNumber_1T hm hl) ml_X6_96 mw_X5_isNumber rfl (by decide) (Nat.le_of_ble_eq_true rfl) dX6_copy_16 ?_
  refine s_if_neT (pc := 19) 24 dX6_copy_19 (by decide) ?_
  refine s_iload (pc := 24) rfl dX6_copy_24 ?_
  refine s_if_geN (pc := 26) (by omega) 35 dX6_copy_26 (by decide) ?_
  refine s_aload_n (pc := 35) 0 rfl rfl dX6_copy_35 ?_
  refine s_getr (pc := 36) (b := 1) fl_X6_14 rfl rfl rfl dX6_copy_36 ?_
  refine s_iload_n (pc := 39) 1 rfl rfl dX6_copy_39 ?_
  refine s_cvi1 (pc := 40) (c_X5_isThere_1T hm hk hz (by omega)) ml_X6_104 mw_X5_isThere rfl (by decide) (Nat.le_of_ble_eq_true rfl) dX6_copy_40 ?_
  refine s_if_eqT (pc := 43) 57 dX6_copy_43 (by decide) ?_
  refine s_aload_n (pc := 46) 0 rfl rfl dX6_copy_46 ?_
  refine s_getr (pc := 47) (b := 1) fl_X6_14 rfl rfl rfl dX6_copy_47 ?_
  refine s_iload_n (pc := 50) 3 rfl rfl dX6_copy_50 ?_
  refine s_cvi1 (pc := 51) (c_X5_isThere_1F hm hl hy) ml_X6_104 mw_X5_isThere rfl (by decide) (Nat.le_of_ble_eq_true rfl) dX6_copy_51 ?_
  refine s_if_neF (pc := 54) 63 dX6_copy_54 (by decide) ?_
  refine s_aload_n (pc := 57) 0 rfl rfl dX6_copy_57 ?_
  refine s_iconst (pc := 58) (k_i1N) dX6_copy_58 ?_
  refine s_cvi1 (pc := 59) (c_X6_refuse (by decide) (by decide)) ml_X6_100 mw_X6_refuse rfl (by decide) (Nat.le_of_ble_eq_true rfl) dX6_copy_59 ?_
  refine s_iret (pc := 62) dX6_copy_62 (PostE.of hp ?_ ?_)
  · rfl
  · rfl

set_option maxRecDepth 20000 in
theorem c_X6_copyY1 {k q n m u : Nat} {i j : Int32} {h : Hp} (hm : h.1 1 0 = nI 6) (hk : k < 6) (hl : q < 6) (hn : n < 2 ^ 31) (hz : h.1 2 k = nI m) (hz6 : m ≤ 40) (hy : h.1 2 q = nI u) (hy6 : u ≤ 40) (hf : i < 0 ∨ nI m < i) : CT 5 yX6_copy cX6_copy 6 (some .int) [.ref 0, .int (nI k), .int i, .int (nI q), .int j, .int (nI n)] h (some (.int (-3))) (finC h 2) := by
  refine CT.of (own := RX6) rfl (by decide) (ro_i _) [.ref 0, .int (nI k), .int i, .int (nI q), .int j, .int (nI n)] rfl (Nat.le_of_ble_eq_true rfl) (fun E hp => ?_)
  refine s_aload_n (pc := 0) 0 rfl rfl dX6_copy_0 ?_
  refine s_getr (pc := 1) (b := 1) fl_X6_14 rfl rfl rfl dX6_copy_1 ?_
  refine s_iload_n (pc := 4) 1 rfl rfl dX6_copy_4 ?_
  refine s_cvi1 (pc := 5) (c_X5_isNumber_1T hm hk) ml_X6_96 mw_X5_isNumber rfl (by decide) (Nat.le_of_ble_eq_true rfl) dX6_copy_5 ?_
  refine s_if_eqT (pc := 8) 22 dX6_copy_8 (by decide) ?_
  refine s_aload_n (pc := 11) 0 rfl rfl dX6_copy_11 ?_
  refine s_getr (pc := 12) (b := 1) fl_X6_14 rfl rfl rfl dX6_copy_12 ?_
  refine s_iload_n (pc := 15) 3 rfl rfl dX6_copy_15 ?_
  refine s_cvi1 (pc := 16) (c_X5_isNumber_1T hm hl) ml_X6_96 mw_X5_isNumber rfl (by decide) (Nat.le_of_ble_eq_true rfl) dX6_copy_16 ?_
  refine s_if_neT (pc := 19) 24 dX6_copy_19 (by decide) ?_
  refine s_iload (pc := 24) rfl dX6_copy_24 ?_
  refine s_if_geN (pc := 26) (by omega) 35 dX6_copy_26 (by decide) ?_
  refine s_aload_n (pc := 35) 0 rfl rfl dX6_copy_35 ?_
  refine s_getr (pc := 36) (b := 1) fl_X6_14 rfl rfl rfl dX6_copy_36 ?_
  refine s_iload_n (pc := 39) 1 rfl rfl dX6_copy_39 ?_
  refine s_cvi1 (pc := 40) (c_X5_isThere_1T hm hk hz (by omega)) ml_X6_104 mw_X5_isThere rfl (by decide) (Nat.le_of_ble_eq_true rfl) dX6_copy_40 ?_
  refine s_if_eqT (pc := 43) 57 dX6_copy_43 (by decide) ?_
  refine s_aload_n (pc := 46) 0 rfl rfl dX6_copy_46 ?_
  refine s_getr (pc := 47) (b := 1) fl_X6_14 rfl rfl rfl dX6_copy_47 ?_
  refine s_iload_n (pc := 50) 3 rfl rfl dX6_copy_50 ?_
  refine s_cvi1 (pc := 51) (c_X5_isThere_1T hm hl hy (by omega)) ml_X6_104 mw_X5_isThere rfl (by decide) (Nat.le_of_ble_eq_true rfl) dX6_copy_51 ?_
  refine s_if_neT (pc := 54) 63 dX6_copy_54 (by decide) ?_
  refine s_aload_n (pc := 63) 0 rfl rfl dX6_copy_63 ?_
  refine s_getr (pc := 64) (b := 1) fl_X6_14 rfl rfl rfl dX6_copy_64 ?_
  refine s_iload_n (pc := 67) 1 rfl rfl dX6_copy_67 ?_
  refine s_iload_n (pc := 68) 2 rfl rfl dX6_copy_68 ?_
  refine s_iload (pc := 69) rfl dX6_copy_69 ?_
  refine s_cvi3 (pc := 71) (c_X5_hasPlaces_1F1 hm hk hz hz6 hn hf) ml_X6_107 mw_X5_hasPlaces rfl (by decide) (Nat.le_of_ble_eq_true rfl) dX6_copy_71 ?_
  refine s_if_eqF (pc := 74) 92 dX6_copy_74 (by decide) ?_
  refine s_aload_n (pc := 92) 0 rfl rfl dX6_copy_92 ?_
  refine s_iconst (pc := 93) (k_i2N) dX6_copy_93 ?_
  refine s_cvi1 (pc := 94) (c_X6_refuse (by decide) (by decide)) ml_X6_100 mw_X6_refuse rfl (by decide) (Nat.le_of_ble_eq_true rfl) dX6_copy_94 ?_
  refine s_iret (pc := 97) dX6_copy_97 (PostE.of hp ?_ ?_)
  · rfl
  · rfl

set_option maxRecDepth 20000 in
theorem c_X6_copyY2 {k q n m u : Nat} {f : Nat} {j : Int32} {h : Hp} (hm : h.1 1 0 = nI 6) (hk : k < 6) (hl : q < 6) (hn : n < 2 ^ 31) (hz : h.1 2 k = nI m) (hz6 : m ≤ 40) (hy : h.1 2 q = nI u) (hy6 : u ≤ 40) (hf : f ≤ m) (hc : m < f + n) : CT 5 yX6_copy cX6_copy 6 (some .int) [.ref 0, .int (nI k), .int (nI f), .int (nI q), .int j, .int (nI n)] h (some (.int (-3))) (finC h 2) := by
  refine CT.of (own := RX6) rfl (by decide) (ro_i _) [.ref 0, .int (nI k), .int (nI f), .int (nI q), .int j, .int (nI n)] rfl (Nat.le_of_ble_eq_true rfl) (fun E hp => ?_)
  refine s_aload_n (pc := 0) 0 rfl rfl dX6_copy_0 ?_
  refine s_getr (pc := 1) (b := 1) fl_X6_14 rfl rfl rfl dX6_copy_1 ?_
  refine s_iload_n (pc := 4) 1 rfl rfl dX6_copy_4 ?_
  refine s_cvi1 (pc := 5) (c_X5_isNumber_1T hm hk) ml_X6_96 mw_X5_isNumber rfl (by decide) (Nat.le_of_ble_eq_true rfl) dX6_copy_5 ?_
  refine s_if_eqT (pc := 8) 22 dX6_copy_8 (by decide) ?_
  refine s_aload_n (pc := 11) 0 rfl rfl dX6_copy_11 ?_
  refine s_getr (pc := 12) (b := 1) fl_X6_14 rfl rfl rfl dX6_copy_12 ?_
  refine s_iload_n (pc := 15) 3 rfl rfl dX6_copy_15 ?_
  refine s_cvi1 (pc := 16) (c_X5_isNumber_1T hm hl) ml_X6_96 mw_X5_isNumber rfl (by decide) (Nat.le_of_ble_eq_true rfl) dX6_copy_16 ?_
  refine s_if_neT (pc := 19) 24 dX6_copy_19 (by decide) ?_
  refine s_iload (pc := 24) rfl dX6_copy_24 ?_
  refine s_if_geN (pc := 26) (by omega) 35 dX6_copy_26 (by decide) ?_
  refine s_aload_n (pc := 35) 0 rfl rfl dX6_copy_35 ?_
  refine s_getr (pc := 36) (b := 1) fl_X6_14 rfl rfl rfl dX6_copy_36 ?_
  refine s_iload_n (pc := 39) 1 rfl rfl dX6_copy_39 ?_
  refine s_cvi1 (pc := 40) (c_X5_isThere_1T hm hk hz (by omega)) ml_X6_104 mw_X5_isThere rfl (by decide) (Nat.le_of_ble_eq_true rfl) dX6_copy_40 ?_
  refine s_if_eqT (pc := 43) 57 dX6_copy_43 (by decide) ?_
  refine s_aload_n (pc := 46) 0 rfl rfl dX6_copy_46 ?_
  refine s_getr (pc := 47) (b := 1) fl_X6_14 rfl rfl rfl dX6_copy_47 ?_
  refine s_iload_n (pc := 50) 3 rfl rfl dX6_copy_50 ?_
  refine s_cvi1 (pc := 51) (c_X5_isThere_1T hm hl hy (by omega)) ml_X6_104 mw_X5_isThere rfl (by decide) (Nat.le_of_ble_eq_true rfl) dX6_copy_51 ?_
  refine s_if_neT (pc := 54) 63 dX6_copy_54 (by decide) ?_
  refine s_aload_n (pc := 63) 0 rfl rfl dX6_copy_63 ?_
  refine s_getr (pc := 64) (b := 1) fl_X6_14 rfl rfl rfl dX6_copy_64 ?_
  refine s_iload_n (pc := 67) 1 rfl rfl dX6_copy_67 ?_
  refine s_iload_n (pc := 68) 2 rfl rfl dX6_copy_68 ?_
  refine s_iload (pc := 69) rfl dX6_copy_69 ?_
  refine s_cvi3 (pc := 71) (c_X5_hasPlaces_1F2 hm hk hz hz6 hn hf hc) ml_X6_107 mw_X5_hasPlaces rfl (by decide) (Nat.le_of_ble_eq_true rfl) dX6_copy_71 ?_
  refine s_if_eqF (pc := 74) 92 dX6_copy_74 (by decide) ?_
  refine s_aload_n (pc := 92) 0 rfl rfl dX6_copy_92 ?_
  refine s_iconst (pc := 93) (k_i2N) dX6_copy_93 ?_
  refine s_cvi1 (pc := 94) (c_X6_refuse (by decide) (by decide)) ml_X6_100 mw_X6_refuse rfl (by decide) (Nat.le_of_ble_eq_true rfl) dX6_copy_94 ?_
  refine s_iret (pc := 97) dX6_copy_97 (PostE.of hp ?_ ?_)
  · rfl
  · rfl

set_option maxRecDepth 20000 in
theorem c_X6_copyY3 {k q n m u : Nat} {f : Nat} {j : Int32} {h : Hp} (hm : h.1 1 0 = nI 6) (hk : k < 6) (hl : q < 6) (hn : n < 2 ^ 31) (hz : h.1 2 k = nI m) (hz6 : m ≤ 40) (hy : h.1 2 q = nI u) (hy6 : u ≤ 40) (hf : f + n ≤ m) (hg : j < 0 ∨ nI u < j) : CT 5 yX6_copy cX6_copy 6 (some .int) [.ref 0, .int (nI k), .int (nI f), .int (nI q), .int j, .int (nI n)] h (some (.int (-3))) (finC h 2) := by
  refine CT.of (own := RX6) rfl (by decide) (ro_i _) [.ref 0, .int (nI k), .int (nI f), .int (nI q), .int j, .int (nI n)] rfl (Nat.le_of_ble_eq_true rfl) (fun E hp => ?_)
  refine s_aload_n (pc := 0) 0 rfl rfl dX6_copy_0 ?_
  refine s_getr (pc := 1) (b := 1) fl_X6_14 rfl rfl rfl dX6_copy_1 ?_
  refine s_iload_n (pc := 4) 1 rfl rfl dX6_copy_4 ?_
  refine s_cvi1 (pc := 5) (c_X5_isNumber_1T hm hk) ml_X6_96 mw_X5_isNumber rfl (by decide) (Nat.le_of_ble_eq_true rfl) dX6_copy_5 ?_
  refine s_if_eqT (pc := 8) 22 dX6_copy_8 (by decide) ?_
  refine s_aload_n (pc := 11) 0 rfl rfl dX6_copy_11 ?_
  refine s_getr (pc := 12) (b := 1) fl_X6_14 rfl rfl rfl dX6_copy_12 ?_
  refine s_iload_n (pc := 15) 3 rfl rfl dX6_copy_15 ?_
  refine s_cvi1 (pc := 16) (c_X5_isNumber_1T hm hl) ml_X6_96 mw_X5_isNumber rfl (by decide) (Nat.le_of_ble_eq_true rfl) dX6_copy_16 ?_
  refine s_if_neT (pc := 19) 24 dX6_copy_19 (by decide) ?_
  refine s_iload (pc := 24) rfl dX6_copy_24 ?_
  refine s_if_geN (pc := 26) (by omega) 35 dX6_copy_26 (by decide) ?_
  refine s_aload_n (pc := 35) 0 rfl rfl dX6_copy_35 ?_
  refine s_getr (pc := 36) (b := 1) fl_X6_14 rfl rfl rfl dX6_copy_36 ?_
  refine s_iload_n (pc := 39) 1 rfl rfl dX6_copy_39 ?_
  refine s_cvi1 (pc := 40) (c_X5_isThere_1T hm hk hz (by omega)) ml_X6_104 mw_X5_isThere rfl (by decide) (Nat.le_of_ble_eq_true rfl) dX6_copy_40 ?_
  refine s_if_eqT (pc := 43) 57 dX6_copy_43 (by decide) ?_
  refine s_aload_n (pc := 46) 0 rfl rfl dX6_copy_46 ?_
  refine s_getr (pc := 47) (b := 1) fl_X6_14 rfl rfl rfl dX6_copy_47 ?_
  refine s_iload_n (pc := 50) 3 rfl rfl dX6_copy_50 ?_
  refine s_cvi1 (pc := 51) (c_X5_isThere_1T hm hl hy (by omega)) ml_X6_104 mw_X5_isThere rfl (by decide) (Nat.le_of_ble_eq_true rfl) dX6_copy_51 ?_
  refine s_if_neT (pc := 54) 63 dX6_copy_54 (by decide) ?_
  refine s_aload_n (pc := 63) 0 rfl rfl dX6_copy_63 ?_
  refine s_getr (pc := 64) (b := 1) fl_X6_14 rfl rfl rfl dX6_copy_64 ?_
  refine s_iload_n (pc := 67) 1 rfl rfl dX6_copy_67 ?_
  refine s_iload_n (pc := 68) 2 rfl rfl dX6_copy_68 ?_
  refine s_iload (pc := 69) rfl dX6_copy_69 ?_
  refine s_cvi3 (pc := 71) (c_X5_hasPlaces_1T hm hk hz hz6 hf) ml_X6_107 mw_X5_hasPlaces rfl (by decide) (Nat.le_of_ble_eq_true rfl) dX6_copy_71 ?_
  refine s_if_eqT (pc := 74) 92 dX6_copy_74 (by decide) ?_
  refine s_aload_n (pc := 77) 0 rfl rfl dX6_copy_77 ?_
  refine s_getr (pc := 78) (b := 1) fl_X6_14 rfl rfl rfl dX6_copy_78 ?_
  refine s_iload_n (pc := 81) 3 rfl rfl dX6_copy_81 ?_
  refine s_iload (pc := 82) rfl dX6_copy_82 ?_
  refine s_iload (pc := 84) rfl dX6_copy_84 ?_
  refine s_cvi3 (pc := 86) (c_X5_hasPlaces_1F1 hm hl hy hy6 hn hg) ml_X6_107 mw_X5_hasPlaces rfl (by decide) (Nat.le_of_ble_eq_true rfl) dX6_copy_86 ?_
  refine s_if_neF (pc := 89) 98 dX6_copy_89 (by decide) ?_
  refine s_aload_n (pc := 92) 0 rfl rfl dX6_copy_92 ?_
  refine s_iconst (pc := 93) (k_i2N) dX6_copy_93 ?_
  refine s_cvi1 (pc := 94) (c_X6_refuse (by decide) (by decide)) ml_X6_100 mw_X6_refuse rfl (by decide) (Nat.le_of_ble_eq_true rfl) dX6_copy_94 ?_
  refine s_iret (pc := 97) dX6_copy_97 (PostE.of hp ?_ ?_)
  · rfl
  · rfl

set_option maxRecDepth 20000 in
theorem c_X6_copyY4 {k q n m u : Nat} {f g : Nat} {h : Hp} (hm : h.1 1 0 = nI 6) (hk : k < 6) (hl : q < 6) (hn : n < 2 ^ 31) (hz : h.1 2 k = nI m) (hz6 : m ≤ 40) (hy : h.1 2 q = nI u) (hy6 : u ≤ 40) (hf : f + n ≤ m) (hg : g ≤ u) (hc : u < g + n) : CT 5 yX6_copy cX6_copy 6 (some .int) [.ref 0, .int (nI k), .int (nI f), .int (nI q), .int (nI g), .int (nI n)] h (some (.int (-3))) (finC h 2) := by
  refine CT.of (own := RX6) rfl (by decide) (ro_i _) [.ref 0, .int (nI k), .int (nI f), .int (nI q), .int (nI g), .int (nI n)] rfl (Nat.le_of_ble_eq_true rfl) (fun E hp => ?_)
  refine s_aload_n (pc := 0) 0 rfl rfl dX6_copy_0 ?_
  refine s_getr (pc := 1) (b := 1) fl_X6_14 rfl rfl rfl dX6_copy_1 ?_
  refine s_iload_n (pc := 4) 1 rfl rfl dX6_copy_4 ?_
  refine s_cvi1 (pc := 5) (c_X5_isNumber_1T hm hk) ml_X6_96 mw_X5_isNumber rfl (by decide) (Nat.le_of_ble_eq_true rfl) dX6_copy_5 ?_
  refine s_if_eqT (pc := 8) 22 dX6_copy_8 (by decide) ?_
  refine s_aload_n (pc := 11) 0 rfl rfl dX6_copy_11 ?_
  refine s_getr (pc := 12) (b := 1) fl_X6_14 rfl rfl rfl dX6_copy_12 ?_
  refine s_iload_n (pc := 15) 3 rfl rfl dX6_copy_15 ?_
  refine s_cvi1 (pc := 16) (c_X5_isNumber_1T hm hl) ml_X6_96 mw_X5_isNumber rfl (by decide) (Nat.le_of_ble_eq_true rfl) dX6_copy_16 ?_
  refine s_if_neT (pc := 19) 24 dX6_copy_19 (by decide) ?_
  refine s_iload (pc := 24) rfl dX6_copy_24 ?_
  refine s_if_geN (pc := 26) (by omega) 35 dX6_copy_26 (by decide) ?_
  refine s_aload_n (pc := 35) 0 rfl rfl dX6_copy_35 ?_
  refine s_getr (pc := 36) (b := 1) fl_X6_14 rfl rfl rfl dX6_copy_36 ?_
  refine s_iload_n (pc := 39) 1 rfl rfl dX6_copy_39 ?_
  refine s_cvi1 (pc := 40) (c_X5_isThere_1T hm hk hz (by omega)) ml_X6_104 mw_X5_isThere rfl (by decide) (Nat.le_of_ble_eq_true rfl) dX6_copy_40 ?_
  refine s_if_eqT (pc := 43) 57 dX6_copy_43 (by decide) ?_
  refine s_aload_n (pc := 46) 0 rfl rfl dX6_copy_46 ?_
  refine s_getr (pc := 47) (b := 1) fl_X6_14 rfl rfl rfl dX6_copy_47 ?_
  refine s_iload_n (pc := 50) 3 rfl rfl dX6_copy_50 ?_
  refine s_cvi1 (pc := 51) (c_X5_isThere_1T hm hl hy (by omega)) ml_X6_104 mw_X5_isThere rfl (by decide) (Nat.le_of_ble_eq_true rfl) dX6_copy_51 ?_
  refine s_if_neT (pc := 54) 63 dX6_copy_54 (by decide) ?_
  refine s_aload_n (pc := 63) 0 rfl rfl dX6_copy_63 ?_
  refine s_getr (pc := 64) (b := 1) fl_X6_14 rfl rfl rfl dX6_copy_64 ?_
  refine s_iload_n (pc := 67) 1 rfl rfl dX6_copy_67 ?_
  refine s_iload_n (pc := 68) 2 rfl rfl dX6_copy_68 ?_
  refine s_iload (pc := 69) rfl dX6_copy_69 ?_
  refine s_cvi3 (pc := 71) (c_X5_hasPlaces_1T hm hk hz hz6 hf) ml_X6_107 mw_X5_hasPlaces rfl (by decide) (Nat.le_of_ble_eq_true rfl) dX6_copy_71 ?_
  refine s_if_eqT (pc := 74) 92 dX6_copy_74 (by decide) ?_
  refine s_aload_n (pc := 77) 0 rfl rfl dX6_copy_77 ?_
  refine s_getr (pc := 78) (b := 1) fl_X6_14 rfl rfl rfl dX6_copy_78 ?_
  refine s_iload_n (pc := 81) 3 rfl rfl dX6_copy_81 ?_
  refine s_iload (pc := 82) rfl dX6_copy_82 ?_
  refine s_iload (pc := 84) rfl dX6_copy_84 ?_
  refine s_cvi3 (pc := 86) (c_X5_hasPlaces_1F2 hm hl hy hy6 hn hg hc) ml_X6_107 mw_X5_hasPlaces rfl (by decide) (Nat.le_of_ble_eq_true rfl) dX6_copy_86 ?_
  refine s_if_neF (pc := 89) 98 dX6_copy_89 (by decide) ?_
  refine s_aload_n (pc := 92) 0 rfl rfl dX6_copy_92 ?_
  refine s_iconst (pc := 93) (k_i2N) dX6_copy_93 ?_
  refine s_cvi1 (pc := 94) (c_X6_refuse (by decide) (by decide)) ml_X6_100 mw_X6_refuse rfl (by decide) (Nat.le_of_ble_eq_true rfl) dX6_copy_94 ?_
  refine s_iret (pc := 97) dX6_copy_97 (PostE.of hp ?_ ?_)
  · rfl
  · rfl

set_option maxRecDepth 20000 in
theorem c_X6_copyO {k q n m u : Nat} {f g : Nat} {h : Hp} (hm : h.1 1 0 = nI 6) (hk : k < 6) (hl : q < 6) (hz : h.1 2 k = nI m) (hz6 : m ≤ 40) (hy : h.1 2 q = nI u) (hy6 : u ≤ 40) (hf : f + n ≤ m) (hg : g + n ≤ u) : CT 5 yX6_copy cX6_copy 6 (some .int) [.ref 0, .int (nI k), .int (nI f), .int (nI q), .int (nI g), .int (nI n)] h (some (.int (nI 1))) (ucp h (3 + 1 + k) f (3 + 1 + q) g n) := by
  refine CT.of (own := RX6) rfl (by decide) (ro_i _) [.ref 0, .int (nI k), .int (nI f), .int (nI q), .int (nI g), .int (nI n)] rfl (Nat.le_of_ble_eq_true rfl) (fun E hp => ?_)
  refine s_aload_n (pc := 0) 0 rfl rfl dX6_copy_0 ?_
  refine s_getr (pc := 1) (b := 1) fl_X6_14 rfl rfl rfl dX6_copy_1 ?_
  refine s_iload_n (pc := 4) 1 rfl rfl dX6_copy_4 ?_
  refine s_cvi1 (pc := 5) (c_X5_isNumber_1T hm hk) ml_X6_96 mw_X5_isNumber rfl (by decide) (Nat.le_of_ble_eq_true rfl) dX6_copy_5 ?_
  refine s_if_eqT (pc := 8) 22 dX6_copy_8 (by decide) ?_
  refine s_aload_n (pc := 11) 0 rfl rfl dX6_copy_11 ?_
  refine s_getr (pc := 12) (b := 1) fl_X6_14 rfl rfl rfl dX6_copy_12 ?_
  refine s_iload_n (pc := 15) 3 rfl rfl dX6_copy_15 ?_
  refine s_cvi1 (pc := 16) (c_X5_isNumber_1T hm hl) ml_X6_96 mw_X5_isNumber rfl (by decide) (Nat.le_of_ble_eq_true rfl) dX6_copy_16 ?_
  refine s_if_neT (pc := 19) 24 dX6_copy_19 (by decide) ?_
  refine s_iload (pc := 24) rfl dX6_copy_24 ?_
  refine s_if_geN (pc := 26) (by omega) 35 dX6_copy_26 (by decide) ?_
  refine s_aload_n (pc := 35) 0 rfl rfl dX6_copy_35 ?_
  refine s_getr (pc := 36) (b := 1) fl_X6_14 rfl rfl rfl dX6_copy_36 ?_
  refine s_iload_n (pc := 39) 1 rfl rfl dX6_copy_39 ?_
  refine s_cvi1 (pc := 40) (c_X5_isThere_1T hm hk hz (by omega)) ml_X6_104 mw_X5_isThere rfl (by decide) (Nat.le_of_ble_eq_true rfl) dX6_copy_40 ?_
  refine s_if_eqT (pc := 43) 57 dX6_copy_43 (by decide) ?_
  refine s_aload_n (pc := 46) 0 rfl rfl dX6_copy_46 ?_
  refine s_getr (pc := 47) (b := 1) fl_X6_14 rfl rfl rfl dX6_copy_47 ?_
  refine s_iload_n (pc := 50) 3 rfl rfl dX6_copy_50 ?_
  refine s_cvi1 (pc := 51) (c_X5_isThere_1T hm hl hy (by omega)) ml_X6_104 mw_X5_isThere rfl (by decide) (Nat.le_of_ble_eq_true rfl) dX6_copy_51 ?_
  refine s_if_neT (pc := 54) 63 dX6_copy_54 (by decide) ?_
  refine s_aload_n (pc := 63) 0 rfl rfl dX6_copy_63 ?_
  refine s_getr (pc := 64) (b := 1) fl_X6_14 rfl rfl rfl dX6_copy_64 ?_
  refine s_iload_n (pc := 67) 1 rfl rfl dX6_copy_67 ?_
  refine s_iload_n (pc := 68) 2 rfl rfl dX6_copy_68 ?_
  refine s_iload (pc := 69) rfl dX6_copy_69 ?_
  refine s_cvi3 (pc := 71) (c_X5_hasPlaces_1T hm hk hz hz6 hf) ml_X6_107 mw_X5_hasPlaces rfl (by decide) (Nat.le_of_ble_eq_true rfl) dX6_copy_71 ?_
  refine s_if_eqT (pc := 74) 92 dX6_copy_74 (by decide) ?_
  refine s_aload_n (pc := 77) 0 rfl rfl dX6_copy_77 ?_
  refine s_getr (pc := 78) (b := 1) fl_X6_14 rfl rfl rfl dX6_copy_78 ?_
  refine s_iload_n (pc := 81) 3 rfl rfl dX6_copy_81 ?_
  refine s_iload (pc := 82) rfl dX6_copy_82 ?_
  refine s_iload (pc := 84) rfl dX6_copy_84 ?_
  refine s_cvi3 (pc := 86) (c_X5_hasPlaces_1T hm hl hy hy6 hg) ml_X6_107 mw_X5_hasPlaces rfl (by decide) (Nat.le_of_ble_eq_true rfl) dX6_copy_86 ?_
  refine s_if_neT (pc := 89) 98 dX6_copy_89 (by decide) ?_
  refine s_aload_n (pc := 98) 0 rfl rfl dX6_copy_98 ?_
  refine s_getr (pc := 99) (b := 1) fl_X6_14 rfl rfl rfl dX6_copy_99 ?_
  refine s_getr (pc := 102) (b := 3) fl_X6_111 rfl rfl rfl dX6_copy_102 ?_
  refine s_iload_n (pc := 105) 1 rfl rfl dX6_copy_105 ?_
  refine s_aald (pc := 106) (b := 3 + 1 + k) (_) rfl rfl (by omega) rfl dX6_copy_106 ?_
  refine s_iload_n (pc := 107) 2 rfl rfl dX6_copy_107 ?_
  refine s_aload_n (pc := 108) 0 rfl rfl dX6_copy_108 ?_
  refine s_getr (pc := 109) (b := 1) fl_X6_14 rfl rfl rfl dX6_copy_109 ?_
  refine s_getr (pc := 112) (b := 3) fl_X6_111 rfl rfl rfl dX6_copy_112 ?_
  refine s_iload_n (pc := 115) 3 rfl rfl dX6_copy_115 ?_
  refine s_aald (pc := 116) (b := 3 + 1 + q) (_) rfl rfl (by omega) rfl dX6_copy_116 ?_
  refine s_iload (pc := 117) rfl dX6_copy_117 ?_
  refine s_iload (pc := 119) rfl dX6_copy_119 ?_
  refine s_acopy (pc := 121) (f) (g) (n) (ly_1 k hk) (ly_1 q hl) rfl rfl rfl (by omega) (by omega) ml_X6_115 lm_cp.1 lm_cp.2.1 lm_cp.2.2 (by decide) (Nat.le_of_ble_eq_true rfl) dX6_copy_121 ?_
  refine s_iconst (pc := 124) (k_i1N) dX6_copy_124 ?_
  refine s_iret (pc := 125) dX6_copy_125 (PostE.of hp ?_ ?_)
  · rfl
  · rfl

set_option maxRecDepth 20000 in
theorem c_X6_asked {h : Hp} : CT 1 yX6_asked cX6_asked 1 (some .int) [.ref 0] h (some (.int (h.1 0 10))) (h) := by
  refine CT.of (own := RX6) rfl (by decide) (ro_i _) [.ref 0] rfl (Nat.le_of_ble_eq_true rfl) (fun E hp => ?_)
  refine s_aload_n (pc := 0) 0 rfl rfl dX6_asked_0 ?_
  refine s_geti (pc := 1) fl_X6_69 rfl rfl dX6_asked_1 ?_
  refine s_iret (pc := 4) dX6_asked_4 (PostE.of hp ?_ ?_)
  · rfl
  · rfl

set_option maxRecDepth 20000 in
theorem c_X6_finding {h : Hp} : CT 1 yX6_finding cX6_finding 1 (some .int) [.ref 0] h (some (.int (h.1 0 9))) (h) := by
  refine CT.of (own := RX6) rfl (by decide) (ro_i _) [.ref 0] rfl (Nat.le_of_ble_eq_true rfl) (fun E hp => ?_)
  refine s_aload_n (pc := 0) 0 rfl rfl dX6_finding_0 ?_
  refine s_geti (pc := 1) fl_X6_65 rfl rfl dX6_finding_1 ?_
  refine s_iret (pc := 4) dX6_finding_4 (PostE.of hp ?_ ?_)
  · rfl
  · rfl

set_option maxRecDepth 20000 in
theorem c_X6_upper {h : Hp} : CT 1 yX6_upper cX6_upper 1 (some .long) [.ref 0] h (some (.long (h.2 47 1))) (h) := by
  refine CT.of (own := RX6) rfl (by decide) (ro_l _) [.ref 0] rfl (Nat.le_of_ble_eq_true rfl) (fun E hp => ?_)
  refine s_aload_n (pc := 0) 0 rfl rfl dX6_upper_0 ?_
  refine s_getr (pc := 1) (b := 47) fl_X6_57 rfl rfl rfl dX6_upper_1 ?_
  refine s_getl (pc := 4) fl_X6_287 rfl rfl dX6_upper_4 ?_
  refine s_lret (pc := 7) dX6_upper_7 (PostE.of hp ?_ ?_)
  · rfl
  · rfl

set_option maxRecDepth 20000 in
theorem c_X6_lower {h : Hp} : CT 1 yX6_lower cX6_lower 1 (some .long) [.ref 0] h (some (.long (h.2 47 2))) (h) := by
  refine CT.of (own := RX6) rfl (by decide) (ro_l _) [.ref 0] rfl (Nat.le_of_ble_eq_true rfl) (fun E hp => ?_)
  refine s_aload_n (pc := 0) 0 rfl rfl dX6_lower_0 ?_
  refine s_getr (pc := 1) (b := 47) fl_X6_57 rfl rfl rfl dX6_lower_1 ?_
  refine s_getl (pc := 4) fl_X6_291 rfl rfl dX6_lower_4 ?_
  refine s_lret (pc := 7) dX6_lower_7 (PostE.of hp ?_ ?_)
  · rfl
  · rfl

set_option maxRecDepth 20000 in
theorem c_X6_findingsO {f : Nat} {h : Hp} (hf : 1 ≤ f) (hf5 : f ≤ 5) : CT 1 yX6_findings cX6_findings 2 (some .int) [.ref 0, .int (nI f)] h (some (.int (h.1 49 f))) (h) := by
  refine CT.of (own := RX6) rfl (by decide) (ro_i _) [.ref 0, .int (nI f)] rfl (Nat.le_of_ble_eq_true rfl) (fun E hp => ?_)
  refine s_iload_n (pc := 0) 1 rfl rfl dX6_findings_0 ?_
  refine s_iconst (pc := 1) (k_i1N) dX6_findings_1 ?_
  refine s_icmp_ltN (pc := 2) (by omega) (by omega) 10 dX6_findings_2 (by decide) (fun c_2 => ?_) (fun c_2 => ?_)
  · exfalso; omega
  · refine s_iload_n (pc := 5) 1 rfl rfl dX6_findings_5 ?_
    refine s_iconst (pc := 6) (k_i5N) dX6_findings_6 ?_
    refine s_icmp_leN (pc := 7) (by omega) (by omega) 14 dX6_findings_7 (by decide) (fun c_7 => ?_) (fun c_7 => ?_)
    · refine s_aload_n (pc := 14) 0 rfl rfl dX6_findings_14 ?_
      refine s_getr (pc := 15) (b := 49) fl_X6_61 rfl rfl rfl dX6_findings_15 ?_
      refine s_iload_n (pc := 18) 1 rfl rfl dX6_findings_18 ?_
      refine s_iald (pc := 19) (_) rfl rfl (by omega) dX6_findings_19 ?_
      refine s_iret (pc := 20) dX6_findings_20 (PostE.of hp ?_ ?_)
      · rfl
      · rfl
    · exfalso; omega

set_option maxRecDepth 20000 in
theorem c_X6_findingsB {f : Int32} {h : Hp} (hb : f < nI 1 ∨ nI 5 < f) : CT 1 yX6_findings cX6_findings 2 (some .int) [.ref 0, .int f] h (some (.int (-1))) (h) := by
  refine CT.of (own := RX6) rfl (by decide) (ro_i _) [.ref 0, .int f] rfl (Nat.le_of_ble_eq_true rfl) (fun E hp => ?_)
  refine s_iload_n (pc := 0) 1 rfl rfl dX6_findings_0 ?_
  refine s_iconst (pc := 1) (k_i1N) dX6_findings_1 ?_
  refine s_icmp_lt (pc := 2) 10 dX6_findings_2 (by decide) (fun c_2 => ?_) (fun c_2 => ?_)
  · refine s_iconst (pc := 10) (k_im1) dX6_findings_10 ?_
    refine s_goto (pc := 11) 20 dX6_findings_11 (by decide) ?_
    refine s_iret (pc := 20) dX6_findings_20 (PostE.of hp ?_ ?_)
    · rfl
    · rfl
  · refine s_iload_n (pc := 5) 1 rfl rfl dX6_findings_5 ?_
    refine s_iconst (pc := 6) (k_i5N) dX6_findings_6 ?_
    refine s_icmp_le (pc := 7) 14 dX6_findings_7 (by decide) (fun c_7 => ?_) (fun c_7 => ?_)
    · exact absurd (hb.resolve_left c_2) (Int32.not_lt.mpr c_7)
    · refine s_iconst (pc := 10) (k_im1) dX6_findings_10 ?_
      refine s_goto (pc := 11) 20 dX6_findings_11 (by decide) ?_
      refine s_iret (pc := 20) dX6_findings_20 (PostE.of hp ?_ ?_)
      · rfl
      · rfl

set_option maxRecDepth 20000 in
theorem c_X6_isBerthT {k : Nat} {h : Hp} (hk : k < 6) : CT 1 yX6_isBerth cX6_isBerth 1 (some .boolean) [.int (nI k)] h (some (.int (bi True))) (h) := by
  refine CT.of (own := RX6) rfl (by decide) (ro_z _) [.int (nI k)] rfl (Nat.le_of_ble_eq_true rfl) (fun E hp => ?_)
  refine s_iload_n (pc := 0) 0 rfl rfl dX6_isBerth_0 ?_
  refine s_if_ltN (pc := 1) (by omega) 14 dX6_isBerth_1 (by decide) ?_
  refine s_iload_n (pc := 4) 0 rfl rfl dX6_isBerth_4 ?_
  refine s_bipush (pc := 5) (k_b6N) dX6_isBerth_5 ?_
  refine s_icmp_geN (pc := 7) (by omega) (by omega) 14 dX6_isBerth_7 (by decide) (fun c_7 => ?_) (fun c_7 => ?_)
  · refine s_iconst (pc := 14) (k_i0N) dX6_isBerth_14 ?_
    refine s_iret (pc := 15) dX6_isBerth_15 (PostE.of hp ?_ ?_)
    · first | rfl | (exfalso; omega)
    · first | rfl | (exfalso; omega)
  · refine s_iconst (pc := 10) (k_i1N) dX6_isBerth_10 ?_
    refine s_goto (pc := 11) 15 dX6_isBerth_11 (by decide) ?_
    refine s_iret (pc := 15) dX6_isBerth_15 (PostE.of hp ?_ ?_)
    · first | rfl | (exfalso; omega)
    · first | rfl | (exfalso; omega)

set_option maxRecDepth 20000 in
theorem c_X6_isBerthF {k : Int32} {h : Hp} (hb : k < 0 ∨ nI 6 ≤ k) : CT 1 yX6_isBerth cX6_isBerth 1 (some .boolean) [.int k] h (some (.int (bi False))) (h) := by
  refine CT.of (own := RX6) rfl (by decide) (ro_z _) [.int k] rfl (Nat.le_of_ble_eq_true rfl) (fun E hp => ?_)
  refine s_iload_n (pc := 0) 0 rfl rfl dX6_isBerth_0 ?_
  refine s_if_lt (pc := 1) 14 dX6_isBerth_1 (by decide) (fun c_1 => ?_) (fun c_1 => ?_)
  · refine s_iconst (pc := 14) (k_i0N) dX6_isBerth_14 ?_
    refine s_iret (pc := 15) dX6_isBerth_15 (PostE.of hp ?_ ?_)
    · first | rfl | exact (hb.elim c_1 c_7).elim
    · rfl
  · refine s_iload_n (pc := 4) 0 rfl rfl dX6_isBerth_4 ?_
    refine s_bipush (pc := 5) (k_b6N) dX6_isBerth_5 ?_
    refine s_icmp_ge (pc := 7) 14 dX6_isBerth_7 (by decide) (fun c_7 => ?_) (fun c_7 => ?_)
    · refine s_iconst (pc := 14) (k_i0N) dX6_isBerth_14 ?_
      refine s_iret (pc := 15) dX6_isBerth_15 (PostE.of hp ?_ ?_)
      · first | rfl | exact (hb.elim c_1 c_7).elim
      · rfl
    · refine s_iconst (pc := 10) (k_i1N) dX6_isBerth_10 ?_
      refine s_goto (pc := 11) 15 dX6_isBerth_11 (by decide) ?_
      refine s_iret (pc := 15) dX6_isBerth_15 (PostE.of hp ?_ ?_)
      · first | rfl | exact (hb.elim c_1 c_7).elim
      · rfl

set_option maxRecDepth 20000 in
theorem c_X6_isOfTwelveT {k : Nat} {h : Hp} (hk : k ≤ 12) : CT 1 yX6_isOfTwelve cX6_isOfTwelve 1 (some .boolean) [.int (nI k)] h (some (.int (bi True))) (h) := by
  refine CT.of (own := RX6) rfl (by decide) (ro_z _) [.int (nI k)] rfl (Nat.le_of_ble_eq_true rfl) (fun E hp => ?_)
  refine s_iload_n (pc := 0) 0 rfl rfl dX6_isOfTwelve_0 ?_
  refine s_if_ltN (pc := 1) (by omega) 14 dX6_isOfTwelve_1 (by decide) ?_
  refine s_iload_n (pc := 4) 0 rfl rfl dX6_isOfTwelve_4 ?_
  refine s_bipush (pc := 5) (k_b12N) dX6_isOfTwelve_5 ?_
  refine s_icmp_gtN (pc := 7) (by omega) (by omega) 14 dX6_isOfTwelve_7 (by decide) (fun c_7 => ?_) (fun c_7 => ?_)
  · refine s_iconst (pc := 14) (k_i0N) dX6_isOfTwelve_14 ?_
    refine s_iret (pc := 15) dX6_isOfTwelve_15 (PostE.of hp ?_ ?_)
    · first | rfl | (exfalso; omega)
    · first | rfl | (exfalso; omega)
  · refine s_iconst (pc := 10) (k_i1N) dX6_isOfTwelve_10 ?_
    refine s_goto (pc := 11) 15 dX6_isOfTwelve_11 (by decide) ?_
    refine s_iret (pc := 15) dX6_isOfTwelve_15 (PostE.of hp ?_ ?_)
    · first | rfl | (exfalso; omega)
    · first | rfl | (exfalso; omega)

set_option maxRecDepth 20000 in
theorem c_X6_isOfTwelveF {k : Int32} {h : Hp} (hb : k < 0 ∨ nI 12 < k) : CT 1 yX6_isOfTwelve cX6_isOfTwelve 1 (some .boolean) [.int k] h (some (.int (bi False))) (h) := by
  refine CT.of (own := RX6) rfl (by decide) (ro_z _) [.int k] rfl (Nat.le_of_ble_eq_true rfl) (fun E hp => ?_)
  refine s_iload_n (pc := 0) 0 rfl rfl dX6_isOfTwelve_0 ?_
  refine s_if_lt (pc := 1) 14 dX6_isOfTwelve_1 (by decide) (fun c_1 => ?_) (fun c_1 => ?_)
  · refine s_iconst (pc := 14) (k_i0N) dX6_isOfTwelve_14 ?_
    refine s_iret (pc := 15) dX6_isOfTwelve_15 (PostE.of hp ?_ ?_)
    · first | rfl | exact (hb.elim c_1 c_7).elim
    · rfl
  · refine s_iload_n (pc := 4) 0 rfl rfl dX6_isOfTwelve_4 ?_
    refine s_bipush (pc := 5) (k_b12N) dX6_isOfTwelve_5 ?_
    refine s_icmp_gt (pc := 7) 14 dX6_isOfTwelve_7 (by decide) (fun c_7 => ?_) (fun c_7 => ?_)
    · refine s_iconst (pc := 14) (k_i0N) dX6_isOfTwelve_14 ?_
      refine s_iret (pc := 15) dX6_isOfTwelve_15 (PostE.of hp ?_ ?_)
      · first | rfl | exact (hb.elim c_1 c_7).elim
      · rfl
    · refine s_iconst (pc := 10) (k_i1N) dX6_isOfTwelve_10 ?_
      refine s_goto (pc := 11) 15 dX6_isOfTwelve_11 (by decide) ?_
      refine s_iret (pc := 15) dX6_isOfTwelve_15 (PostE.of hp ?_ ?_)
      · first | rfl | exact (hb.elim c_1 c_7).elim
      · rfl
