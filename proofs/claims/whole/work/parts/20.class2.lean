set_option maxRecDepth 20000 in
theorem c_X6_shipB {s x : Int32} {a : Nat → Nat} {h : Hp} (hR : RC a h) (hO : OkA a) (hb : s < 0 ∨ nI (a 0) ≤ s) : CT 3 yX6_ship cX6_ship 3 (some .int) [.ref 0, .int s, .int x] h (some (.int (-1))) (h) := by
  refine CT.of (own := RX6) rfl (by decide) (ro_i _) [.ref 0, .int s, .int x] rfl (Nat.le_of_ble_eq_true rfl) (fun E hp => ?_)
  refine s_aload_n (pc := 0) 0 rfl rfl dX6_ship_0 ?_
  refine s_getr (pc := 1) (b := 23) fl_X6_27 rfl rfl rfl dX6_ship_1 ?_
  refine s_iload_n (pc := 4) 1 rfl rfl dX6_ship_4 ?_
  refine s_cvi1 (pc := 5) (c_X2_isShipB hR.1 hO.1.1 hb) ml_X6_140 mw_X2_isShip rfl (by decide) (Nat.le_of_ble_eq_true rfl) dX6_ship_5 ?_
  refine s_if_eqF (pc := 8) 21 dX6_ship_8 (by decide) ?_
  refine s_iconst (pc := 21) (k_im1) dX6_ship_21 ?_
  refine s_iret (pc := 22) dX6_ship_22 (PostE.of hp ?_ ?_)
  · rfl
  · rfl

set_option maxRecDepth 20000 in
theorem c_X6_shipB2 {i : Nat} {x : Int32} {a : Nat → Nat} {h : Hp} (hR : RC a h) (hO : OkA a) (hi : i < a 0) (hx : x < 0 ∨ nI 9 ≤ x) : CT 3 yX6_ship cX6_ship 3 (some .int) [.ref 0, .int (nI i), .int x] h (some (.int (-1))) (h) := by
  refine CT.of (own := RX6) rfl (by decide) (ro_i _) [.ref 0, .int (nI i), .int x] rfl (Nat.le_of_ble_eq_true rfl) (fun E hp => ?_)
  refine s_aload_n (pc := 0) 0 rfl rfl dX6_ship_0 ?_
  refine s_getr (pc := 1) (b := 23) fl_X6_27 rfl rfl rfl dX6_ship_1 ?_
  refine s_iload_n (pc := 4) 1 rfl rfl dX6_ship_4 ?_
  refine s_cvi1 (pc := 5) (c_X2_isShipN hR.1 hO.1.1 hi) ml_X6_140 mw_X2_isShip rfl (by decide) (Nat.le_of_ble_eq_true rfl) dX6_ship_5 ?_
  refine s_if_eqT (pc := 8) 21 dX6_ship_8 (by decide) ?_
  refine s_iload_n (pc := 11) 2 rfl rfl dX6_ship_11 ?_
  refine s_if_lt (pc := 12) 21 dX6_ship_12 (by decide) (fun c_12 => ?_) (fun c_12 => ?_)
  · refine s_iconst (pc := 21) (k_im1) dX6_ship_21 ?_
    refine s_iret (pc := 22) dX6_ship_22 (PostE.of hp ?_ ?_)
    · rfl
    · rfl
  · refine s_iload_n (pc := 15) 2 rfl rfl dX6_ship_15 ?_
    refine s_bipush (pc := 16) (k_b9N) dX6_ship_16 ?_
    refine s_icmp_lt (pc := 18) 23 dX6_ship_18 (by decide) (fun c_18 => ?_) (fun c_18 => ?_)
    · exact (hx.elim c_12 (fun q => absurd c_18 (Int32.not_lt.mpr q))).elim
    · refine s_iconst (pc := 21) (k_im1) dX6_ship_21 ?_
      refine s_iret (pc := 22) dX6_ship_22 (PostE.of hp ?_ ?_)
      · rfl
      · rfl

set_option maxRecDepth 20000 in
theorem c_X6_shipO {i w : Nat} {a : Nat → Nat} {h : Hp} (hR : RC a h) (hO : OkA a) (hi : i < a 0) (hw : w < 9) : CT 4 yX6_ship cX6_ship 3 (some .int) [.ref 0, .int (nI i), .int (nI w)] h (some (.int (nI 1))) (ui h 0 10 (hasN a i w)) := by
  refine CT.of (own := RX6) rfl (by decide) (ro_i _) [.ref 0, .int (nI i), .int (nI w)] rfl (Nat.le_of_ble_eq_true rfl) (fun E hp => ?_)
  refine s_aload_n (pc := 0) 0 rfl rfl dX6_ship_0 ?_
  refine s_getr (pc := 1) (b := 23) fl_X6_27 rfl rfl rfl dX6_ship_1 ?_
  refine s_iload_n (pc := 4) 1 rfl rfl dX6_ship_4 ?_
  refine s_cvi1 (pc := 5) (c_X2_isShipN hR.1 hO.1.1 hi) ml_X6_140 mw_X2_isShip rfl (by decide) (Nat.le_of_ble_eq_true rfl) dX6_ship_5 ?_
  refine s_if_eqT (pc := 8) 21 dX6_ship_8 (by decide) ?_
  refine s_iload_n (pc := 11) 2 rfl rfl dX6_ship_11 ?_
  refine s_if_ltN (pc := 12) (by omega) 21 dX6_ship_12 (by decide) ?_
  refine s_iload_n (pc := 15) 2 rfl rfl dX6_ship_15 ?_
  refine s_bipush (pc := 16) (k_b9N) dX6_ship_16 ?_
  refine s_icmp_ltN (pc := 18) (by omega) (by omega) 23 dX6_ship_18 (by decide) (fun c_18 => ?_) (fun c_18 => ?_)
  · refine s_aload_n (pc := 23) 0 rfl rfl dX6_ship_23 ?_
    refine s_aload_n (pc := 24) 0 rfl rfl dX6_ship_24 ?_
    refine s_getr (pc := 25) (b := 23) fl_X6_27 rfl rfl rfl dX6_ship_25 ?_
    refine s_iload_n (pc := 28) 1 rfl rfl dX6_ship_28 ?_
    refine s_iload_n (pc := 29) 2 rfl rfl dX6_ship_29 ?_
    refine s_cvi2 (pc := 30) (c_X2_fact hR hO hi hw) ml_X6_143 mw_X2_fact rfl (by decide) (Nat.le_of_ble_eq_true rfl) dX6_ship_30 ?_
    refine s_puti (pc := 33) fl_X6_69 fw_6_10 rfl rfl dX6_ship_33 ?_
    refine s_iconst (pc := 36) (k_i1N) dX6_ship_36 ?_
    refine s_iret (pc := 37) dX6_ship_37 (PostE.of hp ?_ ?_)
    · rfl
    · rfl
  · exfalso; omega

set_option maxRecDepth 20000 in
theorem c_X6_markB {s x : Int32} {a : Nat → Nat} {h : Hp} (hR : RC a h) (hO : OkA a) (hb : s < 0 ∨ nI (a 0) ≤ s) : CT 3 yX6_mark cX6_mark 3 (some .int) [.ref 0, .int s, .int x] h (some (.int (-1))) (h) := by
  refine CT.of (own := RX6) rfl (by decide) (ro_i _) [.ref 0, .int s, .int x] rfl (Nat.le_of_ble_eq_true rfl) (fun E hp => ?_)
  refine s_aload_n (pc := 0) 0 rfl rfl dX6_mark_0 ?_
  refine s_getr (pc := 1) (b := 23) fl_X6_27 rfl rfl rfl dX6_mark_1 ?_
  refine s_iload_n (pc := 4) 1 rfl rfl dX6_mark_4 ?_
  refine s_cvi1 (pc := 5) (c_X2_isShipB hR.1 hO.1.1 hb) ml_X6_140 mw_X2_isShip rfl (by decide) (Nat.le_of_ble_eq_true rfl) dX6_mark_5 ?_
  refine s_if_eqF (pc := 8) 21 dX6_mark_8 (by decide) ?_
  refine s_iconst (pc := 21) (k_im1) dX6_mark_21 ?_
  refine s_iret (pc := 22) dX6_mark_22 (PostE.of hp ?_ ?_)
  · rfl
  · rfl

set_option maxRecDepth 20000 in
theorem c_X6_markB2 {i : Nat} {x : Int32} {a : Nat → Nat} {h : Hp} (hR : RC a h) (hO : OkA a) (hi : i < a 0) (hx : x ≤ 0 ∨ nI 6 ≤ x) : CT 3 yX6_mark cX6_mark 3 (some .int) [.ref 0, .int (nI i), .int x] h (some (.int (-1))) (h) := by
  refine CT.of (own := RX6) rfl (by decide) (ro_i _) [.ref 0, .int (nI i), .int x] rfl (Nat.le_of_ble_eq_true rfl) (fun E hp => ?_)
  refine s_aload_n (pc := 0) 0 rfl rfl dX6_mark_0 ?_
  refine s_getr (pc := 1) (b := 23) fl_X6_27 rfl rfl rfl dX6_mark_1 ?_
  refine s_iload_n (pc := 4) 1 rfl rfl dX6_mark_4 ?_
  refine s_cvi1 (pc := 5) (c_X2_isShipN hR.1 hO.1.1 hi) ml_X6_140 mw_X2_isShip rfl (by decide) (Nat.le_of_ble_eq_true rfl) dX6_mark_5 ?_
  refine s_if_eqT (pc := 8) 21 dX6_mark_8 (by decide) ?_
  refine s_iload_n (pc := 11) 2 rfl rfl dX6_mark_11 ?_
  refine s_if_le (pc := 12) 21 dX6_mark_12 (by decide) (fun c_12 => ?_) (fun c_12 => ?_)
  · refine s_iconst (pc := 21) (k_im1) dX6_mark_21 ?_
    refine s_iret (pc := 22) dX6_mark_22 (PostE.of hp ?_ ?_)
    · rfl
    · rfl
  · refine s_iload_n (pc := 15) 2 rfl rfl dX6_mark_15 ?_
    refine s_bipush (pc := 16) (k_b6N) dX6_mark_16 ?_
    refine s_icmp_lt (pc := 18) 23 dX6_mark_18 (by decide) (fun c_18 => ?_) (fun c_18 => ?_)
    · exact (hx.elim c_12 (fun q => absurd c_18 (Int32.not_lt.mpr q))).elim
    · refine s_iconst (pc := 21) (k_im1) dX6_mark_21 ?_
      refine s_iret (pc := 22) dX6_mark_22 (PostE.of hp ?_ ?_)
      · rfl
      · rfl

set_option maxRecDepth 20000 in
theorem c_X6_markU {i m : Nat} {a : Nat → Nat} {h : Hp} (hR : RC a h) (hO : OkA a) (hi : i < a 0) (hm : 0 < m) (hm6 : m < 6) (hk : ¬ (sh a i 0 = m ∨ (sh a i 0 = 4 ∧ m = 1) ∨ (sh a i 0 = 5 ∧ m = 3))) : CT 3 yX6_mark cX6_mark 3 (some .int) [.ref 0, .int (nI i), .int (nI m)] h (some (.int (-3))) (finC h 3) := by
  refine CT.of (own := RX6) rfl (by decide) (ro_i _) [.ref 0, .int (nI i), .int (nI m)] rfl (Nat.le_of_ble_eq_true rfl) (fun E hp => ?_)
  refine s_aload_n (pc := 0) 0 rfl rfl dX6_mark_0 ?_
  refine s_getr (pc := 1) (b := 23) fl_X6_27 rfl rfl rfl dX6_mark_1 ?_
  refine s_iload_n (pc := 4) 1 rfl rfl dX6_mark_4 ?_
  refine s_cvi1 (pc := 5) (c_X2_isShipN hR.1 hO.1.1 hi) ml_X6_140 mw_X2_isShip rfl (by decide) (Nat.le_of_ble_eq_true rfl) dX6_mark_5 ?_
  refine s_if_eqT (pc := 8) 21 dX6_mark_8 (by decide) ?_
  refine s_iload_n (pc := 11) 2 rfl rfl dX6_mark_11 ?_
  refine s_if_leN (pc := 12) (by omega) 21 dX6_mark_12 (by decide) (fun c_12 => ?_) (fun c_12 => ?_)
  · exfalso; omega
  · refine s_iload_n (pc := 15) 2 rfl rfl dX6_mark_15 ?_
    refine s_bipush (pc := 16) (k_b6N) dX6_mark_16 ?_
    refine s_icmp_ltN (pc := 18) (by omega) (by omega) 23 dX6_mark_18 (by decide) (fun c_18 => ?_) (fun c_18 => ?_)
    · refine s_aload_n (pc := 23) 0 rfl rfl dX6_mark_23 ?_
      refine s_getr (pc := 24) (b := 23) fl_X6_27 rfl rfl rfl dX6_mark_24 ?_
      refine s_iload_n (pc := 27) 1 rfl rfl dX6_mark_27 ?_
      refine s_iload_n (pc := 28) 2 rfl rfl dX6_mark_28 ?_
      refine s_cvi2 (pc := 29) (c_X2_isOf hR.1 hO hi hm hm6) ml_X6_147 mw_X2_isOf rfl (by decide) (Nat.le_of_ble_eq_true rfl) dX6_mark_29 ?_
      refine s_if_neB (pc := 32) 41 dX6_mark_32 (by decide) (fun c_32 => ?_) (fun c_32 => ?_)
      · exfalso; exact hk c_32
      · refine s_aload_n (pc := 35) 0 rfl rfl dX6_mark_35 ?_
        refine s_iconst (pc := 36) (k_i3N) dX6_mark_36 ?_
        refine s_cvi1 (pc := 37) (c_X6_refuse (by decide) (by decide)) ml_X6_100 mw_X6_refuse rfl (by decide) (Nat.le_of_ble_eq_true rfl) dX6_mark_37 ?_
        refine s_iret (pc := 40) dX6_mark_40 (PostE.of hp ?_ ?_)
        · rfl
        · rfl
    · exfalso; omega

set_option maxRecDepth 20000 in
theorem c_X6_markO1 {i : Nat} {a : Nat → Nat} {h : Hp} (hR : RC a h) (hO : OkA a) (hi : i < a 0) (hk : sh a i 0 = 1 ∨ sh a i 0 = 4) : CT 7 yX6_mark cX6_mark 3 (some .int) [.ref 0, .int (nI i), .int (nI 1)] h (some (.int (nI (markN a i 1)))) (h) := by
  refine CT.of (own := RX6) rfl (by decide) (ro_i _) [.ref 0, .int (nI i), .int (nI 1)] rfl (Nat.le_of_ble_eq_true rfl) (fun E hp => ?_)
  refine s_aload_n (pc := 0) 0 rfl rfl dX6_mark_0 ?_
  refine s_getr (pc := 1) (b := 23) fl_X6_27 rfl rfl rfl dX6_mark_1 ?_
  refine s_iload_n (pc := 4) 1 rfl rfl dX6_mark_4 ?_
  refine s_cvi1 (pc := 5) (c_X2_isShipN hR.1 hO.1.1 hi) ml_X6_140 mw_X2_isShip rfl (by decide) (Nat.le_of_ble_eq_true rfl) dX6_mark_5 ?_
  refine s_if_eqT (pc := 8) 21 dX6_mark_8 (by decide) ?_
  refine s_iload_n (pc := 11) 2 rfl rfl dX6_mark_11 ?_
  refine s_if_leN (pc := 12) (by omega) 21 dX6_mark_12 (by decide) (fun c_12 => ?_) (fun c_12 => ?_)
  · exfalso; omega
  · refine s_iload_n (pc := 15) 2 rfl rfl dX6_mark_15 ?_
    refine s_bipush (pc := 16) (k_b6N) dX6_mark_16 ?_
    refine s_icmp_ltN (pc := 18) (by omega) (by omega) 23 dX6_mark_18 (by decide) (fun c_18 => ?_) (fun c_18 => ?_)
    · refine s_aload_n (pc := 23) 0 rfl rfl dX6_mark_23 ?_
      refine s_getr (pc := 24) (b := 23) fl_X6_27 rfl rfl rfl dX6_mark_24 ?_
      refine s_iload_n (pc := 27) 1 rfl rfl dX6_mark_27 ?_
      refine s_iload_n (pc := 28) 2 rfl rfl dX6_mark_28 ?_
      refine s_cvi2 (pc := 29) (c_X2_isOf hR.1 hO hi (by decide) (by decide)) ml_X6_147 mw_X2_isOf rfl (by decide) (Nat.le_of_ble_eq_true rfl) dX6_mark_29 ?_
      refine s_if_neB (pc := 32) 41 dX6_mark_32 (by decide) (fun c_32 => ?_) (fun c_32 => ?_)
      · refine s_aload_n (pc := 41) 0 rfl rfl dX6_mark_41 ?_
        refine s_getr (pc := 42) (b := 23) fl_X6_27 rfl rfl rfl dX6_mark_42 ?_
        refine s_iload_n (pc := 45) 1 rfl rfl dX6_mark_45 ?_
        refine s_iload_n (pc := 46) 2 rfl rfl dX6_mark_46 ?_
        refine s_cvi2 (pc := 47) (c_X2_markOf_1 hR hO hi hk) ml_X6_151 mw_X2_markOf rfl (by decide) (Nat.le_of_ble_eq_true rfl) dX6_mark_47 ?_
        refine s_iret (pc := 50) dX6_mark_50 (PostE.of hp ?_ ?_)
        · rfl
        · rfl
      · exfalso; omega
    · exfalso; omega

set_option maxRecDepth 20000 in
theorem c_X6_markO2 {i : Nat} {a : Nat → Nat} {h : Hp} (hR : RC a h) (hO : OkA a) (hi : i < a 0) (hk : sh a i 0 = 2) : CT 7 yX6_mark cX6_mark 3 (some .int) [.ref 0, .int (nI i), .int (nI 2)] h (some (.int (nI (markN a i 2)))) (h) := by
  refine CT.of (own := RX6) rfl (by decide) (ro_i _) [.ref 0, .int (nI i), .int (nI 2)] rfl (Nat.le_of_ble_eq_true rfl) (fun E hp => ?_)
  refine s_aload_n (pc := 0) 0 rfl rfl dX6_mark_0 ?_
  refine s_getr (pc := 1) (b := 23) fl_X6_27 rfl rfl rfl dX6_mark_1 ?_
  refine s_iload_n (pc := 4) 1 rfl rfl dX6_mark_4 ?_
  refine s_cvi1 (pc := 5) (c_X2_isShipN hR.1 hO.1.1 hi) ml_X6_140 mw_X2_isShip rfl (by decide) (Nat.le_of_ble_eq_true rfl) dX6_mark_5 ?_
  refine s_if_eqT (pc := 8) 21 dX6_mark_8 (by decide) ?_
  refine s_iload_n (pc := 11) 2 rfl rfl dX6_mark_11 ?_
  refine s_if_leN (pc := 12) (by omega) 21 dX6_mark_12 (by decide) (fun c_12 => ?_) (fun c_12 => ?_)
  · exfalso; omega
  · refine s_iload_n (pc := 15) 2 rfl rfl dX6_mark_15 ?_
    refine s_bipush (pc := 16) (k_b6N) dX6_mark_16 ?_
    refine s_icmp_ltN (pc := 18) (by omega) (by omega) 23 dX6_mark_18 (by decide) (fun c_18 => ?_) (fun c_18 => ?_)
    · refine s_aload_n (pc := 23) 0 rfl rfl dX6_mark_23 ?_
      refine s_getr (pc := 24) (b := 23) fl_X6_27 rfl rfl rfl dX6_mark_24 ?_
      refine s_iload_n (pc := 27) 1 rfl rfl dX6_mark_27 ?_
      refine s_iload_n (pc := 28) 2 rfl rfl dX6_mark_28 ?_
      refine s_cvi2 (pc := 29) (c_X2_isOf hR.1 hO hi (by decide) (by decide)) ml_X6_147 mw_X2_isOf rfl (by decide) (Nat.le_of_ble_eq_true rfl) dX6_mark_29 ?_
      refine s_if_neB (pc := 32) 41 dX6_mark_32 (by decide) (fun c_32 => ?_) (fun c_32 => ?_)
      · refine s_aload_n (pc := 41) 0 rfl rfl dX6_mark_41 ?_
        refine s_getr (pc := 42) (b := 23) fl_X6_27 rfl rfl rfl dX6_mark_42 ?_
        refine s_iload_n (pc := 45) 1 rfl rfl dX6_mark_45 ?_
        refine s_iload_n (pc := 46) 2 rfl rfl dX6_mark_46 ?_
        refine s_cvi2 (pc := 47) (c_X2_markOf_2 hR hO hi hk) ml_X6_151 mw_X2_markOf rfl (by decide) (Nat.le_of_ble_eq_true rfl) dX6_mark_47 ?_
        refine s_iret (pc := 50) dX6_mark_50 (PostE.of hp ?_ ?_)
        · rfl
        · rfl
      · exfalso; omega
    · exfalso; omega

set_option maxRecDepth 20000 in
theorem c_X6_markO3 {i : Nat} {a : Nat → Nat} {h : Hp} (hR : RC a h) (hO : OkA a) (hi : i < a 0) (hk : sh a i 0 = 3 ∨ sh a i 0 = 5) : CT 7 yX6_mark cX6_mark 3 (some .int) [.ref 0, .int (nI i), .int (nI 3)] h (some (.int (nI (markN a i 3)))) (h) := by
  refine CT.of (own := RX6) rfl (by decide) (ro_i _) [.ref 0, .int (nI i), .int (nI 3)] rfl (Nat.le_of_ble_eq_true rfl) (fun E hp => ?_)
  refine s_aload_n (pc := 0) 0 rfl rfl dX6_mark_0 ?_
  refine s_getr (pc := 1) (b := 23) fl_X6_27 rfl rfl rfl dX6_mark_1 ?_
  refine s_iload_n (pc := 4) 1 rfl rfl dX6_mark_4 ?_
  refine s_cvi1 (pc := 5) (c_X2_isShipN hR.1 hO.1.1 hi) ml_X6_140 mw_X2_isShip rfl (by decide) (Nat.le_of_ble_eq_true rfl) dX6_mark_5 ?_
  refine s_if_eqT (pc := 8) 21 dX6_mark_8 (by decide) ?_
  refine s_iload_n (pc := 11) 2 rfl rfl dX6_mark_11 ?_
  refine s_if_leN (pc := 12) (by omega) 21 dX6_mark_12 (by decide) (fun c_12 => ?_) (fun c_12 => ?_)
  · exfalso; omega
  · refine s_iload_n (pc := 15) 2 rfl rfl dX6_mark_15 ?_
    refine s_bipush (pc := 16) (k_b6N) dX6_mark_16 ?_
    refine s_icmp_ltN (pc := 18) (by omega) (by omega) 23 dX6_mark_18 (by decide) (fun c_18 => ?_) (fun c_18 => ?_)
    · refine s_aload_n (pc := 23) 0 rfl rfl dX6_mark_23 ?_
      refine s_getr (pc := 24) (b := 23) fl_X6_27 rfl rfl rfl dX6_mark_24 ?_
      refine s_iload_n (pc := 27) 1 rfl rfl dX6_mark_27 ?_
      refine s_iload_n (pc := 28) 2 rfl rfl dX6_mark_28 ?_
      refine s_cvi2 (pc := 29) (c_X2_isOf hR.1 hO hi (by decide) (by decide)) ml_X6_147 mw_X2_isOf rfl (by decide) (Nat.le_of_ble_eq_true rfl) dX6_mark_29 ?_
      refine s_if_neB (pc := 32) 41 dX6_mark_32 (by decide) (fun c_32 => ?_) (fun c_32 => ?_)
      · refine s_aload_n (pc := 41) 0 rfl rfl dX6_mark_41 ?_
        refine s_getr (pc := 42) (b := 23) fl_X6_27 rfl rfl rfl dX6_mark_42 ?_
        refine s_iload_n (pc := 45) 1 rfl rfl dX6_mark_45 ?_
        refine s_iload_n (pc := 46) 2 rfl rfl dX6_mark_46 ?_
        refine s_cvi2 (pc := 47) (c_X2_markOf_3 hR hO hi) ml_X6_151 mw_X2_markOf rfl (by decide) (Nat.le_of_ble_eq_true rfl) dX6_mark_47 ?_
        refine s_iret (pc := 50) dX6_mark_50 (PostE.of hp ?_ ?_)
        · rfl
        · rfl
      · exfalso; omega
    · exfalso; omega

set_option maxRecDepth 20000 in
theorem c_X6_markO4 {i : Nat} {a : Nat → Nat} {h : Hp} (hR : RC a h) (hO : OkA a) (hi : i < a 0) (hk : sh a i 0 = 4) : CT 7 yX6_mark cX6_mark 3 (some .int) [.ref 0, .int (nI i), .int (nI 4)] h (some (.int (nI (markN a i 4)))) (h) := by
  refine CT.of (own := RX6) rfl (by decide) (ro_i _) [.ref 0, .int (nI i), .int (nI 4)] rfl (Nat.le_of_ble_eq_true rfl) (fun E hp => ?_)
  refine s_aload_n (pc := 0) 0 rfl rfl dX6_mark_0 ?_
  refine s_getr (pc := 1) (b := 23) fl_X6_27 rfl rfl rfl dX6_mark_1 ?_
  refine s_iload_n (pc := 4) 1 rfl rfl dX6_mark_4 ?_
  refine s_cvi1 (pc := 5) (c_X2_isShipN hR.1 hO.1.1 hi) ml_X6_140 mw_X2_isShip rfl (by decide) (Nat.le_of_ble_eq_true rfl) dX6_mark_5 ?_
  refine s_if_eqT (pc := 8) 21 dX6_mark_8 (by decide) ?_
  refine s_iload_n (pc := 11) 2 rfl rfl dX6_mark_11 ?_
  refine s_if_leN (pc := 12) (by omega) 21 dX6_mark_12 (by decide) (fun c_12 => ?_) (fun c_12 => ?_)
  · exfalso; omega
  · refine s_iload_n (pc := 15) 2 rfl rfl dX6_mark_15 ?_
    refine s_bipush (pc := 16) (k_b6N) dX6_mark_16 ?_
    refine s_icmp_ltN (pc := 18) (by omega) (by omega) 23 dX6_mark_18 (by decide) (fun c_18 => ?_) (fun c_18 => ?_)
    · refine s_aload_n (pc := 23) 0 rfl rfl dX6_mark_23 ?_
      refine s_getr (pc := 24) (b := 23) fl_X6_27 rfl rfl rfl dX6_mark_24 ?_
      refine s_iload_n (pc := 27) 1 rfl rfl dX6_mark_27 ?_
      refine s_iload_n (pc := 28) 2 rfl rfl dX6_mark_28 ?_
      refine s_cvi2 (pc := 29) (c_X2_isOf hR.1 hO hi (by decide) (by decide)) ml_X6_147 mw_X2_isOf rfl (by decide) (Nat.le_of_ble_eq_true rfl) dX6_mark_29 ?_
      refine s_if_neB (pc := 32) 41 dX6_mark_32 (by decide) (fun c_32 => ?_) (fun c_32 => ?_)
      · refine s_aload_n (pc := 41) 0 rfl rfl dX6_mark_41 ?_
        refine s_getr (pc := 42) (b := 23) fl_X6_27 rfl rfl rfl dX6_mark_42 ?_
        refine s_iload_n (pc := 45) 1 rfl rfl dX6_mark_45 ?_
        refine s_iload_n (pc := 46) 2 rfl rfl dX6_mark_46 ?_
        refine s_cvi2 (pc := 47) (c_X2_markOf_4 hR hO hi hk) ml_X6_151 mw_X2_markOf rfl (by decide) (Nat.le_of_ble_eq_true rfl) dX6_mark_47 ?_
        refine s_iret (pc := 50) dX6_mark_50 (PostE.of hp ?_ ?_)
        · rfl
        · rfl
      · exfalso; omega
    · exfalso; omega

set_option maxRecDepth 20000 in
theorem c_X6_markO5 {i : Nat} {a : Nat → Nat} {h : Hp} (hR : RC a h) (hO : OkA a) (hi : i < a 0) (hk : sh a i 0 = 5) : CT 7 yX6_mark cX6_mark 3 (some .int) [.ref 0, .int (nI i), .int (nI 5)] h (some (.int (nI (markN a i 5)))) (h) := by
  refine CT.of (own := RX6) rfl (by decide) (ro_i _) [.ref 0, .int (nI i), .int (nI 5)] rfl (Nat.le_of_ble_eq_true rfl) (fun E hp => ?_)
  refine s_aload_n (pc := 0) 0 rfl rfl dX6_mark_0 ?_
  refine s_getr (pc := 1) (b := 23) fl_X6_27 rfl rfl rfl dX6_mark_1 ?_
  refine s_iload_n (pc := 4) 1 rfl rfl dX6_mark_4 ?_
  refine s_cvi1 (pc := 5) (c_X2_isShipN hR.1 hO.1.1 hi) ml_X6_140 mw_X2_isShip rfl (by decide) (Nat.le_of_ble_eq_true rfl) dX6_mark_5 ?_
  refine s_if_eqT (pc := 8) 21 dX6_mark_8 (by decide) ?_
  refine s_iload_n (pc := 11) 2 rfl rfl dX6_mark_11 ?_
  refine s_if_leN (pc := 12) (by omega) 21 dX6_mark_12 (by decide) (fun c_12 => ?_) (fun c_12 => ?_)
  · exfalso; omega
  · refine s_iload_n (pc := 15) 2 rfl rfl dX6_mark_15 ?_
    refine s_bipush (pc := 16) (k_b6N) dX6_mark_16 ?_
    refine s_icmp_ltN (pc := 18) (by omega) (by omega) 23 dX6_mark_18 (by decide) (fun c_18 => ?_) (fun c_18 => ?_)
    · refine s_aload_n (pc := 23) 0 rfl rfl dX6_mark_23 ?_
      refine s_getr (pc := 24) (b := 23) fl_X6_27 rfl rfl rfl dX6_mark_24 ?_
      refine s_iload_n (pc := 27) 1 rfl rfl dX6_mark_27 ?_
      refine s_iload_n (pc := 28) 2 rfl rfl dX6_mark_28 ?_
      refine s_cvi2 (pc := 29) (c_X2_isOf hR.1 hO hi (by decide) (by decide)) ml_X6_147 mw_X2_isOf rfl (by decide) (Nat.le_of_ble_eq_true rfl) dX6_mark_29 ?_
      refine s_if_neB (pc := 32) 41 dX6_mark_32 (by decide) (fun c_32 => ?_) (fun c_32 => ?_)
      · refine s_aload_n (pc := 41) 0 rfl rfl dX6_mark_41 ?_
        refine s_getr (pc := 42) (b := 23) fl_X6_27 rfl rfl rfl dX6_mark_42 ?_
        refine s_iload_n (pc := 45) 1 rfl rfl dX6_mark_45 ?_
        refine s_iload_n (pc := 46) 2 rfl rfl dX6_mark_46 ?_
        refine s_cvi2 (pc := 47) (c_X2_markOf_5 hR hO hi) ml_X6_151 mw_X2_markOf rfl (by decide) (Nat.le_of_ble_eq_true rfl) dX6_mark_47 ?_
        refine s_iret (pc := 50) dX6_mark_50 (PostE.of hp ?_ ?_)
        · rfl
        · rfl
      · exfalso; omega
    · exfalso; omega

set_option maxRecDepth 20000 in
theorem c_X6_ageB {s x : Int32} {a : Nat → Nat} {h : Hp} (hR : RC a h) (hO : OkA a) (hb : s < 0 ∨ nI (a 0) ≤ s) : CT 3 yX6_age cX6_age 3 (some .int) [.ref 0, .int s, .int x] h (some (.int (-1))) (h) := by
  refine CT.of (own := RX6) rfl (by decide) (ro_i _) [.ref 0, .int s, .int x] rfl (Nat.le_of_ble_eq_true rfl) (fun E hp => ?_)
  refine s_aload_n (pc := 0) 0 rfl rfl dX6_age_0 ?_
  refine s_getr (pc := 1) (b := 23) fl_X6_27 rfl rfl rfl dX6_age_1 ?_
  refine s_iload_n (pc := 4) 1 rfl rfl dX6_age_4 ?_
  refine s_cvi1 (pc := 5) (c_X2_isShipB hR.1 hO.1.1 hb) ml_X6_140 mw_X2_isShip rfl (by decide) (Nat.le_of_ble_eq_true rfl) dX6_age_5 ?_
  refine s_if_eqF (pc := 8) 22 dX6_age_8 (by decide) ?_
  refine s_iconst (pc := 22) (k_im1) dX6_age_22 ?_
  refine s_iret (pc := 23) dX6_age_23 (PostE.of hp ?_ ?_)
  · rfl
  · rfl

set_option maxRecDepth 20000 in
theorem c_X6_ageB2 {i : Nat} {x : Int32} {a : Nat → Nat} {h : Hp} (hR : RC a h) (hO : OkA a) (hi : i < a 0) (hx : x < 0 ∨ nI 999 < x) : CT 3 yX6_age cX6_age 3 (some .int) [.ref 0, .int (nI i), .int x] h (some (.int (-1))) (h) := by
  refine CT.of (own := RX6) rfl (by decide) (ro_i _) [.ref 0, .int (nI i), .int x] rfl (Nat.le_of_ble_eq_true rfl) (fun E hp => ?_)
  refine s_aload_n (pc := 0) 0 rfl rfl dX6_age_0 ?_
  refine s_getr (pc := 1) (b := 23) fl_X6_27 rfl rfl rfl dX6_age_1 ?_
  refine s_iload_n (pc := 4) 1 rfl rfl dX6_age_4 ?_
  refine s_cvi1 (pc := 5) (c_X2_isShipN hR.1 hO.1.1 hi) ml_X6_140 mw_X2_isShip rfl (by decide) (Nat.le_of_ble_eq_true rfl) dX6_age_5 ?_
  refine s_if_eqT (pc := 8) 22 dX6_age_8 (by decide) ?_
  refine s_iload_n (pc := 11) 2 rfl rfl dX6_age_11 ?_
  refine s_if_lt (pc := 12) 22 dX6_age_12 (by decide) (fun c_12 => ?_) (fun c_12 => ?_)
  · refine s_iconst (pc := 22) (k_im1) dX6_age_22 ?_
    refine s_iret (pc := 23) dX6_age_23 (PostE.of hp ?_ ?_)
    · rfl
    · rfl
  · refine s_iload_n (pc := 15) 2 rfl rfl dX6_age_15 ?_
    refine s_sipush (pc := 16) (k_s999N) dX6_age_16 ?_
    refine s_icmp_le (pc := 19) 24 dX6_age_19 (by decide) (fun c_19 => ?_) (fun c_19 => ?_)
    · exact (hx.elim c_12 (fun q => absurd c_19 (Int32.not_le.mpr q))).elim
    · refine s_iconst (pc := 22) (k_im1) dX6_age_22 ?_
      refine s_iret (pc := 23) dX6_age_23 (PostE.of hp ?_ ?_)
      · rfl
      · rfl

set_option maxRecDepth 20000 in
theorem c_X6_ageO {i y : Nat} {a : Nat → Nat} {h : Hp} (hR : RC a h) (hO : OkA a) (hi : i < a 0) (hy : y ≤ 999) : CT 5 yX6_age cX6_age 3 (some .int) [.ref 0, .int (nI i), .int (nI y)] h (some (.int (nI (ageN a i y)))) (h) := by
  refine CT.of (own := RX6) rfl (by decide) (ro_i _) [.ref 0, .int (nI i), .int (nI y)] rfl (Nat.le_of_ble_eq_true rfl) (fun E hp => ?_)
  refine s_aload_n (pc := 0) 0 rfl rfl dX6_age_0 ?_
  refine s_getr (pc := 1) (b := 23) fl_X6_27 rfl rfl rfl dX6_age_1 ?_
  refine s_iload_n (pc := 4) 1 rfl rfl dX6_age_4 ?_
  refine s_cvi1 (pc := 5) (c_X2_isShipN hR.1 hO.1.1 hi) ml_X6_140 mw_X2_isShip rfl (by decide) (Nat.le_of_ble_eq_true rfl) dX6_age_5 ?_
  refine s_if_eqT (pc := 8) 22 dX6_age_8 (by decide) ?_
  refine s_iload_n (pc := 11) 2 rfl rfl dX6_age_11 ?_
  refine s_if_ltN (pc := 12) (by omega) 22 dX6_age_12 (by decide) ?_
  refine s_iload_n (pc := 15) 2 rfl rfl dX6_age_15 ?_
  refine s_sipush (pc := 16) (k_s999N) dX6_age_16 ?_
  refine s_icmp_leN (pc := 19) (by omega) (by omega) 24 dX6_age_19 (by decide) (fun c_19 => ?_) (fun c_19 => ?_)
  · refine s_aload_n (pc := 24) 0 rfl rfl dX6_age_24 ?_
    refine s_getr (pc := 25) (b := 23) fl_X6_27 rfl rfl rfl dX6_age_25 ?_
    refine s_iload_n (pc := 28) 1 rfl rfl dX6_age_28 ?_
    refine s_iload_n (pc := 29) 2 rfl rfl dX6_age_29 ?_
    refine s_cvi2 (pc := 30) (c_X2_ageIn hR.1 hO hi (by omega)) ml_X6_154 mw_X2_ageIn rfl (by decide) (Nat.le_of_ble_eq_true rfl) dX6_age_30 ?_
    refine s_iret (pc := 33) dX6_age_33 (PostE.of hp ?_ ?_)
    · rfl
    · rfl
  · exfalso; omega

set_option maxRecDepth 20000 in
theorem c_X2_doDeedF {dd i : Int32} {a : Nat → Nat} {h : Hp} (hR : RC a h) (h3 : h.1 23 6 = nI 40) : CT 1 yX2_doDeed cX2_doDeed 3 (some .int) [.ref 23, .int dd, .int i] h (some (.int (-2))) (h) := by
  refine CT.of (own := RX2) rfl (by decide) (ro_i _) [.ref 23, .int dd, .int i] rfl (Nat.le_of_ble_eq_true rfl) (fun E hp => ?_)
  refine s_aload_n (pc := 0) 0 rfl rfl dX2_doDeed_0 ?_
  refine s_getiE (pc := 1) fl_X2_34 rfl rfl h3 dX2_doDeed_1 ?_
  refine s_if_ltN (pc := 4) (by omega) 16 dX2_doDeed_4 (by decide) ?_
  refine s_aload_n (pc := 7) 0 rfl rfl dX2_doDeed_7 ?_
  refine s_getiE (pc := 8) fl_X2_34 rfl rfl h3 dX2_doDeed_8 ?_
  refine s_bipush (pc := 11) (k_b40N) dX2_doDeed_11 ?_
  refine s_icmp_ltN (pc := 13) (by omega) (by omega) 19 dX2_doDeed_13 (by decide) (fun c_13 => ?_) (fun c_13 => ?_)
  · exfalso; omega
  · refine s_bipush (pc := 16) (k_bm2) dX2_doDeed_16 ?_
    refine s_iret (pc := 18) dX2_doDeed_18 (PostE.of hp ?_ ?_)
    · rfl
    · rfl

theorem bi_in {p : Prop} [Decidable p] (h : bi p = nI 1) : p := by
  by_cases q : p
  · exact q
  · rw [bi_f q] at h; exact absurd h (by decide)
theorem bi_out {p : Prop} [Decidable p] (h : bi p = nI 0) : ¬ p := fun q => by rw [bi_t q] at h; exact absurd h (by decide)

set_option maxRecDepth 20000 in
theorem c_X6_moved1B {s : Int32} {a : Nat → Nat} {h : Hp} (hR : RC a h) (hO : OkA a) (hb : s < 0 ∨ nI (a 0) ≤ s) : CT 3 yX6_moved cX6_moved 3 (some .int) [.ref 0, .int s, .int (nI 1)] h (some (.int (-1))) (h) := by
  refine CT.of (own := RX6) rfl (by decide) (ro_i _) [.ref 0, .int s, .int (nI 1)] rfl (Nat.le_of_ble_eq_true rfl) (fun E hp => ?_)
  refine s_aload_n (pc := 0) 0 rfl rfl dX6_moved_0 ?_
  refine s_getr (pc := 1) (b := 23) fl_X6_27 rfl rfl rfl dX6_moved_1 ?_
  refine s_iload_n (pc := 4) 1 rfl rfl dX6_moved_4 ?_
  refine s_cvi1 (pc := 5) (c_X2_isShipB hR.1 hO.1.1 hb) ml_X6_140 mw_X2_isShip rfl (by decide) (Nat.le_of_ble_eq_true rfl) dX6_moved_5 ?_
  refine s_if_neF (pc := 8) 13 dX6_moved_8 (by decide) ?_
  refine s_iconst (pc := 11) (k_im1) dX6_moved_11 ?_
  refine s_iret (pc := 12) dX6_moved_12 (PostE.of hp ?_ ?_)
  · rfl
  · rfl

set_option maxRecDepth 20000 in
theorem c_X6_moved1S {i : Nat} {a : Nat → Nat} {h : Hp} (hR : RC a h) (hO : OkA a) (hi : i < a 0) (hs : (a 5).testBit i = true) : CT 4 yX6_moved cX6_moved 3 (some .int) [.ref 0, .int (nI i), .int (nI 1)] h (some (.int (-4))) (h) := by
  refine CT.of (own := RX6) rfl (by decide) (ro_i _) [.ref 0, .int (nI i), .int (nI 1)] rfl (Nat.le_of_ble_eq_true rfl) (fun E hp => ?_)
  refine s_aload_n (pc := 0) 0 rfl rfl dX6_moved_0 ?_
  refine s_getr (pc := 1) (b := 23) fl_X6_27 rfl rfl rfl dX6_moved_1 ?_
  refine s_iload_n (pc := 4) 1 rfl rfl dX6_moved_4 ?_
  refine s_cvi1 (pc := 5) (c_X2_isShipN hR.1 hO.1.1 hi) ml_X6_140 mw_X2_isShip rfl (by decide) (Nat.le_of_ble_eq_true rfl) dX6_moved_5 ?_
  refine s_if_neT (pc := 8) 13 dX6_moved_8 (by decide) ?_
  refine s_aload_n (pc := 13) 0 rfl rfl dX6_moved_13 ?_
  refine s_getr (pc := 14) (b := 23) fl_X6_27 rfl rfl rfl dX6_moved_14 ?_
  refine s_iload_n (pc := 17) 1 rfl rfl dX6_moved_17 ?_
  refine s_cvi1 (pc := 18) (c_X2_isIn hR.1 hO (by have := hO.1.1; omega)) ml_X6_198 mw_X2_isIn rfl (by decide) (Nat.le_of_ble_eq_true rfl) dX6_moved_18 ?_
  refine s_iload_n (pc := 21) 2 rfl rfl dX6_moved_21 ?_
  refine s_icmp_ne (pc := 22) 28 dX6_moved_22 (by decide) (fun c_22 => ?_) (fun c_22 => ?_)
  · exact absurd (show bi ((a 5).testBit i = true) = nI 1 from bi_t hs) c_22
  · refine s_bipush (pc := 25) (k_bm4) dX6_moved_25 ?_
    refine s_iret (pc := 27) dX6_moved_27 (PostE.of hp ?_ ?_)
    · rfl
    · rfl

set_option maxRecDepth 20000 in
theorem c_X6_moved1P {i : Nat} {a : Nat → Nat} {h : Hp} (hR : RC a h) (hO : OkA a) (hi : i < a 0) (hs : ¬ (a 5).testBit i = true) (hp4 : ¬ 1 + shiftN a i (a 5) ≤ a 4) : CT 4 yX6_moved cX6_moved 3 (some .int) [.ref 0, .int (nI i), .int (nI 1)] h (some (.int (-6))) (h) := by
  refine CT.of (own := RX6) rfl (by decide) (ro_i _) [.ref 0, .int (nI i), .int (nI 1)] rfl (Nat.le_of_ble_eq_true rfl) (fun E hp => ?_)
  refine s_aload_n (pc := 0) 0 rfl rfl dX6_moved_0 ?_
  refine s_getr (pc := 1) (b := 23) fl_X6_27 rfl rfl rfl dX6_moved_1 ?_
  refine s_iload_n (pc := 4) 1 rfl rfl dX6_moved_4 ?_
  refine s_cvi1 (pc := 5) (c_X2_isShipN hR.1 hO.1.1 hi) ml_X6_140 mw_X2_isShip rfl (by decide) (Nat.le_of_ble_eq_true rfl) dX6_moved_5 ?_
  refine s_if_neT (pc := 8) 13 dX6_moved_8 (by decide) ?_
  refine s_aload_n (pc := 13) 0 rfl rfl dX6_moved_13 ?_
  refine s_getr (pc := 14) (b := 23) fl_X6_27 rfl rfl rfl dX6_moved_14 ?_
  refine s_iload_n (pc := 17) 1 rfl rfl dX6_moved_17 ?_
  refine s_cvi1 (pc := 18) (c_X2_isIn hR.1 hO (by have := hO.1.1; omega)) ml_X6_198 mw_X2_isIn rfl (by decide) (Nat.le_of_ble_eq_true rfl) dX6_moved_18 ?_
  refine s_iload_n (pc := 21) 2 rfl rfl dX6_moved_21 ?_
  refine s_icmp_ne (pc := 22) 28 dX6_moved_22 (by decide) (fun c_22 => ?_) (fun c_22 => ?_)
  · refine s_aload_n (pc := 28) 0 rfl rfl dX6_moved_28 ?_
    refine s_getr (pc := 29) (b := 23) fl_X6_27 rfl rfl rfl dX6_moved_29 ?_
    refine s_iload_n (pc := 32) 1 rfl rfl dX6_moved_32 ?_
    refine s_cvi1 (pc := 33) (c_X2_hasHoursFor hR hO hi) ml_X6_284 mw_X2_hasHoursFor rfl (by decide) (Nat.le_of_ble_eq_true rfl) dX6_moved_33 ?_
    refine s_if_eqB (pc := 36) 51 dX6_moved_36 (by decide) (fun c_36 => ?_) (fun c_36 => ?_)
    · refine s_bipush (pc := 51) (k_bm6) dX6_moved_51 ?_
      refine s_iret (pc := 53) dX6_moved_53 (PostE.of hp ?_ ?_)
      · rfl
      · rfl
    · exfalso; exact hp4 c_36
  · exact absurd c_22 (fun q => hs (bi_in q))

set_option maxRecDepth 20000 in
theorem c_X6_moved1F {i : Nat} {a : Nat → Nat} {h : Hp} (hR : RC a h) (hO : OkA a) (hi : i < a 0) (hs : ¬ (a 5).testBit i = true) (hp4 : 1 + shiftN a i (a 5) ≤ a 4) (h3 : h.1 23 6 = nI 40) : CT 4 yX6_moved cX6_moved 3 (some .int) [.ref 0, .int (nI i), .int (nI 1)] h (some (.int (-2))) (h) := by
  refine CT.of (own := RX6) rfl (by decide) (ro_i _) [.ref 0, .int (nI i), .int (nI 1)] rfl (Nat.le_of_ble_eq_true rfl) (fun E hp => ?_)
  refine s_aload_n (pc := 0) 0 rfl rfl dX6_moved_0 ?_
  refine s_getr (pc := 1) (b := 23) fl_X6_27 rfl rfl rfl dX6_moved_1 ?_
  refine s_iload_n (pc := 4) 1 rfl rfl dX6_moved_4 ?_
  refine s_cvi1 (pc := 5) (c_X2_isShipN hR.1 hO.1.1 hi) ml_X6_140 mw_X2_isShip rfl (by decide) (Nat.le_of_ble_eq_true rfl) dX6_moved_5 ?_
  refine s_if_neT (pc := 8) 13 dX6_moved_8 (by decide) ?_
  refine s_aload_n (pc := 13) 0 rfl rfl dX6_moved_13 ?_
  refine s_getr (pc := 14) (b := 23) fl_X6_27 rfl rfl rfl dX6_moved_14 ?_
  refine s_iload_n (pc := 17) 1 rfl rfl dX6_moved_17 ?_
  refine s_cvi1 (pc := 18) (c_X2_isIn hR.1 hO (by have := hO.1.1; omega)) ml_X6_198 mw_X2_isIn rfl (by decide) (Nat.le_of_ble_eq_true rfl) dX6_moved_18 ?_
  refine s_iload_n (pc := 21) 2 rfl rfl dX6_moved_21 ?_
  refine s_icmp_ne (pc := 22) 28 dX6_moved_22 (by decide) (fun c_22 => ?_) (fun c_22 => ?_)
  · refine s_aload_n (pc := 28) 0 rfl rfl dX6_moved_28 ?_
    refine s_getr (pc := 29) (b := 23) fl_X6_27 rfl rfl rfl dX6_moved_29 ?_
    refine s_iload_n (pc := 32) 1 rfl rfl dX6_moved_32 ?_
    refine s_cvi1 (pc := 33) (c_X2_hasHoursFor hR hO hi) ml_X6_284 mw_X2_hasHoursFor rfl (by decide) (Nat.le_of_ble_eq_true rfl) dX6_moved_33 ?_
    refine s_if_eqB (pc := 36) 51 dX6_moved_36 (by decide) (fun c_36 => ?_) (fun c_36 => ?_)
    · exfalso; exact c_36 hp4
    · refine s_aload_n (pc := 39) 0 rfl rfl dX6_moved_39 ?_
      refine s_getr (pc := 40) (b := 23) fl_X6_27 rfl rfl rfl dX6_moved_40 ?_
      refine s_iconst (pc := 43) (k_i0N) dX6_moved_43 ?_
      refine s_iload_n (pc := 44) 1 rfl rfl dX6_moved_44 ?_
      refine s_cvi2 (pc := 45) (c_X2_doDeedF hR h3) ml_X6_164 mw_X2_doDeed rfl (by decide) (Nat.le_of_ble_eq_true rfl) dX6_moved_45 ?_
      refine s_goto (pc := 48) 53 dX6_moved_48 (by decide) ?_
      refine s_iret (pc := 53) dX6_moved_53 (PostE.of hp ?_ ?_)
      · rfl
      · rfl
  · exact absurd c_22 (fun q => hs (bi_in q))

set_option maxRecDepth 20000 in
theorem c_X6_moved1O {i v : Nat} {h2 : Hp} {a : Nat → Nat} {h : Hp} (hR : RC a h) (hO : OkA a) (hi : i < a 0) (hs : ¬ (a 5).testBit i = true) (hp4 : 1 + shiftN a i (a 5) ≤ a 4) (hcd : CT 8 yX2_doDeed cX2_doDeed 3 (some .int) [.ref 23, .int (nI 0), .int (nI i)] h (some (.int (nI v))) h2) : CT 9 yX6_moved cX6_moved 3 (some .int) [.ref 0, .int (nI i), .int (nI 1)] h (some (.int (nI v))) (h2) := by
  refine CT.of (own := RX6) rfl (by decide) (ro_i _) [.ref 0, .int (nI i), .int (nI 1)] rfl (Nat.le_of_ble_eq_true rfl) (fun E hp => ?_)
  refine s_aload_n (pc := 0) 0 rfl rfl dX6_moved_0 ?_
  refine s_getr (pc := 1) (b := 23) fl_X6_27 rfl rfl rfl dX6_moved_1 ?_
  refine s_iload_n (pc := 4) 1 rfl rfl dX6_moved_4 ?_
  refine s_cvi1 (pc := 5) (c_X2_isShipN hR.1 hO.1.1 hi) ml_X6_140 mw_X2_isShip rfl (by decide) (Nat.le_of_ble_eq_true rfl) dX6_moved_5 ?_
  refine s_if_neT (pc := 8) 13 dX6_moved_8 (by decide) ?_
  refine s_aload_n (pc := 13) 0 rfl rfl dX6_moved_13 ?_
  refine s_getr (pc := 14) (b := 23) fl_X6_27 rfl rfl rfl dX6_moved_14 ?_
  refine s_iload_n (pc := 17) 1 rfl rfl dX6_moved_17 ?_
  refine s_cvi1 (pc := 18) (c_X2_isIn hR.1 hO (by have := hO.1.1; omega)) ml_X6_198 mw_X2_isIn rfl (by decide) (Nat.le_of_ble_eq_true rfl) dX6_moved_18 ?_
  refine s_iload_n (pc := 21) 2 rfl rfl dX6_moved_21 ?_
  refine s_icmp_ne (pc := 22) 28 dX6_moved_22 (by decide) (fun c_22 => ?_) (fun c_22 => ?_)
  · refine s_aload_n (pc := 28) 0 rfl rfl dX6_moved_28 ?_
    refine s_getr (pc := 29) (b := 23) fl_X6_27 rfl rfl rfl dX6_moved_29 ?_
    refine s_iload_n (pc := 32) 1 rfl rfl dX6_moved_32 ?_
    refine s_cvi1 (pc := 33) (c_X2_hasHoursFor hR hO hi) ml_X6_284 mw_X2_hasHoursFor rfl (by decide) (Nat.le_of_ble_eq_true rfl) dX6_moved_33 ?_
    refine s_if_eqB (pc := 36) 51 dX6_moved_36 (by decide) (fun c_36 => ?_) (fun c_36 => ?_)
    · exfalso; exact c_36 hp4
    · refine s_aload_n (pc := 39) 0 rfl rfl dX6_moved_39 ?_
      refine s_getr (pc := 40) (b := 23) fl_X6_27 rfl rfl rfl dX6_moved_40 ?_
      refine s_iconst (pc := 43) (k_i0N) dX6_moved_43 ?_
      refine s_iload_n (pc := 44) 1 rfl rfl dX6_moved_44 ?_
      refine s_cvi2 (pc := 45) (hcd) ml_X6_164 mw_X2_doDeed rfl (by decide) (Nat.le_of_ble_eq_true rfl) dX6_moved_45 ?_
      refine s_goto (pc := 48) 53 dX6_moved_48 (by decide) ?_
      refine s_iret (pc := 53) dX6_moved_53 (PostE.of hp ?_ ?_)
      · rfl
      · rfl
  · exact absurd c_22 (fun q => hs (bi_in q))

set_option maxRecDepth 20000 in
theorem c_X6_comeB {s : Int32} {a : Nat → Nat} {h : Hp} (hR : RC a h) (hO : OkA a) (hb : s < 0 ∨ nI (a 0) ≤ s) : CT 4 yX6_come cX6_come 2 (some .int) [.ref 0, .int s] h (some (.int (-1))) (h) := by
  refine CT.of (own := RX6) rfl (by decide) (ro_i _) [.ref 0, .int s] rfl (Nat.le_of_ble_eq_true rfl) (fun E hp => ?_)
  refine s_aload_n (pc := 0) 0 rfl rfl dX6_come_0 ?_
  refine s_iload_n (pc := 1) 1 rfl rfl dX6_come_1 ?_
  refine s_iconst (pc := 2) (k_i1N) dX6_come_2 ?_
  refine s_cvi2 (pc := 3) (c_X6_moved1B hR hO hb) ml_X6_157 mw_X6_moved rfl (by decide) (Nat.le_of_ble_eq_true rfl) dX6_come_3 ?_
  refine s_iret (pc := 6) dX6_come_6 (PostE.of hp ?_ ?_)
  · rfl
  · rfl

set_option maxRecDepth 20000 in
theorem c_X6_comeS {i : Nat} {a : Nat → Nat} {h : Hp} (hR : RC a h) (hO : OkA a) (hi : i < a 0) (hs : (a 5).testBit i = true) : CT 5 yX6_come cX6_come 2 (some .int) [.ref 0, .int (nI i)] h (some (.int (-4))) (h) := by
  refine CT.of (own := RX6) rfl (by decide) (ro_i _) [.ref 0, .int (nI i)] rfl (Nat.le_of_ble_eq_true rfl) (fun E hp => ?_)
  refine s_aload_n (pc := 0) 0 rfl rfl dX6_come_0 ?_
  refine s_iload_n (pc := 1) 1 rfl rfl dX6_come_1 ?_
  refine s_iconst (pc := 2) (k_i1N) dX6_come_2 ?_
  refine s_cvi2 (pc := 3) (c_X6_moved1S hR hO hi hs) ml_X6_157 mw_X6_moved rfl (by decide) (Nat.le_of_ble_eq_true rfl) dX6_come_3 ?_
  refine s_iret (pc := 6) dX6_come_6 (PostE.of hp ?_ ?_)
  · rfl
  · rfl

set_option maxRecDepth 20000 in
theorem c_X6_comeP {i : Nat} {a : Nat → Nat} {h : Hp} (hR : RC a h) (hO : OkA a) (hi : i < a 0) (hs : ¬ (a 5).testBit i = true) (hp4 : ¬ 1 + shiftN a i (a 5) ≤ a 4) : CT 5 yX6_come cX6_come 2 (some .int) [.ref 0, .int (nI i)] h (some (.int (-6))) (h) := by
  refine CT.of (own := RX6) rfl (by decide) (ro_i _) [.ref 0, .int (nI i)] rfl (Nat.le_of_ble_eq_true rfl) (fun E hp => ?_)
  refine s_aload_n (pc := 0) 0 rfl rfl dX6_come_0 ?_
  refine s_iload_n (pc := 1) 1 rfl rfl dX6_come_1 ?_
  refine s_iconst (pc := 2) (k_i1N) dX6_come_2 ?_
  refine s_cvi2 (pc := 3) (c_X6_moved1P hR hO hi hs hp4) ml_X6_157 mw_X6_moved rfl (by decide) (Nat.le_of_ble_eq_true rfl) dX6_come_3 ?_
  refine s_iret (pc := 6) dX6_come_6 (PostE.of hp ?_ ?_)
  · rfl
  · rfl

set_option maxRecDepth 20000 in
theorem c_X6_comeF {i : Nat} {a : Nat → Nat} {h : Hp} (hR : RC a h) (hO : OkA a) (hi : i < a 0) (hs : ¬ (a 5).testBit i = true) (hp4 : 1 + shiftN a i (a 5) ≤ a 4) (h3 : h.1 23 6 = nI 40) : CT 5 yX6_come cX6_come 2 (some .int) [.ref 0, .int (nI i)] h (some (.int (-2))) (h) := by
  refine CT.of (own := RX6) rfl (by decide) (ro_i _) [.ref 0, .int (nI i)] rfl (Nat.le_of_ble_eq_true rfl) (fun E hp => ?_)
  refine s_aload_n (pc := 0) 0 rfl rfl dX6_come_0 ?_
  refine s_iload_n (pc := 1) 1 rfl rfl dX6_come_1 ?_
  refine s_iconst (pc := 2) (k_i1N) dX6_come_2 ?_
  refine s_cvi2 (pc := 3) (c_X6_moved1F hR hO hi hs hp4 h3) ml_X6_157 mw_X6_moved rfl (by decide) (Nat.le_of_ble_eq_true rfl) dX6_come_3 ?_
  refine s_iret (pc := 6) dX6_come_6 (PostE.of hp ?_ ?_)
  · rfl
  · rfl

set_option maxRecDepth 20000 in
theorem c_X6_comeO {i v : Nat} {h2 : Hp} {a : Nat → Nat} {h : Hp} (hR : RC a h) (hO : OkA a) (hi : i < a 0) (hs : ¬ (a 5).testBit i = true) (hp4 : 1 + shiftN a i (a 5) ≤ a 4) (hcd : CT 8 yX2_doDeed cX2_doDeed 3 (some .int) [.ref 23, .int (nI 0), .int (nI i)] h (some (.int (nI v))) h2) : CT 10 yX6_come cX6_come 2 (some .int) [.ref 0, .int (nI i)] h (some (.int (nI v))) (h2) := by
  refine CT.of (own := RX6) rfl (by decide) (ro_i _) [.ref 0, .int (nI i)] rfl (Nat.le_of_ble_eq_true rfl) (fun E hp => ?_)
  refine s_aload_n (pc := 0) 0 rfl rfl dX6_come_0 ?_
  refine s_iload_n (pc := 1) 1 rfl rfl dX6_come_1 ?_
  refine s_iconst (pc := 2) (k_i1N) dX6_come_2 ?_
  refine s_cvi2 (pc := 3) (c_X6_moved1O hR hO hi hs hp4 hcd) ml_X6_157 mw_X6_moved rfl (by decide) (Nat.le_of_ble_eq_true rfl) dX6_come_3 ?_
  refine s_iret (pc := 6) dX6_come_6 (PostE.of hp ?_ ?_)
  · rfl
  · rfl

set_option maxRecDepth 20000 in
theorem c_X6_moved0B {s : Int32} {a : Nat → Nat} {h : Hp} (hR : RC a h) (hO : OkA a) (hb : s < 0 ∨ nI (a 0) ≤ s) : CT 3 yX6_moved cX6_moved 3 (some .int) [.ref 0, .int s, .int (nI 0)] h (some (.int (-1))) (h) := by
  refine CT.of (own := RX6) rfl (by decide) (ro_i _) [.ref 0, .int s, .int (nI 0)] rfl (Nat.le_of_ble_eq_true rfl) (fun E hp => ?_)
  refine s_aload_n (pc := 0) 0 rfl rfl dX6_moved_0 ?_
  refine s_getr (pc := 1) (b := 23) fl_X6_27 rfl rfl rfl dX6_moved_1 ?_
  refine s_iload_n (pc := 4) 1 rfl rfl dX6_moved_4 ?_
  refine s_cvi1 (pc := 5) (c_X2_isShipB hR.1 hO.1.1 hb) ml_X6_140 mw_X2_isShip rfl (by decide) (Nat.le_of_ble_eq_true rfl) dX6_moved_5 ?_
  refine s_if_neF (pc := 8) 13 dX6_moved_8 (by decide) ?_
  refine s_iconst (pc := 11) (k_im1) dX6_moved_11 ?_
  refine s_iret (pc := 12) dX6_moved_12 (PostE.of hp ?_ ?_)
  · rfl
  · rfl

set_option maxRecDepth 20000 in
theorem c_X6_moved0S {i : Nat} {a : Nat → Nat} {h : Hp} (hR : RC a h) (hO : OkA a) (hi : i < a 0) (hs : ¬ (a 5).testBit i = true) : CT 4 yX6_moved cX6_moved 3 (some .int) [.ref 0, .int (nI i), .int (nI 0)] h (some (.int (-4))) (h) := by
  refine CT.of (own := RX6) rfl (by decide) (ro_i _) [.ref 0, .int (nI i), .int (nI 0)] rfl (Nat.le_of_ble_eq_true rfl) (fun E hp => ?_)
  refine s_aload_n (pc := 0) 0 rfl rfl dX6_moved_0 ?_
  refine s_getr (pc := 1) (b := 23) fl_X6_27 rfl rfl rfl dX6_moved_1 ?_
  refine s_iload_n (pc := 4) 1 rfl rfl dX6_moved_4 ?_
  refine s_cvi1 (pc := 5) (c_X2_isShipN hR.1 hO.1.1 hi) ml_X6_140 mw_X2_isShip rfl (by decide) (Nat.le_of_ble_eq_true rfl) dX6_moved_5 ?_
  refine s_if_neT (pc := 8) 13 dX6_moved_8 (by decide) ?_
  refine s_aload_n (pc := 13) 0 rfl rfl dX6_moved_13 ?_
  refine s_getr (pc := 14) (b := 23) fl_X6_27 rfl rfl rfl dX6_moved_14 ?_
  refine s_iload_n (pc := 17) 1 rfl rfl dX6_moved_17 ?_
  refine s_cvi1 (pc := 18) (c_X2_isIn hR.1 hO (by have := hO.1.1; omega)) ml_X6_198 mw_X2_isIn rfl (by decide) (Nat.le_of_ble_eq_true rfl) dX6_moved_18 ?_
  refine s_iload_n (pc := 21) 2 rfl rfl dX6_moved_21 ?_
  refine s_icmp_ne (pc := 22) 28 dX6_moved_22 (by decide) (fun c_22 => ?_) (fun c_22 => ?_)
  · exact absurd (show bi ((a 5).testBit i = true) = nI 0 from bi_f hs) c_22
  · refine s_bipush (pc := 25) (k_bm4) dX6_moved_25 ?_
    refine s_iret (pc := 27) dX6_moved_27 (PostE.of hp ?_ ?_)
    · rfl
    · rfl

set_option maxRecDepth 20000 in
theorem c_X6_moved0P {i : Nat} {a : Nat → Nat} {h : Hp} (hR : RC a h) (hO : OkA a) (hi : i < a 0) (hs : (a 5).testBit i = true) (hp4 : ¬ 1 + shiftN a i (a 5) ≤ a 4) : CT 4 yX6_moved cX6_moved 3 (some .int) [.ref 0, .int (nI i), .int (nI 0)] h (some (.int (-6))) (h) := by
  refine CT.of (own := RX6) rfl (by decide) (ro_i _) [.ref 0, .int (nI i), .int (nI 0)] rfl (Nat.le_of_ble_eq_true rfl) (fun E hp => ?_)
  refine s_aload_n (pc := 0) 0 rfl rfl dX6_moved_0 ?_
  refine s_getr (pc := 1) (b := 23) fl_X6_27 rfl rfl rfl dX6_moved_1 ?_
  refine s_iload_n (pc := 4) 1 rfl rfl dX6_moved_4 ?_
  refine s_cvi1 (pc := 5) (c_X2_isShipN hR.1 hO.1.1 hi) ml_X6_140 mw_X2_isShip rfl (by decide) (Nat.le_of_ble_eq_true rfl) dX6_moved_5 ?_
  refine s_if_neT (pc := 8) 13 dX6_moved_8 (by decide) ?_
  refine s_aload_n (pc := 13) 0 rfl rfl dX6_moved_13 ?_
  refine s_getr (pc := 14) (b := 23) fl_X6_27 rfl rfl rfl dX6_moved_14 ?_
  refine s_iload_n (pc := 17) 1 rfl rfl dX6_moved_17 ?_
  refine s_cvi1 (pc := 18) (c_X2_isIn hR.1 hO (by have := hO.1.1; omega)) ml_X6_198 mw_X2_isIn rfl (by decide) (Nat.le_of_ble_eq_true rfl) dX6_moved_18 ?_
  refine s_iload_n (pc := 21) 2 rfl rfl dX6_moved_21 ?_
  refine s_icmp_ne (pc := 22) 28 dX6_moved_22 (by decide) (fun c_22 => ?_) (fun c_22 => ?_)
  · refine s_aload_n (pc := 28) 0 rfl rfl dX6_moved_28 ?_
    refine s_getr (pc := 29) (b := 23) fl_X6_27 rfl rfl rfl dX6_moved_29 ?_
    refine s_iload_n (pc := 32) 1 rfl rfl dX6_moved_32 ?_
    refine s_cvi1 (pc := 33) (c_X2_hasHoursFor hR hO hi) ml_X6_284 mw_X2_hasHoursFor rfl (by decide) (Nat.le_of_ble_eq_true rfl) dX6_moved_33 ?_
    refine s_if_eqB (pc := 36) 51 dX6_moved_36 (by decide) (fun c_36 => ?_) (fun c_36 => ?_)
    · refine s_bipush (pc := 51) (k_bm6) dX6_moved_51 ?_
      refine s_iret (pc := 53) dX6_moved_53 (PostE.of hp ?_ ?_)
      · rfl
      · rfl
    · exfalso; exact hp4 c_36
  · exact absurd c_22 (fun q => bi_out q hs)

set_option maxRecDepth 20000 in
theorem c_X6_moved0F {i : Nat} {a : Nat → Nat} {h : Hp} (hR : RC a h) (hO : OkA a) (hi : i < a 0) (hs : (a 5).testBit i = true) (hp4 : 1 + shiftN a i (a 5) ≤ a 4) (h3 : h.1 23 6 = nI 40) : CT 4 yX6_moved cX6_moved 3 (some .int) [.ref 0, .int (nI i), .int (nI 0)] h (some (.int (-2))) (h) := by
  refine CT.of (own := RX6) rfl (by decide) (ro_i _) [.ref 0, .int (nI i), .int (nI 0)] rfl (Nat.le_of_ble_eq_true rfl) (fun E hp => ?_)
  refine s_aload_n (pc := 0) 0 rfl rfl dX6_moved_0 ?_
  refine s_getr (pc := 1) (b := 23) fl_X6_27 rfl rfl rfl dX6_moved_1 ?_
  refine s_iload_n (pc := 4) 1 rfl rfl dX6_moved_4 ?_
  refine s_cvi1 (pc := 5) (c_X2_isShipN hR.1 hO.1.1 hi) ml_X6_140 mw_X2_isShip rfl (by decide) (Nat.le_of_ble_eq_true rfl) dX6_moved_5 ?_
  refine s_if_neT (pc := 8) 13 dX6_moved_8 (by decide) ?_
  refine s_aload_n (pc := 13) 0 rfl rfl dX6_moved_13 ?_
  refine s_getr (pc := 14) (b := 23) fl_X6_27 rfl rfl rfl dX6_moved_14 ?_
  refine s_iload_n (pc := 17) 1 rfl rfl dX6_moved_17 ?_
  refine s_cvi1 (pc := 18) (c_X2_isIn hR.1 hO (by have := hO.1.1; omega)) ml_X6_198 mw_X2_isIn rfl (by decide) (Nat.le_of_ble_eq_true rfl) dX6_moved_18 ?_
  refine s_iload_n (pc := 21) 2 rfl rfl dX6_moved_21 ?_
  refine s_icmp_ne (pc := 22) 28 dX6_moved_22 (by decide) (fun c_22 => ?_) (fun c_22 => ?_)
  · refine s_aload_n (pc := 28) 0 rfl rfl dX6_moved_28 ?_
    refine s_getr (pc := 29) (b := 23) fl_X6_27 rfl rfl rfl dX6_moved_29 ?_
    refine s_iload_n (pc := 32) 1 rfl rfl dX6_moved_32 ?_
    refine s_cvi1 (pc := 33) (c_X2_hasHoursFor hR hO hi) ml_X6_284 mw_X2_hasHoursFor rfl (by decide) (Nat.le_of_ble_eq_true rfl) dX6_moved_33 ?_
    refine s_if_eqB (pc := 36) 51 dX6_moved_36 (by decide) (fun c_36 => ?_) (fun c_36 => ?_)
    · exfalso; exact c_36 hp4
    · refine s_aload_n (pc := 39) 0 rfl rfl dX6_moved_39 ?_
      refine s_getr (pc := 40) (b := 23) fl_X6_27 rfl rfl rfl dX6_moved_40 ?_
      refine s_iconst (pc := 43) (k_i0N) dX6_moved_43 ?_
      refine s_iload_n (pc := 44) 1 rfl rfl dX6_moved_44 ?_
      refine s_cvi2 (pc := 45) (c_X2_doDeedF hR h3) ml_X6_164 mw_X2_doDeed rfl (by decide) (Nat.le_of_ble_eq_true rfl) dX6_moved_45 ?_
      refine s_goto (pc := 48) 53 dX6_moved_48 (by decide) ?_
      refine s_iret (pc := 53) dX6_moved_53 (PostE.of hp ?_ ?_)
      · rfl
      · rfl
  · exact absurd c_22 (fun q => bi_out q hs)

set_option maxRecDepth 20000 in
theorem c_X6_moved0O {i v : Nat} {h2 : Hp} {a : Nat → Nat} {h : Hp} (hR : RC a h) (hO : OkA a) (hi : i < a 0) (hs : (a 5).testBit i = true) (hp4 : 1 + shiftN a i (a 5) ≤ a 4) (hcd : CT 8 yX2_doDeed cX2_doDeed 3 (some .int) [.ref 23, .int (nI 0), .int (nI i)] h (some (.int (nI v))) h2) : CT 9 yX6_moved cX6_moved 3 (some .int) [.ref 0, .int (nI i), .int (nI 0)] h (some (.int (nI v))) (h2) := by
  refine CT.of (own := RX6) rfl (by decide) (ro_i _) [.ref 0, .int (nI i), .int (nI 0)] rfl (Nat.le_of_ble_eq_true rfl) (fun E hp => ?_)
  refine s_aload_n (pc := 0) 0 rfl rfl dX6_moved_0 ?_
  refine s_getr (pc := 1) (b := 23) fl_X6_27 rfl rfl rfl dX6_moved_1 ?_
  refine s_iload_n (pc := 4) 1 rfl rfl dX6_moved_4 ?_
  refine s_cvi1 (pc := 5) (c_X2_isShipN hR.1 hO.1.1 hi) ml_X6_140 mw_X2_isShip rfl (by decide) (Nat.le_of_ble_eq_true rfl) dX6_moved_5 ?_
  refine s_if_neT (pc := 8) 13 dX6_moved_8 (by decide) ?_
  refine s_aload_n (pc := 13) 0 rfl rfl dX6_moved_13 ?_
  refine s_getr (pc := 14) (b := 23) fl_X6_27 rfl rfl rfl dX6_moved_14 ?_
  refine s_iload_n (pc := 17) 1 rfl rfl dX6_moved_17 ?_
  refine s_cvi1 (pc := 18) (c_X2_isIn hR.1 hO (by have := hO.1.1; omega)) ml_X6_198 mw_X2_isIn rfl (by decide) (Nat.le_of_ble_eq_true rfl) dX6_moved_18 ?_
  refine s_iload_n (pc := 21) 2 rfl rfl dX6_moved_21 ?_
  refine s_icmp_ne (pc := 22) 28 dX6_moved_22 (by decide) (fun c_22 => ?_) (fun c_22 => ?_)
  · refine s_aload_n (pc := 28) 0 rfl rfl dX6_moved_28 ?_
    refine s_getr (pc := 29) (b := 23) fl_X6_27 rfl rfl rfl dX6_moved_29 ?_
    refine s_iload_n (pc := 32) 1 rfl rfl dX6_moved_32 ?_
    refine s_cvi1 (pc := 33) (c_X2_hasHoursFor hR hO hi) ml_X6_284 mw_X2_hasHoursFor rfl (by decide) (Nat.le_of_ble_eq_true rfl) dX6_moved_33 ?_
    refine s_if_eqB (pc := 36) 51 dX6_moved_36 (by decide) (fun c_36 => ?_) (fun c_36 => ?_)
    · exfalso; exact c_36 hp4
    · refine s_aload_n (pc := 39) 0 rfl rfl dX6_moved_39 ?_
      refine s_getr (pc := 40) (b := 23) fl_X6_27 rfl rfl rfl dX6_moved_40 ?_
      refine s_iconst (pc := 43) (k_i0N) dX6_moved_43 ?_
      refine s_iload_n (pc := 44) 1 rfl rfl dX6_moved_44 ?_
      refine s_cvi2 (pc := 45) (hcd) ml_X6_164 mw_X2_doDeed rfl (by decide) (Nat.le_of_ble_eq_true rfl) dX6_moved_45 ?_
      refine s_goto (pc := 48) 53 dX6_moved_48 (by decide) ?_
      refine s_iret (pc := 53) dX6_moved_53 (PostE.of hp ?_ ?_)
      · rfl
      · rfl
  · exact absurd c_22 (fun q => bi_out q hs)

set_option maxRecDepth 20000 in
theorem c_X6_leaveB {s : Int32} {a : Nat → Nat} {h : Hp} (hR : RC a h) (hO : OkA a) (hb : s < 0 ∨ nI (a 0) ≤ s) : CT 4 yX6_leave cX6_leave 2 (some .int) [.ref 0, .int s] h (some (.int (-1))) (h) := by
  refine CT.of (own := RX6) rfl (by decide) (ro_i _) [.ref 0, .int s] rfl (Nat.le_of_ble_eq_true rfl) (fun E hp => ?_)
  refine s_aload_n (pc := 0) 0 rfl rfl dX6_leave_0 ?_
  refine s_iload_n (pc := 1) 1 rfl rfl dX6_leave_1 ?_
  refine s_iconst (pc := 2) (k_i0N) dX6_leave_2 ?_
  refine s_cvi2 (pc := 3) (c_X6_moved0B hR hO hb) ml_X6_157 mw_X6_moved rfl (by decide) (Nat.le_of_ble_eq_true rfl) dX6_leave_3 ?_
  refine s_iret (pc := 6) dX6_leave_6 (PostE.of hp ?_ ?_)
  · rfl
  · rfl

set_option maxRecDepth 20000 in
theorem c_X6_leaveS {i : Nat} {a : Nat → Nat} {h : Hp} (hR : RC a h) (hO : OkA a) (hi : i < a 0) (hs : ¬ (a 5).testBit i = true) : CT 5 yX6_leave cX6_leave 2 (some .int) [.ref 0, .int (nI i)] h (some (.int (-4))) (h) := by
  refine CT.of (own := RX6) rfl (by decide) (ro_i _) [.ref 0, .int (nI i)] rfl (Nat.le_of_ble_eq_true rfl) (fun E hp => ?_)
  refine s_aload_n (pc := 0) 0 rfl rfl dX6_leave_0 ?_
  refine s_iload_n (pc := 1) 1 rfl rfl dX6_leave_1 ?_
  refine s_iconst (pc := 2) (k_i0N) dX6_leave_2 ?_
  refine s_cvi2 (pc := 3) (c_X6_moved0S hR hO hi hs) ml_X6_157 mw_X6_moved rfl (by decide) (Nat.le_of_ble_eq_true rfl) dX6_leave_3 ?_
  refine s_iret (pc := 6) dX6_leave_6 (PostE.of hp ?_ ?_)
  · rfl
  · rfl

set_option maxRecDepth 20000 in
theorem c_X6_leaveP {i : Nat} {a : Nat → Nat} {h : Hp} (hR : RC a h) (hO : OkA a) (hi : i < a 0) (hs : (a 5).testBit i = true) (hp4 : ¬ 1 + shiftN a i (a 5) ≤ a 4) : CT 5 yX6_leave cX6_leave 2 (some .int) [.ref 0, .int (nI i)] h (some (.int (-6))) (h) := by
  refine CT.of (own := RX6) rfl (by decide) (ro_i _) [.ref 0, .int (nI i)] rfl (Nat.le_of_ble_eq_true rfl) (fun E hp => ?_)
  refine s_aload_n (pc := 0) 0 rfl rfl dX6_leave_0 ?_
  refine s_iload_n (pc := 1) 1 rfl rfl dX6_leave_1 ?_
  refine s_iconst (pc := 2) (k_i0N) dX6_leave_2 ?_
  refine s_cvi2 (pc := 3) (c_X6_moved0P hR hO hi hs hp4) ml_X6_157 mw_X6_moved rfl (by decide) (Nat.le_of_ble_eq_true rfl) dX6_leave_3 ?_
  refine s_iret (pc := 6) dX6_leave_6 (PostE.of hp ?_ ?_)
  · rfl
  · rfl

set_option maxRecDepth 20000 in
theorem c_X6_leaveF {i : Nat} {a : Nat → Nat} {h : Hp} (hR : RC a h) (hO : OkA a) (hi : i < a 0) (hs : (a 5).testBit i = true) (hp4 : 1 + shiftN a i (a 5) ≤ a 4) (h3 : h.1 23 6 = nI 40) : CT 5 yX6_leave cX6_leave 2 (some .int) [.ref 0, .int (nI i)] h (some (.int (-2))) (h) := by
  refine CT.of (own := RX6) rfl (by decide) (ro_i _) [.ref 0, .int (nI i)] rfl (Nat.le_of_ble_eq_true rfl) (fun E hp => ?_)
  refine s_aload_n (pc := 0) 0 rfl rfl dX6_leave_0 ?_
  refine s_iload_n (pc := 1) 1 rfl rfl dX6_leave_1 ?_
  refine s_iconst (pc := 2) (k_i0N) dX6_leave_2 ?_
  refine s_cvi2 (pc := 3) (c_X6_moved0F hR hO hi hs hp4 h3) ml_X6_157 mw_X6_moved rfl (by decide) (Nat.le_of_ble_eq_true rfl) dX6_leave_3 ?_
  refine s_iret (pc := 6) dX6_leave_6 (PostE.of hp ?_ ?_)
  · rfl
  · rfl

set_option maxRecDepth 20000 in
theorem c_X6_leaveO {i v : Nat} {h2 : Hp} {a : Nat → Nat} {h : Hp} (hR : RC a h) (hO : OkA a) (hi : i < a 0) (hs : (a 5).testBit i = true) (hp4 : 1 + shiftN a i (a 5) ≤ a 4) (hcd : CT 8 yX2_doDeed cX2_doDeed 3 (some .int) [.ref 23, .int (nI 0), .int (nI i)] h (some (.int (nI v))) h2) : CT 10 yX6_leave cX6_leave 2 (some .int) [.ref 0, .int (nI i)] h (some (.int (nI v))) (h2) := by
  refine CT.of (own := RX6) rfl (by decide) (ro_i _) [.ref 0, .int (nI i)] rfl (Nat.le_of_ble_eq_true rfl) (fun E hp => ?_)
  refine s_aload_n (pc := 0) 0 rfl rfl dX6_leave_0 ?_
  refine s_iload_n (pc := 1) 1 rfl rfl dX6_leave_1 ?_
  refine s_iconst (pc := 2) (k_i0N) dX6_leave_2 ?_
  refine s_cvi2 (pc := 3) (c_X6_moved0O hR hO hi hs hp4 hcd) ml_X6_157 mw_X6_moved rfl (by decide) (Nat.le_of_ble_eq_true rfl) dX6_leave_3 ?_
  refine s_iret (pc := 6) dX6_leave_6 (PostE.of hp ?_ ?_)
  · rfl
  · rfl

set_option maxRecDepth 20000 in
theorem c_X6_payB {s  : Int32} {a : Nat → Nat} {h : Hp} (hR : RC a h) (hO : OkA a) (hb : s < 0 ∨ nI (a 0) ≤ s) : CT 3 yX6_pay cX6_pay 2 (some .int) [.ref 0, .int s] h (some (.int (-1))) (h) := by
  refine CT.of (own := RX6) rfl (by decide) (ro_i _) [.ref 0, .int s] rfl (Nat.le_of_ble_eq_true rfl) (fun E hp => ?_)
  refine s_aload_n (pc := 0) 0 rfl rfl dX6_pay_0 ?_
  refine s_getr (pc := 1) (b := 23) fl_X6_27 rfl rfl rfl dX6_pay_1 ?_
  refine s_iload_n (pc := 4) 1 rfl rfl dX6_pay_4 ?_
  refine s_cvi1 (pc := 5) (c_X2_isShipB hR.1 hO.1.1 hb) ml_X6_140 mw_X2_isShip rfl (by decide) (Nat.le_of_ble_eq_true rfl) dX6_pay_5 ?_
  refine s_if_neF (pc := 8) 13 dX6_pay_8 (by decide) ?_
  refine s_iconst (pc := 11) (k_im1) dX6_pay_11 ?_
  refine s_iret (pc := 12) dX6_pay_12 (PostE.of hp ?_ ?_)
  · rfl
  · rfl

set_option maxRecDepth 20000 in
theorem c_X6_payU {i : Nat} {a : Nat → Nat} {h : Hp} (hR : RC a h) (hO : OkA a) (hi : i < a 0) (hk : ¬ sh a i 0 = 5) : CT 4 yX6_pay cX6_pay 2 (some .int) [.ref 0, .int (nI i)] h (some (.int (-3))) (finC h 3) := by
  refine CT.of (own := RX6) rfl (by decide) (ro_i _) [.ref 0, .int (nI i)] rfl (Nat.le_of_ble_eq_true rfl) (fun E hp => ?_)
  refine s_aload_n (pc := 0) 0 rfl rfl dX6_pay_0 ?_
  refine s_getr (pc := 1) (b := 23) fl_X6_27 rfl rfl rfl dX6_pay_1 ?_
  refine s_iload_n (pc := 4) 1 rfl rfl dX6_pay_4 ?_
  refine s_cvi1 (pc := 5) (c_X2_isShipN hR.1 hO.1.1 hi) ml_X6_140 mw_X2_isShip rfl (by decide) (Nat.le_of_ble_eq_true rfl) dX6_pay_5 ?_
  refine s_if_neT (pc := 8) 13 dX6_pay_8 (by decide) ?_
  refine s_aload_n (pc := 13) 0 rfl rfl dX6_pay_13 ?_
  refine s_getr (pc := 14) (b := 23) fl_X6_27 rfl rfl rfl dX6_pay_14 ?_
  refine s_iload_n (pc := 17) 1 rfl rfl dX6_pay_17 ?_
  refine s_iconst (pc := 18) (k_i5N) dX6_pay_18 ?_
  refine s_cvi2 (pc := 19) (c_X2_isOf hR.1 hO hi (by decide) (by decide)) ml_X6_147 mw_X2_isOf rfl (by decide) (Nat.le_of_ble_eq_true rfl) dX6_pay_19 ?_
  refine s_if_neB (pc := 22) 31 dX6_pay_22 (by decide) (fun c_22 => ?_) (fun c_22 => ?_)
  · exfalso; omega
  · refine s_aload_n (pc := 25) 0 rfl rfl dX6_pay_25 ?_
    refine s_iconst (pc := 26) (k_i3N) dX6_pay_26 ?_
    refine s_cvi1 (pc := 27) (c_X6_refuse (by decide) (by decide)) ml_X6_100 mw_X6_refuse rfl (by decide) (Nat.le_of_ble_eq_true rfl) dX6_pay_27 ?_
    refine s_iret (pc := 30) dX6_pay_30 (PostE.of hp ?_ ?_)
    · rfl
    · rfl

set_option maxRecDepth 20000 in
theorem c_X6_payS {i : Nat} {a : Nat → Nat} {h : Hp} (hR : RC a h) (hO : OkA a) (hi : i < a 0) (hk : sh a i 0 = 5) (hs : sh a i 6 = 1) : CT 4 yX6_pay cX6_pay 2 (some .int) [.ref 0, .int (nI i)] h (some (.int (-4))) (h) := by
  refine CT.of (own := RX6) rfl (by decide) (ro_i _) [.ref 0, .int (nI i)] rfl (Nat.le_of_ble_eq_true rfl) (fun E hp => ?_)
  refine s_aload_n (pc := 0) 0 rfl rfl dX6_pay_0 ?_
  refine s_getr (pc := 1) (b := 23) fl_X6_27 rfl rfl rfl dX6_pay_1 ?_
  refine s_iload_n (pc := 4) 1 rfl rfl dX6_pay_4 ?_
  refine s_cvi1 (pc := 5) (c_X2_isShipN hR.1 hO.1.1 hi) ml_X6_140 mw_X2_isShip rfl (by decide) (Nat.le_of_ble_eq_true rfl) dX6_pay_5 ?_
  refine s_if_neT (pc := 8) 13 dX6_pay_8 (by decide) ?_
  refine s_aload_n (pc := 13) 0 rfl rfl dX6_pay_13 ?_
  refine s_getr (pc := 14) (b := 23) fl_X6_27 rfl rfl rfl dX6_pay_14 ?_
  refine s_iload_n (pc := 17) 1 rfl rfl dX6_pay_17 ?_
  refine s_iconst (pc := 18) (k_i5N) dX6_pay_18 ?_
  refine s_cvi2 (pc := 19) (c_X2_isOf hR.1 hO hi (by decide) (by decide)) ml_X6_147 mw_X2_isOf rfl (by decide) (Nat.le_of_ble_eq_true rfl) dX6_pay_19 ?_
  refine s_if_neB (pc := 22) 31 dX6_pay_22 (by decide) (fun c_22 => ?_) (fun c_22 => ?_)
  · refine s_aload_n (pc := 31) 0 rfl rfl dX6_pay_31 ?_
    refine s_getr (pc := 32) (b := 23) fl_X6_27 rfl rfl rfl dX6_pay_32 ?_
    refine s_iload_n (pc := 35) 1 rfl rfl dX6_pay_35 ?_
    refine s_cvi1 (pc := 36) (c_X2_hasPaid hR.1 hO hi) ml_X6_161 mw_X2_hasPaid rfl (by decide) (Nat.le_of_ble_eq_true rfl) dX6_pay_36 ?_
    refine s_if_eqB (pc := 39) 47 dX6_pay_39 (by decide) (fun c_39 => ?_) (fun c_39 => ?_)
    · exfalso; omega
    · refine s_bipush (pc := 42) (k_bm4) dX6_pay_42 ?_
      refine s_goto (pc := 44) 56 dX6_pay_44 (by decide) ?_
      refine s_iret (pc := 56) dX6_pay_56 (PostE.of hp ?_ ?_)
      · rfl
      · rfl
  · exfalso; omega

set_option maxRecDepth 20000 in
theorem c_X6_payF {i : Nat} {a : Nat → Nat} {h : Hp} (hR : RC a h) (hO : OkA a) (hi : i < a 0) (hk : sh a i 0 = 5) (hs : ¬ sh a i 6 = 1) (h3 : h.1 23 6 = nI 40) : CT 4 yX6_pay cX6_pay 2 (some .int) [.ref 0, .int (nI i)] h (some (.int (-2))) (h) := by
  refine CT.of (own := RX6) rfl (by decide) (ro_i _) [.ref 0, .int (nI i)] rfl (Nat.le_of_ble_eq_true rfl) (fun E hp => ?_)
  refine s_aload_n (pc := 0) 0 rfl rfl dX6_pay_0 ?_
  refine s_getr (pc := 1) (b := 23) fl_X6_27 rfl rfl rfl dX6_pay_1 ?_
  refine s_iload_n (pc := 4) 1 rfl rfl dX6_pay_4 ?_
  refine s_cvi1 (pc := 5) (c_X2_isShipN hR.1 hO.1.1 hi) ml_X6_140 mw_X2_isShip rfl (by decide) (Nat.le_of_ble_eq_true rfl) dX6_pay_5 ?_
  refine s_if_neT (pc := 8) 13 dX6_pay_8 (by decide) ?_
  refine s_aload_n (pc := 13) 0 rfl rfl dX6_pay_13 ?_
  refine s_getr (pc := 14) (b := 23) fl_X6_27 rfl rfl rfl dX6_pay_14 ?_
  refine s_iload_n (pc := 17) 1 rfl rfl dX6_pay_17 ?_
  refine s_iconst (pc := 18) (k_i5N) dX6_pay_18 ?_
  refine s_cvi2 (pc := 19) (c_X2_isOf hR.1 hO hi (by decide) (by decide)) ml_X6_147 mw_X2_isOf rfl (by decide) (Nat.le_of_ble_eq_true rfl) dX6_pay_19 ?_
  refine s_if_neB (pc := 22) 31 dX6_pay_22 (by decide) (fun c_22 => ?_) (fun c_22 => ?_)
  · refine s_aload_n (pc := 31) 0 rfl rfl dX6_pay_31 ?_
    refine s_getr (pc := 32) (b := 23) fl_X6_27 rfl rfl rfl dX6_pay_32 ?_
    refine s_iload_n (pc := 35) 1 rfl rfl dX6_pay_35 ?_
    refine s_cvi1 (pc := 36) (c_X2_hasPaid hR.1 hO hi) ml_X6_161 mw_X2_hasPaid rfl (by decide) (Nat.le_of_ble_eq_true rfl) dX6_pay_36 ?_
    refine s_if_eqB (pc := 39) 47 dX6_pay_39 (by decide) (fun c_39 => ?_) (fun c_39 => ?_)
    · refine s_aload_n (pc := 47) 0 rfl rfl dX6_pay_47 ?_
      refine s_getr (pc := 48) (b := 23) fl_X6_27 rfl rfl rfl dX6_pay_48 ?_
      refine s_iconst (pc := 51) (k_i1N) dX6_pay_51 ?_
      refine s_iload_n (pc := 52) 1 rfl rfl dX6_pay_52 ?_
      refine s_cvi2 (pc := 53) (c_X2_doDeedF hR h3) ml_X6_164 mw_X2_doDeed rfl (by decide) (Nat.le_of_ble_eq_true rfl) dX6_pay_53 ?_
      refine s_iret (pc := 56) dX6_pay_56 (PostE.of hp ?_ ?_)
      · rfl
      · rfl
    · exfalso; omega
  · exfalso; omega

set_option maxRecDepth 20000 in
theorem c_X6_payO {i v : Nat} {h2 : Hp} {a : Nat → Nat} {h : Hp} (hR : RC a h) (hO : OkA a) (hi : i < a 0) (hk : sh a i 0 = 5) (hs : ¬ sh a i 6 = 1) (hcd : CT 8 yX2_doDeed cX2_doDeed 3 (some .int) [.ref 23, .int (nI 1), .int (nI i)] h (some (.int (nI v))) h2) : CT 9 yX6_pay cX6_pay 2 (some .int) [.ref 0, .int (nI i)] h (some (.int (nI v))) (h2) := by
  refine CT.of (own := RX6) rfl (by decide) (ro_i _) [.ref 0, .int (nI i)] rfl (Nat.le_of_ble_eq_true rfl) (fun E hp => ?_)
  refine s_aload_n (pc := 0) 0 rfl rfl dX6_pay_0 ?_
  refine s_getr (pc := 1) (b := 23) fl_X6_27 rfl rfl rfl dX6_pay_1 ?_
  refine s_iload_n (pc := 4) 1 rfl rfl dX6_pay_4 ?_
  refine s_cvi1 (pc := 5) (c_X2_isShipN hR.1 hO.1.1 hi) ml_X6_140 mw_X2_isShip rfl (by decide) (Nat.le_of_ble_eq_true rfl) dX6_pay_5 ?_
  refine s_if_neT (pc := 8) 13 dX6_pay_8 (by decide) ?_
  refine s_aload_n (pc := 13) 0 rfl rfl dX6_pay_13 ?_
  refine s_getr (pc := 14) (b := 23) fl_X6_27 rfl rfl rfl dX6_pay_14 ?_
  refine s_iload_n (pc := 17) 1 rfl rfl dX6_pay_17 ?_
  refine s_iconst (pc := 18) (k_i5N) dX6_pay_18 ?_
  refine s_cvi2 (pc := 19) (c_X2_isOf hR.1 hO hi (by decide) (by decide)) ml_X6_147 mw_X2_isOf rfl (by decide) (Nat.le_of_ble_eq_true rfl) dX6_pay_19 ?_
  refine s_if_neB (pc := 22) 31 dX6_pay_22 (by decide) (fun c_22 => ?_) (fun c_22 => ?_)
  · refine s_aload_n (pc := 31) 0 rfl rfl dX6_pay_31 ?_
    refine s_getr (pc := 32) (b := 23) fl_X6_27 rfl rfl rfl dX6_pay_32 ?_
    refine s_iload_n (pc := 35) 1 rfl rfl dX6_pay_35 ?_
    refine s_cvi1 (pc := 36) (c_X2_hasPaid hR.1 hO hi) ml_X6_161 mw_X2_hasPaid rfl (by decide) (Nat.le_of_ble_eq_true rfl) dX6_pay_36 ?_
    refine s_if_eqB (pc := 39) 47 dX6_pay_39 (by decide) (fun c_39 => ?_) (fun c_39 => ?_)
    · refine s_aload_n (pc := 47) 0 rfl rfl dX6_pay_47 ?_
      refine s_getr (pc := 48) (b := 23) fl_X6_27 rfl rfl rfl dX6_pay_48 ?_
      refine s_iconst (pc := 51) (k_i1N) dX6_pay_51 ?_
      refine s_iload_n (pc := 52) 1 rfl rfl dX6_pay_52 ?_
      refine s_cvi2 (pc := 53) (hcd) ml_X6_164 mw_X2_doDeed rfl (by decide) (Nat.le_of_ble_eq_true rfl) dX6_pay_53 ?_
      refine s_iret (pc := 56) dX6_pay_56 (PostE.of hp ?_ ?_)
      · rfl
      · rfl
    · exfalso; omega
  · exfalso; omega

set_option maxRecDepth 20000 in
theorem c_X6_teaB {s  : Int32} {a : Nat → Nat} {h : Hp} (hR : RC a h) (hO : OkA a) (hb : s < 0 ∨ nI (a 0) ≤ s) : CT 3 yX6_tea cX6_tea 2 (some .int) [.ref 0, .int s] h (some (.int (-1))) (h) := by
  refine CT.of (own := RX6) rfl (by decide) (ro_i _) [.ref 0, .int s] rfl (Nat.le_of_ble_eq_true rfl) (fun E hp => ?_)
  refine s_aload_n (pc := 0) 0 rfl rfl dX6_tea_0 ?_
  refine s_getr (pc := 1) (b := 23) fl_X6_27 rfl rfl rfl dX6_tea_1 ?_
  refine s_iload_n (pc := 4) 1 rfl rfl dX6_tea_4 ?_
  refine s_cvi1 (pc := 5) (c_X2_isShipB hR.1 hO.1.1 hb) ml_X6_140 mw_X2_isShip rfl (by decide) (Nat.le_of_ble_eq_true rfl) dX6_tea_5 ?_
  refine s_if_neF (pc := 8) 13 dX6_tea_8 (by decide) ?_
  refine s_iconst (pc := 11) (k_im1) dX6_tea_11 ?_
  refine s_iret (pc := 12) dX6_tea_12 (PostE.of hp ?_ ?_)
  · rfl
  · rfl

set_option maxRecDepth 20000 in
theorem c_X6_teaS {i : Nat} {a : Nat → Nat} {h : Hp} (hR : RC a h) (hO : OkA a) (hi : i < a 0) (hs : sh a i 5 = 20) : CT 4 yX6_tea cX6_tea 2 (some .int) [.ref 0, .int (nI i)] h (some (.int (-4))) (h) := by
  obtain ⟨⟨o0, o1, o2, o3, o4, o5, o6⟩, os⟩ := id hO
  have o64 := hO.in64
  have hC := hR.1
  obtain ⟨⟨r0, r1, r2, r4, r5, r6⟩, rs, P, rp, rP, rt⟩ := id hC
  have rg := hR.2
  refine CT.of (own := RX6) rfl (by decide) (ro_i _) [.ref 0, .int (nI i)] rfl (Nat.le_of_ble_eq_true rfl) (fun E hp => ?_)
  refine s_aload_n (pc := 0) 0 rfl rfl dX6_tea_0 ?_
  refine s_getr (pc := 1) (b := 23) fl_X6_27 rfl rfl rfl dX6_tea_1 ?_
  refine s_iload_n (pc := 4) 1 rfl rfl dX6_tea_4 ?_
  refine s_cvi1 (pc := 5) (c_X2_isShipN hR.1 hO.1.1 hi) ml_X6_140 mw_X2_isShip rfl (by decide) (Nat.le_of_ble_eq_true rfl) dX6_tea_5 ?_
  refine s_if_neT (pc := 8) 13 dX6_tea_8 (by decide) ?_
  refine s_aload_n (pc := 13) 0 rfl rfl dX6_tea_13 ?_
  refine s_getr (pc := 14) (b := 23) fl_X6_27 rfl rfl rfl dX6_tea_14 ?_
  refine s_getr (pc := 17) (b := 30) fl_X6_167 rfl rfl rfl dX6_tea_17 ?_
  refine s_iload_n (pc := 20) 1 rfl rfl dX6_tea_20 ?_
  refine s_ialdN (pc := 21) (_) rfl rfl (by omega) (rs _ (by omega)).2.2.2.2.2.1 dX6_tea_21 ?_
  refine s_bipush (pc := 22) (k_b20N) dX6_tea_22 ?_
  refine s_icmp_ltN (pc := 24) (by omega) (by omega) 32 dX6_tea_24 (by decide) (fun c_24 => ?_) (fun c_24 => ?_)
  · exfalso; omega
  · refine s_bipush (pc := 27) (k_bm4) dX6_tea_27 ?_
    refine s_goto (pc := 29) 41 dX6_tea_29 (by decide) ?_
    refine s_iret (pc := 41) dX6_tea_41 (PostE.of hp ?_ ?_)
    · rfl
    · rfl

set_option maxRecDepth 20000 in
theorem c_X6_teaF {i : Nat} {a : Nat → Nat} {h : Hp} (hR : RC a h) (hO : OkA a) (hi : i < a 0) (hs : sh a i 5 < 20) (h3 : h.1 23 6 = nI 40) : CT 4 yX6_tea cX6_tea 2 (some .int) [.ref 0, .int (nI i)] h (some (.int (-2))) (h) := by
  obtain ⟨⟨o0, o1, o2, o3, o4, o5, o6⟩, os⟩ := id hO
  have o64 := hO.in64
  have hC := hR.1
  obtain ⟨⟨r0, r1, r2, r4, r5, r6⟩, rs, P, rp, rP, rt⟩ := id hC
  have rg := hR.2
  refine CT.of (own := RX6) rfl (by decide) (ro_i _) [.ref 0, .int (nI i)] rfl (Nat.le_of_ble_eq_true rfl) (fun E hp => ?_)
  refine s_aload_n (pc := 0) 0 rfl rfl dX6_tea_0 ?_
  refine s_getr (pc := 1) (b := 23) fl_X6_27 rfl rfl rfl dX6_tea_1 ?_
  refine s_iload_n (pc := 4) 1 rfl rfl dX6_tea_4 ?_
  refine s_cvi1 (pc := 5) (c_X2_isShipN hR.1 hO.1.1 hi) ml_X6_140 mw_X2_isShip rfl (by decide) (Nat.le_of_ble_eq_true rfl) dX6_tea_5 ?_
  refine s_if_neT (pc := 8) 13 dX6_tea_8 (by decide) ?_
  refine s_aload_n (pc := 13) 0 rfl rfl dX6_tea_13 ?_
  refine s_getr (pc := 14) (b := 23) fl_X6_27 rfl rfl rfl dX6_tea_14 ?_
  refine s_getr (pc := 17) (b := 30) fl_X6_167 rfl rfl rfl dX6_tea_17 ?_
  refine s_iload_n (pc := 20) 1 rfl rfl dX6_tea_20 ?_
  refine s_ialdN (pc := 21) (_) rfl rfl (by omega) (rs _ (by omega)).2.2.2.2.2.1 dX6_tea_21 ?_
  refine s_bipush (pc := 22) (k_b20N) dX6_tea_22 ?_
  refine s_icmp_ltN (pc := 24) (by omega) (by omega) 32 dX6_tea_24 (by decide) (fun c_24 => ?_) (fun c_24 => ?_)
  · refine s_aload_n (pc := 32) 0 rfl rfl dX6_tea_32 ?_
    refine s_getr (pc := 33) (b := 23) fl_X6_27 rfl rfl rfl dX6_tea_33 ?_
    refine s_iconst (pc := 36) (k_i2N) dX6_tea_36 ?_
    refine s_iload_n (pc := 37) 1 rfl rfl dX6_tea_37 ?_
    refine s_cvi2 (pc := 38) (c_X2_doDeedF hR h3) ml_X6_164 mw_X2_doDeed rfl (by decide) (Nat.le_of_ble_eq_true rfl) dX6_tea_38 ?_
    refine s_iret (pc := 41) dX6_tea_41 (PostE.of hp ?_ ?_)
    · rfl
    · rfl
  · exfalso; omega

set_option maxRecDepth 20000 in
theorem c_X6_teaO {i v : Nat} {h2 : Hp} {a : Nat → Nat} {h : Hp} (hR : RC a h) (hO : OkA a) (hi : i < a 0) (hs : sh a i 5 < 20) (hcd : CT 8 yX2_doDeed cX2_doDeed 3 (some .int) [.ref 23, .int (nI 2), .int (nI i)] h (some (.int (nI v))) h2) : CT 9 yX6_tea cX6_tea 2 (some .int) [.ref 0, .int (nI i)] h (some (.int (nI v))) (h2) := by
  obtain ⟨⟨o0, o1, o2, o3, o4, o5, o6⟩, os⟩ := id hO
  have o64 := hO.in64
  have hC := hR.1
  obtain ⟨⟨r0, r1, r2, r4, r5, r6⟩, rs, P, rp, rP, rt⟩ := id hC
  have rg := hR.2
  refine CT.of (own := RX6) rfl (by decide) (ro_i _) [.ref 0, .int (nI i)] rfl (Nat.le_of_ble_eq_true rfl) (fun E hp => ?_)
  refine s_aload_n (pc := 0) 0 rfl rfl dX6_tea_0 ?_
  refine s_getr (pc := 1) (b := 23) fl_X6_27 rfl rfl rfl dX6_tea_1 ?_
  refine s_iload_n (pc := 4) 1 rfl rfl dX6_tea_4 ?_
  refine s_cvi1 (pc := 5) (c_X2_isShipN hR.1 hO.1.1 hi) ml_X6_140 mw_X2_isShip rfl (by decide) (Nat.le_of_ble_eq_true rfl) dX6_tea_5 ?_
  refine s_if_neT (pc := 8) 13 dX6_tea_8 (by decide) ?_
  refine s_aload_n (pc := 13) 0 rfl rfl dX6_tea_13 ?_
  refine s_getr (pc := 14) (b := 23) fl_X6_27 rfl rfl rfl dX6_tea_14 ?_
  refine s_getr (pc := 17) (b := 30) fl_X6_167 rfl rfl rfl dX6_tea_17 ?_
  refine s_iload_n (pc := 20) 1 rfl rfl dX6_tea_20 ?_
  refine s_ialdN (pc := 21) (_) rfl rfl (by omega) (rs _ (by omega)).2.2.2.2.2.1 dX6_tea_21 ?_
  refine s_bipush (pc := 22) (k_b20N) dX6_tea_22 ?_
  refine s_icmp_ltN (pc := 24) (by omega) (by omega) 32 dX6_tea_24 (by decide) (fun c_24 => ?_) (fun c_24 => ?_)
  · refine s_aload_n (pc := 32) 0 rfl rfl dX6_tea_32 ?_
    refine s_getr (pc := 33) (b := 23) fl_X6_27 rfl rfl rfl dX6_tea_33 ?_
    refine s_iconst (pc := 36) (k_i2N) dX6_tea_36 ?_
    refine s_iload_n (pc := 37) 1 rfl rfl dX6_tea_37 ?_
    refine s_cvi2 (pc := 38) (hcd) ml_X6_164 mw_X2_doDeed rfl (by decide) (Nat.le_of_ble_eq_true rfl) dX6_tea_38 ?_
    refine s_iret (pc := 41) dX6_tea_41 (PostE.of hp ?_ ?_)
    · rfl
    · rfl
  · exfalso; omega

set_option maxRecDepth 20000 in
theorem c_X6_tideE {a : Nat → Nat} {h : Hp} (hR : RC a h) (hO : OkA a) (h0 : a 0 = 0) : CT 4 yX6_tide cX6_tide 1 (some .int) [.ref 0] h (some (.int (-4))) (h) := by
  refine CT.of (own := RX6) rfl (by decide) (ro_i _) [.ref 0] rfl (Nat.le_of_ble_eq_true rfl) (fun E hp => ?_)
  refine s_aload_n (pc := 0) 0 rfl rfl dX6_tide_0 ?_
  refine s_getr (pc := 1) (b := 23) fl_X6_27 rfl rfl rfl dX6_tide_1 ?_
  refine s_cvi0 (pc := 4) (c_X2_isEmpty hR.1 hO.1.1) ml_X6_170 mw_X2_isEmpty rfl (by decide) (Nat.le_of_ble_eq_true rfl) dX6_tide_4 ?_
  refine s_if_eqB (pc := 7) 15 dX6_tide_7 (by decide) (fun c_7 => ?_) (fun c_7 => ?_)
  · exfalso; omega
  · refine s_bipush (pc := 10) (k_bm4) dX6_tide_10 ?_
    refine s_goto (pc := 12) 24 dX6_tide_12 (by decide) ?_
    refine s_iret (pc := 24) dX6_tide_24 (PostE.of hp ?_ ?_)
    · rfl
    · rfl

set_option maxRecDepth 20000 in
theorem c_X6_tideF {a : Nat → Nat} {h : Hp} (hR : RC a h) (hO : OkA a) (h0 : 0 < a 0) (h3 : h.1 23 6 = nI 40) : CT 4 yX6_tide cX6_tide 1 (some .int) [.ref 0] h (some (.int (-2))) (h) := by
  refine CT.of (own := RX6) rfl (by decide) (ro_i _) [.ref 0] rfl (Nat.le_of_ble_eq_true rfl) (fun E hp => ?_)
  refine s_aload_n (pc := 0) 0 rfl rfl dX6_tide_0 ?_
  refine s_getr (pc := 1) (b := 23) fl_X6_27 rfl rfl rfl dX6_tide_1 ?_
  refine s_cvi0 (pc := 4) (c_X2_isEmpty hR.1 hO.1.1) ml_X6_170 mw_X2_isEmpty rfl (by decide) (Nat.le_of_ble_eq_true rfl) dX6_tide_4 ?_
  refine s_if_eqB (pc := 7) 15 dX6_tide_7 (by decide) (fun c_7 => ?_) (fun c_7 => ?_)
  · refine s_aload_n (pc := 15) 0 rfl rfl dX6_tide_15 ?_
    refine s_getr (pc := 16) (b := 23) fl_X6_27 rfl rfl rfl dX6_tide_16 ?_
    refine s_iconst (pc := 19) (k_i3N) dX6_tide_19 ?_
    refine s_iconst (pc := 20) (k_i0N) dX6_tide_20 ?_
    refine s_cvi2 (pc := 21) (c_X2_doDeedF hR h3) ml_X6_164 mw_X2_doDeed rfl (by decide) (Nat.le_of_ble_eq_true rfl) dX6_tide_21 ?_
    refine s_iret (pc := 24) dX6_tide_24 (PostE.of hp ?_ ?_)
    · rfl
    · rfl
  · exfalso; omega

set_option maxRecDepth 20000 in
theorem c_X6_tideO {v : Nat} {h2 : Hp} {a : Nat → Nat} {h : Hp} (hR : RC a h) (hO : OkA a) (h0 : 0 < a 0) (hcd : CT 8 yX2_doDeed cX2_doDeed 3 (some .int) [.ref 23, .int (nI 3), .int (nI 0)] h (some (.int (nI v))) h2) : CT 9 yX6_tide cX6_tide 1 (some .int) [.ref 0] h (some (.int (nI v))) (h2) := by
  refine CT.of (own := RX6) rfl (by decide) (ro_i _) [.ref 0] rfl (Nat.le_of_ble_eq_true rfl) (fun E hp => ?_)
  refine s_aload_n (pc := 0) 0 rfl rfl dX6_tide_0 ?_
  refine s_getr (pc := 1) (b := 23) fl_X6_27 rfl rfl rfl dX6_tide_1 ?_
  refine s_cvi0 (pc := 4) (c_X2_isEmpty hR.1 hO.1.1) ml_X6_170 mw_X2_isEmpty rfl (by decide) (Nat.le_of_ble_eq_true rfl) dX6_tide_4 ?_
  refine s_if_eqB (pc := 7) 15 dX6_tide_7 (by decide) (fun c_7 => ?_) (fun c_7 => ?_)
  · refine s_aload_n (pc := 15) 0 rfl rfl dX6_tide_15 ?_
    refine s_getr (pc := 16) (b := 23) fl_X6_27 rfl rfl rfl dX6_tide_16 ?_
    refine s_iconst (pc := 19) (k_i3N) dX6_tide_19 ?_
    refine s_iconst (pc := 20) (k_i0N) dX6_tide_20 ?_
    refine s_cvi2 (pc := 21) (hcd) ml_X6_164 mw_X2_doDeed rfl (by decide) (Nat.le_of_ble_eq_true rfl) dX6_tide_21 ?_
    refine s_iret (pc := 24) dX6_tide_24 (PostE.of hp ?_ ?_)
    · rfl
    · rfl
  · exfalso; omega

set_option maxRecDepth 20000 in
theorem c_X6_yearE {a : Nat → Nat} {h : Hp} (hR : RC a h) (hO : OkA a) (h0 : a 0 = 0) : CT 4 yX6_year cX6_year 1 (some .int) [.ref 0] h (some (.int (-4))) (h) := by
  refine CT.of (own := RX6) rfl (by decide) (ro_i _) [.ref 0] rfl (Nat.le_of_ble_eq_true rfl) (fun E hp => ?_)
  refine s_aload_n (pc := 0) 0 rfl rfl dX6_year_0 ?_
  refine s_getr (pc := 1) (b := 23) fl_X6_27 rfl rfl rfl dX6_year_1 ?_
  refine s_cvi0 (pc := 4) (c_X2_isEmpty hR.1 hO.1.1) ml_X6_170 mw_X2_isEmpty rfl (by decide) (Nat.le_of_ble_eq_true rfl) dX6_year_4 ?_
  refine s_if_neB (pc := 7) 23 dX6_year_7 (by decide) (fun c_7 => ?_) (fun c_7 => ?_)
  · refine s_bipush (pc := 23) (k_bm4) dX6_year_23 ?_
    refine s_goto (pc := 25) 37 dX6_year_25 (by decide) ?_
    refine s_iret (pc := 37) dX6_year_37 (PostE.of hp ?_ ?_)
    · rfl
    · rfl
  · exfalso; omega

set_option maxRecDepth 20000 in
theorem c_X6_yearF {a : Nat → Nat} {h : Hp} (hR : RC a h) (hO : OkA a) (h0 : 0 < a 0) (h3 : h.1 23 6 = nI 40) : CT 4 yX6_year cX6_year 1 (some .int) [.ref 0] h (some (.int (-2))) (h) := by
  obtain ⟨⟨o0, o1, o2, o3, o4, o5, o6⟩, os⟩ := id hO
  have o64 := hO.in64
  have hC := hR.1
  obtain ⟨⟨r0, r1, r2, r4, r5, r6⟩, rs, P, rp, rP, rt⟩ := id hC
  have rg := hR.2
  refine CT.of (own := RX6) rfl (by decide) (ro_i _) [.ref 0] rfl (Nat.le_of_ble_eq_true rfl) (fun E hp => ?_)
  refine s_aload_n (pc := 0) 0 rfl rfl dX6_year_0 ?_
  refine s_getr (pc := 1) (b := 23) fl_X6_27 rfl rfl rfl dX6_year_1 ?_
  refine s_cvi0 (pc := 4) (c_X2_isEmpty hR.1 hO.1.1) ml_X6_170 mw_X2_isEmpty rfl (by decide) (Nat.le_of_ble_eq_true rfl) dX6_year_4 ?_
  refine s_if_neB (pc := 7) 23 dX6_year_7 (by decide) (fun c_7 => ?_) (fun c_7 => ?_)
  · exfalso; omega
  · refine s_aload_n (pc := 10) 0 rfl rfl dX6_year_10 ?_
    refine s_getr (pc := 11) (b := 23) fl_X6_27 rfl rfl rfl dX6_year_11 ?_
    refine s_getiE (pc := 14) fl_X6_174 rfl rfl r1 dX6_year_14 ?_
    refine s_sipush (pc := 17) (k_s999N) dX6_year_17 ?_
    refine s_icmp_ltN (pc := 20) (by omega) (by omega) 28 dX6_year_20 (by decide) (fun c_20 => ?_) (fun c_20 => ?_)
    · refine s_aload_n (pc := 28) 0 rfl rfl dX6_year_28 ?_
      refine s_getr (pc := 29) (b := 23) fl_X6_27 rfl rfl rfl dX6_year_29 ?_
      refine s_iconst (pc := 32) (k_i4N) dX6_year_32 ?_
      refine s_iconst (pc := 33) (k_i0N) dX6_year_33 ?_
      refine s_cvi2 (pc := 34) (c_X2_doDeedF hR h3) ml_X6_164 mw_X2_doDeed rfl (by decide) (Nat.le_of_ble_eq_true rfl) dX6_year_34 ?_
      refine s_iret (pc := 37) dX6_year_37 (PostE.of hp ?_ ?_)
      · rfl
      · rfl
    · exfalso; omega

set_option maxRecDepth 20000 in
theorem c_X6_yearO {v : Nat} {h2 : Hp} {a : Nat → Nat} {h : Hp} (hR : RC a h) (hO : OkA a) (h0 : 0 < a 0) (hcd : CT 8 yX2_doDeed cX2_doDeed 3 (some .int) [.ref 23, .int (nI 4), .int (nI 0)] h (some (.int (nI v))) h2) : CT 9 yX6_year cX6_year 1 (some .int) [.ref 0] h (some (.int (nI v))) (h2) := by
  obtain ⟨⟨o0, o1, o2, o3, o4, o5, o6⟩, os⟩ := id hO
  have o64 := hO.in64
  have hC := hR.1
  obtain ⟨⟨r0, r1, r2, r4, r5, r6⟩, rs, P, rp, rP, rt⟩ := id hC
  have rg := hR.2
  refine CT.of (own := RX6) rfl (by decide) (ro_i _) [.ref 0] rfl (Nat.le_of_ble_eq_true rfl) (fun E hp => ?_)
  refine s_aload_n (pc := 0) 0 rfl rfl dX6_year_0 ?_
  refine s_getr (pc := 1) (b := 23) fl_X6_27 rfl rfl rfl dX6_year_1 ?_
  refine s_cvi0 (pc := 4) (c_X2_isEmpty hR.1 hO.1.1) ml_X6_170 mw_X2_isEmpty rfl (by decide) (Nat.le_of_ble_eq_true rfl) dX6_year_4 ?_
  refine s_if_neB (pc := 7) 23 dX6_year_7 (by decide) (fun c_7 => ?_) (fun c_7 => ?_)
  · exfalso; omega
  · refine s_aload_n (pc := 10) 0 rfl rfl dX6_year_10 ?_
    refine s_getr (pc := 11) (b := 23) fl_X6_27 rfl rfl rfl dX6_year_11 ?_
    refine s_getiE (pc := 14) fl_X6_174 rfl rfl r1 dX6_year_14 ?_
    refine s_sipush (pc := 17) (k_s999N) dX6_year_17 ?_
    refine s_icmp_ltN (pc := 20) (by omega) (by omega) 28 dX6_year_20 (by decide) (fun c_20 => ?_) (fun c_20 => ?_)
    · refine s_aload_n (pc := 28) 0 rfl rfl dX6_year_28 ?_
      refine s_getr (pc := 29) (b := 23) fl_X6_27 rfl rfl rfl dX6_year_29 ?_
      refine s_iconst (pc := 32) (k_i4N) dX6_year_32 ?_
      refine s_iconst (pc := 33) (k_i0N) dX6_year_33 ?_
      refine s_cvi2 (pc := 34) (hcd) ml_X6_164 mw_X2_doDeed rfl (by decide) (Nat.le_of_ble_eq_true rfl) dX6_year_34 ?_
      refine s_iret (pc := 37) dX6_year_37 (PostE.of hp ?_ ?_)
      · rfl
      · rfl
    · exfalso; omega

set_option maxRecDepth 20000 in
theorem c_X6_undoB {n : Int32} {a : Nat → Nat} {h : Hp} (hR : RC a h) (hO : OkA a) (h3 : h.1 23 6 = nI (a 3)) (hb : n < 0 ∨ nI (a 3) < n) : CT 4 yX6_undo cX6_undo 3 (some .int) [.ref 0, .int n] h (some (.int (-1))) (h) := by
  obtain ⟨⟨o0, o1, o2, o3, o4, o5, o6⟩, os⟩ := id hO
  have o64 := hO.in64
  have hC := hR.1
  obtain ⟨⟨r0, r1, r2, r4, r5, r6⟩, rs, P, rp, rP, rt⟩ := id hC
  have rg := hR.2
  refine CT.of (own := RX6) rfl (by decide) (ro_i _) [.ref 0, .int n, .null] rfl (Nat.le_of_ble_eq_true rfl) (fun E hp => ?_)
  refine s_aload_n (pc := 0) 0 rfl rfl dX6_undo_0 ?_
  refine s_getr (pc := 1) (b := 23) fl_X6_27 rfl rfl rfl dX6_undo_1 ?_
  refine s_getiE (pc := 4) fl_X6_177 rfl rfl h3 dX6_undo_4 ?_
  refine s_istore_n (pc := 7) 2 rfl (by decide) rfl dX6_undo_7 ?_
  refine s_iload_n (pc := 8) 1 rfl rfl dX6_undo_8 ?_
  refine s_if_lt (pc := 9) 17 dX6_undo_9 (by decide) (fun c_9 => ?_) (fun c_9 => ?_)
  · refine s_iconst (pc := 17) (k_im1) dX6_undo_17 ?_
    refine s_iret (pc := 18) dX6_undo_18 (PostE.of hp ?_ ?_)
    · rfl
    · rfl
  · refine s_iload_n (pc := 12) 1 rfl rfl dX6_undo_12 ?_
    refine s_iload_n (pc := 13) 2 rfl rfl dX6_undo_13 ?_
    refine s_icmp_le (pc := 14) 19 dX6_undo_14 (by decide) (fun c_14 => ?_) (fun c_14 => ?_)
    · exact (hb.elim c_9 (fun q => absurd c_14 (Int32.not_le.mpr q))).elim
    · refine s_iconst (pc := 17) (k_im1) dX6_undo_17 ?_
      refine s_iret (pc := 18) dX6_undo_18 (PostE.of hp ?_ ?_)
      · rfl
      · rfl

set_option maxRecDepth 20000 in
theorem c_X6_undoO {n : Nat} {h2 : Hp} {a : Nat → Nat} {h : Hp} (hR : RC a h) (hO : OkA a) (h3 : h.1 23 6 = nI (a 3)) (hn : n ≤ a 3) (hrp : CT 9 yX2_replay cX2_replay 4 none [.ref 23, .ref 32, .int (nI n)] h none h2) : CT 10 yX6_undo cX6_undo 3 (some .int) [.ref 0, .int (nI n)] h (some (.int (nI (a 3 - n)))) (h2) := by
  obtain ⟨⟨o0, o1, o2, o3, o4, o5, o6⟩, os⟩ := id hO
  have o64 := hO.in64
  have hC := hR.1
  obtain ⟨⟨r0, r1, r2, r4, r5, r6⟩, rs, P, rp, rP, rt⟩ := id hC
  have rg := hR.2
  refine CT.of (own := RX6) rfl (by decide) (ro_i _) [.ref 0, .int (nI n), .null] rfl (Nat.le_of_ble_eq_true rfl) (fun E hp => ?_)
  refine s_aload_n (pc := 0) 0 rfl rfl dX6_undo_0 ?_
  refine s_getr (pc := 1) (b := 23) fl_X6_27 rfl rfl rfl dX6_undo_1 ?_
  refine s_getiE (pc := 4) fl_X6_177 rfl rfl h3 dX6_undo_4 ?_
  refine s_istore_n (pc := 7) 2 rfl (by decide) rfl dX6_undo_7 ?_
  refine s_iload_n (pc := 8) 1 rfl rfl dX6_undo_8 ?_
  refine s_if_ltN (pc := 9) (by omega) 17 dX6_undo_9 (by decide) ?_
  refine s_iload_n (pc := 12) 1 rfl rfl dX6_undo_12 ?_
  refine s_iload_n (pc := 13) 2 rfl rfl dX6_undo_13 ?_
  refine s_icmp_leN (pc := 14) (by omega) (by omega) 19 dX6_undo_14 (by decide) (fun c_14 => ?_) (fun c_14 => ?_)
  · refine s_aload_n (pc := 19) 0 rfl rfl dX6_undo_19 ?_
    refine s_getr (pc := 20) (b := 23) fl_X6_27 rfl rfl rfl dX6_undo_20 ?_
    refine s_aload_n (pc := 23) 0 rfl rfl dX6_undo_23 ?_
    refine s_getr (pc := 24) (b := 23) fl_X6_27 rfl rfl rfl dX6_undo_24 ?_
    refine s_getr (pc := 27) (b := 32) fl_X6_180 rfl rfl rfl dX6_undo_27 ?_
    refine s_iload_n (pc := 30) 1 rfl rfl dX6_undo_30 ?_
    refine s_cvn2 (pc := 31) (hrp) ml_X6_183 mw_X2_replay rfl (by decide) (Nat.le_of_ble_eq_true rfl) dX6_undo_31 ?_
    refine s_iload_n (pc := 34) 2 rfl rfl dX6_undo_34 ?_
    refine s_iload_n (pc := 35) 1 rfl rfl dX6_undo_35 ?_
    refine s_isubN (pc := 36) (by omega) dX6_undo_36 ?_
    refine s_iret (pc := 37) dX6_undo_37 (PostE.of hp ?_ ?_)
    · rfl
    · rfl
  · exfalso; omega

set_option maxRecDepth 20000 in
theorem c_X6_keepB {s : Int32} {h : Hp} (hm : h.1 17 0 = nI 3) (hb : s < 0 ∨ nI 3 ≤ s) : CT 4 yX6_keep cX6_keep 2 (some .int) [.ref 0, .int s] h (some (.int (-1))) (h) := by
  refine CT.of (own := RX6) rfl (by decide) (ro_i _) [.ref 0, .int s] rfl (Nat.le_of_ble_eq_true rfl) (fun E hp => ?_)
  refine s_aload_n (pc := 0) 0 rfl rfl dX6_keep_0 ?_
  refine s_getr (pc := 1) (b := 17) fl_X6_21 rfl rfl rfl dX6_keep_1 ?_
  refine s_iload_n (pc := 4) 1 rfl rfl dX6_keep_4 ?_
  refine s_cvi1 (pc := 5) (c_X5_isNumber_17F hm hb) ml_X6_96 mw_X5_isNumber rfl (by decide) (Nat.le_of_ble_eq_true rfl) dX6_keep_5 ?_
  refine s_if_neF (pc := 8) 13 dX6_keep_8 (by decide) ?_
  refine s_iconst (pc := 11) (k_im1) dX6_keep_11 ?_
  refine s_iret (pc := 12) dX6_keep_12 (PostE.of hp ?_ ?_)
  · rfl
  · rfl

set_option maxRecDepth 20000 in
theorem c_X6_keepE {k : Nat} {a : Nat → Nat} {h : Hp} (hR : RC a h) (hO : OkA a) (hm : h.1 17 0 = nI 3) (hk : k < 3) (h0 : a 0 = 0) : CT 4 yX6_keep cX6_keep 2 (some .int) [.ref 0, .int (nI k)] h (some (.int (-4))) (h) := by
  refine CT.of (own := RX6) rfl (by decide) (ro_i _) [.ref 0, .int (nI k)] rfl (Nat.le_of_ble_eq_true rfl) (fun E hp => ?_)
  refine s_aload_n (pc := 0) 0 rfl rfl dX6_keep_0 ?_
  refine s_getr (pc := 1) (b := 17) fl_X6_21 rfl rfl rfl dX6_keep_1 ?_
  refine s_iload_n (pc := 4) 1 rfl rfl dX6_keep_4 ?_
  refine s_cvi1 (pc := 5) (c_X5_isNumber_17T hm hk) ml_X6_96 mw_X5_isNumber rfl (by decide) (Nat.le_of_ble_eq_true rfl) dX6_keep_5 ?_
  refine s_if_neT (pc := 8) 13 dX6_keep_8 (by decide) ?_
  refine s_aload_n (pc := 13) 0 rfl rfl dX6_keep_13 ?_
  refine s_getr (pc := 14) (b := 23) fl_X6_27 rfl rfl rfl dX6_keep_14 ?_
  refine s_cvi0 (pc := 17) (c_X2_isEmpty hR.1 hO.1.1) ml_X6_170 mw_X2_isEmpty rfl (by decide) (Nat.le_of_ble_eq_true rfl) dX6_keep_17 ?_
  refine s_if_eqB (pc := 20) 26 dX6_keep_20 (by decide) (fun c_20 => ?_) (fun c_20 => ?_)
  · exfalso; omega
  · refine s_bipush (pc := 23) (k_bm4) dX6_keep_23 ?_
    refine s_iret (pc := 25) dX6_keep_25 (PostE.of hp ?_ ?_)
    · rfl
    · rfl

set_option maxRecDepth 20000 in
theorem c_X6_keepO {k : Nat} {a : Nat → Nat} {h : Hp} (hR : RC a h) (hO : OkA a) (h3 : h.1 23 6 = nI (a 3)) (hm : h.1 17 0 = nI 3) (hq : h.1 17 1 = nI 40) (hk : k < 3) (h0 : 0 < a 0) : CT 6 yX6_keep cX6_keep 2 (some .int) [.ref 0, .int (nI k)] h (some (.int (nI (a 3)))) (ucp (fil (ui h 18 k (nI (a 3))) (19 + 1 + k) 0 40 (nI 0)) 32 0 (19 + 1 + k) 0 (a 3)) := by
  obtain ⟨⟨o0, o1, o2, o3, o4, o5, o6⟩, os⟩ := id hO
  have o64 := hO.in64
  have hC := hR.1
  obtain ⟨⟨r0, r1, r2, r4, r5, r6⟩, rs, P, rp, rP, rt⟩ := id hC
  have rg := hR.2
  have h3b : (fil (ui h 18 k (nI (a 3))) (19 + 1 + k) 0 40 (nI 0)).1 23 6 = nI (a 3) := by rw [fil_ne (by omega)]; exact h3
  have h3c : (ucp (fil (ui h 18 k (nI (a 3))) (19 + 1 + k) 0 40 (nI 0)) 32 0 (19 + 1 + k) 0 (a 3)).1 23 6 = nI (a 3) := by simp only [ucp]; rw [if_neg (by omega)]; exact h3b
  refine CT.of (own := RX6) rfl (by decide) (ro_i _) [.ref 0, .int (nI k)] rfl (Nat.le_of_ble_eq_true rfl) (fun E hp => ?_)
  refine s_aload_n (pc := 0) 0 rfl rfl dX6_keep_0 ?_
  refine s_getr (pc := 1) (b := 17) fl_X6_21 rfl rfl rfl dX6_keep_1 ?_
  refine s_iload_n (pc := 4) 1 rfl rfl dX6_keep_4 ?_
  refine s_cvi1 (pc := 5) (c_X5_isNumber_17T hm hk) ml_X6_96 mw_X5_isNumber rfl (by decide) (Nat.le_of_ble_eq_true rfl) dX6_keep_5 ?_
  refine s_if_neT (pc := 8) 13 dX6_keep_8 (by decide) ?_
  refine s_aload_n (pc := 13) 0 rfl rfl dX6_keep_13 ?_
  refine s_getr (pc := 14) (b := 23) fl_X6_27 rfl rfl rfl dX6_keep_14 ?_
  refine s_cvi0 (pc := 17) (c_X2_isEmpty hR.1 hO.1.1) ml_X6_170 mw_X2_isEmpty rfl (by decide) (Nat.le_of_ble_eq_true rfl) dX6_keep_17 ?_
  refine s_if_eqB (pc := 20) 26 dX6_keep_20 (by decide) (fun c_20 => ?_) (fun c_20 => ?_)
  · refine s_aload_n (pc := 26) 0 rfl rfl dX6_keep_26 ?_
    refine s_getr (pc := 27) (b := 17) fl_X6_21 rfl rfl rfl dX6_keep_27 ?_
    refine s_iload_n (pc := 30) 1 rfl rfl dX6_keep_30 ?_
    refine s_aload_n (pc := 31) 0 rfl rfl dX6_keep_31 ?_
    refine s_getr (pc := 32) (b := 23) fl_X6_27 rfl rfl rfl dX6_keep_32 ?_
    refine s_getiE (pc := 35) fl_X6_177 rfl rfl h3 dX6_keep_35 ?_
    refine s_iconst (pc := 38) (k_i0N) dX6_keep_38 ?_
    refine s_cvn3 (pc := 39) (c_X5_make_17 hm hq hk (by omega)) ml_X6_187 mw_X5_make rfl (by decide) (Nat.le_of_ble_eq_true rfl) dX6_keep_39 ?_
    refine s_aload_n (pc := 42) 0 rfl rfl dX6_keep_42 ?_
    refine s_getr (pc := 43) (b := 23) fl_X6_27 rfl rfl rfl dX6_keep_43 ?_
    refine s_getr (pc := 46) (b := 32) fl_X6_180 rfl rfl rfl dX6_keep_46 ?_
    refine s_iconst (pc := 49) (k_i0N) dX6_keep_49 ?_
    refine s_aload_n (pc := 50) 0 rfl rfl dX6_keep_50 ?_
    refine s_getr (pc := 51) (b := 17) fl_X6_21 rfl rfl rfl dX6_keep_51 ?_
    refine s_getr (pc := 54) (b := 19) fl_X6_111 rfl rfl rfl dX6_keep_54 ?_
    refine s_iload_n (pc := 57) 1 rfl rfl dX6_keep_57 ?_
    refine s_aald (pc := 58) (b := 19 + 1 + k) (_) rfl rfl (by omega) rfl dX6_keep_58 ?_
    refine s_iconst (pc := 59) (k_i0N) dX6_keep_59 ?_
    refine s_aload_n (pc := 60) 0 rfl rfl dX6_keep_60 ?_
    refine s_getr (pc := 61) (b := 23) fl_X6_27 rfl rfl rfl dX6_keep_61 ?_
    refine s_getiE (pc := 64) fl_X6_177 rfl rfl h3b dX6_keep_64 ?_
    refine s_acopy (pc := 67) (0) (0) (a 3) rfl (ly_17 k hk) rfl rfl rfl (by omega) (by omega) ml_X6_115 lm_cp.1 lm_cp.2.1 lm_cp.2.2 (by decide) (Nat.le_of_ble_eq_true rfl) dX6_keep_67 ?_
    refine s_aload_n (pc := 70) 0 rfl rfl dX6_keep_70 ?_
    refine s_getr (pc := 71) (b := 23) fl_X6_27 rfl rfl rfl dX6_keep_71 ?_
    refine s_getiE (pc := 74) fl_X6_177 rfl rfl h3c dX6_keep_74 ?_
    refine s_iret (pc := 77) dX6_keep_77 (PostE.of hp ?_ ?_)
    · rfl
    · rfl
  · exfalso; omega

set_option maxRecDepth 20000 in
theorem c_X6_onO {k m : Nat} {h2 : Hp} {h : Hp} (hm : h.1 17 0 = nI 3) (hk : k < 3) (hz : h.1 18 k = nI m) (hz6 : m ≤ 40) (hrp : CT 9 yX2_replay cX2_replay 4 none [.ref 23, .ref (19 + 1 + k), .int (nI m)] h none h2) (h3 : h2.1 23 6 = nI m) : CT 10 yX6_on cX6_on 3 (some .int) [.ref 0, .int (nI k)] h (some (.int (nI m))) (h2) := by
  refine CT.of (own := RX6) rfl (by decide) (ro_i _) [.ref 0, .int (nI k), .null] rfl (Nat.le_of_ble_eq_true rfl) (fun E hp => ?_)
  refine s_aload_n (pc := 0) 0 rfl rfl dX6_on_0 ?_
  refine s_aload_n (pc := 1) 0 rfl rfl dX6_on_1 ?_
  refine s_getr (pc := 2) (b := 17) fl_X6_21 rfl rfl rfl dX6_on_2 ?_
  refine s_iload_n (pc := 5) 1 rfl rfl dX6_on_5 ?_
  refine s_cvi2 (pc := 6) (c_X6_refusalOfSheet_17O hm hk hz hz6) ml_X6_88 mw_X6_refusalOfSheet rfl (by decide) (Nat.le_of_ble_eq_true rfl) dX6_on_6 ?_
  refine s_istore_n (pc := 9) 2 rfl (by decide) rfl dX6_on_9 ?_
  refine s_iload_n (pc := 10) 2 rfl rfl dX6_on_10 ?_
  refine s_if_eqN (pc := 11) (by omega) 16 dX6_on_11 (by decide) (fun c_11 => ?_) (fun c_11 => ?_)
  · refine s_aload_n (pc := 16) 0 rfl rfl dX6_on_16 ?_
    refine s_getr (pc := 17) (b := 23) fl_X6_27 rfl rfl rfl dX6_on_17 ?_
    refine s_aload_n (pc := 20) 0 rfl rfl dX6_on_20 ?_
    refine s_getr (pc := 21) (b := 17) fl_X6_21 rfl rfl rfl dX6_on_21 ?_
    refine s_getr (pc := 24) (b := 19) fl_X6_111 rfl rfl rfl dX6_on_24 ?_
    refine s_iload_n (pc := 27) 1 rfl rfl dX6_on_27 ?_
    refine s_aald (pc := 28) (b := 19 + 1 + k) (_) rfl rfl (by omega) rfl dX6_on_28 ?_
    refine s_aload_n (pc := 29) 0 rfl rfl dX6_on_29 ?_
    refine s_getr (pc := 30) (b := 17) fl_X6_21 rfl rfl rfl dX6_on_30 ?_
    refine s_getr (pc := 33) (b := 18) fl_X6_121 rfl rfl rfl dX6_on_33 ?_
    refine s_iload_n (pc := 36) 1 rfl rfl dX6_on_36 ?_
    refine s_ialdN (pc := 37) (_) rfl rfl (by omega) hz dX6_on_37 ?_
    refine s_cvn2 (pc := 38) (hrp) ml_X6_183 mw_X2_replay rfl (by decide) (Nat.le_of_ble_eq_true rfl) dX6_on_38 ?_
    refine s_aload_n (pc := 41) 0 rfl rfl dX6_on_41 ?_
    refine s_getr (pc := 42) (b := 23) fl_X6_27 rfl rfl rfl dX6_on_42 ?_
    refine s_getiE (pc := 45) fl_X6_177 rfl rfl h3 dX6_on_45 ?_
    refine s_iret (pc := 48) dX6_on_48 (PostE.of hp ?_ ?_)
    · rfl
    · rfl
  · exfalso; omega

set_option maxRecDepth 20000 in
theorem c_X6_hoursB {s  : Int32} {a : Nat → Nat} {h : Hp} (hR : RC a h) (hO : OkA a) (hb : s < 0 ∨ nI (a 0) ≤ s) : CT 3 yX6_hours cX6_hours 2 (some .int) [.ref 0, .int s] h (some (.int (-1))) (h) := by
  refine CT.of (own := RX6) rfl (by decide) (ro_i _) [.ref 0, .int s] rfl (Nat.le_of_ble_eq_true rfl) (fun E hp => ?_)
  refine s_aload_n (pc := 0) 0 rfl rfl dX6_hours_0 ?_
  refine s_getr (pc := 1) (b := 23) fl_X6_27 rfl rfl rfl dX6_hours_1 ?_
  refine s_iload_n (pc := 4) 1 rfl rfl dX6_hours_4 ?_
  refine s_cvi1 (pc := 5) (c_X2_isShipB hR.1 hO.1.1 hb) ml_X6_140 mw_X2_isShip rfl (by decide) (Nat.le_of_ble_eq_true rfl) dX6_hours_5 ?_
  refine s_if_eqF (pc := 8) 24 dX6_hours_8 (by decide) ?_
  refine s_iconst (pc := 24) (k_im1) dX6_hours_24 ?_
  refine s_iret (pc := 25) dX6_hours_25 (PostE.of hp ?_ ?_)
  · rfl
  · rfl

set_option maxRecDepth 20000 in
theorem c_X6_hoursO {i : Nat} {a : Nat → Nat} {h : Hp} (hR : RC a h) (hO : OkA a) (hi : i < a 0) : CT 4 yX6_hours cX6_hours 2 (some .int) [.ref 0, .int (nI i)] h (some (.int (nI (1 + shiftN a i (a 5))))) (h) := by
  refine CT.of (own := RX6) rfl (by decide) (ro_i _) [.ref 0, .int (nI i)] rfl (Nat.le_of_ble_eq_true rfl) (fun E hp => ?_)
  refine s_aload_n (pc := 0) 0 rfl rfl dX6_hours_0 ?_
  refine s_getr (pc := 1) (b := 23) fl_X6_27 rfl rfl rfl dX6_hours_1 ?_
  refine s_iload_n (pc := 4) 1 rfl rfl dX6_hours_4 ?_
  refine s_cvi1 (pc := 5) (c_X2_isShipN hR.1 hO.1.1 hi) ml_X6_140 mw_X2_isShip rfl (by decide) (Nat.le_of_ble_eq_true rfl) dX6_hours_5 ?_
  refine s_if_eqT (pc := 8) 24 dX6_hours_8 (by decide) ?_
  refine s_iconst (pc := 11) (k_i1N) dX6_hours_11 ?_
  refine s_aload_n (pc := 12) 0 rfl rfl dX6_hours_12 ?_
  refine s_getr (pc := 13) (b := 23) fl_X6_27 rfl rfl rfl dX6_hours_13 ?_
  refine s_iload_n (pc := 16) 1 rfl rfl dX6_hours_16 ?_
  refine s_cvi1 (pc := 17) (c_X2_shiftedBy hR hO hi) ml_X6_204 mw_X2_shiftedBy rfl (by decide) (Nat.le_of_ble_eq_true rfl) dX6_hours_17 ?_
  refine s_iaddN (pc := 20) dX6_hours_20 ?_
  refine s_goto (pc := 21) 25 dX6_hours_21 (by decide) ?_
  refine s_iret (pc := 25) dX6_hours_25 (PostE.of hp ?_ ?_)
  · rfl
  · rfl

set_option maxRecDepth 20000 in
theorem c_X6_groundE {a : Nat → Nat} {h : Hp} (hR : RC a h) (hO : OkA a) (h0 : a 0 = 0) : CT 4 yX6_ground cX6_ground 3 (some .int) [.ref 0] h (some (.int (-4))) (h) := by
  refine CT.of (own := RX6) rfl (by decide) (ro_i _) [.ref 0, .null, .null] rfl (Nat.le_of_ble_eq_true rfl) (fun E hp => ?_)
  refine s_aload_n (pc := 0) 0 rfl rfl dX6_ground_0 ?_
  refine s_getr (pc := 1) (b := 23) fl_X6_27 rfl rfl rfl dX6_ground_1 ?_
  refine s_cvi0 (pc := 4) (c_X2_isEmpty hR.1 hO.1.1) ml_X6_170 mw_X2_isEmpty rfl (by decide) (Nat.le_of_ble_eq_true rfl) dX6_ground_4 ?_
  refine s_if_eqB (pc := 7) 13 dX6_ground_7 (by decide) (fun c_7 => ?_) (fun c_7 => ?_)
  · exfalso; omega
  · refine s_bipush (pc := 10) (k_bm4) dX6_ground_10 ?_
    refine s_iret (pc := 12) dX6_ground_12 (PostE.of hp ?_ ?_)
    · rfl
    · rfl

set_option maxRecDepth 20000 in
theorem c_X6_groundO {a : Nat → Nat} {h : Hp} (hR : RC a h) (hO : OkA a) (h0 : 0 < a 0) : CT 5 yX6_ground cX6_ground 3 (some .int) [.ref 0] h (some (.int (nI (grdN a)))) (ui h 0 10 (nI (sumU (a 0) (excN a)))) := by
  obtain ⟨⟨o0, o1, o2, o3, o4, o5, o6⟩, os⟩ := id hO
  have o64 := hO.in64
  have hC := hR.1
  obtain ⟨⟨r0, r1, r2, r4, r5, r6⟩, rs, P, rp, rP, rt⟩ := id hC
  have rg := hR.2
  have hR2 : RC a (ui h 0 10 (nI (sumU (a 0) (excN a)))) := hR.to (fun x y q => ui_ne (by have := q.1; omega))
  refine CT.of (own := RX6) rfl (by decide) (ro_i _) [.ref 0, .null, .null] rfl (Nat.le_of_ble_eq_true rfl) (fun E hp => ?_)
  refine s_aload_n (pc := 0) 0 rfl rfl dX6_ground_0 ?_
  refine s_getr (pc := 1) (b := 23) fl_X6_27 rfl rfl rfl dX6_ground_1 ?_
  refine s_cvi0 (pc := 4) (c_X2_isEmpty hR.1 hO.1.1) ml_X6_170 mw_X2_isEmpty rfl (by decide) (Nat.le_of_ble_eq_true rfl) dX6_ground_4 ?_
  refine s_if_eqB (pc := 7) 13 dX6_ground_7 (by decide) (fun c_7 => ?_) (fun c_7 => ?_)
  · refine s_iconst (pc := 13) (k_i0N) dX6_ground_13 ?_
    refine s_istore_n (pc := 14) 1 rfl (by decide) rfl dX6_ground_14 ?_
    refine s_iconst (pc := 15) (k_i0N) dX6_ground_15 ?_
    refine s_istore_n (pc := 16) 2 rfl (by decide) rfl dX6_ground_16 ?_
    suffices lp_17 : ∀ k, k ≤ a 0 → WW E cX6_ground RX6 3 _ 17 [.ref 0, .int (nI (sumU k (excN a))), .int (nI k)] (h) [] from lp_17 (0) (by omega)
    refine lpi (a 0) (fun k hk_k ih_17 => ?_)
    refine s_iload_n (pc := 17) 2 rfl rfl dX6_ground_17 ?_
    refine s_aload_n (pc := 18) 0 rfl rfl dX6_ground_18 ?_
    refine s_getr (pc := 19) (b := 23) fl_X6_27 rfl rfl rfl dX6_ground_19 ?_
    refine s_getr (pc := 22) (b := 24) fl_X6_131 rfl rfl rfl dX6_ground_22 ?_
    refine s_getiE (pc := 25) fl_X6_137 rfl rfl r0 dX6_ground_25 ?_
    refine s_icmp_geN (pc := 28) (by omega) (by omega) 48 dX6_ground_28 (by decide) (fun c_28 => ?_) (fun c_28 => ?_)
    · obtain rfl : k = a 0 := by omega
      refine s_aload_n (pc := 48) 0 rfl rfl dX6_ground_48 ?_
      refine s_iload_n (pc := 49) 1 rfl rfl dX6_ground_49 ?_
      refine s_puti (pc := 50) fl_X6_69 fw_6_10 rfl rfl dX6_ground_50 ?_
      refine s_aload_n (pc := 53) 0 rfl rfl dX6_ground_53 ?_
      refine s_getr (pc := 54) (b := 23) fl_X6_27 rfl rfl rfl dX6_ground_54 ?_
      refine s_cvi0 (pc := 57) (c_X2_tooDeep hR2 hO) ml_X6_210 mw_X2_tooDeep rfl (by decide) (Nat.le_of_ble_eq_true rfl) dX6_ground_57 ?_
      refine s_iret (pc := 60) dX6_ground_60 (PostE.of hp ?_ ?_)
      · rfl
      · rfl
    · refine s_iload_n (pc := 31) 1 rfl rfl dX6_ground_31 ?_
      refine s_aload_n (pc := 32) 0 rfl rfl dX6_ground_32 ?_
      refine s_getr (pc := 33) (b := 23) fl_X6_27 rfl rfl rfl dX6_ground_33 ?_
      refine s_iload_n (pc := 36) 2 rfl rfl dX6_ground_36 ?_
      refine s_cvi1 (pc := 37) (c_X2_tooDeepBy hR hO (by omega)) ml_X6_207 mw_X2_tooDeepBy rfl (by decide) (Nat.le_of_ble_eq_true rfl) dX6_ground_37 ?_
      refine s_iaddN (pc := 40) dX6_ground_40 ?_
      refine s_istore_n (pc := 41) 1 rfl (by decide) rfl dX6_ground_41 ?_
      refine s_iincN (pc := 42) rfl (by decide) rfl dX6_ground_42 ?_
      refine s_goto (pc := 45) 17 dX6_ground_45 (by decide) ?_
      exact ih_17 (by omega)
  · exfalso; omega
