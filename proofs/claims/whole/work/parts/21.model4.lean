theorem rng_t {j n : Nat} (h : j ≤ n) (hn : n < 2 ^ 31) : nI 0 ≤ nI j ∧ nI j ≤ nI n := ⟨nI_le (Nat.zero_le _) (by omega), nI_le h hn⟩
theorem rng1_t {j n : Nat} (h1 : 1 ≤ j) (h : j ≤ n) (hn : n < 2 ^ 31) : nI 1 ≤ nI j ∧ nI j ≤ nI n := ⟨nI_le h1 (by omega), nI_le h hn⟩
theorem ge_gt {x : Int32} {n : Nat} (hn : n + 1 < 2 ^ 31) (h : nI (n + 1) ≤ x) : nI n < x := by
  rw [Int32.le_iff_toInt_le, nI_toInt hn] at h
  rw [Int32.lt_iff_toInt_lt, nI_toInt (by omega)]; omega
theorem rng_f {x : Int32} {n : Nat} (hn : n + 1 < 2 ^ 31) (h : x < 0 ∨ nI (n + 1) ≤ x) : x < nI 0 ∨ nI n < x := h.imp (fun q => q) (ge_gt hn)
theorem szr_i {m : Nat} (hm : m < 1000) : (nI m - nI 1).toInt = (m : Int) - 1 := pk_sub_toInt (by omega) (by decide)
theorem szr_t {j m : Nat} (hm : m < 1000) (h : j < m) : nI 0 ≤ nI j ∧ nI j ≤ nI m - nI 1 := by
  refine ⟨nI_le (Nat.zero_le _) (by omega), ?_⟩
  rw [Int32.le_iff_toInt_le, szr_i hm, nI_toInt (by omega)]; omega
theorem szr_f {x : Int32} {m : Nat} (hm : m < 1000) (h : x < 0 ∨ nI m ≤ x) : x < nI 0 ∨ nI m - nI 1 < x := h.imp (fun q => q) (fun q => by
  rw [Int32.le_iff_toInt_le, nI_toInt (by omega)] at q
  rw [Int32.lt_iff_toInt_lt, szr_i hm]; omega)

set_option maxRecDepth 20000 in
theorem c_X7_inT {v lo hi : Int32} {h : Hp} (hv : lo ≤ v ∧ v ≤ hi) : CT 1 yX7_in cX7_in 3 (some .boolean) [.int v, .int lo, .int hi] h (some (.int (bi True))) (h) := by
  refine CT.of (own := RX7) rfl (by decide) (ro_z _) [.int v, .int lo, .int hi] rfl (Nat.le_of_ble_eq_true rfl) (fun E hp => ?_)
  refine s_iload_n (pc := 0) 0 rfl rfl dX7_in_0 ?_
  refine s_iload_n (pc := 1) 1 rfl rfl dX7_in_1 ?_
  refine s_icmp_lt (pc := 2) 14 dX7_in_2 (by decide) (fun c_2 => ?_) (fun c_2 => ?_)
  · exfalso; exact absurd c_2 (Int32.not_lt.mpr hv.1)
  · refine s_iload_n (pc := 5) 0 rfl rfl dX7_in_5 ?_
    refine s_iload_n (pc := 6) 2 rfl rfl dX7_in_6 ?_
    refine s_icmp_gt (pc := 7) 14 dX7_in_7 (by decide) (fun c_7 => ?_) (fun c_7 => ?_)
    · exfalso; exact absurd c_7 (Int32.not_lt.mpr hv.2)
    · refine s_iconst (pc := 10) (k_i1N) dX7_in_10 ?_
      refine s_goto (pc := 11) 15 dX7_in_11 (by decide) ?_
      refine s_iret (pc := 15) dX7_in_15 (PostE.of hp ?_ ?_)
      · rfl
      · rfl

set_option maxRecDepth 20000 in
theorem c_X7_inF {v lo hi : Int32} {h : Hp} (hb : v < lo ∨ hi < v) : CT 1 yX7_in cX7_in 3 (some .boolean) [.int v, .int lo, .int hi] h (some (.int (bi False))) (h) := by
  refine CT.of (own := RX7) rfl (by decide) (ro_z _) [.int v, .int lo, .int hi] rfl (Nat.le_of_ble_eq_true rfl) (fun E hp => ?_)
  refine s_iload_n (pc := 0) 0 rfl rfl dX7_in_0 ?_
  refine s_iload_n (pc := 1) 1 rfl rfl dX7_in_1 ?_
  refine s_icmp_lt (pc := 2) 14 dX7_in_2 (by decide) (fun c_2 => ?_) (fun c_2 => ?_)
  · refine s_iconst (pc := 14) (k_i0N) dX7_in_14 ?_
    refine s_iret (pc := 15) dX7_in_15 (PostE.of hp ?_ ?_)
    · first | rfl | exact (hb.elim c_2 c_7).elim
    · rfl
  · refine s_iload_n (pc := 5) 0 rfl rfl dX7_in_5 ?_
    refine s_iload_n (pc := 6) 2 rfl rfl dX7_in_6 ?_
    refine s_icmp_gt (pc := 7) 14 dX7_in_7 (by decide) (fun c_7 => ?_) (fun c_7 => ?_)
    · refine s_iconst (pc := 14) (k_i0N) dX7_in_14 ?_
      refine s_iret (pc := 15) dX7_in_15 (PostE.of hp ?_ ?_)
      · first | rfl | exact (hb.elim c_2 c_7).elim
      · rfl
    · refine s_iconst (pc := 10) (k_i1N) dX7_in_10 ?_
      refine s_goto (pc := 11) 15 dX7_in_11 (by decide) ?_
      refine s_iret (pc := 15) dX7_in_15 (PostE.of hp ?_ ?_)
      · first | rfl | exact (hb.elim c_2 c_7).elim
      · rfl

set_option maxRecDepth 20000 in
theorem c_X7_isRowT {k : Nat} {h : Hp} (hk : k < 6) : CT 2 yX7_isRow cX7_isRow 1 (some .boolean) [.int (nI k)] h (some (.int (bi True))) (h) := by
  refine CT.of (own := RX7) rfl (by decide) (ro_z _) [.int (nI k)] rfl (Nat.le_of_ble_eq_true rfl) (fun E hp => ?_)
  refine s_iload_n (pc := 0) 0 rfl rfl dX7_isRow_0 ?_
  refine s_iconst (pc := 1) (k_i0N) dX7_isRow_1 ?_
  refine s_iconst (pc := 2) (k_i5N) dX7_isRow_2 ?_
  refine s_csi3 (pc := 3) (c_X7_inT (rng_t (by omega) (by decide))) ml_X7_64 ms_X7_in (by decide) (Nat.le_of_ble_eq_true rfl) dX7_isRow_3 ?_
  refine s_iret (pc := 6) dX7_isRow_6 (PostE.of hp ?_ ?_)
  · rfl
  · rfl

set_option maxRecDepth 20000 in
theorem c_X7_isRowF {s : Int32} {h : Hp} (hb : s < 0 ∨ nI 6 ≤ s) : CT 2 yX7_isRow cX7_isRow 1 (some .boolean) [.int s] h (some (.int (bi False))) (h) := by
  refine CT.of (own := RX7) rfl (by decide) (ro_z _) [.int s] rfl (Nat.le_of_ble_eq_true rfl) (fun E hp => ?_)
  refine s_iload_n (pc := 0) 0 rfl rfl dX7_isRow_0 ?_
  refine s_iconst (pc := 1) (k_i0N) dX7_isRow_1 ?_
  refine s_iconst (pc := 2) (k_i5N) dX7_isRow_2 ?_
  refine s_csi3 (pc := 3) (c_X7_inF (rng_f (n := 5) (by decide) hb)) ml_X7_64 ms_X7_in (by decide) (Nat.le_of_ble_eq_true rfl) dX7_isRow_3 ?_
  refine s_iret (pc := 6) dX7_isRow_6 (PostE.of hp ?_ ?_)
  · rfl
  · rfl

set_option maxRecDepth 20000 in
theorem c_X7_isTextT {k : Nat} {h : Hp} (hk : k < 4) : CT 2 yX7_isText cX7_isText 1 (some .boolean) [.int (nI k)] h (some (.int (bi True))) (h) := by
  refine CT.of (own := RX7) rfl (by decide) (ro_z _) [.int (nI k)] rfl (Nat.le_of_ble_eq_true rfl) (fun E hp => ?_)
  refine s_iload_n (pc := 0) 0 rfl rfl dX7_isText_0 ?_
  refine s_iconst (pc := 1) (k_i0N) dX7_isText_1 ?_
  refine s_iconst (pc := 2) (k_i3N) dX7_isText_2 ?_
  refine s_csi3 (pc := 3) (c_X7_inT (rng_t (by omega) (by decide))) ml_X7_64 ms_X7_in (by decide) (Nat.le_of_ble_eq_true rfl) dX7_isText_3 ?_
  refine s_iret (pc := 6) dX7_isText_6 (PostE.of hp ?_ ?_)
  · rfl
  · rfl

set_option maxRecDepth 20000 in
theorem c_X7_isTextF {s : Int32} {h : Hp} (hb : s < 0 ∨ nI 4 ≤ s) : CT 2 yX7_isText cX7_isText 1 (some .boolean) [.int s] h (some (.int (bi False))) (h) := by
  refine CT.of (own := RX7) rfl (by decide) (ro_z _) [.int s] rfl (Nat.le_of_ble_eq_true rfl) (fun E hp => ?_)
  refine s_iload_n (pc := 0) 0 rfl rfl dX7_isText_0 ?_
  refine s_iconst (pc := 1) (k_i0N) dX7_isText_1 ?_
  refine s_iconst (pc := 2) (k_i3N) dX7_isText_2 ?_
  refine s_csi3 (pc := 3) (c_X7_inF (rng_f (n := 3) (by decide) hb)) ml_X7_64 ms_X7_in (by decide) (Nat.le_of_ble_eq_true rfl) dX7_isText_3 ?_
  refine s_iret (pc := 6) dX7_isText_6 (PostE.of hp ?_ ?_)
  · rfl
  · rfl

set_option maxRecDepth 20000 in
theorem c_X7_isBerthT {k : Nat} {h : Hp} (hk : k < 6) : CT 2 yX7_isBerth cX7_isBerth 1 (some .boolean) [.int (nI k)] h (some (.int (bi True))) (h) := by
  refine CT.of (own := RX7) rfl (by decide) (ro_z _) [.int (nI k)] rfl (Nat.le_of_ble_eq_true rfl) (fun E hp => ?_)
  refine s_iload_n (pc := 0) 0 rfl rfl dX7_isBerth_0 ?_
  refine s_iconst (pc := 1) (k_i0N) dX7_isBerth_1 ?_
  refine s_iconst (pc := 2) (k_i5N) dX7_isBerth_2 ?_
  refine s_csi3 (pc := 3) (c_X7_inT (rng_t (by omega) (by decide))) ml_X7_64 ms_X7_in (by decide) (Nat.le_of_ble_eq_true rfl) dX7_isBerth_3 ?_
  refine s_iret (pc := 6) dX7_isBerth_6 (PostE.of hp ?_ ?_)
  · rfl
  · rfl

set_option maxRecDepth 20000 in
theorem c_X7_isBerthF {s : Int32} {h : Hp} (hb : s < 0 ∨ nI 6 ≤ s) : CT 2 yX7_isBerth cX7_isBerth 1 (some .boolean) [.int s] h (some (.int (bi False))) (h) := by
  refine CT.of (own := RX7) rfl (by decide) (ro_z _) [.int s] rfl (Nat.le_of_ble_eq_true rfl) (fun E hp => ?_)
  refine s_iload_n (pc := 0) 0 rfl rfl dX7_isBerth_0 ?_
  refine s_iconst (pc := 1) (k_i0N) dX7_isBerth_1 ?_
  refine s_iconst (pc := 2) (k_i5N) dX7_isBerth_2 ?_
  refine s_csi3 (pc := 3) (c_X7_inF (rng_f (n := 5) (by decide) hb)) ml_X7_64 ms_X7_in (by decide) (Nat.le_of_ble_eq_true rfl) dX7_isBerth_3 ?_
  refine s_iret (pc := 6) dX7_isBerth_6 (PostE.of hp ?_ ?_)
  · rfl
  · rfl

set_option maxRecDepth 20000 in
theorem c_X7_isShipT {i : Nat} {a : Nat → Nat} {h : Hp} (hA : RM a h) (hn : a 0 ≤ 6) (hi : i < a 0) : CT 2 yX7_isShip cX7_isShip 2 (some .boolean) [.ref 50, .int (nI i)] h (some (.int (bi True))) (h) := by
  refine CT.of (own := RX7) rfl (by decide) (ro_z _) [.ref 50, .int (nI i)] rfl (Nat.le_of_ble_eq_true rfl) (fun E hp => ?_)
  refine s_iload_n (pc := 0) 1 rfl rfl dX7_isShip_0 ?_
  refine s_iconst (pc := 1) (k_i0N) dX7_isShip_1 ?_
  refine s_aload_n (pc := 2) 0 rfl rfl dX7_isShip_2 ?_
  refine s_getr (pc := 3) (b := 56) fl_X7_25 rfl rfl rfl dX7_isShip_3 ?_
  refine s_iconst (pc := 6) (k_i0N) dX7_isShip_6 ?_
  refine s_ialdN (pc := 7) (_) rfl rfl (by omega) (hA _ (by omega)) dX7_isShip_7 ?_
  refine s_iconst (pc := 8) (k_i1N) dX7_isShip_8 ?_
  refine s_isub (pc := 9) dX7_isShip_9 ?_
  refine s_csi3 (pc := 10) (c_X7_inT (szr_t (by omega) hi)) ml_X7_64 ms_X7_in (by decide) (Nat.le_of_ble_eq_true rfl) dX7_isShip_10 ?_
  refine s_iret (pc := 13) dX7_isShip_13 (PostE.of hp ?_ ?_)
  · rfl
  · rfl

set_option maxRecDepth 20000 in
theorem c_X7_isShipF {s : Int32} {a : Nat → Nat} {h : Hp} (hA : RM a h) (hn : a 0 ≤ 6) (hb : s < 0 ∨ nI (a 0) ≤ s) : CT 2 yX7_isShip cX7_isShip 2 (some .boolean) [.ref 50, .int s] h (some (.int (bi False))) (h) := by
  refine CT.of (own := RX7) rfl (by decide) (ro_z _) [.ref 50, .int s] rfl (Nat.le_of_ble_eq_true rfl) (fun E hp => ?_)
  refine s_iload_n (pc := 0) 1 rfl rfl dX7_isShip_0 ?_
  refine s_iconst (pc := 1) (k_i0N) dX7_isShip_1 ?_
  refine s_aload_n (pc := 2) 0 rfl rfl dX7_isShip_2 ?_
  refine s_getr (pc := 3) (b := 56) fl_X7_25 rfl rfl rfl dX7_isShip_3 ?_
  refine s_iconst (pc := 6) (k_i0N) dX7_isShip_6 ?_
  refine s_ialdN (pc := 7) (_) rfl rfl (by omega) (hA _ (by omega)) dX7_isShip_7 ?_
  refine s_iconst (pc := 8) (k_i1N) dX7_isShip_8 ?_
  refine s_isub (pc := 9) dX7_isShip_9 ?_
  refine s_csi3 (pc := 10) (c_X7_inF (szr_f (by omega) hb)) ml_X7_64 ms_X7_in (by decide) (Nat.le_of_ble_eq_true rfl) dX7_isShip_10 ?_
  refine s_iret (pc := 13) dX7_isShip_13 (PostE.of hp ?_ ?_)
  · rfl
  · rfl

set_option maxRecDepth 20000 in
theorem c_X7_rowB {s n : Int32} {h : Hp} (hb : s < 0 ∨ nI 6 ≤ s) : CT 3 yX7_row cX7_row 3 (some .int) [.ref 50, .int s, .int n] h (some (.int (-1))) (h) := by
  refine CT.of (own := RX7) rfl (by decide) (ro_i _) [.ref 50, .int s, .int n] rfl (Nat.le_of_ble_eq_true rfl) (fun E hp => ?_)
  refine s_iload_n (pc := 0) 1 rfl rfl dX7_row_0 ?_
  refine s_csi1 (pc := 1) (c_X7_isRowF hb) ml_X7_68 ms_X7_isRow (by decide) (Nat.le_of_ble_eq_true rfl) dX7_row_1 ?_
  refine s_if_eqF (pc := 4) 13 dX7_row_4 (by decide) ?_
  refine s_iconst (pc := 13) (k_im1) dX7_row_13 ?_
  refine s_iret (pc := 14) dX7_row_14 (PostE.of hp ?_ ?_)
  · rfl
  · rfl

set_option maxRecDepth 20000 in
theorem c_X7_rowG {k : Nat} {n : Int32} {h : Hp} (hk : k < 6) (hn : nI 40 < n) : CT 3 yX7_row cX7_row 3 (some .int) [.ref 50, .int (nI k), .int n] h (some (.int (-1))) (h) := by
  refine CT.of (own := RX7) rfl (by decide) (ro_i _) [.ref 50, .int (nI k), .int n] rfl (Nat.le_of_ble_eq_true rfl) (fun E hp => ?_)
  refine s_iload_n (pc := 0) 1 rfl rfl dX7_row_0 ?_
  refine s_csi1 (pc := 1) (c_X7_isRowT hk) ml_X7_68 ms_X7_isRow (by decide) (Nat.le_of_ble_eq_true rfl) dX7_row_1 ?_
  refine s_if_eqT (pc := 4) 13 dX7_row_4 (by decide) ?_
  refine s_iload_n (pc := 7) 2 rfl rfl dX7_row_7 ?_
  refine s_bipush (pc := 8) (k_b40N) dX7_row_8 ?_
  refine s_icmp_le (pc := 10) 15 dX7_row_10 (by decide) (fun c_10 => ?_) (fun c_10 => ?_)
  · exfalso; exact absurd c_10 (Int32.not_le.mpr hn)
  · refine s_iconst (pc := 13) (k_im1) dX7_row_13 ?_
    refine s_iret (pc := 14) dX7_row_14 (PostE.of hp ?_ ?_)
    · rfl
    · rfl

set_option maxRecDepth 20000 in
theorem c_X7_rowS {k : Nat} {n : Int32} {h : Hp} (hk : k < 6) (hn : n < 0) : CT 3 yX7_row cX7_row 3 (some .int) [.ref 50, .int (nI k), .int n] h (some (.int (-3))) (finM h 5) := by
  refine CT.of (own := RX7) rfl (by decide) (ro_i _) [.ref 50, .int (nI k), .int n] rfl (Nat.le_of_ble_eq_true rfl) (fun E hp => ?_)
  refine s_iload_n (pc := 0) 1 rfl rfl dX7_row_0 ?_
  refine s_csi1 (pc := 1) (c_X7_isRowT hk) ml_X7_68 ms_X7_isRow (by decide) (Nat.le_of_ble_eq_true rfl) dX7_row_1 ?_
  refine s_if_eqT (pc := 4) 13 dX7_row_4 (by decide) ?_
  refine s_iload_n (pc := 7) 2 rfl rfl dX7_row_7 ?_
  refine s_bipush (pc := 8) (k_b40N) dX7_row_8 ?_
  refine s_icmp_le (pc := 10) 15 dX7_row_10 (by decide) (fun c_10 => ?_) (fun c_10 => ?_)
  · refine s_iload_n (pc := 15) 2 rfl rfl dX7_row_15 ?_
    refine s_if_ge (pc := 16) 25 dX7_row_16 (by decide) (fun c_16 => ?_) (fun c_16 => ?_)
    · exfalso; exact absurd hn (Int32.not_lt.mpr c_16)
    · refine s_aload_n (pc := 19) 0 rfl rfl dX7_row_19 ?_
      refine s_iconst (pc := 20) (k_i5N) dX7_row_20 ?_
      refine s_cvi1 (pc := 21) (c_X7_finds (by decide)) ml_X7_72 mw_X7_finds rfl (by decide) (Nat.le_of_ble_eq_true rfl) dX7_row_21 ?_
      refine s_iret (pc := 24) dX7_row_24 (PostE.of hp ?_ ?_)
      · rfl
      · rfl
  · exfalso; exact absurd (Int32.le_trans (Int32.le_of_lt hn) (nI_pos' (n := 40) (by decide))) c_10

set_option maxRecDepth 20000 in
theorem c_X7_textB {s n : Int32} {h : Hp} (hb : s < 0 ∨ nI 4 ≤ s) : CT 3 yX7_text cX7_text 4 (some .int) [.ref 50, .int s, .int n] h (some (.int (-1))) (h) := by
  refine CT.of (own := RX7) rfl (by decide) (ro_i _) [.ref 50, .int s, .int n, .null] rfl (Nat.le_of_ble_eq_true rfl) (fun E hp => ?_)
  refine s_iload_n (pc := 0) 1 rfl rfl dX7_text_0 ?_
  refine s_csi1 (pc := 1) (c_X7_isTextF hb) ml_X7_87 ms_X7_isText (by decide) (Nat.le_of_ble_eq_true rfl) dX7_text_1 ?_
  refine s_if_eqF (pc := 4) 13 dX7_text_4 (by decide) ?_
  refine s_iconst (pc := 13) (k_im1) dX7_text_13 ?_
  refine s_iret (pc := 14) dX7_text_14 (PostE.of hp ?_ ?_)
  · rfl
  · rfl

set_option maxRecDepth 20000 in
theorem c_X7_textG {k : Nat} {n : Int32} {h : Hp} (hk : k < 4) (hn : nI 60 < n) : CT 3 yX7_text cX7_text 4 (some .int) [.ref 50, .int (nI k), .int n] h (some (.int (-1))) (h) := by
  refine CT.of (own := RX7) rfl (by decide) (ro_i _) [.ref 50, .int (nI k), .int n, .null] rfl (Nat.le_of_ble_eq_true rfl) (fun E hp => ?_)
  refine s_iload_n (pc := 0) 1 rfl rfl dX7_text_0 ?_
  refine s_csi1 (pc := 1) (c_X7_isTextT hk) ml_X7_87 ms_X7_isText (by decide) (Nat.le_of_ble_eq_true rfl) dX7_text_1 ?_
  refine s_if_eqT (pc := 4) 13 dX7_text_4 (by decide) ?_
  refine s_iload_n (pc := 7) 2 rfl rfl dX7_text_7 ?_
  refine s_bipush (pc := 8) (k_b60N) dX7_text_8 ?_
  refine s_icmp_le (pc := 10) 15 dX7_text_10 (by decide) (fun c_10 => ?_) (fun c_10 => ?_)
  · exfalso; exact absurd c_10 (Int32.not_le.mpr hn)
  · refine s_iconst (pc := 13) (k_im1) dX7_text_13 ?_
    refine s_iret (pc := 14) dX7_text_14 (PostE.of hp ?_ ?_)
    · rfl
    · rfl

set_option maxRecDepth 20000 in
theorem c_X7_textS {k : Nat} {n : Int32} {h : Hp} (hk : k < 4) (hn : n < 0) : CT 3 yX7_text cX7_text 4 (some .int) [.ref 50, .int (nI k), .int n] h (some (.int (-3))) (finM h 5) := by
  refine CT.of (own := RX7) rfl (by decide) (ro_i _) [.ref 50, .int (nI k), .int n, .null] rfl (Nat.le_of_ble_eq_true rfl) (fun E hp => ?_)
  refine s_iload_n (pc := 0) 1 rfl rfl dX7_text_0 ?_
  refine s_csi1 (pc := 1) (c_X7_isTextT hk) ml_X7_87 ms_X7_isText (by decide) (Nat.le_of_ble_eq_true rfl) dX7_text_1 ?_
  refine s_if_eqT (pc := 4) 13 dX7_text_4 (by decide) ?_
  refine s_iload_n (pc := 7) 2 rfl rfl dX7_text_7 ?_
  refine s_bipush (pc := 8) (k_b60N) dX7_text_8 ?_
  refine s_icmp_le (pc := 10) 15 dX7_text_10 (by decide) (fun c_10 => ?_) (fun c_10 => ?_)
  · refine s_iload_n (pc := 15) 2 rfl rfl dX7_text_15 ?_
    refine s_if_ge (pc := 16) 25 dX7_text_16 (by decide) (fun c_16 => ?_) (fun c_16 => ?_)
    · exfalso; exact absurd hn (Int32.not_lt.mpr c_16)
    · refine s_aload_n (pc := 19) 0 rfl rfl dX7_text_19 ?_
      refine s_iconst (pc := 20) (k_i5N) dX7_text_20 ?_
      refine s_cvi1 (pc := 21) (c_X7_finds (by decide)) ml_X7_72 mw_X7_finds rfl (by decide) (Nat.le_of_ble_eq_true rfl) dX7_text_21 ?_
      refine s_iret (pc := 24) dX7_text_24 (PostE.of hp ?_ ?_)
      · rfl
      · rfl
  · exfalso; exact absurd (Int32.le_trans (Int32.le_of_lt hn) (nI_pos' (n := 60) (by decide))) c_10

set_option maxRecDepth 20000 in
theorem c_X7_rowO {k n : Nat} {h : Hp} (hk : k < 6) (hn : n ≤ 40) : CT 3 yX7_row cX7_row 3 (some .int) [.ref 50, .int (nI k), .int (nI n)] h (some (.int (nI n))) (layM h k (nI n)) := by
  refine CT.of (own := RX7) rfl (by decide) (ro_i _) [.ref 50, .int (nI k), .int (nI n)] rfl (Nat.le_of_ble_eq_true rfl) (fun E hp => ?_)
  refine s_iload_n (pc := 0) 1 rfl rfl dX7_row_0 ?_
  refine s_csi1 (pc := 1) (c_X7_isRowT hk) ml_X7_68 ms_X7_isRow (by decide) (Nat.le_of_ble_eq_true rfl) dX7_row_1 ?_
  refine s_if_eqT (pc := 4) 13 dX7_row_4 (by decide) ?_
  refine s_iload_n (pc := 7) 2 rfl rfl dX7_row_7 ?_
  refine s_bipush (pc := 8) (k_b40N) dX7_row_8 ?_
  refine s_icmp_leN (pc := 10) (by omega) (by omega) 15 dX7_row_10 (by decide) (fun c_10 => ?_) (fun c_10 => ?_)
  · refine s_iload_n (pc := 15) 2 rfl rfl dX7_row_15 ?_
    refine s_if_geN (pc := 16) (by omega) 25 dX7_row_16 (by decide) ?_
    refine s_aload_n (pc := 25) 0 rfl rfl dX7_row_25 ?_
    refine s_iload_n (pc := 26) 1 rfl rfl dX7_row_26 ?_
    refine s_iload_n (pc := 27) 2 rfl rfl dX7_row_27 ?_
    refine s_cvn2 (pc := 28) (c_X7_lays hk) ml_X7_76 mw_X7_lays rfl (by decide) (Nat.le_of_ble_eq_true rfl) dX7_row_28 ?_
    refine s_iload_n (pc := 31) 2 rfl rfl dX7_row_31 ?_
    refine s_iret (pc := 32) dX7_row_32 (PostE.of hp ?_ ?_)
    · rfl
    · rfl
  · exfalso; omega

def layT (h : Hp) (r : Nat) (n : Int32) : Hp := fil (ui h 54 r n) 55 (60 * r) 60 (nI 32)

set_option maxRecDepth 20000 in
theorem c_X7_textO {r n : Nat} {h : Hp} (hk : r < 4) (hn : n ≤ 60) : CT 3 yX7_text cX7_text 4 (some .int) [.ref 50, .int (nI r), .int (nI n)] h (some (.int (nI n))) (layT h r (nI n)) := by
  refine CT.of (own := RX7) rfl (by decide) (ro_i _) [.ref 50, .int (nI r), .int (nI n), .null] rfl (Nat.le_of_ble_eq_true rfl) (fun E hp => ?_)
  refine s_iload_n (pc := 0) 1 rfl rfl dX7_text_0 ?_
  refine s_csi1 (pc := 1) (c_X7_isTextT hk) ml_X7_87 ms_X7_isText (by decide) (Nat.le_of_ble_eq_true rfl) dX7_text_1 ?_
  refine s_if_eqT (pc := 4) 13 dX7_text_4 (by decide) ?_
  refine s_iload_n (pc := 7) 2 rfl rfl dX7_text_7 ?_
  refine s_bipush (pc := 8) (k_b60N) dX7_text_8 ?_
  refine s_icmp_leN (pc := 10) (by omega) (by omega) 15 dX7_text_10 (by decide) (fun c_10 => ?_) (fun c_10 => ?_)
  · refine s_iload_n (pc := 15) 2 rfl rfl dX7_text_15 ?_
    refine s_if_geN (pc := 16) (by omega) 25 dX7_text_16 (by decide) ?_
    refine s_aload_n (pc := 25) 0 rfl rfl dX7_text_25 ?_
    refine s_getr (pc := 26) (b := 54) fl_X7_19 rfl rfl rfl dX7_text_26 ?_
    refine s_iload_n (pc := 29) 1 rfl rfl dX7_text_29 ?_
    refine s_iload_n (pc := 30) 2 rfl rfl dX7_text_30 ?_
    refine s_iast (pc := 31) (_) rfl rfl (by omega) dX7_text_31 ?_
    refine s_iconst (pc := 32) (k_i0N) dX7_text_32 ?_
    refine s_istore_n (pc := 33) 3 rfl (by decide) rfl dX7_text_33 ?_
    refine WW.hp (fil_0 (ui h 54 r (nI n)) 55 (60 * r) (nI 32)).symm ?_
    suffices lp_34 : ∀ k, k ≤ 60 → WW E cX7_text RX7 4 _ 34 [.ref 50, .int (nI r), .int (nI n), .int (nI k)] (fil (ui h 54 r (nI n)) 55 (60 * r) k (nI 32)) [] from lp_34 0 (by omega)
    refine lpi 60 (fun k hk_k ih_34 => ?_)
    refine s_iload_n (pc := 34) 3 rfl rfl dX7_text_34 ?_
    refine s_bipush (pc := 35) (k_b60N) dX7_text_35 ?_
    refine s_icmp_geN (pc := 37) (by omega) (by omega) 59 dX7_text_37 (by decide) (fun c_37 => ?_) (fun c_37 => ?_)
    · obtain rfl : k = 60 := by omega
      refine s_iload_n (pc := 59) 2 rfl rfl dX7_text_59 ?_
      refine s_iret (pc := 60) dX7_text_60 (PostE.of hp ?_ ?_)
      · rfl
      · rfl
    · refine s_aload_n (pc := 40) 0 rfl rfl dX7_text_40 ?_
      refine s_getr (pc := 41) (b := 55) fl_X7_22 rfl rfl rfl dX7_text_41 ?_
      refine s_bipush (pc := 44) (k_b60N) dX7_text_44 ?_
      refine s_iload_n (pc := 46) 1 rfl rfl dX7_text_46 ?_
      refine s_imulN (pc := 47) dX7_text_47 ?_
      refine s_iload_n (pc := 48) 3 rfl rfl dX7_text_48 ?_
      refine s_iaddN (pc := 49) dX7_text_49 ?_
      refine s_bipush (pc := 50) (k_b32N) dX7_text_50 ?_
      refine s_iast (pc := 52) (_) rfl rfl (by omega) dX7_text_52 ?_
      refine s_iincN (pc := 53) rfl (by decide) rfl dX7_text_53 ?_
      refine s_goto (pc := 56) 34 dX7_text_56 (by decide) ?_
      rw [fil_s]
      exact ih_34 (by omega)
  · exfalso; omega

set_option maxRecDepth 20000 in
theorem c_X7_atB {s i  : Int32} {h : Hp} (hb : s < 0 ∨ nI 6 ≤ s) : CT 3 yX7_at cX7_at 3 (some .int) [.ref 50, .int s, .int i] h (some (.int (-1))) (h) := by
  refine CT.of (own := RX7) rfl (by decide) (ro_i _) [.ref 50, .int s, .int i] rfl (Nat.le_of_ble_eq_true rfl) (fun E hp => ?_)
  refine s_iload_n (pc := 0) 1 rfl rfl dX7_at_0 ?_
  refine s_csi1 (pc := 1) (c_X7_isRowF hb) ml_X7_68 ms_X7_isRow (by decide) (Nat.le_of_ble_eq_true rfl) dX7_at_1 ?_
  refine s_if_neF (pc := 4) 9 dX7_at_4 (by decide) ?_
  refine s_iconst (pc := 7) (k_im1) dX7_at_7 ?_
  refine s_iret (pc := 8) dX7_at_8 (PostE.of hp ?_ ?_)
  · rfl
  · rfl

set_option maxRecDepth 20000 in
theorem c_X7_atM {k : Nat} {i  : Int32} {h : Hp} (hk : k < 6) (hz : h.1 51 k = -1) : CT 3 yX7_at cX7_at 3 (some .int) [.ref 50, .int (nI k), .int i] h (some (.int (-3))) (finM h 1) := by
  refine CT.of (own := RX7) rfl (by decide) (ro_i _) [.ref 50, .int (nI k), .int i] rfl (Nat.le_of_ble_eq_true rfl) (fun E hp => ?_)
  refine s_iload_n (pc := 0) 1 rfl rfl dX7_at_0 ?_
  refine s_csi1 (pc := 1) (c_X7_isRowT hk) ml_X7_68 ms_X7_isRow (by decide) (Nat.le_of_ble_eq_true rfl) dX7_at_1 ?_
  refine s_if_neT (pc := 4) 9 dX7_at_4 (by decide) ?_
  refine s_aload_n (pc := 9) 0 rfl rfl dX7_at_9 ?_
  refine s_getr (pc := 10) (b := 51) fl_X7_7 rfl rfl rfl dX7_at_10 ?_
  refine s_iload_n (pc := 13) 1 rfl rfl dX7_at_13 ?_
  refine s_ialdE (pc := 14) (_) rfl rfl (by omega) hz dX7_at_14 ?_
  refine s_if_ge (pc := 15) 24 dX7_at_15 (by decide) (fun c_15 => ?_) (fun c_15 => ?_)
  · exfalso; exact absurd c_15 (by decide)
  · refine s_aload_n (pc := 18) 0 rfl rfl dX7_at_18 ?_
    refine s_iconst (pc := 19) (k_i1N) dX7_at_19 ?_
    refine s_cvi1 (pc := 20) (c_X7_finds (by decide)) ml_X7_72 mw_X7_finds rfl (by decide) (Nat.le_of_ble_eq_true rfl) dX7_at_20 ?_
    refine s_iret (pc := 23) dX7_at_23 (PostE.of hp ?_ ?_)
    · rfl
    · rfl

set_option maxRecDepth 20000 in
theorem c_X7_atY {k m : Nat} {i  : Int32} {h : Hp} (hk : k < 6) (hz : h.1 51 k = nI m) (hz6 : m ≤ 40) (hb : i < 0 ∨ nI m ≤ i) : CT 3 yX7_at cX7_at 3 (some .int) [.ref 50, .int (nI k), .int i] h (some (.int (-3))) (finM h 2) := by
  refine CT.of (own := RX7) rfl (by decide) (ro_i _) [.ref 50, .int (nI k), .int i] rfl (Nat.le_of_ble_eq_true rfl) (fun E hp => ?_)
  refine s_iload_n (pc := 0) 1 rfl rfl dX7_at_0 ?_
  refine s_csi1 (pc := 1) (c_X7_isRowT hk) ml_X7_68 ms_X7_isRow (by decide) (Nat.le_of_ble_eq_true rfl) dX7_at_1 ?_
  refine s_if_neT (pc := 4) 9 dX7_at_4 (by decide) ?_
  refine s_aload_n (pc := 9) 0 rfl rfl dX7_at_9 ?_
  refine s_getr (pc := 10) (b := 51) fl_X7_7 rfl rfl rfl dX7_at_10 ?_
  refine s_iload_n (pc := 13) 1 rfl rfl dX7_at_13 ?_
  refine s_ialdN (pc := 14) (_) rfl rfl (by omega) hz dX7_at_14 ?_
  refine s_if_geN (pc := 15) (by omega) 24 dX7_at_15 (by decide) ?_
  refine s_iload_n (pc := 24) 2 rfl rfl dX7_at_24 ?_
  refine s_iconst (pc := 25) (k_i0N) dX7_at_25 ?_
  refine s_aload_n (pc := 26) 0 rfl rfl dX7_at_26 ?_
  refine s_getr (pc := 27) (b := 51) fl_X7_7 rfl rfl rfl dX7_at_27 ?_
  refine s_iload_n (pc := 30) 1 rfl rfl dX7_at_30 ?_
  refine s_ialdN (pc := 31) (_) rfl rfl (by omega) hz dX7_at_31 ?_
  refine s_iconst (pc := 32) (k_i1N) dX7_at_32 ?_
  refine s_isub (pc := 33) dX7_at_33 ?_
  refine s_csi3 (pc := 34) (c_X7_inF (szr_f (by omega) hb)) ml_X7_64 ms_X7_in (by decide) (Nat.le_of_ble_eq_true rfl) dX7_at_34 ?_
  refine s_if_eqF (pc := 37) 59 dX7_at_37 (by decide) ?_
  refine s_aload_n (pc := 59) 0 rfl rfl dX7_at_59 ?_
  refine s_iconst (pc := 60) (k_i2N) dX7_at_60 ?_
  refine s_cvi1 (pc := 61) (c_X7_finds (by decide)) ml_X7_72 mw_X7_finds rfl (by decide) (Nat.le_of_ble_eq_true rfl) dX7_at_61 ?_
  refine s_iret (pc := 64) dX7_at_64 (PostE.of hp ?_ ?_)
  · rfl
  · rfl

set_option maxRecDepth 20000 in
theorem c_X7_atO {k m j : Nat} {h : Hp} (hk : k < 6) (hz : h.1 51 k = nI m) (hz6 : m ≤ 40) (hj : j < m) : CT 3 yX7_at cX7_at 3 (some .int) [.ref 50, .int (nI k), .int (nI j)] h (some (.int (nI 1))) (ui h 50 11 (h.1 52 (40 * k + j))) := by
  refine CT.of (own := RX7) rfl (by decide) (ro_i _) [.ref 50, .int (nI k), .int (nI j)] rfl (Nat.le_of_ble_eq_true rfl) (fun E hp => ?_)
  refine s_iload_n (pc := 0) 1 rfl rfl dX7_at_0 ?_
  refine s_csi1 (pc := 1) (c_X7_isRowT hk) ml_X7_68 ms_X7_isRow (by decide) (Nat.le_of_ble_eq_true rfl) dX7_at_1 ?_
  refine s_if_neT (pc := 4) 9 dX7_at_4 (by decide) ?_
  refine s_aload_n (pc := 9) 0 rfl rfl dX7_at_9 ?_
  refine s_getr (pc := 10) (b := 51) fl_X7_7 rfl rfl rfl dX7_at_10 ?_
  refine s_iload_n (pc := 13) 1 rfl rfl dX7_at_13 ?_
  refine s_ialdN (pc := 14) (_) rfl rfl (by omega) hz dX7_at_14 ?_
  refine s_if_geN (pc := 15) (by omega) 24 dX7_at_15 (by decide) ?_
  refine s_iload_n (pc := 24) 2 rfl rfl dX7_at_24 ?_
  refine s_iconst (pc := 25) (k_i0N) dX7_at_25 ?_
  refine s_aload_n (pc := 26) 0 rfl rfl dX7_at_26 ?_
  refine s_getr (pc := 27) (b := 51) fl_X7_7 rfl rfl rfl dX7_at_27 ?_
  refine s_iload_n (pc := 30) 1 rfl rfl dX7_at_30 ?_
  refine s_ialdN (pc := 31) (_) rfl rfl (by omega) hz dX7_at_31 ?_
  refine s_iconst (pc := 32) (k_i1N) dX7_at_32 ?_
  refine s_isub (pc := 33) dX7_at_33 ?_
  refine s_csi3 (pc := 34) (c_X7_inT (szr_t (by omega) hj)) ml_X7_64 ms_X7_in (by decide) (Nat.le_of_ble_eq_true rfl) dX7_at_34 ?_
  refine s_if_eqT (pc := 37) 59 dX7_at_37 (by decide) ?_
  refine s_aload_n (pc := 40) 0 rfl rfl dX7_at_40 ?_
  refine s_iconst (pc := 41) (k_i1N) dX7_at_41 ?_
  refine s_aload_n (pc := 42) 0 rfl rfl dX7_at_42 ?_
  refine s_getr (pc := 43) (b := 52) fl_X7_13 rfl rfl rfl dX7_at_43 ?_
  refine s_bipush (pc := 46) (k_b40N) dX7_at_46 ?_
  refine s_iload_n (pc := 48) 1 rfl rfl dX7_at_48 ?_
  refine s_imulN (pc := 49) dX7_at_49 ?_
  refine s_iload_n (pc := 50) 2 rfl rfl dX7_at_50 ?_
  refine s_iaddN (pc := 51) dX7_at_51 ?_
  refine s_iald (pc := 52) (_) rfl rfl (by omega) dX7_at_52 ?_
  refine s_cvi2 (pc := 53) (c_X7_tells) ml_X7_84 mw_X7_tells rfl (by decide) (Nat.le_of_ble_eq_true rfl) dX7_at_53 ?_
  refine s_goto (pc := 56) 64 dX7_at_56 (by decide) ?_
  refine s_iret (pc := 64) dX7_at_64 (PostE.of hp ?_ ?_)
  · rfl
  · rfl

set_option maxRecDepth 20000 in
theorem c_X7_putB {s i v : Int32} {h : Hp} (hb : s < 0 ∨ nI 4 ≤ s) : CT 3 yX7_put cX7_put 5 (some .int) [.ref 50, .int s, .int i, .int v] h (some (.int (-1))) (h) := by
  refine CT.of (own := RX7) rfl (by decide) (ro_i _) [.ref 50, .int s, .int i, .int v, .null] rfl (Nat.le_of_ble_eq_true rfl) (fun E hp => ?_)
  refine s_iload_n (pc := 0) 1 rfl rfl dX7_put_0 ?_
  refine s_csi1 (pc := 1) (c_X7_isTextF hb) ml_X7_87 ms_X7_isText (by decide) (Nat.le_of_ble_eq_true rfl) dX7_put_1 ?_
  refine s_if_neF (pc := 4) 9 dX7_put_4 (by decide) ?_
  refine s_iconst (pc := 7) (k_im1) dX7_put_7 ?_
  refine s_iret (pc := 8) dX7_put_8 (PostE.of hp ?_ ?_)
  · rfl
  · rfl

set_option maxRecDepth 20000 in
theorem c_X7_putM {k : Nat} {i v : Int32} {h : Hp} (hk : k < 4) (hz : h.1 54 k = -1) : CT 3 yX7_put cX7_put 5 (some .int) [.ref 50, .int (nI k), .int i, .int v] h (some (.int (-3))) (finM h 1) := by
  refine CT.of (own := RX7) rfl (by decide) (ro_i _) [.ref 50, .int (nI k), .int i, .int v, .null] rfl (Nat.le_of_ble_eq_true rfl) (fun E hp => ?_)
  refine s_iload_n (pc := 0) 1 rfl rfl dX7_put_0 ?_
  refine s_csi1 (pc := 1) (c_X7_isTextT hk) ml_X7_87 ms_X7_isText (by decide) (Nat.le_of_ble_eq_true rfl) dX7_put_1 ?_
  refine s_if_neT (pc := 4) 9 dX7_put_4 (by decide) ?_
  refine s_aload_n (pc := 9) 0 rfl rfl dX7_put_9 ?_
  refine s_getr (pc := 10) (b := 54) fl_X7_19 rfl rfl rfl dX7_put_10 ?_
  refine s_iload_n (pc := 13) 1 rfl rfl dX7_put_13 ?_
  refine s_ialdE (pc := 14) (_) rfl rfl (by omega) hz dX7_put_14 ?_
  refine s_if_ge (pc := 15) 24 dX7_put_15 (by decide) (fun c_15 => ?_) (fun c_15 => ?_)
  · exfalso; exact absurd c_15 (by decide)
  · refine s_aload_n (pc := 18) 0 rfl rfl dX7_put_18 ?_
    refine s_iconst (pc := 19) (k_i1N) dX7_put_19 ?_
    refine s_cvi1 (pc := 20) (c_X7_finds (by decide)) ml_X7_72 mw_X7_finds rfl (by decide) (Nat.le_of_ble_eq_true rfl) dX7_put_20 ?_
    refine s_iret (pc := 23) dX7_put_23 (PostE.of hp ?_ ?_)
    · rfl
    · rfl

set_option maxRecDepth 20000 in
theorem c_X7_putY {k m : Nat} {i v : Int32} {h : Hp} (hk : k < 4) (hz : h.1 54 k = nI m) (hz6 : m ≤ 60) (hb : i < 0 ∨ nI m ≤ i) : CT 3 yX7_put cX7_put 5 (some .int) [.ref 50, .int (nI k), .int i, .int v] h (some (.int (-3))) (finM h 2) := by
  refine CT.of (own := RX7) rfl (by decide) (ro_i _) [.ref 50, .int (nI k), .int i, .int v, .null] rfl (Nat.le_of_ble_eq_true rfl) (fun E hp => ?_)
  refine s_iload_n (pc := 0) 1 rfl rfl dX7_put_0 ?_
  refine s_csi1 (pc := 1) (c_X7_isTextT hk) ml_X7_87 ms_X7_isText (by decide) (Nat.le_of_ble_eq_true rfl) dX7_put_1 ?_
  refine s_if_neT (pc := 4) 9 dX7_put_4 (by decide) ?_
  refine s_aload_n (pc := 9) 0 rfl rfl dX7_put_9 ?_
  refine s_getr (pc := 10) (b := 54) fl_X7_19 rfl rfl rfl dX7_put_10 ?_
  refine s_iload_n (pc := 13) 1 rfl rfl dX7_put_13 ?_
  refine s_ialdN (pc := 14) (_) rfl rfl (by omega) hz dX7_put_14 ?_
  refine s_if_geN (pc := 15) (by omega) 24 dX7_put_15 (by decide) ?_
  refine s_iload_n (pc := 24) 2 rfl rfl dX7_put_24 ?_
  refine s_iconst (pc := 25) (k_i0N) dX7_put_25 ?_
  refine s_aload_n (pc := 26) 0 rfl rfl dX7_put_26 ?_
  refine s_getr (pc := 27) (b := 54) fl_X7_19 rfl rfl rfl dX7_put_27 ?_
  refine s_iload_n (pc := 30) 1 rfl rfl dX7_put_30 ?_
  refine s_ialdN (pc := 31) (_) rfl rfl (by omega) hz dX7_put_31 ?_
  refine s_iconst (pc := 32) (k_i1N) dX7_put_32 ?_
  refine s_isub (pc := 33) dX7_put_33 ?_
  refine s_csi3 (pc := 34) (c_X7_inF (szr_f (by omega) hb)) ml_X7_64 ms_X7_in (by decide) (Nat.le_of_ble_eq_true rfl) dX7_put_34 ?_
  refine s_if_neF (pc := 37) 46 dX7_put_37 (by decide) ?_
  refine s_aload_n (pc := 40) 0 rfl rfl dX7_put_40 ?_
  refine s_iconst (pc := 41) (k_i2N) dX7_put_41 ?_
  refine s_cvi1 (pc := 42) (c_X7_finds (by decide)) ml_X7_72 mw_X7_finds rfl (by decide) (Nat.le_of_ble_eq_true rfl) dX7_put_42 ?_
  refine s_iret (pc := 45) dX7_put_45 (PostE.of hp ?_ ?_)
  · rfl
  · rfl

set_option maxRecDepth 20000 in
theorem c_X7_putO {k m j : Nat} {v : Int32} {h : Hp} (hk : k < 4) (hz : h.1 54 k = nI m) (hz6 : m ≤ 60) (hj : j < m) : CT 3 yX7_put cX7_put 5 (some .int) [.ref 50, .int (nI k), .int (nI j), .int v] h (some (.int (h.1 55 (60 * k + j) + nI 1000))) (ui h 55 (60 * k + j) v.toInt8.toInt32) := by
  refine CT.of (own := RX7) rfl (by decide) (ro_i _) [.ref 50, .int (nI k), .int (nI j), .int v, .null] rfl (Nat.le_of_ble_eq_true rfl) (fun E hp => ?_)
  refine s_iload_n (pc := 0) 1 rfl rfl dX7_put_0 ?_
  refine s_csi1 (pc := 1) (c_X7_isTextT hk) ml_X7_87 ms_X7_isText (by decide) (Nat.le_of_ble_eq_true rfl) dX7_put_1 ?_
  refine s_if_neT (pc := 4) 9 dX7_put_4 (by decide) ?_
  refine s_aload_n (pc := 9) 0 rfl rfl dX7_put_9 ?_
  refine s_getr (pc := 10) (b := 54) fl_X7_19 rfl rfl rfl dX7_put_10 ?_
  refine s_iload_n (pc := 13) 1 rfl rfl dX7_put_13 ?_
  refine s_ialdN (pc := 14) (_) rfl rfl (by omega) hz dX7_put_14 ?_
  refine s_if_geN (pc := 15) (by omega) 24 dX7_put_15 (by decide) ?_
  refine s_iload_n (pc := 24) 2 rfl rfl dX7_put_24 ?_
  refine s_iconst (pc := 25) (k_i0N) dX7_put_25 ?_
  refine s_aload_n (pc := 26) 0 rfl rfl dX7_put_26 ?_
  refine s_getr (pc := 27) (b := 54) fl_X7_19 rfl rfl rfl dX7_put_27 ?_
  refine s_iload_n (pc := 30) 1 rfl rfl dX7_put_30 ?_
  refine s_ialdN (pc := 31) (_) rfl rfl (by omega) hz dX7_put_31 ?_
  refine s_iconst (pc := 32) (k_i1N) dX7_put_32 ?_
  refine s_isub (pc := 33) dX7_put_33 ?_
  refine s_csi3 (pc := 34) (c_X7_inT (szr_t (by omega) hj)) ml_X7_64 ms_X7_in (by decide) (Nat.le_of_ble_eq_true rfl) dX7_put_34 ?_
  refine s_if_neT (pc := 37) 46 dX7_put_37 (by decide) ?_
  refine s_aload_n (pc := 46) 0 rfl rfl dX7_put_46 ?_
  refine s_getr (pc := 47) (b := 55) fl_X7_22 rfl rfl rfl dX7_put_47 ?_
  refine s_bipush (pc := 50) (k_b60N) dX7_put_50 ?_
  refine s_iload_n (pc := 52) 1 rfl rfl dX7_put_52 ?_
  refine s_imulN (pc := 53) dX7_put_53 ?_
  refine s_iload_n (pc := 54) 2 rfl rfl dX7_put_54 ?_
  refine s_iaddN (pc := 55) dX7_put_55 ?_
  refine s_iald (pc := 56) (_) rfl rfl (by omega) dX7_put_56 ?_
  refine s_istore (pc := 57) (by decide) rfl dX7_put_57 ?_
  refine s_aload_n (pc := 59) 0 rfl rfl dX7_put_59 ?_
  refine s_getr (pc := 60) (b := 55) fl_X7_22 rfl rfl rfl dX7_put_60 ?_
  refine s_bipush (pc := 63) (k_b60N) dX7_put_63 ?_
  refine s_iload_n (pc := 65) 1 rfl rfl dX7_put_65 ?_
  refine s_imulN (pc := 66) dX7_put_66 ?_
  refine s_iload_n (pc := 67) 2 rfl rfl dX7_put_67 ?_
  refine s_iaddN (pc := 68) dX7_put_68 ?_
  refine s_iload_n (pc := 69) 3 rfl rfl dX7_put_69 ?_
  refine s_i2b (pc := 70) dX7_put_70 ?_
  refine s_iast (pc := 71) (_) rfl rfl (by omega) dX7_put_71 ?_
  refine s_iload (pc := 72) rfl dX7_put_72 ?_
  refine s_sipush (pc := 74) (k_s1000N) dX7_put_74 ?_
  refine s_iadd (pc := 77) dX7_put_77 ?_
  refine s_iret (pc := 78) dX7_put_78 (PostE.of hp ?_ ?_)
  · rfl
  · rfl

set_option maxRecDepth 20000 in
theorem c_X7_layB {s i v : Int32} {h : Hp} (hb : s < 0 ∨ nI 6 ≤ s) : CT 4 yX7_lay cX7_lay 5 (some .int) [.ref 50, .int s, .int i, .int v] h (some (.int (-1))) (h) := by
  refine CT.of (own := RX7) rfl (by decide) (ro_i _) [.ref 50, .int s, .int i, .int v, .null] rfl (Nat.le_of_ble_eq_true rfl) (fun E hp => ?_)
  refine s_aload_n (pc := 0) 0 rfl rfl dX7_lay_0 ?_
  refine s_iload_n (pc := 1) 1 rfl rfl dX7_lay_1 ?_
  refine s_iload_n (pc := 2) 2 rfl rfl dX7_lay_2 ?_
  refine s_cvi2 (pc := 3) (c_X7_atB hb) ml_X7_80 mw_X7_at rfl (by decide) (Nat.le_of_ble_eq_true rfl) dX7_lay_3 ?_
  refine s_istore (pc := 6) (by decide) rfl dX7_lay_6 ?_
  refine s_iload (pc := 8) rfl dX7_lay_8 ?_
  refine s_iconst (pc := 10) (k_i1N) dX7_lay_10 ?_
  refine s_icmp_ne (pc := 11) 26 dX7_lay_11 (by decide) (fun c_11 => ?_) (fun c_11 => ?_)
  · refine s_iload (pc := 26) rfl dX7_lay_26 ?_
    refine s_iret (pc := 28) dX7_lay_28 (PostE.of hp ?_ ?_)
    · rfl
    · rfl
  · exfalso; exact absurd c_11 (by decide)

set_option maxRecDepth 20000 in
theorem c_X7_layM {k : Nat} {i v : Int32} {h : Hp} (hk : k < 6) (hz : h.1 51 k = -1) : CT 4 yX7_lay cX7_lay 5 (some .int) [.ref 50, .int (nI k), .int i, .int v] h (some (.int (-3))) (finM h 1) := by
  refine CT.of (own := RX7) rfl (by decide) (ro_i _) [.ref 50, .int (nI k), .int i, .int v, .null] rfl (Nat.le_of_ble_eq_true rfl) (fun E hp => ?_)
  refine s_aload_n (pc := 0) 0 rfl rfl dX7_lay_0 ?_
  refine s_iload_n (pc := 1) 1 rfl rfl dX7_lay_1 ?_
  refine s_iload_n (pc := 2) 2 rfl rfl dX7_lay_2 ?_
  refine s_cvi2 (pc := 3) (c_X7_atM hk hz) ml_X7_80 mw_X7_at rfl (by decide) (Nat.le_of_ble_eq_true rfl) dX7_lay_3 ?_
  refine s_istore (pc := 6) (by decide) rfl dX7_lay_6 ?_
  refine s_iload (pc := 8) rfl dX7_lay_8 ?_
  refine s_iconst (pc := 10) (k_i1N) dX7_lay_10 ?_
  refine s_icmp_ne (pc := 11) 26 dX7_lay_11 (by decide) (fun c_11 => ?_) (fun c_11 => ?_)
  · refine s_iload (pc := 26) rfl dX7_lay_26 ?_
    refine s_iret (pc := 28) dX7_lay_28 (PostE.of hp ?_ ?_)
    · rfl
    · rfl
  · exfalso; exact absurd c_11 (by decide)

set_option maxRecDepth 20000 in
theorem c_X7_layY {k m : Nat} {i v : Int32} {h : Hp} (hk : k < 6) (hz : h.1 51 k = nI m) (hz6 : m ≤ 40) (hb : i < 0 ∨ nI m ≤ i) : CT 4 yX7_lay cX7_lay 5 (some .int) [.ref 50, .int (nI k), .int i, .int v] h (some (.int (-3))) (finM h 2) := by
  refine CT.of (own := RX7) rfl (by decide) (ro_i _) [.ref 50, .int (nI k), .int i, .int v, .null] rfl (Nat.le_of_ble_eq_true rfl) (fun E hp => ?_)
  refine s_aload_n (pc := 0) 0 rfl rfl dX7_lay_0 ?_
  refine s_iload_n (pc := 1) 1 rfl rfl dX7_lay_1 ?_
  refine s_iload_n (pc := 2) 2 rfl rfl dX7_lay_2 ?_
  refine s_cvi2 (pc := 3) (c_X7_atY hk hz hz6 hb) ml_X7_80 mw_X7_at rfl (by decide) (Nat.le_of_ble_eq_true rfl) dX7_lay_3 ?_
  refine s_istore (pc := 6) (by decide) rfl dX7_lay_6 ?_
  refine s_iload (pc := 8) rfl dX7_lay_8 ?_
  refine s_iconst (pc := 10) (k_i1N) dX7_lay_10 ?_
  refine s_icmp_ne (pc := 11) 26 dX7_lay_11 (by decide) (fun c_11 => ?_) (fun c_11 => ?_)
  · refine s_iload (pc := 26) rfl dX7_lay_26 ?_
    refine s_iret (pc := 28) dX7_lay_28 (PostE.of hp ?_ ?_)
    · rfl
    · rfl
  · exfalso; exact absurd c_11 (by decide)

set_option maxRecDepth 20000 in
theorem c_X7_layO {k m j : Nat} {v : Int32} {h : Hp} (hk : k < 6) (hz : h.1 51 k = nI m) (hz6 : m ≤ 40) (hj : j < m) : CT 4 yX7_lay cX7_lay 5 (some .int) [.ref 50, .int (nI k), .int (nI j), .int v] h (some (.int (nI 1))) (ui (ui h 50 11 (h.1 52 (40 * k + j))) 52 (40 * k + j) v) := by
  refine CT.of (own := RX7) rfl (by decide) (ro_i _) [.ref 50, .int (nI k), .int (nI j), .int v, .null] rfl (Nat.le_of_ble_eq_true rfl) (fun E hp => ?_)
  refine s_aload_n (pc := 0) 0 rfl rfl dX7_lay_0 ?_
  refine s_iload_n (pc := 1) 1 rfl rfl dX7_lay_1 ?_
  refine s_iload_n (pc := 2) 2 rfl rfl dX7_lay_2 ?_
  refine s_cvi2 (pc := 3) (c_X7_atO hk hz hz6 hj) ml_X7_80 mw_X7_at rfl (by decide) (Nat.le_of_ble_eq_true rfl) dX7_lay_3 ?_
  refine s_istore (pc := 6) (by decide) rfl dX7_lay_6 ?_
  refine s_iload (pc := 8) rfl dX7_lay_8 ?_
  refine s_iconst (pc := 10) (k_i1N) dX7_lay_10 ?_
  refine s_icmp_neN (pc := 11) (by omega) (by omega) 26 dX7_lay_11 (by decide) (fun c_11 => ?_) (fun c_11 => ?_)
  · exfalso; omega
  · refine s_aload_n (pc := 14) 0 rfl rfl dX7_lay_14 ?_
    refine s_getr (pc := 15) (b := 52) fl_X7_13 rfl rfl rfl dX7_lay_15 ?_
    refine s_bipush (pc := 18) (k_b40N) dX7_lay_18 ?_
    refine s_iload_n (pc := 20) 1 rfl rfl dX7_lay_20 ?_
    refine s_imulN (pc := 21) dX7_lay_21 ?_
    refine s_iload_n (pc := 22) 2 rfl rfl dX7_lay_22 ?_
    refine s_iaddN (pc := 23) dX7_lay_23 ?_
    refine s_iload_n (pc := 24) 3 rfl rfl dX7_lay_24 ?_
    refine s_iast (pc := 25) (_) rfl rfl (by omega) dX7_lay_25 ?_
    refine s_iload (pc := 26) rfl dX7_lay_26 ?_
    refine s_iret (pc := 28) dX7_lay_28 (PostE.of hp ?_ ?_)
    · rfl
    · rfl

set_option maxRecDepth 20000 in
theorem c_X7_tearB {s : Int32} {h : Hp} (hb : s < 0 ∨ nI 6 ≤ s) : CT 3 yX7_tear cX7_tear 2 (some .int) [.ref 50, .int s] h (some (.int (-1))) (h) := by
  refine CT.of (own := RX7) rfl (by decide) (ro_i _) [.ref 50, .int s] rfl (Nat.le_of_ble_eq_true rfl) (fun E hp => ?_)
  refine s_iload_n (pc := 0) 1 rfl rfl dX7_tear_0 ?_
  refine s_csi1 (pc := 1) (c_X7_isRowF hb) ml_X7_68 ms_X7_isRow (by decide) (Nat.le_of_ble_eq_true rfl) dX7_tear_1 ?_
  refine s_if_neF (pc := 4) 9 dX7_tear_4 (by decide) ?_
  refine s_iconst (pc := 7) (k_im1) dX7_tear_7 ?_
  refine s_iret (pc := 8) dX7_tear_8 (PostE.of hp ?_ ?_)
  · rfl
  · rfl

set_option maxRecDepth 20000 in
theorem c_X7_tearM {k : Nat} {h : Hp} (hk : k < 6) (hz : h.1 51 k = -1) : CT 3 yX7_tear cX7_tear 2 (some .int) [.ref 50, .int (nI k)] h (some (.int (-3))) (finM h 1) := by
  refine CT.of (own := RX7) rfl (by decide) (ro_i _) [.ref 50, .int (nI k)] rfl (Nat.le_of_ble_eq_true rfl) (fun E hp => ?_)
  refine s_iload_n (pc := 0) 1 rfl rfl dX7_tear_0 ?_
  refine s_csi1 (pc := 1) (c_X7_isRowT hk) ml_X7_68 ms_X7_isRow (by decide) (Nat.le_of_ble_eq_true rfl) dX7_tear_1 ?_
  refine s_if_neT (pc := 4) 9 dX7_tear_4 (by decide) ?_
  refine s_aload_n (pc := 9) 0 rfl rfl dX7_tear_9 ?_
  refine s_getr (pc := 10) (b := 51) fl_X7_7 rfl rfl rfl dX7_tear_10 ?_
  refine s_iload_n (pc := 13) 1 rfl rfl dX7_tear_13 ?_
  refine s_ialdE (pc := 14) (_) rfl rfl (by omega) hz dX7_tear_14 ?_
  refine s_if_ge (pc := 15) 24 dX7_tear_15 (by decide) (fun c_15 => ?_) (fun c_15 => ?_)
  · exfalso; exact absurd c_15 (by decide)
  · refine s_aload_n (pc := 18) 0 rfl rfl dX7_tear_18 ?_
    refine s_iconst (pc := 19) (k_i1N) dX7_tear_19 ?_
    refine s_cvi1 (pc := 20) (c_X7_finds (by decide)) ml_X7_72 mw_X7_finds rfl (by decide) (Nat.le_of_ble_eq_true rfl) dX7_tear_20 ?_
    refine s_iret (pc := 23) dX7_tear_23 (PostE.of hp ?_ ?_)
    · rfl
    · rfl

set_option maxRecDepth 20000 in
theorem c_X7_tearO {k m : Nat} {h : Hp} (hk : k < 6) (hz : h.1 51 k = nI m) (hz6 : m ≤ 40) : CT 3 yX7_tear cX7_tear 2 (some .int) [.ref 50, .int (nI k)] h (some (.int (nI 1))) (ui h 51 k (-1)) := by
  refine CT.of (own := RX7) rfl (by decide) (ro_i _) [.ref 50, .int (nI k)] rfl (Nat.le_of_ble_eq_true rfl) (fun E hp => ?_)
  refine s_iload_n (pc := 0) 1 rfl rfl dX7_tear_0 ?_
  refine s_csi1 (pc := 1) (c_X7_isRowT hk) ml_X7_68 ms_X7_isRow (by decide) (Nat.le_of_ble_eq_true rfl) dX7_tear_1 ?_
  refine s_if_neT (pc := 4) 9 dX7_tear_4 (by decide) ?_
  refine s_aload_n (pc := 9) 0 rfl rfl dX7_tear_9 ?_
  refine s_getr (pc := 10) (b := 51) fl_X7_7 rfl rfl rfl dX7_tear_10 ?_
  refine s_iload_n (pc := 13) 1 rfl rfl dX7_tear_13 ?_
  refine s_ialdN (pc := 14) (_) rfl rfl (by omega) hz dX7_tear_14 ?_
  refine s_if_geN (pc := 15) (by omega) 24 dX7_tear_15 (by decide) ?_
  refine s_aload_n (pc := 24) 0 rfl rfl dX7_tear_24 ?_
  refine s_getr (pc := 25) (b := 51) fl_X7_7 rfl rfl rfl dX7_tear_25 ?_
  refine s_iload_n (pc := 28) 1 rfl rfl dX7_tear_28 ?_
  refine s_iconst (pc := 29) (k_im1) dX7_tear_29 ?_
  refine s_iast (pc := 30) (_) rfl rfl (by omega) dX7_tear_30 ?_
  refine s_iconst (pc := 31) (k_i1N) dX7_tear_31 ?_
  refine s_iret (pc := 32) dX7_tear_32 (PostE.of hp ?_ ?_)
  · rfl
  · rfl

set_option maxRecDepth 20000 in
theorem c_X7_meanB {s : Int32} {h : Hp} (hb : s < 0 ∨ nI 6 ≤ s) : CT 3 yX7_mean cX7_mean 5 (some .int) [.ref 50, .int s] h (some (.int (-1))) (h) := by
  refine CT.of (own := RX7) rfl (by decide) (ro_i _) [.ref 50, .int s, .null, .null, .null] rfl (Nat.le_of_ble_eq_true rfl) (fun E hp => ?_)
  refine s_iload_n (pc := 0) 1 rfl rfl dX7_mean_0 ?_
  refine s_csi1 (pc := 1) (c_X7_isRowF hb) ml_X7_68 ms_X7_isRow (by decide) (Nat.le_of_ble_eq_true rfl) dX7_mean_1 ?_
  refine s_if_neF (pc := 4) 9 dX7_mean_4 (by decide) ?_
  refine s_iconst (pc := 7) (k_im1) dX7_mean_7 ?_
  refine s_iret (pc := 8) dX7_mean_8 (PostE.of hp ?_ ?_)
  · rfl
  · rfl

set_option maxRecDepth 20000 in
theorem c_X7_meanM {k : Nat} {h : Hp} (hk : k < 6) (hz : h.1 51 k = -1) : CT 3 yX7_mean cX7_mean 5 (some .int) [.ref 50, .int (nI k)] h (some (.int (-3))) (finM h 1) := by
  refine CT.of (own := RX7) rfl (by decide) (ro_i _) [.ref 50, .int (nI k), .null, .null, .null] rfl (Nat.le_of_ble_eq_true rfl) (fun E hp => ?_)
  refine s_iload_n (pc := 0) 1 rfl rfl dX7_mean_0 ?_
  refine s_csi1 (pc := 1) (c_X7_isRowT hk) ml_X7_68 ms_X7_isRow (by decide) (Nat.le_of_ble_eq_true rfl) dX7_mean_1 ?_
  refine s_if_neT (pc := 4) 9 dX7_mean_4 (by decide) ?_
  refine s_aload_n (pc := 9) 0 rfl rfl dX7_mean_9 ?_
  refine s_getr (pc := 10) (b := 51) fl_X7_7 rfl rfl rfl dX7_mean_10 ?_
  refine s_iload_n (pc := 13) 1 rfl rfl dX7_mean_13 ?_
  refine s_ialdE (pc := 14) (_) rfl rfl (by omega) hz dX7_mean_14 ?_
  refine s_if_ge (pc := 15) 24 dX7_mean_15 (by decide) (fun c_15 => ?_) (fun c_15 => ?_)
  · exfalso; exact absurd c_15 (by decide)
  · refine s_aload_n (pc := 18) 0 rfl rfl dX7_mean_18 ?_
    refine s_iconst (pc := 19) (k_i1N) dX7_mean_19 ?_
    refine s_cvi1 (pc := 20) (c_X7_finds (by decide)) ml_X7_72 mw_X7_finds rfl (by decide) (Nat.le_of_ble_eq_true rfl) dX7_mean_20 ?_
    refine s_iret (pc := 23) dX7_mean_23 (PostE.of hp ?_ ?_)
    · rfl
    · rfl

set_option maxRecDepth 20000 in
theorem c_X7_meanN {k : Nat} {h : Hp} (hk : k < 6) (hz : h.1 51 k = nI 0) : CT 3 yX7_mean cX7_mean 5 (some .int) [.ref 50, .int (nI k)] h (some (.int (-3))) (finM h 4) := by
  refine CT.of (own := RX7) rfl (by decide) (ro_i _) [.ref 50, .int (nI k), .null, .null, .null] rfl (Nat.le_of_ble_eq_true rfl) (fun E hp => ?_)
  refine s_iload_n (pc := 0) 1 rfl rfl dX7_mean_0 ?_
  refine s_csi1 (pc := 1) (c_X7_isRowT hk) ml_X7_68 ms_X7_isRow (by decide) (Nat.le_of_ble_eq_true rfl) dX7_mean_1 ?_
  refine s_if_neT (pc := 4) 9 dX7_mean_4 (by decide) ?_
  refine s_aload_n (pc := 9) 0 rfl rfl dX7_mean_9 ?_
  refine s_getr (pc := 10) (b := 51) fl_X7_7 rfl rfl rfl dX7_mean_10 ?_
  refine s_iload_n (pc := 13) 1 rfl rfl dX7_mean_13 ?_
  refine s_ialdN (pc := 14) (_) rfl rfl (by omega) hz dX7_mean_14 ?_
  refine s_if_geN (pc := 15) (by omega) 24 dX7_mean_15 (by decide) ?_
  refine s_aload_n (pc := 24) 0 rfl rfl dX7_mean_24 ?_
  refine s_getr (pc := 25) (b := 51) fl_X7_7 rfl rfl rfl dX7_mean_25 ?_
  refine s_iload_n (pc := 28) 1 rfl rfl dX7_mean_28 ?_
  refine s_ialdN (pc := 29) (_) rfl rfl (by omega) hz dX7_mean_29 ?_
  refine s_if_neN (pc := 30) (by omega) 39 dX7_mean_30 (by decide) (fun c_30 => ?_) (fun c_30 => ?_)
  · exfalso; omega
  · refine s_aload_n (pc := 33) 0 rfl rfl dX7_mean_33 ?_
    refine s_iconst (pc := 34) (k_i4N) dX7_mean_34 ?_
    refine s_cvi1 (pc := 35) (c_X7_finds (by decide)) ml_X7_72 mw_X7_finds rfl (by decide) (Nat.le_of_ble_eq_true rfl) dX7_mean_35 ?_
    refine s_iret (pc := 38) dX7_mean_38 (PostE.of hp ?_ ?_)
    · rfl
    · rfl

set_option maxRecDepth 20000 in
theorem c_X7_meanO {k m : Nat} {f : Nat → Int32} {h : Hp} (hk : k < 6) (hz : h.1 51 k = nI m) (hz6 : m ≤ 40) (h0 : 0 < m) (hf : ∀ j, j < 40 → h.1 52 (40 * k + j) = f j) : CT 3 yX7_mean cX7_mean 5 (some .int) [.ref 50, .int (nI k)] h (some (.int (nI 1))) (ui h 50 11 (sumL f m / (nI m).toInt64).toInt32) := by
  refine CT.of (own := RX7) rfl (by decide) (ro_i _) [.ref 50, .int (nI k), .null, .null, .null] rfl (Nat.le_of_ble_eq_true rfl) (fun E hp => ?_)
  refine s_iload_n (pc := 0) 1 rfl rfl dX7_mean_0 ?_
  refine s_csi1 (pc := 1) (c_X7_isRowT hk) ml_X7_68 ms_X7_isRow (by decide) (Nat.le_of_ble_eq_true rfl) dX7_mean_1 ?_
  refine s_if_neT (pc := 4) 9 dX7_mean_4 (by decide) ?_
  refine s_aload_n (pc := 9) 0 rfl rfl dX7_mean_9 ?_
  refine s_getr (pc := 10) (b := 51) fl_X7_7 rfl rfl rfl dX7_mean_10 ?_
  refine s_iload_n (pc := 13) 1 rfl rfl dX7_mean_13 ?_
  refine s_ialdN (pc := 14) (_) rfl rfl (by omega) hz dX7_mean_14 ?_
  refine s_if_geN (pc := 15) (by omega) 24 dX7_mean_15 (by decide) ?_
  refine s_aload_n (pc := 24) 0 rfl rfl dX7_mean_24 ?_
  refine s_getr (pc := 25) (b := 51) fl_X7_7 rfl rfl rfl dX7_mean_25 ?_
  refine s_iload_n (pc := 28) 1 rfl rfl dX7_mean_28 ?_
  refine s_ialdN (pc := 29) (_) rfl rfl (by omega) hz dX7_mean_29 ?_
  refine s_if_neN (pc := 30) (by omega) 39 dX7_mean_30 (by decide) (fun c_30 => ?_) (fun c_30 => ?_)
  · refine s_lconst (pc := 39) (v := 0) rfl dX7_mean_39 ?_
    refine s_lstore_n (pc := 40) 2 rfl (by decide) rfl dX7_mean_40 ?_
    refine s_iconst (pc := 41) (k_i0N) dX7_mean_41 ?_
    refine s_istore (pc := 42) (by decide) rfl dX7_mean_42 ?_
    suffices lp_44 : ∀ j, j ≤ m → WW E cX7_mean RX7 5 _ 44 [.ref 50, .int (nI k), .long (sumL f j), .null, .int (nI j)] (h) [] from lp_44 (0) (by omega)
    refine lpi (m) (fun j hk_j ih_44 => ?_)
    refine s_iload (pc := 44) rfl dX7_mean_44 ?_
    refine s_aload_n (pc := 46) 0 rfl rfl dX7_mean_46 ?_
    refine s_getr (pc := 47) (b := 51) fl_X7_7 rfl rfl rfl dX7_mean_47 ?_
    refine s_iload_n (pc := 50) 1 rfl rfl dX7_mean_50 ?_
    refine s_ialdN (pc := 51) (_) rfl rfl (by omega) hz dX7_mean_51 ?_
    refine s_icmp_geN (pc := 52) (by omega) (by omega) 77 dX7_mean_52 (by decide) (fun c_52 => ?_) (fun c_52 => ?_)
    · obtain rfl : j = m := by omega
      refine s_aload_n (pc := 77) 0 rfl rfl dX7_mean_77 ?_
      refine s_iconst (pc := 78) (k_i1N) dX7_mean_78 ?_
      refine s_lload_n (pc := 79) 2 rfl rfl dX7_mean_79 ?_
      refine s_aload_n (pc := 80) 0 rfl rfl dX7_mean_80 ?_
      refine s_getr (pc := 81) (b := 51) fl_X7_7 rfl rfl rfl dX7_mean_81 ?_
      refine s_iload_n (pc := 84) 1 rfl rfl dX7_mean_84 ?_
      refine s_ialdN (pc := 85) (_) rfl rfl (by omega) hz dX7_mean_85 ?_
      refine s_i2l (pc := 86) dX7_mean_86 ?_
      refine s_ldiv (pc := 87) (by rw [nI_l (by omega)]; intro q; rw [show (0 : Int64) = lN 0 from rfl, lN_eq (by omega) (by decide)] at q; omega) dX7_mean_87 ?_
      refine s_l2i (pc := 88) dX7_mean_88 ?_
      refine s_cvi2 (pc := 89) (c_X7_tells) ml_X7_84 mw_X7_tells rfl (by decide) (Nat.le_of_ble_eq_true rfl) dX7_mean_89 ?_
      refine s_iret (pc := 92) dX7_mean_92 (PostE.of hp ?_ ?_)
      · rfl
      · rfl
    · refine s_lload_n (pc := 55) 2 rfl rfl dX7_mean_55 ?_
      refine s_aload_n (pc := 56) 0 rfl rfl dX7_mean_56 ?_
      refine s_getr (pc := 57) (b := 52) fl_X7_13 rfl rfl rfl dX7_mean_57 ?_
      refine s_bipush (pc := 60) (k_b40N) dX7_mean_60 ?_
      refine s_iload_n (pc := 62) 1 rfl rfl dX7_mean_62 ?_
      refine s_imulN (pc := 63) dX7_mean_63 ?_
      refine s_iload (pc := 64) rfl dX7_mean_64 ?_
      refine s_iaddN (pc := 66) dX7_mean_66 ?_
      refine s_ialdE (pc := 67) (_) rfl rfl (by omega) (hf _ (by omega)) dX7_mean_67 ?_
      refine s_i2l (pc := 68) dX7_mean_68 ?_
      refine s_ladd (pc := 69) dX7_mean_69 ?_
      refine s_lstore_n (pc := 70) 2 rfl (by decide) rfl dX7_mean_70 ?_
      refine s_iincN (pc := 71) rfl (by decide) rfl dX7_mean_71 ?_
      refine s_goto (pc := 74) 44 dX7_mean_74 (by decide) ?_
      exact ih_44 (by omega)
  · exfalso; omega

set_option maxRecDepth 20000 in
theorem c_X7_asked {h : Hp} : CT 1 yX7_asked cX7_asked 1 (some .int) [.ref 50] h (some (.int (h.1 50 11))) (h) := by
  refine CT.of (own := RX7) rfl (by decide) (ro_i _) [.ref 50] rfl (Nat.le_of_ble_eq_true rfl) (fun E hp => ?_)
  refine s_aload_n (pc := 0) 0 rfl rfl dX7_asked_0 ?_
  refine s_geti (pc := 1) fl_X7_58 rfl rfl dX7_asked_1 ?_
  refine s_iret (pc := 4) dX7_asked_4 (PostE.of hp ?_ ?_)
  · rfl
  · rfl

set_option maxRecDepth 20000 in
theorem c_X7_finding {h : Hp} : CT 1 yX7_finding cX7_finding 1 (some .int) [.ref 50] h (some (.int (h.1 50 10))) (h) := by
  refine CT.of (own := RX7) rfl (by decide) (ro_i _) [.ref 50] rfl (Nat.le_of_ble_eq_true rfl) (fun E hp => ?_)
  refine s_aload_n (pc := 0) 0 rfl rfl dX7_finding_0 ?_
  refine s_geti (pc := 1) fl_X7_54 rfl rfl dX7_finding_1 ?_
  refine s_iret (pc := 4) dX7_finding_4 (PostE.of hp ?_ ?_)
  · rfl
  · rfl

set_option maxRecDepth 20000 in
theorem c_X7_upper {h : Hp} : CT 1 yX7_upper cX7_upper 1 (some .long) [.ref 50] h (some (.long (h.2 50 12))) (h) := by
  refine CT.of (own := RX7) rfl (by decide) (ro_l _) [.ref 50] rfl (Nat.le_of_ble_eq_true rfl) (fun E hp => ?_)
  refine s_aload_n (pc := 0) 0 rfl rfl dX7_upper_0 ?_
  refine s_getl (pc := 1) fl_X7_61 rfl rfl dX7_upper_1 ?_
  refine s_lret (pc := 4) dX7_upper_4 (PostE.of hp ?_ ?_)
  · rfl
  · rfl

set_option maxRecDepth 20000 in
theorem c_X7_lower {h : Hp} : CT 1 yX7_lower cX7_lower 1 (some .long) [.ref 50] h (some (.long (h.2 50 13))) (h) := by
  refine CT.of (own := RX7) rfl (by decide) (ro_l _) [.ref 50] rfl (Nat.le_of_ble_eq_true rfl) (fun E hp => ?_)
  refine s_aload_n (pc := 0) 0 rfl rfl dX7_lower_0 ?_
  refine s_getl (pc := 1) fl_X7_50 rfl rfl dX7_lower_1 ?_
  refine s_lret (pc := 4) dX7_lower_4 (PostE.of hp ?_ ?_)
  · rfl
  · rfl

set_option maxRecDepth 20000 in
theorem c_X7_findingsO {f : Nat} {h : Hp} (hf : 1 ≤ f) (hf5 : f ≤ 5) : CT 2 yX7_findings cX7_findings 2 (some .int) [.ref 50, .int (nI f)] h (some (.int (h.1 60 f))) (h) := by
  refine CT.of (own := RX7) rfl (by decide) (ro_i _) [.ref 50, .int (nI f)] rfl (Nat.le_of_ble_eq_true rfl) (fun E hp => ?_)
  refine s_iload_n (pc := 0) 1 rfl rfl dX7_findings_0 ?_
  refine s_iconst (pc := 1) (k_i1N) dX7_findings_1 ?_
  refine s_iconst (pc := 2) (k_i5N) dX7_findings_2 ?_
  refine s_csi3 (pc := 3) (c_X7_inT (rng1_t hf hf5 (by decide))) ml_X7_64 ms_X7_in (by decide) (Nat.le_of_ble_eq_true rfl) dX7_findings_3 ?_
  refine s_if_eqT (pc := 6) 18 dX7_findings_6 (by decide) ?_
  refine s_aload_n (pc := 9) 0 rfl rfl dX7_findings_9 ?_
  refine s_getr (pc := 10) (b := 60) fl_X7_38 rfl rfl rfl dX7_findings_10 ?_
  refine s_iload_n (pc := 13) 1 rfl rfl dX7_findings_13 ?_
  refine s_iald (pc := 14) (_) rfl rfl (by omega) dX7_findings_14 ?_
  refine s_goto (pc := 15) 19 dX7_findings_15 (by decide) ?_
  refine s_iret (pc := 19) dX7_findings_19 (PostE.of hp ?_ ?_)
  · rfl
  · rfl

set_option maxRecDepth 20000 in
theorem c_X7_findingsB {f : Int32} {h : Hp} (hb : f < nI 1 ∨ nI 5 < f) : CT 2 yX7_findings cX7_findings 2 (some .int) [.ref 50, .int f] h (some (.int (-1))) (h) := by
  refine CT.of (own := RX7) rfl (by decide) (ro_i _) [.ref 50, .int f] rfl (Nat.le_of_ble_eq_true rfl) (fun E hp => ?_)
  refine s_iload_n (pc := 0) 1 rfl rfl dX7_findings_0 ?_
  refine s_iconst (pc := 1) (k_i1N) dX7_findings_1 ?_
  refine s_iconst (pc := 2) (k_i5N) dX7_findings_2 ?_
  refine s_csi3 (pc := 3) (c_X7_inF hb) ml_X7_64 ms_X7_in (by decide) (Nat.le_of_ble_eq_true rfl) dX7_findings_3 ?_
  refine s_if_eqF (pc := 6) 18 dX7_findings_6 (by decide) ?_
  refine s_iconst (pc := 18) (k_im1) dX7_findings_18 ?_
  refine s_iret (pc := 19) dX7_findings_19 (PostE.of hp ?_ ?_)
  · rfl
  · rfl

set_option maxRecDepth 20000 in
theorem c_X7_shipB {s x : Int32} {a : Nat → Nat} {h : Hp} (hA : RM a h) (hO : OkA a) (hb : s < 0 ∨ nI (a 0) ≤ s) : CT 3 yX7_ship cX7_ship 3 (some .int) [.ref 50, .int s, .int x] h (some (.int (-1))) (h) := by
  refine CT.of (own := RX7) rfl (by decide) (ro_i _) [.ref 50, .int s, .int x] rfl (Nat.le_of_ble_eq_true rfl) (fun E hp => ?_)
  refine s_aload_n (pc := 0) 0 rfl rfl dX7_ship_0 ?_
  refine s_iload_n (pc := 1) 1 rfl rfl dX7_ship_1 ?_
  refine s_cvi1 (pc := 2) (c_X7_isShipF hA hO.1.1 hb) ml_X7_159 mw_X7_isShip rfl (by decide) (Nat.le_of_ble_eq_true rfl) dX7_ship_2 ?_
  refine s_if_eqF (pc := 5) 32 dX7_ship_5 (by decide) ?_
  refine s_iconst (pc := 32) (k_im1) dX7_ship_32 ?_
  refine s_iret (pc := 33) dX7_ship_33 (PostE.of hp ?_ ?_)
  · rfl
  · rfl

set_option maxRecDepth 20000 in
theorem c_X7_shipB2 {i : Nat} {x : Int32} {a : Nat → Nat} {h : Hp} (hA : RM a h) (hO : OkA a) (hi : i < a 0) (hx : x < 0 ∨ nI 9 ≤ x) : CT 3 yX7_ship cX7_ship 3 (some .int) [.ref 50, .int (nI i), .int x] h (some (.int (-1))) (h) := by
  refine CT.of (own := RX7) rfl (by decide) (ro_i _) [.ref 50, .int (nI i), .int x] rfl (Nat.le_of_ble_eq_true rfl) (fun E hp => ?_)
  refine s_aload_n (pc := 0) 0 rfl rfl dX7_ship_0 ?_
  refine s_iload_n (pc := 1) 1 rfl rfl dX7_ship_1 ?_
  refine s_cvi1 (pc := 2) (c_X7_isShipT hA hO.1.1 hi) ml_X7_159 mw_X7_isShip rfl (by decide) (Nat.le_of_ble_eq_true rfl) dX7_ship_2 ?_
  refine s_if_eqT (pc := 5) 32 dX7_ship_5 (by decide) ?_
  refine s_iload_n (pc := 8) 2 rfl rfl dX7_ship_8 ?_
  refine s_iconst (pc := 9) (k_i0N) dX7_ship_9 ?_
  refine s_bipush (pc := 10) (k_b8N) dX7_ship_10 ?_
  refine s_csi3 (pc := 12) (c_X7_inF (rng_f (n := 8) (by decide) hx)) ml_X7_64 ms_X7_in (by decide) (Nat.le_of_ble_eq_true rfl) dX7_ship_12 ?_
  refine s_if_eqF (pc := 15) 32 dX7_ship_15 (by decide) ?_
  refine s_iconst (pc := 32) (k_im1) dX7_ship_32 ?_
  refine s_iret (pc := 33) dX7_ship_33 (PostE.of hp ?_ ?_)
  · rfl
  · rfl

set_option maxRecDepth 20000 in
theorem c_X7_shipO {i w : Nat} {a : Nat → Nat} {h : Hp} (hA : RM a h) (hO : OkA a) (hi : i < a 0) (hw : w < 9) : CT 6 yX7_ship cX7_ship 3 (some .int) [.ref 50, .int (nI i), .int (nI w)] h (some (.int (nI 1))) (ui h 50 11 (hasN a i w)) := by
  refine CT.of (own := RX7) rfl (by decide) (ro_i _) [.ref 50, .int (nI i), .int (nI w)] rfl (Nat.le_of_ble_eq_true rfl) (fun E hp => ?_)
  refine s_aload_n (pc := 0) 0 rfl rfl dX7_ship_0 ?_
  refine s_iload_n (pc := 1) 1 rfl rfl dX7_ship_1 ?_
  refine s_cvi1 (pc := 2) (c_X7_isShipT hA hO.1.1 hi) ml_X7_159 mw_X7_isShip rfl (by decide) (Nat.le_of_ble_eq_true rfl) dX7_ship_2 ?_
  refine s_if_eqT (pc := 5) 32 dX7_ship_5 (by decide) ?_
  refine s_iload_n (pc := 8) 2 rfl rfl dX7_ship_8 ?_
  refine s_iconst (pc := 9) (k_i0N) dX7_ship_9 ?_
  refine s_bipush (pc := 10) (k_b8N) dX7_ship_10 ?_
  refine s_csi3 (pc := 12) (c_X7_inT (rng_t (by omega) (by decide))) ml_X7_64 ms_X7_in (by decide) (Nat.le_of_ble_eq_true rfl) dX7_ship_12 ?_
  refine s_if_eqT (pc := 15) 32 dX7_ship_15 (by decide) ?_
  refine s_aload_n (pc := 18) 0 rfl rfl dX7_ship_18 ?_
  refine s_iconst (pc := 19) (k_i1N) dX7_ship_19 ?_
  refine s_aload_n (pc := 20) 0 rfl rfl dX7_ship_20 ?_
  refine s_iload_n (pc := 21) 1 rfl rfl dX7_ship_21 ?_
  refine s_iload_n (pc := 22) 2 rfl rfl dX7_ship_22 ?_
  refine s_cvi2 (pc := 23) (c_X7_shipHas hA hO hi hw) ml_X7_162 mw_X7_shipHas rfl (by decide) (Nat.le_of_ble_eq_true rfl) dX7_ship_23 ?_
  refine s_cvi2 (pc := 26) (c_X7_tells) ml_X7_84 mw_X7_tells rfl (by decide) (Nat.le_of_ble_eq_true rfl) dX7_ship_26 ?_
  refine s_goto (pc := 29) 33 dX7_ship_29 (by decide) ?_
  refine s_iret (pc := 33) dX7_ship_33 (PostE.of hp ?_ ?_)
  · rfl
  · rfl

set_option maxRecDepth 20000 in
theorem c_X7_ageB {s x : Int32} {a : Nat → Nat} {h : Hp} (hA : RM a h) (hO : OkA a) (hb : s < 0 ∨ nI (a 0) ≤ s) : CT 3 yX7_age cX7_age 3 (some .int) [.ref 50, .int s, .int x] h (some (.int (-1))) (h) := by
  refine CT.of (own := RX7) rfl (by decide) (ro_i _) [.ref 50, .int s, .int x] rfl (Nat.le_of_ble_eq_true rfl) (fun E hp => ?_)
  refine s_aload_n (pc := 0) 0 rfl rfl dX7_age_0 ?_
  refine s_iload_n (pc := 1) 1 rfl rfl dX7_age_1 ?_
  refine s_cvi1 (pc := 2) (c_X7_isShipF hA hO.1.1 hb) ml_X7_159 mw_X7_isShip rfl (by decide) (Nat.le_of_ble_eq_true rfl) dX7_age_2 ?_
  refine s_if_eqF (pc := 5) 28 dX7_age_5 (by decide) ?_
  refine s_iconst (pc := 28) (k_im1) dX7_age_28 ?_
  refine s_iret (pc := 29) dX7_age_29 (PostE.of hp ?_ ?_)
  · rfl
  · rfl

set_option maxRecDepth 20000 in
theorem c_X7_ageB2 {i : Nat} {x : Int32} {a : Nat → Nat} {h : Hp} (hA : RM a h) (hO : OkA a) (hi : i < a 0) (hx : x < 0 ∨ nI 999 < x) : CT 3 yX7_age cX7_age 3 (some .int) [.ref 50, .int (nI i), .int x] h (some (.int (-1))) (h) := by
  refine CT.of (own := RX7) rfl (by decide) (ro_i _) [.ref 50, .int (nI i), .int x] rfl (Nat.le_of_ble_eq_true rfl) (fun E hp => ?_)
  refine s_aload_n (pc := 0) 0 rfl rfl dX7_age_0 ?_
  refine s_iload_n (pc := 1) 1 rfl rfl dX7_age_1 ?_
  refine s_cvi1 (pc := 2) (c_X7_isShipT hA hO.1.1 hi) ml_X7_159 mw_X7_isShip rfl (by decide) (Nat.le_of_ble_eq_true rfl) dX7_age_2 ?_
  refine s_if_eqT (pc := 5) 28 dX7_age_5 (by decide) ?_
  refine s_iload_n (pc := 8) 2 rfl rfl dX7_age_8 ?_
  refine s_iconst (pc := 9) (k_i0N) dX7_age_9 ?_
  refine s_sipush (pc := 10) (k_s999N) dX7_age_10 ?_
  refine s_csi3 (pc := 13) (c_X7_inF hx) ml_X7_64 ms_X7_in (by decide) (Nat.le_of_ble_eq_true rfl) dX7_age_13 ?_
  refine s_if_eqF (pc := 16) 28 dX7_age_16 (by decide) ?_
  refine s_iconst (pc := 28) (k_im1) dX7_age_28 ?_
  refine s_iret (pc := 29) dX7_age_29 (PostE.of hp ?_ ?_)
  · rfl
  · rfl

set_option maxRecDepth 20000 in
theorem c_X7_ageO {i y : Nat} {a : Nat → Nat} {h : Hp} (hA : RM a h) (hO : OkA a) (hi : i < a 0) (hy : y ≤ 999) : CT 5 yX7_age cX7_age 3 (some .int) [.ref 50, .int (nI i), .int (nI y)] h (some (.int (nI (ageN a i y)))) (h) := by
  refine CT.of (own := RX7) rfl (by decide) (ro_i _) [.ref 50, .int (nI i), .int (nI y)] rfl (Nat.le_of_ble_eq_true rfl) (fun E hp => ?_)
  refine s_aload_n (pc := 0) 0 rfl rfl dX7_age_0 ?_
  refine s_iload_n (pc := 1) 1 rfl rfl dX7_age_1 ?_
  refine s_cvi1 (pc := 2) (c_X7_isShipT hA hO.1.1 hi) ml_X7_159 mw_X7_isShip rfl (by decide) (Nat.le_of_ble_eq_true rfl) dX7_age_2 ?_
  refine s_if_eqT (pc := 5) 28 dX7_age_5 (by decide) ?_
  refine s_iload_n (pc := 8) 2 rfl rfl dX7_age_8 ?_
  refine s_iconst (pc := 9) (k_i0N) dX7_age_9 ?_
  refine s_sipush (pc := 10) (k_s999N) dX7_age_10 ?_
  refine s_csi3 (pc := 13) (c_X7_inT (rng_t hy (by decide))) ml_X7_64 ms_X7_in (by decide) (Nat.le_of_ble_eq_true rfl) dX7_age_13 ?_
  refine s_if_eqT (pc := 16) 28 dX7_age_16 (by decide) ?_
  refine s_aload_n (pc := 19) 0 rfl rfl dX7_age_19 ?_
  refine s_iload_n (pc := 20) 1 rfl rfl dX7_age_20 ?_
  refine s_iload_n (pc := 21) 2 rfl rfl dX7_age_21 ?_
  refine s_cvi2 (pc := 22) (c_X7_ageIn hA hO hi (by omega)) ml_X7_136 mw_X7_ageIn rfl (by decide) (Nat.le_of_ble_eq_true rfl) dX7_age_22 ?_
  refine s_goto (pc := 25) 29 dX7_age_25 (by decide) ?_
  refine s_iret (pc := 29) dX7_age_29 (PostE.of hp ?_ ?_)
  · rfl
  · rfl

set_option maxRecDepth 20000 in
theorem c_X7_markB {s x : Int32} {a : Nat → Nat} {h : Hp} (hA : RM a h) (hO : OkA a) (hb : s < 0 ∨ nI (a 0) ≤ s) : CT 3 yX7_mark cX7_mark 3 (some .int) [.ref 50, .int s, .int x] h (some (.int (-1))) (h) := by
  refine CT.of (own := RX7) rfl (by decide) (ro_i _) [.ref 50, .int s, .int x] rfl (Nat.le_of_ble_eq_true rfl) (fun E hp => ?_)
  refine s_aload_n (pc := 0) 0 rfl rfl dX7_mark_0 ?_
  refine s_iload_n (pc := 1) 1 rfl rfl dX7_mark_1 ?_
  refine s_cvi1 (pc := 2) (c_X7_isShipF hA hO.1.1 hb) ml_X7_159 mw_X7_isShip rfl (by decide) (Nat.le_of_ble_eq_true rfl) dX7_mark_2 ?_
  refine s_if_eqF (pc := 5) 17 dX7_mark_5 (by decide) ?_
  refine s_iconst (pc := 17) (k_im1) dX7_mark_17 ?_
  refine s_iret (pc := 18) dX7_mark_18 (PostE.of hp ?_ ?_)
  · rfl
  · rfl

set_option maxRecDepth 20000 in
theorem c_X7_markB2 {i : Nat} {x : Int32} {a : Nat → Nat} {h : Hp} (hA : RM a h) (hO : OkA a) (hi : i < a 0) (hx : x < nI 1 ∨ nI 5 < x) : CT 3 yX7_mark cX7_mark 3 (some .int) [.ref 50, .int (nI i), .int x] h (some (.int (-1))) (h) := by
  refine CT.of (own := RX7) rfl (by decide) (ro_i _) [.ref 50, .int (nI i), .int x] rfl (Nat.le_of_ble_eq_true rfl) (fun E hp => ?_)
  refine s_aload_n (pc := 0) 0 rfl rfl dX7_mark_0 ?_
  refine s_iload_n (pc := 1) 1 rfl rfl dX7_mark_1 ?_
  refine s_cvi1 (pc := 2) (c_X7_isShipT hA hO.1.1 hi) ml_X7_159 mw_X7_isShip rfl (by decide) (Nat.le_of_ble_eq_true rfl) dX7_mark_2 ?_
  refine s_if_eqT (pc := 5) 17 dX7_mark_5 (by decide) ?_
  refine s_iload_n (pc := 8) 2 rfl rfl dX7_mark_8 ?_
  refine s_iconst (pc := 9) (k_i1N) dX7_mark_9 ?_
  refine s_iconst (pc := 10) (k_i5N) dX7_mark_10 ?_
  refine s_csi3 (pc := 11) (c_X7_inF hx) ml_X7_64 ms_X7_in (by decide) (Nat.le_of_ble_eq_true rfl) dX7_mark_11 ?_
  refine s_if_neF (pc := 14) 19 dX7_mark_14 (by decide) ?_
  refine s_iconst (pc := 17) (k_im1) dX7_mark_17 ?_
  refine s_iret (pc := 18) dX7_mark_18 (PostE.of hp ?_ ?_)
  · rfl
  · rfl

set_option maxRecDepth 20000 in
theorem c_X7_markU {i m : Nat} {a : Nat → Nat} {h : Hp} (hA : RM a h) (hO : OkA a) (hi : i < a 0) (hm : 0 < m) (hm6 : m < 6) (hk : ¬ (sh a i 0 = m ∨ (sh a i 0 = 4 ∧ m = 1) ∨ (sh a i 0 = 5 ∧ m = 3))) : CT 3 yX7_mark cX7_mark 3 (some .int) [.ref 50, .int (nI i), .int (nI m)] h (some (.int (-3))) (finM h 3) := by
  have o0 := hO.1.1
  refine CT.of (own := RX7) rfl (by decide) (ro_i _) [.ref 50, .int (nI i), .int (nI m)] rfl (Nat.le_of_ble_eq_true rfl) (fun E hp => ?_)
  refine s_aload_n (pc := 0) 0 rfl rfl dX7_mark_0 ?_
  refine s_iload_n (pc := 1) 1 rfl rfl dX7_mark_1 ?_
  refine s_cvi1 (pc := 2) (c_X7_isShipT hA hO.1.1 hi) ml_X7_159 mw_X7_isShip rfl (by decide) (Nat.le_of_ble_eq_true rfl) dX7_mark_2 ?_
  refine s_if_eqT (pc := 5) 17 dX7_mark_5 (by decide) ?_
  refine s_iload_n (pc := 8) 2 rfl rfl dX7_mark_8 ?_
  refine s_iconst (pc := 9) (k_i1N) dX7_mark_9 ?_
  refine s_iconst (pc := 10) (k_i5N) dX7_mark_10 ?_
  refine s_csi3 (pc := 11) (c_X7_inT (rng1_t (by omega) (by omega) (by decide))) ml_X7_64 ms_X7_in (by decide) (Nat.le_of_ble_eq_true rfl) dX7_mark_11 ?_
  refine s_if_neT (pc := 14) 19 dX7_mark_14 (by decide) ?_
  refine s_aload_n (pc := 19) 0 rfl rfl dX7_mark_19 ?_
  refine s_iload_n (pc := 20) 1 rfl rfl dX7_mark_20 ?_
  refine s_iconst (pc := 21) (k_i0N) dX7_mark_21 ?_
  refine s_cvi2 (pc := 22) (c_X7_of hA (by omega) (by decide)) ml_X7_126 mw_X7_of rfl (by decide) (Nat.le_of_ble_eq_true rfl) dX7_mark_22 ?_
  refine s_iload_n (pc := 25) 2 rfl rfl dX7_mark_25 ?_
  refine s_csi2 (pc := 26) (c_X7_isOf (hO.2 i hi).1 (by omega)) ml_X7_168 ms_X7_isOf (by decide) (Nat.le_of_ble_eq_true rfl) dX7_mark_26 ?_
  refine s_if_eqB (pc := 29) 41 dX7_mark_29 (by decide) (fun c_29 => ?_) (fun c_29 => ?_)
  · refine s_aload_n (pc := 41) 0 rfl rfl dX7_mark_41 ?_
    refine s_iconst (pc := 42) (k_i3N) dX7_mark_42 ?_
    refine s_cvi1 (pc := 43) (c_X7_finds (by decide)) ml_X7_72 mw_X7_finds rfl (by decide) (Nat.le_of_ble_eq_true rfl) dX7_mark_43 ?_
    refine s_iret (pc := 46) dX7_mark_46 (PostE.of hp ?_ ?_)
    · rfl
    · rfl
  · exfalso; exact hk c_29

set_option maxRecDepth 20000 in
theorem c_X7_markOf_1 {i : Nat} {a : Nat → Nat} {h : Hp} (hA : RM a h) (hO : OkA a) (hi : i < a 0) (hk : sh a i 0 = 1 ∨ sh a i 0 = 4) : CT 6 yX7_markOf cX7_markOf 7 (some .int) [.ref 50, .int (nI i), .int (nI 1)] h (some (.int (nI (markN a i 1)))) (h) := by
  obtain ⟨⟨o0, o1, o2, o3, o4, o5, o6⟩, os⟩ := id hO
  have o64 := hO.in64
  obtain ⟨s0, s1, s2, s3, s4, s5, s6, s7⟩ := os i hi
  have ge : a 1 - sh a i 1 + sh a i 5 ≤ ageN a i (a 1) := by unfold ageN agedN; (repeat' split) <;> omega
  refine CT.of (own := RX7) rfl (by decide) (ro_i _) [.ref 50, .int (nI i), .int (nI 1), .null, .null, .null, .null] rfl (Nat.le_of_ble_eq_true rfl) (fun E hp => ?_)
  refine s_aload_n (pc := 0) 0 rfl rfl dX7_markOf_0 ?_
  refine s_iload_n (pc := 1) 1 rfl rfl dX7_markOf_1 ?_
  refine s_cvi1 (pc := 2) (c_X7_ageNow hA hO hi) ml_X7_139 mw_X7_ageNow rfl (by decide) (Nat.le_of_ble_eq_true rfl) dX7_markOf_2 ?_
  refine s_istore_n (pc := 5) 3 rfl (by decide) rfl dX7_markOf_5 ?_
  refine s_aload_n (pc := 6) 0 rfl rfl dX7_markOf_6 ?_
  refine s_getr (pc := 7) (b := 56) fl_X7_25 rfl rfl rfl dX7_markOf_7 ?_
  refine s_iconst (pc := 10) (k_i1N) dX7_markOf_10 ?_
  refine s_ialdN (pc := 11) (_) rfl rfl (by omega) (hA _ (by omega)) dX7_markOf_11 ?_
  refine s_aload_n (pc := 12) 0 rfl rfl dX7_markOf_12 ?_
  refine s_iload_n (pc := 13) 1 rfl rfl dX7_markOf_13 ?_
  refine s_iconst (pc := 14) (k_i1N) dX7_markOf_14 ?_
  refine s_cvi2 (pc := 15) (c_X7_of hA (by omega) (by decide)) ml_X7_126 mw_X7_of rfl (by decide) (Nat.le_of_ble_eq_true rfl) dX7_markOf_15 ?_
  refine s_csi2 (pc := 18) (c_X7_oldIn (by omega) (by omega)) ml_X7_129 ms_X7_oldIn (by decide) (Nat.le_of_ble_eq_true rfl) dX7_markOf_18 ?_
  refine s_istore (pc := 21) (by decide) rfl dX7_markOf_21 ?_
  refine s_iconst (pc := 23) (k_i0N) dX7_markOf_23 ?_
  refine s_istore (pc := 24) (by decide) rfl dX7_markOf_24 ?_
  refine s_iload_n (pc := 26) 2 rfl rfl dX7_markOf_26 ?_
  refine s_tabIn (pc := 27) 60 dX7_markOf_27 (by decide) (by decide) (off := 33) (by decide) (by decide) ?_
  refine s_iload_n (pc := 60) 3 rfl rfl dX7_markOf_60 ?_
  refine s_iload (pc := 61) rfl dX7_markOf_61 ?_
  refine s_isubN (pc := 63) (by omega) dX7_markOf_63 ?_
  refine s_aload_n (pc := 64) 0 rfl rfl dX7_markOf_64 ?_
  refine s_iload_n (pc := 65) 1 rfl rfl dX7_markOf_65 ?_
  refine s_iconst (pc := 66) (k_i5N) dX7_markOf_66 ?_
  refine s_cvi2 (pc := 67) (c_X7_of hA (by omega) (by decide)) ml_X7_126 mw_X7_of rfl (by decide) (Nat.le_of_ble_eq_true rfl) dX7_markOf_67 ?_
  refine s_isubN (pc := 70) (by omega) dX7_markOf_70 ?_
  refine s_iret (pc := 71) dX7_markOf_71 (PostE.of hp ?_ ?_)
  · exact retn (by show _ = ageN a i (a 1) - (a 1 - sh a i 1 + sh a i 5); omega)
  · rfl

set_option maxRecDepth 20000 in
theorem c_X7_markO1 {i : Nat} {a : Nat → Nat} {h : Hp} (hA : RM a h) (hO : OkA a) (hi : i < a 0) (hk : sh a i 0 = 1 ∨ sh a i 0 = 4) : CT 7 yX7_mark cX7_mark 3 (some .int) [.ref 50, .int (nI i), .int (nI 1)] h (some (.int (nI (markN a i 1)))) (h) := by
  have o0 := hO.1.1
  refine CT.of (own := RX7) rfl (by decide) (ro_i _) [.ref 50, .int (nI i), .int (nI 1)] rfl (Nat.le_of_ble_eq_true rfl) (fun E hp => ?_)
  refine s_aload_n (pc := 0) 0 rfl rfl dX7_mark_0 ?_
  refine s_iload_n (pc := 1) 1 rfl rfl dX7_mark_1 ?_
  refine s_cvi1 (pc := 2) (c_X7_isShipT hA hO.1.1 hi) ml_X7_159 mw_X7_isShip rfl (by decide) (Nat.le_of_ble_eq_true rfl) dX7_mark_2 ?_
  refine s_if_eqT (pc := 5) 17 dX7_mark_5 (by decide) ?_
  refine s_iload_n (pc := 8) 2 rfl rfl dX7_mark_8 ?_
  refine s_iconst (pc := 9) (k_i1N) dX7_mark_9 ?_
  refine s_iconst (pc := 10) (k_i5N) dX7_mark_10 ?_
  refine s_csi3 (pc := 11) (c_X7_inT (rng1_t (by decide) (by decide) (by decide))) ml_X7_64 ms_X7_in (by decide) (Nat.le_of_ble_eq_true rfl) dX7_mark_11 ?_
  refine s_if_neT (pc := 14) 19 dX7_mark_14 (by decide) ?_
  refine s_aload_n (pc := 19) 0 rfl rfl dX7_mark_19 ?_
  refine s_iload_n (pc := 20) 1 rfl rfl dX7_mark_20 ?_
  refine s_iconst (pc := 21) (k_i0N) dX7_mark_21 ?_
  refine s_cvi2 (pc := 22) (c_X7_of hA (by omega) (by decide)) ml_X7_126 mw_X7_of rfl (by decide) (Nat.le_of_ble_eq_true rfl) dX7_mark_22 ?_
  refine s_iload_n (pc := 25) 2 rfl rfl dX7_mark_25 ?_
  refine s_csi2 (pc := 26) (c_X7_isOf (hO.2 i hi).1 (by decide)) ml_X7_168 ms_X7_isOf (by decide) (Nat.le_of_ble_eq_true rfl) dX7_mark_26 ?_
  refine s_if_eqB (pc := 29) 41 dX7_mark_29 (by decide) (fun c_29 => ?_) (fun c_29 => ?_)
  · exfalso; omega
  · refine s_aload_n (pc := 32) 0 rfl rfl dX7_mark_32 ?_
    refine s_iload_n (pc := 33) 1 rfl rfl dX7_mark_33 ?_
    refine s_iload_n (pc := 34) 2 rfl rfl dX7_mark_34 ?_
    refine s_cvi2 (pc := 35) (c_X7_markOf_1 hA hO hi hk) ml_X7_171 mw_X7_markOf rfl (by decide) (Nat.le_of_ble_eq_true rfl) dX7_mark_35 ?_
    refine s_goto (pc := 38) 46 dX7_mark_38 (by decide) ?_
    refine s_iret (pc := 46) dX7_mark_46 (PostE.of hp ?_ ?_)
    · rfl
    · rfl

set_option maxRecDepth 20000 in
theorem c_X7_markOf_2 {i : Nat} {a : Nat → Nat} {h : Hp} (hA : RM a h) (hO : OkA a) (hi : i < a 0) (hk : sh a i 0 = 2) : CT 6 yX7_markOf cX7_markOf 7 (some .int) [.ref 50, .int (nI i), .int (nI 2)] h (some (.int (nI (markN a i 2)))) (h) := by
  obtain ⟨⟨o0, o1, o2, o3, o4, o5, o6⟩, os⟩ := id hO
  have o64 := hO.in64
  obtain ⟨s0, s1, s2, s3, s4, s5, s6, s7⟩ := os i hi
  have ge : ageN a i (a 1) ≤ a 1 - sh a i 1 + sh a i 5 := by unfold ageN agedN; (repeat' split) <;> omega
  refine CT.of (own := RX7) rfl (by decide) (ro_i _) [.ref 50, .int (nI i), .int (nI 2), .null, .null, .null, .null] rfl (Nat.le_of_ble_eq_true rfl) (fun E hp => ?_)
  refine s_aload_n (pc := 0) 0 rfl rfl dX7_markOf_0 ?_
  refine s_iload_n (pc := 1) 1 rfl rfl dX7_markOf_1 ?_
  refine s_cvi1 (pc := 2) (c_X7_ageNow hA hO hi) ml_X7_139 mw_X7_ageNow rfl (by decide) (Nat.le_of_ble_eq_true rfl) dX7_markOf_2 ?_
  refine s_istore_n (pc := 5) 3 rfl (by decide) rfl dX7_markOf_5 ?_
  refine s_aload_n (pc := 6) 0 rfl rfl dX7_markOf_6 ?_
  refine s_getr (pc := 7) (b := 56) fl_X7_25 rfl rfl rfl dX7_markOf_7 ?_
  refine s_iconst (pc := 10) (k_i1N) dX7_markOf_10 ?_
  refine s_ialdN (pc := 11) (_) rfl rfl (by omega) (hA _ (by omega)) dX7_markOf_11 ?_
  refine s_aload_n (pc := 12) 0 rfl rfl dX7_markOf_12 ?_
  refine s_iload_n (pc := 13) 1 rfl rfl dX7_markOf_13 ?_
  refine s_iconst (pc := 14) (k_i1N) dX7_markOf_14 ?_
  refine s_cvi2 (pc := 15) (c_X7_of hA (by omega) (by decide)) ml_X7_126 mw_X7_of rfl (by decide) (Nat.le_of_ble_eq_true rfl) dX7_markOf_15 ?_
  refine s_csi2 (pc := 18) (c_X7_oldIn (by omega) (by omega)) ml_X7_129 ms_X7_oldIn (by decide) (Nat.le_of_ble_eq_true rfl) dX7_markOf_18 ?_
  refine s_istore (pc := 21) (by decide) rfl dX7_markOf_21 ?_
  refine s_iconst (pc := 23) (k_i0N) dX7_markOf_23 ?_
  refine s_istore (pc := 24) (by decide) rfl dX7_markOf_24 ?_
  refine s_iload_n (pc := 26) 2 rfl rfl dX7_markOf_26 ?_
  refine s_tabIn (pc := 27) 72 dX7_markOf_27 (by decide) (by decide) (off := 45) (by decide) (by decide) ?_
  refine s_iload (pc := 72) rfl dX7_markOf_72 ?_
  refine s_aload_n (pc := 74) 0 rfl rfl dX7_markOf_74 ?_
  refine s_iload_n (pc := 75) 1 rfl rfl dX7_markOf_75 ?_
  refine s_iconst (pc := 76) (k_i5N) dX7_markOf_76 ?_
  refine s_cvi2 (pc := 77) (c_X7_of hA (by omega) (by decide)) ml_X7_126 mw_X7_of rfl (by decide) (Nat.le_of_ble_eq_true rfl) dX7_markOf_77 ?_
  refine s_iaddN (pc := 80) dX7_markOf_80 ?_
  refine s_iload_n (pc := 81) 3 rfl rfl dX7_markOf_81 ?_
  refine s_isubN (pc := 82) (by omega) dX7_markOf_82 ?_
  refine s_iret (pc := 83) dX7_markOf_83 (PostE.of hp ?_ ?_)
  · exact retn rfl
  · rfl

set_option maxRecDepth 20000 in
theorem c_X7_markO2 {i : Nat} {a : Nat → Nat} {h : Hp} (hA : RM a h) (hO : OkA a) (hi : i < a 0) (hk : sh a i 0 = 2) : CT 7 yX7_mark cX7_mark 3 (some .int) [.ref 50, .int (nI i), .int (nI 2)] h (some (.int (nI (markN a i 2)))) (h) := by
  have o0 := hO.1.1
  refine CT.of (own := RX7) rfl (by decide) (ro_i _) [.ref 50, .int (nI i), .int (nI 2)] rfl (Nat.le_of_ble_eq_true rfl) (fun E hp => ?_)
  refine s_aload_n (pc := 0) 0 rfl rfl dX7_mark_0 ?_
  refine s_iload_n (pc := 1) 1 rfl rfl dX7_mark_1 ?_
  refine s_cvi1 (pc := 2) (c_X7_isShipT hA hO.1.1 hi) ml_X7_159 mw_X7_isShip rfl (by decide) (Nat.le_of_ble_eq_true rfl) dX7_mark_2 ?_
  refine s_if_eqT (pc := 5) 17 dX7_mark_5 (by decide) ?_
  refine s_iload_n (pc := 8) 2 rfl rfl dX7_mark_8 ?_
  refine s_iconst (pc := 9) (k_i1N) dX7_mark_9 ?_
  refine s_iconst (pc := 10) (k_i5N) dX7_mark_10 ?_
  refine s_csi3 (pc := 11) (c_X7_inT (rng1_t (by decide) (by decide) (by decide))) ml_X7_64 ms_X7_in (by decide) (Nat.le_of_ble_eq_true rfl) dX7_mark_11 ?_
  refine s_if_neT (pc := 14) 19 dX7_mark_14 (by decide) ?_
  refine s_aload_n (pc := 19) 0 rfl rfl dX7_mark_19 ?_
  refine s_iload_n (pc := 20) 1 rfl rfl dX7_mark_20 ?_
  refine s_iconst (pc := 21) (k_i0N) dX7_mark_21 ?_
  refine s_cvi2 (pc := 22) (c_X7_of hA (by omega) (by decide)) ml_X7_126 mw_X7_of rfl (by decide) (Nat.le_of_ble_eq_true rfl) dX7_mark_22 ?_
  refine s_iload_n (pc := 25) 2 rfl rfl dX7_mark_25 ?_
  refine s_csi2 (pc := 26) (c_X7_isOf (hO.2 i hi).1 (by decide)) ml_X7_168 ms_X7_isOf (by decide) (Nat.le_of_ble_eq_true rfl) dX7_mark_26 ?_
  refine s_if_eqB (pc := 29) 41 dX7_mark_29 (by decide) (fun c_29 => ?_) (fun c_29 => ?_)
  · exfalso; omega
  · refine s_aload_n (pc := 32) 0 rfl rfl dX7_mark_32 ?_
    refine s_iload_n (pc := 33) 1 rfl rfl dX7_mark_33 ?_
    refine s_iload_n (pc := 34) 2 rfl rfl dX7_mark_34 ?_
    refine s_cvi2 (pc := 35) (c_X7_markOf_2 hA hO hi hk) ml_X7_171 mw_X7_markOf rfl (by decide) (Nat.le_of_ble_eq_true rfl) dX7_mark_35 ?_
    refine s_goto (pc := 38) 46 dX7_mark_38 (by decide) ?_
    refine s_iret (pc := 46) dX7_mark_46 (PostE.of hp ?_ ?_)
    · rfl
    · rfl

set_option maxRecDepth 20000 in
theorem c_X7_markOf_3 {i : Nat} {a : Nat → Nat} {h : Hp} (hA : RM a h) (hO : OkA a) (hi : i < a 0) : CT 6 yX7_markOf cX7_markOf 7 (some .int) [.ref 50, .int (nI i), .int (nI 3)] h (some (.int (nI (markN a i 3)))) (h) := by
  obtain ⟨⟨o0, o1, o2, o3, o4, o5, o6⟩, os⟩ := id hO
  have o64 := hO.in64
  obtain ⟨s0, s1, s2, s3, s4, s5, s6, s7⟩ := os i hi
  refine CT.of (own := RX7) rfl (by decide) (ro_i _) [.ref 50, .int (nI i), .int (nI 3), .null, .null, .null, .null] rfl (Nat.le_of_ble_eq_true rfl) (fun E hp => ?_)
  refine s_aload_n (pc := 0) 0 rfl rfl dX7_markOf_0 ?_
  refine s_iload_n (pc := 1) 1 rfl rfl dX7_markOf_1 ?_
  refine s_cvi1 (pc := 2) (c_X7_ageNow hA hO hi) ml_X7_139 mw_X7_ageNow rfl (by decide) (Nat.le_of_ble_eq_true rfl) dX7_markOf_2 ?_
  refine s_istore_n (pc := 5) 3 rfl (by decide) rfl dX7_markOf_5 ?_
  refine s_aload_n (pc := 6) 0 rfl rfl dX7_markOf_6 ?_
  refine s_getr (pc := 7) (b := 56) fl_X7_25 rfl rfl rfl dX7_markOf_7 ?_
  refine s_iconst (pc := 10) (k_i1N) dX7_markOf_10 ?_
  refine s_ialdN (pc := 11) (_) rfl rfl (by omega) (hA _ (by omega)) dX7_markOf_11 ?_
  refine s_aload_n (pc := 12) 0 rfl rfl dX7_markOf_12 ?_
  refine s_iload_n (pc := 13) 1 rfl rfl dX7_markOf_13 ?_
  refine s_iconst (pc := 14) (k_i1N) dX7_markOf_14 ?_
  refine s_cvi2 (pc := 15) (c_X7_of hA (by omega) (by decide)) ml_X7_126 mw_X7_of rfl (by decide) (Nat.le_of_ble_eq_true rfl) dX7_markOf_15 ?_
  refine s_csi2 (pc := 18) (c_X7_oldIn (by omega) (by omega)) ml_X7_129 ms_X7_oldIn (by decide) (Nat.le_of_ble_eq_true rfl) dX7_markOf_18 ?_
  refine s_istore (pc := 21) (by decide) rfl dX7_markOf_21 ?_
  refine s_iconst (pc := 23) (k_i0N) dX7_markOf_23 ?_
  refine s_istore (pc := 24) (by decide) rfl dX7_markOf_24 ?_
  refine s_iload_n (pc := 26) 2 rfl rfl dX7_markOf_26 ?_
  refine s_tabIn (pc := 27) 92 dX7_markOf_27 (by decide) (by decide) (off := 65) (by decide) (by decide) ?_
  refine s_iconst (pc := 92) (k_i0N) dX7_markOf_92 ?_
  refine s_istore (pc := 93) (by decide) rfl dX7_markOf_93 ?_
  suffices lp_95 : ∀ k, k ≤ a 0 → WW E cX7_markOf RX7 7 _ 95 [.ref 50, .int (nI i), .int (nI 3), .int (nI (ageN a i (a 1))), .int (nI (a 1 - sh a i 1)), .int (nI (cnt k (fun j => decide (¬ j = i) && aheadNow a j i))), .int (nI k)] (h) [] from lp_95 (0) (by omega)
  refine lpi (a 0) (fun k hk_k ih_95 => ?_)
  refine s_iload (pc := 95) rfl dX7_markOf_95 ?_
  refine s_aload_n (pc := 97) 0 rfl rfl dX7_markOf_97 ?_
  refine s_getr (pc := 98) (b := 56) fl_X7_25 rfl rfl rfl dX7_markOf_98 ?_
  refine s_iconst (pc := 101) (k_i0N) dX7_markOf_101 ?_
  refine s_ialdN (pc := 102) (_) rfl rfl (by omega) (hA _ (by omega)) dX7_markOf_102 ?_
  refine s_icmp_geN (pc := 103) (by omega) (by omega) 138 dX7_markOf_103 (by decide) (fun c_103 => ?_) (fun c_103 => ?_)
  · obtain rfl : k = a 0 := by omega
    refine s_iload (pc := 138) rfl dX7_markOf_138 ?_
    refine s_iret (pc := 140) dX7_markOf_140 (PostE.of hp ?_ ?_)
    · exact retn rfl
    · rfl
  · refine s_iload (pc := 106) rfl dX7_markOf_106 ?_
    refine s_iload (pc := 108) rfl dX7_markOf_108 ?_
    refine s_iload_n (pc := 110) 1 rfl rfl dX7_markOf_110 ?_
    refine s_icmp_eqN (pc := 111) (by omega) (by omega) 128 dX7_markOf_111 (by decide) (fun c_111 => ?_) (fun c_111 => ?_)
    · refine s_iconst (pc := 128) (k_i0N) dX7_markOf_128 ?_
      refine s_iaddN (pc := 129) dX7_markOf_129 ?_
      first | rw [cnt_t (p := (fun j => decide (¬ j = i) && aheadNow a j i)) (by simp only [Bool.and_eq_true, decide_eq_true_eq]; exact ⟨c_111, c_121⟩)] | rw [cnt_f (p := (fun j => decide (¬ j = i) && aheadNow a j i)) (by simp only [Bool.and_eq_true, decide_eq_true_eq]; exact fun q => c_121 q.2)] | rw [cnt_f (p := (fun j => decide (¬ j = i) && aheadNow a j i)) (by simp only [Bool.and_eq_true, decide_eq_true_eq]; exact fun q => q.1 c_111)]
      refine s_istore (pc := 130) (by decide) rfl dX7_markOf_130 ?_
      refine s_iincN (pc := 132) rfl (by decide) rfl dX7_markOf_132 ?_
      refine s_goto (pc := 135) 95 dX7_markOf_135 (by decide) ?_
      exact ih_95 (by omega)
    · refine s_aload_n (pc := 114) 0 rfl rfl dX7_markOf_114 ?_
      refine s_iload (pc := 115) rfl dX7_markOf_115 ?_
      refine s_iload_n (pc := 117) 1 rfl rfl dX7_markOf_117 ?_
      refine s_cvi2 (pc := 118) (c_X7_isAhead hA hO (by omega) hi) ml_X7_165 mw_X7_isAhead rfl (by decide) (Nat.le_of_ble_eq_true rfl) dX7_markOf_118 ?_
      refine s_if_eqB (pc := 121) 128 dX7_markOf_121 (by decide) (fun c_121 => ?_) (fun c_121 => ?_)
      · refine s_iconst (pc := 128) (k_i0N) dX7_markOf_128 ?_
        refine s_iaddN (pc := 129) dX7_markOf_129 ?_
        first | rw [cnt_t (p := (fun j => decide (¬ j = i) && aheadNow a j i)) (by simp only [Bool.and_eq_true, decide_eq_true_eq]; exact ⟨c_111, c_121⟩)] | rw [cnt_f (p := (fun j => decide (¬ j = i) && aheadNow a j i)) (by simp only [Bool.and_eq_true, decide_eq_true_eq]; exact fun q => c_121 q.2)] | rw [cnt_f (p := (fun j => decide (¬ j = i) && aheadNow a j i)) (by simp only [Bool.and_eq_true, decide_eq_true_eq]; exact fun q => q.1 c_111)]
        refine s_istore (pc := 130) (by decide) rfl dX7_markOf_130 ?_
        refine s_iincN (pc := 132) rfl (by decide) rfl dX7_markOf_132 ?_
        refine s_goto (pc := 135) 95 dX7_markOf_135 (by decide) ?_
        exact ih_95 (by omega)
      · refine s_iconst (pc := 124) (k_i1N) dX7_markOf_124 ?_
        refine s_goto (pc := 125) 129 dX7_markOf_125 (by decide) ?_
        refine s_iaddN (pc := 129) dX7_markOf_129 ?_
        first | rw [cnt_t (p := (fun j => decide (¬ j = i) && aheadNow a j i)) (by simp only [Bool.and_eq_true, decide_eq_true_eq]; exact ⟨c_111, c_121⟩)] | rw [cnt_f (p := (fun j => decide (¬ j = i) && aheadNow a j i)) (by simp only [Bool.and_eq_true, decide_eq_true_eq]; exact fun q => c_121 q.2)] | rw [cnt_f (p := (fun j => decide (¬ j = i) && aheadNow a j i)) (by simp only [Bool.and_eq_true, decide_eq_true_eq]; exact fun q => q.1 c_111)]
        refine s_istore (pc := 130) (by decide) rfl dX7_markOf_130 ?_
        refine s_iincN (pc := 132) rfl (by decide) rfl dX7_markOf_132 ?_
        refine s_goto (pc := 135) 95 dX7_markOf_135 (by decide) ?_
        exact ih_95 (by omega)

set_option maxRecDepth 20000 in
theorem c_X7_markO3 {i : Nat} {a : Nat → Nat} {h : Hp} (hA : RM a h) (hO : OkA a) (hi : i < a 0) (hk : sh a i 0 = 3 ∨ sh a i 0 = 5) : CT 7 yX7_mark cX7_mark 3 (some .int) [.ref 50, .int (nI i), .int (nI 3)] h (some (.int (nI (markN a i 3)))) (h) := by
  have o0 := hO.1.1
  refine CT.of (own := RX7) rfl (by decide) (ro_i _) [.ref 50, .int (nI i), .int (nI 3)] rfl (Nat.le_of_ble_eq_true rfl) (fun E hp => ?_)
  refine s_aload_n (pc := 0) 0 rfl rfl dX7_mark_0 ?_
  refine s_iload_n (pc := 1) 1 rfl rfl dX7_mark_1 ?_
  refine s_cvi1 (pc := 2) (c_X7_isShipT hA hO.1.1 hi) ml_X7_159 mw_X7_isShip rfl (by decide) (Nat.le_of_ble_eq_true rfl) dX7_mark_2 ?_
  refine s_if_eqT (pc := 5) 17 dX7_mark_5 (by decide) ?_
  refine s_iload_n (pc := 8) 2 rfl rfl dX7_mark_8 ?_
  refine s_iconst (pc := 9) (k_i1N) dX7_mark_9 ?_
  refine s_iconst (pc := 10) (k_i5N) dX7_mark_10 ?_
  refine s_csi3 (pc := 11) (c_X7_inT (rng1_t (by decide) (by decide) (by decide))) ml_X7_64 ms_X7_in (by decide) (Nat.le_of_ble_eq_true rfl) dX7_mark_11 ?_
  refine s_if_neT (pc := 14) 19 dX7_mark_14 (by decide) ?_
  refine s_aload_n (pc := 19) 0 rfl rfl dX7_mark_19 ?_
  refine s_iload_n (pc := 20) 1 rfl rfl dX7_mark_20 ?_
  refine s_iconst (pc := 21) (k_i0N) dX7_mark_21 ?_
  refine s_cvi2 (pc := 22) (c_X7_of hA (by omega) (by decide)) ml_X7_126 mw_X7_of rfl (by decide) (Nat.le_of_ble_eq_true rfl) dX7_mark_22 ?_
  refine s_iload_n (pc := 25) 2 rfl rfl dX7_mark_25 ?_
  refine s_csi2 (pc := 26) (c_X7_isOf (hO.2 i hi).1 (by decide)) ml_X7_168 ms_X7_isOf (by decide) (Nat.le_of_ble_eq_true rfl) dX7_mark_26 ?_
  refine s_if_eqB (pc := 29) 41 dX7_mark_29 (by decide) (fun c_29 => ?_) (fun c_29 => ?_)
  · exfalso; omega
  · refine s_aload_n (pc := 32) 0 rfl rfl dX7_mark_32 ?_
    refine s_iload_n (pc := 33) 1 rfl rfl dX7_mark_33 ?_
    refine s_iload_n (pc := 34) 2 rfl rfl dX7_mark_34 ?_
    refine s_cvi2 (pc := 35) (c_X7_markOf_3 hA hO hi) ml_X7_171 mw_X7_markOf rfl (by decide) (Nat.le_of_ble_eq_true rfl) dX7_mark_35 ?_
    refine s_goto (pc := 38) 46 dX7_mark_38 (by decide) ?_
    refine s_iret (pc := 46) dX7_mark_46 (PostE.of hp ?_ ?_)
    · rfl
    · rfl

set_option maxRecDepth 20000 in
theorem c_X7_markOf_4 {i : Nat} {a : Nat → Nat} {h : Hp} (hA : RM a h) (hO : OkA a) (hi : i < a 0) (hk : sh a i 0 = 4) : CT 6 yX7_markOf cX7_markOf 7 (some .int) [.ref 50, .int (nI i), .int (nI 4)] h (some (.int (nI (markN a i 4)))) (h) := by
  obtain ⟨⟨o0, o1, o2, o3, o4, o5, o6⟩, os⟩ := id hO
  have o64 := hO.in64
  obtain ⟨s0, s1, s2, s3, s4, s5, s6, s7⟩ := os i hi
  have ge : 5 ≤ ageN a i (a 1) := by unfold ageN agedN; (repeat' split) <;> omega
  refine CT.of (own := RX7) rfl (by decide) (ro_i _) [.ref 50, .int (nI i), .int (nI 4), .null, .null, .null, .null] rfl (Nat.le_of_ble_eq_true rfl) (fun E hp => ?_)
  refine s_aload_n (pc := 0) 0 rfl rfl dX7_markOf_0 ?_
  refine s_iload_n (pc := 1) 1 rfl rfl dX7_markOf_1 ?_
  refine s_cvi1 (pc := 2) (c_X7_ageNow hA hO hi) ml_X7_139 mw_X7_ageNow rfl (by decide) (Nat.le_of_ble_eq_true rfl) dX7_markOf_2 ?_
  refine s_istore_n (pc := 5) 3 rfl (by decide) rfl dX7_markOf_5 ?_
  refine s_aload_n (pc := 6) 0 rfl rfl dX7_markOf_6 ?_
  refine s_getr (pc := 7) (b := 56) fl_X7_25 rfl rfl rfl dX7_markOf_7 ?_
  refine s_iconst (pc := 10) (k_i1N) dX7_markOf_10 ?_
  refine s_ialdN (pc := 11) (_) rfl rfl (by omega) (hA _ (by omega)) dX7_markOf_11 ?_
  refine s_aload_n (pc := 12) 0 rfl rfl dX7_markOf_12 ?_
  refine s_iload_n (pc := 13) 1 rfl rfl dX7_markOf_13 ?_
  refine s_iconst (pc := 14) (k_i1N) dX7_markOf_14 ?_
  refine s_cvi2 (pc := 15) (c_X7_of hA (by omega) (by decide)) ml_X7_126 mw_X7_of rfl (by decide) (Nat.le_of_ble_eq_true rfl) dX7_markOf_15 ?_
  refine s_csi2 (pc := 18) (c_X7_oldIn (by omega) (by omega)) ml_X7_129 ms_X7_oldIn (by decide) (Nat.le_of_ble_eq_true rfl) dX7_markOf_18 ?_
  refine s_istore (pc := 21) (by decide) rfl dX7_markOf_21 ?_
  refine s_iconst (pc := 23) (k_i0N) dX7_markOf_23 ?_
  refine s_istore (pc := 24) (by decide) rfl dX7_markOf_24 ?_
  refine s_iload_n (pc := 26) 2 rfl rfl dX7_markOf_26 ?_
  refine s_tabIn (pc := 27) 141 dX7_markOf_27 (by decide) (by decide) (off := 114) (by decide) (by decide) ?_
  refine s_iconst (pc := 141) (k_i0N) dX7_markOf_141 ?_
  refine s_istore (pc := 142) (by decide) rfl dX7_markOf_142 ?_
  suffices lp_144 : ∀ k, k ≤ a 0 → WW E cX7_markOf RX7 7 _ 144 [.ref 50, .int (nI i), .int (nI 4), .int (nI (ageN a i (a 1))), .int (nI (a 1 - sh a i 1)), .int (nI (cnt k (fun j => decide (¬ j = i) && aheadNow a i j && !aheadN a i (ageN a i (a 1) - 5) j (ageN a j (a 1))))), .int (nI k)] (h) [] from lp_144 (0) (by omega)
  refine lpi (a 0) (fun k hk_k ih_144 => ?_)
  refine s_iload (pc := 144) rfl dX7_markOf_144 ?_
  refine s_aload_n (pc := 146) 0 rfl rfl dX7_markOf_146 ?_
  refine s_getr (pc := 147) (b := 56) fl_X7_25 rfl rfl rfl dX7_markOf_147 ?_
  refine s_iconst (pc := 150) (k_i0N) dX7_markOf_150 ?_
  refine s_ialdN (pc := 151) (_) rfl rfl (by omega) (hA _ (by omega)) dX7_markOf_151 ?_
  refine s_icmp_geN (pc := 152) (by omega) (by omega) 206 dX7_markOf_152 (by decide) (fun c_152 => ?_) (fun c_152 => ?_)
  · obtain rfl : k = a 0 := by omega
    refine s_iload (pc := 206) rfl dX7_markOf_206 ?_
    refine s_iret (pc := 208) dX7_markOf_208 (PostE.of hp ?_ ?_)
    · exact retn rfl
    · rfl
  · refine s_iload (pc := 155) rfl dX7_markOf_155 ?_
    refine s_iload (pc := 157) rfl dX7_markOf_157 ?_
    refine s_iload_n (pc := 159) 1 rfl rfl dX7_markOf_159 ?_
    refine s_icmp_eqN (pc := 160) (by omega) (by omega) 196 dX7_markOf_160 (by decide) (fun c_160 => ?_) (fun c_160 => ?_)
    · refine s_iconst (pc := 196) (k_i0N) dX7_markOf_196 ?_
      refine s_iaddN (pc := 197) dX7_markOf_197 ?_
      first | rw [cnt_t (p := (fun j => decide (¬ j = i) && aheadNow a i j && !aheadN a i (ageN a i (a 1) - 5) j (ageN a j (a 1)))) (by simp only [Bool.and_eq_true, decide_eq_true_eq]; exact ⟨⟨c_160, c_170⟩, by rw [Bool.not_eq_true']; exact Bool.not_eq_true _ ▸ c_189⟩)] | rw [cnt_f (p := (fun j => decide (¬ j = i) && aheadNow a i j && !aheadN a i (ageN a i (a 1) - 5) j (ageN a j (a 1)))) (by simp only [Bool.and_eq_true, decide_eq_true_eq]; exact fun q => by have := q.2; rw [c_189] at this; exact absurd this (by decide))] | rw [cnt_f (p := (fun j => decide (¬ j = i) && aheadNow a i j && !aheadN a i (ageN a i (a 1) - 5) j (ageN a j (a 1)))) (by simp only [Bool.and_eq_true, decide_eq_true_eq]; exact fun q => c_170 q.1.2)] | rw [cnt_f (p := (fun j => decide (¬ j = i) && aheadNow a i j && !aheadN a i (ageN a i (a 1) - 5) j (ageN a j (a 1)))) (by simp only [Bool.and_eq_true, decide_eq_true_eq]; exact fun q => q.1.1 c_160)]
      refine s_istore (pc := 198) (by decide) rfl dX7_markOf_198 ?_
      refine s_iincN (pc := 200) rfl (by decide) rfl dX7_markOf_200 ?_
      refine s_goto (pc := 203) 144 dX7_markOf_203 (by decide) ?_
      exact ih_144 (by omega)
    · refine s_aload_n (pc := 163) 0 rfl rfl dX7_markOf_163 ?_
      refine s_iload_n (pc := 164) 1 rfl rfl dX7_markOf_164 ?_
      refine s_iload (pc := 165) rfl dX7_markOf_165 ?_
      refine s_cvi2 (pc := 167) (c_X7_isAhead hA hO hi (by omega)) ml_X7_165 mw_X7_isAhead rfl (by decide) (Nat.le_of_ble_eq_true rfl) dX7_markOf_167 ?_
      refine s_if_eqB (pc := 170) 196 dX7_markOf_170 (by decide) (fun c_170 => ?_) (fun c_170 => ?_)
      · refine s_iconst (pc := 196) (k_i0N) dX7_markOf_196 ?_
        refine s_iaddN (pc := 197) dX7_markOf_197 ?_
        first | rw [cnt_t (p := (fun j => decide (¬ j = i) && aheadNow a i j && !aheadN a i (ageN a i (a 1) - 5) j (ageN a j (a 1)))) (by simp only [Bool.and_eq_true, decide_eq_true_eq]; exact ⟨⟨c_160, c_170⟩, by rw [Bool.not_eq_true']; exact Bool.not_eq_true _ ▸ c_189⟩)] | rw [cnt_f (p := (fun j => decide (¬ j = i) && aheadNow a i j && !aheadN a i (ageN a i (a 1) - 5) j (ageN a j (a 1)))) (by simp only [Bool.and_eq_true, decide_eq_true_eq]; exact fun q => by have := q.2; rw [c_189] at this; exact absurd this (by decide))] | rw [cnt_f (p := (fun j => decide (¬ j = i) && aheadNow a i j && !aheadN a i (ageN a i (a 1) - 5) j (ageN a j (a 1)))) (by simp only [Bool.and_eq_true, decide_eq_true_eq]; exact fun q => c_170 q.1.2)] | rw [cnt_f (p := (fun j => decide (¬ j = i) && aheadNow a i j && !aheadN a i (ageN a i (a 1) - 5) j (ageN a j (a 1)))) (by simp only [Bool.and_eq_true, decide_eq_true_eq]; exact fun q => q.1.1 c_160)]
        refine s_istore (pc := 198) (by decide) rfl dX7_markOf_198 ?_
        refine s_iincN (pc := 200) rfl (by decide) rfl dX7_markOf_200 ?_
        refine s_goto (pc := 203) 144 dX7_markOf_203 (by decide) ?_
        exact ih_144 (by omega)
      · refine s_aload_n (pc := 173) 0 rfl rfl dX7_markOf_173 ?_
        refine s_iload_n (pc := 174) 1 rfl rfl dX7_markOf_174 ?_
        refine s_iload_n (pc := 175) 3 rfl rfl dX7_markOf_175 ?_
        refine s_iconst (pc := 176) (k_i5N) dX7_markOf_176 ?_
        refine s_isubN (pc := 177) (by omega) dX7_markOf_177 ?_
        refine s_iload (pc := 178) rfl dX7_markOf_178 ?_
        refine s_aload_n (pc := 180) 0 rfl rfl dX7_markOf_180 ?_
        refine s_iload (pc := 181) rfl dX7_markOf_181 ?_
        refine s_cvi1 (pc := 183) (c_X7_ageNow hA hO (by omega)) ml_X7_139 mw_X7_ageNow rfl (by decide) (Nat.le_of_ble_eq_true rfl) dX7_markOf_183 ?_
        refine s_cvi4 (pc := 186) (c_X7_isAheadBy hA hO hi (by omega) (by have := age_lt hO hi (y := a 1) (by omega); omega) (Nat.lt_trans (age_lt hO (by omega) (by omega)) (by decide))) ml_X7_142 mw_X7_isAheadBy rfl (by decide) (Nat.le_of_ble_eq_true rfl) dX7_markOf_186 ?_
        refine s_if_neB (pc := 189) 196 dX7_markOf_189 (by decide) (fun c_189 => ?_) (fun c_189 => ?_)
        · refine s_iconst (pc := 196) (k_i0N) dX7_markOf_196 ?_
          refine s_iaddN (pc := 197) dX7_markOf_197 ?_
          first | rw [cnt_t (p := (fun j => decide (¬ j = i) && aheadNow a i j && !aheadN a i (ageN a i (a 1) - 5) j (ageN a j (a 1)))) (by simp only [Bool.and_eq_true, decide_eq_true_eq]; exact ⟨⟨c_160, c_170⟩, by rw [Bool.not_eq_true']; exact Bool.not_eq_true _ ▸ c_189⟩)] | rw [cnt_f (p := (fun j => decide (¬ j = i) && aheadNow a i j && !aheadN a i (ageN a i (a 1) - 5) j (ageN a j (a 1)))) (by simp only [Bool.and_eq_true, decide_eq_true_eq]; exact fun q => by have := q.2; rw [c_189] at this; exact absurd this (by decide))] | rw [cnt_f (p := (fun j => decide (¬ j = i) && aheadNow a i j && !aheadN a i (ageN a i (a 1) - 5) j (ageN a j (a 1)))) (by simp only [Bool.and_eq_true, decide_eq_true_eq]; exact fun q => c_170 q.1.2)] | rw [cnt_f (p := (fun j => decide (¬ j = i) && aheadNow a i j && !aheadN a i (ageN a i (a 1) - 5) j (ageN a j (a 1)))) (by simp only [Bool.and_eq_true, decide_eq_true_eq]; exact fun q => q.1.1 c_160)]
          refine s_istore (pc := 198) (by decide) rfl dX7_markOf_198 ?_
          refine s_iincN (pc := 200) rfl (by decide) rfl dX7_markOf_200 ?_
          refine s_goto (pc := 203) 144 dX7_markOf_203 (by decide) ?_
          exact ih_144 (by omega)
        · refine s_iconst (pc := 192) (k_i1N) dX7_markOf_192 ?_
          refine s_goto (pc := 193) 197 dX7_markOf_193 (by decide) ?_
          refine s_iaddN (pc := 197) dX7_markOf_197 ?_
          first | rw [cnt_t (p := (fun j => decide (¬ j = i) && aheadNow a i j && !aheadN a i (ageN a i (a 1) - 5) j (ageN a j (a 1)))) (by simp only [Bool.and_eq_true, decide_eq_true_eq]; exact ⟨⟨c_160, c_170⟩, by rw [Bool.not_eq_true']; exact Bool.not_eq_true _ ▸ c_189⟩)] | rw [cnt_f (p := (fun j => decide (¬ j = i) && aheadNow a i j && !aheadN a i (ageN a i (a 1) - 5) j (ageN a j (a 1)))) (by simp only [Bool.and_eq_true, decide_eq_true_eq]; exact fun q => by have := q.2; rw [c_189] at this; exact absurd this (by decide))] | rw [cnt_f (p := (fun j => decide (¬ j = i) && aheadNow a i j && !aheadN a i (ageN a i (a 1) - 5) j (ageN a j (a 1)))) (by simp only [Bool.and_eq_true, decide_eq_true_eq]; exact fun q => c_170 q.1.2)] | rw [cnt_f (p := (fun j => decide (¬ j = i) && aheadNow a i j && !aheadN a i (ageN a i (a 1) - 5) j (ageN a j (a 1)))) (by simp only [Bool.and_eq_true, decide_eq_true_eq]; exact fun q => q.1.1 c_160)]
          refine s_istore (pc := 198) (by decide) rfl dX7_markOf_198 ?_
          refine s_iincN (pc := 200) rfl (by decide) rfl dX7_markOf_200 ?_
          refine s_goto (pc := 203) 144 dX7_markOf_203 (by decide) ?_
          exact ih_144 (by omega)

set_option maxRecDepth 20000 in
theorem c_X7_markO4 {i : Nat} {a : Nat → Nat} {h : Hp} (hA : RM a h) (hO : OkA a) (hi : i < a 0) (hk : sh a i 0 = 4) : CT 7 yX7_mark cX7_mark 3 (some .int) [.ref 50, .int (nI i), .int (nI 4)] h (some (.int (nI (markN a i 4)))) (h) := by
  have o0 := hO.1.1
  refine CT.of (own := RX7) rfl (by decide) (ro_i _) [.ref 50, .int (nI i), .int (nI 4)] rfl (Nat.le_of_ble_eq_true rfl) (fun E hp => ?_)
  refine s_aload_n (pc := 0) 0 rfl rfl dX7_mark_0 ?_
  refine s_iload_n (pc := 1) 1 rfl rfl dX7_mark_1 ?_
  refine s_cvi1 (pc := 2) (c_X7_isShipT hA hO.1.1 hi) ml_X7_159 mw_X7_isShip rfl (by decide) (Nat.le_of_ble_eq_true rfl) dX7_mark_2 ?_
  refine s_if_eqT (pc := 5) 17 dX7_mark_5 (by decide) ?_
  refine s_iload_n (pc := 8) 2 rfl rfl dX7_mark_8 ?_
  refine s_iconst (pc := 9) (k_i1N) dX7_mark_9 ?_
  refine s_iconst (pc := 10) (k_i5N) dX7_mark_10 ?_
  refine s_csi3 (pc := 11) (c_X7_inT (rng1_t (by decide) (by decide) (by decide))) ml_X7_64 ms_X7_in (by decide) (Nat.le_of_ble_eq_true rfl) dX7_mark_11 ?_
  refine s_if_neT (pc := 14) 19 dX7_mark_14 (by decide) ?_
  refine s_aload_n (pc := 19) 0 rfl rfl dX7_mark_19 ?_
  refine s_iload_n (pc := 20) 1 rfl rfl dX7_mark_20 ?_
  refine s_iconst (pc := 21) (k_i0N) dX7_mark_21 ?_
  refine s_cvi2 (pc := 22) (c_X7_of hA (by omega) (by decide)) ml_X7_126 mw_X7_of rfl (by decide) (Nat.le_of_ble_eq_true rfl) dX7_mark_22 ?_
  refine s_iload_n (pc := 25) 2 rfl rfl dX7_mark_25 ?_
  refine s_csi2 (pc := 26) (c_X7_isOf (hO.2 i hi).1 (by decide)) ml_X7_168 ms_X7_isOf (by decide) (Nat.le_of_ble_eq_true rfl) dX7_mark_26 ?_
  refine s_if_eqB (pc := 29) 41 dX7_mark_29 (by decide) (fun c_29 => ?_) (fun c_29 => ?_)
  · exfalso; omega
  · refine s_aload_n (pc := 32) 0 rfl rfl dX7_mark_32 ?_
    refine s_iload_n (pc := 33) 1 rfl rfl dX7_mark_33 ?_
    refine s_iload_n (pc := 34) 2 rfl rfl dX7_mark_34 ?_
    refine s_cvi2 (pc := 35) (c_X7_markOf_4 hA hO hi hk) ml_X7_171 mw_X7_markOf rfl (by decide) (Nat.le_of_ble_eq_true rfl) dX7_mark_35 ?_
    refine s_goto (pc := 38) 46 dX7_mark_38 (by decide) ?_
    refine s_iret (pc := 46) dX7_mark_46 (PostE.of hp ?_ ?_)
    · rfl
    · rfl

set_option maxRecDepth 20000 in
theorem c_X7_markOf_5 {i : Nat} {a : Nat → Nat} {h : Hp} (hA : RM a h) (hO : OkA a) (hi : i < a 0) : CT 6 yX7_markOf cX7_markOf 7 (some .int) [.ref 50, .int (nI i), .int (nI 5)] h (some (.int (nI (markN a i 5)))) (h) := by
  obtain ⟨⟨o0, o1, o2, o3, o4, o5, o6⟩, os⟩ := id hO
  have o64 := hO.in64
  obtain ⟨s0, s1, s2, s3, s4, s5, s6, s7⟩ := os i hi
  refine CT.of (own := RX7) rfl (by decide) (ro_i _) [.ref 50, .int (nI i), .int (nI 5), .null, .null, .null, .null] rfl (Nat.le_of_ble_eq_true rfl) (fun E hp => ?_)
  refine s_aload_n (pc := 0) 0 rfl rfl dX7_markOf_0 ?_
  refine s_iload_n (pc := 1) 1 rfl rfl dX7_markOf_1 ?_
  refine s_cvi1 (pc := 2) (c_X7_ageNow hA hO hi) ml_X7_139 mw_X7_ageNow rfl (by decide) (Nat.le_of_ble_eq_true rfl) dX7_markOf_2 ?_
  refine s_istore_n (pc := 5) 3 rfl (by decide) rfl dX7_markOf_5 ?_
  refine s_aload_n (pc := 6) 0 rfl rfl dX7_markOf_6 ?_
  refine s_getr (pc := 7) (b := 56) fl_X7_25 rfl rfl rfl dX7_markOf_7 ?_
  refine s_iconst (pc := 10) (k_i1N) dX7_markOf_10 ?_
  refine s_ialdN (pc := 11) (_) rfl rfl (by omega) (hA _ (by omega)) dX7_markOf_11 ?_
  refine s_aload_n (pc := 12) 0 rfl rfl dX7_markOf_12 ?_
  refine s_iload_n (pc := 13) 1 rfl rfl dX7_markOf_13 ?_
  refine s_iconst (pc := 14) (k_i1N) dX7_markOf_14 ?_
  refine s_cvi2 (pc := 15) (c_X7_of hA (by omega) (by decide)) ml_X7_126 mw_X7_of rfl (by decide) (Nat.le_of_ble_eq_true rfl) dX7_markOf_15 ?_
  refine s_csi2 (pc := 18) (c_X7_oldIn (by omega) (by omega)) ml_X7_129 ms_X7_oldIn (by decide) (Nat.le_of_ble_eq_true rfl) dX7_markOf_18 ?_
  refine s_istore (pc := 21) (by decide) rfl dX7_markOf_21 ?_
  refine s_iconst (pc := 23) (k_i0N) dX7_markOf_23 ?_
  refine s_istore (pc := 24) (by decide) rfl dX7_markOf_24 ?_
  refine s_iload_n (pc := 26) 2 rfl rfl dX7_markOf_26 ?_
  refine s_tabIn (pc := 27) 84 dX7_markOf_27 (by decide) (by decide) (off := 57) (by decide) (by decide) ?_
  refine s_aload_n (pc := 84) 0 rfl rfl dX7_markOf_84 ?_
  refine s_iload_n (pc := 85) 1 rfl rfl dX7_markOf_85 ?_
  refine s_bipush (pc := 86) (k_b6N) dX7_markOf_86 ?_
  refine s_cvi2 (pc := 88) (c_X7_of hA (by omega) (by decide)) ml_X7_126 mw_X7_of rfl (by decide) (Nat.le_of_ble_eq_true rfl) dX7_markOf_88 ?_
  refine s_iret (pc := 91) dX7_markOf_91 (PostE.of hp ?_ ?_)
  · exact retn rfl
  · rfl

set_option maxRecDepth 20000 in
theorem c_X7_markO5 {i : Nat} {a : Nat → Nat} {h : Hp} (hA : RM a h) (hO : OkA a) (hi : i < a 0) (hk : sh a i 0 = 5) : CT 7 yX7_mark cX7_mark 3 (some .int) [.ref 50, .int (nI i), .int (nI 5)] h (some (.int (nI (markN a i 5)))) (h) := by
  have o0 := hO.1.1
  refine CT.of (own := RX7) rfl (by decide) (ro_i _) [.ref 50, .int (nI i), .int (nI 5)] rfl (Nat.le_of_ble_eq_true rfl) (fun E hp => ?_)
  refine s_aload_n (pc := 0) 0 rfl rfl dX7_mark_0 ?_
  refine s_iload_n (pc := 1) 1 rfl rfl dX7_mark_1 ?_
  refine s_cvi1 (pc := 2) (c_X7_isShipT hA hO.1.1 hi) ml_X7_159 mw_X7_isShip rfl (by decide) (Nat.le_of_ble_eq_true rfl) dX7_mark_2 ?_
  refine s_if_eqT (pc := 5) 17 dX7_mark_5 (by decide) ?_
  refine s_iload_n (pc := 8) 2 rfl rfl dX7_mark_8 ?_
  refine s_iconst (pc := 9) (k_i1N) dX7_mark_9 ?_
  refine s_iconst (pc := 10) (k_i5N) dX7_mark_10 ?_
  refine s_csi3 (pc := 11) (c_X7_inT (rng1_t (by decide) (by decide) (by decide))) ml_X7_64 ms_X7_in (by decide) (Nat.le_of_ble_eq_true rfl) dX7_mark_11 ?_
  refine s_if_neT (pc := 14) 19 dX7_mark_14 (by decide) ?_
  refine s_aload_n (pc := 19) 0 rfl rfl dX7_mark_19 ?_
  refine s_iload_n (pc := 20) 1 rfl rfl dX7_mark_20 ?_
  refine s_iconst (pc := 21) (k_i0N) dX7_mark_21 ?_
  refine s_cvi2 (pc := 22) (c_X7_of hA (by omega) (by decide)) ml_X7_126 mw_X7_of rfl (by decide) (Nat.le_of_ble_eq_true rfl) dX7_mark_22 ?_
  refine s_iload_n (pc := 25) 2 rfl rfl dX7_mark_25 ?_
  refine s_csi2 (pc := 26) (c_X7_isOf (hO.2 i hi).1 (by decide)) ml_X7_168 ms_X7_isOf (by decide) (Nat.le_of_ble_eq_true rfl) dX7_mark_26 ?_
  refine s_if_eqB (pc := 29) 41 dX7_mark_29 (by decide) (fun c_29 => ?_) (fun c_29 => ?_)
  · exfalso; omega
  · refine s_aload_n (pc := 32) 0 rfl rfl dX7_mark_32 ?_
    refine s_iload_n (pc := 33) 1 rfl rfl dX7_mark_33 ?_
    refine s_iload_n (pc := 34) 2 rfl rfl dX7_mark_34 ?_
    refine s_cvi2 (pc := 35) (c_X7_markOf_5 hA hO hi) ml_X7_171 mw_X7_markOf rfl (by decide) (Nat.le_of_ble_eq_true rfl) dX7_mark_35 ?_
    refine s_goto (pc := 38) 46 dX7_mark_38 (by decide) ?_
    refine s_iret (pc := 46) dX7_mark_46 (PostE.of hp ?_ ?_)
    · rfl
    · rfl

set_option maxRecDepth 20000 in
theorem c_X7_hoursB {s  : Int32} {a : Nat → Nat} {h : Hp} (hA : RM a h) (hO : OkA a) (hb : s < 0 ∨ nI (a 0) ≤ s) : CT 3 yX7_hours cX7_hours 2 (some .int) [.ref 50, .int s] h (some (.int (-1))) (h) := by
  refine CT.of (own := RX7) rfl (by decide) (ro_i _) [.ref 50, .int s] rfl (Nat.le_of_ble_eq_true rfl) (fun E hp => ?_)
  refine s_aload_n (pc := 0) 0 rfl rfl dX7_hours_0 ?_
  refine s_iload_n (pc := 1) 1 rfl rfl dX7_hours_1 ?_
  refine s_cvi1 (pc := 2) (c_X7_isShipF hA hO.1.1 hb) ml_X7_159 mw_X7_isShip rfl (by decide) (Nat.le_of_ble_eq_true rfl) dX7_hours_2 ?_
  refine s_if_eqF (pc := 5) 24 dX7_hours_5 (by decide) ?_
  refine s_iconst (pc := 24) (k_im1) dX7_hours_24 ?_
  refine s_iret (pc := 25) dX7_hours_25 (PostE.of hp ?_ ?_)
  · rfl
  · rfl

set_option maxRecDepth 20000 in
theorem c_X7_hoursO {i : Nat} {a : Nat → Nat} {h : Hp} (hA : RM a h) (hO : OkA a) (hi : i < a 0) : CT 6 yX7_hours cX7_hours 2 (some .int) [.ref 50, .int (nI i)] h (some (.int (nI (1 + shiftN a i (a 5))))) (h) := by
  refine CT.of (own := RX7) rfl (by decide) (ro_i _) [.ref 50, .int (nI i)] rfl (Nat.le_of_ble_eq_true rfl) (fun E hp => ?_)
  refine s_aload_n (pc := 0) 0 rfl rfl dX7_hours_0 ?_
  refine s_iload_n (pc := 1) 1 rfl rfl dX7_hours_1 ?_
  refine s_cvi1 (pc := 2) (c_X7_isShipT hA hO.1.1 hi) ml_X7_159 mw_X7_isShip rfl (by decide) (Nat.le_of_ble_eq_true rfl) dX7_hours_2 ?_
  refine s_if_eqT (pc := 5) 24 dX7_hours_5 (by decide) ?_
  refine s_iconst (pc := 8) (k_i1N) dX7_hours_8 ?_
  refine s_aload_n (pc := 9) 0 rfl rfl dX7_hours_9 ?_
  refine s_iload_n (pc := 10) 1 rfl rfl dX7_hours_10 ?_
  refine s_aload_n (pc := 11) 0 rfl rfl dX7_hours_11 ?_
  refine s_getr (pc := 12) (b := 56) fl_X7_25 rfl rfl rfl dX7_hours_12 ?_
  refine s_iconst (pc := 15) (k_i5N) dX7_hours_15 ?_
  refine s_ialdN (pc := 16) (_) rfl rfl (by omega) (hA _ (by omega)) dX7_hours_16 ?_
  refine s_cvi2 (pc := 17) (c_X7_shiftedBy hA hO hi hO.1.2.2.2.2.2.1 hO.in64) ml_X7_174 mw_X7_shiftedBy rfl (by decide) (Nat.le_of_ble_eq_true rfl) dX7_hours_17 ?_
  refine s_iaddN (pc := 20) dX7_hours_20 ?_
  refine s_goto (pc := 21) 25 dX7_hours_21 (by decide) ?_
  refine s_iret (pc := 25) dX7_hours_25 (PostE.of hp ?_ ?_)
  · rfl
  · rfl

set_option maxRecDepth 20000 in
theorem c_X7_groundE {a : Nat → Nat} {h : Hp} (hA : RM a h) (hO : OkA a) (h0 : a 0 = 0) : CT 3 yX7_ground cX7_ground 3 (some .int) [.ref 50] h (some (.int (-4))) (h) := by
  refine CT.of (own := RX7) rfl (by decide) (ro_i _) [.ref 50, .null, .null] rfl (Nat.le_of_ble_eq_true rfl) (fun E hp => ?_)
  refine s_aload_n (pc := 0) 0 rfl rfl dX7_ground_0 ?_
  refine s_cvi0 (pc := 1) (c_X7_are hA hO.1.1) ml_X7_198 mw_X7_are rfl (by decide) (Nat.le_of_ble_eq_true rfl) dX7_ground_1 ?_
  refine s_if_neB (pc := 4) 10 dX7_ground_4 (by decide) (fun c_4 => ?_) (fun c_4 => ?_)
  · exfalso; omega
  · refine s_bipush (pc := 7) (k_bm4) dX7_ground_7 ?_
    refine s_iret (pc := 9) dX7_ground_9 (PostE.of hp ?_ ?_)
    · rfl
    · rfl

set_option maxRecDepth 20000 in
theorem c_X7_groundO {a : Nat → Nat} {h : Hp} (hA : RM a h) (hO : OkA a) (h0 : 0 < a 0) : CT 7 yX7_ground cX7_ground 3 (some .int) [.ref 50] h (some (.int (nI (grdN a)))) (ui h 50 11 (nI (sumU (a 0) (excN a)))) := by
  obtain ⟨⟨o0, o1, o2, o3, o4, o5, o6⟩, os⟩ := id hO
  have o64 := hO.in64
  refine CT.of (own := RX7) rfl (by decide) (ro_i _) [.ref 50, .null, .null] rfl (Nat.le_of_ble_eq_true rfl) (fun E hp => ?_)
  refine s_aload_n (pc := 0) 0 rfl rfl dX7_ground_0 ?_
  refine s_cvi0 (pc := 1) (c_X7_are hA hO.1.1) ml_X7_198 mw_X7_are rfl (by decide) (Nat.le_of_ble_eq_true rfl) dX7_ground_1 ?_
  refine s_if_neB (pc := 4) 10 dX7_ground_4 (by decide) (fun c_4 => ?_) (fun c_4 => ?_)
  · refine s_iconst (pc := 10) (k_i0N) dX7_ground_10 ?_
    refine s_istore_n (pc := 11) 1 rfl (by decide) rfl dX7_ground_11 ?_
    refine s_iconst (pc := 12) (k_i0N) dX7_ground_12 ?_
    refine s_istore_n (pc := 13) 2 rfl (by decide) rfl dX7_ground_13 ?_
    suffices lp_14 : ∀ k, k ≤ a 0 → WW E cX7_ground RX7 3 _ 14 [.ref 50, .int (nI (sumU k (excN a))), .int (nI k)] (h) [] from lp_14 (0) (by omega)
    refine lpi (a 0) (fun k hk_k ih_14 => ?_)
    refine s_iload_n (pc := 14) 2 rfl rfl dX7_ground_14 ?_
    refine s_aload_n (pc := 15) 0 rfl rfl dX7_ground_15 ?_
    refine s_getr (pc := 16) (b := 56) fl_X7_25 rfl rfl rfl dX7_ground_16 ?_
    refine s_iconst (pc := 19) (k_i0N) dX7_ground_19 ?_
    refine s_ialdN (pc := 20) (_) rfl rfl (by omega) (hA _ (by omega)) dX7_ground_20 ?_
    refine s_icmp_geN (pc := 21) (by omega) (by omega) 38 dX7_ground_21 (by decide) (fun c_21 => ?_) (fun c_21 => ?_)
    · obtain rfl : k = a 0 := by omega
      refine s_aload_n (pc := 38) 0 rfl rfl dX7_ground_38 ?_
      refine s_aload_n (pc := 39) 0 rfl rfl dX7_ground_39 ?_
      refine s_cvi0 (pc := 40) (c_X7_grounded hA hO) ml_X7_191 mw_X7_grounded rfl (by decide) (Nat.le_of_ble_eq_true rfl) dX7_ground_40 ?_
      refine s_iload_n (pc := 43) 1 rfl rfl dX7_ground_43 ?_
      refine s_cvi2 (pc := 44) (c_X7_tells) ml_X7_84 mw_X7_tells rfl (by decide) (Nat.le_of_ble_eq_true rfl) dX7_ground_44 ?_
      refine s_iret (pc := 47) dX7_ground_47 (PostE.of hp ?_ ?_)
      · rfl
      · rfl
    · refine s_iload_n (pc := 24) 1 rfl rfl dX7_ground_24 ?_
      refine s_aload_n (pc := 25) 0 rfl rfl dX7_ground_25 ?_
      refine s_iload_n (pc := 26) 2 rfl rfl dX7_ground_26 ?_
      refine s_cvi1 (pc := 27) (c_X7_excess hA hO (by omega)) ml_X7_188 mw_X7_excess rfl (by decide) (Nat.le_of_ble_eq_true rfl) dX7_ground_27 ?_
      refine s_iaddN (pc := 30) dX7_ground_30 ?_
      refine s_istore_n (pc := 31) 1 rfl (by decide) rfl dX7_ground_31 ?_
      refine s_iincN (pc := 32) rfl (by decide) rfl dX7_ground_32 ?_
      refine s_goto (pc := 35) 14 dX7_ground_35 (by decide) ?_
      exact ih_14 (by omega)
  · exfalso; omega
