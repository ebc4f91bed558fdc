theorem ucp_0 (h : Hp) (r x s y : Nat) : ucp h r x s y 0 = h := hp_ext (fun p q => by simp only [ucp]; rw [if_neg (by omega)]) (fun _ _ => rfl)
theorem ucp_s (h : Hp) (r x s y k : Nat) {v : Int32} (hv : v = h.1 r (x + k)) : ui (ucp h r x s y k) s (y + k) v = ucp h r x s y (k + 1) := hp_ext (fun p q => by
  simp only [ucp, ui]
  by_cases h1 : p = s ∧ q = y + k
  · rw [if_pos h1, if_pos (by omega), hv, h1.2, show y + k - y = k by omega]
  · rw [if_neg h1]
    by_cases h2 : p = s ∧ y ≤ q ∧ q < y + k
    · rw [if_pos h2, if_pos (by omega)]
    · rw [if_neg h2, if_neg (by omega)]) (fun _ _ => rfl)
theorem ucp_ne {h : Hp} {r x s y n p q : Nat} (hp : p ≠ s) : (ucp h r x s y n).1 p q = h.1 p q := if_neg (fun z => hp z.1)
theorem lcm {f n m : Nat} (hf : f < 2 ^ 31) (hn : n < 2 ^ 31) (hm : m < 2 ^ 31) : (0 < lg_cmp ((nI f).toInt64 + (nI n).toInt64) (nI m).toInt64) ↔ m < f + n := by
  rw [nI_l hf, nI_l hn, nI_l hm, lN_add, lg_cmp_gt, pk_lLT (by omega) (by omega)]
theorem lcm' {f n m : Nat} (hf : f < 2 ^ 31) (hn : n < 2 ^ 31) (hm : m < 2 ^ 31) : (lg_cmp ((nI f).toInt64 + (nI n).toInt64) (nI m).toInt64 ≤ 0) ↔ f + n ≤ m := by
  rw [nI_l hf, nI_l hn, nI_l hm, lN_add, lg_cmp_le, pk_lLE (by omega) (by omega)]

set_option maxRecDepth 20000 in
theorem c_X7_copies_56 {x y : Nat} {h : Hp} (hx : x + 215 ≤ 215) (hy : y + 215 ≤ 645) : CT 1 yX7_copies cX7_copies 5 none [.ref 56, .int (nI x), .ref 58, .int (nI y)] h (none) (ucp h 56 x 58 y 215) := by
  refine CT.of (own := RX7) rfl (by decide) ro_v [.ref 56, .int (nI x), .ref 58, .int (nI y), .null] rfl (Nat.le_of_ble_eq_true rfl) (fun E hp => ?_)
  refine s_iconst (pc := 0) (k_i0N) dX7_copies_0 ?_
  refine s_istore (pc := 1) (by decide) rfl dX7_copies_1 ?_
  refine WW.hp (ucp_0 h 56 x 58 y).symm ?_
  suffices lp_3 : ∀ k, k ≤ 215 → WW E cX7_copies RX7 5 _ 3 [.ref 56, .int (nI x), .ref 58, .int (nI y), .int (nI k)] (ucp h 56 x 58 y k) [] from lp_3 0 (by omega)
  refine lpi 215 (fun k hk_k ih_3 => ?_)
  refine s_iload (pc := 3) rfl dX7_copies_3 ?_
  refine s_sipush (pc := 5) (k_s215N) dX7_copies_5 ?_
  refine s_icmp_geN (pc := 8) (by omega) (by omega) 29 dX7_copies_8 (by decide) (fun c_8 => ?_) (fun c_8 => ?_)
  · obtain rfl : k = 215 := by omega
    refine s_vret (pc := 29) dX7_copies_29 (PostE.of hp ?_ ?_)
    · rfl
    · rfl
  · refine s_aload_n (pc := 11) 2 rfl rfl dX7_copies_11 ?_
    refine s_iload_n (pc := 12) 3 rfl rfl dX7_copies_12 ?_
    refine s_iload (pc := 13) rfl dX7_copies_13 ?_
    refine s_iaddN (pc := 15) dX7_copies_15 ?_
    refine s_aload_n (pc := 16) 0 rfl rfl dX7_copies_16 ?_
    refine s_iload_n (pc := 17) 1 rfl rfl dX7_copies_17 ?_
    refine s_iload (pc := 18) rfl dX7_copies_18 ?_
    refine s_iaddN (pc := 20) dX7_copies_20 ?_
    refine s_ialdE (pc := 21) (_) rfl rfl (by omega) (ucp_ne (by decide)) dX7_copies_21 ?_
    refine s_iast (pc := 22) (_) rfl rfl (by omega) dX7_copies_22 ?_
    refine s_iincN (pc := 23) rfl (by decide) rfl dX7_copies_23 ?_
    refine s_goto (pc := 26) 3 dX7_copies_26 (by decide) ?_
    rw [ucp_s h 56 x 58 y k (by rfl)]
    exact ih_3 (by omega)

set_option maxRecDepth 20000 in
theorem c_X7_copies_58 {x y : Nat} {h : Hp} (hx : x + 215 ≤ 645) (hy : y + 215 ≤ 215) : CT 1 yX7_copies cX7_copies 5 none [.ref 58, .int (nI x), .ref 56, .int (nI y)] h (none) (ucp h 58 x 56 y 215) := by
  refine CT.of (own := RX7) rfl (by decide) ro_v [.ref 58, .int (nI x), .ref 56, .int (nI y), .null] rfl (Nat.le_of_ble_eq_true rfl) (fun E hp => ?_)
  refine s_iconst (pc := 0) (k_i0N) dX7_copies_0 ?_
  refine s_istore (pc := 1) (by decide) rfl dX7_copies_1 ?_
  refine WW.hp (ucp_0 h 58 x 56 y).symm ?_
  suffices lp_3 : ∀ k, k ≤ 215 → WW E cX7_copies RX7 5 _ 3 [.ref 58, .int (nI x), .ref 56, .int (nI y), .int (nI k)] (ucp h 58 x 56 y k) [] from lp_3 0 (by omega)
  refine lpi 215 (fun k hk_k ih_3 => ?_)
  refine s_iload (pc := 3) rfl dX7_copies_3 ?_
  refine s_sipush (pc := 5) (k_s215N) dX7_copies_5 ?_
  refine s_icmp_geN (pc := 8) (by omega) (by omega) 29 dX7_copies_8 (by decide) (fun c_8 => ?_) (fun c_8 => ?_)
  · obtain rfl : k = 215 := by omega
    refine s_vret (pc := 29) dX7_copies_29 (PostE.of hp ?_ ?_)
    · rfl
    · rfl
  · refine s_aload_n (pc := 11) 2 rfl rfl dX7_copies_11 ?_
    refine s_iload_n (pc := 12) 3 rfl rfl dX7_copies_12 ?_
    refine s_iload (pc := 13) rfl dX7_copies_13 ?_
    refine s_iaddN (pc := 15) dX7_copies_15 ?_
    refine s_aload_n (pc := 16) 0 rfl rfl dX7_copies_16 ?_
    refine s_iload_n (pc := 17) 1 rfl rfl dX7_copies_17 ?_
    refine s_iload (pc := 18) rfl dX7_copies_18 ?_
    refine s_iaddN (pc := 20) dX7_copies_20 ?_
    refine s_ialdE (pc := 21) (_) rfl rfl (by omega) (ucp_ne (by decide)) dX7_copies_21 ?_
    refine s_iast (pc := 22) (_) rfl rfl (by omega) dX7_copies_22 ?_
    refine s_iincN (pc := 23) rfl (by decide) rfl dX7_copies_23 ?_
    refine s_goto (pc := 26) 3 dX7_copies_26 (by decide) ?_
    rw [ucp_s h 58 x 56 y k (by rfl)]
    exact ih_3 (by omega)

set_option maxRecDepth 20000 in
theorem c_X7_keepB {s : Int32} {h : Hp} (hb : s < 0 ∨ nI 3 ≤ s) : CT 3 yX7_keep cX7_keep 2 (some .int) [.ref 50, .int s] h (some (.int (-1))) (h) := by
  refine CT.of (own := RX7) rfl (by decide) (ro_i _) [.ref 50, .int s] rfl (Nat.le_of_ble_eq_true rfl) (fun E hp => ?_)
  refine s_iload_n (pc := 0) 1 rfl rfl dX7_keep_0 ?_
  refine s_iconst (pc := 1) (k_i0N) dX7_keep_1 ?_
  refine s_iconst (pc := 2) (k_i2N) dX7_keep_2 ?_
  refine s_csi3 (pc := 3) (c_X7_inF (rng_f (n := 2) (by decide) hb)) ml_X7_64 ms_X7_in (by decide) (Nat.le_of_ble_eq_true rfl) dX7_keep_3 ?_
  refine s_if_neF (pc := 6) 11 dX7_keep_6 (by decide) ?_
  refine s_iconst (pc := 9) (k_im1) dX7_keep_9 ?_
  refine s_iret (pc := 10) dX7_keep_10 (PostE.of hp ?_ ?_)
  · rfl
  · rfl

set_option maxRecDepth 20000 in
theorem c_X7_keepE {k : Nat} {a : Nat → Nat} {h : Hp} (hA : RM a h) (hO : OkA a) (hk : k < 3) (h0 : a 0 = 0) : CT 3 yX7_keep cX7_keep 2 (some .int) [.ref 50, .int (nI k)] h (some (.int (-4))) (h) := by
  refine CT.of (own := RX7) rfl (by decide) (ro_i _) [.ref 50, .int (nI k)] rfl (Nat.le_of_ble_eq_true rfl) (fun E hp => ?_)
  refine s_iload_n (pc := 0) 1 rfl rfl dX7_keep_0 ?_
  refine s_iconst (pc := 1) (k_i0N) dX7_keep_1 ?_
  refine s_iconst (pc := 2) (k_i2N) dX7_keep_2 ?_
  refine s_csi3 (pc := 3) (c_X7_inT (rng_t (show k ≤ 2 by omega) (by decide))) ml_X7_64 ms_X7_in (by decide) (Nat.le_of_ble_eq_true rfl) dX7_keep_3 ?_
  refine s_if_neT (pc := 6) 11 dX7_keep_6 (by decide) ?_
  refine s_aload_n (pc := 11) 0 rfl rfl dX7_keep_11 ?_
  refine s_cvi0 (pc := 12) (c_X7_are hA hO.1.1) ml_X7_198 mw_X7_are rfl (by decide) (Nat.le_of_ble_eq_true rfl) dX7_keep_12 ?_
  refine s_if_neB (pc := 15) 21 dX7_keep_15 (by decide) (fun c_15 => ?_) (fun c_15 => ?_)
  · exfalso; omega
  · refine s_bipush (pc := 18) (k_bm4) dX7_keep_18 ?_
    refine s_iret (pc := 20) dX7_keep_20 (PostE.of hp ?_ ?_)
    · rfl
    · rfl

set_option maxRecDepth 20000 in
theorem c_X7_keepO {k : Nat} {a : Nat → Nat} {h : Hp} (hA : RM a h) (hO : OkA a) (hk : k < 3) (h0 : 0 < a 0) : CT 3 yX7_keep cX7_keep 2 (some .int) [.ref 50, .int (nI k)] h (some (.int (nI (a 3)))) (ui (ucp h 56 0 58 (215 * k) 215) 59 k (nI 1)) := by
  refine CT.of (own := RX7) rfl (by decide) (ro_i _) [.ref 50, .int (nI k)] rfl (Nat.le_of_ble_eq_true rfl) (fun E hp => ?_)
  refine s_iload_n (pc := 0) 1 rfl rfl dX7_keep_0 ?_
  refine s_iconst (pc := 1) (k_i0N) dX7_keep_1 ?_
  refine s_iconst (pc := 2) (k_i2N) dX7_keep_2 ?_
  refine s_csi3 (pc := 3) (c_X7_inT (rng_t (show k ≤ 2 by omega) (by decide))) ml_X7_64 ms_X7_in (by decide) (Nat.le_of_ble_eq_true rfl) dX7_keep_3 ?_
  refine s_if_neT (pc := 6) 11 dX7_keep_6 (by decide) ?_
  refine s_aload_n (pc := 11) 0 rfl rfl dX7_keep_11 ?_
  refine s_cvi0 (pc := 12) (c_X7_are hA hO.1.1) ml_X7_198 mw_X7_are rfl (by decide) (Nat.le_of_ble_eq_true rfl) dX7_keep_12 ?_
  refine s_if_neB (pc := 15) 21 dX7_keep_15 (by decide) (fun c_15 => ?_) (fun c_15 => ?_)
  · refine s_aload_n (pc := 21) 0 rfl rfl dX7_keep_21 ?_
    refine s_getr (pc := 22) (b := 56) fl_X7_25 rfl rfl rfl dX7_keep_22 ?_
    refine s_iconst (pc := 25) (k_i0N) dX7_keep_25 ?_
    refine s_aload_n (pc := 26) 0 rfl rfl dX7_keep_26 ?_
    refine s_getr (pc := 27) (b := 58) fl_X7_31 rfl rfl rfl dX7_keep_27 ?_
    refine s_sipush (pc := 30) (k_s215N) dX7_keep_30 ?_
    refine s_iload_n (pc := 33) 1 rfl rfl dX7_keep_33 ?_
    refine s_imulN (pc := 34) dX7_keep_34 ?_
    refine s_csn4 (pc := 35) (c_X7_copies_56 (by omega) (by omega)) ml_X7_122 ms_X7_copies (by decide) (Nat.le_of_ble_eq_true rfl) dX7_keep_35 ?_
    refine s_aload_n (pc := 38) 0 rfl rfl dX7_keep_38 ?_
    refine s_getr (pc := 39) (b := 59) fl_X7_34 rfl rfl rfl dX7_keep_39 ?_
    refine s_iload_n (pc := 42) 1 rfl rfl dX7_keep_42 ?_
    refine s_iconst (pc := 43) (k_i1N) dX7_keep_43 ?_
    refine s_zast (pc := 44) (_) rfl rfl (by omega) (by decide) dX7_keep_44 ?_
    refine s_aload_n (pc := 45) 0 rfl rfl dX7_keep_45 ?_
    refine s_getr (pc := 46) (b := 56) fl_X7_25 rfl rfl rfl dX7_keep_46 ?_
    refine s_iconst (pc := 49) (k_i3N) dX7_keep_49 ?_
    refine s_ialdN (pc := 50) (_) rfl rfl (by omega) (hA _ (by omega)) dX7_keep_50 ?_
    refine s_iret (pc := 51) dX7_keep_51 (PostE.of hp ?_ ?_)
    · rfl
    · rfl
  · exfalso; omega

set_option maxRecDepth 20000 in
theorem c_X7_onB {s : Int32} {h : Hp} (hb : s < 0 ∨ nI 3 ≤ s) : CT 3 yX7_on cX7_on 2 (some .int) [.ref 50, .int s] h (some (.int (-1))) (h) := by
  refine CT.of (own := RX7) rfl (by decide) (ro_i _) [.ref 50, .int s] rfl (Nat.le_of_ble_eq_true rfl) (fun E hp => ?_)
  refine s_iload_n (pc := 0) 1 rfl rfl dX7_on_0 ?_
  refine s_iconst (pc := 1) (k_i0N) dX7_on_1 ?_
  refine s_iconst (pc := 2) (k_i2N) dX7_on_2 ?_
  refine s_csi3 (pc := 3) (c_X7_inF (rng_f (n := 2) (by decide) hb)) ml_X7_64 ms_X7_in (by decide) (Nat.le_of_ble_eq_true rfl) dX7_on_3 ?_
  refine s_if_neF (pc := 6) 11 dX7_on_6 (by decide) ?_
  refine s_iconst (pc := 9) (k_im1) dX7_on_9 ?_
  refine s_iret (pc := 10) dX7_on_10 (PostE.of hp ?_ ?_)
  · rfl
  · rfl

set_option maxRecDepth 20000 in
theorem c_X7_onM {k : Nat} {h : Hp} (hk : k < 3) (hz : h.1 59 k = nI 0) : CT 3 yX7_on cX7_on 2 (some .int) [.ref 50, .int (nI k)] h (some (.int (-3))) (finM h 1) := by
  refine CT.of (own := RX7) rfl (by decide) (ro_i _) [.ref 50, .int (nI k)] rfl (Nat.le_of_ble_eq_true rfl) (fun E hp => ?_)
  refine s_iload_n (pc := 0) 1 rfl rfl dX7_on_0 ?_
  refine s_iconst (pc := 1) (k_i0N) dX7_on_1 ?_
  refine s_iconst (pc := 2) (k_i2N) dX7_on_2 ?_
  refine s_csi3 (pc := 3) (c_X7_inT (rng_t (show k ≤ 2 by omega) (by decide))) ml_X7_64 ms_X7_in (by decide) (Nat.le_of_ble_eq_true rfl) dX7_on_3 ?_
  refine s_if_neT (pc := 6) 11 dX7_on_6 (by decide) ?_
  refine s_aload_n (pc := 11) 0 rfl rfl dX7_on_11 ?_
  refine s_getr (pc := 12) (b := 59) fl_X7_34 rfl rfl rfl dX7_on_12 ?_
  refine s_iload_n (pc := 15) 1 rfl rfl dX7_on_15 ?_
  refine s_zald (pc := 16) (_) rfl rfl (by omega) dX7_on_16 ?_
  refine s_if_ne (pc := 17) 26 dX7_on_17 (by decide) (fun c_17 => ?_) (fun c_17 => ?_)
  · exfalso; exact c_17 hz
  · refine s_aload_n (pc := 20) 0 rfl rfl dX7_on_20 ?_
    refine s_iconst (pc := 21) (k_i1N) dX7_on_21 ?_
    refine s_cvi1 (pc := 22) (c_X7_finds (by decide)) ml_X7_72 mw_X7_finds rfl (by decide) (Nat.le_of_ble_eq_true rfl) dX7_on_22 ?_
    refine s_iret (pc := 25) dX7_on_25 (PostE.of hp ?_ ?_)
    · rfl
    · rfl

set_option maxRecDepth 20000 in
theorem c_X7_onO {k : Nat} {c : Nat → Nat} {h : Hp} (hk : k < 3) (hz : h.1 59 k = nI 1) (hc : ∀ j, j < 215 → h.1 58 (215 * k + j) = nI (c j)) : CT 3 yX7_on cX7_on 2 (some .int) [.ref 50, .int (nI k)] h (some (.int (nI (c 3)))) (ucp h 58 (215 * k) 56 0 215) := by
  refine CT.of (own := RX7) rfl (by decide) (ro_i _) [.ref 50, .int (nI k)] rfl (Nat.le_of_ble_eq_true rfl) (fun E hp => ?_)
  refine s_iload_n (pc := 0) 1 rfl rfl dX7_on_0 ?_
  refine s_iconst (pc := 1) (k_i0N) dX7_on_1 ?_
  refine s_iconst (pc := 2) (k_i2N) dX7_on_2 ?_
  refine s_csi3 (pc := 3) (c_X7_inT (rng_t (show k ≤ 2 by omega) (by decide))) ml_X7_64 ms_X7_in (by decide) (Nat.le_of_ble_eq_true rfl) dX7_on_3 ?_
  refine s_if_neT (pc := 6) 11 dX7_on_6 (by decide) ?_
  refine s_aload_n (pc := 11) 0 rfl rfl dX7_on_11 ?_
  refine s_getr (pc := 12) (b := 59) fl_X7_34 rfl rfl rfl dX7_on_12 ?_
  refine s_iload_n (pc := 15) 1 rfl rfl dX7_on_15 ?_
  refine s_zald (pc := 16) (_) rfl rfl (by omega) dX7_on_16 ?_
  refine s_if_ne (pc := 17) 26 dX7_on_17 (by decide) (fun c_17 => ?_) (fun c_17 => ?_)
  · refine s_aload_n (pc := 26) 0 rfl rfl dX7_on_26 ?_
    refine s_getr (pc := 27) (b := 58) fl_X7_31 rfl rfl rfl dX7_on_27 ?_
    refine s_sipush (pc := 30) (k_s215N) dX7_on_30 ?_
    refine s_iload_n (pc := 33) 1 rfl rfl dX7_on_33 ?_
    refine s_imulN (pc := 34) dX7_on_34 ?_
    refine s_aload_n (pc := 35) 0 rfl rfl dX7_on_35 ?_
    refine s_getr (pc := 36) (b := 56) fl_X7_25 rfl rfl rfl dX7_on_36 ?_
    refine s_iconst (pc := 39) (k_i0N) dX7_on_39 ?_
    refine s_csn4 (pc := 40) (c_X7_copies_58 (by omega) (by omega)) ml_X7_122 ms_X7_copies (by decide) (Nat.le_of_ble_eq_true rfl) dX7_on_40 ?_
    refine s_aload_n (pc := 43) 0 rfl rfl dX7_on_43 ?_
    refine s_getr (pc := 44) (b := 56) fl_X7_25 rfl rfl rfl dX7_on_44 ?_
    refine s_iconst (pc := 47) (k_i3N) dX7_on_47 ?_
    refine s_ialdN (pc := 48) (_) rfl rfl (by omega) (by show (if (56 : Nat) = 56 ∧ 0 ≤ 3 ∧ 3 < 0 + 215 then h.1 58 (215 * k + (3 - 0)) else h.1 56 3) = nI (c 3); rw [if_pos (by decide)]; exact hc 3 (by decide)) dX7_on_48 ?_
    refine s_iret (pc := 49) dX7_on_49 (PostE.of hp ?_ ?_)
    · rfl
    · rfl
  · exfalso; rw [hz] at c_17; exact absurd c_17 (by decide)

set_option maxRecDepth 20000 in
theorem c_X7_copyB1 {r i t j n : Int32} {h : Hp} (hb : r < 0 ∨ nI 6 ≤ r) : CT 3 yX7_copy cX7_copy 7 (some .int) [.ref 50, .int r, .int i, .int t, .int j, .int n] h (some (.int (-1))) (h) := by
  refine CT.of (own := RX7) rfl (by decide) (ro_i _) [.ref 50, .int r, .int i, .int t, .int j, .int n, .null] rfl (Nat.le_of_ble_eq_true rfl) (fun E hp => ?_)
  refine s_iload_n (pc := 0) 1 rfl rfl dX7_copy_0 ?_
  refine s_csi1 (pc := 1) (c_X7_isRowF hb) ml_X7_68 ms_X7_isRow (by decide) (Nat.le_of_ble_eq_true rfl) dX7_copy_1 ?_
  refine s_if_eqF (pc := 4) 14 dX7_copy_4 (by decide) ?_
  refine s_iconst (pc := 14) (k_im1) dX7_copy_14 ?_
  refine s_iret (pc := 15) dX7_copy_15 (PostE.of hp ?_ ?_)
  · rfl
  · rfl

set_option maxRecDepth 20000 in
theorem c_X7_copyB2 {k : Nat} {i t j n : Int32} {h : Hp} (hk : k < 6) (hb : t < 0 ∨ nI 6 ≤ t) : CT 3 yX7_copy cX7_copy 7 (some .int) [.ref 50, .int (nI k), .int i, .int t, .int j, .int n] h (some (.int (-1))) (h) := by
  refine CT.of (own := RX7) rfl (by decide) (ro_i _) [.ref 50, .int (nI k), .int i, .int t, .int j, .int n, .null] rfl (Nat.le_of_ble_eq_true rfl) (fun E hp => ?_)
  refine s_iload_n (pc := 0) 1 rfl rfl dX7_copy_0 ?_
  refine s_csi1 (pc := 1) (c_X7_isRowT hk) ml_X7_68 ms_X7_isRow (by decide) (Nat.le_of_ble_eq_true rfl) dX7_copy_1 ?_
  refine s_if_eqT (pc := 4) 14 dX7_copy_4 (by decide) ?_
  refine s_iload_n (pc := 7) 3 rfl rfl dX7_copy_7 ?_
  refine s_csi1 (pc := 8) (c_X7_isRowF hb) ml_X7_68 ms_X7_isRow (by decide) (Nat.le_of_ble_eq_true rfl) dX7_copy_8 ?_
  refine s_if_neF (pc := 11) 16 dX7_copy_11 (by decide) ?_
  refine s_iconst (pc := 14) (k_im1) dX7_copy_14 ?_
  refine s_iret (pc := 15) dX7_copy_15 (PostE.of hp ?_ ?_)
  · rfl
  · rfl

set_option maxRecDepth 20000 in
theorem c_X7_copyS {k q : Nat} {i j n : Int32} {h : Hp} (hk : k < 6) (hl : q < 6) (hn : n < 0) : CT 3 yX7_copy cX7_copy 7 (some .int) [.ref 50, .int (nI k), .int i, .int (nI q), .int j, .int n] h (some (.int (-3))) (finM h 5) := by
  refine CT.of (own := RX7) rfl (by decide) (ro_i _) [.ref 50, .int (nI k), .int i, .int (nI q), .int j, .int n, .null] rfl (Nat.le_of_ble_eq_true rfl) (fun E hp => ?_)
  refine s_iload_n (pc := 0) 1 rfl rfl dX7_copy_0 ?_
  refine s_csi1 (pc := 1) (c_X7_isRowT hk) ml_X7_68 ms_X7_isRow (by decide) (Nat.le_of_ble_eq_true rfl) dX7_copy_1 ?_
  refine s_if_eqT (pc := 4) 14 dX7_copy_4 (by decide) ?_
  refine s_iload_n (pc := 7) 3 rfl rfl dX7_copy_7 ?_
  refine s_csi1 (pc := 8) (c_X7_isRowT hl) ml_X7_68 ms_X7_isRow (by decide) (Nat.le_of_ble_eq_true rfl) dX7_copy_8 ?_
  refine s_if_neT (pc := 11) 16 dX7_copy_11 (by decide) ?_
  refine s_iload (pc := 16) rfl dX7_copy_16 ?_
  refine s_if_ge (pc := 18) 27 dX7_copy_18 (by decide) (fun c_18 => ?_) (fun c_18 => ?_)
  · exfalso; exact absurd hn (Int32.not_lt.mpr c_18)
  · refine s_aload_n (pc := 21) 0 rfl rfl dX7_copy_21 ?_
    refine s_iconst (pc := 22) (k_i5N) dX7_copy_22 ?_
    refine s_cvi1 (pc := 23) (c_X7_finds (by decide)) ml_X7_72 mw_X7_finds rfl (by decide) (Nat.le_of_ble_eq_true rfl) dX7_copy_23 ?_
    refine s_iret (pc := 26) dX7_copy_26 (PostE.of hp ?_ ?_)
    · rfl
    · rfl

set_option maxRecDepth 20000 in
theorem c_X7_copyM1 {k q n : Nat} {i j : Int32} {h : Hp} (hk : k < 6) (hl : q < 6) (hn : n < 2 ^ 31) (hz : h.1 51 k = -1) : CT 3 yX7_copy cX7_copy 7 (some .int) [.ref 50, .int (nI k), .int i, .int (nI q), .int j, .int (nI n)] h (some (.int (-3))) (finM h 1) := by
  refine CT.of (own := RX7) rfl (by decide) (ro_i _) [.ref 50, .int (nI k), .int i, .int (nI q), .int j, .int (nI n), .null] rfl (Nat.le_of_ble_eq_true rfl) (fun E hp => ?_)
  refine s_iload_n (pc := 0) 1 rfl rfl dX7_copy_0 ?_
  refine s_csi1 (pc := 1) (c_X7_isRowT hk) ml_X7_68 ms_X7_isRow (by decide) (Nat.le_of_ble_eq_true rfl) dX7_copy_1 ?_
  refine s_if_eqT (pc := 4) 14 dX7_copy_4 (by decide) ?_
  refine s_iload_n (pc := 7) 3 rfl rfl dX7_copy_7 ?_
  refine s_csi1 (pc := 8) (c_X7_isRowT hl) ml_X7_68 ms_X7_isRow (by decide) (Nat.le_of_ble_eq_true rfl) dX7_copy_8 ?_
  refine s_if_neT (pc := 11) 16 dX7_copy_11 (by decide) ?_
  refine s_iload (pc := 16) rfl dX7_copy_16 ?_
  refine s_if_geN (pc := 18) (by omega) 27 dX7_copy_18 (by decide) ?_
  refine s_aload_n (pc := 27) 0 rfl rfl dX7_copy_27 ?_
  refine s_getr (pc := 28) (b := 51) fl_X7_7 rfl rfl rfl dX7_copy_28 ?_
  refine s_iload_n (pc := 31) 1 rfl rfl dX7_copy_31 ?_
  refine s_ialdE (pc := 32) (_) rfl rfl (by omega) hz dX7_copy_32 ?_
  refine s_if_lt (pc := 33) 45 dX7_copy_33 (by decide) (fun c_33 => ?_) (fun c_33 => ?_)
  · refine s_aload_n (pc := 45) 0 rfl rfl dX7_copy_45 ?_
    refine s_iconst (pc := 46) (k_i1N) dX7_copy_46 ?_
    refine s_cvi1 (pc := 47) (c_X7_finds (by decide)) ml_X7_72 mw_X7_finds rfl (by decide) (Nat.le_of_ble_eq_true rfl) dX7_copy_47 ?_
    refine s_iret (pc := 50) dX7_copy_50 (PostE.of hp ?_ ?_)
    · rfl
    · rfl
  · exfalso; exact c_33 (by decide)

set_option maxRecDepth 20000 in
theorem c_X7_copyM2 {k q n m : Nat} {i j : Int32} {h : Hp} (hk : k < 6) (hl : q < 6) (hn : n < 2 ^ 31) (hz : h.1 51 k = nI m) (hz6 : m ≤ 40) (hy : h.1 51 q = -1) : CT 3 yX7_copy cX7_copy 7 (some .int) [.ref 50, .int (nI k), .int i, .int (nI q), .int j, .int (nI n)] h (some (.int (-3))) (finM h 1) := by
  refine CT.of (own := RX7) rfl (by decide) (ro_i _) [.ref 50, .int (nI k), .int i, .int (nI q), .int j, .int (nI n), .null] rfl (Nat.le_of_ble_eq_true rfl) (fun E hp => ?_)
  refine s_iload_n (pc := 0) 1 rfl rfl dX7_copy_0 ?_
  refine s_csi1 (pc := 1) (c_X7_isRowT hk) ml_X7_68 ms_X7_isRow (by decide) (Nat.le_of_ble_eq_true rfl) dX7_copy_1 ?_
  refine s_if_eqT (pc := 4) 14 dX7_copy_4 (by decide) ?_
  refine s_iload_n (pc := 7) 3 rfl rfl dX7_copy_7 ?_
  refine s_csi1 (pc := 8) (c_X7_isRowT hl) ml_X7_68 ms_X7_isRow (by decide) (Nat.le_of_ble_eq_true rfl) dX7_copy_8 ?_
  refine s_if_neT (pc := 11) 16 dX7_copy_11 (by decide) ?_
  refine s_iload (pc := 16) rfl dX7_copy_16 ?_
  refine s_if_geN (pc := 18) (by omega) 27 dX7_copy_18 (by decide) ?_
  refine s_aload_n (pc := 27) 0 rfl rfl dX7_copy_27 ?_
  refine s_getr (pc := 28) (b := 51) fl_X7_7 rfl rfl rfl dX7_copy_28 ?_
  refine s_iload_n (pc := 31) 1 rfl rfl dX7_copy_31 ?_
  refine s_ialdN (pc := 32) (_) rfl rfl (by omega) hz dX7_copy_32 ?_
  refine s_if_ltN (pc := 33) (by omega) 45 dX7_copy_33 (by decide) ?_
  refine s_aload_n (pc := 36) 0 rfl rfl dX7_copy_36 ?_
  refine s_getr (pc := 37) (b := 51) fl_X7_7 rfl rfl rfl dX7_copy_37 ?_
  refine s_iload_n (pc := 40) 3 rfl rfl dX7_copy_40 ?_
  refine s_ialdE (pc := 41) (_) rfl rfl (by omega) hy dX7_copy_41 ?_
  refine s_if_ge (pc := 42) 51 dX7_copy_42 (by decide) (fun c_42 => ?_) (fun c_42 => ?_)
  · exfalso; exact absurd c_42 (by decide)
  · refine s_aload_n (pc := 45) 0 rfl rfl dX7_copy_45 ?_
    refine s_iconst (pc := 46) (k_i1N) dX7_copy_46 ?_
    refine s_cvi1 (pc := 47) (c_X7_finds (by decide)) ml_X7_72 mw_X7_finds rfl (by decide) (Nat.le_of_ble_eq_true rfl) dX7_copy_47 ?_
    refine s_iret (pc := 50) dX7_copy_50 (PostE.of hp ?_ ?_)
    · rfl
    · rfl

set_option maxRecDepth 20000 in
theorem c_X7_copyYi {k q n m u : Nat} {i j : Int32} {h : Hp} (hk : k < 6) (hl : q < 6) (hn : n < 2 ^ 31) (hz : h.1 51 k = nI m) (hz6 : m ≤ 40) (hy : h.1 51 q = nI u) (hy6 : u ≤ 40) (hf : i < 0) : CT 3 yX7_copy cX7_copy 7 (some .int) [.ref 50, .int (nI k), .int i, .int (nI q), .int j, .int (nI n)] h (some (.int (-3))) (finM h 2) := by
  refine CT.of (own := RX7) rfl (by decide) (ro_i _) [.ref 50, .int (nI k), .int i, .int (nI q), .int j, .int (nI n), .null] rfl (Nat.le_of_ble_eq_true rfl) (fun E hp => ?_)
  refine s_iload_n (pc := 0) 1 rfl rfl dX7_copy_0 ?_
  refine s_csi1 (pc := 1) (c_X7_isRowT hk) ml_X7_68 ms_X7_isRow (by decide) (Nat.le_of_ble_eq_true rfl) dX7_copy_1 ?_
  refine s_if_eqT (pc := 4) 14 dX7_copy_4 (by decide) ?_
  refine s_iload_n (pc := 7) 3 rfl rfl dX7_copy_7 ?_
  refine s_csi1 (pc := 8) (c_X7_isRowT hl) ml_X7_68 ms_X7_isRow (by decide) (Nat.le_of_ble_eq_true rfl) dX7_copy_8 ?_
  refine s_if_neT (pc := 11) 16 dX7_copy_11 (by decide) ?_
  refine s_iload (pc := 16) rfl dX7_copy_16 ?_
  refine s_if_geN (pc := 18) (by omega) 27 dX7_copy_18 (by decide) ?_
  refine s_aload_n (pc := 27) 0 rfl rfl dX7_copy_27 ?_
  refine s_getr (pc := 28) (b := 51) fl_X7_7 rfl rfl rfl dX7_copy_28 ?_
  refine s_iload_n (pc := 31) 1 rfl rfl dX7_copy_31 ?_
  refine s_ialdN (pc := 32) (_) rfl rfl (by omega) hz dX7_copy_32 ?_
  refine s_if_ltN (pc := 33) (by omega) 45 dX7_copy_33 (by decide) ?_
  refine s_aload_n (pc := 36) 0 rfl rfl dX7_copy_36 ?_
  refine s_getr (pc := 37) (b := 51) fl_X7_7 rfl rfl rfl dX7_copy_37 ?_
  refine s_iload_n (pc := 40) 3 rfl rfl dX7_copy_40 ?_
  refine s_ialdN (pc := 41) (_) rfl rfl (by omega) hy dX7_copy_41 ?_
  refine s_if_geN (pc := 42) (by omega) 51 dX7_copy_42 (by decide) ?_
  refine s_iload_n (pc := 51) 2 rfl rfl dX7_copy_51 ?_
  refine s_if_lt (pc := 52) 95 dX7_copy_52 (by decide) (fun c_52 => ?_) (fun c_52 => ?_)
  · refine s_aload_n (pc := 95) 0 rfl rfl dX7_copy_95 ?_
    refine s_iconst (pc := 96) (k_i2N) dX7_copy_96 ?_
    refine s_cvi1 (pc := 97) (c_X7_finds (by decide)) ml_X7_72 mw_X7_finds rfl (by decide) (Nat.le_of_ble_eq_true rfl) dX7_copy_97 ?_
    refine s_iret (pc := 100) dX7_copy_100 (PostE.of hp ?_ ?_)
    · rfl
    · rfl
  · exfalso; exact c_52 hf

set_option maxRecDepth 20000 in
theorem c_X7_copyYj {k q n m u : Nat} {f : Nat} {j : Int32} {h : Hp} (hk : k < 6) (hl : q < 6) (hn : n < 2 ^ 31) (hz : h.1 51 k = nI m) (hz6 : m ≤ 40) (hy : h.1 51 q = nI u) (hy6 : u ≤ 40) (hf2 : f < 2 ^ 31) (hg : j < 0) : CT 3 yX7_copy cX7_copy 7 (some .int) [.ref 50, .int (nI k), .int (nI f), .int (nI q), .int j, .int (nI n)] h (some (.int (-3))) (finM h 2) := by
  refine CT.of (own := RX7) rfl (by decide) (ro_i _) [.ref 50, .int (nI k), .int (nI f), .int (nI q), .int j, .int (nI n), .null] rfl (Nat.le_of_ble_eq_true rfl) (fun E hp => ?_)
  refine s_iload_n (pc := 0) 1 rfl rfl dX7_copy_0 ?_
  refine s_csi1 (pc := 1) (c_X7_isRowT hk) ml_X7_68 ms_X7_isRow (by decide) (Nat.le_of_ble_eq_true rfl) dX7_copy_1 ?_
  refine s_if_eqT (pc := 4) 14 dX7_copy_4 (by decide) ?_
  refine s_iload_n (pc := 7) 3 rfl rfl dX7_copy_7 ?_
  refine s_csi1 (pc := 8) (c_X7_isRowT hl) ml_X7_68 ms_X7_isRow (by decide) (Nat.le_of_ble_eq_true rfl) dX7_copy_8 ?_
  refine s_if_neT (pc := 11) 16 dX7_copy_11 (by decide) ?_
  refine s_iload (pc := 16) rfl dX7_copy_16 ?_
  refine s_if_geN (pc := 18) (by omega) 27 dX7_copy_18 (by decide) ?_
  refine s_aload_n (pc := 27) 0 rfl rfl dX7_copy_27 ?_
  refine s_getr (pc := 28) (b := 51) fl_X7_7 rfl rfl rfl dX7_copy_28 ?_
  refine s_iload_n (pc := 31) 1 rfl rfl dX7_copy_31 ?_
  refine s_ialdN (pc := 32) (_) rfl rfl (by omega) hz dX7_copy_32 ?_
  refine s_if_ltN (pc := 33) (by omega) 45 dX7_copy_33 (by decide) ?_
  refine s_aload_n (pc := 36) 0 rfl rfl dX7_copy_36 ?_
  refine s_getr (pc := 37) (b := 51) fl_X7_7 rfl rfl rfl dX7_copy_37 ?_
  refine s_iload_n (pc := 40) 3 rfl rfl dX7_copy_40 ?_
  refine s_ialdN (pc := 41) (_) rfl rfl (by omega) hy dX7_copy_41 ?_
  refine s_if_geN (pc := 42) (by omega) 51 dX7_copy_42 (by decide) ?_
  refine s_iload_n (pc := 51) 2 rfl rfl dX7_copy_51 ?_
  refine s_if_ltN (pc := 52) (by omega) 95 dX7_copy_52 (by decide) ?_
  refine s_iload (pc := 55) rfl dX7_copy_55 ?_
  refine s_if_lt (pc := 57) 95 dX7_copy_57 (by decide) (fun c_57 => ?_) (fun c_57 => ?_)
  · refine s_aload_n (pc := 95) 0 rfl rfl dX7_copy_95 ?_
    refine s_iconst (pc := 96) (k_i2N) dX7_copy_96 ?_
    refine s_cvi1 (pc := 97) (c_X7_finds (by decide)) ml_X7_72 mw_X7_finds rfl (by decide) (Nat.le_of_ble_eq_true rfl) dX7_copy_97 ?_
    refine s_iret (pc := 100) dX7_copy_100 (PostE.of hp ?_ ?_)
    · rfl
    · rfl
  · exfalso; exact c_57 hg

set_option maxRecDepth 20000 in
theorem c_X7_copyY1 {k q n m u : Nat} {f g : Nat} {h : Hp} (hk : k < 6) (hl : q < 6) (hn : n < 2 ^ 31) (hz : h.1 51 k = nI m) (hz6 : m ≤ 40) (hy : h.1 51 q = nI u) (hy6 : u ≤ 40) (hf2 : f < 2 ^ 31) (hg2 : g < 2 ^ 31) (hc : m < f + n) : CT 3 yX7_copy cX7_copy 7 (some .int) [.ref 50, .int (nI k), .int (nI f), .int (nI q), .int (nI g), .int (nI n)] h (some (.int (-3))) (finM h 2) := by
  refine CT.of (own := RX7) rfl (by decide) (ro_i _) [.ref 50, .int (nI k), .int (nI f), .int (nI q), .int (nI g), .int (nI n), .null] rfl (Nat.le_of_ble_eq_true rfl) (fun E hp => ?_)
  refine s_iload_n (pc := 0) 1 rfl rfl dX7_copy_0 ?_
  refine s_csi1 (pc := 1) (c_X7_isRowT hk) ml_X7_68 ms_X7_isRow (by decide) (Nat.le_of_ble_eq_true rfl) dX7_copy_1 ?_
  refine s_if_eqT (pc := 4) 14 dX7_copy_4 (by decide) ?_
  refine s_iload_n (pc := 7) 3 rfl rfl dX7_copy_7 ?_
  refine s_csi1 (pc := 8) (c_X7_isRowT hl) ml_X7_68 ms_X7_isRow (by decide) (Nat.le_of_ble_eq_true rfl) dX7_copy_8 ?_
  refine s_if_neT (pc := 11) 16 dX7_copy_11 (by decide) ?_
  refine s_iload (pc := 16) rfl dX7_copy_16 ?_
  refine s_if_geN (pc := 18) (by omega) 27 dX7_copy_18 (by decide) ?_
  refine s_aload_n (pc := 27) 0 rfl rfl dX7_copy_27 ?_
  refine s_getr (pc := 28) (b := 51) fl_X7_7 rfl rfl rfl dX7_copy_28 ?_
  refine s_iload_n (pc := 31) 1 rfl rfl dX7_copy_31 ?_
  refine s_ialdN (pc := 32) (_) rfl rfl (by omega) hz dX7_copy_32 ?_
  refine s_if_ltN (pc := 33) (by omega) 45 dX7_copy_33 (by decide) ?_
  refine s_aload_n (pc := 36) 0 rfl rfl dX7_copy_36 ?_
  refine s_getr (pc := 37) (b := 51) fl_X7_7 rfl rfl rfl dX7_copy_37 ?_
  refine s_iload_n (pc := 40) 3 rfl rfl dX7_copy_40 ?_
  refine s_ialdN (pc := 41) (_) rfl rfl (by omega) hy dX7_copy_41 ?_
  refine s_if_geN (pc := 42) (by omega) 51 dX7_copy_42 (by decide) ?_
  refine s_iload_n (pc := 51) 2 rfl rfl dX7_copy_51 ?_
  refine s_if_ltN (pc := 52) (by omega) 95 dX7_copy_52 (by decide) ?_
  refine s_iload (pc := 55) rfl dX7_copy_55 ?_
  refine s_if_ltN (pc := 57) (by omega) 95 dX7_copy_57 (by decide) ?_
  refine s_iload_n (pc := 60) 2 rfl rfl dX7_copy_60 ?_
  refine s_i2l (pc := 61) dX7_copy_61 ?_
  refine s_iload (pc := 62) rfl dX7_copy_62 ?_
  refine s_i2l (pc := 64) dX7_copy_64 ?_
  refine s_ladd (pc := 65) dX7_copy_65 ?_
  refine s_aload_n (pc := 66) 0 rfl rfl dX7_copy_66 ?_
  refine s_getr (pc := 67) (b := 51) fl_X7_7 rfl rfl rfl dX7_copy_67 ?_
  refine s_iload_n (pc := 70) 1 rfl rfl dX7_copy_70 ?_
  refine s_ialdN (pc := 71) (_) rfl rfl (by omega) hz dX7_copy_71 ?_
  refine s_i2l (pc := 72) dX7_copy_72 ?_
  refine s_lcmp (pc := 73) dX7_copy_73 ?_
  refine s_if_gt (pc := 74) 95 dX7_copy_74 (by decide) (fun c_74 => ?_) (fun c_74 => ?_)
  · refine s_aload_n (pc := 95) 0 rfl rfl dX7_copy_95 ?_
    refine s_iconst (pc := 96) (k_i2N) dX7_copy_96 ?_
    refine s_cvi1 (pc := 97) (c_X7_finds (by decide)) ml_X7_72 mw_X7_finds rfl (by decide) (Nat.le_of_ble_eq_true rfl) dX7_copy_97 ?_
    refine s_iret (pc := 100) dX7_copy_100 (PostE.of hp ?_ ?_)
    · rfl
    · rfl
  · exfalso; exact c_74 ((lcm hf2 hn (by omega)).mpr hc)

set_option maxRecDepth 20000 in
theorem c_X7_copyY2 {k q n m u : Nat} {f g : Nat} {h : Hp} (hk : k < 6) (hl : q < 6) (hn : n < 2 ^ 31) (hz : h.1 51 k = nI m) (hz6 : m ≤ 40) (hy : h.1 51 q = nI u) (hy6 : u ≤ 40) (hf2 : f < 2 ^ 31) (hg2 : g < 2 ^ 31) (hc : f + n ≤ m) (hc2 : u < g + n) : CT 3 yX7_copy cX7_copy 7 (some .int) [.ref 50, .int (nI k), .int (nI f), .int (nI q), .int (nI g), .int (nI n)] h (some (.int (-3))) (finM h 2) := by
  refine CT.of (own := RX7) rfl (by decide) (ro_i _) [.ref 50, .int (nI k), .int (nI f), .int (nI q), .int (nI g), .int (nI n), .null] rfl (Nat.le_of_ble_eq_true rfl) (fun E hp => ?_)
  refine s_iload_n (pc := 0) 1 rfl rfl dX7_copy_0 ?_
  refine s_csi1 (pc := 1) (c_X7_isRowT hk) ml_X7_68 ms_X7_isRow (by decide) (Nat.le_of_ble_eq_true rfl) dX7_copy_1 ?_
  refine s_if_eqT (pc := 4) 14 dX7_copy_4 (by decide) ?_
  refine s_iload_n (pc := 7) 3 rfl rfl dX7_copy_7 ?_
  refine s_csi1 (pc := 8) (c_X7_isRowT hl) ml_X7_68 ms_X7_isRow (by decide) (Nat.le_of_ble_eq_true rfl) dX7_copy_8 ?_
  refine s_if_neT (pc := 11) 16 dX7_copy_11 (by decide) ?_
  refine s_iload (pc := 16) rfl dX7_copy_16 ?_
  refine s_if_geN (pc := 18) (by omega) 27 dX7_copy_18 (by decide) ?_
  refine s_aload_n (pc := 27) 0 rfl rfl dX7_copy_27 ?_
  refine s_getr (pc := 28) (b := 51) fl_X7_7 rfl rfl rfl dX7_copy_28 ?_
  refine s_iload_n (pc := 31) 1 rfl rfl dX7_copy_31 ?_
  refine s_ialdN (pc := 32) (_) rfl rfl (by omega) hz dX7_copy_32 ?_
  refine s_if_ltN (pc := 33) (by omega) 45 dX7_copy_33 (by decide) ?_
  refine s_aload_n (pc := 36) 0 rfl rfl dX7_copy_36 ?_
  refine s_getr (pc := 37) (b := 51) fl_X7_7 rfl rfl rfl dX7_copy_37 ?_
  refine s_iload_n (pc := 40) 3 rfl rfl dX7_copy_40 ?_
  refine s_ialdN (pc := 41) (_) rfl rfl (by omega) hy dX7_copy_41 ?_
  refine s_if_geN (pc := 42) (by omega) 51 dX7_copy_42 (by decide) ?_
  refine s_iload_n (pc := 51) 2 rfl rfl dX7_copy_51 ?_
  refine s_if_ltN (pc := 52) (by omega) 95 dX7_copy_52 (by decide) ?_
  refine s_iload (pc := 55) rfl dX7_copy_55 ?_
  refine s_if_ltN (pc := 57) (by omega) 95 dX7_copy_57 (by decide) ?_
  refine s_iload_n (pc := 60) 2 rfl rfl dX7_copy_60 ?_
  refine s_i2l (pc := 61) dX7_copy_61 ?_
  refine s_iload (pc := 62) rfl dX7_copy_62 ?_
  refine s_i2l (pc := 64) dX7_copy_64 ?_
  refine s_ladd (pc := 65) dX7_copy_65 ?_
  refine s_aload_n (pc := 66) 0 rfl rfl dX7_copy_66 ?_
  refine s_getr (pc := 67) (b := 51) fl_X7_7 rfl rfl rfl dX7_copy_67 ?_
  refine s_iload_n (pc := 70) 1 rfl rfl dX7_copy_70 ?_
  refine s_ialdN (pc := 71) (_) rfl rfl (by omega) hz dX7_copy_71 ?_
  refine s_i2l (pc := 72) dX7_copy_72 ?_
  refine s_lcmp (pc := 73) dX7_copy_73 ?_
  refine s_if_gt (pc := 74) 95 dX7_copy_74 (by decide) (fun c_74 => ?_) (fun c_74 => ?_)
  · exfalso; have := (lcm hf2 hn (by omega)).mp c_74; omega
  · refine s_iload (pc := 77) rfl dX7_copy_77 ?_
    refine s_i2l (pc := 79) dX7_copy_79 ?_
    refine s_iload (pc := 80) rfl dX7_copy_80 ?_
    refine s_i2l (pc := 82) dX7_copy_82 ?_
    refine s_ladd (pc := 83) dX7_copy_83 ?_
    refine s_aload_n (pc := 84) 0 rfl rfl dX7_copy_84 ?_
    refine s_getr (pc := 85) (b := 51) fl_X7_7 rfl rfl rfl dX7_copy_85 ?_
    refine s_iload_n (pc := 88) 3 rfl rfl dX7_copy_88 ?_
    refine s_ialdN (pc := 89) (_) rfl rfl (by omega) hy dX7_copy_89 ?_
    refine s_i2l (pc := 90) dX7_copy_90 ?_
    refine s_lcmp (pc := 91) dX7_copy_91 ?_
    refine s_if_le (pc := 92) 101 dX7_copy_92 (by decide) (fun c_92 => ?_) (fun c_92 => ?_)
    · exfalso; have := (lcm' hg2 hn (by omega)).mp c_92; omega
    · refine s_aload_n (pc := 95) 0 rfl rfl dX7_copy_95 ?_
      refine s_iconst (pc := 96) (k_i2N) dX7_copy_96 ?_
      refine s_cvi1 (pc := 97) (c_X7_finds (by decide)) ml_X7_72 mw_X7_finds rfl (by decide) (Nat.le_of_ble_eq_true rfl) dX7_copy_97 ?_
      refine s_iret (pc := 100) dX7_copy_100 (PostE.of hp ?_ ?_)
      · rfl
      · rfl

set_option maxRecDepth 20000 in
theorem c_X7_copyO {k q n m u : Nat} {f g : Nat} {h : Hp} (hk : k < 6) (hl : q < 6) (hn : n < 2 ^ 31) (hz : h.1 51 k = nI m) (hz6 : m ≤ 40) (hy : h.1 51 q = nI u) (hy6 : u ≤ 40) (hf2 : f < 2 ^ 31) (hg2 : g < 2 ^ 31) (hc : f + n ≤ m) (hc2 : g + n ≤ u) : CT 3 yX7_copy cX7_copy 7 (some .int) [.ref 50, .int (nI k), .int (nI f), .int (nI q), .int (nI g), .int (nI n)] h (some (.int (nI 1))) (ucp (ucp h 52 (40 * k + f) 53 0 n) 53 0 52 (40 * q + g) n) := by
  refine CT.of (own := RX7) rfl (by decide) (ro_i _) [.ref 50, .int (nI k), .int (nI f), .int (nI q), .int (nI g), .int (nI n), .null] rfl (Nat.le_of_ble_eq_true rfl) (fun E hp => ?_)
  refine s_iload_n (pc := 0) 1 rfl rfl dX7_copy_0 ?_
  refine s_csi1 (pc := 1) (c_X7_isRowT hk) ml_X7_68 ms_X7_isRow (by decide) (Nat.le_of_ble_eq_true rfl) dX7_copy_1 ?_
  refine s_if_eqT (pc := 4) 14 dX7_copy_4 (by decide) ?_
  refine s_iload_n (pc := 7) 3 rfl rfl dX7_copy_7 ?_
  refine s_csi1 (pc := 8) (c_X7_isRowT hl) ml_X7_68 ms_X7_isRow (by decide) (Nat.le_of_ble_eq_true rfl) dX7_copy_8 ?_
  refine s_if_neT (pc := 11) 16 dX7_copy_11 (by decide) ?_
  refine s_iload (pc := 16) rfl dX7_copy_16 ?_
  refine s_if_geN (pc := 18) (by omega) 27 dX7_copy_18 (by decide) ?_
  refine s_aload_n (pc := 27) 0 rfl rfl dX7_copy_27 ?_
  refine s_getr (pc := 28) (b := 51) fl_X7_7 rfl rfl rfl dX7_copy_28 ?_
  refine s_iload_n (pc := 31) 1 rfl rfl dX7_copy_31 ?_
  refine s_ialdN (pc := 32) (_) rfl rfl (by omega) hz dX7_copy_32 ?_
  refine s_if_ltN (pc := 33) (by omega) 45 dX7_copy_33 (by decide) ?_
  refine s_aload_n (pc := 36) 0 rfl rfl dX7_copy_36 ?_
  refine s_getr (pc := 37) (b := 51) fl_X7_7 rfl rfl rfl dX7_copy_37 ?_
  refine s_iload_n (pc := 40) 3 rfl rfl dX7_copy_40 ?_
  refine s_ialdN (pc := 41) (_) rfl rfl (by omega) hy dX7_copy_41 ?_
  refine s_if_geN (pc := 42) (by omega) 51 dX7_copy_42 (by decide) ?_
  refine s_iload_n (pc := 51) 2 rfl rfl dX7_copy_51 ?_
  refine s_if_ltN (pc := 52) (by omega) 95 dX7_copy_52 (by decide) ?_
  refine s_iload (pc := 55) rfl dX7_copy_55 ?_
  refine s_if_ltN (pc := 57) (by omega) 95 dX7_copy_57 (by decide) ?_
  refine s_iload_n (pc := 60) 2 rfl rfl dX7_copy_60 ?_
  refine s_i2l (pc := 61) dX7_copy_61 ?_
  refine s_iload (pc := 62) rfl dX7_copy_62 ?_
  refine s_i2l (pc := 64) dX7_copy_64 ?_
  refine s_ladd (pc := 65) dX7_copy_65 ?_
  refine s_aload_n (pc := 66) 0 rfl rfl dX7_copy_66 ?_
  refine s_getr (pc := 67) (b := 51) fl_X7_7 rfl rfl rfl dX7_copy_67 ?_
  refine s_iload_n (pc := 70) 1 rfl rfl dX7_copy_70 ?_
  refine s_ialdN (pc := 71) (_) rfl rfl (by omega) hz dX7_copy_71 ?_
  refine s_i2l (pc := 72) dX7_copy_72 ?_
  refine s_lcmp (pc := 73) dX7_copy_73 ?_
  refine s_if_gt (pc := 74) 95 dX7_copy_74 (by decide) (fun c_74 => ?_) (fun c_74 => ?_)
  · exfalso; have := (lcm hf2 hn (by omega)).mp c_74; omega
  · refine s_iload (pc := 77) rfl dX7_copy_77 ?_
    refine s_i2l (pc := 79) dX7_copy_79 ?_
    refine s_iload (pc := 80) rfl dX7_copy_80 ?_
    refine s_i2l (pc := 82) dX7_copy_82 ?_
    refine s_ladd (pc := 83) dX7_copy_83 ?_
    refine s_aload_n (pc := 84) 0 rfl rfl dX7_copy_84 ?_
    refine s_getr (pc := 85) (b := 51) fl_X7_7 rfl rfl rfl dX7_copy_85 ?_
    refine s_iload_n (pc := 88) 3 rfl rfl dX7_copy_88 ?_
    refine s_ialdN (pc := 89) (_) rfl rfl (by omega) hy dX7_copy_89 ?_
    refine s_i2l (pc := 90) dX7_copy_90 ?_
    refine s_lcmp (pc := 91) dX7_copy_91 ?_
    refine s_if_le (pc := 92) 101 dX7_copy_92 (by decide) (fun c_92 => ?_) (fun c_92 => ?_)
    · refine s_iconst (pc := 101) (k_i0N) dX7_copy_101 ?_
      refine s_istore (pc := 102) (by decide) rfl dX7_copy_102 ?_
      refine WW.hp (ucp_0 h 52 (40 * k + f) 53 0).symm ?_
      suffices lp_104 : ∀ t, t ≤ n → WW E cX7_copy RX7 7 _ 104 [.ref 50, .int (nI k), .int (nI f), .int (nI q), .int (nI g), .int (nI n), .int (nI t)] (ucp h 52 (40 * k + f) 53 0 t) [] from lp_104 0 (by omega)
      refine lpi n (fun t hk_t ih_104 => ?_)
      refine s_iload (pc := 104) rfl dX7_copy_104 ?_
      refine s_iload (pc := 106) rfl dX7_copy_106 ?_
      refine s_icmp_geN (pc := 108) (by omega) (by omega) 138 dX7_copy_108 (by decide) (fun c_108 => ?_) (fun c_108 => ?_)
      · refine s_iconst (pc := 138) (k_i0N) dX7_copy_138 ?_
        refine s_istore (pc := 139) (by decide) rfl dX7_copy_139 ?_
        obtain rfl : t = n := by omega
        refine WW.hp (ucp_0 (ucp h 52 (40 * k + f) 53 0 t) 53 0 52 (40 * q + g)).symm ?_
        suffices lp_141 : ∀ z, z ≤ t → WW E cX7_copy RX7 7 _ 141 [.ref 50, .int (nI k), .int (nI f), .int (nI q), .int (nI g), .int (nI t), .int (nI z)] (ucp (ucp h 52 (40 * k + f) 53 0 t) 53 0 52 (40 * q + g) z) [] from lp_141 0 (by omega)
        refine lpi t (fun z hk_z ih_141 => ?_)
        refine s_iload (pc := 141) rfl dX7_copy_141 ?_
        refine s_iload (pc := 143) rfl dX7_copy_143 ?_
        refine s_icmp_geN (pc := 145) (by omega) (by omega) 176 dX7_copy_145 (by decide) (fun c_145 => ?_) (fun c_145 => ?_)
        · obtain rfl : z = t := by omega
          refine s_iconst (pc := 176) (k_i1N) dX7_copy_176 ?_
          refine s_iret (pc := 177) dX7_copy_177 (PostE.of hp ?_ ?_)
          · rfl
          · rfl
        · refine s_aload_n (pc := 148) 0 rfl rfl dX7_copy_148 ?_
          refine s_getr (pc := 149) (b := 52) fl_X7_13 rfl rfl rfl dX7_copy_149 ?_
          refine s_bipush (pc := 152) (k_b40N) dX7_copy_152 ?_
          refine s_iload_n (pc := 154) 3 rfl rfl dX7_copy_154 ?_
          refine s_imulN (pc := 155) dX7_copy_155 ?_
          refine s_iload (pc := 156) rfl dX7_copy_156 ?_
          refine s_iaddN (pc := 158) dX7_copy_158 ?_
          refine s_iload (pc := 159) rfl dX7_copy_159 ?_
          refine s_iaddN (pc := 161) dX7_copy_161 ?_
          refine s_aload_n (pc := 162) 0 rfl rfl dX7_copy_162 ?_
          refine s_getr (pc := 163) (b := 53) fl_X7_16 rfl rfl rfl dX7_copy_163 ?_
          refine s_iload (pc := 166) rfl dX7_copy_166 ?_
          refine s_ialdE (pc := 168) (_) rfl rfl (by omega) (ucp_ne (by decide)) dX7_copy_168 ?_
          refine s_iast (pc := 169) (_) rfl rfl (by omega) dX7_copy_169 ?_
          refine s_iincN (pc := 170) rfl (by decide) rfl dX7_copy_170 ?_
          refine s_goto (pc := 173) 141 dX7_copy_173 (by decide) ?_
          rw [ucp_s _ 53 0 52 (40 * q + g) z (by rw [Nat.zero_add])]
          exact ih_141 (by omega)
      · refine s_aload_n (pc := 111) 0 rfl rfl dX7_copy_111 ?_
        refine s_getr (pc := 112) (b := 53) fl_X7_16 rfl rfl rfl dX7_copy_112 ?_
        refine s_iload (pc := 115) rfl dX7_copy_115 ?_
        refine s_aload_n (pc := 117) 0 rfl rfl dX7_copy_117 ?_
        refine s_getr (pc := 118) (b := 52) fl_X7_13 rfl rfl rfl dX7_copy_118 ?_
        refine s_bipush (pc := 121) (k_b40N) dX7_copy_121 ?_
        refine s_iload_n (pc := 123) 1 rfl rfl dX7_copy_123 ?_
        refine s_imulN (pc := 124) dX7_copy_124 ?_
        refine s_iload_n (pc := 125) 2 rfl rfl dX7_copy_125 ?_
        refine s_iaddN (pc := 126) dX7_copy_126 ?_
        refine s_iload (pc := 127) rfl dX7_copy_127 ?_
        refine s_iaddN (pc := 129) dX7_copy_129 ?_
        refine s_ialdE (pc := 130) (_) rfl rfl (by omega) (ucp_ne (by decide)) dX7_copy_130 ?_
        refine s_iast (pc := 131) (_) rfl rfl (by omega) dX7_copy_131 ?_
        refine s_iincN (pc := 132) rfl (by decide) rfl dX7_copy_132 ?_
        refine s_goto (pc := 135) 104 dX7_copy_135 (by decide) ?_
        have us := ucp_s h 52 (40 * k + f) 53 0 t (v := h.1 52 (40 * k + f + t)) rfl
        rw [Nat.zero_add] at us
        rw [us]
        exact ih_104 (by omega)
    · exfalso; exact c_92 ((lcm' hg2 hn (by omega)).mpr hc2)

/-- berth p's ship: the places of a row behind berths() -/
def brC (h : Hp) (a : Nat → Nat) (r lo : Nat) : Nat → Hp
  | 0 => h
  | k + 1 => if (a 5).testBit k = true then ui (brC h a r lo k) r (lo + berthI a k (a 5)) (nI k) else brC h a r lo k
theorem brC_ne {h : Hp} {a : Nat → Nat} {r lo k x y : Nat} (hx : x ≠ r) : (brC h a r lo k).1 x y = h.1 x y := by
  induction k with
  | zero => rfl
  | succ k ih =>
    simp only [brC]
    split
    · rw [ui_ne hx]; exact ih
    · exact ih
theorem berth_lt {a : Nat → Nat} {i : Nat} (hO : OkA a) (hi : i < a 0) (hb : (a 5).testBit i = true) : berthI a i (a 5) < pop (a 5) := by
  have e := shift_eq (a := a) (i := i) (s := a 5) hO.1.1 (by have := hO.1.1; omega) hO.1.2.2.2.2.2.1 hO.in64
  have c : pop (clrN (a 5) i) + 1 = pop (a 5) := by
    have q : ∀ s, s < 64 → ∀ i, i < 6 → s.testBit i = true → pop (clrN s i) + 1 = pop s := by decide +kernel
    exact q _ hO.in64 i (by have := hO.1.1; omega) hb
  omega

set_option maxRecDepth 20000 in
theorem c_X6_berthsB {s : Int32} {h : Hp} (hm : h.1 1 0 = nI 6) (hb : s < 0 ∨ nI 6 ≤ s) : CT 4 yX6_berths cX6_berths 4 (some .int) [.ref 0, .int s] h (some (.int (-1))) (h) := by
  refine CT.of (own := RX6) rfl (by decide) (ro_i _) [.ref 0, .int s, .null, .null] rfl (Nat.le_of_ble_eq_true rfl) (fun E hp => ?_)
  refine s_aload_n (pc := 0) 0 rfl rfl dX6_berths_0 ?_
  refine s_getr (pc := 1) (b := 1) fl_X6_14 rfl rfl rfl dX6_berths_1 ?_
  refine s_iload_n (pc := 4) 1 rfl rfl dX6_berths_4 ?_
  refine s_cvi1 (pc := 5) (c_X5_isNumber_1F hm hb) ml_X6_96 mw_X5_isNumber rfl (by decide) (Nat.le_of_ble_eq_true rfl) dX6_berths_5 ?_
  refine s_if_neF (pc := 8) 13 dX6_berths_8 (by decide) ?_
  refine s_iconst (pc := 11) (k_im1) dX6_berths_11 ?_
  refine s_iret (pc := 12) dX6_berths_12 (PostE.of hp ?_ ?_)
  · rfl
  · rfl

set_option maxRecDepth 20000 in
theorem c_X6_berthsE {k : Nat} {a : Nat → Nat} {h : Hp} (hR : RC a h) (hO : OkA a) (hm : h.1 1 0 = nI 6) (hk : k < 6) (h0 : a 0 = 0) : CT 4 yX6_berths cX6_berths 4 (some .int) [.ref 0, .int (nI k)] h (some (.int (-4))) (h) := by
  refine CT.of (own := RX6) rfl (by decide) (ro_i _) [.ref 0, .int (nI k), .null, .null] rfl (Nat.le_of_ble_eq_true rfl) (fun E hp => ?_)
  refine s_aload_n (pc := 0) 0 rfl rfl dX6_berths_0 ?_
  refine s_getr (pc := 1) (b := 1) fl_X6_14 rfl rfl rfl dX6_berths_1 ?_
  refine s_iload_n (pc := 4) 1 rfl rfl dX6_berths_4 ?_
  refine s_cvi1 (pc := 5) (c_X5_isNumber_1T hm hk) ml_X6_96 mw_X5_isNumber rfl (by decide) (Nat.le_of_ble_eq_true rfl) dX6_berths_5 ?_
  refine s_if_neT (pc := 8) 13 dX6_berths_8 (by decide) ?_
  refine s_aload_n (pc := 13) 0 rfl rfl dX6_berths_13 ?_
  refine s_getr (pc := 14) (b := 23) fl_X6_27 rfl rfl rfl dX6_berths_14 ?_
  refine s_cvi0 (pc := 17) (c_X2_isEmpty hR.1 hO.1.1) ml_X6_170 mw_X2_isEmpty rfl (by decide) (Nat.le_of_ble_eq_true rfl) dX6_berths_17 ?_
  refine s_if_eqB (pc := 20) 26 dX6_berths_20 (by decide) (fun c_20 => ?_) (fun c_20 => ?_)
  · exfalso; omega
  · refine s_bipush (pc := 23) (k_bm4) dX6_berths_23 ?_
    refine s_iret (pc := 25) dX6_berths_25 (PostE.of hp ?_ ?_)
    · rfl
    · rfl

set_option maxRecDepth 20000 in
theorem c_X6_berthsO {q : Nat} {a : Nat → Nat} {h : Hp} (hR : RC a h) (hO : OkA a) (hm : h.1 1 0 = nI 6) (hq : h.1 1 1 = nI 40) (hk : q < 6) (h0 : 0 < a 0) : CT 5 yX6_berths cX6_berths 4 (some .int) [.ref 0, .int (nI q)] h (some (.int (nI (pop (a 5))))) (brC (fil (ui h 2 q (nI (pop (a 5)))) (3 + 1 + q) 0 40 (nI 0)) a (3 + 1 + q) 0 (a 0)) := by
  obtain ⟨⟨o0, o1, o2, o3, o4, o5, o6⟩, os⟩ := id hO
  have o64 := hO.in64
  have hC := hR.1
  obtain ⟨⟨r0, r1, r2, r4, r5, r6⟩, rs, P, rp, rP, rt⟩ := id hC
  have rg := hR.2
  have pp := pop_le (a 5)
  have fr : ∀ k x y, x ≠ 2 → x ≠ 3 + 1 + q → (brC (fil (ui h 2 q (nI (pop (a 5)))) (3 + 1 + q) 0 40 (nI 0)) a (3 + 1 + q) 0 k).1 x y = h.1 x y := fun k x y h1 h2 => by rw [brC_ne h2, fil_ne h2, ui_ne h1]
  have hRk : ∀ k, RC a (brC (fil (ui h 2 q (nI (pop (a 5)))) (3 + 1 + q) 0 40 (nI 0)) a (3 + 1 + q) 0 k) := fun k => hR.to (fun x y z => fr k x y (by have := z.1; omega) (by have := z.1; omega))
  have hmk : ∀ k, (brC (fil (ui h 2 q (nI (pop (a 5)))) (3 + 1 + q) 0 40 (nI 0)) a (3 + 1 + q) 0 k).1 1 0 = nI 6 := fun k => (fr k 1 0 (by decide) (by omega)).trans hm
  have hzk : ∀ k, (brC (fil (ui h 2 q (nI (pop (a 5)))) (3 + 1 + q) 0 40 (nI 0)) a (3 + 1 + q) 0 k).1 2 q = nI (pop (a 5)) := fun k => by rw [brC_ne (by omega), fil_ne (by omega)]; exact ui_eq
  refine CT.of (own := RX6) rfl (by decide) (ro_i _) [.ref 0, .int (nI q), .null, .null] rfl (Nat.le_of_ble_eq_true rfl) (fun E hp => ?_)
  refine s_aload_n (pc := 0) 0 rfl rfl dX6_berths_0 ?_
  refine s_getr (pc := 1) (b := 1) fl_X6_14 rfl rfl rfl dX6_berths_1 ?_
  refine s_iload_n (pc := 4) 1 rfl rfl dX6_berths_4 ?_
  refine s_cvi1 (pc := 5) (c_X5_isNumber_1T hm hk) ml_X6_96 mw_X5_isNumber rfl (by decide) (Nat.le_of_ble_eq_true rfl) dX6_berths_5 ?_
  refine s_if_neT (pc := 8) 13 dX6_berths_8 (by decide) ?_
  refine s_aload_n (pc := 13) 0 rfl rfl dX6_berths_13 ?_
  refine s_getr (pc := 14) (b := 23) fl_X6_27 rfl rfl rfl dX6_berths_14 ?_
  refine s_cvi0 (pc := 17) (c_X2_isEmpty hR.1 hO.1.1) ml_X6_170 mw_X2_isEmpty rfl (by decide) (Nat.le_of_ble_eq_true rfl) dX6_berths_17 ?_
  refine s_if_eqB (pc := 20) 26 dX6_berths_20 (by decide) (fun c_20 => ?_) (fun c_20 => ?_)
  · refine s_aload_n (pc := 26) 0 rfl rfl dX6_berths_26 ?_
    refine s_getr (pc := 27) (b := 23) fl_X6_27 rfl rfl rfl dX6_berths_27 ?_
    refine s_getiE (pc := 30) fl_X6_190 rfl rfl r5 dX6_berths_30 ?_
    refine s_csi1 (pc := 33) (c_J6_bitCount_0f7a4 o64) ml_X6_193 ms_J6_bitCount_0f7a4 (by decide) (Nat.le_of_ble_eq_true rfl) dX6_berths_33 ?_
    refine s_istore_n (pc := 36) 2 rfl (by decide) rfl dX6_berths_36 ?_
    refine s_aload_n (pc := 37) 0 rfl rfl dX6_berths_37 ?_
    refine s_getr (pc := 38) (b := 1) fl_X6_14 rfl rfl rfl dX6_berths_38 ?_
    refine s_iload_n (pc := 41) 1 rfl rfl dX6_berths_41 ?_
    refine s_iload_n (pc := 42) 2 rfl rfl dX6_berths_42 ?_
    refine s_iconst (pc := 43) (k_i0N) dX6_berths_43 ?_
    refine s_cvn3 (pc := 44) (c_X5_make_1 hm hq hk (by omega)) ml_X6_187 mw_X5_make rfl (by decide) (Nat.le_of_ble_eq_true rfl) dX6_berths_44 ?_
    refine s_iconst (pc := 47) (k_i0N) dX6_berths_47 ?_
    refine s_istore_n (pc := 48) 3 rfl (by decide) rfl dX6_berths_48 ?_
    suffices lp_49 : ∀ k, k ≤ a 0 → WW E cX6_berths RX6 4 _ 49 [.ref 0, .int (nI q), .int (nI (pop (a 5))), .int (nI k)] (brC (fil (ui h 2 q (nI (pop (a 5)))) (3 + 1 + q) 0 40 (nI 0)) a (3 + 1 + q) 0 k) [] from lp_49 (0) (by omega)
    refine lpi (a 0) (fun k hk_k ih_49 => ?_)
    refine s_iload_n (pc := 49) 3 rfl rfl dX6_berths_49 ?_
    refine s_aload_n (pc := 50) 0 rfl rfl dX6_berths_50 ?_
    refine s_getr (pc := 51) (b := 23) fl_X6_27 rfl rfl rfl dX6_berths_51 ?_
    refine s_getr (pc := 54) (b := 24) fl_X6_131 rfl rfl rfl dX6_berths_54 ?_
    refine s_getiE (pc := 57) fl_X6_137 rfl rfl ((hRk k).1.1.1) dX6_berths_57 ?_
    refine s_icmp_geN (pc := 60) (by omega) (by omega) 97 dX6_berths_60 (by decide) (fun c_60 => ?_) (fun c_60 => ?_)
    · obtain rfl : k = a 0 := by omega
      refine s_iload_n (pc := 97) 2 rfl rfl dX6_berths_97 ?_
      refine s_iret (pc := 98) dX6_berths_98 (PostE.of hp ?_ ?_)
      · rfl
      · rfl
    · refine s_aload_n (pc := 63) 0 rfl rfl dX6_berths_63 ?_
      refine s_getr (pc := 64) (b := 23) fl_X6_27 rfl rfl rfl dX6_berths_64 ?_
      refine s_iload_n (pc := 67) 3 rfl rfl dX6_berths_67 ?_
      refine s_cvi1 (pc := 68) (c_X2_isIn (hRk k).1 hO (by omega)) ml_X6_198 mw_X2_isIn rfl (by decide) (Nat.le_of_ble_eq_true rfl) dX6_berths_68 ?_
      refine s_if_eqB (pc := 71) 91 dX6_berths_71 (by decide) (fun c_71 => ?_) (fun c_71 => ?_)
      · refine s_iincN (pc := 91) rfl (by decide) rfl dX6_berths_91 ?_
        refine s_goto (pc := 94) 49 dX6_berths_94 (by decide) ?_
        refine WW.hp ?_ (ih_49 (by omega))
        simp only [brC]
        first | rw [if_pos c_71, Nat.zero_add] | rw [if_neg c_71]
      · refine s_aload_n (pc := 74) 0 rfl rfl dX6_berths_74 ?_
        refine s_getr (pc := 75) (b := 1) fl_X6_14 rfl rfl rfl dX6_berths_75 ?_
        refine s_iload_n (pc := 78) 1 rfl rfl dX6_berths_78 ?_
        refine s_aload_n (pc := 79) 0 rfl rfl dX6_berths_79 ?_
        refine s_getr (pc := 80) (b := 23) fl_X6_27 rfl rfl rfl dX6_berths_80 ?_
        refine s_iload_n (pc := 83) 3 rfl rfl dX6_berths_83 ?_
        refine s_cvi1 (pc := 84) (c_X2_berthNow (hRk k) hO (by omega)) ml_X6_201 mw_X2_berthNow rfl (by decide) (Nat.le_of_ble_eq_true rfl) dX6_berths_84 ?_
        refine s_iload_n (pc := 87) 3 rfl rfl dX6_berths_87 ?_
        refine s_cvn3 (pc := 88) (c_X5_set_1 (hmk k) hk (hzk k) (by omega) (berth_lt hO (by omega) c_71)) ml_X6_84 mw_X5_set rfl (by decide) (Nat.le_of_ble_eq_true rfl) dX6_berths_88 ?_
        refine s_iincN (pc := 91) rfl (by decide) rfl dX6_berths_91 ?_
        refine s_goto (pc := 94) 49 dX6_berths_94 (by decide) ?_
        refine WW.hp ?_ (ih_49 (by omega))
        simp only [brC]
        first | rw [if_pos c_71, Nat.zero_add] | rw [if_neg c_71]
  · exfalso; omega

set_option maxRecDepth 20000 in
theorem c_X7_berthsB {s : Int32} {h : Hp} (hb : s < 0 ∨ nI 6 ≤ s) : CT 3 yX7_berths cX7_berths 4 (some .int) [.ref 50, .int s] h (some (.int (-1))) (h) := by
  refine CT.of (own := RX7) rfl (by decide) (ro_i _) [.ref 50, .int s, .null, .null] rfl (Nat.le_of_ble_eq_true rfl) (fun E hp => ?_)
  refine s_iload_n (pc := 0) 1 rfl rfl dX7_berths_0 ?_
  refine s_csi1 (pc := 1) (c_X7_isRowF hb) ml_X7_68 ms_X7_isRow (by decide) (Nat.le_of_ble_eq_true rfl) dX7_berths_1 ?_
  refine s_if_neF (pc := 4) 9 dX7_berths_4 (by decide) ?_
  refine s_iconst (pc := 7) (k_im1) dX7_berths_7 ?_
  refine s_iret (pc := 8) dX7_berths_8 (PostE.of hp ?_ ?_)
  · rfl
  · rfl

set_option maxRecDepth 20000 in
theorem c_X7_berthsE {k : Nat} {a : Nat → Nat} {h : Hp} (hA : RM a h) (hO : OkA a) (hk : k < 6) (h0 : a 0 = 0) : CT 3 yX7_berths cX7_berths 4 (some .int) [.ref 50, .int (nI k)] h (some (.int (-4))) (h) := by
  refine CT.of (own := RX7) rfl (by decide) (ro_i _) [.ref 50, .int (nI k), .null, .null] rfl (Nat.le_of_ble_eq_true rfl) (fun E hp => ?_)
  refine s_iload_n (pc := 0) 1 rfl rfl dX7_berths_0 ?_
  refine s_csi1 (pc := 1) (c_X7_isRowT hk) ml_X7_68 ms_X7_isRow (by decide) (Nat.le_of_ble_eq_true rfl) dX7_berths_1 ?_
  refine s_if_neT (pc := 4) 9 dX7_berths_4 (by decide) ?_
  refine s_aload_n (pc := 9) 0 rfl rfl dX7_berths_9 ?_
  refine s_cvi0 (pc := 10) (c_X7_are hA hO.1.1) ml_X7_198 mw_X7_are rfl (by decide) (Nat.le_of_ble_eq_true rfl) dX7_berths_10 ?_
  refine s_if_neB (pc := 13) 19 dX7_berths_13 (by decide) (fun c_13 => ?_) (fun c_13 => ?_)
  · exfalso; omega
  · refine s_bipush (pc := 16) (k_bm4) dX7_berths_16 ?_
    refine s_iret (pc := 18) dX7_berths_18 (PostE.of hp ?_ ?_)
    · rfl
    · rfl

set_option maxRecDepth 20000 in
theorem c_X7_berthsO {q : Nat} {a : Nat → Nat} {h : Hp} (hA : RM a h) (hO : OkA a) (hk : q < 6) (h0 : 0 < a 0) : CT 5 yX7_berths cX7_berths 4 (some .int) [.ref 50, .int (nI q)] h (some (.int (nI (pop (a 5))))) (brC (layM h q (nI (pop (a 5)))) a 52 (40 * q) (a 0)) := by
  obtain ⟨⟨o0, o1, o2, o3, o4, o5, o6⟩, os⟩ := id hO
  have o64 := hO.in64
  have pp := pop_le (a 5)
  have fr : ∀ k y, (brC (layM h q (nI (pop (a 5)))) a 52 (40 * q) k).1 56 y = h.1 56 y := fun k y => by rw [brC_ne (by decide), layM, fil_ne (by decide), ui_ne (by decide)]
  have hAk : ∀ k, RM a (brC (layM h q (nI (pop (a 5)))) a 52 (40 * q) k) := fun k j hj => (fr k j).trans (hA j hj)
  refine CT.of (own := RX7) rfl (by decide) (ro_i _) [.ref 50, .int (nI q), .null, .null] rfl (Nat.le_of_ble_eq_true rfl) (fun E hp => ?_)
  refine s_iload_n (pc := 0) 1 rfl rfl dX7_berths_0 ?_
  refine s_csi1 (pc := 1) (c_X7_isRowT hk) ml_X7_68 ms_X7_isRow (by decide) (Nat.le_of_ble_eq_true rfl) dX7_berths_1 ?_
  refine s_if_neT (pc := 4) 9 dX7_berths_4 (by decide) ?_
  refine s_aload_n (pc := 9) 0 rfl rfl dX7_berths_9 ?_
  refine s_cvi0 (pc := 10) (c_X7_are hA hO.1.1) ml_X7_198 mw_X7_are rfl (by decide) (Nat.le_of_ble_eq_true rfl) dX7_berths_10 ?_
  refine s_if_neB (pc := 13) 19 dX7_berths_13 (by decide) (fun c_13 => ?_) (fun c_13 => ?_)
  · refine s_aload_n (pc := 19) 0 rfl rfl dX7_berths_19 ?_
    refine s_getr (pc := 20) (b := 56) fl_X7_25 rfl rfl rfl dX7_berths_20 ?_
    refine s_iconst (pc := 23) (k_i5N) dX7_berths_23 ?_
    refine s_ialdN (pc := 24) (_) rfl rfl (by omega) (hA _ (by omega)) dX7_berths_24 ?_
    refine s_csi1 (pc := 25) (c_X7_ones (by omega)) ml_X7_153 ms_X7_ones (by decide) (Nat.le_of_ble_eq_true rfl) dX7_berths_25 ?_
    refine s_istore_n (pc := 28) 2 rfl (by decide) rfl dX7_berths_28 ?_
    refine s_aload_n (pc := 29) 0 rfl rfl dX7_berths_29 ?_
    refine s_iload_n (pc := 30) 1 rfl rfl dX7_berths_30 ?_
    refine s_iload_n (pc := 31) 2 rfl rfl dX7_berths_31 ?_
    refine s_cvn2 (pc := 32) (c_X7_lays hk) ml_X7_76 mw_X7_lays rfl (by decide) (Nat.le_of_ble_eq_true rfl) dX7_berths_32 ?_
    refine s_iconst (pc := 35) (k_i0N) dX7_berths_35 ?_
    refine s_istore_n (pc := 36) 3 rfl (by decide) rfl dX7_berths_36 ?_
    suffices lp_37 : ∀ k, k ≤ a 0 → WW E cX7_berths RX7 4 _ 37 [.ref 50, .int (nI q), .int (nI (pop (a 5))), .int (nI k)] (brC (layM h q (nI (pop (a 5)))) a 52 (40 * q) k) [] from lp_37 (0) (by omega)
    refine lpi (a 0) (fun k hk_k ih_37 => ?_)
    refine s_iload_n (pc := 37) 3 rfl rfl dX7_berths_37 ?_
    refine s_aload_n (pc := 38) 0 rfl rfl dX7_berths_38 ?_
    refine s_getr (pc := 39) (b := 56) fl_X7_25 rfl rfl rfl dX7_berths_39 ?_
    refine s_iconst (pc := 42) (k_i0N) dX7_berths_42 ?_
    refine s_ialdN (pc := 43) (_) rfl rfl (by omega) (hAk k _ (by omega)) dX7_berths_43 ?_
    refine s_icmp_geN (pc := 44) (by omega) (by omega) 88 dX7_berths_44 (by decide) (fun c_44 => ?_) (fun c_44 => ?_)
    · obtain rfl : k = a 0 := by omega
      refine s_iload_n (pc := 88) 2 rfl rfl dX7_berths_88 ?_
      refine s_iret (pc := 89) dX7_berths_89 (PostE.of hp ?_ ?_)
      · rfl
      · rfl
    · refine s_aload_n (pc := 47) 0 rfl rfl dX7_berths_47 ?_
      refine s_getr (pc := 48) (b := 56) fl_X7_25 rfl rfl rfl dX7_berths_48 ?_
      refine s_iconst (pc := 51) (k_i5N) dX7_berths_51 ?_
      refine s_ialdN (pc := 52) (_) rfl rfl (by omega) (hAk k _ (by omega)) dX7_berths_52 ?_
      refine s_iload_n (pc := 53) 3 rfl rfl dX7_berths_53 ?_
      refine s_csi2 (pc := 54) (c_X7_has (by omega) (by omega)) ml_X7_146 ms_X7_has (by decide) (Nat.le_of_ble_eq_true rfl) dX7_berths_54 ?_
      refine s_if_eqB (pc := 57) 82 dX7_berths_57 (by decide) (fun c_57 => ?_) (fun c_57 => ?_)
      · refine s_iincN (pc := 82) rfl (by decide) rfl dX7_berths_82 ?_
        refine s_goto (pc := 85) 37 dX7_berths_85 (by decide) ?_
        refine WW.hp ?_ (ih_37 (by omega))
        simp only [brC]
        first | rw [if_pos c_57] | rw [if_neg c_57]
      · refine s_aload_n (pc := 60) 0 rfl rfl dX7_berths_60 ?_
        refine s_getr (pc := 61) (b := 52) fl_X7_13 rfl rfl rfl dX7_berths_61 ?_
        refine s_bipush (pc := 64) (k_b40N) dX7_berths_64 ?_
        refine s_iload_n (pc := 66) 1 rfl rfl dX7_berths_66 ?_
        refine s_imulN (pc := 67) dX7_berths_67 ?_
        refine s_aload_n (pc := 68) 0 rfl rfl dX7_berths_68 ?_
        refine s_iload_n (pc := 69) 3 rfl rfl dX7_berths_69 ?_
        refine s_aload_n (pc := 70) 0 rfl rfl dX7_berths_70 ?_
        refine s_getr (pc := 71) (b := 56) fl_X7_25 rfl rfl rfl dX7_berths_71 ?_
        refine s_iconst (pc := 74) (k_i5N) dX7_berths_74 ?_
        refine s_ialdN (pc := 75) (_) rfl rfl (by omega) (hAk k _ (by omega)) dX7_berths_75 ?_
        refine s_cvi2 (pc := 76) (c_X7_berthIn (hAk k) hO (by omega) (by omega)) ml_X7_156 mw_X7_berthIn rfl (by decide) (Nat.le_of_ble_eq_true rfl) dX7_berths_76 ?_
        refine s_iaddN (pc := 79) dX7_berths_79 ?_
        refine s_iload_n (pc := 80) 3 rfl rfl dX7_berths_80 ?_
        refine s_iast (pc := 81) (_) rfl rfl (by have := berth_lt hO (show k < a 0 by omega) c_57; omega) dX7_berths_81 ?_
        refine s_iincN (pc := 82) rfl (by decide) rfl dX7_berths_82 ?_
        refine s_goto (pc := 85) 37 dX7_berths_85 (by decide) ?_
        refine WW.hp ?_ (ih_37 (by omega))
        simp only [brC]
        first | rw [if_pos c_57] | rw [if_neg c_57]
  · exfalso; omega
