theorem or_bit {x k : Nat} (h : x < 2 ^ k) : x ||| 2 ^ k = x + 2 ^ k := by
  have := Nat.two_pow_add_eq_or_of_lt h 1
  rw [Nat.mul_one] at this
  rw [Nat.or_comm, ← this, Nat.add_comm]
theorem bitsU_t {n : Nat} {p : Nat → Bool} (h : p n = true) : bitsU n p ||| 2 ^ n = bitsU (n + 1) p := by rw [or_bit (bitsU_lt n p)]; simp [bitsU, h]
theorem bitsU_f {n : Nat} {p : Nat → Bool} (h : ¬ p n = true) : bitsU n p ||| 0 = bitsU (n + 1) p := by rw [Nat.or_zero]; simp [bitsU, h]
theorem bitsU_lt64 {n : Nat} (p : Nat → Bool) (h : n ≤ 6) : bitsU n p < 64 := Nat.lt_of_lt_of_le (bitsU_lt n p) (Nat.pow_le_pow_right (n := 2) (by decide) h)
theorem pow_lt31 {k : Nat} (h : k ≤ 6) : 2 ^ k < 2 ^ 31 := Nat.pow_lt_pow_right (by decide) (by omega)
theorem exc_le {a : Nat → Nat} {i : Nat} (h : sh a i 4 ≤ 9) : excN a i ≤ 9 := by unfold excN; split <;> omega

set_option maxRecDepth 20000 in
theorem c_X7_excess {i : Nat} {a : Nat → Nat} {h : Hp} (hA : RM a h) (hO : OkA a) (hi : i < a 0) : CT 5 yX7_excess cX7_excess 3 (some .int) [.ref 50, .int (nI i)] h (some (.int (nI (excN a i)))) (h) := by
  obtain ⟨⟨o0, o1, o2, o3, o4, o5, o6⟩, os⟩ := id hO
  have o64 := hO.in64
  obtain ⟨s0, s1, s2, s3, s4, s5, s6, s7⟩ := os i hi
  have bl : berthI a i (a 5) ≤ a 0 := berth_le _ _ _ _ _
  have en := exc_neg (x := sh a i 4) (b := berthI a i (a 5)) (by omega) (by omega)
  have ep := exc_pos (x := sh a i 4) (b := berthI a i (a 5))
  have eg : 0 ≤ nI (sh a i 4) - nI (berthI a i (a 5)) - nI 2 → berthI a i (a 5) + 2 ≤ sh a i 4 := fun z => Nat.le_of_not_lt (fun q => absurd z (Int32.not_le.mpr (en.mpr q)))
  refine CT.of (own := RX7) rfl (by decide) (ro_i _) [.ref 50, .int (nI i), .null] rfl (Nat.le_of_ble_eq_true rfl) (fun E hp => ?_)
  refine s_aload_n (pc := 0) 0 rfl rfl dX7_excess_0 ?_
  refine s_getr (pc := 1) (b := 56) fl_X7_25 rfl rfl rfl dX7_excess_1 ?_
  refine s_iconst (pc := 4) (k_i5N) dX7_excess_4 ?_
  refine s_ialdN (pc := 5) (_) rfl rfl (by omega) (hA _ (by omega)) dX7_excess_5 ?_
  refine s_iload_n (pc := 6) 1 rfl rfl dX7_excess_6 ?_
  refine s_csi2 (pc := 7) (c_X7_has (by omega) (by omega)) ml_X7_146 ms_X7_has (by decide) (Nat.le_of_ble_eq_true rfl) dX7_excess_7 ?_
  refine s_if_eqB (pc := 10) 36 dX7_excess_10 (by decide) (fun c_10 => ?_) (fun c_10 => ?_)
  · refine s_iconst (pc := 36) (k_i0N) dX7_excess_36 ?_
    refine s_istore_n (pc := 37) 2 rfl (by decide) rfl dX7_excess_37 ?_
    refine s_iload_n (pc := 38) 2 rfl rfl dX7_excess_38 ?_
    refine s_if_geN (pc := 39) (by omega) 46 dX7_excess_39 (by decide) ?_
    refine s_iload_n (pc := 46) 2 rfl rfl dX7_excess_46 ?_
    refine s_iret (pc := 47) dX7_excess_47 (PostE.of hp ?_ ?_)
    · first | exact retn (by unfold excN; rw [if_neg c_10]) | exact retn (by unfold excN; rw [if_pos c_10]; have := en.mp (Int32.not_le.mp c_39); omega) | (unfold excN; rw [if_pos c_10, ep (eg c_39)])
    · rfl
  · refine s_aload_n (pc := 13) 0 rfl rfl dX7_excess_13 ?_
    refine s_iload_n (pc := 14) 1 rfl rfl dX7_excess_14 ?_
    refine s_iconst (pc := 15) (k_i4N) dX7_excess_15 ?_
    refine s_cvi2 (pc := 16) (c_X7_of hA (by omega) (by decide)) ml_X7_126 mw_X7_of rfl (by decide) (Nat.le_of_ble_eq_true rfl) dX7_excess_16 ?_
    refine s_aload_n (pc := 19) 0 rfl rfl dX7_excess_19 ?_
    refine s_iload_n (pc := 20) 1 rfl rfl dX7_excess_20 ?_
    refine s_aload_n (pc := 21) 0 rfl rfl dX7_excess_21 ?_
    refine s_getr (pc := 22) (b := 56) fl_X7_25 rfl rfl rfl dX7_excess_22 ?_
    refine s_iconst (pc := 25) (k_i5N) dX7_excess_25 ?_
    refine s_ialdN (pc := 26) (_) rfl rfl (by omega) (hA _ (by omega)) dX7_excess_26 ?_
    refine s_cvi2 (pc := 27) (c_X7_berthIn hA hO hi (by omega)) ml_X7_156 mw_X7_berthIn rfl (by decide) (Nat.le_of_ble_eq_true rfl) dX7_excess_27 ?_
    refine s_isub (pc := 30) dX7_excess_30 ?_
    refine s_iconst (pc := 31) (k_i2N) dX7_excess_31 ?_
    refine s_isub (pc := 32) dX7_excess_32 ?_
    refine s_goto (pc := 33) 37 dX7_excess_33 (by decide) ?_
    refine s_istore_n (pc := 37) 2 rfl (by decide) rfl dX7_excess_37 ?_
    refine s_iload_n (pc := 38) 2 rfl rfl dX7_excess_38 ?_
    refine s_if_ge (pc := 39) 46 dX7_excess_39 (by decide) (fun c_39 => ?_) (fun c_39 => ?_)
    · refine s_iload_n (pc := 46) 2 rfl rfl dX7_excess_46 ?_
      refine s_iret (pc := 47) dX7_excess_47 (PostE.of hp ?_ ?_)
      · first | exact retn (by unfold excN; rw [if_neg c_10]) | exact retn (by unfold excN; rw [if_pos c_10]; have := en.mp (Int32.not_le.mp c_39); omega) | (unfold excN; rw [if_pos c_10, ep (eg c_39)])
      · rfl
    · refine s_iconst (pc := 42) (k_i0N) dX7_excess_42 ?_
      refine s_goto (pc := 43) 47 dX7_excess_43 (by decide) ?_
      refine s_iret (pc := 47) dX7_excess_47 (PostE.of hp ?_ ?_)
      · first | exact retn (by unfold excN; rw [if_neg c_10]) | exact retn (by unfold excN; rw [if_pos c_10]; have := en.mp (Int32.not_le.mp c_39); omega) | (unfold excN; rw [if_pos c_10, ep (eg c_39)])
      · rfl

set_option maxRecDepth 20000 in
theorem c_X7_grounded {a : Nat → Nat} {h : Hp} (hA : RM a h) (hO : OkA a) : CT 6 yX7_grounded cX7_grounded 3 (some .int) [.ref 50] h (some (.int (nI (grdN a)))) (h) := by
  obtain ⟨⟨o0, o1, o2, o3, o4, o5, o6⟩, os⟩ := id hO
  have o64 := hO.in64
  refine CT.of (own := RX7) rfl (by decide) (ro_i _) [.ref 50, .null, .null] rfl (Nat.le_of_ble_eq_true rfl) (fun E hp => ?_)
  refine s_iconst (pc := 0) (k_i0N) dX7_grounded_0 ?_
  refine s_istore_n (pc := 1) 1 rfl (by decide) rfl dX7_grounded_1 ?_
  refine s_iconst (pc := 2) (k_i0N) dX7_grounded_2 ?_
  refine s_istore_n (pc := 3) 2 rfl (by decide) rfl dX7_grounded_3 ?_
  suffices lp_4 : ∀ k, k ≤ a 0 → WW E cX7_grounded RX7 3 _ 4 [.ref 50, .int (nI (bitsU k (fun i => decide (0 < excN a i)))), .int (nI k)] (h) [] from lp_4 (0) (by omega)
  refine lpi (a 0) (fun k hk_k ih_4 => ?_)
  refine s_iload_n (pc := 4) 2 rfl rfl dX7_grounded_4 ?_
  refine s_aload_n (pc := 5) 0 rfl rfl dX7_grounded_5 ?_
  refine s_getr (pc := 6) (b := 56) fl_X7_25 rfl rfl rfl dX7_grounded_6 ?_
  refine s_iconst (pc := 9) (k_i0N) dX7_grounded_9 ?_
  refine s_ialdN (pc := 10) (_) rfl rfl (by omega) (hA _ (by omega)) dX7_grounded_10 ?_
  refine s_icmp_geN (pc := 11) (by omega) (by omega) 38 dX7_grounded_11 (by decide) (fun c_11 => ?_) (fun c_11 => ?_)
  · obtain rfl : k = a 0 := by omega
    refine s_iload_n (pc := 38) 1 rfl rfl dX7_grounded_38 ?_
    refine s_iret (pc := 39) dX7_grounded_39 (PostE.of hp ?_ ?_)
    · rfl
    · rfl
  · refine s_iload_n (pc := 14) 1 rfl rfl dX7_grounded_14 ?_
    refine s_aload_n (pc := 15) 0 rfl rfl dX7_grounded_15 ?_
    refine s_iload_n (pc := 16) 2 rfl rfl dX7_grounded_16 ?_
    have xl := exc_le (a := a) (i := k) (os k (by omega)).2.2.2.2.1
    have bl := bitsU_lt64 (n := k) (fun i => decide (0 < excN a i)) (by omega)
    have pl := pow_lt31 (k := k) (by omega)
    refine s_cvi1 (pc := 17) (c_X7_excess hA hO (by omega)) ml_X7_188 mw_X7_excess rfl (by decide) (Nat.le_of_ble_eq_true rfl) dX7_grounded_17 ?_
    refine s_if_leN (pc := 20) (by omega) 29 dX7_grounded_20 (by decide) (fun c_20 => ?_) (fun c_20 => ?_)
    · refine s_iconst (pc := 29) (k_i0N) dX7_grounded_29 ?_
      refine s_iorN (pc := 30) (by omega) (by omega) dX7_grounded_30 ?_
      first | rw [bitsU_t (p := fun i => decide (0 < excN a i)) (by simp only [decide_eq_true_eq]; exact c_20)] | rw [bitsU_f (p := fun i => decide (0 < excN a i)) (by simp only [decide_eq_true_eq]; omega)]
      refine s_istore_n (pc := 31) 1 rfl (by decide) rfl dX7_grounded_31 ?_
      refine s_iincN (pc := 32) rfl (by decide) rfl dX7_grounded_32 ?_
      refine s_goto (pc := 35) 4 dX7_grounded_35 (by decide) ?_
      exact ih_4 (by omega)
    · refine s_iconst (pc := 23) (k_i1N) dX7_grounded_23 ?_
      refine s_iload_n (pc := 24) 2 rfl rfl dX7_grounded_24 ?_
      refine s_ishl1N (pc := 25) (by omega) dX7_grounded_25 ?_
      refine s_goto (pc := 26) 30 dX7_grounded_26 (by decide) ?_
      refine s_iorN (pc := 30) (by omega) (by omega) dX7_grounded_30 ?_
      first | rw [bitsU_t (p := fun i => decide (0 < excN a i)) (by simp only [decide_eq_true_eq]; exact c_20)] | rw [bitsU_f (p := fun i => decide (0 < excN a i)) (by simp only [decide_eq_true_eq]; omega)]
      refine s_istore_n (pc := 31) 1 rfl (by decide) rfl dX7_grounded_31 ?_
      refine s_iincN (pc := 32) rfl (by decide) rfl dX7_grounded_32 ?_
      refine s_goto (pc := 35) 4 dX7_grounded_35 (by decide) ?_
      exact ih_4 (by omega)

set_option maxRecDepth 20000 in
theorem c_X7_grounds {s : Nat} {a : Nat → Nat} {h : Hp} (hn : a 0 ≤ 6) (hs : s < 2 ^ 31) : CT 2 yX7_grounds cX7_grounds 4 none [.ref 50, .int (nI s), .int (nI 1)] (wN h a) (none) (wN h (grN a s (a 0))) := by
  refine CT.of (own := RX7) rfl (by decide) ro_v [.ref 50, .int (nI s), .int (nI 1), .null] rfl (Nat.le_of_ble_eq_true rfl) (fun E hp => ?_)
  refine s_iconst (pc := 0) (k_i0N) dX7_grounds_0 ?_
  refine s_istore_n (pc := 1) 3 rfl (by decide) rfl dX7_grounds_1 ?_
  rw [show wN h a = wN h (grN a s 0) by rw [grN_0]]
  suffices lp_2 : ∀ k, k ≤ a 0 → WW E cX7_grounds RX7 4 _ 2 [.ref 50, .int (nI s), .int (nI 1), .int (nI k)] (wN h (grN a s k)) [] from lp_2 0 (by omega)
  refine lpi (a 0) (fun k hk_k ih_2 => ?_)
  refine s_iload_n (pc := 2) 3 rfl rfl dX7_grounds_2 ?_
  refine s_aload_n (pc := 3) 0 rfl rfl dX7_grounds_3 ?_
  refine s_getr (pc := 4) (b := 56) fl_X7_25 rfl rfl rfl dX7_grounds_4 ?_
  refine s_iconst (pc := 7) (k_i0N) dX7_grounds_7 ?_
  refine s_ialdN (pc := 8) (v := a 0) (_) rfl rfl (by omega) (by rw [RMw _ _ _ (by omega)]; exact congrArg nI (grN_lo _ _ _ _ (by omega))) dX7_grounds_8 ?_
  refine s_icmp_geN (pc := 9) (by omega) (by omega) 49 dX7_grounds_9 (by decide) (fun c_9 => ?_) (fun c_9 => ?_)
  · obtain rfl : k = a 0 := by omega
    refine s_vret (pc := 49) dX7_grounds_49 (PostE.of hp ?_ ?_)
    · rfl
    · rfl
  · refine s_aload_n (pc := 12) 0 rfl rfl dX7_grounds_12 ?_
    refine s_getr (pc := 13) (b := 56) fl_X7_25 rfl rfl rfl dX7_grounds_13 ?_
    refine s_bipush (pc := 16) (k_b7N) dX7_grounds_16 ?_
    refine s_bipush (pc := 18) (k_b8N) dX7_grounds_18 ?_
    refine s_iload_n (pc := 20) 3 rfl rfl dX7_grounds_20 ?_
    refine s_imulN (pc := 21) dX7_grounds_21 ?_
    refine s_iaddN (pc := 22) dX7_grounds_22 ?_
    refine s_bipush (pc := 23) (k_b7N) dX7_grounds_23 ?_
    refine s_iaddN (pc := 25) dX7_grounds_25 ?_
    refine s_dup2 (pc := 26) rfl rfl dX7_grounds_26 ?_
    refine s_ialdN (pc := 27) (v := a (7 + 8 * k + 7)) (_) rfl rfl (by omega) (by rw [RMw _ _ _ (by omega)]; exact congrArg nI (grN_k _ _ _)) dX7_grounds_27 ?_
    refine s_iload_n (pc := 28) 1 rfl rfl dX7_grounds_28 ?_
    refine s_iload_n (pc := 29) 3 rfl rfl dX7_grounds_29 ?_
    refine s_csi2 (pc := 30) (c_X7_has hs (by omega)) ml_X7_146 ms_X7_has (by decide) (Nat.le_of_ble_eq_true rfl) dX7_grounds_30 ?_
    refine s_if_eqB (pc := 33) 40 dX7_grounds_33 (by decide) (fun c_33 => ?_) (fun c_33 => ?_)
    · refine s_iconst (pc := 40) (k_i0N) dX7_grounds_40 ?_
      refine s_iaddN (pc := 41) dX7_grounds_41 ?_
      refine s_iast (pc := 42) (_) rfl rfl (by omega) dX7_grounds_42 ?_
      rw [wN_ui (by omega)]
      refine s_iincN (pc := 43) rfl (by decide) rfl dX7_grounds_43 ?_
      refine s_goto (pc := 46) 2 dX7_grounds_46 (by decide) ?_
      first | rw [grN_s a s k _ (by rw [if_pos c_33])] | rw [grN_s a s k _ (by rw [if_neg c_33])]
      exact ih_2 (by omega)
    · refine s_iload_n (pc := 36) 2 rfl rfl dX7_grounds_36 ?_
      refine s_goto (pc := 37) 41 dX7_grounds_37 (by decide) ?_
      refine s_iaddN (pc := 41) dX7_grounds_41 ?_
      refine s_iast (pc := 42) (_) rfl rfl (by omega) dX7_grounds_42 ?_
      rw [wN_ui (by omega)]
      refine s_iincN (pc := 43) rfl (by decide) rfl dX7_grounds_43 ?_
      refine s_goto (pc := 46) 2 dX7_grounds_46 (by decide) ?_
      first | rw [grN_s a s k _ (by rw [if_pos c_33])] | rw [grN_s a s k _ (by rw [if_neg c_33])]
      exact ih_2 (by omega)

set_option maxRecDepth 20000 in
theorem c_X7_ebbs {a : Nat → Nat} {h : Hp} (hO : OkA a) (h3 : a 3 < 40) : CT 7 yX7_ebbs cX7_ebbs 2 (some .int) [.ref 50] (wN h a) (some (.int (nI (grdN a)))) (wN h (ebbsN a)) := by
  obtain ⟨⟨o0, o1, o2, o3, o4, o5, o6⟩, os⟩ := id hO
  have o64 := hO.in64
  have gl := bitsU_lt64 (n := a 0) (fun i => decide (0 < excN a i)) o0
  have gl2 : grdN a < 64 := gl
  have n0 : noteN a 3 (a 4) (grdN a) 0 0 = a 0 := noteN_lo (by omega) (by omega)
  refine CT.of (own := RX7) rfl (by decide) (ro_i _) [.ref 50, .null] rfl (Nat.le_of_ble_eq_true rfl) (fun E hp => ?_)
  refine s_aload_n (pc := 0) 0 rfl rfl dX7_ebbs_0 ?_
  refine s_cvi0 (pc := 1) (c_X7_grounded (RMw h a) hO) ml_X7_191 mw_X7_grounded rfl (by decide) (Nat.le_of_ble_eq_true rfl) dX7_ebbs_1 ?_
  refine s_istore_n (pc := 4) 1 rfl (by decide) rfl dX7_ebbs_4 ?_
  refine s_aload_n (pc := 5) 0 rfl rfl dX7_ebbs_5 ?_
  refine s_iconst (pc := 6) (k_i3N) dX7_ebbs_6 ?_
  refine s_aload_n (pc := 7) 0 rfl rfl dX7_ebbs_7 ?_
  refine s_getr (pc := 8) (b := 56) fl_X7_25 rfl rfl rfl dX7_ebbs_8 ?_
  refine s_iconst (pc := 11) (k_i4N) dX7_ebbs_11 ?_
  refine s_ialdN (pc := 12) (_) rfl rfl (by omega) (RMw _ _ _ (by omega)) dX7_ebbs_12 ?_
  refine s_iload_n (pc := 13) 1 rfl rfl dX7_ebbs_13 ?_
  refine s_iconst (pc := 14) (k_i0N) dX7_ebbs_14 ?_
  refine s_cvn4 (pc := 15) (c_X7_notes h3) ml_X7_177 mw_X7_notes rfl (by decide) (Nat.le_of_ble_eq_true rfl) dX7_ebbs_15 ?_
  refine s_aload_n (pc := 18) 0 rfl rfl dX7_ebbs_18 ?_
  refine s_iload_n (pc := 19) 1 rfl rfl dX7_ebbs_19 ?_
  refine s_iconst (pc := 20) (k_i1N) dX7_ebbs_20 ?_
  refine s_cvn2 (pc := 21) (c_X7_grounds (a := noteN a 3 (a 4) (grdN a) 0) (by rw [n0]; exact o0) (by omega)) ml_X7_195 mw_X7_grounds rfl (by decide) (Nat.le_of_ble_eq_true rfl) dX7_ebbs_21 ?_
  rw [n0]
  refine s_aload_n (pc := 24) 0 rfl rfl dX7_ebbs_24 ?_
  refine s_getr (pc := 25) (b := 56) fl_X7_25 rfl rfl rfl dX7_ebbs_25 ?_
  refine s_iconst (pc := 28) (k_i4N) dX7_ebbs_28 ?_
  refine s_aload_n (pc := 29) 0 rfl rfl dX7_ebbs_29 ?_
  refine s_getr (pc := 30) (b := 56) fl_X7_25 rfl rfl rfl dX7_ebbs_30 ?_
  refine s_iconst (pc := 33) (k_i2N) dX7_ebbs_33 ?_
  refine s_ialdN (pc := 34) (v := a 2) (_) rfl rfl (by omega) (by rw [RMw _ _ _ (by omega)]; exact congrArg nI ((grN_lo _ _ _ _ (by omega)).trans (noteN_lo (by omega) (by omega)))) dX7_ebbs_34 ?_
  refine s_iast (pc := 35) (_) rfl rfl (by omega) dX7_ebbs_35 ?_
  rw [wN_ui (by omega)]
  refine s_iload_n (pc := 36) 1 rfl rfl dX7_ebbs_36 ?_
  refine s_iret (pc := 37) dX7_ebbs_37 (PostE.of hp ?_ ?_)
  · rfl
  · rfl
