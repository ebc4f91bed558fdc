/-! those who come in one behind the other: (who is in, hours left, tides, shifted) -/
abbrev Qs : Type := Nat × Nat × Nat × Nat
def qcan (a : Nat → Nat) (q : Qs) (i : Nat) : Bool := decide (shiftN a i q.1 + 1 ≤ a 2)
def qtk (a : Nat → Nat) (q : Qs) (i : Nat) : Qs := ⟨q.1 ||| 2 ^ i, (if q.2.1 < shiftN a i q.1 + 1 then a 2 else q.2.1) - (shiftN a i q.1 + 1), (if q.2.1 < shiftN a i q.1 + 1 then q.2.2.1 + 1 else q.2.2.1), q.2.2.2 + shiftN a i q.1⟩
def q0 (a : Nat → Nat) : Qs := ⟨a 5, a 4, 0, 0⟩
def qst (a g : Nat → Nat) : Nat → Qs
  | 0 => q0 a
  | k + 1 => qtk a (qst a g k) (g k)
def OkQ (a : Nat → Nat) (q : Qs) : Prop := q.1 < 2 ^ a 0 ∧ q.1 < 64 ∧ q.2.1 ≤ 9
theorem OkQ.tk {a : Nat → Nat} {q : Qs} {i : Nat} (hO : OkA a) (h : OkQ a q) (hi : i < a 0) : OkQ a (qtk a q i) := by
  have e1 := Nat.or_lt_two_pow h.1 (Nat.pow_lt_pow_right (a := 2) (by decide) hi)
  refine ⟨e1, Nat.lt_of_lt_of_le e1 (Nat.pow_le_pow_right (by decide) hO.1.1 : 2 ^ a 0 ≤ 2 ^ 6), ?_⟩
  have := h.2.2
  have := hO.1.2.2.1
  show (if q.2.1 < shiftN a i q.1 + 1 then a 2 else q.2.1) - (shiftN a i q.1 + 1) ≤ 9
  split <;> omega
theorem OkQ.z {a : Nat → Nat} (hO : OkA a) : OkQ a (q0 a) := ⟨hO.1.2.2.2.2.2.1, hO.in64, hO.1.2.2.2.2.1⟩
theorem OkQ.st {a g : Nat → Nat} {k : Nat} (hO : OkA a) (hg : ∀ j, j < k → g j < a 0) : OkQ a (qst a g k) := by
  induction k with
  | zero => exact OkQ.z hO
  | succ k ih => exact OkQ.tk hO (ih (fun j hj => hg j (by omega))) (hg k (by omega))
theorem qst_le (a g : Nat → Nat) (k : Nat) : (qst a g k).2.2.1 ≤ k ∧ (qst a g k).2.2.2 ≤ 6 * k := by
  induction k with
  | zero => exact ⟨Nat.le_refl _, Nat.le_refl _⟩
  | succ k ih =>
    have := shift_le a (g k) (qst a g k).1
    simp only [qst, qtk]
    constructor
    · split <;> omega
    · omega
def setQ (h : Hp) (q : Qs) : Hp := (fun x y => if x = 41 ∧ y = 3 then nI q.1 else if x = 41 ∧ y = 4 then nI q.2.1 else if x = 41 ∧ y = 5 then nI q.2.2.1 else if x = 41 ∧ y = 6 then nI q.2.2.2 else h.1 x y, h.2)
theorem sQ3 (h : Hp) (s l t d : Nat) : (setQ h (s, l, t, d)).1 41 3 = nI s := rfl
theorem sQ4 (h : Hp) (s l t d : Nat) : (setQ h (s, l, t, d)).1 41 4 = nI l := rfl
theorem sQ5 (h : Hp) (s l t d : Nat) : (setQ h (s, l, t, d)).1 41 5 = nI t := rfl
theorem sQ6 (h : Hp) (s l t d : Nat) : (setQ h (s, l, t, d)).1 41 6 = nI d := rfl
theorem sQ_ne {h : Hp} {q : Qs} {x y : Nat} (hx : x ≠ 41) : (setQ h q).1 x y = h.1 x y := by simp only [setQ]; repeat rw [if_neg (by omega)]
theorem sQ_hi {h : Hp} {q : Qs} {x y : Nat} (hy : ¬ (3 ≤ y ∧ y ≤ 6)) : (setQ h q).1 x y = h.1 x y := by simp only [setQ]; repeat rw [if_neg (by omega)]
theorem sQ_sQ (h : Hp) (q r : Qs) : setQ (setQ h q) r = setQ h r := hp_ext (fun x y => by
  by_cases e : x = 41
  · subst e
    by_cases e3 : y = 3
    · subst e3; rfl
    · by_cases e4 : y = 4
      · subst e4; rfl
      · by_cases e5 : y = 5
        · subst e5; rfl
        · by_cases e6 : y = 6
          · subst e6; rfl
          · simp [setQ, ui, e3, e4, e5, e6]
  · simp [setQ, ui, e]) (fun _ _ => rfl)
theorem sQ_p3 {h : Hp} {s l t d v : Nat} : ui (setQ h ⟨s, l, t, d⟩) 41 3 (nI v) = setQ h ⟨v, l, t, d⟩ := hp_ext (fun x y => by
  by_cases e : x = 41
  · subst e
    by_cases e3 : y = 3
    · subst e3; rfl
    · by_cases e4 : y = 4
      · subst e4; rfl
      · by_cases e5 : y = 5
        · subst e5; rfl
        · by_cases e6 : y = 6
          · subst e6; rfl
          · simp [setQ, ui, e3, e4, e5, e6]
  · simp [setQ, ui, e]) (fun _ _ => rfl)
theorem sQ_p4 {h : Hp} {s l t d v : Nat} : ui (setQ h ⟨s, l, t, d⟩) 41 4 (nI v) = setQ h ⟨s, v, t, d⟩ := hp_ext (fun x y => by
  by_cases e : x = 41
  · subst e
    by_cases e3 : y = 3
    · subst e3; rfl
    · by_cases e4 : y = 4
      · subst e4; rfl
      · by_cases e5 : y = 5
        · subst e5; rfl
        · by_cases e6 : y = 6
          · subst e6; rfl
          · simp [setQ, ui, e3, e4, e5, e6]
  · simp [setQ, ui, e]) (fun _ _ => rfl)
theorem sQ_p5 {h : Hp} {s l t d v : Nat} : ui (setQ h ⟨s, l, t, d⟩) 41 5 (nI v) = setQ h ⟨s, l, v, d⟩ := hp_ext (fun x y => by
  by_cases e : x = 41
  · subst e
    by_cases e3 : y = 3
    · subst e3; rfl
    · by_cases e4 : y = 4
      · subst e4; rfl
      · by_cases e5 : y = 5
        · subst e5; rfl
        · by_cases e6 : y = 6
          · subst e6; rfl
          · simp [setQ, ui, e3, e4, e5, e6]
  · simp [setQ, ui, e]) (fun _ _ => rfl)
theorem sQ_p6 {h : Hp} {s l t d v : Nat} : ui (setQ h ⟨s, l, t, d⟩) 41 6 (nI v) = setQ h ⟨s, l, t, v⟩ := hp_ext (fun x y => by
  by_cases e : x = 41
  · subst e
    by_cases e3 : y = 3
    · subst e3; rfl
    · by_cases e4 : y = 4
      · subst e4; rfl
      · by_cases e5 : y = 5
        · subst e5; rfl
        · by_cases e6 : y = 6
          · subst e6; rfl
          · simp [setQ, ui, e3, e4, e5, e6]
  · simp [setQ, ui, e]) (fun _ _ => rfl)
theorem sQ_of {h : Hp} {q : Qs} (h3 : h.1 41 3 = nI q.1) (h4 : h.1 41 4 = nI q.2.1) (h5 : h.1 41 5 = nI q.2.2.1) (h6 : h.1 41 6 = nI q.2.2.2) : setQ h q = h := hp_ext (fun x y => by
  by_cases e : x = 41
  · subst e
    by_cases e3 : y = 3
    · subst e3; exact h3.symm
    · by_cases e4 : y = 4
      · subst e4; exact h4.symm
      · by_cases e5 : y = 5
        · subst e5; exact h5.symm
        · by_cases e6 : y = 6
          · subst e6; exact h6.symm
          · simp [setQ, e3, e4, e5, e6]
  · simp [setQ, e]) (fun _ _ => rfl)
theorem q0_h (h : Hp) (a : Nat → Nat) : ui (ui (ui (ui h 41 3 (nI (a 5))) 41 4 (nI (a 4))) 41 5 (nI 0)) 41 6 (nI 0) = setQ h (q0 a) := hp_ext (fun x y => by
  by_cases e : x = 41
  · subst e
    by_cases e3 : y = 3
    · subst e3; rfl
    · by_cases e4 : y = 4
      · subst e4; rfl
      · by_cases e5 : y = 5
        · subst e5; rfl
        · by_cases e6 : y = 6
          · subst e6; rfl
          · simp [setQ, ui, e3, e4, e5, e6]
  · simp [setQ, ui, e]) (fun _ _ => rfl)
theorem RC.sQ {a : Nat → Nat} {h : Hp} (hR : RC a h) (q : Qs) : RC a (setQ h q) := hR.to (fun x y z => sQ_ne (by have := z.2.1; omega))
theorem clr_id : ∀ s, s < 64 → ∀ i, i < 6 → ¬ s.testBit i = true → clrN s i = s := by decide +kernel
theorem tk_pop {a : Nat → Nat} {i s : Nat} (hO : OkA a) (hi : i < a 0) (hs : s < 2 ^ a 0) (hs6 : s < 64) (hb : ¬ s.testBit i = true) : pop (s ^^^ (s &&& ahdN a i)) = shiftN a i s := by
  have o0 := hO.1.1
  rw [← shift_pop o0 (by omega) hs hs6, clr_id _ (and_not_lt _ hs6 _ (ahd64 o0 i)) _ (by omega) (by rw [and_not_tb]; simp [Bool.eq_false_iff.mpr hb])]

set_option maxRecDepth 20000 in
theorem c_X4_takesF {q : Qs} {i : Nat} {a : Nat → Nat} {h : Hp} (hR : RC a h) (hO : OkA a) (hi : i < a 0) (hq : OkQ a q) (hb : ¬ q.1.testBit i = true) (hc : ¬ qcan a q i = true) : CT 2 yX4_takes cX4_takes 4 (some .boolean) [.ref 41, .int (nI i)] (setQ h q) (some (.int (bi False))) (setQ h q) := by
  have hR0 := hR
  replace hR := hR.sQ q
  obtain ⟨⟨o0, o1, o2, o3, o4, o5, o6⟩, os⟩ := id hO
  have o64 := hO.in64
  have hC := hR.1
  obtain ⟨⟨r0, r1, r2, r4, r5, r6⟩, rs, P, rp, rP, rt⟩ := id hC
  have rg := hR.2
  obtain ⟨q1, q2, q3⟩ := hq
  obtain ⟨qs, ql, qt, qd⟩ := q
  have A64 := ahd64 o0 i
  have ep := tk_pop hO hi q1 q2 hb
  have pl : 2 ^ i < 64 := Nat.pow_lt_pow_right (n := 6) (by decide) (by omega)
  have sl := shift_le a i qs
  dsimp only at q1 q2 q3 hb ep
  simp only [qcan, decide_eq_true_eq] at hc
  refine CT.of (own := RX4) rfl (by decide) (ro_z _) [.ref 41, .int (nI i), .null, .null] rfl (Nat.le_of_ble_eq_true rfl) (fun E hp => ?_)
  refine s_aload_n (pc := 0) 0 rfl rfl dX4_takes_0 ?_
  refine s_getiE (pc := 1) fl_X4_18 rfl rfl (sQ3 _ _ _ _ _) dX4_takes_1 ?_
  refine s_aload_n (pc := 4) 0 rfl rfl dX4_takes_4 ?_
  refine s_getr (pc := 5) (b := 23) fl_X4_44 rfl rfl rfl dX4_takes_5 ?_
  refine s_getr (pc := 8) (b := 34) fl_X4_52 rfl rfl rfl dX4_takes_8 ?_
  refine s_iload_n (pc := 11) 1 rfl rfl dX4_takes_11 ?_
  refine s_ialdN (pc := 12) (_) rfl rfl (by omega) (rg _ (by omega)).2 dX4_takes_12 ?_
  refine s_iconst (pc := 13) (k_im1) dX4_takes_13 ?_
  refine s_ixor (pc := 14) dX4_takes_14 ?_
  refine s_iand (pc := 15) dX4_takes_15 ?_
  refine WW.top (and_not _ q2 _ A64) ?_
  refine s_csi1 (pc := 16) (c_J6_bitCount_0f7a4 (and_not_lt _ q2 _ A64)) ml_X4_55 ms_J6_bitCount_0f7a4 (by decide) (Nat.le_of_ble_eq_true rfl) dX4_takes_16 ?_
  rw [ep]
  refine s_istore_n (pc := 19) 2 rfl (by decide) rfl dX4_takes_19 ?_
  refine s_iconst (pc := 20) (k_i1N) dX4_takes_20 ?_
  refine s_iload_n (pc := 21) 2 rfl rfl dX4_takes_21 ?_
  refine s_iaddN (pc := 22) dX4_takes_22 ?_
  refine s_istore_n (pc := 23) 3 rfl (by decide) rfl dX4_takes_23 ?_
  refine s_iload_n (pc := 24) 3 rfl rfl dX4_takes_24 ?_
  refine s_aload_n (pc := 25) 0 rfl rfl dX4_takes_25 ?_
  refine s_getr (pc := 26) (b := 23) fl_X4_44 rfl rfl rfl dX4_takes_26 ?_
  refine s_getr (pc := 29) (b := 24) fl_X4_61 rfl rfl rfl dX4_takes_29 ?_
  refine s_getiE (pc := 32) fl_X4_65 rfl rfl r2 dX4_takes_32 ?_
  refine s_icmp_leN (pc := 35) (by omega) (by omega) 40 dX4_takes_35 (by decide) (fun c_35 => ?_) (fun c_35 => ?_)
  · exfalso; omega
  · refine s_iconst (pc := 38) (k_i0N) dX4_takes_38 ?_
    refine s_iret (pc := 39) dX4_takes_39 (PostE.of hp ?_ ?_)
    · rfl
    · rfl

set_option maxRecDepth 20000 in
theorem c_X4_takesT {q : Qs} {i : Nat} {a : Nat → Nat} {h : Hp} (hR : RC a h) (hO : OkA a) (hi : i < a 0) (hq : OkQ a q) (hb : ¬ q.1.testBit i = true) (hc : qcan a q i = true) : CT 2 yX4_takes cX4_takes 4 (some .boolean) [.ref 41, .int (nI i)] (setQ h q) (some (.int (bi True))) (setQ h (qtk a q i)) := by
  have hR0 := hR
  replace hR := hR.sQ q
  obtain ⟨⟨o0, o1, o2, o3, o4, o5, o6⟩, os⟩ := id hO
  have o64 := hO.in64
  have hC := hR.1
  obtain ⟨⟨r0, r1, r2, r4, r5, r6⟩, rs, P, rp, rP, rt⟩ := id hC
  have rg := hR.2
  obtain ⟨q1, q2, q3⟩ := hq
  obtain ⟨qs, ql, qt, qd⟩ := q
  have A64 := ahd64 o0 i
  have ep := tk_pop hO hi q1 q2 hb
  have pl : 2 ^ i < 64 := Nat.pow_lt_pow_right (n := 6) (by decide) (by omega)
  have sl := shift_le a i qs
  dsimp only at q1 q2 q3 hb ep
  simp only [qcan, decide_eq_true_eq] at hc
  refine CT.of (own := RX4) rfl (by decide) (ro_z _) [.ref 41, .int (nI i), .null, .null] rfl (Nat.le_of_ble_eq_true rfl) (fun E hp => ?_)
  refine s_aload_n (pc := 0) 0 rfl rfl dX4_takes_0 ?_
  refine s_getiE (pc := 1) fl_X4_18 rfl rfl (sQ3 _ _ _ _ _) dX4_takes_1 ?_
  refine s_aload_n (pc := 4) 0 rfl rfl dX4_takes_4 ?_
  refine s_getr (pc := 5) (b := 23) fl_X4_44 rfl rfl rfl dX4_takes_5 ?_
  refine s_getr (pc := 8) (b := 34) fl_X4_52 rfl rfl rfl dX4_takes_8 ?_
  refine s_iload_n (pc := 11) 1 rfl rfl dX4_takes_11 ?_
  refine s_ialdN (pc := 12) (_) rfl rfl (by omega) (rg _ (by omega)).2 dX4_takes_12 ?_
  refine s_iconst (pc := 13) (k_im1) dX4_takes_13 ?_
  refine s_ixor (pc := 14) dX4_takes_14 ?_
  refine s_iand (pc := 15) dX4_takes_15 ?_
  refine WW.top (and_not _ q2 _ A64) ?_
  refine s_csi1 (pc := 16) (c_J6_bitCount_0f7a4 (and_not_lt _ q2 _ A64)) ml_X4_55 ms_J6_bitCount_0f7a4 (by decide) (Nat.le_of_ble_eq_true rfl) dX4_takes_16 ?_
  rw [ep]
  refine s_istore_n (pc := 19) 2 rfl (by decide) rfl dX4_takes_19 ?_
  refine s_iconst (pc := 20) (k_i1N) dX4_takes_20 ?_
  refine s_iload_n (pc := 21) 2 rfl rfl dX4_takes_21 ?_
  refine s_iaddN (pc := 22) dX4_takes_22 ?_
  refine s_istore_n (pc := 23) 3 rfl (by decide) rfl dX4_takes_23 ?_
  refine s_iload_n (pc := 24) 3 rfl rfl dX4_takes_24 ?_
  refine s_aload_n (pc := 25) 0 rfl rfl dX4_takes_25 ?_
  refine s_getr (pc := 26) (b := 23) fl_X4_44 rfl rfl rfl dX4_takes_26 ?_
  refine s_getr (pc := 29) (b := 24) fl_X4_61 rfl rfl rfl dX4_takes_29 ?_
  refine s_getiE (pc := 32) fl_X4_65 rfl rfl r2 dX4_takes_32 ?_
  refine s_icmp_leN (pc := 35) (by omega) (by omega) 40 dX4_takes_35 (by decide) (fun c_35 => ?_) (fun c_35 => ?_)
  · refine s_iload_n (pc := 40) 3 rfl rfl dX4_takes_40 ?_
    refine s_aload_n (pc := 41) 0 rfl rfl dX4_takes_41 ?_
    refine s_getiE (pc := 42) fl_X4_22 rfl rfl (sQ4 _ _ _ _ _) dX4_takes_42 ?_
    refine s_icmp_leN (pc := 45) (by omega) (by omega) 72 dX4_takes_45 (by decide) (fun c_45 => ?_) (fun c_45 => ?_)
    · refine s_aload_n (pc := 72) 0 rfl rfl dX4_takes_72 ?_
      refine s_dup (pc := 73) rfl dX4_takes_73 ?_
      refine s_getiE (pc := 74) fl_X4_22 rfl rfl (sQ4 _ _ _ _ _) dX4_takes_74 ?_
      refine s_iload_n (pc := 77) 3 rfl rfl dX4_takes_77 ?_
      refine s_isubN (pc := 78) (by omega) dX4_takes_78 ?_
      refine s_puti (pc := 79) fl_X4_22 fw_4_4 rfl rfl dX4_takes_79 ?_
      rw [sQ_p4]
      refine s_aload_n (pc := 82) 0 rfl rfl dX4_takes_82 ?_
      refine s_dup (pc := 83) rfl dX4_takes_83 ?_
      refine s_getiE (pc := 84) fl_X4_28 rfl rfl (sQ6 _ _ _ _ _) dX4_takes_84 ?_
      refine s_iload_n (pc := 87) 2 rfl rfl dX4_takes_87 ?_
      refine s_iaddN (pc := 88) dX4_takes_88 ?_
      refine s_puti (pc := 89) fl_X4_28 fw_4_6 rfl rfl dX4_takes_89 ?_
      rw [sQ_p6]
      refine s_aload_n (pc := 92) 0 rfl rfl dX4_takes_92 ?_
      refine s_dup (pc := 93) rfl dX4_takes_93 ?_
      refine s_getiE (pc := 94) fl_X4_18 rfl rfl (sQ3 _ _ _ _ _) dX4_takes_94 ?_
      refine s_iconst (pc := 97) (k_i1N) dX4_takes_97 ?_
      refine s_iload_n (pc := 98) 1 rfl rfl dX4_takes_98 ?_
      refine s_ishl1N (pc := 99) (by omega) dX4_takes_99 ?_
      refine s_iorN (pc := 100) (by omega) (by omega) dX4_takes_100 ?_
      refine s_puti (pc := 101) fl_X4_18 fw_4_3 rfl rfl dX4_takes_101 ?_
      rw [sQ_p3]
      refine s_iconst (pc := 104) (k_i1N) dX4_takes_104 ?_
      refine s_iret (pc := 105) dX4_takes_105 (PostE.of hp ?_ ?_)
      · rfl
      · simp only [qtk]; rw [if_neg (by omega), if_neg (by omega), Nat.add_comm 1]
    · refine s_aload_n (pc := 48) 0 rfl rfl dX4_takes_48 ?_
      refine s_dup (pc := 49) rfl dX4_takes_49 ?_
      refine s_getiE (pc := 50) fl_X4_25 rfl rfl (sQ5 _ _ _ _ _) dX4_takes_50 ?_
      refine s_iconst (pc := 53) (k_i1N) dX4_takes_53 ?_
      refine s_iaddN (pc := 54) dX4_takes_54 ?_
      refine s_puti (pc := 55) fl_X4_25 fw_4_5 rfl rfl dX4_takes_55 ?_
      rw [sQ_p5]
      refine s_aload_n (pc := 58) 0 rfl rfl dX4_takes_58 ?_
      refine s_aload_n (pc := 59) 0 rfl rfl dX4_takes_59 ?_
      refine s_getr (pc := 60) (b := 23) fl_X4_44 rfl rfl rfl dX4_takes_60 ?_
      refine s_getr (pc := 63) (b := 24) fl_X4_61 rfl rfl rfl dX4_takes_63 ?_
      refine s_getiE (pc := 66) fl_X4_65 rfl rfl r2 dX4_takes_66 ?_
      refine s_puti (pc := 69) fl_X4_22 fw_4_4 rfl rfl dX4_takes_69 ?_
      rw [sQ_p4]
      refine s_aload_n (pc := 72) 0 rfl rfl dX4_takes_72 ?_
      refine s_dup (pc := 73) rfl dX4_takes_73 ?_
      refine s_getiE (pc := 74) fl_X4_22 rfl rfl (sQ4 _ _ _ _ _) dX4_takes_74 ?_
      refine s_iload_n (pc := 77) 3 rfl rfl dX4_takes_77 ?_
      refine s_isubN (pc := 78) (by omega) dX4_takes_78 ?_
      refine s_puti (pc := 79) fl_X4_22 fw_4_4 rfl rfl dX4_takes_79 ?_
      rw [sQ_p4]
      refine s_aload_n (pc := 82) 0 rfl rfl dX4_takes_82 ?_
      refine s_dup (pc := 83) rfl dX4_takes_83 ?_
      refine s_getiE (pc := 84) fl_X4_28 rfl rfl (sQ6 _ _ _ _ _) dX4_takes_84 ?_
      refine s_iload_n (pc := 87) 2 rfl rfl dX4_takes_87 ?_
      refine s_iaddN (pc := 88) dX4_takes_88 ?_
      refine s_puti (pc := 89) fl_X4_28 fw_4_6 rfl rfl dX4_takes_89 ?_
      rw [sQ_p6]
      refine s_aload_n (pc := 92) 0 rfl rfl dX4_takes_92 ?_
      refine s_dup (pc := 93) rfl dX4_takes_93 ?_
      refine s_getiE (pc := 94) fl_X4_18 rfl rfl (sQ3 _ _ _ _ _) dX4_takes_94 ?_
      refine s_iconst (pc := 97) (k_i1N) dX4_takes_97 ?_
      refine s_iload_n (pc := 98) 1 rfl rfl dX4_takes_98 ?_
      refine s_ishl1N (pc := 99) (by omega) dX4_takes_99 ?_
      refine s_iorN (pc := 100) (by omega) (by omega) dX4_takes_100 ?_
      refine s_puti (pc := 101) fl_X4_18 fw_4_3 rfl rfl dX4_takes_101 ?_
      rw [sQ_p3]
      refine s_iconst (pc := 104) (k_i1N) dX4_takes_104 ?_
      refine s_iret (pc := 105) dX4_takes_105 (PostE.of hp ?_ ?_)
      · rfl
      · simp only [qtk]; rw [if_pos (by omega), if_pos (by omega), Nat.add_comm 1]
  · exfalso; omega

set_option maxRecDepth 20000 in
theorem c_X4_begin {a : Nat → Nat} {h : Hp} (hR : RC a h) (hO : OkA a) : CT 1 yX4_begin cX4_begin 1 none [.ref 41] h (none) (setQ h (q0 a)) := by
  obtain ⟨⟨o0, o1, o2, o3, o4, o5, o6⟩, os⟩ := id hO
  have o64 := hO.in64
  have hC := hR.1
  obtain ⟨⟨r0, r1, r2, r4, r5, r6⟩, rs, P, rp, rP, rt⟩ := id hC
  have rg := hR.2
  refine CT.of (own := RX4) rfl (by decide) ro_v [.ref 41] rfl (Nat.le_of_ble_eq_true rfl) (fun E hp => ?_)
  refine s_aload_n (pc := 0) 0 rfl rfl dX4_begin_0 ?_
  refine s_aload_n (pc := 1) 0 rfl rfl dX4_begin_1 ?_
  refine s_getr (pc := 2) (b := 23) fl_X4_44 rfl rfl rfl dX4_begin_2 ?_
  refine s_getiE (pc := 5) fl_X4_48 rfl rfl (show (_ : Int32) = nI (a 5) from r5) dX4_begin_5 ?_
  refine s_puti (pc := 8) fl_X4_18 fw_4_3 rfl rfl dX4_begin_8 ?_
  refine s_aload_n (pc := 11) 0 rfl rfl dX4_begin_11 ?_
  refine s_aload_n (pc := 12) 0 rfl rfl dX4_begin_12 ?_
  refine s_getr (pc := 13) (b := 23) fl_X4_44 rfl rfl rfl dX4_begin_13 ?_
  refine s_getiE (pc := 16) fl_X4_51 rfl rfl (show (_ : Int32) = nI (a 4) from r4) dX4_begin_16 ?_
  refine s_puti (pc := 19) fl_X4_22 fw_4_4 rfl rfl dX4_begin_19 ?_
  refine s_aload_n (pc := 22) 0 rfl rfl dX4_begin_22 ?_
  refine s_iconst (pc := 23) (k_i0N) dX4_begin_23 ?_
  refine s_puti (pc := 24) fl_X4_25 fw_4_5 rfl rfl dX4_begin_24 ?_
  refine s_aload_n (pc := 27) 0 rfl rfl dX4_begin_27 ?_
  refine s_iconst (pc := 28) (k_i0N) dX4_begin_28 ?_
  refine s_puti (pc := 29) fl_X4_28 fw_4_6 rfl rfl dX4_begin_29 ?_
  refine s_vret (pc := 32) dX4_begin_32 (PostE.of hp ?_ ?_)
  · rfl
  · exact q0_h h a
