theorem fup_ge {h : Hp} {r k y : Nat} {f : Nat → Int32} (hy : k ≤ y) : (fup h r k f).1 r y = h.1 r y := if_neg (fun q => by omega)
/-! the deeds, on the reference's numbers -/
def payN (a : Nat → Nat) (i : Nat) : Nat → Nat := au (noteN a 1 i 0 0) (7 + 8 * i + 6) 1
def teaN (a : Nat → Nat) (i : Nat) : Nat → Nat := au (noteN a 2 i 0 0) (7 + 8 * i + 5) (sh a i 5 + 5)
def yearN (a : Nat → Nat) : Nat → Nat := au (noteN a 4 0 0 0) 1 (a 1 + 1)
def stepN (a : Nat → Nat) (dd i : Nat) : Nat → Nat := if dd = 0 then goesN a i else if dd = 1 then payN a i else if dd = 2 then teaN a i else if dd = 3 then ebbsN a else yearN a
def retN (a : Nat → Nat) (dd i : Nat) : Nat := if dd = 0 then shiftN a i (a 5) else if dd = 1 then ageN (payN a i) i (a 1) else if dd = 2 then ageN (teaN a i) i (a 1) else if dd = 3 then grdN a else a 1 + 1
def okD (a : Nat → Nat) (dd i : Nat) : Prop := a 3 < 40 ∧ i < 6 ∧ dd < 5 ∧ 0 < a 0 ∧ (dd = 0 → i < a 0 ∧ 1 + shiftN a i (a 5) ≤ a 4) ∧ (dd = 1 → i < a 0 ∧ sh a i 0 = 5 ∧ sh a i 6 = 0) ∧ (dd = 2 → i < a 0 ∧ sh a i 5 ≤ 15)
/-- what ages rest on -/
def Sim (a b : Nat → Nat) : Prop := b 0 = a 0 ∧ b 1 = a 1 ∧ ∀ i w, i < 6 → w < 7 → sh b i w = sh a i w
theorem Sim.age {a b : Nat → Nat} (h : Sim a b) {i y : Nat} (hi : i < 6) : ageN b i y = ageN a i y := by
  unfold ageN
  rw [h.2.2 i 0 hi (by decide), h.2.2 i 1 hi (by decide), h.2.2 i 5 hi (by decide), h.2.2 i 6 hi (by decide)]
theorem Sim.ahead {a b : Nat → Nat} (h : Sim a b) {i j u v : Nat} (hi : i < 6) (hj : j < 6) : aheadN b i u j v = aheadN a i u j v := by
  unfold aheadN
  rw [h.2.2 i 2 hi (by decide), h.2.2 i 3 hi (by decide), h.2.2 j 2 hj (by decide), h.2.2 j 3 hj (by decide)]
theorem Sim.now {a b : Nat → Nat} (h : Sim a b) {i j : Nat} (hi : i < 6) (hj : j < 6) : aheadNow b i j = aheadNow a i j := by
  unfold aheadNow
  rw [h.2.1, h.age hi, h.age hj, h.ahead hi hj]
theorem Sim.ahd {a b : Nat → Nat} (h : Sim a b) (hn : a 0 ≤ 6) {i : Nat} (hi : i < 6) : ahdN b i = ahdN a i := by
  unfold ahdN
  rw [h.1]
  exact bitsU_congr (fun j hj => by rw [h.now (by omega) hi])
theorem note_sh {a : Nat → Nat} {dd x y z i w : Nat} (hi : i < 6) (hw : w < 8) : sh (noteN a dd x y z) i w = sh a i w := noteN_lo (by omega) (by omega)
theorem Sim.goes (a : Nat → Nat) (i : Nat) : Sim a (goesN a i) := by
  refine ⟨?_, ?_, fun j w hj hw => ?_⟩
  · simp only [goesN, au]; repeat rw [if_neg (by omega)]
    exact noteN_lo (by omega) (by omega)
  · simp only [goesN, au]; repeat rw [if_neg (by omega)]
    exact noteN_lo (by omega) (by omega)
  · simp only [goesN, au]; repeat rw [if_neg (by omega)]
    exact noteN_lo (by omega) (by omega)
theorem goes_v (a : Nat → Nat) (i : Nat) : goesN a i 2 = a 2 ∧ goesN a i 4 = a 4 - (1 + shiftN a i (a 5)) ∧ goesN a i 5 = a 5 ^^^ 2 ^ i ∧ goesN a i 6 = a 6 + shiftN a i (a 5) ∧ goesN a i 3 = a 3 + 1 ∧ ∀ j, j < 6 → sh (goesN a i) j 7 = sh a j 7 := by
  refine ⟨?_, ?_, ?_, ?_, ?_, fun j hj => ?_⟩
  · simp only [goesN, au]; repeat rw [if_neg (by omega)]
    exact noteN_lo (by omega) (by omega)
  · simp only [goesN, au]; rw [if_pos trivial]
  · simp only [goesN, au]; rw [if_neg (by omega), if_neg (by omega), if_pos trivial]
  · simp only [goesN, au]; rw [if_neg (by omega), if_pos trivial]
  · simp only [goesN, noteN, au]; rw [if_neg (by omega), if_neg (by omega), if_neg (by omega), if_pos trivial]
  · simp only [goesN, au]; repeat rw [if_neg (by omega)]
    exact noteN_lo (by omega) (by omega)
theorem Sim.ebbs (a : Nat → Nat) : Sim a (ebbsN a) := by
  refine ⟨?_, ?_, fun j w hj hw => ?_⟩
  · simp only [ebbsN, au]; rw [if_neg (by omega), grN_lo _ _ _ _ (by omega)]
    exact noteN_lo (by omega) (by omega)
  · simp only [ebbsN, au]; rw [if_neg (by omega), grN_lo _ _ _ _ (by omega)]
    exact noteN_lo (by omega) (by omega)
  · simp only [ebbsN, au, grN]; rw [if_neg (by omega), if_neg (by omega)]
    exact noteN_lo (by omega) (by omega)
theorem ebbs_v (a : Nat → Nat) : ebbsN a 2 = a 2 ∧ ebbsN a 4 = a 2 ∧ ebbsN a 5 = a 5 ∧ ebbsN a 6 = a 6 ∧ ebbsN a 3 = a 3 + 1 ∧ ∀ j, j < 6 → sh (ebbsN a) j 7 = sh a j 7 + (if j < a 0 ∧ (grdN a).testBit j = true then 1 else 0) := by
  refine ⟨?_, ?_, ?_, ?_, ?_, fun j hj => ?_⟩
  · simp only [ebbsN, au]; rw [if_neg (by omega), grN_lo _ _ _ _ (by omega)]
    exact noteN_lo (by omega) (by omega)
  · simp only [ebbsN, au]; rw [if_pos trivial]
  · simp only [ebbsN, au]; rw [if_neg (by omega), grN_lo _ _ _ _ (by omega)]
    exact noteN_lo (by omega) (by omega)
  · simp only [ebbsN, au]; rw [if_neg (by omega), grN_lo _ _ _ _ (by omega)]
    exact noteN_lo (by omega) (by omega)
  · simp only [ebbsN, au]; rw [if_neg (by omega), grN_lo _ _ _ _ (by omega)]
    simp only [noteN, au]; rw [if_pos trivial]
  · have e : (7 + 8 * j + 7 - 14) / 8 = j := by omega
    simp only [ebbsN, au, grN]
    rw [if_neg (by omega), e, noteN_lo (by omega) (by omega)]
    by_cases q : j < a 0 ∧ (grdN a).testBit j = true
    · rw [if_pos ⟨by omega, by omega, q.1, q.2⟩, if_pos q]
    · rw [if_neg (fun z => q ⟨z.2.2.1, z.2.2.2⟩), if_neg q]; rfl
theorem pay_v (a : Nat → Nat) (i : Nat) : (∀ j, j < 55 → j ≠ 3 → j ≠ 7 + 8 * i + 6 → payN a i j = a j) ∧ payN a i (7 + 8 * i + 6) = 1 := by
  refine ⟨fun j h1 h2 h3 => ?_, ?_⟩
  · simp only [payN, au]; rw [if_neg h3]; exact noteN_lo h1 h2
  · simp only [payN, au]; rw [if_pos trivial]
theorem tea_v (a : Nat → Nat) (i : Nat) : (∀ j, j < 55 → j ≠ 3 → j ≠ 7 + 8 * i + 5 → teaN a i j = a j) ∧ teaN a i (7 + 8 * i + 5) = sh a i 5 + 5 := by
  refine ⟨fun j h1 h2 h3 => ?_, ?_⟩
  · simp only [teaN, au]; rw [if_neg h3]; exact noteN_lo h1 h2
  · simp only [teaN, au]; rw [if_pos trivial]
theorem year_v (a : Nat → Nat) : (∀ j, j < 55 → j ≠ 3 → j ≠ 1 → yearN a j = a j) ∧ yearN a 1 = a 1 + 1 := by
  refine ⟨fun j h1 h2 h3 => ?_, ?_⟩
  · simp only [yearN, au]; rw [if_neg h3]; exact noteN_lo h1 h2
  · simp only [yearN, au]; rw [if_pos trivial]
theorem step_3 {a : Nat → Nat} {dd i : Nat} (hi : i < 6) : stepN a dd i 3 = a 3 + 1 := by
  unfold stepN
  split
  · exact (goes_v a i).2.2.2.2.1
  split
  · simp only [payN, noteN, au]; rw [if_neg (by omega), if_pos trivial]
  split
  · simp only [teaN, noteN, au]; rw [if_neg (by omega), if_pos trivial]
  split
  · exact (ebbs_v a).2.2.2.2.1
  · simp only [yearN, noteN, au]; rw [if_neg (by omega), if_pos trivial]

set_option maxRecDepth 20000 in
theorem c_X2_settle {a : Nat → Nat} {h : Hp} (hC : RC0 a h) (hO : OkA a) : CT 4 yX2_settle cX2_settle 3 none [.ref 23] h (none) (setl h a) := by
  obtain ⟨⟨o0, o1, o2, o3, o4, o5, o6⟩, os⟩ := id hO
  have o64 := hO.in64
  obtain ⟨⟨r0, r1, r2, r4, r5, r6⟩, rs, P, rp, rP, rt⟩ := id hC
  have hCk : ∀ k, RC0 a (fup h 33 k (fun y => nI (ageN a y (a 1)))) := fun k => hC.to (fun x y _ h1 _ => fup_ne h1)
  have hCi : ∀ i v, RC0 a (ui (fup (fup h 33 (a 0) (fun y => nI (ageN a y (a 1)))) 34 i (fun y => nI (ahdN a y))) 34 i v) := fun i v => hC.to (fun x y _ h1 h2 => by rw [ui_ne h2, fup_ne h2, fup_ne h1])
  have hgi : ∀ i v j, j < a 0 → (ui (fup (fup h 33 (a 0) (fun y => nI (ageN a y (a 1)))) 34 i (fun y => nI (ahdN a y))) 34 i v).1 33 j = nI (ageN a j (a 1)) := fun i v j hj => by rw [ui_ne (by decide), fup_ne (by decide), fup_lt hj]
  refine CT.of (own := RX2) rfl (by decide) ro_v [.ref 23, .null, .null] rfl (Nat.le_of_ble_eq_true rfl) (fun E hp => ?_)
  refine s_iconst (pc := 0) (k_i0N) dX2_settle_0 ?_
  refine s_istore_n (pc := 1) 1 rfl (by decide) rfl dX2_settle_1 ?_
  refine WW.hp (fup_0 h 33 (fun y => nI (ageN a y (a 1)))).symm ?_
  suffices lp_2 : ∀ k, k ≤ a 0 → WW E cX2_settle RX2 3 _ 2 [.ref 23, .int (nI k), .null] (fup h 33 k (fun y => nI (ageN a y (a 1)))) [] from lp_2 0 (by omega)
  refine lpi (a 0) (fun k hk_k ih_2 => ?_)
  refine s_iload_n (pc := 2) 1 rfl rfl dX2_settle_2 ?_
  refine s_aload_n (pc := 3) 0 rfl rfl dX2_settle_3 ?_
  refine s_getr (pc := 4) (b := 24) fl_X2_12 rfl rfl rfl dX2_settle_4 ?_
  refine s_getiE (pc := 7) fl_X2_68 rfl rfl r0 dX2_settle_7 ?_
  refine s_icmp_geN (pc := 10) (by omega) (by omega) 43 dX2_settle_10 (by decide) (fun c_10 => ?_) (fun c_10 => ?_)
  · refine s_iconst (pc := 43) (k_i0N) dX2_settle_43 ?_
    refine s_istore_n (pc := 44) 1 rfl (by decide) rfl dX2_settle_44 ?_
    obtain rfl : k = a 0 := by omega
    refine WW.hp (fup_0 (fup h 33 (a 0) (fun y => nI (ageN a y (a 1)))) 34 (fun y => nI (ahdN a y))).symm ?_
    suffices lq : ∀ i, i ≤ a 0 → ∀ z, WW E cX2_settle RX2 3 _ 45 [.ref 23, .int (nI i), z] (fup (fup h 33 (a 0) (fun y => nI (ageN a y (a 1)))) 34 i (fun y => nI (ahdN a y))) [] from lq 0 (by omega) _
    refine lpi (a 0) (fun i hk_i ih_45 => ?_)
    intro z
    refine s_iload_n (pc := 45) 1 rfl rfl dX2_settle_45 ?_
    refine s_aload_n (pc := 46) 0 rfl rfl dX2_settle_46 ?_
    refine s_getr (pc := 47) (b := 24) fl_X2_12 rfl rfl rfl dX2_settle_47 ?_
    refine s_getiE (pc := 50) fl_X2_68 rfl rfl r0 dX2_settle_50 ?_
    refine s_icmp_geN (pc := 53) (by omega) (by omega) 126 dX2_settle_53 (by decide) (fun c_53 => ?_) (fun c_53 => ?_)
    · obtain rfl : i = a 0 := by omega
      refine s_vret (pc := 126) dX2_settle_126 (PostE.of hp ?_ ?_)
      · rfl
      · rfl
    · refine s_aload_n (pc := 56) 0 rfl rfl dX2_settle_56 ?_
      refine s_getr (pc := 57) (b := 34) fl_X2_31 rfl rfl rfl dX2_settle_57 ?_
      refine s_iload_n (pc := 60) 1 rfl rfl dX2_settle_60 ?_
      refine s_iconst (pc := 61) (k_i0N) dX2_settle_61 ?_
      refine s_iast (pc := 62) (_) rfl rfl (by omega) dX2_settle_62 ?_
      refine s_iconst (pc := 63) (k_i0N) dX2_settle_63 ?_
      refine s_istore_n (pc := 64) 2 rfl (by decide) rfl dX2_settle_64 ?_
      suffices lp_65 : ∀ j, j ≤ a 0 → WW E cX2_settle RX2 3 _ 65 [.ref 23, .int (nI i), .int (nI j)] (ui (fup (fup h 33 (a 0) (fun y => nI (ageN a y (a 1)))) 34 i (fun y => nI (ahdN a y))) 34 i (nI (bitsU j (fun j => decide (¬ j = i) && aheadNow a j i)))) [] from lp_65 (0) (by omega)
      refine lpi (a 0) (fun j hk_j ih_65 => ?_)
      refine s_iload_n (pc := 65) 2 rfl rfl dX2_settle_65 ?_
      refine s_aload_n (pc := 66) 0 rfl rfl dX2_settle_66 ?_
      refine s_getr (pc := 67) (b := 24) fl_X2_12 rfl rfl rfl dX2_settle_67 ?_
      refine s_getiE (pc := 70) fl_X2_68 rfl rfl r0 dX2_settle_70 ?_
      refine s_icmp_geN (pc := 73) (by omega) (by omega) 120 dX2_settle_73 (by decide) (fun c_73 => ?_) (fun c_73 => ?_)
      · obtain rfl : j = a 0 := by omega
        refine s_iincN (pc := 120) rfl (by decide) rfl dX2_settle_120 ?_
        refine s_goto (pc := 123) 45 dX2_settle_123 (by decide) ?_
        rw [fup_s (fup h 33 (a 0) (fun y => nI (ageN a y (a 1)))) 34 i (fun y => nI (ahdN a y)) (by rfl)]
        exact ih_45 (by omega) _
      · refine s_iload_n (pc := 76) 2 rfl rfl dX2_settle_76 ?_
        refine s_iload_n (pc := 77) 1 rfl rfl dX2_settle_77 ?_
        refine s_icmp_eqN (pc := 78) (by omega) (by omega) 114 dX2_settle_78 (by decide) (fun c_78 => ?_) (fun c_78 => ?_)
        · refine s_iincN (pc := 114) rfl (by decide) rfl dX2_settle_114 ?_
          refine s_goto (pc := 117) 65 dX2_settle_117 (by decide) ?_
          first | exact ih_65 (by omega) | (have hf := bitsU_f (n := j) (p := (fun j => decide (¬ j = i) && aheadNow a j i)) (by simp only [Bool.and_eq_true, decide_eq_true_eq]; exact fun q => q.1 c_78); rw [Nat.or_zero] at hf; rw [hf]; exact ih_65 (by omega)) | (have hf := bitsU_f (n := j) (p := (fun j => decide (¬ j = i) && aheadNow a j i)) (by simp only [Bool.and_eq_true, decide_eq_true_eq]; exact fun q => c_99 q.2); rw [Nat.or_zero] at hf; rw [hf]; exact ih_65 (by omega))
        · have bl := bitsU_lt64 (n := j) (fun j => decide (¬ j = i) && aheadNow a j i) (by omega)
          have pl := pow_lt31 (k := j) (by omega)
          refine s_aload_n (pc := 81) 0 rfl rfl dX2_settle_81 ?_
          refine s_iload_n (pc := 82) 2 rfl rfl dX2_settle_82 ?_
          refine s_aload_n (pc := 83) 0 rfl rfl dX2_settle_83 ?_
          refine s_getr (pc := 84) (b := 33) fl_X2_28 rfl rfl rfl dX2_settle_84 ?_
          refine s_iload_n (pc := 87) 2 rfl rfl dX2_settle_87 ?_
          refine s_ialdN (pc := 88) (_) rfl rfl (by omega) (hgi _ _ _ (by omega)) dX2_settle_88 ?_
          refine s_iload_n (pc := 89) 1 rfl rfl dX2_settle_89 ?_
          refine s_aload_n (pc := 90) 0 rfl rfl dX2_settle_90 ?_
          refine s_getr (pc := 91) (b := 33) fl_X2_28 rfl rfl rfl dX2_settle_91 ?_
          refine s_iload_n (pc := 94) 1 rfl rfl dX2_settle_94 ?_
          refine s_ialdN (pc := 95) (_) rfl rfl (by omega) (hgi _ _ _ (by omega)) dX2_settle_95 ?_
          refine s_cvi4 (pc := 96) (c_X2_isAhead (hCi i _) hO (by omega) (by omega) (Nat.lt_trans (age_lt hO (by omega) (by omega)) (by decide)) (Nat.lt_trans (age_lt hO (by omega) (by omega)) (by decide))) ml_X2_78 mw_X2_isAhead rfl (by decide) (Nat.le_of_ble_eq_true rfl) dX2_settle_96 ?_
          refine s_if_eqB (pc := 99) 114 dX2_settle_99 (by decide) (fun c_99 => ?_) (fun c_99 => ?_)
          · refine s_iincN (pc := 114) rfl (by decide) rfl dX2_settle_114 ?_
            refine s_goto (pc := 117) 65 dX2_settle_117 (by decide) ?_
            first | exact ih_65 (by omega) | (have hf := bitsU_f (n := j) (p := (fun j => decide (¬ j = i) && aheadNow a j i)) (by simp only [Bool.and_eq_true, decide_eq_true_eq]; exact fun q => q.1 c_78); rw [Nat.or_zero] at hf; rw [hf]; exact ih_65 (by omega)) | (have hf := bitsU_f (n := j) (p := (fun j => decide (¬ j = i) && aheadNow a j i)) (by simp only [Bool.and_eq_true, decide_eq_true_eq]; exact fun q => c_99 q.2); rw [Nat.or_zero] at hf; rw [hf]; exact ih_65 (by omega))
          · refine s_aload_n (pc := 102) 0 rfl rfl dX2_settle_102 ?_
            refine s_getr (pc := 103) (b := 34) fl_X2_31 rfl rfl rfl dX2_settle_103 ?_
            refine s_iload_n (pc := 106) 1 rfl rfl dX2_settle_106 ?_
            refine s_dup2 (pc := 107) rfl rfl dX2_settle_107 ?_
            refine s_ialdN (pc := 108) (_) rfl rfl (by omega) ui_eq dX2_settle_108 ?_
            refine s_iconst (pc := 109) (k_i1N) dX2_settle_109 ?_
            refine s_iload_n (pc := 110) 2 rfl rfl dX2_settle_110 ?_
            refine s_ishl1N (pc := 111) (by omega) dX2_settle_111 ?_
            refine s_iorN (pc := 112) (by omega) (by omega) dX2_settle_112 ?_
            refine s_iast (pc := 113) (_) rfl rfl (by omega) dX2_settle_113 ?_
            rw [ui_ui, bitsU_t (p := (fun j => decide (¬ j = i) && aheadNow a j i)) (by simp only [Bool.and_eq_true, decide_eq_true_eq]; exact ⟨c_78, c_99⟩)]
            refine s_iincN (pc := 114) rfl (by decide) rfl dX2_settle_114 ?_
            refine s_goto (pc := 117) 65 dX2_settle_117 (by decide) ?_
            first | exact ih_65 (by omega) | (have hf := bitsU_f (n := j) (p := (fun j => decide (¬ j = i) && aheadNow a j i)) (by simp only [Bool.and_eq_true, decide_eq_true_eq]; exact fun q => q.1 c_78); rw [Nat.or_zero] at hf; rw [hf]; exact ih_65 (by omega)) | (have hf := bitsU_f (n := j) (p := (fun j => decide (¬ j = i) && aheadNow a j i)) (by simp only [Bool.and_eq_true, decide_eq_true_eq]; exact fun q => c_99 q.2); rw [Nat.or_zero] at hf; rw [hf]; exact ih_65 (by omega))
  · refine s_aload_n (pc := 13) 0 rfl rfl dX2_settle_13 ?_
    refine s_getr (pc := 14) (b := 33) fl_X2_28 rfl rfl rfl dX2_settle_14 ?_
    refine s_iload_n (pc := 17) 1 rfl rfl dX2_settle_17 ?_
    refine s_aload_n (pc := 18) 0 rfl rfl dX2_settle_18 ?_
    refine s_iload_n (pc := 19) 1 rfl rfl dX2_settle_19 ?_
    refine s_aload_n (pc := 20) 0 rfl rfl dX2_settle_20 ?_
    refine s_getr (pc := 21) (b := 24) fl_X2_12 rfl rfl rfl dX2_settle_21 ?_
    refine s_getr (pc := 24) (b := 25) fl_X2_71 rfl rfl rfl dX2_settle_24 ?_
    refine s_iload_n (pc := 27) 1 rfl rfl dX2_settle_27 ?_
    refine s_ialdN (pc := 28) (_) rfl rfl (by omega) (rs _ (by omega)).1 dX2_settle_28 ?_
    refine s_aload_n (pc := 29) 0 rfl rfl dX2_settle_29 ?_
    refine s_getiE (pc := 30) fl_X2_38 rfl rfl r1 dX2_settle_30 ?_
    refine s_cvi3 (pc := 33) (c_X2_ageAs (hCk k) hO (by omega) (os k (by omega)).1 (by omega)) ml_X2_74 mw_X2_ageAs rfl (by decide) (Nat.le_of_ble_eq_true rfl) dX2_settle_33 ?_
    refine s_iast (pc := 36) (_) rfl rfl (by omega) dX2_settle_36 ?_
    refine s_iincN (pc := 37) rfl (by decide) rfl dX2_settle_37 ?_
    refine s_goto (pc := 40) 2 dX2_settle_40 (by decide) ?_
    rw [fup_s h 33 k (fun y => nI (ageN a y (a 1))) (by rfl)]
    exact ih_2 (by omega)

/-- what a harbour begins with -/
def Base (b : Nat → Nat) : Prop := b 3 = 0 ∧ b 4 = b 2 ∧ b 5 = 0 ∧ b 6 = 0 ∧ ∀ i, i < b 0 → sh b i 5 = 0 ∧ sh b i 6 = 0 ∧ sh b i 7 = 0
/-- the fleet's text, as read -/
def RB (b : Nat → Nat) (h : Hp) : Prop := h.1 24 5 = nI (b 0) ∧ h.1 24 6 = nI (b 1) ∧ h.1 24 7 = nI (b 2) ∧ ∀ i, i < b 0 → h.1 25 i = nI (sh b i 0) ∧ h.1 26 i = nI (sh b i 1) ∧ h.1 27 i = nI (sh b i 2) ∧ h.1 28 i = nI (sh b i 3) ∧ h.1 29 i = nI (sh b i 4)
def bg0 (h : Hp) (b : Nat → Nat) : Hp := ui (ui (ui (ui (ui (ui (fil (fil h 30 0 6 (nI 0)) 31 0 6 (nI 0)) 23 6 (nI 0)) 23 7 (nI (b 1))) 23 8 (nI (b 2))) 23 9 (nI 0)) 23 10 (nI 0)) 23 11 (nI 0)
theorem RC_bg0 {b : Nat → Nat} {h : Hp} (hB : RB b h) (hb : Base b) (hn : b 0 ≤ 6) : RC0 b (bg0 h b) := by
  obtain ⟨b0, b1, b2, bs⟩ := hB
  obtain ⟨c3, c4, c5, c6, cs⟩ := hb
  refine ⟨⟨b0, rfl, b2, ?_, ?_, ?_⟩, fun i hi => ?_, 0, by decide, rfl, fun i hi => ?_⟩
  · rw [c4]; rfl
  · rw [c5]; rfl
  · rw [c6]; rfl
  · obtain ⟨s0, s1, s2, s3, s4⟩ := bs i hi
    obtain ⟨s5, s6, s7⟩ := cs i hi
    refine ⟨s0, s1, s2, s3, s4, ?_, ?_⟩
    · rw [s5]
      show (if (30 : Nat) = 31 ∧ 0 ≤ i ∧ i < 0 + 6 then nI 0 else if (30 : Nat) = 30 ∧ 0 ≤ i ∧ i < 0 + 6 then nI 0 else h.1 30 i) = nI 0
      rw [if_neg (by omega), if_pos (by omega)]
    · rw [s7]
      show (if (31 : Nat) = 31 ∧ 0 ≤ i ∧ i < 0 + 6 then nI 0 else _) = nI 0
      rw [if_pos (by omega)]
  · rw [Nat.zero_testBit, (cs i hi).2.1]; rfl

set_option maxRecDepth 20000 in
theorem c_X2_begin {a : Nat → Nat} {h : Hp} (hB : RB a h) (hb : Base a) (hO : OkA a) : CT 5 yX2_begin cX2_begin 1 none [.ref 23] h (none) (setl (bg0 h a) a) := by
  obtain ⟨b0, b1, b2, bs⟩ := id hB
  refine CT.of (own := RX2) rfl (by decide) ro_v [.ref 23] rfl (Nat.le_of_ble_eq_true rfl) (fun E hp => ?_)
  refine s_aload_n (pc := 0) 0 rfl rfl dX2_begin_0 ?_
  refine s_getr (pc := 1) (b := 30) fl_X2_18 rfl rfl rfl dX2_begin_1 ?_
  refine s_iconst (pc := 4) (k_i0N) dX2_begin_4 ?_
  refine s_csn2 (pc := 5) (c_J7_fill_53178 rfl) ml_X2_53 ms_J7_fill_53178 (by decide) (Nat.le_of_ble_eq_true rfl) dX2_begin_5 ?_
  refine s_aload_n (pc := 8) 0 rfl rfl dX2_begin_8 ?_
  refine s_getr (pc := 9) (b := 31) fl_X2_22 rfl rfl rfl dX2_begin_9 ?_
  refine s_iconst (pc := 12) (k_i0N) dX2_begin_12 ?_
  refine s_csn2 (pc := 13) (c_J7_fill_53178 rfl) ml_X2_53 ms_J7_fill_53178 (by decide) (Nat.le_of_ble_eq_true rfl) dX2_begin_13 ?_
  refine s_aload_n (pc := 16) 0 rfl rfl dX2_begin_16 ?_
  refine s_iconst (pc := 17) (k_i0N) dX2_begin_17 ?_
  refine s_puti (pc := 18) fl_X2_34 fw_2_6 rfl rfl dX2_begin_18 ?_
  refine s_aload_n (pc := 21) 0 rfl rfl dX2_begin_21 ?_
  refine s_aload_n (pc := 22) 0 rfl rfl dX2_begin_22 ?_
  refine s_getr (pc := 23) (b := 24) fl_X2_12 rfl rfl rfl dX2_begin_23 ?_
  refine s_getiE (pc := 26) fl_X2_59 rfl rfl b1 dX2_begin_26 ?_
  refine s_puti (pc := 29) fl_X2_38 fw_2_7 rfl rfl dX2_begin_29 ?_
  refine s_aload_n (pc := 32) 0 rfl rfl dX2_begin_32 ?_
  refine s_aload_n (pc := 33) 0 rfl rfl dX2_begin_33 ?_
  refine s_getr (pc := 34) (b := 24) fl_X2_12 rfl rfl rfl dX2_begin_34 ?_
  refine s_getiE (pc := 37) fl_X2_62 rfl rfl b2 dX2_begin_37 ?_
  refine s_puti (pc := 40) fl_X2_41 fw_2_8 rfl rfl dX2_begin_40 ?_
  refine s_aload_n (pc := 43) 0 rfl rfl dX2_begin_43 ?_
  refine s_iconst (pc := 44) (k_i0N) dX2_begin_44 ?_
  refine s_puti (pc := 45) fl_X2_44 fw_2_9 rfl rfl dX2_begin_45 ?_
  refine s_aload_n (pc := 48) 0 rfl rfl dX2_begin_48 ?_
  refine s_iconst (pc := 49) (k_i0N) dX2_begin_49 ?_
  refine s_puti (pc := 50) fl_X2_47 fw_2_10 rfl rfl dX2_begin_50 ?_
  refine s_aload_n (pc := 53) 0 rfl rfl dX2_begin_53 ?_
  refine s_iconst (pc := 54) (k_i0N) dX2_begin_54 ?_
  refine s_puti (pc := 55) fl_X2_50 fw_2_11 rfl rfl dX2_begin_55 ?_
  refine s_aload_n (pc := 58) 0 rfl rfl dX2_begin_58 ?_
  refine s_cvn0 (pc := 59) (c_X2_settle (RC_bg0 hB hb hO.1.1) hO) ml_X2_65 mw_X2_settle rfl (by decide) (Nat.le_of_ble_eq_true rfl) dX2_begin_59 ?_
  refine s_vret (pc := 62) dX2_begin_62 (PostE.of hp ?_ ?_)
  · rfl
  · rfl

def movC (h : Hp) (a : Nat → Nat) (i : Nat) : Hp := ui (ui (ui h 23 9 (nI (a 5 ^^^ 2 ^ i))) 23 8 (nI (a 4 - (1 + shiftN a i (a 5))))) 23 11 (nI (a 6 + shiftN a i (a 5)))
def rgC (h : Hp) (a : Nat → Nat) (s k : Nat) : Hp := fup h 31 k (fun y => nI (sh a y 7 + ((s / 2 ^ y) &&& 1)))

set_option maxRecDepth 20000 in
theorem c_X2_move {i : Nat} {a : Nat → Nat} {h : Hp} (hR : RC a h) (hO : OkA a) (hi : i < a 0) (h4 : 1 + shiftN a i (a 5) ≤ a 4) : CT 3 yX2_move cX2_move 3 (some .int) [.ref 23, .int (nI i)] h (some (.int (nI (shiftN a i (a 5))))) (movC h a i) := by
  obtain ⟨⟨o0, o1, o2, o3, o4, o5, o6⟩, os⟩ := id hO
  have o64 := hO.in64
  have hC := hR.1
  obtain ⟨⟨r0, r1, r2, r4, r5, r6⟩, rs, P, rp, rP, rt⟩ := id hC
  have rg := hR.2
  have pl := pow_lt31 (k := i) (by omega)
  refine CT.of (own := RX2) rfl (by decide) (ro_i _) [.ref 23, .int (nI i), .null] rfl (Nat.le_of_ble_eq_true rfl) (fun E hp => ?_)
  refine s_aload_n (pc := 0) 0 rfl rfl dX2_move_0 ?_
  refine s_iload_n (pc := 1) 1 rfl rfl dX2_move_1 ?_
  refine s_cvi1 (pc := 2) (c_X2_shiftedBy hR hO hi) ml_X2_100 mw_X2_shiftedBy rfl (by decide) (Nat.le_of_ble_eq_true rfl) dX2_move_2 ?_
  refine s_istore_n (pc := 5) 2 rfl (by decide) rfl dX2_move_5 ?_
  refine s_aload_n (pc := 6) 0 rfl rfl dX2_move_6 ?_
  refine s_dup (pc := 7) rfl dX2_move_7 ?_
  refine s_getiE (pc := 8) fl_X2_44 rfl rfl r5 dX2_move_8 ?_
  refine s_iconst (pc := 11) (k_i1N) dX2_move_11 ?_
  refine s_iload_n (pc := 12) 1 rfl rfl dX2_move_12 ?_
  refine s_ishl1N (pc := 13) (by omega) dX2_move_13 ?_
  refine s_ixorN (pc := 14) (by omega) (by omega) dX2_move_14 ?_
  refine s_puti (pc := 15) fl_X2_44 fw_2_9 rfl rfl dX2_move_15 ?_
  refine s_aload_n (pc := 18) 0 rfl rfl dX2_move_18 ?_
  refine s_dup (pc := 19) rfl dX2_move_19 ?_
  refine s_getiE (pc := 20) fl_X2_41 rfl rfl r4 dX2_move_20 ?_
  refine s_iconst (pc := 23) (k_i1N) dX2_move_23 ?_
  refine s_iload_n (pc := 24) 2 rfl rfl dX2_move_24 ?_
  refine s_iaddN (pc := 25) dX2_move_25 ?_
  refine s_isubN (pc := 26) (by omega) dX2_move_26 ?_
  refine s_puti (pc := 27) fl_X2_41 fw_2_8 rfl rfl dX2_move_27 ?_
  refine s_aload_n (pc := 30) 0 rfl rfl dX2_move_30 ?_
  refine s_dup (pc := 31) rfl dX2_move_31 ?_
  refine s_getiE (pc := 32) fl_X2_50 rfl rfl r6 dX2_move_32 ?_
  refine s_iload_n (pc := 35) 2 rfl rfl dX2_move_35 ?_
  refine s_iaddN (pc := 36) dX2_move_36 ?_
  refine s_puti (pc := 37) fl_X2_50 fw_2_11 rfl rfl dX2_move_37 ?_
  refine s_iload_n (pc := 40) 2 rfl rfl dX2_move_40 ?_
  refine s_iret (pc := 41) dX2_move_41 (PostE.of hp ?_ ?_)
  · rfl
  · rfl

set_option maxRecDepth 20000 in
theorem c_X2_runAground {s : Nat} {a : Nat → Nat} {h : Hp} (hC : RC0 a h) (hO : OkA a) (hs : s < 64) : CT 1 yX2_runAground cX2_runAground 3 (some .int) [.ref 23, .int (nI s)] h (some (.int (nI s))) (rgC h a s (a 0)) := by
  obtain ⟨⟨o0, o1, o2, o3, o4, o5, o6⟩, os⟩ := id hO
  have o64 := hO.in64
  obtain ⟨⟨r0, r1, r2, r4, r5, r6⟩, rs, P, rp, rP, rt⟩ := id hC
  refine CT.of (own := RX2) rfl (by decide) (ro_i _) [.ref 23, .int (nI s), .null] rfl (Nat.le_of_ble_eq_true rfl) (fun E hp => ?_)
  refine s_iconst (pc := 0) (k_i0N) dX2_runAground_0 ?_
  refine s_istore_n (pc := 1) 2 rfl (by decide) rfl dX2_runAground_1 ?_
  refine WW.hp (fup_0 h 31 (fun y => nI (sh a y 7 + ((s / 2 ^ y) &&& 1)))).symm ?_
  suffices lp_2 : ∀ k, k ≤ a 0 → WW E cX2_runAground RX2 3 _ 2 [.ref 23, .int (nI s), .int (nI k)] (rgC h a s k) [] from lp_2 0 (by omega)
  refine lpi (a 0) (fun k hk_k ih_2 => ?_)
  refine s_iload_n (pc := 2) 2 rfl rfl dX2_runAground_2 ?_
  refine s_aload_n (pc := 3) 0 rfl rfl dX2_runAground_3 ?_
  refine s_getr (pc := 4) (b := 24) fl_X2_12 rfl rfl rfl dX2_runAground_4 ?_
  refine s_getiE (pc := 7) fl_X2_68 rfl rfl r0 dX2_runAground_7 ?_
  refine s_icmp_geN (pc := 10) (by omega) (by omega) 33 dX2_runAground_10 (by decide) (fun c_10 => ?_) (fun c_10 => ?_)
  · obtain rfl : k = a 0 := by omega
    refine s_iload_n (pc := 33) 1 rfl rfl dX2_runAground_33 ?_
    refine s_iret (pc := 34) dX2_runAground_34 (PostE.of hp ?_ ?_)
    · rfl
    · rfl
  · refine s_aload_n (pc := 13) 0 rfl rfl dX2_runAground_13 ?_
    refine s_getr (pc := 14) (b := 31) fl_X2_22 rfl rfl rfl dX2_runAground_14 ?_
    refine s_iload_n (pc := 17) 2 rfl rfl dX2_runAground_17 ?_
    refine s_dup2 (pc := 18) rfl rfl dX2_runAground_18 ?_
    refine s_ialdN (pc := 19) (_) rfl rfl (by omega) (by rw [rgC, fup_ge (Nat.le_refl _)]; exact (rs _ (by omega)).2.2.2.2.2.2) dX2_runAground_19 ?_
    refine s_iload_n (pc := 20) 1 rfl rfl dX2_runAground_20 ?_
    refine s_iload_n (pc := 21) 2 rfl rfl dX2_runAground_21 ?_
    refine s_ishrN (pc := 22) (by omega) (by omega) dX2_runAground_22 ?_
    refine s_iconst (pc := 23) (k_i1N) dX2_runAground_23 ?_
    refine s_iandN (pc := 24) (div_lt31 (by omega) _) (by omega) dX2_runAground_24 ?_
    refine s_iaddN (pc := 25) dX2_runAground_25 ?_
    refine s_iast (pc := 26) (_) rfl rfl (by omega) dX2_runAground_26 ?_
    refine s_iincN (pc := 27) rfl (by decide) rfl dX2_runAground_27 ?_
    refine s_goto (pc := 30) 2 dX2_runAground_30 (by decide) ?_
    rw [rgC, fup_s h 31 k _ (by rfl)]
    exact ih_2 (by omega)
