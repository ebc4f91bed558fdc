/-- the first k places of row r are f -/
def fup (h : Hp) (r k : Nat) (f : Nat → Int32) : Hp := (fun x y => if x = r ∧ y < k then f y else h.1 x y, h.2)
theorem fup_0 (h : Hp) (r : Nat) (f : Nat → Int32) : fup h r 0 f = h := hp_ext (fun x y => by simp only [fup]; rw [if_neg (by omega)]) (fun _ _ => rfl)
theorem fup_s (h : Hp) (r k : Nat) (f : Nat → Int32) {v : Int32} (hv : v = f k) : ui (fup h r k f) r k v = fup h r (k + 1) f := hp_ext (fun x y => by
  simp only [fup, ui]
  by_cases h1 : x = r ∧ y = k
  · rw [if_pos h1, if_pos (by omega), hv, h1.2]
  · rw [if_neg h1]
    by_cases h2 : x = r ∧ y < k
    · rw [if_pos h2, if_pos (by omega)]
    · rw [if_neg h2, if_neg (by omega)]) (fun _ _ => rfl)
theorem fup_ne {h : Hp} {r k x y : Nat} {f : Nat → Int32} (hx : x ≠ r) : (fup h r k f).1 x y = h.1 x y := if_neg (fun q => hx q.1)
theorem fup_lt {h : Hp} {r k y : Nat} {f : Nat → Int32} (hy : y < k) : (fup h r k f).1 r y = f y := if_pos ⟨rfl, hy⟩
theorem ui_ne {h : Hp} {a k x y : Nat} {v : Int32} (hx : x ≠ a) : (ui h a k v).1 x y = h.1 x y := if_neg (fun q => hx q.1)
theorem ui_nk {h : Hp} {a k x y : Nat} {v : Int32} (hy : y ≠ k) : (ui h a k v).1 x y = h.1 x y := if_neg (fun q => hy q.2)
theorem ui_eq {h : Hp} {a k : Nat} {v : Int32} : (ui h a k v).1 a k = v := if_pos ⟨rfl, rfl⟩
theorem fil_ne {h : Hp} {a lo n x y : Nat} {v : Int32} (hx : x ≠ a) : (fil h a lo n v).1 x y = h.1 x y := if_neg (fun q => hx q.1)
theorem ui_ui (h : Hp) (a k : Nat) (v u : Int32) : ui (ui h a k v) a k u = ui h a k u := hp_ext (fun x y => by
  simp only [ui]
  by_cases q : x = a ∧ y = k
  · rw [if_pos q, if_pos q]
  · rw [if_neg q, if_neg q, if_neg q]) (fun _ _ => rfl)
/-- what the harbour's numbers rest on -/
def RCx (x y : Nat) : Prop := 23 ≤ x ∧ x ≤ 34 ∧ x ≠ 32 ∧ ¬ (x = 23 ∧ y = 6)
theorem RC0.to {a : Nat → Nat} {h h' : Hp} (hC : RC0 a h) (e : ∀ x y, RCx x y → x ≠ 33 → x ≠ 34 → h'.1 x y = h.1 x y) : RC0 a h' := by
  obtain ⟨⟨r0, r1, r2, r4, r5, r6⟩, rs, P, rp, rP, rt⟩ := hC
  have q : ∀ x y, 23 ≤ x → x ≤ 31 → ¬ (x = 23 ∧ y = 6) → h'.1 x y = h.1 x y := fun x y h1 h2 h3 => e x y ⟨h1, by omega, by omega, h3⟩ (by omega) (by omega)
  refine ⟨⟨?_, ?_, ?_, ?_, ?_, ?_⟩, fun i hi => ?_, P, rp, ?_, rt⟩
  · rw [q _ _ (by decide) (by decide) (by decide)]; exact r0
  · rw [q _ _ (by decide) (by decide) (by decide)]; exact r1
  · rw [q _ _ (by decide) (by decide) (by decide)]; exact r2
  · rw [q _ _ (by decide) (by decide) (by decide)]; exact r4
  · rw [q _ _ (by decide) (by decide) (by decide)]; exact r5
  · rw [q _ _ (by decide) (by decide) (by decide)]; exact r6
  · obtain ⟨s0, s1, s2, s3, s4, s5, s7⟩ := rs i hi
    refine ⟨?_, ?_, ?_, ?_, ?_, ?_, ?_⟩
    · rw [q _ _ (by decide) (by decide) (by omega)]; exact s0
    · rw [q _ _ (by decide) (by decide) (by omega)]; exact s1
    · rw [q _ _ (by decide) (by decide) (by omega)]; exact s2
    · rw [q _ _ (by decide) (by decide) (by omega)]; exact s3
    · rw [q _ _ (by decide) (by decide) (by omega)]; exact s4
    · rw [q _ _ (by decide) (by decide) (by omega)]; exact s5
    · rw [q _ _ (by decide) (by decide) (by omega)]; exact s7
  · rw [q _ _ (by decide) (by decide) (by decide)]; exact rP
theorem RC.to {a : Nat → Nat} {h h' : Hp} (hR : RC a h) (e : ∀ x y, RCx x y → h'.1 x y = h.1 x y) : RC a h' :=
  ⟨hR.1.to (fun x y h1 _ _ => e x y h1), fun i hi => ⟨(e 33 i ⟨by decide, by decide, by decide, by omega⟩).trans (hR.2 i hi).1, (e 34 i ⟨by decide, by decide, by decide, by omega⟩).trans (hR.2 i hi).2⟩⟩
def setl (h : Hp) (a : Nat → Nat) : Hp := fup (fup h 33 (a 0) (fun y => nI (ageN a y (a 1)))) 34 (a 0) (fun y => nI (ahdN a y))
theorem RC_setl {a : Nat → Nat} {h : Hp} (hC : RC0 a h) : RC a (setl h a) :=
  ⟨hC.to (fun x y _ h1 h2 => by rw [setl, fup_ne h2, fup_ne h1]), fun i hi => ⟨by rw [setl, fup_ne (by decide), fup_lt hi], by rw [setl, fup_lt hi]⟩⟩
theorem setl_ne {h : Hp} {a : Nat → Nat} {x y : Nat} (h1 : x ≠ 33) (h2 : x ≠ 34) : (setl h a).1 x y = h.1 x y := by rw [setl, fup_ne h2, fup_ne h1]
theorem ah_anti {a : Nat → Nat} {i j u v : Nat} (h : ¬ i = j) : aheadN a j v i u = !aheadN a i u j v := by
  unfold aheadN
  by_cases h1 : u = v
  · rw [if_pos h1, if_pos h1.symm]
    by_cases h2 : sh a i 2 = sh a j 2
    · rw [if_pos h2, if_pos h2.symm]
      by_cases h3 : sh a i 3 = sh a j 3
      · rw [if_pos h3, if_pos h3.symm, ← decide_not]; exact decide_eq_decide.mpr (by omega)
      · rw [if_neg h3, if_neg (fun q => h3 q.symm), ← decide_not]; exact decide_eq_decide.mpr (by omega)
    · rw [if_neg h2, if_neg (fun q => h2 q.symm), ← decide_not]; exact decide_eq_decide.mpr (by omega)
  · rw [if_neg h1, if_neg (fun q => h1 q.symm), ← decide_not]; exact decide_eq_decide.mpr (by omega)
/-- what a ship tells of kind m -/
def markN (a : Nat → Nat) (i m : Nat) : Nat := if m = 1 then ageN a i (a 1) - (a 1 - sh a i 1 + sh a i 5) else if m = 2 then (a 1 - sh a i 1 + sh a i 5) - ageN a i (a 1) else if m = 3 then cnt (a 0) (fun j => decide (¬ j = i) && aheadNow a j i) else if m = 4 then cnt (a 0) (fun j => decide (¬ j = i) && aheadNow a i j && !aheadN a i (ageN a i (a 1) - 5) j (ageN a j (a 1))) else sh a i 6
abbrev kageN (a : Nat → Nat) (i k y : Nat) : Nat := agedN k (y - sh a i 1) (sh a i 5) (sh a i 6)
abbrev alkN (a : Nat → Nat) (i s y g : Nat) : Nat := cnt 6 (fun k => s.testBit k && decide (kageN a i k y = g))
def gpN (a : Nat → Nat) (i s y : Nat) : Nat → Nat
  | 0 => 0
  | k + 1 => if s.testBit k = true then (if gpN a i s y k < alkN a i s y (kageN a i k y) then alkN a i s y (kageN a i k y) else gpN a i s y k) else gpN a i s y k
theorem gp_le (a : Nat → Nat) (i s y k : Nat) : gpN a i s y k ≤ 6 := by
  induction k with
  | zero => exact Nat.zero_le _
  | succ k ih =>
    have h1 : alkN a i s y (kageN a i k y) ≤ 6 := cnt_le _ _
    simp only [gpN]
    repeat' split
    all_goals omega
theorem pop_bitsU {n : Nat} (p : Nat → Bool) (hn : n ≤ 6) : pop (bitsU n p) = cnt n p := by
  unfold pop
  have e : cnt 6 (bitsU n p).testBit = cnt 6 (fun j => decide (j < n) && p j) := cnt_congr (fun j _ => bitsU_testBit n p j)
  rw [e, cnt_more hn (fun j hj => by simp [show ¬ j < n by omega])]
  exact cnt_congr (fun j hj => by simp [hj])
theorem mark4 {a : Nat → Nat} {i g : Nat} (hn : a 0 ≤ 6) : pop (bitsU (a 0) (fun j => decide (¬ j = i) && aheadN a j (ageN a j (a 1)) i g) ^^^ (bitsU (a 0) (fun j => decide (¬ j = i) && aheadN a j (ageN a j (a 1)) i g) &&& ahdN a i)) = cnt (a 0) (fun j => decide (¬ j = i) && aheadNow a i j && !aheadN a i g j (ageN a j (a 1))) := by
  unfold pop
  have e : cnt 6 (bitsU (a 0) (fun j => decide (¬ j = i) && aheadN a j (ageN a j (a 1)) i g) ^^^ (bitsU (a 0) (fun j => decide (¬ j = i) && aheadN a j (ageN a j (a 1)) i g) &&& ahdN a i)).testBit = cnt 6 (fun j => decide (j < a 0) && (decide (¬ j = i) && aheadNow a i j && !aheadN a i g j (ageN a j (a 1)))) := cnt_congr (fun j _ => by
    rw [and_not_tb, bitsU_testBit, ahdN, bitsU_testBit]
    by_cases hj : j < a 0
    · by_cases hji : j = i
      · simp [hji]
      · have e1 : aheadN a j (ageN a j (a 1)) i g = !aheadN a i g j (ageN a j (a 1)) := ah_anti (fun q => hji q.symm)
        have e2 : aheadNow a j i = !aheadNow a i j := ah_anti (fun q => hji q.symm)
        simp only [hj, hji, e1, e2]
        cases aheadNow a i j <;> cases aheadN a i g j (ageN a j (a 1)) <;> rfl
    · simp [hj])
  rw [e, cnt_more hn (fun j hj => by simp [show ¬ j < a 0 by omega])]
  exact cnt_congr (fun j hj => by simp [hj])

set_option maxRecDepth 20000 in
theorem c_J7_fill_53178 {r n : Nat} {v : Int32} {h : Hp} (hl : lyL[r]? = some (1, n)) : CT 1 yJ7_fill_53178 cJ7_fill_53178 4 none [.ref r, .int v] h (none) (fil h r 0 n v) := by
  have ln := ly_lt _ _ hl
  dsimp only at ln
  refine CT.of (own := RJ7) rfl (by decide) ro_v [.ref r, .int v, .null, .null] rfl (Nat.le_of_ble_eq_true rfl) (fun E hp => ?_)
  refine s_iconst (pc := 0) (k_i0N) dJ7_fill_53178_0 ?_
  refine s_istore_n (pc := 1) 2 rfl (by decide) rfl dJ7_fill_53178_1 ?_
  refine s_aload_n (pc := 2) 0 rfl rfl dJ7_fill_53178_2 ?_
  refine s_alen (pc := 3) hl (by decide) dJ7_fill_53178_3 ?_
  refine s_istore_n (pc := 4) 3 rfl (by decide) rfl dJ7_fill_53178_4 ?_
  refine WW.hp (fil_0 h r 0 v).symm ?_
  suffices lp_5 : ∀ k, k ≤ n → WW E cJ7_fill_53178 RJ7 4 _ 5 [.ref r, .int v, .int (nI k), .int (nI n)] (fil h r 0 k v) [] from lp_5 0 (by omega)
  refine lpi n (fun k hk_k ih_5 => ?_)
  refine s_iload_n (pc := 5) 2 rfl rfl dJ7_fill_53178_5 ?_
  refine s_iload_n (pc := 6) 3 rfl rfl dJ7_fill_53178_6 ?_
  refine s_icmp_geN (pc := 7) (by omega) (by omega) 20 dJ7_fill_53178_7 (by decide) (fun c_7 => ?_) (fun c_7 => ?_)
  · obtain rfl : k = n := by omega
    refine s_vret (pc := 20) dJ7_fill_53178_20 (PostE.of hp ?_ ?_)
    · rfl
    · rfl
  · refine s_aload_n (pc := 10) 0 rfl rfl dJ7_fill_53178_10 ?_
    refine s_iload_n (pc := 11) 2 rfl rfl dJ7_fill_53178_11 ?_
    refine s_iload_n (pc := 12) 1 rfl rfl dJ7_fill_53178_12 ?_
    refine s_iast (pc := 13) (_) hl rfl (by omega) dJ7_fill_53178_13 ?_
    refine s_iincN (pc := 14) rfl (by decide) rfl dJ7_fill_53178_14 ?_
    refine s_goto (pc := 17) 5 dJ7_fill_53178_17 (by decide) ?_
    have e5 := fil_s h r 0 k v
    rw [Nat.zero_add] at e5
    rw [e5]
    exact ih_5 (by omega)

set_option maxRecDepth 20000 in
theorem c_X2_fact {i w : Nat} {a : Nat → Nat} {h : Hp} (hR : RC a h) (hO : OkA a) (hi : i < a 0) (hw : w < 9) : CT 3 yX2_fact cX2_fact 3 (some .int) [.ref 23, .int (nI i), .int (nI w)] h (some (.int (hasN a i w))) (h) := by
  obtain ⟨⟨o0, o1, o2, o3, o4, o5, o6⟩, os⟩ := id hO
  have o64 := hO.in64
  have hC := hR.1
  obtain ⟨⟨r0, r1, r2, r4, r5, r6⟩, rs, P, rp, rP, rt⟩ := id hC
  have rg := hR.2
  rcases (show w = 0 ∨ w = 1 ∨ w = 2 ∨ w = 3 ∨ w = 4 ∨ w = 5 ∨ w = 6 ∨ w = 7 ∨ w = 8 by omega) with rfl | rfl | rfl | rfl | rfl | rfl | rfl | rfl | rfl
  · refine CT.of (own := RX2) rfl (by decide) (ro_i _) [.ref 23, .int (nI i), .int (nI 0)] rfl (Nat.le_of_ble_eq_true rfl) (fun E hp => ?_)
    refine s_iload_n (pc := 0) 2 rfl rfl dX2_fact_0 ?_
    refine s_tabIn (pc := 1) 48 dX2_fact_1 (by decide) (by decide) (off := 47) (by decide) (by decide) ?_
    refine s_aload_n (pc := 48) 0 rfl rfl dX2_fact_48 ?_
    refine s_getr (pc := 49) (b := 24) fl_X2_12 rfl rfl rfl dX2_fact_49 ?_
    refine s_getr (pc := 52) (b := 25) fl_X2_71 rfl rfl rfl dX2_fact_52 ?_
    refine s_iload_n (pc := 55) 1 rfl rfl dX2_fact_55 ?_
    refine s_ialdN (pc := 56) (_) rfl rfl (by omega) (rs _ (by omega)).1 dX2_fact_56 ?_
    refine s_iret (pc := 57) dX2_fact_57 (PostE.of hp ?_ ?_)
    · first | rfl | (simp [hasN, c_117]; done)
    · rfl
  · refine CT.of (own := RX2) rfl (by decide) (ro_i _) [.ref 23, .int (nI i), .int (nI 1)] rfl (Nat.le_of_ble_eq_true rfl) (fun E hp => ?_)
    refine s_iload_n (pc := 0) 2 rfl rfl dX2_fact_0 ?_
    refine s_tabIn (pc := 1) 58 dX2_fact_1 (by decide) (by decide) (off := 57) (by decide) (by decide) ?_
    refine s_aload_n (pc := 58) 0 rfl rfl dX2_fact_58 ?_
    refine s_getr (pc := 59) (b := 24) fl_X2_12 rfl rfl rfl dX2_fact_59 ?_
    refine s_getr (pc := 62) (b := 26) fl_X2_106 rfl rfl rfl dX2_fact_62 ?_
    refine s_iload_n (pc := 65) 1 rfl rfl dX2_fact_65 ?_
    refine s_ialdN (pc := 66) (_) rfl rfl (by omega) (rs _ (by omega)).2.1 dX2_fact_66 ?_
    refine s_iret (pc := 67) dX2_fact_67 (PostE.of hp ?_ ?_)
    · first | rfl | (simp [hasN, c_117]; done)
    · rfl
  · refine CT.of (own := RX2) rfl (by decide) (ro_i _) [.ref 23, .int (nI i), .int (nI 2)] rfl (Nat.le_of_ble_eq_true rfl) (fun E hp => ?_)
    refine s_iload_n (pc := 0) 2 rfl rfl dX2_fact_0 ?_
    refine s_tabIn (pc := 1) 68 dX2_fact_1 (by decide) (by decide) (off := 67) (by decide) (by decide) ?_
    refine s_aload_n (pc := 68) 0 rfl rfl dX2_fact_68 ?_
    refine s_getr (pc := 69) (b := 24) fl_X2_12 rfl rfl rfl dX2_fact_69 ?_
    refine s_getr (pc := 72) (b := 27) fl_X2_125 rfl rfl rfl dX2_fact_72 ?_
    refine s_iload_n (pc := 75) 1 rfl rfl dX2_fact_75 ?_
    refine s_ialdN (pc := 76) (_) rfl rfl (by omega) (rs _ (by omega)).2.2.1 dX2_fact_76 ?_
    refine s_iret (pc := 77) dX2_fact_77 (PostE.of hp ?_ ?_)
    · first | rfl | (simp [hasN, c_117]; done)
    · rfl
  · refine CT.of (own := RX2) rfl (by decide) (ro_i _) [.ref 23, .int (nI i), .int (nI 3)] rfl (Nat.le_of_ble_eq_true rfl) (fun E hp => ?_)
    refine s_iload_n (pc := 0) 2 rfl rfl dX2_fact_0 ?_
    refine s_tabIn (pc := 1) 78 dX2_fact_1 (by decide) (by decide) (off := 77) (by decide) (by decide) ?_
    refine s_aload_n (pc := 78) 0 rfl rfl dX2_fact_78 ?_
    refine s_getr (pc := 79) (b := 24) fl_X2_12 rfl rfl rfl dX2_fact_79 ?_
    refine s_getr (pc := 82) (b := 28) fl_X2_128 rfl rfl rfl dX2_fact_82 ?_
    refine s_iload_n (pc := 85) 1 rfl rfl dX2_fact_85 ?_
    refine s_ialdN (pc := 86) (_) rfl rfl (by omega) (rs _ (by omega)).2.2.2.1 dX2_fact_86 ?_
    refine s_iret (pc := 87) dX2_fact_87 (PostE.of hp ?_ ?_)
    · first | rfl | (simp [hasN, c_117]; done)
    · rfl
  · refine CT.of (own := RX2) rfl (by decide) (ro_i _) [.ref 23, .int (nI i), .int (nI 4)] rfl (Nat.le_of_ble_eq_true rfl) (fun E hp => ?_)
    refine s_iload_n (pc := 0) 2 rfl rfl dX2_fact_0 ?_
    refine s_tabIn (pc := 1) 88 dX2_fact_1 (by decide) (by decide) (off := 87) (by decide) (by decide) ?_
    refine s_aload_n (pc := 88) 0 rfl rfl dX2_fact_88 ?_
    refine s_getr (pc := 89) (b := 24) fl_X2_12 rfl rfl rfl dX2_fact_89 ?_
    refine s_getr (pc := 92) (b := 29) fl_X2_145 rfl rfl rfl dX2_fact_92 ?_
    refine s_iload_n (pc := 95) 1 rfl rfl dX2_fact_95 ?_
    refine s_ialdN (pc := 96) (_) rfl rfl (by omega) (rs _ (by omega)).2.2.2.2.1 dX2_fact_96 ?_
    refine s_iret (pc := 97) dX2_fact_97 (PostE.of hp ?_ ?_)
    · first | rfl | (simp [hasN, c_117]; done)
    · rfl
  · refine CT.of (own := RX2) rfl (by decide) (ro_i _) [.ref 23, .int (nI i), .int (nI 5)] rfl (Nat.le_of_ble_eq_true rfl) (fun E hp => ?_)
    refine s_iload_n (pc := 0) 2 rfl rfl dX2_fact_0 ?_
    refine s_tabIn (pc := 1) 98 dX2_fact_1 (by decide) (by decide) (off := 97) (by decide) (by decide) ?_
    refine s_aload_n (pc := 98) 0 rfl rfl dX2_fact_98 ?_
    refine s_getr (pc := 99) (b := 30) fl_X2_18 rfl rfl rfl dX2_fact_99 ?_
    refine s_iload_n (pc := 102) 1 rfl rfl dX2_fact_102 ?_
    refine s_ialdN (pc := 103) (_) rfl rfl (by omega) (rs _ (by omega)).2.2.2.2.2.1 dX2_fact_103 ?_
    refine s_iret (pc := 104) dX2_fact_104 (PostE.of hp ?_ ?_)
    · first | rfl | (simp [hasN, c_117]; done)
    · rfl
  · refine CT.of (own := RX2) rfl (by decide) (ro_i _) [.ref 23, .int (nI i), .int (nI 6)] rfl (Nat.le_of_ble_eq_true rfl) (fun E hp => ?_)
    refine s_iload_n (pc := 0) 2 rfl rfl dX2_fact_0 ?_
    refine s_tabIn (pc := 1) 105 dX2_fact_1 (by decide) (by decide) (off := 104) (by decide) (by decide) ?_
    refine s_aload_n (pc := 105) 0 rfl rfl dX2_fact_105 ?_
    refine s_getr (pc := 106) (b := 33) fl_X2_28 rfl rfl rfl dX2_fact_106 ?_
    refine s_iload_n (pc := 109) 1 rfl rfl dX2_fact_109 ?_
    refine s_ialdN (pc := 110) (_) rfl rfl (by omega) (rg _ (by omega)).1 dX2_fact_110 ?_
    refine s_iret (pc := 111) dX2_fact_111 (PostE.of hp ?_ ?_)
    · first | rfl | (simp [hasN, c_117]; done)
    · rfl
  · refine CT.of (own := RX2) rfl (by decide) (ro_i _) [.ref 23, .int (nI i), .int (nI 7)] rfl (Nat.le_of_ble_eq_true rfl) (fun E hp => ?_)
    refine s_iload_n (pc := 0) 2 rfl rfl dX2_fact_0 ?_
    refine s_tabIn (pc := 1) 112 dX2_fact_1 (by decide) (by decide) (off := 111) (by decide) (by decide) ?_
    refine s_aload_n (pc := 112) 0 rfl rfl dX2_fact_112 ?_
    refine s_iload_n (pc := 113) 1 rfl rfl dX2_fact_113 ?_
    refine s_cvi1 (pc := 114) (c_X2_isIn hC hO (by omega)) ml_X2_142 mw_X2_isIn rfl (by decide) (Nat.le_of_ble_eq_true rfl) dX2_fact_114 ?_
    refine s_if_eqB (pc := 117) 128 dX2_fact_117 (by decide) (fun c_117 => ?_) (fun c_117 => ?_)
    · refine s_bipush (pc := 128) (k_bm9) dX2_fact_128 ?_
      refine s_iret (pc := 130) dX2_fact_130 (PostE.of hp ?_ ?_)
      · first | rfl | (simp [hasN, c_117]; done)
      · rfl
    · refine s_aload_n (pc := 120) 0 rfl rfl dX2_fact_120 ?_
      refine s_iload_n (pc := 121) 1 rfl rfl dX2_fact_121 ?_
      refine s_cvi1 (pc := 122) (c_X2_berthNow hR hO hi) ml_X2_148 mw_X2_berthNow rfl (by decide) (Nat.le_of_ble_eq_true rfl) dX2_fact_122 ?_
      refine s_goto (pc := 125) 130 dX2_fact_125 (by decide) ?_
      refine s_iret (pc := 130) dX2_fact_130 (PostE.of hp ?_ ?_)
      · first | rfl | (simp [hasN, c_117]; done)
      · rfl
  · refine CT.of (own := RX2) rfl (by decide) (ro_i _) [.ref 23, .int (nI i), .int (nI 8)] rfl (Nat.le_of_ble_eq_true rfl) (fun E hp => ?_)
    refine s_iload_n (pc := 0) 2 rfl rfl dX2_fact_0 ?_
    refine s_tabOut (pc := 1) 131 dX2_fact_1 (by decide) (by decide) ?_
    refine s_aload_n (pc := 131) 0 rfl rfl dX2_fact_131 ?_
    refine s_getr (pc := 132) (b := 31) fl_X2_22 rfl rfl rfl dX2_fact_132 ?_
    refine s_iload_n (pc := 135) 1 rfl rfl dX2_fact_135 ?_
    refine s_ialdN (pc := 136) (_) rfl rfl (by omega) (rs _ (by omega)).2.2.2.2.2.2 dX2_fact_136 ?_
    refine s_iret (pc := 137) dX2_fact_137 (PostE.of hp ?_ ?_)
    · first | rfl | (simp [hasN, c_117]; done)
    · rfl

set_option maxRecDepth 20000 in
theorem c_X2_markOf_1 {i : Nat} {a : Nat → Nat} {h : Hp} (hR : RC a h) (hO : OkA a) (hi : i < a 0) (hk : sh a i 0 = 1 ∨ sh a i 0 = 4) : CT 6 yX2_markOf cX2_markOf 4 (some .int) [.ref 23, .int (nI i), .int (nI 1)] h (some (.int (nI (markN a i 1)))) (h) := by
  obtain ⟨⟨o0, o1, o2, o3, o4, o5, o6⟩, os⟩ := id hO
  have o64 := hO.in64
  have hC := hR.1
  obtain ⟨⟨r0, r1, r2, r4, r5, r6⟩, rs, P, rp, rP, rt⟩ := id hC
  have rg := hR.2
  obtain ⟨s0, s1, s2, s3, s4, s5, s6, s7⟩ := os i hi
  have bl : ahdN a i < 64 := bitsU_lt64 _ o0
  have ge : a 1 - sh a i 1 + sh a i 5 ≤ ageN a i (a 1) := by unfold ageN agedN; (repeat' split) <;> omega
  have pl : agedN 0 (a 1 - sh a i 1) (sh a i 5) (sh a i 6) = a 1 - sh a i 1 + sh a i 5 := rfl
  refine CT.of (own := RX2) rfl (by decide) (ro_i _) [.ref 23, .int (nI i), .int (nI 1), .null] rfl (Nat.le_of_ble_eq_true rfl) (fun E hp => ?_)
  refine s_aload_n (pc := 0) 0 rfl rfl dX2_markOf_0 ?_
  refine s_iload_n (pc := 1) 1 rfl rfl dX2_markOf_1 ?_
  refine s_iconst (pc := 2) (k_i0N) dX2_markOf_2 ?_
  refine s_aload_n (pc := 3) 0 rfl rfl dX2_markOf_3 ?_
  refine s_getiE (pc := 4) fl_X2_38 rfl rfl r1 dX2_markOf_4 ?_
  refine s_cvi3 (pc := 7) (c_X2_ageAs hC hO hi (by decide) (by omega)) ml_X2_74 mw_X2_ageAs rfl (by decide) (Nat.le_of_ble_eq_true rfl) dX2_markOf_7 ?_
  refine s_istore_n (pc := 10) 3 rfl (by decide) rfl dX2_markOf_10 ?_
  refine s_iload_n (pc := 11) 2 rfl rfl dX2_markOf_11 ?_
  refine s_tabIn (pc := 12) 44 dX2_markOf_12 (by decide) (by decide) (off := 32) (by decide) (by decide) ?_
  refine s_aload_n (pc := 44) 0 rfl rfl dX2_markOf_44 ?_
  refine s_getr (pc := 45) (b := 33) fl_X2_28 rfl rfl rfl dX2_markOf_45 ?_
  refine s_iload_n (pc := 48) 1 rfl rfl dX2_markOf_48 ?_
  refine s_ialdN (pc := 49) (_) rfl rfl (by omega) (rg _ (by omega)).1 dX2_markOf_49 ?_
  refine s_iload_n (pc := 50) 3 rfl rfl dX2_markOf_50 ?_
  refine s_isubN (pc := 51) (by rw [pl]; exact ge) dX2_markOf_51 ?_
  refine s_iret (pc := 52) dX2_markOf_52 (PostE.of hp ?_ ?_)
  · exact retn rfl
  · rfl

set_option maxRecDepth 20000 in
theorem c_X2_markOf_2 {i : Nat} {a : Nat → Nat} {h : Hp} (hR : RC a h) (hO : OkA a) (hi : i < a 0) (hk : sh a i 0 = 2) : CT 6 yX2_markOf cX2_markOf 4 (some .int) [.ref 23, .int (nI i), .int (nI 2)] h (some (.int (nI (markN a i 2)))) (h) := by
  obtain ⟨⟨o0, o1, o2, o3, o4, o5, o6⟩, os⟩ := id hO
  have o64 := hO.in64
  have hC := hR.1
  obtain ⟨⟨r0, r1, r2, r4, r5, r6⟩, rs, P, rp, rP, rt⟩ := id hC
  have rg := hR.2
  obtain ⟨s0, s1, s2, s3, s4, s5, s6, s7⟩ := os i hi
  have bl : ahdN a i < 64 := bitsU_lt64 _ o0
  have ge : ageN a i (a 1) ≤ a 1 - sh a i 1 + sh a i 5 := by unfold ageN agedN; (repeat' split) <;> omega
  have pl : agedN 0 (a 1 - sh a i 1) (sh a i 5) (sh a i 6) = a 1 - sh a i 1 + sh a i 5 := rfl
  refine CT.of (own := RX2) rfl (by decide) (ro_i _) [.ref 23, .int (nI i), .int (nI 2), .null] rfl (Nat.le_of_ble_eq_true rfl) (fun E hp => ?_)
  refine s_aload_n (pc := 0) 0 rfl rfl dX2_markOf_0 ?_
  refine s_iload_n (pc := 1) 1 rfl rfl dX2_markOf_1 ?_
  refine s_iconst (pc := 2) (k_i0N) dX2_markOf_2 ?_
  refine s_aload_n (pc := 3) 0 rfl rfl dX2_markOf_3 ?_
  refine s_getiE (pc := 4) fl_X2_38 rfl rfl r1 dX2_markOf_4 ?_
  refine s_cvi3 (pc := 7) (c_X2_ageAs hC hO hi (by decide) (by omega)) ml_X2_74 mw_X2_ageAs rfl (by decide) (Nat.le_of_ble_eq_true rfl) dX2_markOf_7 ?_
  refine s_istore_n (pc := 10) 3 rfl (by decide) rfl dX2_markOf_10 ?_
  refine s_iload_n (pc := 11) 2 rfl rfl dX2_markOf_11 ?_
  refine s_tabIn (pc := 12) 53 dX2_markOf_12 (by decide) (by decide) (off := 41) (by decide) (by decide) ?_
  refine s_iload_n (pc := 53) 3 rfl rfl dX2_markOf_53 ?_
  refine s_aload_n (pc := 54) 0 rfl rfl dX2_markOf_54 ?_
  refine s_getr (pc := 55) (b := 33) fl_X2_28 rfl rfl rfl dX2_markOf_55 ?_
  refine s_iload_n (pc := 58) 1 rfl rfl dX2_markOf_58 ?_
  refine s_ialdN (pc := 59) (_) rfl rfl (by omega) (rg _ (by omega)).1 dX2_markOf_59 ?_
  refine s_isubN (pc := 60) (by rw [pl]; exact ge) dX2_markOf_60 ?_
  refine s_iret (pc := 61) dX2_markOf_61 (PostE.of hp ?_ ?_)
  · exact retn rfl
  · rfl

set_option maxRecDepth 20000 in
theorem c_X2_markOf_3 {i : Nat} {a : Nat → Nat} {h : Hp} (hR : RC a h) (hO : OkA a) (hi : i < a 0) : CT 6 yX2_markOf cX2_markOf 4 (some .int) [.ref 23, .int (nI i), .int (nI 3)] h (some (.int (nI (markN a i 3)))) (h) := by
  obtain ⟨⟨o0, o1, o2, o3, o4, o5, o6⟩, os⟩ := id hO
  have o64 := hO.in64
  have hC := hR.1
  obtain ⟨⟨r0, r1, r2, r4, r5, r6⟩, rs, P, rp, rP, rt⟩ := id hC
  have rg := hR.2
  obtain ⟨s0, s1, s2, s3, s4, s5, s6, s7⟩ := os i hi
  have bl : ahdN a i < 64 := bitsU_lt64 _ o0
  refine CT.of (own := RX2) rfl (by decide) (ro_i _) [.ref 23, .int (nI i), .int (nI 3), .null] rfl (Nat.le_of_ble_eq_true rfl) (fun E hp => ?_)
  refine s_aload_n (pc := 0) 0 rfl rfl dX2_markOf_0 ?_
  refine s_iload_n (pc := 1) 1 rfl rfl dX2_markOf_1 ?_
  refine s_iconst (pc := 2) (k_i0N) dX2_markOf_2 ?_
  refine s_aload_n (pc := 3) 0 rfl rfl dX2_markOf_3 ?_
  refine s_getiE (pc := 4) fl_X2_38 rfl rfl r1 dX2_markOf_4 ?_
  refine s_cvi3 (pc := 7) (c_X2_ageAs hC hO hi (by decide) (by omega)) ml_X2_74 mw_X2_ageAs rfl (by decide) (Nat.le_of_ble_eq_true rfl) dX2_markOf_7 ?_
  refine s_istore_n (pc := 10) 3 rfl (by decide) rfl dX2_markOf_10 ?_
  refine s_iload_n (pc := 11) 2 rfl rfl dX2_markOf_11 ?_
  refine s_tabIn (pc := 12) 62 dX2_markOf_12 (by decide) (by decide) (off := 50) (by decide) (by decide) ?_
  refine s_aload_n (pc := 62) 0 rfl rfl dX2_markOf_62 ?_
  refine s_getr (pc := 63) (b := 34) fl_X2_31 rfl rfl rfl dX2_markOf_63 ?_
  refine s_iload_n (pc := 66) 1 rfl rfl dX2_markOf_66 ?_
  refine s_ialdN (pc := 67) (_) rfl rfl (by omega) (rg _ (by omega)).2 dX2_markOf_67 ?_
  refine s_csi1 (pc := 68) (c_J6_bitCount_0f7a4 bl) ml_X2_137 ms_J6_bitCount_0f7a4 (by decide) (Nat.le_of_ble_eq_true rfl) dX2_markOf_68 ?_
  refine s_iret (pc := 71) dX2_markOf_71 (PostE.of hp ?_ ?_)
  · exact retn (pop_bitsU _ o0)
  · rfl

set_option maxRecDepth 20000 in
theorem c_X2_markOf_4 {i : Nat} {a : Nat → Nat} {h : Hp} (hR : RC a h) (hO : OkA a) (hi : i < a 0) (hk : sh a i 0 = 4) : CT 6 yX2_markOf cX2_markOf 4 (some .int) [.ref 23, .int (nI i), .int (nI 4)] h (some (.int (nI (markN a i 4)))) (h) := by
  obtain ⟨⟨o0, o1, o2, o3, o4, o5, o6⟩, os⟩ := id hO
  have o64 := hO.in64
  have hC := hR.1
  obtain ⟨⟨r0, r1, r2, r4, r5, r6⟩, rs, P, rp, rP, rt⟩ := id hC
  have rg := hR.2
  obtain ⟨s0, s1, s2, s3, s4, s5, s6, s7⟩ := os i hi
  have bl : ahdN a i < 64 := bitsU_lt64 _ o0
  have ba : ageN a i (a 1) - 5 = agedN 1 (a 1 - sh a i 1) (sh a i 5) (sh a i 6) := by unfold ageN; rw [hk]; simp [agedN]
  have gl := agedN_le (k := 1) (o := a 1 - sh a i 1) (t := sh a i 5) (p := sh a i 6)
  have bl2 := bitsU_lt64 (n := a 0) (fun j => decide (¬ j = i) && aheadN a j (ageN a j (a 1)) i (agedN 1 (a 1 - sh a i 1) (sh a i 5) (sh a i 6))) o0
  refine CT.of (own := RX2) rfl (by decide) (ro_i _) [.ref 23, .int (nI i), .int (nI 4), .null] rfl (Nat.le_of_ble_eq_true rfl) (fun E hp => ?_)
  refine s_aload_n (pc := 0) 0 rfl rfl dX2_markOf_0 ?_
  refine s_iload_n (pc := 1) 1 rfl rfl dX2_markOf_1 ?_
  refine s_iconst (pc := 2) (k_i0N) dX2_markOf_2 ?_
  refine s_aload_n (pc := 3) 0 rfl rfl dX2_markOf_3 ?_
  refine s_getiE (pc := 4) fl_X2_38 rfl rfl r1 dX2_markOf_4 ?_
  refine s_cvi3 (pc := 7) (c_X2_ageAs hC hO hi (by decide) (by omega)) ml_X2_74 mw_X2_ageAs rfl (by decide) (Nat.le_of_ble_eq_true rfl) dX2_markOf_7 ?_
  refine s_istore_n (pc := 10) 3 rfl (by decide) rfl dX2_markOf_10 ?_
  refine s_iload_n (pc := 11) 2 rfl rfl dX2_markOf_11 ?_
  refine s_tabIn (pc := 12) 72 dX2_markOf_12 (by decide) (by decide) (off := 60) (by decide) (by decide) ?_
  refine s_aload_n (pc := 72) 0 rfl rfl dX2_markOf_72 ?_
  refine s_aload_n (pc := 73) 0 rfl rfl dX2_markOf_73 ?_
  refine s_getiE (pc := 74) fl_X2_38 rfl rfl r1 dX2_markOf_74 ?_
  refine s_iload_n (pc := 77) 1 rfl rfl dX2_markOf_77 ?_
  refine s_aload_n (pc := 78) 0 rfl rfl dX2_markOf_78 ?_
  refine s_iload_n (pc := 79) 1 rfl rfl dX2_markOf_79 ?_
  refine s_iconst (pc := 80) (k_i1N) dX2_markOf_80 ?_
  refine s_aload_n (pc := 81) 0 rfl rfl dX2_markOf_81 ?_
  refine s_getiE (pc := 82) fl_X2_38 rfl rfl r1 dX2_markOf_82 ?_
  refine s_cvi3 (pc := 85) (c_X2_ageAs hC hO hi (by decide) (by omega)) ml_X2_74 mw_X2_ageAs rfl (by decide) (Nat.le_of_ble_eq_true rfl) dX2_markOf_85 ?_
  refine s_cvi3 (pc := 88) (c_X2_aheadIn hC hO hi (by omega) (by omega)) ml_X2_134 mw_X2_aheadIn rfl (by decide) (Nat.le_of_ble_eq_true rfl) dX2_markOf_88 ?_
  refine s_aload_n (pc := 91) 0 rfl rfl dX2_markOf_91 ?_
  refine s_getr (pc := 92) (b := 34) fl_X2_31 rfl rfl rfl dX2_markOf_92 ?_
  refine s_iload_n (pc := 95) 1 rfl rfl dX2_markOf_95 ?_
  refine s_ialdN (pc := 96) (_) rfl rfl (by omega) (rg _ (by omega)).2 dX2_markOf_96 ?_
  refine s_iconst (pc := 97) (k_im1) dX2_markOf_97 ?_
  refine s_ixor (pc := 98) dX2_markOf_98 ?_
  refine s_iand (pc := 99) dX2_markOf_99 ?_
  refine WW.top (and_not _ bl2 _ bl) ?_
  refine s_csi1 (pc := 100) (c_J6_bitCount_0f7a4 (and_not_lt _ bl2 _ bl)) ml_X2_137 ms_J6_bitCount_0f7a4 (by decide) (Nat.le_of_ble_eq_true rfl) dX2_markOf_100 ?_
  refine s_iret (pc := 103) dX2_markOf_103 (PostE.of hp ?_ ?_)
  · exact retn (by rw [mark4 o0, ← ba]; rfl)
  · rfl

set_option maxRecDepth 20000 in
theorem c_X2_markOf_5 {i : Nat} {a : Nat → Nat} {h : Hp} (hR : RC a h) (hO : OkA a) (hi : i < a 0) : CT 6 yX2_markOf cX2_markOf 4 (some .int) [.ref 23, .int (nI i), .int (nI 5)] h (some (.int (nI (markN a i 5)))) (h) := by
  obtain ⟨⟨o0, o1, o2, o3, o4, o5, o6⟩, os⟩ := id hO
  have o64 := hO.in64
  have hC := hR.1
  obtain ⟨⟨r0, r1, r2, r4, r5, r6⟩, rs, P, rp, rP, rt⟩ := id hC
  have rg := hR.2
  obtain ⟨s0, s1, s2, s3, s4, s5, s6, s7⟩ := os i hi
  have bl : ahdN a i < 64 := bitsU_lt64 _ o0
  refine CT.of (own := RX2) rfl (by decide) (ro_i _) [.ref 23, .int (nI i), .int (nI 5), .null] rfl (Nat.le_of_ble_eq_true rfl) (fun E hp => ?_)
  refine s_aload_n (pc := 0) 0 rfl rfl dX2_markOf_0 ?_
  refine s_iload_n (pc := 1) 1 rfl rfl dX2_markOf_1 ?_
  refine s_iconst (pc := 2) (k_i0N) dX2_markOf_2 ?_
  refine s_aload_n (pc := 3) 0 rfl rfl dX2_markOf_3 ?_
  refine s_getiE (pc := 4) fl_X2_38 rfl rfl r1 dX2_markOf_4 ?_
  refine s_cvi3 (pc := 7) (c_X2_ageAs hC hO hi (by decide) (by omega)) ml_X2_74 mw_X2_ageAs rfl (by decide) (Nat.le_of_ble_eq_true rfl) dX2_markOf_7 ?_
  refine s_istore_n (pc := 10) 3 rfl (by decide) rfl dX2_markOf_10 ?_
  refine s_iload_n (pc := 11) 2 rfl rfl dX2_markOf_11 ?_
  refine s_tabOut (pc := 12) 104 dX2_markOf_12 (by decide) (by decide) ?_
  refine s_aload_n (pc := 104) 0 rfl rfl dX2_markOf_104 ?_
  refine s_iload_n (pc := 105) 1 rfl rfl dX2_markOf_105 ?_
  refine s_cvi1 (pc := 106) (c_X2_hasPaid hC hO hi) ml_X2_112 mw_X2_hasPaid rfl (by decide) (Nat.le_of_ble_eq_true rfl) dX2_markOf_106 ?_
  refine s_if_eqB (pc := 109) 116 dX2_markOf_109 (by decide) (fun c_109 => ?_) (fun c_109 => ?_)
  · refine s_iconst (pc := 116) (k_i0N) dX2_markOf_116 ?_
    refine s_iret (pc := 117) dX2_markOf_117 (PostE.of hp ?_ ?_)
    · first | exact retn (show 1 = sh a i 6 from c_109.symm) | exact retn (show 0 = sh a i 6 by omega)
    · rfl
  · refine s_iconst (pc := 112) (k_i1N) dX2_markOf_112 ?_
    refine s_goto (pc := 113) 117 dX2_markOf_113 (by decide) ?_
    refine s_iret (pc := 117) dX2_markOf_117 (PostE.of hp ?_ ?_)
    · first | exact retn (show 1 = sh a i 6 from c_109.symm) | exact retn (show 0 = sh a i 6 by omega)
    · rfl

set_option maxRecDepth 20000 in
theorem c_X2_alike {i s y g : Nat} {a : Nat → Nat} {h : Hp} (hC : RC0 a h) (hO : OkA a) (hi : i < a 0) (hs : s < 64) (hy : y ≤ 1000) (hg : g < 2 ^ 31) : CT 4 yX2_alike cX2_alike 7 (some .int) [.ref 23, .int (nI i), .int (nI s), .int (nI y), .int (nI g)] h (some (.int (nI (alkN a i s y g)))) (h) := by
  obtain ⟨⟨o0, o1, o2, o3, o4, o5, o6⟩, os⟩ := id hO
  have o64 := hO.in64
  obtain ⟨⟨r0, r1, r2, r4, r5, r6⟩, rs, P, rp, rP, rt⟩ := id hC
  obtain ⟨s0, s1, s2, s3, s4, s5, s6, s7⟩ := os i hi
  refine CT.of (own := RX2) rfl (by decide) (ro_i _) [.ref 23, .int (nI i), .int (nI s), .int (nI y), .int (nI g), .null, .null] rfl (Nat.le_of_ble_eq_true rfl) (fun E hp => ?_)
  refine s_iconst (pc := 0) (k_i0N) dX2_alike_0 ?_
  refine s_istore (pc := 1) (by decide) rfl dX2_alike_1 ?_
  refine s_iconst (pc := 3) (k_i0N) dX2_alike_3 ?_
  refine s_istore (pc := 4) (by decide) rfl dX2_alike_4 ?_
  suffices lp_6 : ∀ k, k ≤ 6 → WW E cX2_alike RX2 7 _ 6 [.ref 23, .int (nI i), .int (nI s), .int (nI y), .int (nI g), .int (nI (cnt k (fun k => s.testBit k && decide (kageN a i k y = g)))), .int (nI k)] (h) [] from lp_6 (0) (by omega)
  refine lpi (6) (fun k hk_k ih_6 => ?_)
  refine s_iload (pc := 6) rfl dX2_alike_6 ?_
  refine s_bipush (pc := 8) (k_b6N) dX2_alike_8 ?_
  refine s_icmp_geN (pc := 10) (by omega) (by omega) 45 dX2_alike_10 (by decide) (fun c_10 => ?_) (fun c_10 => ?_)
  · obtain rfl : k = 6 := by omega
    refine s_iload (pc := 45) rfl dX2_alike_45 ?_
    refine s_iret (pc := 47) dX2_alike_47 (PostE.of hp ?_ ?_)
    · rfl
    · rfl
  · refine s_iload_n (pc := 13) 2 rfl rfl dX2_alike_13 ?_
    refine s_iload (pc := 14) rfl dX2_alike_14 ?_
    refine s_ishrN (pc := 16) (by omega) (by omega) dX2_alike_16 ?_
    refine s_iconst (pc := 17) (k_i1N) dX2_alike_17 ?_
    refine s_iandN (pc := 18) (div_lt31 (by omega) _) (by omega) dX2_alike_18 ?_
    refine s_iconst (pc := 19) (k_i1N) dX2_alike_19 ?_
    refine s_icmp_neN (pc := 20) (by rw [bit1]; split <;> decide) (by omega) 39 dX2_alike_20 (by decide) (fun c_20 => ?_) (fun c_20 => ?_)
    · refine s_iincN (pc := 39) rfl (by decide) rfl dX2_alike_39 ?_
      refine s_goto (pc := 42) 6 dX2_alike_42 (by decide) ?_
      first | (rw [cnt_t (p := (fun k => s.testBit k && decide (kageN a i k y = g))) (by simp only [Bool.and_eq_true, decide_eq_true_eq]; exact ⟨(bit1_iff _ _).mp c_20, c_33⟩)]; exact ih_6 (by omega)) | (have hf := cnt_f (n := k) (p := (fun k => s.testBit k && decide (kageN a i k y = g))) (by simp only [Bool.and_eq_true, decide_eq_true_eq]; exact fun q => c_33 q.2); rw [Nat.add_zero] at hf; rw [hf]; exact ih_6 (by omega)) | (have hf := cnt_f (n := k) (p := (fun k => s.testBit k && decide (kageN a i k y = g))) (by simp only [Bool.and_eq_true, decide_eq_true_eq]; exact fun q => c_20 ((bit1_iff _ _).mpr q.1)); rw [Nat.add_zero] at hf; rw [hf]; exact ih_6 (by omega))
    · refine s_aload_n (pc := 23) 0 rfl rfl dX2_alike_23 ?_
      refine s_iload_n (pc := 24) 1 rfl rfl dX2_alike_24 ?_
      refine s_iload (pc := 25) rfl dX2_alike_25 ?_
      refine s_iload_n (pc := 27) 3 rfl rfl dX2_alike_27 ?_
      refine s_cvi3 (pc := 28) (c_X2_ageAs hC hO hi (by omega) hy) ml_X2_74 mw_X2_ageAs rfl (by decide) (Nat.le_of_ble_eq_true rfl) dX2_alike_28 ?_
      refine s_iload (pc := 31) rfl dX2_alike_31 ?_
      refine s_icmp_neN (pc := 33) (Nat.lt_of_le_of_lt agedN_le (by omega)) (by omega) 39 dX2_alike_33 (by decide) (fun c_33 => ?_) (fun c_33 => ?_)
      · refine s_iincN (pc := 39) rfl (by decide) rfl dX2_alike_39 ?_
        refine s_goto (pc := 42) 6 dX2_alike_42 (by decide) ?_
        first | (rw [cnt_t (p := (fun k => s.testBit k && decide (kageN a i k y = g))) (by simp only [Bool.and_eq_true, decide_eq_true_eq]; exact ⟨(bit1_iff _ _).mp c_20, c_33⟩)]; exact ih_6 (by omega)) | (have hf := cnt_f (n := k) (p := (fun k => s.testBit k && decide (kageN a i k y = g))) (by simp only [Bool.and_eq_true, decide_eq_true_eq]; exact fun q => c_33 q.2); rw [Nat.add_zero] at hf; rw [hf]; exact ih_6 (by omega)) | (have hf := cnt_f (n := k) (p := (fun k => s.testBit k && decide (kageN a i k y = g))) (by simp only [Bool.and_eq_true, decide_eq_true_eq]; exact fun q => c_20 ((bit1_iff _ _).mpr q.1)); rw [Nat.add_zero] at hf; rw [hf]; exact ih_6 (by omega))
      · refine s_iincN (pc := 36) rfl (by decide) rfl dX2_alike_36 ?_
        refine s_iincN (pc := 39) rfl (by decide) rfl dX2_alike_39 ?_
        refine s_goto (pc := 42) 6 dX2_alike_42 (by decide) ?_
        first | (rw [cnt_t (p := (fun k => s.testBit k && decide (kageN a i k y = g))) (by simp only [Bool.and_eq_true, decide_eq_true_eq]; exact ⟨(bit1_iff _ _).mp c_20, c_33⟩)]; exact ih_6 (by omega)) | (have hf := cnt_f (n := k) (p := (fun k => s.testBit k && decide (kageN a i k y = g))) (by simp only [Bool.and_eq_true, decide_eq_true_eq]; exact fun q => c_33 q.2); rw [Nat.add_zero] at hf; rw [hf]; exact ih_6 (by omega)) | (have hf := cnt_f (n := k) (p := (fun k => s.testBit k && decide (kageN a i k y = g))) (by simp only [Bool.and_eq_true, decide_eq_true_eq]; exact fun q => c_20 ((bit1_iff _ _).mpr q.1)); rw [Nat.add_zero] at hf; rw [hf]; exact ih_6 (by omega))

set_option maxRecDepth 20000 in
theorem c_X2_greatestPart {i s y : Nat} {a : Nat → Nat} {h : Hp} (hC : RC0 a h) (hO : OkA a) (hi : i < a 0) (hs : s < 64) (hy : y ≤ 1000) : CT 5 yX2_greatestPart cX2_greatestPart 6 (some .int) [.ref 23, .int (nI i), .int (nI s), .int (nI y)] h (some (.int (nI (gpN a i s y 6)))) (h) := by
  obtain ⟨⟨o0, o1, o2, o3, o4, o5, o6⟩, os⟩ := id hO
  have o64 := hO.in64
  obtain ⟨⟨r0, r1, r2, r4, r5, r6⟩, rs, P, rp, rP, rt⟩ := id hC
  obtain ⟨s0, s1, s2, s3, s4, s5, s6, s7⟩ := os i hi
  refine CT.of (own := RX2) rfl (by decide) (ro_i _) [.ref 23, .int (nI i), .int (nI s), .int (nI y), .null, .null] rfl (Nat.le_of_ble_eq_true rfl) (fun E hp => ?_)
  refine s_iconst (pc := 0) (k_i0N) dX2_greatestPart_0 ?_
  refine s_istore (pc := 1) (by decide) rfl dX2_greatestPart_1 ?_
  refine s_iconst (pc := 3) (k_i0N) dX2_greatestPart_3 ?_
  refine s_istore (pc := 4) (by decide) rfl dX2_greatestPart_4 ?_
  suffices lp_6 : ∀ k, k ≤ 6 → WW E cX2_greatestPart RX2 6 _ 6 [.ref 23, .int (nI i), .int (nI s), .int (nI y), .int (nI (gpN a i s y k)), .int (nI k)] (h) [] from lp_6 (0) (by omega)
  refine lpi (6) (fun k hk_k ih_6 => ?_)
  refine s_iload (pc := 6) rfl dX2_greatestPart_6 ?_
  refine s_bipush (pc := 8) (k_b6N) dX2_greatestPart_8 ?_
  refine s_icmp_geN (pc := 10) (by omega) (by omega) 51 dX2_greatestPart_10 (by decide) (fun c_10 => ?_) (fun c_10 => ?_)
  · obtain rfl : k = 6 := by omega
    refine s_iload (pc := 51) rfl dX2_greatestPart_51 ?_
    refine s_iret (pc := 53) dX2_greatestPart_53 (PostE.of hp ?_ ?_)
    · rfl
    · rfl
  · refine s_iload_n (pc := 13) 2 rfl rfl dX2_greatestPart_13 ?_
    refine s_iload (pc := 14) rfl dX2_greatestPart_14 ?_
    refine s_ishrN (pc := 16) (by omega) (by omega) dX2_greatestPart_16 ?_
    refine s_iconst (pc := 17) (k_i1N) dX2_greatestPart_17 ?_
    refine s_iandN (pc := 18) (div_lt31 (by omega) _) (by omega) dX2_greatestPart_18 ?_
    refine s_iconst (pc := 19) (k_i1N) dX2_greatestPart_19 ?_
    refine s_icmp_neN (pc := 20) (by rw [bit1]; split <;> decide) (by omega) 45 dX2_greatestPart_20 (by decide) (fun c_20 => ?_) (fun c_20 => ?_)
    · refine s_iincN (pc := 45) rfl (by decide) rfl dX2_greatestPart_45 ?_
      refine s_goto (pc := 48) 6 dX2_greatestPart_48 (by decide) ?_
      first | (rw [show (if gpN a i s y k < alkN a i s y (kageN a i k y) then alkN a i s y (kageN a i k y) else gpN a i s y k) = gpN a i s y (k + 1) by simp only [gpN]; rw [if_pos ((bit1_iff _ _).mp c_20)]]; exact ih_6 (by omega)) | (rw [show gpN a i s y k = gpN a i s y (k + 1) by simp only [gpN]; rw [if_neg (fun q => c_20 ((bit1_iff _ _).mpr q))]]; exact ih_6 (by omega))
    · refine s_iload (pc := 23) rfl dX2_greatestPart_23 ?_
      refine s_aload_n (pc := 25) 0 rfl rfl dX2_greatestPart_25 ?_
      refine s_iload_n (pc := 26) 1 rfl rfl dX2_greatestPart_26 ?_
      refine s_iload_n (pc := 27) 2 rfl rfl dX2_greatestPart_27 ?_
      refine s_iload_n (pc := 28) 3 rfl rfl dX2_greatestPart_28 ?_
      refine s_aload_n (pc := 29) 0 rfl rfl dX2_greatestPart_29 ?_
      refine s_iload_n (pc := 30) 1 rfl rfl dX2_greatestPart_30 ?_
      refine s_iload (pc := 31) rfl dX2_greatestPart_31 ?_
      refine s_iload_n (pc := 33) 3 rfl rfl dX2_greatestPart_33 ?_
      refine s_cvi3 (pc := 34) (c_X2_ageAs hC hO hi (by omega) hy) ml_X2_74 mw_X2_ageAs rfl (by decide) (Nat.le_of_ble_eq_true rfl) dX2_greatestPart_34 ?_
      refine s_cvi4 (pc := 37) (c_X2_alike hC hO hi hs hy (Nat.lt_of_le_of_lt agedN_le (by omega))) ml_X2_158 mw_X2_alike rfl (by decide) (Nat.le_of_ble_eq_true rfl) dX2_greatestPart_37 ?_
      refine s_max (pc := 40) ml_X2_120 lm_max.1 lm_max.2.1 lm_max.2.2 (by decide) (Nat.le_of_ble_eq_true rfl) dX2_greatestPart_40 ?_
      refine WW.top (mx_n (Nat.lt_of_le_of_lt (gp_le _ _ _ _ _) (by decide)) (Nat.lt_of_le_of_lt (cnt_le _ _) (by decide))) ?_
      refine s_istore (pc := 43) (by decide) rfl dX2_greatestPart_43 ?_
      refine s_iincN (pc := 45) rfl (by decide) rfl dX2_greatestPart_45 ?_
      refine s_goto (pc := 48) 6 dX2_greatestPart_48 (by decide) ?_
      first | (rw [show (if gpN a i s y k < alkN a i s y (kageN a i k y) then alkN a i s y (kageN a i k y) else gpN a i s y k) = gpN a i s y (k + 1) by simp only [gpN]; rw [if_pos ((bit1_iff _ _).mp c_20)]]; exact ih_6 (by omega)) | (rw [show gpN a i s y k = gpN a i s y (k + 1) by simp only [gpN]; rw [if_neg (fun q => c_20 ((bit1_iff _ _).mpr q))]]; exact ih_6 (by omega))
