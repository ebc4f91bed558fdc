def OkB (a : Nat → Nat) : Prop := OkA a ∧ a 1 ≤ 99 + a 3 ∧ a 6 ≤ 6 * a 3 ∧ ∀ i, i < a 0 → sh a i 7 ≤ a 3 ∧ sh a i 5 % 5 = 0
theorem step_cases {P : Nat → Prop} {dd : Nat} (hd : dd < 5) (h0 : dd = 0 → P 0) (h1 : dd = 1 → P 1) (h2 : dd = 2 → P 2) (h3 : dd = 3 → P 3) (h4 : dd = 4 → P 4) : P dd := by
  rcases (show dd = 0 ∨ dd = 1 ∨ dd = 2 ∨ dd = 3 ∨ dd = 4 by omega) with rfl | rfl | rfl | rfl | rfl
  · exact h0 rfl
  · exact h1 rfl
  · exact h2 rfl
  · exact h3 rfl
  · exact h4 rfl
theorem OkB.goes {a : Nat → Nat} {i : Nat} (h : OkB a) (h3 : a 3 < 40) (hi : i < a 0) : OkB (goesN a i) := by
  obtain ⟨⟨⟨o0, o1, o2, o3, o4, o5, o6⟩, os⟩, b1, b6, bs⟩ := h
  obtain ⟨s0, s1, sw⟩ := Sim.goes a i
  obtain ⟨v2, v4, v5, v6, v3, v7⟩ := goes_v a i
  have sl := shift_le a i (a 5)
  have p2 : 2 ^ i < 2 ^ a 0 := Nat.pow_lt_pow_right (by decide) hi
  refine ⟨⟨⟨?_, ?_, ?_, ?_, ?_, ?_, ?_⟩, fun j hj => ?_⟩, ?_, ?_, fun j hj => ?_⟩
  · omega
  · omega
  · omega
  · omega
  · omega
  · rw [v5, s0]; exact Nat.xor_lt_two_pow o5 p2
  · omega
  · rw [s0] at hj
    have := os j hj
    have q := bs j hj
    rw [sw j 0 (by omega) (by decide), sw j 1 (by omega) (by decide), sw j 2 (by omega) (by decide), sw j 3 (by omega) (by decide), sw j 4 (by omega) (by decide), sw j 5 (by omega) (by decide), sw j 6 (by omega) (by decide), v7 j (by omega)]
    exact this
  · omega
  · omega
  · rw [s0] at hj
    have q := bs j hj
    rw [v7 j (by omega), sw j 5 (by omega) (by decide), v3]
    omega
theorem OkB.ebbs {a : Nat → Nat} (h : OkB a) (h3 : a 3 < 40) : OkB (ebbsN a) := by
  obtain ⟨⟨⟨o0, o1, o2, o3, o4, o5, o6⟩, os⟩, b1, b6, bs⟩ := h
  obtain ⟨s0, s1, sw⟩ := Sim.ebbs a
  obtain ⟨v2, v4, v5, v6, v3, v7⟩ := ebbs_v a
  refine ⟨⟨⟨?_, ?_, ?_, ?_, ?_, ?_, ?_⟩, fun j hj => ?_⟩, ?_, ?_, fun j hj => ?_⟩
  · omega
  · omega
  · omega
  · omega
  · omega
  · rw [v5, s0]; exact o5
  · omega
  · rw [s0] at hj
    have := os j hj
    have q := bs j hj
    rw [sw j 0 (by omega) (by decide), sw j 1 (by omega) (by decide), sw j 2 (by omega) (by decide), sw j 3 (by omega) (by decide), sw j 4 (by omega) (by decide), sw j 5 (by omega) (by decide), sw j 6 (by omega) (by decide), v7 j (by omega)]
    split <;> omega
  · omega
  · omega
  · rw [s0] at hj
    have q := bs j hj
    rw [v7 j (by omega), sw j 5 (by omega) (by decide), v3]
    split <;> omega
/-- but for one place below the notes, and the count -/
theorem OkB.one {a b : Nat → Nat} {j0 : Nat} (h : OkB a) (h3 : a 3 < 40) (hb : ∀ j, j < 55 → j ≠ 3 → j ≠ j0 → b j = a j) (hb3 : b 3 = a 3 + 1) (hj0 : j0 ≠ 0 ∧ j0 ≠ 2 ∧ j0 ≠ 3 ∧ j0 ≠ 4 ∧ j0 ≠ 5 ∧ j0 ≠ 6)
    (c1 : j0 = 1 → b 1 = a 1 + 1) (c5 : ∀ i, i < a 0 → j0 = 7 + 8 * i + 5 → sh b i 5 ≤ 20 ∧ sh b i 5 % 5 = 0) (c6 : ∀ i, i < a 0 → j0 = 7 + 8 * i + 6 → sh b i 6 ≤ 1) (cw : j0 = 1 ∨ ∃ i, i < a 0 ∧ (j0 = 7 + 8 * i + 5 ∨ j0 = 7 + 8 * i + 6)) : OkB b := by
  obtain ⟨⟨⟨o0, o1, o2, o3, o4, o5, o6⟩, os⟩, b1, b6, bs⟩ := h
  have e0 : b 0 = a 0 := hb 0 (by decide) (by decide) (fun q => hj0.1 q.symm)
  have e2 : b 2 = a 2 := hb 2 (by decide) (by decide) (fun q => hj0.2.1 q.symm)
  have e4 : b 4 = a 4 := hb 4 (by decide) (by decide) (fun q => hj0.2.2.2.1 q.symm)
  have e5 : b 5 = a 5 := hb 5 (by decide) (by decide) (fun q => hj0.2.2.2.2.1 q.symm)
  have e6 : b 6 = a 6 := hb 6 (by decide) (by decide) (fun q => hj0.2.2.2.2.2 q.symm)
  have e1 : b 1 ≤ a 1 + 1 := by
    by_cases q : j0 = 1
    · rw [c1 q]; exact Nat.le_refl _
    · rw [hb 1 (by decide) (by decide) (fun z => q z.symm)]; omega
  have ew : ∀ j w, j < a 0 → w < 8 → ¬ (7 + 8 * j + w = j0) → sh b j w = sh a j w := fun j w hj hw hne => hb _ (by omega) (by omega) hne
  refine ⟨⟨⟨by omega, by omega, by omega, by omega, by omega, by rw [e5, e0]; exact o5, by omega⟩, fun j hj => ?_⟩, by omega, by omega, fun j hj => ?_⟩
  · rw [e0] at hj
    obtain ⟨t0, t1, t2, t3, t4, t5, t6, t7⟩ := os j hj
    have hc : ∀ w, w ≠ 5 → w ≠ 6 → w < 8 → ¬ (7 + 8 * j + w = j0) := fun w h5 h6 h8 q => by
      rcases cw with z | ⟨i, hi, z | z⟩ <;> omega
    rw [ew j 0 hj (by decide) (hc 0 (by decide) (by decide) (by decide)), ew j 1 hj (by decide) (hc 1 (by decide) (by decide) (by decide)), ew j 2 hj (by decide) (hc 2 (by decide) (by decide) (by decide)), ew j 3 hj (by decide) (hc 3 (by decide) (by decide) (by decide)), ew j 4 hj (by decide) (hc 4 (by decide) (by decide) (by decide)), ew j 7 hj (by decide) (hc 7 (by decide) (by decide) (by decide))]
    refine ⟨t0, t1, t2, t3, t4, ?_, ?_, t7⟩
    · by_cases q : 7 + 8 * j + 5 = j0
      · exact (c5 j hj q.symm).1
      · rw [ew j 5 hj (by decide) q]; exact t5
    · by_cases q : 7 + 8 * j + 6 = j0
      · exact c6 j hj q.symm
      · rw [ew j 6 hj (by decide) q]; exact t6
  · rw [e0] at hj
    have hc : ¬ (7 + 8 * j + 7 = j0) := fun q => by rcases cw with z | ⟨i, hi, z | z⟩ <;> omega
    rw [ew j 7 hj (by decide) hc, hb3]
    refine ⟨by have := (bs j hj).1; omega, ?_⟩
    by_cases q : 7 + 8 * j + 5 = j0
    · exact (c5 j hj q.symm).2
    · rw [ew j 5 hj (by decide) q]; exact (bs j hj).2
theorem OkB.step {a : Nat → Nat} {dd i : Nat} (h : OkB a) (ok : okD a dd i) : OkB (stepN a dd i) := by
  obtain ⟨h3, hi6, hdd, hn, d0, d1, d2⟩ := ok
  have e3 := step_3 (a := a) (dd := dd) hi6
  revert e3 d0 d1 d2
  refine step_cases (P := fun dd => (dd = 0 → _) → (dd = 1 → _) → (dd = 2 → _) → stepN a dd i 3 = a 3 + 1 → OkB (stepN a dd i)) hdd (fun _ => ?_) (fun _ => ?_) (fun _ => ?_) (fun _ => ?_) (fun _ => ?_)
  · intro d0 _ _ _; exact h.goes h3 (d0 rfl).1
  · intro _ d1 _ e3
    obtain ⟨p1, p2, p3⟩ := d1 rfl
    exact h.one (j0 := 7 + 8 * i + 6) h3 (pay_v a i).1 e3 (by omega) (fun q => by omega) (fun j _ q => by omega) (fun j _ q => by
      have : j = i := by omega
      subst this
      show payN a j (7 + 8 * j + 6) ≤ 1
      rw [(pay_v a j).2]; exact Nat.le_refl _) (Or.inr ⟨i, p1, Or.inr rfl⟩)
  · intro _ _ d2 e3
    obtain ⟨p1, p2⟩ := d2 rfl
    exact h.one (j0 := 7 + 8 * i + 5) h3 (tea_v a i).1 e3 (by omega) (fun q => by omega) (fun j hj q => by
      have : j = i := by omega
      subst this
      show teaN a j (7 + 8 * j + 5) ≤ 20 ∧ teaN a j (7 + 8 * j + 5) % 5 = 0
      rw [(tea_v a j).2]
      have := (h.2.2.2 j hj).2
      omega) (fun j _ q => by omega) (Or.inr ⟨i, p1, Or.inl rfl⟩)
  · intro _ _ _ _; exact h.ebbs h3
  · intro _ _ _ e3
    exact h.one (j0 := 1) h3 (year_v a).1 e3 (by omega) (fun _ => (year_v a).2) (fun j _ q => by omega) (fun j _ q => by omega) (Or.inl rfl)
theorem RC_sim {a b : Nat → Nat} {h h' : Hp} (hR : RC a h) (hS : Sim a b) (hn : a 0 ≤ 6) (h2 : b 2 = a 2) (e4 : h'.1 23 8 = nI (b 4)) (e5 : h'.1 23 9 = nI (b 5)) (e6 : h'.1 23 11 = nI (b 6)) (e7 : ∀ i, i < a 0 → h'.1 31 i = nI (sh b i 7))
    (fr : ∀ x y, RCx x y → ¬ (x = 23 ∧ (y = 8 ∨ y = 9 ∨ y = 11)) → x ≠ 31 → h'.1 x y = h.1 x y) : RC b h' := by
  obtain ⟨⟨⟨r0, r1, r2, r4, r5, r6⟩, rs, P, rp, rP, rt⟩, rg⟩ := hR
  obtain ⟨s0, s1, sw⟩ := hS
  refine ⟨⟨⟨?_, ?_, ?_, e4, e5, e6⟩, fun i hi => ?_, P, rp, ?_, fun i hi => ?_⟩, fun i hi => ?_⟩
  · rw [fr 24 5 ⟨by decide, by decide, by decide, by decide⟩ (by decide) (by decide), s0]; exact r0
  · rw [fr 23 7 ⟨by decide, by decide, by decide, by decide⟩ (by decide) (by decide), s1]; exact r1
  · rw [fr 24 7 ⟨by decide, by decide, by decide, by decide⟩ (by decide) (by decide), h2]; exact r2
  · rw [s0] at hi
    obtain ⟨q0, q1, q2, q3, q4, q5, q7⟩ := rs i hi
    refine ⟨?_, ?_, ?_, ?_, ?_, ?_, e7 i hi⟩
    · rw [fr 25 i ⟨by decide, by decide, by decide, by omega⟩ (by omega) (by decide), sw i 0 (by omega) (by decide)]; exact q0
    · rw [fr 26 i ⟨by decide, by decide, by decide, by omega⟩ (by omega) (by decide), sw i 1 (by omega) (by decide)]; exact q1
    · rw [fr 27 i ⟨by decide, by decide, by decide, by omega⟩ (by omega) (by decide), sw i 2 (by omega) (by decide)]; exact q2
    · rw [fr 28 i ⟨by decide, by decide, by decide, by omega⟩ (by omega) (by decide), sw i 3 (by omega) (by decide)]; exact q3
    · rw [fr 29 i ⟨by decide, by decide, by decide, by omega⟩ (by omega) (by decide), sw i 4 (by omega) (by decide)]; exact q4
    · rw [fr 30 i ⟨by decide, by decide, by decide, by omega⟩ (by omega) (by decide), sw i 5 (by omega) (by decide)]; exact q5
  · rw [fr 23 10 ⟨by decide, by decide, by decide, by decide⟩ (by decide) (by decide)]; exact rP
  · rw [s0] at hi
    rw [sw i 6 (by omega) (by decide)]; exact rt i hi
  · rw [s0] at hi
    have hS : Sim a b := ⟨s0, s1, sw⟩
    rw [fr 33 i ⟨by decide, by decide, by decide, by omega⟩ (by omega) (by decide), fr 34 i ⟨by decide, by decide, by decide, by omega⟩ (by omega) (by decide), s1, hS.age (by omega), hS.ahd hn (by omega)]
    exact rg i hi
/-- the deed is written down -/
def dd1 (h : Hp) (m dd i : Nat) : Hp := ui (ui h 32 m (nI (dd * 6 + i))) 23 6 (nI (m + 1))
theorem RC_dd1 {a : Nat → Nat} {h : Hp} (hR : RC a h) (m dd i : Nat) : RC a (dd1 h m dd i) := hR.to (fun x y q => by
  obtain ⟨_, _, q3, q4⟩ := q
  simp only [dd1, ui]
  rw [if_neg q4, if_neg (fun z => q3 z.1)])
def ddC (h : Hp) (a : Nat → Nat) (dd i P : Nat) : Hp := if dd = 0 then movC (dd1 h (a 3) dd i) a i else if dd = 1 then setl (ui (dd1 h (a 3) dd i) 23 10 (nI (P ||| 2 ^ i))) (payN a i) else if dd = 2 then setl (ui (dd1 h (a 3) dd i) 30 i (nI (sh a i 5 + 5))) (teaN a i) else if dd = 3 then rgC (ui (dd1 h (a 3) dd i) 23 8 (nI (a 2))) a (grdN a) (a 0) else setl (ui (dd1 h (a 3) dd i) 23 7 (nI (a 1 + 1))) (yearN a)
theorem RC_pay {a : Nat → Nat} {h : Hp} {i P : Nat} (hR : RC a h) (hi : i < a 0) (hn : a 0 ≤ 6) (hP : h.1 23 10 = nI P) (rp : P < 64) (rt : ∀ j, j < a 0 → P.testBit j = decide (sh a j 6 = 1)) : RC0 (payN a i) (ui h 23 10 (nI (P ||| 2 ^ i))) := by
  obtain ⟨⟨⟨r0, r1, r2, r4, r5, r6⟩, rs, -⟩, -⟩ := hR
  obtain ⟨v, vi⟩ := pay_v a i
  have e0 : payN a i 0 = a 0 := v 0 (by decide) (by decide) (by omega)
  have p2 : 2 ^ i < 2 ^ 6 := Nat.pow_lt_pow_right (by decide) (by omega)
  refine ⟨⟨?_, ?_, ?_, ?_, ?_, ?_⟩, fun j hj => ?_, P ||| 2 ^ i, Nat.or_lt_two_pow (n := 6) rp p2, rfl, fun j hj => ?_⟩
  · rw [e0]; exact r0
  · rw [v 1 (by decide) (by decide) (by omega)]; exact r1
  · rw [v 2 (by decide) (by decide) (by omega)]; exact r2
  · rw [v 4 (by decide) (by decide) (by omega)]; exact r4
  · rw [v 5 (by decide) (by decide) (by omega)]; exact r5
  · rw [v 6 (by decide) (by decide) (by omega)]; exact r6
  · rw [e0] at hj
    obtain ⟨q0, q1, q2, q3, q4, q5, q7⟩ := rs j hj
    refine ⟨?_, ?_, ?_, ?_, ?_, ?_, ?_⟩
    · rw [show sh (payN a i) j 0 = sh a j 0 from v _ (by omega) (by omega) (by omega)]; exact q0
    · rw [show sh (payN a i) j 1 = sh a j 1 from v _ (by omega) (by omega) (by omega)]; exact q1
    · rw [show sh (payN a i) j 2 = sh a j 2 from v _ (by omega) (by omega) (by omega)]; exact q2
    · rw [show sh (payN a i) j 3 = sh a j 3 from v _ (by omega) (by omega) (by omega)]; exact q3
    · rw [show sh (payN a i) j 4 = sh a j 4 from v _ (by omega) (by omega) (by omega)]; exact q4
    · rw [show sh (payN a i) j 5 = sh a j 5 from v _ (by omega) (by omega) (by omega)]; exact q5
    · rw [show sh (payN a i) j 7 = sh a j 7 from v _ (by omega) (by omega) (by omega)]; exact q7
  · rw [e0] at hj
    rw [Nat.testBit_or, Nat.testBit_two_pow, rt j hj]
    by_cases hij : i = j
    · subst hij
      rw [show sh (payN a i) i 6 = 1 from vi]; simp
    · rw [show sh (payN a i) j 6 = sh a j 6 from v _ (by omega) (by omega) (by omega)]; simp [hij]
theorem RC_tea {a : Nat → Nat} {h : Hp} {i : Nat} (hR : RC a h) (hi : i < a 0) (hn : a 0 ≤ 6) : RC0 (teaN a i) (ui h 30 i (nI (sh a i 5 + 5))) := by
  obtain ⟨⟨⟨r0, r1, r2, r4, r5, r6⟩, rs, P, rp, rP, rt⟩, -⟩ := hR
  obtain ⟨v, vi⟩ := tea_v a i
  have e0 : teaN a i 0 = a 0 := v 0 (by decide) (by decide) (by omega)
  refine ⟨⟨?_, ?_, ?_, ?_, ?_, ?_⟩, fun j hj => ?_, P, rp, rP, fun j hj => ?_⟩
  · rw [e0]; exact r0
  · rw [v 1 (by decide) (by decide) (by omega)]; exact r1
  · rw [v 2 (by decide) (by decide) (by omega)]; exact r2
  · rw [v 4 (by decide) (by decide) (by omega)]; exact r4
  · rw [v 5 (by decide) (by decide) (by omega)]; exact r5
  · rw [v 6 (by decide) (by decide) (by omega)]; exact r6
  · rw [e0] at hj
    obtain ⟨q0, q1, q2, q3, q4, q5, q7⟩ := rs j hj
    refine ⟨?_, ?_, ?_, ?_, ?_, ?_, ?_⟩
    · rw [show sh (teaN a i) j 0 = sh a j 0 from v _ (by omega) (by omega) (by omega)]; exact q0
    · rw [show sh (teaN a i) j 1 = sh a j 1 from v _ (by omega) (by omega) (by omega)]; exact q1
    · rw [show sh (teaN a i) j 2 = sh a j 2 from v _ (by omega) (by omega) (by omega)]; exact q2
    · rw [show sh (teaN a i) j 3 = sh a j 3 from v _ (by omega) (by omega) (by omega)]; exact q3
    · rw [show sh (teaN a i) j 4 = sh a j 4 from v _ (by omega) (by omega) (by omega)]; exact q4
    · by_cases hij : j = i
      · subst hij
        rw [show sh (teaN a j) j 5 = sh a j 5 + 5 from vi]; exact ui_eq
      · rw [show sh (teaN a i) j 5 = sh a j 5 from v _ (by omega) (by omega) (by omega), ui_nk hij]; exact q5
    · rw [show sh (teaN a i) j 7 = sh a j 7 from v _ (by omega) (by omega) (by omega)]; exact q7
  · rw [e0] at hj
    rw [show sh (teaN a i) j 6 = sh a j 6 from v _ (by omega) (by omega) (by omega)]; exact rt j hj
theorem RC_year {a : Nat → Nat} {h : Hp} (hR : RC a h) (hn : a 0 ≤ 6) : RC0 (yearN a) (ui h 23 7 (nI (a 1 + 1))) := by
  obtain ⟨⟨⟨r0, r1, r2, r4, r5, r6⟩, rs, P, rp, rP, rt⟩, -⟩ := hR
  obtain ⟨v, vi⟩ := year_v a
  have e0 : yearN a 0 = a 0 := v 0 (by decide) (by decide) (by decide)
  refine ⟨⟨?_, ?_, ?_, ?_, ?_, ?_⟩, fun j hj => ?_, P, rp, rP, fun j hj => ?_⟩
  · rw [e0]; exact r0
  · rw [vi]; rfl
  · rw [v 2 (by decide) (by decide) (by omega)]; exact r2
  · rw [v 4 (by decide) (by decide) (by omega)]; exact r4
  · rw [v 5 (by decide) (by decide) (by omega)]; exact r5
  · rw [v 6 (by decide) (by decide) (by omega)]; exact r6
  · rw [e0] at hj
    obtain ⟨q0, q1, q2, q3, q4, q5, q7⟩ := rs j hj
    refine ⟨?_, ?_, ?_, ?_, ?_, ?_, ?_⟩
    · rw [show sh (yearN a) j 0 = sh a j 0 from v _ (by omega) (by omega) (by omega)]; exact q0
    · rw [show sh (yearN a) j 1 = sh a j 1 from v _ (by omega) (by omega) (by omega)]; exact q1
    · rw [show sh (yearN a) j 2 = sh a j 2 from v _ (by omega) (by omega) (by omega)]; exact q2
    · rw [show sh (yearN a) j 3 = sh a j 3 from v _ (by omega) (by omega) (by omega)]; exact q3
    · rw [show sh (yearN a) j 4 = sh a j 4 from v _ (by omega) (by omega) (by omega)]; exact q4
    · rw [show sh (yearN a) j 5 = sh a j 5 from v _ (by omega) (by omega) (by omega)]; exact q5
    · rw [show sh (yearN a) j 7 = sh a j 7 from v _ (by omega) (by omega) (by omega)]; exact q7
  · rw [e0] at hj
    rw [show sh (yearN a) j 6 = sh a j 6 from v _ (by omega) (by omega) (by omega)]; exact rt j hj

set_option maxRecDepth 20000 in
theorem c_X2_doDeed_0 {a : Nat → Nat} {h : Hp} {i P : Nat} (hR : RC a h) (hB : OkB a) (h3 : h.1 23 6 = nI (a 3)) (ok : okD a 0 i) (rp : P < 64) (rP : h.1 23 10 = nI P) (rt : ∀ j, j < a 0 → P.testBit j = decide (sh a j 6 = 1)) : CT 8 yX2_doDeed cX2_doDeed 3 (some .int) [.ref 23, .int (nI 0), .int (nI i)] h (some (.int (nI (retN a 0 i)))) (ddC h a 0 i P) := by
  have hO := hB.1
  obtain ⟨⟨o0, o1, o2, o3, o4, o5, o6⟩, os⟩ := id hO
  have o64 := hO.in64
  have okk := ok
  obtain ⟨k3, ki6, kdd, kn, d0, d1, d2⟩ := ok
  obtain ⟨⟨⟨r0, r1, r2, r4, r5, r6⟩, rs, -⟩, rg⟩ := id hR
  have pl := pow_lt31 (k := i) (by omega)
  obtain ⟨i1, i2⟩ := d0 rfl
  refine CT.of (own := RX2) rfl (by decide) (ro_i _) [.ref 23, .int (nI 0), .int (nI i)] rfl (Nat.le_of_ble_eq_true rfl) (fun E hp => ?_)
  refine s_aload_n (pc := 0) 0 rfl rfl dX2_doDeed_0 ?_
  refine s_getiE (pc := 1) fl_X2_34 rfl rfl h3 dX2_doDeed_1 ?_
  refine s_if_ltN (pc := 4) (by omega) 16 dX2_doDeed_4 (by decide) ?_
  refine s_aload_n (pc := 7) 0 rfl rfl dX2_doDeed_7 ?_
  refine s_getiE (pc := 8) fl_X2_34 rfl rfl h3 dX2_doDeed_8 ?_
  refine s_bipush (pc := 11) (k_b40N) dX2_doDeed_11 ?_
  refine s_icmp_ltN (pc := 13) (by omega) (by omega) 19 dX2_doDeed_13 (by decide) (fun c_13 => ?_) (fun c_13 => ?_)
  · refine s_aload_n (pc := 19) 0 rfl rfl dX2_doDeed_19 ?_
    refine s_getr (pc := 20) (b := 32) fl_X2_25 rfl rfl rfl dX2_doDeed_20 ?_
    refine s_aload_n (pc := 23) 0 rfl rfl dX2_doDeed_23 ?_
    refine s_getiE (pc := 24) fl_X2_34 rfl rfl h3 dX2_doDeed_24 ?_
    refine s_iload_n (pc := 27) 1 rfl rfl dX2_doDeed_27 ?_
    refine s_bipush (pc := 28) (k_b6N) dX2_doDeed_28 ?_
    refine s_imulN (pc := 30) dX2_doDeed_30 ?_
    refine s_iload_n (pc := 31) 2 rfl rfl dX2_doDeed_31 ?_
    refine s_iaddN (pc := 32) dX2_doDeed_32 ?_
    refine s_iast (pc := 33) (_) rfl rfl (by omega) dX2_doDeed_33 ?_
    refine s_aload_n (pc := 34) 0 rfl rfl dX2_doDeed_34 ?_
    refine s_dup (pc := 35) rfl dX2_doDeed_35 ?_
    refine s_getiE (pc := 36) fl_X2_34 rfl rfl h3 dX2_doDeed_36 ?_
    refine s_iconst (pc := 39) (k_i1N) dX2_doDeed_39 ?_
    refine s_iaddN (pc := 40) dX2_doDeed_40 ?_
    refine s_puti (pc := 41) fl_X2_34 fw_2_6 rfl rfl dX2_doDeed_41 ?_
    refine s_iload_n (pc := 44) 1 rfl rfl dX2_doDeed_44 ?_
    refine s_tabIn (pc := 45) 76 dX2_doDeed_45 (by decide) (by decide) (off := 31) (by decide) (by decide) ?_
    refine s_aload_n (pc := 76) 0 rfl rfl dX2_doDeed_76 ?_
    refine s_iload_n (pc := 77) 2 rfl rfl dX2_doDeed_77 ?_
    refine s_cvi1 (pc := 78) (c_X2_move (RC_dd1 hR (a 3) 0 i) hO i1 i2) ml_X2_89 mw_X2_move rfl (by decide) (Nat.le_of_ble_eq_true rfl) dX2_doDeed_78 ?_
    refine s_iret (pc := 81) dX2_doDeed_81 (PostE.of hp ?_ ?_)
    · first | rfl | (exfalso; omega)
    · first | rfl | (exfalso; omega)
  · refine s_bipush (pc := 16) (k_bm2) dX2_doDeed_16 ?_
    refine s_iret (pc := 18) dX2_doDeed_18 (PostE.of hp ?_ ?_)
    · first | rfl | (exfalso; omega)
    · first | rfl | (exfalso; omega)

set_option maxRecDepth 20000 in
theorem c_X2_doDeed_1 {a : Nat → Nat} {h : Hp} {i P : Nat} (hR : RC a h) (hB : OkB a) (h3 : h.1 23 6 = nI (a 3)) (ok : okD a 1 i) (rp : P < 64) (rP : h.1 23 10 = nI P) (rt : ∀ j, j < a 0 → P.testBit j = decide (sh a j 6 = 1)) : CT 8 yX2_doDeed cX2_doDeed 3 (some .int) [.ref 23, .int (nI 1), .int (nI i)] h (some (.int (nI (retN a 1 i)))) (ddC h a 1 i P) := by
  have hO := hB.1
  obtain ⟨⟨o0, o1, o2, o3, o4, o5, o6⟩, os⟩ := id hO
  have o64 := hO.in64
  have okk := ok
  obtain ⟨k3, ki6, kdd, kn, d0, d1, d2⟩ := ok
  obtain ⟨⟨⟨r0, r1, r2, r4, r5, r6⟩, rs, -⟩, rg⟩ := id hR
  have pl := pow_lt31 (k := i) (by omega)
  obtain ⟨i1, i2, i3⟩ := d1 rfl
  have hB1 : OkB (payN a i) := hB.step okk
  have e0 : payN a i 0 = a 0 := (pay_v a i).1 0 (by decide) (by decide) (by omega)
  have e1 : payN a i 1 = a 1 := (pay_v a i).1 1 (by decide) (by decide) (by omega)
  have hC1 := RC_pay (RC_dd1 hR (a 3) 1 i) i1 o0 rP rp rt
  refine CT.of (own := RX2) rfl (by decide) (ro_i _) [.ref 23, .int (nI 1), .int (nI i)] rfl (Nat.le_of_ble_eq_true rfl) (fun E hp => ?_)
  refine s_aload_n (pc := 0) 0 rfl rfl dX2_doDeed_0 ?_
  refine s_getiE (pc := 1) fl_X2_34 rfl rfl h3 dX2_doDeed_1 ?_
  refine s_if_ltN (pc := 4) (by omega) 16 dX2_doDeed_4 (by decide) ?_
  refine s_aload_n (pc := 7) 0 rfl rfl dX2_doDeed_7 ?_
  refine s_getiE (pc := 8) fl_X2_34 rfl rfl h3 dX2_doDeed_8 ?_
  refine s_bipush (pc := 11) (k_b40N) dX2_doDeed_11 ?_
  refine s_icmp_ltN (pc := 13) (by omega) (by omega) 19 dX2_doDeed_13 (by decide) (fun c_13 => ?_) (fun c_13 => ?_)
  · refine s_aload_n (pc := 19) 0 rfl rfl dX2_doDeed_19 ?_
    refine s_getr (pc := 20) (b := 32) fl_X2_25 rfl rfl rfl dX2_doDeed_20 ?_
    refine s_aload_n (pc := 23) 0 rfl rfl dX2_doDeed_23 ?_
    refine s_getiE (pc := 24) fl_X2_34 rfl rfl h3 dX2_doDeed_24 ?_
    refine s_iload_n (pc := 27) 1 rfl rfl dX2_doDeed_27 ?_
    refine s_bipush (pc := 28) (k_b6N) dX2_doDeed_28 ?_
    refine s_imulN (pc := 30) dX2_doDeed_30 ?_
    refine s_iload_n (pc := 31) 2 rfl rfl dX2_doDeed_31 ?_
    refine s_iaddN (pc := 32) dX2_doDeed_32 ?_
    refine s_iast (pc := 33) (_) rfl rfl (by omega) dX2_doDeed_33 ?_
    refine s_aload_n (pc := 34) 0 rfl rfl dX2_doDeed_34 ?_
    refine s_dup (pc := 35) rfl dX2_doDeed_35 ?_
    refine s_getiE (pc := 36) fl_X2_34 rfl rfl h3 dX2_doDeed_36 ?_
    refine s_iconst (pc := 39) (k_i1N) dX2_doDeed_39 ?_
    refine s_iaddN (pc := 40) dX2_doDeed_40 ?_
    refine s_puti (pc := 41) fl_X2_34 fw_2_6 rfl rfl dX2_doDeed_41 ?_
    refine s_iload_n (pc := 44) 1 rfl rfl dX2_doDeed_44 ?_
    refine s_tabIn (pc := 45) 82 dX2_doDeed_45 (by decide) (by decide) (off := 37) (by decide) (by decide) ?_
    refine s_aload_n (pc := 82) 0 rfl rfl dX2_doDeed_82 ?_
    refine s_dup (pc := 83) rfl dX2_doDeed_83 ?_
    refine s_getiE (pc := 84) fl_X2_47 rfl rfl rP dX2_doDeed_84 ?_
    refine s_iconst (pc := 87) (k_i1N) dX2_doDeed_87 ?_
    refine s_iload_n (pc := 88) 2 rfl rfl dX2_doDeed_88 ?_
    refine s_ishl1N (pc := 89) (by omega) dX2_doDeed_89 ?_
    refine s_iorN (pc := 90) (by omega) (by omega) dX2_doDeed_90 ?_
    refine s_puti (pc := 91) fl_X2_47 fw_2_10 rfl rfl dX2_doDeed_91 ?_
    refine s_aload_n (pc := 94) 0 rfl rfl dX2_doDeed_94 ?_
    refine s_cvn0 (pc := 95) (c_X2_settle hC1 hB1.1) ml_X2_65 mw_X2_settle rfl (by decide) (Nat.le_of_ble_eq_true rfl) dX2_doDeed_95 ?_
    refine s_aload_n (pc := 98) 0 rfl rfl dX2_doDeed_98 ?_
    refine s_getr (pc := 99) (b := 33) fl_X2_28 rfl rfl rfl dX2_doDeed_99 ?_
    refine s_iload_n (pc := 102) 2 rfl rfl dX2_doDeed_102 ?_
    refine s_ialdN (pc := 103) (_) rfl rfl (by omega) ((RC_setl hC1).2 i (by rw [e0]; exact i1)).1 dX2_doDeed_103 ?_
    refine s_iret (pc := 104) dX2_doDeed_104 (PostE.of hp ?_ ?_)
    · first | (rw [e1]; rfl) | (exfalso; omega)
    · first | rfl | (exfalso; omega)
  · refine s_bipush (pc := 16) (k_bm2) dX2_doDeed_16 ?_
    refine s_iret (pc := 18) dX2_doDeed_18 (PostE.of hp ?_ ?_)
    · first | (rw [e1]; rfl) | (exfalso; omega)
    · first | rfl | (exfalso; omega)

set_option maxRecDepth 20000 in
theorem c_X2_doDeed_2 {a : Nat → Nat} {h : Hp} {i P : Nat} (hR : RC a h) (hB : OkB a) (h3 : h.1 23 6 = nI (a 3)) (ok : okD a 2 i) (rp : P < 64) (rP : h.1 23 10 = nI P) (rt : ∀ j, j < a 0 → P.testBit j = decide (sh a j 6 = 1)) : CT 8 yX2_doDeed cX2_doDeed 3 (some .int) [.ref 23, .int (nI 2), .int (nI i)] h (some (.int (nI (retN a 2 i)))) (ddC h a 2 i P) := by
  have hO := hB.1
  obtain ⟨⟨o0, o1, o2, o3, o4, o5, o6⟩, os⟩ := id hO
  have o64 := hO.in64
  have okk := ok
  obtain ⟨k3, ki6, kdd, kn, d0, d1, d2⟩ := ok
  obtain ⟨⟨⟨r0, r1, r2, r4, r5, r6⟩, rs, -⟩, rg⟩ := id hR
  have pl := pow_lt31 (k := i) (by omega)
  obtain ⟨i1, i2⟩ := d2 rfl
  have hB1 : OkB (teaN a i) := hB.step okk
  have e0 : teaN a i 0 = a 0 := (tea_v a i).1 0 (by decide) (by decide) (by omega)
  have e1 : teaN a i 1 = a 1 := (tea_v a i).1 1 (by decide) (by decide) (by omega)
  have hC1 := RC_tea (RC_dd1 hR (a 3) 2 i) i1 o0
  refine CT.of (own := RX2) rfl (by decide) (ro_i _) [.ref 23, .int (nI 2), .int (nI i)] rfl (Nat.le_of_ble_eq_true rfl) (fun E hp => ?_)
  refine s_aload_n (pc := 0) 0 rfl rfl dX2_doDeed_0 ?_
  refine s_getiE (pc := 1) fl_X2_34 rfl rfl h3 dX2_doDeed_1 ?_
  refine s_if_ltN (pc := 4) (by omega) 16 dX2_doDeed_4 (by decide) ?_
  refine s_aload_n (pc := 7) 0 rfl rfl dX2_doDeed_7 ?_
  refine s_getiE (pc := 8) fl_X2_34 rfl rfl h3 dX2_doDeed_8 ?_
  refine s_bipush (pc := 11) (k_b40N) dX2_doDeed_11 ?_
  refine s_icmp_ltN (pc := 13) (by omega) (by omega) 19 dX2_doDeed_13 (by decide) (fun c_13 => ?_) (fun c_13 => ?_)
  · refine s_aload_n (pc := 19) 0 rfl rfl dX2_doDeed_19 ?_
    refine s_getr (pc := 20) (b := 32) fl_X2_25 rfl rfl rfl dX2_doDeed_20 ?_
    refine s_aload_n (pc := 23) 0 rfl rfl dX2_doDeed_23 ?_
    refine s_getiE (pc := 24) fl_X2_34 rfl rfl h3 dX2_doDeed_24 ?_
    refine s_iload_n (pc := 27) 1 rfl rfl dX2_doDeed_27 ?_
    refine s_bipush (pc := 28) (k_b6N) dX2_doDeed_28 ?_
    refine s_imulN (pc := 30) dX2_doDeed_30 ?_
    refine s_iload_n (pc := 31) 2 rfl rfl dX2_doDeed_31 ?_
    refine s_iaddN (pc := 32) dX2_doDeed_32 ?_
    refine s_iast (pc := 33) (_) rfl rfl (by omega) dX2_doDeed_33 ?_
    refine s_aload_n (pc := 34) 0 rfl rfl dX2_doDeed_34 ?_
    refine s_dup (pc := 35) rfl dX2_doDeed_35 ?_
    refine s_getiE (pc := 36) fl_X2_34 rfl rfl h3 dX2_doDeed_36 ?_
    refine s_iconst (pc := 39) (k_i1N) dX2_doDeed_39 ?_
    refine s_iaddN (pc := 40) dX2_doDeed_40 ?_
    refine s_puti (pc := 41) fl_X2_34 fw_2_6 rfl rfl dX2_doDeed_41 ?_
    refine s_iload_n (pc := 44) 1 rfl rfl dX2_doDeed_44 ?_
    refine s_tabIn (pc := 45) 105 dX2_doDeed_45 (by decide) (by decide) (off := 60) (by decide) (by decide) ?_
    refine s_aload_n (pc := 105) 0 rfl rfl dX2_doDeed_105 ?_
    refine s_getr (pc := 106) (b := 30) fl_X2_18 rfl rfl rfl dX2_doDeed_106 ?_
    refine s_iload_n (pc := 109) 2 rfl rfl dX2_doDeed_109 ?_
    refine s_dup2 (pc := 110) rfl rfl dX2_doDeed_110 ?_
    refine s_ialdN (pc := 111) (_) rfl rfl (by omega) (rs _ (by omega)).2.2.2.2.2.1 dX2_doDeed_111 ?_
    refine s_iconst (pc := 112) (k_i5N) dX2_doDeed_112 ?_
    refine s_iaddN (pc := 113) dX2_doDeed_113 ?_
    refine s_iast (pc := 114) (_) rfl rfl (by omega) dX2_doDeed_114 ?_
    refine s_aload_n (pc := 115) 0 rfl rfl dX2_doDeed_115 ?_
    refine s_cvn0 (pc := 116) (c_X2_settle hC1 hB1.1) ml_X2_65 mw_X2_settle rfl (by decide) (Nat.le_of_ble_eq_true rfl) dX2_doDeed_116 ?_
    refine s_aload_n (pc := 119) 0 rfl rfl dX2_doDeed_119 ?_
    refine s_getr (pc := 120) (b := 33) fl_X2_28 rfl rfl rfl dX2_doDeed_120 ?_
    refine s_iload_n (pc := 123) 2 rfl rfl dX2_doDeed_123 ?_
    refine s_ialdN (pc := 124) (_) rfl rfl (by omega) ((RC_setl hC1).2 i (by rw [e0]; exact i1)).1 dX2_doDeed_124 ?_
    refine s_iret (pc := 125) dX2_doDeed_125 (PostE.of hp ?_ ?_)
    · first | (rw [e1]; rfl) | (exfalso; omega)
    · first | rfl | (exfalso; omega)
  · refine s_bipush (pc := 16) (k_bm2) dX2_doDeed_16 ?_
    refine s_iret (pc := 18) dX2_doDeed_18 (PostE.of hp ?_ ?_)
    · first | (rw [e1]; rfl) | (exfalso; omega)
    · first | rfl | (exfalso; omega)

set_option maxRecDepth 20000 in
theorem c_X2_doDeed_3 {a : Nat → Nat} {h : Hp} {i P : Nat} (hR : RC a h) (hB : OkB a) (h3 : h.1 23 6 = nI (a 3)) (ok : okD a 3 i) (rp : P < 64) (rP : h.1 23 10 = nI P) (rt : ∀ j, j < a 0 → P.testBit j = decide (sh a j 6 = 1)) : CT 8 yX2_doDeed cX2_doDeed 3 (some .int) [.ref 23, .int (nI 3), .int (nI i)] h (some (.int (nI (retN a 3 i)))) (ddC h a 3 i P) := by
  have hO := hB.1
  obtain ⟨⟨o0, o1, o2, o3, o4, o5, o6⟩, os⟩ := id hO
  have o64 := hO.in64
  have okk := ok
  obtain ⟨k3, ki6, kdd, kn, d0, d1, d2⟩ := ok
  obtain ⟨⟨⟨r0, r1, r2, r4, r5, r6⟩, rs, -⟩, rg⟩ := id hR
  have pl := pow_lt31 (k := i) (by omega)
  have gl : grdN a < 64 := bitsU_lt64 _ o0
  have ux : ∀ j, j ≠ 4 → au a 4 (a 2) j = a j := fun j hj => if_neg hj
  have us : Sim a (au a 4 (a 2)) := ⟨ux 0 (by decide), ux 1 (by decide), fun j w hj hw => ux _ (by omega)⟩
  have hO3 : OkA (au a 4 (a 2)) := by
    refine ⟨⟨?_, ?_, ?_, ?_, ?_, ?_, ?_⟩, fun j hj => ?_⟩
    · rw [ux 0 (by decide)]; exact o0
    · rw [ux 1 (by decide)]; exact o1
    · rw [ux 2 (by decide)]; exact o2
    · rw [ux 3 (by decide)]; exact o3
    · exact o2
    · rw [ux 5 (by decide), ux 0 (by decide)]; exact o5
    · rw [ux 6 (by decide)]; exact o6
    · rw [ux 0 (by decide)] at hj
      have := os j hj
      simp only [sh] at this ⊢
      rw [ux _ (by omega), ux _ (by omega), ux _ (by omega), ux _ (by omega), ux _ (by omega), ux _ (by omega), ux _ (by omega), ux _ (by omega)]
      exact this
  have hR3 : RC (au a 4 (a 2)) (ui (dd1 h (a 3) 3 i) 23 8 (nI (a 2))) := RC_sim (RC_dd1 hR (a 3) 3 i) us o0 (ux 2 (by decide)) rfl (by rw [ux 5 (by decide)]; exact r5) (by rw [ux 6 (by decide)]; exact r6) (fun j hj => by rw [show sh (au a 4 (a 2)) j 7 = sh a j 7 from ux _ (by omega)]; exact (rs j hj).2.2.2.2.2.2) (fun x y _ q _ => by simp only [ui]; exact if_neg (fun z => q ⟨z.1, Or.inl z.2⟩))
  have eg : grdN (au a 4 (a 2)) = grdN a := by
    unfold grdN
    rw [ux 0 (by decide)]
    exact bitsU_congr (fun j hj => by
      unfold excN berthI berthN
      rw [ux 5 (by decide), ux 1 (by decide), ux 0 (by decide), us.2.2 j 4 (by omega) (by decide), us.age (by omega)]
      rw [cnt_congr (q := berthP a j (ageN a j (a 1)) (a 5) (a 1)) (fun k hk => by unfold berthP; rw [us.age (by omega), us.ahead (by omega) (by omega)])])
  have er : rgC (ui (dd1 h (a 3) 3 i) 23 8 (nI (a 2))) (au a 4 (a 2)) (grdN (au a 4 (a 2))) (au a 4 (a 2) 0) = rgC (ui (dd1 h (a 3) 3 i) 23 8 (nI (a 2))) a (grdN a) (a 0) := by
    rw [eg, ux 0 (by decide)]
    unfold rgC
    congr 1
  refine CT.of (own := RX2) rfl (by decide) (ro_i _) [.ref 23, .int (nI 3), .int (nI i)] rfl (Nat.le_of_ble_eq_true rfl) (fun E hp => ?_)
  refine s_aload_n (pc := 0) 0 rfl rfl dX2_doDeed_0 ?_
  refine s_getiE (pc := 1) fl_X2_34 rfl rfl h3 dX2_doDeed_1 ?_
  refine s_if_ltN (pc := 4) (by omega) 16 dX2_doDeed_4 (by decide) ?_
  refine s_aload_n (pc := 7) 0 rfl rfl dX2_doDeed_7 ?_
  refine s_getiE (pc := 8) fl_X2_34 rfl rfl h3 dX2_doDeed_8 ?_
  refine s_bipush (pc := 11) (k_b40N) dX2_doDeed_11 ?_
  refine s_icmp_ltN (pc := 13) (by omega) (by omega) 19 dX2_doDeed_13 (by decide) (fun c_13 => ?_) (fun c_13 => ?_)
  · refine s_aload_n (pc := 19) 0 rfl rfl dX2_doDeed_19 ?_
    refine s_getr (pc := 20) (b := 32) fl_X2_25 rfl rfl rfl dX2_doDeed_20 ?_
    refine s_aload_n (pc := 23) 0 rfl rfl dX2_doDeed_23 ?_
    refine s_getiE (pc := 24) fl_X2_34 rfl rfl h3 dX2_doDeed_24 ?_
    refine s_iload_n (pc := 27) 1 rfl rfl dX2_doDeed_27 ?_
    refine s_bipush (pc := 28) (k_b6N) dX2_doDeed_28 ?_
    refine s_imulN (pc := 30) dX2_doDeed_30 ?_
    refine s_iload_n (pc := 31) 2 rfl rfl dX2_doDeed_31 ?_
    refine s_iaddN (pc := 32) dX2_doDeed_32 ?_
    refine s_iast (pc := 33) (_) rfl rfl (by omega) dX2_doDeed_33 ?_
    refine s_aload_n (pc := 34) 0 rfl rfl dX2_doDeed_34 ?_
    refine s_dup (pc := 35) rfl dX2_doDeed_35 ?_
    refine s_getiE (pc := 36) fl_X2_34 rfl rfl h3 dX2_doDeed_36 ?_
    refine s_iconst (pc := 39) (k_i1N) dX2_doDeed_39 ?_
    refine s_iaddN (pc := 40) dX2_doDeed_40 ?_
    refine s_puti (pc := 41) fl_X2_34 fw_2_6 rfl rfl dX2_doDeed_41 ?_
    refine s_iload_n (pc := 44) 1 rfl rfl dX2_doDeed_44 ?_
    refine s_tabIn (pc := 45) 126 dX2_doDeed_45 (by decide) (by decide) (off := 81) (by decide) (by decide) ?_
    refine s_aload_n (pc := 126) 0 rfl rfl dX2_doDeed_126 ?_
    refine s_aload_n (pc := 127) 0 rfl rfl dX2_doDeed_127 ?_
    refine s_getr (pc := 128) (b := 24) fl_X2_12 rfl rfl rfl dX2_doDeed_128 ?_
    refine s_getiE (pc := 131) fl_X2_62 rfl rfl r2 dX2_doDeed_131 ?_
    refine s_puti (pc := 134) fl_X2_41 fw_2_8 rfl rfl dX2_doDeed_134 ?_
    refine s_aload_n (pc := 137) 0 rfl rfl dX2_doDeed_137 ?_
    refine s_aload_n (pc := 138) 0 rfl rfl dX2_doDeed_138 ?_
    refine s_cvi0 (pc := 139) (c_X2_tooDeep hR3 hO3) ml_X2_93 mw_X2_tooDeep rfl (by decide) (Nat.le_of_ble_eq_true rfl) dX2_doDeed_139 ?_
    refine s_cvi1 (pc := 142) (c_X2_runAground hR3.1 hO3 (by rw [eg]; exact gl)) ml_X2_97 mw_X2_runAground rfl (by decide) (Nat.le_of_ble_eq_true rfl) dX2_doDeed_142 ?_
    refine s_iret (pc := 145) dX2_doDeed_145 (PostE.of hp ?_ ?_)
    · first | exact retn eg | (exfalso; omega)
    · first | exact er | (exfalso; omega)
  · refine s_bipush (pc := 16) (k_bm2) dX2_doDeed_16 ?_
    refine s_iret (pc := 18) dX2_doDeed_18 (PostE.of hp ?_ ?_)
    · first | exact retn eg | (exfalso; omega)
    · first | exact er | (exfalso; omega)

set_option maxRecDepth 20000 in
theorem c_X2_doDeed_4 {a : Nat → Nat} {h : Hp} {i P : Nat} (hR : RC a h) (hB : OkB a) (h3 : h.1 23 6 = nI (a 3)) (ok : okD a 4 i) (rp : P < 64) (rP : h.1 23 10 = nI P) (rt : ∀ j, j < a 0 → P.testBit j = decide (sh a j 6 = 1)) : CT 8 yX2_doDeed cX2_doDeed 3 (some .int) [.ref 23, .int (nI 4), .int (nI i)] h (some (.int (nI (retN a 4 i)))) (ddC h a 4 i P) := by
  have hO := hB.1
  obtain ⟨⟨o0, o1, o2, o3, o4, o5, o6⟩, os⟩ := id hO
  have o64 := hO.in64
  have okk := ok
  obtain ⟨k3, ki6, kdd, kn, d0, d1, d2⟩ := ok
  obtain ⟨⟨⟨r0, r1, r2, r4, r5, r6⟩, rs, -⟩, rg⟩ := id hR
  have pl := pow_lt31 (k := i) (by omega)
  have hB1 : OkB (yearN a) := hB.step okk
  have hC1 := RC_year (RC_dd1 hR (a 3) 4 i) o0
  refine CT.of (own := RX2) rfl (by decide) (ro_i _) [.ref 23, .int (nI 4), .int (nI i)] rfl (Nat.le_of_ble_eq_true rfl) (fun E hp => ?_)
  refine s_aload_n (pc := 0) 0 rfl rfl dX2_doDeed_0 ?_
  refine s_getiE (pc := 1) fl_X2_34 rfl rfl h3 dX2_doDeed_1 ?_
  refine s_if_ltN (pc := 4) (by omega) 16 dX2_doDeed_4 (by decide) ?_
  refine s_aload_n (pc := 7) 0 rfl rfl dX2_doDeed_7 ?_
  refine s_getiE (pc := 8) fl_X2_34 rfl rfl h3 dX2_doDeed_8 ?_
  refine s_bipush (pc := 11) (k_b40N) dX2_doDeed_11 ?_
  refine s_icmp_ltN (pc := 13) (by omega) (by omega) 19 dX2_doDeed_13 (by decide) (fun c_13 => ?_) (fun c_13 => ?_)
  · refine s_aload_n (pc := 19) 0 rfl rfl dX2_doDeed_19 ?_
    refine s_getr (pc := 20) (b := 32) fl_X2_25 rfl rfl rfl dX2_doDeed_20 ?_
    refine s_aload_n (pc := 23) 0 rfl rfl dX2_doDeed_23 ?_
    refine s_getiE (pc := 24) fl_X2_34 rfl rfl h3 dX2_doDeed_24 ?_
    refine s_iload_n (pc := 27) 1 rfl rfl dX2_doDeed_27 ?_
    refine s_bipush (pc := 28) (k_b6N) dX2_doDeed_28 ?_
    refine s_imulN (pc := 30) dX2_doDeed_30 ?_
    refine s_iload_n (pc := 31) 2 rfl rfl dX2_doDeed_31 ?_
    refine s_iaddN (pc := 32) dX2_doDeed_32 ?_
    refine s_iast (pc := 33) (_) rfl rfl (by omega) dX2_doDeed_33 ?_
    refine s_aload_n (pc := 34) 0 rfl rfl dX2_doDeed_34 ?_
    refine s_dup (pc := 35) rfl dX2_doDeed_35 ?_
    refine s_getiE (pc := 36) fl_X2_34 rfl rfl h3 dX2_doDeed_36 ?_
    refine s_iconst (pc := 39) (k_i1N) dX2_doDeed_39 ?_
    refine s_iaddN (pc := 40) dX2_doDeed_40 ?_
    refine s_puti (pc := 41) fl_X2_34 fw_2_6 rfl rfl dX2_doDeed_41 ?_
    refine s_iload_n (pc := 44) 1 rfl rfl dX2_doDeed_44 ?_
    refine s_tabOut (pc := 45) 146 dX2_doDeed_45 (by decide) (by decide) ?_
    refine s_aload_n (pc := 146) 0 rfl rfl dX2_doDeed_146 ?_
    refine s_dup (pc := 147) rfl dX2_doDeed_147 ?_
    refine s_getiE (pc := 148) fl_X2_38 rfl rfl r1 dX2_doDeed_148 ?_
    refine s_iconst (pc := 151) (k_i1N) dX2_doDeed_151 ?_
    refine s_iaddN (pc := 152) dX2_doDeed_152 ?_
    refine s_puti (pc := 153) fl_X2_38 fw_2_7 rfl rfl dX2_doDeed_153 ?_
    refine s_aload_n (pc := 156) 0 rfl rfl dX2_doDeed_156 ?_
    refine s_cvn0 (pc := 157) (c_X2_settle hC1 hB1.1) ml_X2_65 mw_X2_settle rfl (by decide) (Nat.le_of_ble_eq_true rfl) dX2_doDeed_157 ?_
    refine s_aload_n (pc := 160) 0 rfl rfl dX2_doDeed_160 ?_
    have y1 : (setl (ui (dd1 h (a 3) 4 i) 23 7 (nI (a 1 + 1))) (yearN a)).1 23 7 = nI (a 1 + 1) := by rw [setl_ne (by decide) (by decide)]; exact ui_eq
    refine s_getiE (pc := 161) fl_X2_38 rfl rfl y1 dX2_doDeed_161 ?_
    refine s_iret (pc := 164) dX2_doDeed_164 (PostE.of hp ?_ ?_)
    · first | rfl | (exfalso; omega)
    · first | rfl | (exfalso; omega)
  · refine s_bipush (pc := 16) (k_bm2) dX2_doDeed_16 ?_
    refine s_iret (pc := 18) dX2_doDeed_18 (PostE.of hp ?_ ?_)
    · first | rfl | (exfalso; omega)
    · first | rfl | (exfalso; omega)
