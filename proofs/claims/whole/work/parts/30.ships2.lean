theorem onc_tb {n s : Nat} {f : Nat → Int32} {k x : Nat} (hn : n ≤ 6) (hs : s < 64) (h : (onc n s f k).1 = true) (hx : x < 6) (ht : (onc n s f k).2.testBit x = true) : s.testBit x = true ∧ ∀ p, p < k → ¬ yN f p = x := by
  induction k with
  | zero => exact ⟨ht, fun p hp => absurd hp (Nat.not_lt_zero _)⟩
  | succ k ih =>
    obtain ⟨h1, h2, h3⟩ := onc_1 h
    have e2 := (shp_v hn h2).2
    rw [onc_t h1 h2 h3] at ht
    have ht2 : (clrN (onc n s f k).2 (yN f k)).testBit x = true := ht
    rw [clr_tb _ (onc_lt hs k) _ (by omega) _ hx, Bool.and_eq_true, decide_eq_true_eq] at ht2
    obtain ⟨i1, i2⟩ := ih h1 ht2.2
    refine ⟨i1, fun p hp => ?_⟩
    rcases Nat.lt_or_eq_of_le (Nat.le_of_lt_succ hp) with e | e
    · exact i2 p e
    · rw [e]; exact fun z => ht2.1 z.symm
theorem onc_all {n s m : Nat} {f : Nat → Int32} (hn : n ≤ 6) (hs : s < 64) (h : (onc n s f m).1 = true) {b : Nat} (hb : b < m) : f b = nI (yN f b) ∧ yN f b < n ∧ s.testBit (yN f b) = true ∧ (∀ p, p < b → ¬ yN f p = yN f b) ∧ (onc n s f b).2.testBit (yN f b) = true := by
  obtain ⟨h1, h2, h3⟩ := onc_1 (onc_le h (k := b + 1) (by omega))
  obtain ⟨e1, e2⟩ := shp_v hn h2
  obtain ⟨i1, i2⟩ := onc_tb hn hs h1 (by omega) h3
  exact ⟨e1, e2, i1, i2, h3⟩
theorem clr_pop : ∀ s, s < 64 → ∀ i, i < 6 → s.testBit i = true → pop (clrN s i) + 1 = pop s := by decide +kernel
theorem onc_pop {n s : Nat} {f : Nat → Int32} {k : Nat} (hn : n ≤ 6) (hs : s < 64) (h : (onc n s f k).1 = true) : pop (onc n s f k).2 + k = pop s := by
  induction k with
  | zero => rfl
  | succ k ih =>
    obtain ⟨h1, h2, h3⟩ := onc_1 h
    have e2 := (shp_v hn h2).2
    rw [onc_t h1 h2 h3]
    have i := ih h1
    have c := clr_pop _ (onc_lt (n := n) (f := f) hs k) _ (show yN f k < 6 by omega) h3
    show pop (clrN (onc n s f k).2 (yN f k)) + (k + 1) = pop s
    omega
theorem onc_6 {n s m : Nat} {f : Nat → Int32} (hn : n ≤ 6) (hs : s < 64) (h : (onc n s f m).1 = true) : m ≤ 6 := by
  have := onc_pop hn hs h
  have := pop_le s
  omega
theorem onc_sim {n s s' : Nat} {f : Nat → Int32} (hn : n ≤ 6) (hs : s < 64) (hs' : s' < 64) (h : ∀ i, i < n → s.testBit i = s'.testBit i) (k : Nat) : (onc n s f k).1 = (onc n s' f k).1 ∧ ∀ i, i < n → (onc n s f k).2.testBit i = (onc n s' f k).2.testBit i := by
  induction k with
  | zero => exact ⟨rfl, h⟩
  | succ k ih =>
    obtain ⟨i1, i2⟩ := ih
    by_cases q : (onc n s f k).1 = true ∧ shpB n (f k) = true ∧ (onc n s f k).2.testBit (yN f k) = true
    · have e2 := (shp_v hn q.2.1).2
      rw [onc_t q.1 q.2.1 q.2.2, onc_t (i1 ▸ q.1) q.2.1 ((i2 _ e2) ▸ q.2.2)]
      refine ⟨rfl, fun i hi => ?_⟩
      show (clrN _ _).testBit i = (clrN _ _).testBit i
      rw [clr_tb _ (onc_lt hs k) _ (by omega) _ (by omega), clr_tb _ (onc_lt hs' k) _ (by omega) _ (by omega), i2 i hi]
    · rw [onc_f q, onc_f (fun z => q (by
        have e2 := (shp_v hn z.2.1).2
        exact ⟨i1 ▸ z.1, z.2.1, (i2 _ e2).symm ▸ z.2.2⟩))]
      exact ⟨rfl, i2⟩
/-! whose telling is wrong -/
def nrs (g : Nat → Nat) : Nat → Nat
  | 0 => 0
  | k + 1 => nrs g k ||| 2 ^ g k
theorem nrs_tb {g : Nat → Nat} {k x : Nat} : (nrs g k).testBit x = true ↔ ∃ p, p < k ∧ g p = x := by
  induction k with
  | zero => simp [nrs]
  | succ k ih =>
    simp only [nrs, Nat.testBit_or, Bool.or_eq_true, ih, Nat.testBit_two_pow, decide_eq_true_eq]
    constructor
    · rintro (⟨p, hp, e⟩ | e)
      · exact ⟨p, by omega, e⟩
      · exact ⟨k, by omega, e⟩
    · rintro ⟨p, hp, e⟩
      rcases Nat.lt_or_eq_of_le (Nat.le_of_lt_succ hp) with q | q
      · exact Or.inl ⟨p, q, e⟩
      · rw [q] at e; exact Or.inr e
theorem nrs_lt {g : Nat → Nat} {k : Nat} (h : ∀ p, p < k → g p < 6) : nrs g k < 64 := by
  induction k with
  | zero => exact (by decide : (0 : Nat) < 64)
  | succ k ih => exact Nat.or_lt_two_pow (n := 6) (ih (fun p hp => h p (by omega))) (Nat.pow_lt_pow_right (by decide) (h k (by omega)))
def mis (a g : Nat → Nat) (t : Nat) : Nat := nrs g t ^^^ (nrs g t &&& ahdN a (g t))
def wrS (a g : Nat → Nat) : Nat → Nat
  | 0 => 0
  | t + 1 => if mis a g t = 0 then wrS a g t else wrS a g t ||| (mis a g t ||| 2 ^ g t)
def wrP (a g : Nat → Nat) : Nat → Nat
  | 0 => 0
  | t + 1 => wrP a g t + pop (mis a g t)
theorem mis_tb {a g : Nat → Nat} {t x : Nat} (hg : ∀ p, p ≤ t → g p < a 0) (hd : ∀ p, p < t → ¬ g p = g t) : (mis a g t).testBit x = true ↔ ∃ p, p < t ∧ g p = x ∧ aheadNow a (g t) (g p) = true := by
  unfold mis ahdN
  rw [and_not_tb, bitsU_testBit, Bool.and_eq_true, nrs_tb]
  constructor
  · rintro ⟨⟨p, hp, e⟩, h2⟩
    refine ⟨p, hp, e, ?_⟩
    rw [← e] at h2
    have h3 := hg p (by omega)
    have h4 := hd p hp
    have an := ah_anti (a := a) (i := g t) (j := g p) (u := ageN a (g t) (a 1)) (v := ageN a (g p) (a 1)) (fun z => h4 z.symm)
    simp only [h3, decide_true, Bool.true_and, h4, not_false_eq_true, aheadNow, an, Bool.not_not] at h2
    exact h2
  · rintro ⟨p, hp, e, h2⟩
    refine ⟨⟨p, hp, e⟩, ?_⟩
    rw [← e]
    have h3 := hg p (by omega)
    have h4 := hd p hp
    have an := ah_anti (a := a) (i := g t) (j := g p) (u := ageN a (g t) (a 1)) (v := ageN a (g p) (a 1)) (fun z => h4 z.symm)
    simp only [h3, decide_true, Bool.true_and, h4, not_false_eq_true, aheadNow, an, Bool.not_not]
    exact h2
def WQ (a g : Nat → Nat) (D : Nat → Nat → Prop) (x : Nat) : Prop := ∃ p b, D p b ∧ p < b ∧ aheadNow a (g b) (g p) = true ∧ (x = g p ∨ x = g b)
theorem wrS_tb {a g : Nat → Nat} {m : Nat} (hg : ∀ p, p < m → g p < a 0) (hd : ∀ p b, p < b → b < m → ¬ g p = g b) (x : Nat) : (wrS a g m).testBit x = true ↔ WQ a g (fun _ b => b < m) x := by
  induction m with
  | zero =>
    simp only [wrS, Nat.zero_testBit]
    exact ⟨fun z => absurd z Bool.false_ne_true, fun ⟨p, b, h1, _⟩ => absurd h1 (Nat.not_lt_zero _)⟩
  | succ t ih =>
    have ih := ih (fun p hp => hg p (by omega)) (fun p b h1 h2 => hd p b h1 (by omega))
    have mt := fun x => mis_tb (a := a) (g := g) (t := t) (x := x) (fun p hp => hg p (by omega)) (fun p hp => hd p t hp (by omega))
    simp only [wrS]
    by_cases q : mis a g t = 0
    · rw [if_pos q, ih]
      constructor
      · rintro ⟨p, b, h1, h2⟩; exact ⟨p, b, by omega, h2⟩
      · rintro ⟨p, b, h1, h2, h3, h4⟩
        rcases Nat.lt_or_eq_of_le (Nat.le_of_lt_succ h1) with e | e
        · exact ⟨p, b, e, h2, h3, h4⟩
        · subst e
          have := (mt (g p)).mpr ⟨p, h2, rfl, h3⟩
          rw [q, Nat.zero_testBit] at this
          exact absurd this Bool.false_ne_true
    · rw [if_neg q, Nat.testBit_or, Nat.testBit_or, Bool.or_eq_true, Bool.or_eq_true, ih, mt, Nat.testBit_two_pow, decide_eq_true_eq]
      have ex : ∃ p, p < t ∧ aheadNow a (g t) (g p) = true := by
        obtain ⟨y, hy⟩ := Nat.exists_testBit_of_ne_zero q
        obtain ⟨p, h1, _, h2⟩ := (mt y).mp hy
        exact ⟨p, h1, h2⟩
      constructor
      · rintro (⟨p, b, h1, h2⟩ | ⟨p, h1, h2, h3⟩ | e)
        · exact ⟨p, b, by omega, h2⟩
        · exact ⟨p, t, by omega, h1, h3, Or.inl h2.symm⟩
        · obtain ⟨p, h1, h2⟩ := ex
          exact ⟨p, t, by omega, h1, h2, Or.inr e.symm⟩
      · rintro ⟨p, b, h1, h2, h3, h4⟩
        rcases Nat.lt_or_eq_of_le (Nat.le_of_lt_succ h1) with e | e
        · exact Or.inl ⟨p, b, e, h2, h3, h4⟩
        · subst e
          rcases h4 with h4 | h4
          · exact Or.inr (Or.inl ⟨p, h2, h4.symm, h3⟩)
          · exact Or.inr (Or.inr h4.symm)
theorem wrS_lt {a g : Nat → Nat} {m : Nat} (hg : ∀ p, p < m → g p < 6) (hA : ∀ i, ahdN a i < 64) : wrS a g m < 64 := by
  induction m with
  | zero => exact (by decide : (0 : Nat) < 64)
  | succ t ih =>
    simp only [wrS]
    split
    · exact ih (fun p hp => hg p (by omega))
    · exact Nat.or_lt_two_pow (n := 6) (ih (fun p hp => hg p (by omega))) (Nat.or_lt_two_pow (n := 6) (and_not_lt _ (nrs_lt (fun p hp => hg p (by omega))) _ (hA _)) (Nat.pow_lt_pow_right (by decide) (hg t (by omega))))
theorem wrP_le (a g : Nat → Nat) (m : Nat) : wrP a g m ≤ 6 * m := by
  induction m with
  | zero => exact Nat.le_refl _
  | succ t ih => simp only [wrP]; have := pop_le (mis a g t); omega
def cI (a g : Nat → Nat) (p b : Nat) : Nat := if p < b ∧ aheadNow a (g b) (g p) = true then 1 else 0
theorem sumU_congr {n : Nat} {f g : Nat → Nat} (h : ∀ j, j < n → f j = g j) : sumU n f = sumU n g := by
  induction n with
  | zero => rfl
  | succ n ih => simp only [sumU]; rw [ih (fun j hj => h j (by omega)), h n (by omega)]
theorem sumU_0 {n : Nat} {f : Nat → Nat} (h : ∀ j, j < n → f j = 0) : sumU n f = 0 := by
  induction n with
  | zero => rfl
  | succ n ih => simp only [sumU]; rw [ih (fun j hj => h j (by omega)), h n (by omega)]
theorem sumU_add (n : Nat) (f g : Nat → Nat) : sumU n (fun j => f j + g j) = sumU n f + sumU n g := by
  induction n with
  | zero => rfl
  | succ n ih => simp only [sumU]; rw [ih]; omega
theorem sumU_swap (n m : Nat) (F : Nat → Nat → Nat) : sumU n (fun p => sumU m (F p)) = sumU m (fun b => sumU n (fun p => F p b)) := by
  induction n with
  | zero => exact (sumU_0 (fun _ _ => rfl)).symm
  | succ n ih => simp only [sumU]; rw [ih, sumU_add]
theorem sumU_more {n m : Nat} {f : Nat → Nat} (hnm : n ≤ m) (h : ∀ j, n ≤ j → f j = 0) : sumU m f = sumU n f := by
  induction m with
  | zero => rw [show n = 0 by omega]
  | succ m ih =>
    by_cases e : n = m + 1
    · rw [e]
    · simp only [sumU]; rw [ih (by omega), h m (by omega)]; rfl
theorem cnt_ins {n i : Nat} {p : Nat → Bool} (hi : i < n) (h : p i = false) : cnt n (fun x => p x || decide (x = i)) = cnt n p + 1 := by
  induction n with
  | zero => exact absurd hi (Nat.not_lt_zero _)
  | succ n ih =>
    simp only [cnt]
    by_cases e : n = i
    · subst e
      rw [cnt_congr (q := p) (fun j hj => by rw [decide_eq_false (by omega), Bool.or_false])]
      simp [h]
    · rw [ih (by omega)]
      simp only [e, decide_false, Bool.or_false]
      omega
theorem pop_nrs {g : Nat → Nat} {P : Nat → Bool} {k : Nat} (hg : ∀ p, p < k → g p < 6) (hd : ∀ p b, p < b → b < k → ¬ g p = g b) : cnt 6 (fun x => (nrs g k).testBit x && P x) = sumU k (fun p => if P (g p) = true then 1 else 0) := by
  induction k with
  | zero =>
    rw [cnt_congr (q := fun _ => false) (fun j _ => by simp [nrs])]
    show cnt 6 (fun _ => false) = 0
    decide
  | succ k ih =>
    have ih := ih (fun p hp => hg p (by omega)) (fun p b h1 h2 => hd p b h1 (by omega))
    simp only [sumU]
    rw [← ih]
    have nk : (nrs g k).testBit (g k) = false := by
      by_cases q : (nrs g k).testBit (g k) = true
      · obtain ⟨p, h1, h2⟩ := nrs_tb.mp q
        exact absurd h2 (hd p k h1 (by omega))
      · exact Bool.eq_false_iff.mpr q
    by_cases hP : P (g k) = true
    · rw [if_pos hP, ← cnt_ins (p := fun x => (nrs g k).testBit x && P x) (hg k (by omega)) (by simp only [nk, Bool.false_and])]
      refine cnt_congr (fun x _ => ?_)
      simp only [nrs, Nat.testBit_or, Nat.testBit_two_pow]
      by_cases e : x = g k
      · rw [e, hP]; simp
      · rw [decide_eq_false (fun z => e z.symm), decide_eq_false e, Bool.or_false, Bool.or_false]
    · rw [if_neg hP, Nat.add_zero]
      refine cnt_congr (fun x _ => ?_)
      simp only [nrs, Nat.testBit_or, Nat.testBit_two_pow]
      by_cases e : x = g k
      · rw [e, Bool.eq_false_iff.mpr hP, Bool.and_false, Bool.and_false]
      · rw [decide_eq_false (fun z => e z.symm), Bool.or_false]
theorem pop_mis {a g : Nat → Nat} {t : Nat} (hn : a 0 ≤ 6) (hg : ∀ p, p ≤ t → g p < a 0) (hd : ∀ p b, p < b → b ≤ t → ¬ g p = g b) : pop (mis a g t) = sumU t (fun p => cI a g p t) := by
  unfold pop
  rw [cnt_congr (q := fun x => (nrs g t).testBit x && !(ahdN a (g t)).testBit x) (fun x _ => by unfold mis; rw [and_not_tb]), pop_nrs (P := fun x => !(ahdN a (g t)).testBit x) (fun p hp => Nat.lt_of_lt_of_le (hg p (by omega)) hn) (fun p b h1 h2 => hd p b h1 (by omega))]
  refine sumU_congr (fun p hp => ?_)
  have h3 := hg p (by omega)
  have h4 := hd p t hp (Nat.le_refl _)
  have an := ah_anti (a := a) (i := g t) (j := g p) (u := ageN a (g t) (a 1)) (v := ageN a (g p) (a 1)) (fun z => h4 z.symm)
  unfold cI ahdN
  simp only [bitsU_testBit, h3, decide_true, Bool.true_and, h4, not_false_eq_true, aheadNow, an, Bool.not_not, hp, true_and]
theorem wrP_eq {a g : Nat → Nat} {m : Nat} (hn : a 0 ≤ 6) (hg : ∀ p, p < m → g p < a 0) (hd : ∀ p b, p < b → b < m → ¬ g p = g b) : sumU m (fun p => sumU m (cI a g p)) = wrP a g m := by
  rw [sumU_swap]
  have key : ∀ t, t ≤ m → sumU t (fun b => sumU m (fun p => cI a g p b)) = wrP a g t := by
    intro t
    induction t with
    | zero => exact fun _ => rfl
    | succ t ih =>
      intro ht
      simp only [sumU, wrP]
      rw [ih (by omega), pop_mis hn (fun p hp => hg p (by omega)) (fun p b h1 h2 => hd p b h1 (by omega)), sumU_more (n := t) (m := m) (by omega) (fun j hj => by unfold cI; rw [if_neg (by omega)])]
  exact key m (Nat.le_refl _)
theorem ahd64 {a : Nat → Nat} (hn : a 0 ≤ 6) (i : Nat) : ahdN a i < 64 := bitsU_lt64 _ hn

set_option maxRecDepth 20000 in
theorem c_X6_wrongB {s : Int32} {a : Nat → Nat} {h : Hp} (hR : RC a h) (hO : OkA a) (hm : h.1 1 0 = nI 6) (hb : s < 0 ∨ nI 6 ≤ s) : CT 5 yX6_wrong cX6_wrong 9 (some .int) [.ref 0, .int s] h (some (.int (-1))) (h) := by
  obtain ⟨⟨o0, o1, o2, o3, o4, o5, o6⟩, os⟩ := id hO
  have o64 := hO.in64
  have hC := hR.1
  obtain ⟨⟨r0, r1, r2, r4, r5, r6⟩, rs, P, rp, rP, rt⟩ := id hC
  have rg := hR.2
  refine CT.of (own := RX6) rfl (by decide) (ro_i _) [.ref 0, .int s, .null, .null, .null, .null, .null, .null, .null] rfl (Nat.le_of_ble_eq_true rfl) (fun E hp => ?_)
  refine s_aload_n (pc := 0) 0 rfl rfl dX6_wrong_0 ?_
  refine s_iload_n (pc := 1) 1 rfl rfl dX6_wrong_1 ?_
  refine s_aload_n (pc := 2) 0 rfl rfl dX6_wrong_2 ?_
  refine s_getr (pc := 3) (b := 23) fl_X6_27 rfl rfl rfl dX6_wrong_3 ?_
  refine s_getiE (pc := 6) fl_X6_190 rfl rfl r5 dX6_wrong_6 ?_
  refine s_cvi2 (pc := 9) (c_X6_rsB hm hb) ml_X6_229 mw_X6_refusalOfShips rfl (by decide) (Nat.le_of_ble_eq_true rfl) dX6_wrong_9 ?_
  refine s_istore_n (pc := 12) 2 rfl (by decide) rfl dX6_wrong_12 ?_
  refine s_iload_n (pc := 13) 2 rfl rfl dX6_wrong_13 ?_
  refine s_if_eq (pc := 14) 19 dX6_wrong_14 (by decide) (fun c_14 => ?_) (fun c_14 => ?_)
  · exfalso; exact absurd c_14 (by decide)
  · refine s_iload_n (pc := 17) 2 rfl rfl dX6_wrong_17 ?_
    refine s_iret (pc := 18) dX6_wrong_18 (PostE.of hp ?_ ?_)
    · rfl
    · rfl

set_option maxRecDepth 20000 in
theorem c_X6_wrongE {q : Nat} {a : Nat → Nat} {h : Hp} (hR : RC a h) (hO : OkA a) (hm : h.1 1 0 = nI 6) (hk : q < 6) (h0 : a 0 = 0) : CT 5 yX6_wrong cX6_wrong 9 (some .int) [.ref 0, .int (nI q)] h (some (.int (-4))) (h) := by
  obtain ⟨⟨o0, o1, o2, o3, o4, o5, o6⟩, os⟩ := id hO
  have o64 := hO.in64
  have hC := hR.1
  obtain ⟨⟨r0, r1, r2, r4, r5, r6⟩, rs, P, rp, rP, rt⟩ := id hC
  have rg := hR.2
  refine CT.of (own := RX6) rfl (by decide) (ro_i _) [.ref 0, .int (nI q), .null, .null, .null, .null, .null, .null, .null] rfl (Nat.le_of_ble_eq_true rfl) (fun E hp => ?_)
  refine s_aload_n (pc := 0) 0 rfl rfl dX6_wrong_0 ?_
  refine s_iload_n (pc := 1) 1 rfl rfl dX6_wrong_1 ?_
  refine s_aload_n (pc := 2) 0 rfl rfl dX6_wrong_2 ?_
  refine s_getr (pc := 3) (b := 23) fl_X6_27 rfl rfl rfl dX6_wrong_3 ?_
  refine s_getiE (pc := 6) fl_X6_190 rfl rfl r5 dX6_wrong_6 ?_
  refine s_cvi2 (pc := 9) (c_X6_rsE hR hO hm hk h0) ml_X6_229 mw_X6_refusalOfShips rfl (by decide) (Nat.le_of_ble_eq_true rfl) dX6_wrong_9 ?_
  refine s_istore_n (pc := 12) 2 rfl (by decide) rfl dX6_wrong_12 ?_
  refine s_iload_n (pc := 13) 2 rfl rfl dX6_wrong_13 ?_
  refine s_if_eq (pc := 14) 19 dX6_wrong_14 (by decide) (fun c_14 => ?_) (fun c_14 => ?_)
  · exfalso; exact absurd c_14 (by decide)
  · refine s_iload_n (pc := 17) 2 rfl rfl dX6_wrong_17 ?_
    refine s_iret (pc := 18) dX6_wrong_18 (PostE.of hp ?_ ?_)
    · rfl
    · rfl

set_option maxRecDepth 20000 in
theorem c_X6_wrongM {q : Nat} {a : Nat → Nat} {h : Hp} (hR : RC a h) (hO : OkA a) (hm : h.1 1 0 = nI 6) (hk : q < 6) (h0 : 0 < a 0) (hz : h.1 2 q = -1) : CT 5 yX6_wrong cX6_wrong 9 (some .int) [.ref 0, .int (nI q)] h (some (.int (-3))) (finC h 1) := by
  obtain ⟨⟨o0, o1, o2, o3, o4, o5, o6⟩, os⟩ := id hO
  have o64 := hO.in64
  have hC := hR.1
  obtain ⟨⟨r0, r1, r2, r4, r5, r6⟩, rs, P, rp, rP, rt⟩ := id hC
  have rg := hR.2
  refine CT.of (own := RX6) rfl (by decide) (ro_i _) [.ref 0, .int (nI q), .null, .null, .null, .null, .null, .null, .null] rfl (Nat.le_of_ble_eq_true rfl) (fun E hp => ?_)
  refine s_aload_n (pc := 0) 0 rfl rfl dX6_wrong_0 ?_
  refine s_iload_n (pc := 1) 1 rfl rfl dX6_wrong_1 ?_
  refine s_aload_n (pc := 2) 0 rfl rfl dX6_wrong_2 ?_
  refine s_getr (pc := 3) (b := 23) fl_X6_27 rfl rfl rfl dX6_wrong_3 ?_
  refine s_getiE (pc := 6) fl_X6_190 rfl rfl r5 dX6_wrong_6 ?_
  refine s_cvi2 (pc := 9) (c_X6_rsM hR hO hm hk h0 hz) ml_X6_229 mw_X6_refusalOfShips rfl (by decide) (Nat.le_of_ble_eq_true rfl) dX6_wrong_9 ?_
  refine s_istore_n (pc := 12) 2 rfl (by decide) rfl dX6_wrong_12 ?_
  refine s_iload_n (pc := 13) 2 rfl rfl dX6_wrong_13 ?_
  refine s_if_eq (pc := 14) 19 dX6_wrong_14 (by decide) (fun c_14 => ?_) (fun c_14 => ?_)
  · exfalso; exact absurd c_14 (by decide)
  · refine s_iload_n (pc := 17) 2 rfl rfl dX6_wrong_17 ?_
    refine s_iret (pc := 18) dX6_wrong_18 (PostE.of hp ?_ ?_)
    · rfl
    · rfl

set_option maxRecDepth 20000 in
theorem c_X6_wrongU {q m : Nat} {a : Nat → Nat} {h : Hp} (hR : RC a h) (hO : OkA a) (hm : h.1 1 0 = nI 6) (h0 : 0 < a 0) (hk : q < 6) (hz : h.1 2 q = nI m) (hz6 : m ≤ 40) {f : Nat → Int32} (hf : ∀ j, j < 40 → h.1 (3 + 1 + q) j = f j) (hu : ¬ (onc (a 0) (a 5) f m).1 = true) : CT 5 yX6_wrong cX6_wrong 9 (some .int) [.ref 0, .int (nI q)] h (some (.int (-3))) (finC h 3) := by
  obtain ⟨⟨o0, o1, o2, o3, o4, o5, o6⟩, os⟩ := id hO
  have o64 := hO.in64
  have hC := hR.1
  obtain ⟨⟨r0, r1, r2, r4, r5, r6⟩, rs, P, rp, rP, rt⟩ := id hC
  have rg := hR.2
  refine CT.of (own := RX6) rfl (by decide) (ro_i _) [.ref 0, .int (nI q), .null, .null, .null, .null, .null, .null, .null] rfl (Nat.le_of_ble_eq_true rfl) (fun E hp => ?_)
  refine s_aload_n (pc := 0) 0 rfl rfl dX6_wrong_0 ?_
  refine s_iload_n (pc := 1) 1 rfl rfl dX6_wrong_1 ?_
  refine s_aload_n (pc := 2) 0 rfl rfl dX6_wrong_2 ?_
  refine s_getr (pc := 3) (b := 23) fl_X6_27 rfl rfl rfl dX6_wrong_3 ?_
  refine s_getiE (pc := 6) fl_X6_190 rfl rfl r5 dX6_wrong_6 ?_
  refine s_cvi2 (pc := 9) (c_X6_rsU (b := false) (s := a 5) hR hO hm h0 hk hz hz6 hf o64 hu) ml_X6_229 mw_X6_refusalOfShips rfl (by decide) (Nat.le_of_ble_eq_true rfl) dX6_wrong_9 ?_
  refine s_istore_n (pc := 12) 2 rfl (by decide) rfl dX6_wrong_12 ?_
  refine s_iload_n (pc := 13) 2 rfl rfl dX6_wrong_13 ?_
  refine s_if_eq (pc := 14) 19 dX6_wrong_14 (by decide) (fun c_14 => ?_) (fun c_14 => ?_)
  · exfalso; exact absurd c_14 (by decide)
  · refine s_iload_n (pc := 17) 2 rfl rfl dX6_wrong_17 ?_
    refine s_iret (pc := 18) dX6_wrong_18 (PostE.of hp ?_ ?_)
    · rfl
    · rfl

set_option maxRecDepth 20000 in
theorem c_X6_wrongO {q m : Nat} {a : Nat → Nat} {h : Hp} (hR : RC a h) (hO : OkA a) (hm : h.1 1 0 = nI 6) (h0 : 0 < a 0) (hk : q < 6) (hz : h.1 2 q = nI m) (hz6 : m ≤ 40) {f : Nat → Int32} (hf : ∀ j, j < 40 → h.1 (3 + 1 + q) j = f j) (hu : (onc (a 0) (a 5) f m).1 = true) : CT 5 yX6_wrong cX6_wrong 9 (some .int) [.ref 0, .int (nI q)] h (some (.int (nI (wrP a (yN f) m)))) (ui h 0 10 (nI (wrS a (yN f) m))) := by
  obtain ⟨⟨o0, o1, o2, o3, o4, o5, o6⟩, os⟩ := id hO
  have o64 := hO.in64
  have hC := hR.1
  obtain ⟨⟨r0, r1, r2, r4, r5, r6⟩, rs, P, rp, rP, rt⟩ := id hC
  have rg := hR.2
  have al := fun (b : Nat) (hb : b < m) => onc_all o0 o64 hu hb
  have A64 := ahd64 o0
  refine CT.of (own := RX6) rfl (by decide) (ro_i _) [.ref 0, .int (nI q), .null, .null, .null, .null, .null, .null, .null] rfl (Nat.le_of_ble_eq_true rfl) (fun E hp => ?_)
  refine s_aload_n (pc := 0) 0 rfl rfl dX6_wrong_0 ?_
  refine s_iload_n (pc := 1) 1 rfl rfl dX6_wrong_1 ?_
  refine s_aload_n (pc := 2) 0 rfl rfl dX6_wrong_2 ?_
  refine s_getr (pc := 3) (b := 23) fl_X6_27 rfl rfl rfl dX6_wrong_3 ?_
  refine s_getiE (pc := 6) fl_X6_190 rfl rfl r5 dX6_wrong_6 ?_
  refine s_cvi2 (pc := 9) (c_X6_rsO (b := false) (s := a 5) hR hO hm h0 hk hz hz6 hf o64 hu) ml_X6_229 mw_X6_refusalOfShips rfl (by decide) (Nat.le_of_ble_eq_true rfl) dX6_wrong_9 ?_
  refine s_istore_n (pc := 12) 2 rfl (by decide) rfl dX6_wrong_12 ?_
  refine s_iload_n (pc := 13) 2 rfl rfl dX6_wrong_13 ?_
  refine s_if_eqN (pc := 14) (by omega) 19 dX6_wrong_14 (by decide) (fun c_14 => ?_) (fun c_14 => ?_)
  · refine s_iconst (pc := 19) (k_i0N) dX6_wrong_19 ?_
    refine s_istore_n (pc := 20) 3 rfl (by decide) rfl dX6_wrong_20 ?_
    refine s_iconst (pc := 21) (k_i0N) dX6_wrong_21 ?_
    refine s_istore (pc := 22) (by decide) rfl dX6_wrong_22 ?_
    refine s_iconst (pc := 24) (k_i0N) dX6_wrong_24 ?_
    refine s_istore (pc := 25) (by decide) rfl dX6_wrong_25 ?_
    refine s_iconst (pc := 27) (k_i0N) dX6_wrong_27 ?_
    refine s_istore (pc := 28) (by decide) rfl dX6_wrong_28 ?_
    suffices lp_30 : ∀ t, t ≤ m → ∀ z1 z2, WW E cX6_wrong RX6 9 _ 30 [.ref 0, .int (nI q), .int (nI 0), .int (nI (wrP a (yN f) t)), .int (nI (wrS a (yN f) t)), .int (nI (nrs (yN f) t)), .int (nI t), z1, z2] (h) [] from lp_30 0 (by omega) _ _
    refine lpi m (fun t hk_t ih_30 => ?_)
    intro z1 z2
    refine s_iload (pc := 30) rfl dX6_wrong_30 ?_
    refine s_aload_n (pc := 32) 0 rfl rfl dX6_wrong_32 ?_
    refine s_getr (pc := 33) (b := 1) fl_X6_14 rfl rfl rfl dX6_wrong_33 ?_
    refine s_getr (pc := 36) (b := 2) fl_X6_121 rfl rfl rfl dX6_wrong_36 ?_
    refine s_iload_n (pc := 39) 1 rfl rfl dX6_wrong_39 ?_
    refine s_ialdN (pc := 40) (_) rfl rfl (by omega) hz dX6_wrong_40 ?_
    refine s_icmp_geN (pc := 41) (by omega) (by omega) 115 dX6_wrong_41 (by decide) (fun c_41 => ?_) (fun c_41 => ?_)
    · obtain rfl : t = m := by omega
      refine s_aload_n (pc := 115) 0 rfl rfl dX6_wrong_115 ?_
      refine s_iload (pc := 116) rfl dX6_wrong_116 ?_
      refine s_puti (pc := 118) fl_X6_69 fw_6_10 rfl rfl dX6_wrong_118 ?_
      refine s_iload_n (pc := 121) 3 rfl rfl dX6_wrong_121 ?_
      refine s_iret (pc := 122) dX6_wrong_122 (PostE.of hp ?_ ?_)
      · rfl
      · rfl
    · have al1 := al t (by omega)
      have nl : nrs (yN f) t < 64 := nrs_lt (fun p hp => Nat.lt_of_lt_of_le (al p (by omega)).2.1 o0)
      have ml : mis a (yN f) t < 64 := and_not_lt _ nl _ (A64 _)
      have sl : wrS a (yN f) t < 64 := wrS_lt (fun p hp => Nat.lt_of_lt_of_le (al p (by omega)).2.1 o0) A64
      have pl : 2 ^ yN f t < 64 := Nat.pow_lt_pow_right (n := 6) (by decide) (by omega)
      refine s_aload_n (pc := 44) 0 rfl rfl dX6_wrong_44 ?_
      refine s_getr (pc := 45) (b := 1) fl_X6_14 rfl rfl rfl dX6_wrong_45 ?_
      refine s_getr (pc := 48) (b := 3) fl_X6_111 rfl rfl rfl dX6_wrong_48 ?_
      refine s_iload_n (pc := 51) 1 rfl rfl dX6_wrong_51 ?_
      refine s_aald (pc := 52) (b := 3 + 1 + q) (_) rfl rfl (by omega) rfl dX6_wrong_52 ?_
      refine s_iload (pc := 53) rfl dX6_wrong_53 ?_
      refine s_ialdN (pc := 55) (_) (ly_1 q hk) rfl (by omega) ((hf _ (by omega)).trans (al t (by omega)).1) dX6_wrong_55 ?_
      refine s_istore (pc := 56) (by decide) rfl dX6_wrong_56 ?_
      refine s_iload (pc := 58) rfl dX6_wrong_58 ?_
      refine s_aload_n (pc := 60) 0 rfl rfl dX6_wrong_60 ?_
      refine s_getr (pc := 61) (b := 23) fl_X6_27 rfl rfl rfl dX6_wrong_61 ?_
      refine s_getr (pc := 64) (b := 34) fl_X6_254 rfl rfl rfl dX6_wrong_64 ?_
      refine s_iload (pc := 67) rfl dX6_wrong_67 ?_
      refine s_ialdN (pc := 69) (_) rfl rfl (by omega) (rg _ (by omega)).2 dX6_wrong_69 ?_
      refine s_iconst (pc := 70) (k_im1) dX6_wrong_70 ?_
      refine s_ixor (pc := 71) dX6_wrong_71 ?_
      refine s_iand (pc := 72) dX6_wrong_72 ?_
      refine WW.top (show _ = nI (mis a (yN f) t) from and_not _ nl _ (A64 _)) ?_
      refine s_istore (pc := 73) (by decide) rfl dX6_wrong_73 ?_
      refine s_iload (pc := 75) rfl dX6_wrong_75 ?_
      refine s_if_eqN (pc := 77) (by omega) 100 dX6_wrong_77 (by decide) (fun c_77 => ?_) (fun c_77 => ?_)
      · refine s_iload (pc := 100) rfl dX6_wrong_100 ?_
        refine s_iconst (pc := 102) (k_i1N) dX6_wrong_102 ?_
        refine s_iload (pc := 103) rfl dX6_wrong_103 ?_
        refine s_ishl1N (pc := 105) (by omega) dX6_wrong_105 ?_
        refine s_iorN (pc := 106) (by omega) (by omega) dX6_wrong_106 ?_
        refine s_istore (pc := 107) (by decide) rfl dX6_wrong_107 ?_
        refine s_iincN (pc := 109) rfl (by decide) rfl dX6_wrong_109 ?_
        refine s_goto (pc := 112) 30 dX6_wrong_112 (by decide) ?_
        have ih := ih_30 (by omega)
        simp only [wrP, wrS, nrs] at ih
        rw [if_pos c_77] at ih
        rw [show pop (mis a (yN f) t) = 0 by rw [c_77]; decide] at ih
        exact ih _ _
      · refine s_iload_n (pc := 80) 3 rfl rfl dX6_wrong_80 ?_
        refine s_iload (pc := 81) rfl dX6_wrong_81 ?_
        refine s_csi1 (pc := 83) (c_J6_bitCount_0f7a4 ml) ml_X6_193 ms_J6_bitCount_0f7a4 (by decide) (Nat.le_of_ble_eq_true rfl) dX6_wrong_83 ?_
        refine s_iaddN (pc := 86) dX6_wrong_86 ?_
        refine s_istore_n (pc := 87) 3 rfl (by decide) rfl dX6_wrong_87 ?_
        refine s_iload (pc := 88) rfl dX6_wrong_88 ?_
        refine s_iload (pc := 90) rfl dX6_wrong_90 ?_
        refine s_iconst (pc := 92) (k_i1N) dX6_wrong_92 ?_
        refine s_iload (pc := 93) rfl dX6_wrong_93 ?_
        refine s_ishl1N (pc := 95) (by omega) dX6_wrong_95 ?_
        refine s_iorN (pc := 96) (by omega) (by omega) dX6_wrong_96 ?_
        refine s_iorN (pc := 97) (by omega) (Nat.or_lt_two_pow (n := 31) (by omega) (by omega)) dX6_wrong_97 ?_
        refine s_istore (pc := 98) (by decide) rfl dX6_wrong_98 ?_
        refine s_iload (pc := 100) rfl dX6_wrong_100 ?_
        refine s_iconst (pc := 102) (k_i1N) dX6_wrong_102 ?_
        refine s_iload (pc := 103) rfl dX6_wrong_103 ?_
        refine s_ishl1N (pc := 105) (by omega) dX6_wrong_105 ?_
        refine s_iorN (pc := 106) (by omega) (by omega) dX6_wrong_106 ?_
        refine s_istore (pc := 107) (by decide) rfl dX6_wrong_107 ?_
        refine s_iincN (pc := 109) rfl (by decide) rfl dX6_wrong_109 ?_
        refine s_goto (pc := 112) 30 dX6_wrong_112 (by decide) ?_
        have ih := ih_30 (by omega)
        simp only [wrP, wrS, nrs] at ih
        rw [if_neg c_77] at ih
        exact ih _ _
  · exfalso; exact absurd c_14 (by decide)

set_option maxRecDepth 20000 in
theorem c_X7_wrongB {s : Int32} {h : Hp} (hb : s < 0 ∨ nI 6 ≤ s) : CT 3 yX7_wrong cX7_wrong 9 (some .int) [.ref 50, .int s] h (some (.int (-1))) (h) := by
  refine CT.of (own := RX7) rfl (by decide) (ro_i _) [.ref 50, .int s, .null, .null, .null, .null, .null, .null, .null] rfl (Nat.le_of_ble_eq_true rfl) (fun E hp => ?_)
  refine s_iload_n (pc := 0) 1 rfl rfl dX7_wrong_0 ?_
  refine s_csi1 (pc := 1) (c_X7_isRowF hb) ml_X7_68 ms_X7_isRow (by decide) (Nat.le_of_ble_eq_true rfl) dX7_wrong_1 ?_
  refine s_if_neF (pc := 4) 9 dX7_wrong_4 (by decide) ?_
  refine s_iconst (pc := 7) (k_im1) dX7_wrong_7 ?_
  refine s_iret (pc := 8) dX7_wrong_8 (PostE.of hp ?_ ?_)
  · rfl
  · rfl

set_option maxRecDepth 20000 in
theorem c_X7_wrongE {q : Nat} {a : Nat → Nat} {h : Hp} (hA : RM a h) (hO : OkA a) (hk : q < 6) (h0 : a 0 = 0) : CT 3 yX7_wrong cX7_wrong 9 (some .int) [.ref 50, .int (nI q)] h (some (.int (-4))) (h) := by
  refine CT.of (own := RX7) rfl (by decide) (ro_i _) [.ref 50, .int (nI q), .null, .null, .null, .null, .null, .null, .null] rfl (Nat.le_of_ble_eq_true rfl) (fun E hp => ?_)
  refine s_iload_n (pc := 0) 1 rfl rfl dX7_wrong_0 ?_
  refine s_csi1 (pc := 1) (c_X7_isRowT hk) ml_X7_68 ms_X7_isRow (by decide) (Nat.le_of_ble_eq_true rfl) dX7_wrong_1 ?_
  refine s_if_neT (pc := 4) 9 dX7_wrong_4 (by decide) ?_
  refine s_aload_n (pc := 9) 0 rfl rfl dX7_wrong_9 ?_
  refine s_cvi0 (pc := 10) (c_X7_are hA hO.1.1) ml_X7_198 mw_X7_are rfl (by decide) (Nat.le_of_ble_eq_true rfl) dX7_wrong_10 ?_
  refine s_if_neB (pc := 13) 19 dX7_wrong_13 (by decide) (fun c_13 => ?_) (fun c_13 => ?_)
  · exfalso; omega
  · refine s_bipush (pc := 16) (k_bm4) dX7_wrong_16 ?_
    refine s_iret (pc := 18) dX7_wrong_18 (PostE.of hp ?_ ?_)
    · rfl
    · rfl

set_option maxRecDepth 20000 in
theorem c_X7_wrongM {q : Nat} {a : Nat → Nat} {h : Hp} (hA : RM a h) (hO : OkA a) (hk : q < 6) (h0 : 0 < a 0) (hz : h.1 51 q = -1) : CT 3 yX7_wrong cX7_wrong 9 (some .int) [.ref 50, .int (nI q)] h (some (.int (-3))) (finM h 1) := by
  refine CT.of (own := RX7) rfl (by decide) (ro_i _) [.ref 50, .int (nI q), .null, .null, .null, .null, .null, .null, .null] rfl (Nat.le_of_ble_eq_true rfl) (fun E hp => ?_)
  refine s_iload_n (pc := 0) 1 rfl rfl dX7_wrong_0 ?_
  refine s_csi1 (pc := 1) (c_X7_isRowT hk) ml_X7_68 ms_X7_isRow (by decide) (Nat.le_of_ble_eq_true rfl) dX7_wrong_1 ?_
  refine s_if_neT (pc := 4) 9 dX7_wrong_4 (by decide) ?_
  refine s_aload_n (pc := 9) 0 rfl rfl dX7_wrong_9 ?_
  refine s_cvi0 (pc := 10) (c_X7_are hA hO.1.1) ml_X7_198 mw_X7_are rfl (by decide) (Nat.le_of_ble_eq_true rfl) dX7_wrong_10 ?_
  refine s_if_neB (pc := 13) 19 dX7_wrong_13 (by decide) (fun c_13 => ?_) (fun c_13 => ?_)
  · refine s_aload_n (pc := 19) 0 rfl rfl dX7_wrong_19 ?_
    refine s_getr (pc := 20) (b := 51) fl_X7_7 rfl rfl rfl dX7_wrong_20 ?_
    refine s_iload_n (pc := 23) 1 rfl rfl dX7_wrong_23 ?_
    refine s_ialdE (pc := 24) (_) rfl rfl (by omega) hz dX7_wrong_24 ?_
    refine s_if_ge (pc := 25) 34 dX7_wrong_25 (by decide) (fun c_25 => ?_) (fun c_25 => ?_)
    · exfalso; exact absurd c_25 (by decide)
    · refine s_aload_n (pc := 28) 0 rfl rfl dX7_wrong_28 ?_
      refine s_iconst (pc := 29) (k_i1N) dX7_wrong_29 ?_
      refine s_cvi1 (pc := 30) (c_X7_finds (by decide)) ml_X7_72 mw_X7_finds rfl (by decide) (Nat.le_of_ble_eq_true rfl) dX7_wrong_30 ?_
      refine s_iret (pc := 33) dX7_wrong_33 (PostE.of hp ?_ ?_)
      · rfl
      · rfl
  · exfalso; omega

set_option maxRecDepth 20000 in
theorem c_X7_orderB {s : Int32} {h : Hp} (hb : s < 0 ∨ nI 6 ≤ s) : CT 3 yX7_order cX7_order 3 (some .int) [.ref 50, .int s] h (some (.int (-1))) (h) := by
  refine CT.of (own := RX7) rfl (by decide) (ro_i _) [.ref 50, .int s, .null] rfl (Nat.le_of_ble_eq_true rfl) (fun E hp => ?_)
  refine s_iload_n (pc := 0) 1 rfl rfl dX7_order_0 ?_
  refine s_csi1 (pc := 1) (c_X7_isRowF hb) ml_X7_68 ms_X7_isRow (by decide) (Nat.le_of_ble_eq_true rfl) dX7_order_1 ?_
  refine s_if_neF (pc := 4) 9 dX7_order_4 (by decide) ?_
  refine s_iconst (pc := 7) (k_im1) dX7_order_7 ?_
  refine s_iret (pc := 8) dX7_order_8 (PostE.of hp ?_ ?_)
  · rfl
  · rfl

set_option maxRecDepth 20000 in
theorem c_X7_orderE {q : Nat} {a : Nat → Nat} {h : Hp} (hA : RM a h) (hO : OkA a) (hk : q < 6) (h0 : a 0 = 0) : CT 3 yX7_order cX7_order 3 (some .int) [.ref 50, .int (nI q)] h (some (.int (-4))) (h) := by
  refine CT.of (own := RX7) rfl (by decide) (ro_i _) [.ref 50, .int (nI q), .null] rfl (Nat.le_of_ble_eq_true rfl) (fun E hp => ?_)
  refine s_iload_n (pc := 0) 1 rfl rfl dX7_order_0 ?_
  refine s_csi1 (pc := 1) (c_X7_isRowT hk) ml_X7_68 ms_X7_isRow (by decide) (Nat.le_of_ble_eq_true rfl) dX7_order_1 ?_
  refine s_if_neT (pc := 4) 9 dX7_order_4 (by decide) ?_
  refine s_aload_n (pc := 9) 0 rfl rfl dX7_order_9 ?_
  refine s_cvi0 (pc := 10) (c_X7_are hA hO.1.1) ml_X7_198 mw_X7_are rfl (by decide) (Nat.le_of_ble_eq_true rfl) dX7_order_10 ?_
  refine s_if_neB (pc := 13) 19 dX7_order_13 (by decide) (fun c_13 => ?_) (fun c_13 => ?_)
  · exfalso; omega
  · refine s_bipush (pc := 16) (k_bm4) dX7_order_16 ?_
    refine s_iret (pc := 18) dX7_order_18 (PostE.of hp ?_ ?_)
    · rfl
    · rfl

set_option maxRecDepth 20000 in
theorem c_X7_orderM {q : Nat} {a : Nat → Nat} {h : Hp} (hA : RM a h) (hO : OkA a) (hk : q < 6) (h0 : 0 < a 0) (hz : h.1 51 q = -1) : CT 3 yX7_order cX7_order 3 (some .int) [.ref 50, .int (nI q)] h (some (.int (-3))) (finM h 1) := by
  refine CT.of (own := RX7) rfl (by decide) (ro_i _) [.ref 50, .int (nI q), .null] rfl (Nat.le_of_ble_eq_true rfl) (fun E hp => ?_)
  refine s_iload_n (pc := 0) 1 rfl rfl dX7_order_0 ?_
  refine s_csi1 (pc := 1) (c_X7_isRowT hk) ml_X7_68 ms_X7_isRow (by decide) (Nat.le_of_ble_eq_true rfl) dX7_order_1 ?_
  refine s_if_neT (pc := 4) 9 dX7_order_4 (by decide) ?_
  refine s_aload_n (pc := 9) 0 rfl rfl dX7_order_9 ?_
  refine s_cvi0 (pc := 10) (c_X7_are hA hO.1.1) ml_X7_198 mw_X7_are rfl (by decide) (Nat.le_of_ble_eq_true rfl) dX7_order_10 ?_
  refine s_if_neB (pc := 13) 19 dX7_order_13 (by decide) (fun c_13 => ?_) (fun c_13 => ?_)
  · refine s_aload_n (pc := 19) 0 rfl rfl dX7_order_19 ?_
    refine s_getr (pc := 20) (b := 51) fl_X7_7 rfl rfl rfl dX7_order_20 ?_
    refine s_iload_n (pc := 23) 1 rfl rfl dX7_order_23 ?_
    refine s_ialdE (pc := 24) (_) rfl rfl (by omega) hz dX7_order_24 ?_
    refine s_if_ge (pc := 25) 34 dX7_order_25 (by decide) (fun c_25 => ?_) (fun c_25 => ?_)
    · exfalso; exact absurd c_25 (by decide)
    · refine s_aload_n (pc := 28) 0 rfl rfl dX7_order_28 ?_
      refine s_iconst (pc := 29) (k_i1N) dX7_order_29 ?_
      refine s_cvi1 (pc := 30) (c_X7_finds (by decide)) ml_X7_72 mw_X7_finds rfl (by decide) (Nat.le_of_ble_eq_true rfl) dX7_order_30 ?_
      refine s_iret (pc := 33) dX7_order_33 (PostE.of hp ?_ ?_)
      · rfl
      · rfl
  · exfalso; omega

set_option maxRecDepth 20000 in
theorem c_X7_wrongU {q m : Nat} {a : Nat → Nat} {h : Hp} (hA : RM a h) (hO : OkA a) (h0 : 0 < a 0) (hk : q < 6) (hz : h.1 51 q = nI m) (hz6 : m ≤ 40) {f : Nat → Int32} (hf : ∀ j, j < 40 → h.1 52 (40 * q + j) = f j) (hu : ¬ (onc (a 0) (a 5) f m).1 = true) : CT 4 yX7_wrong cX7_wrong 9 (some .int) [.ref 50, .int (nI q)] h (some (.int (-3))) (finM h 3) := by
  obtain ⟨⟨o0, o1, o2, o3, o4, o5, o6⟩, os⟩ := id hO
  have o64 := hO.in64
  refine CT.of (own := RX7) rfl (by decide) (ro_i _) [.ref 50, .int (nI q), .null, .null, .null, .null, .null, .null, .null] rfl (Nat.le_of_ble_eq_true rfl) (fun E hp => ?_)
  refine s_iload_n (pc := 0) 1 rfl rfl dX7_wrong_0 ?_
  refine s_csi1 (pc := 1) (c_X7_isRowT hk) ml_X7_68 ms_X7_isRow (by decide) (Nat.le_of_ble_eq_true rfl) dX7_wrong_1 ?_
  refine s_if_neT (pc := 4) 9 dX7_wrong_4 (by decide) ?_
  refine s_aload_n (pc := 9) 0 rfl rfl dX7_wrong_9 ?_
  refine s_cvi0 (pc := 10) (c_X7_are hA hO.1.1) ml_X7_198 mw_X7_are rfl (by decide) (Nat.le_of_ble_eq_true rfl) dX7_wrong_10 ?_
  refine s_if_neB (pc := 13) 19 dX7_wrong_13 (by decide) (fun c_13 => ?_) (fun c_13 => ?_)
  · refine s_aload_n (pc := 19) 0 rfl rfl dX7_wrong_19 ?_
    refine s_getr (pc := 20) (b := 51) fl_X7_7 rfl rfl rfl dX7_wrong_20 ?_
    refine s_iload_n (pc := 23) 1 rfl rfl dX7_wrong_23 ?_
    refine s_ialdN (pc := 24) (_) rfl rfl (by omega) hz dX7_wrong_24 ?_
    refine s_if_geN (pc := 25) (by omega) 34 dX7_wrong_25 (by decide) ?_
    refine s_aload_n (pc := 34) 0 rfl rfl dX7_wrong_34 ?_
    refine s_iload_n (pc := 35) 1 rfl rfl dX7_wrong_35 ?_
    refine s_aload_n (pc := 36) 0 rfl rfl dX7_wrong_36 ?_
    refine s_getr (pc := 37) (b := 56) fl_X7_25 rfl rfl rfl dX7_wrong_37 ?_
    refine s_iconst (pc := 40) (k_i5N) dX7_wrong_40 ?_
    refine s_ialdN (pc := 41) (_) rfl rfl (by omega) (hA _ (by omega)) dX7_wrong_41 ?_
    refine s_cvi2 (pc := 42) (c_X7_areOnce hA hO hk hz hz6 hf o64) ml_X7_226 mw_X7_areOnce rfl (by decide) (Nat.le_of_ble_eq_true rfl) dX7_wrong_42 ?_
    refine s_if_neB (pc := 45) 54 dX7_wrong_45 (by decide) (fun c_45 => ?_) (fun c_45 => ?_)
    · exfalso; exact hu c_45
    · refine s_aload_n (pc := 48) 0 rfl rfl dX7_wrong_48 ?_
      refine s_iconst (pc := 49) (k_i3N) dX7_wrong_49 ?_
      refine s_cvi1 (pc := 50) (c_X7_finds (by decide)) ml_X7_72 mw_X7_finds rfl (by decide) (Nat.le_of_ble_eq_true rfl) dX7_wrong_50 ?_
      refine s_iret (pc := 53) dX7_wrong_53 (PostE.of hp ?_ ?_)
      · rfl
      · rfl
  · exfalso; omega

set_option maxRecDepth 20000 in
theorem c_X7_wrongO {q m : Nat} {a : Nat → Nat} {h : Hp} (hA : RM a h) (hO : OkA a) (h0 : 0 < a 0) (hk : q < 6) (hz : h.1 51 q = nI m) (hz6 : m ≤ 40) {f : Nat → Int32} (hf : ∀ j, j < 40 → h.1 52 (40 * q + j) = f j) (hu : (onc (a 0) (a 5) f m).1 = true) : CT 5 yX7_wrong cX7_wrong 9 (some .int) [.ref 50, .int (nI q)] h (some (.int (nI (wrP a (yN f) m)))) (ui h 50 11 (nI (wrS a (yN f) m))) := by
  obtain ⟨⟨o0, o1, o2, o3, o4, o5, o6⟩, os⟩ := id hO
  have o64 := hO.in64
  have al := fun (b : Nat) (hb : b < m) => onc_all o0 o64 hu hb
  refine CT.of (own := RX7) rfl (by decide) (ro_i _) [.ref 50, .int (nI q), .null, .null, .null, .null, .null, .null, .null] rfl (Nat.le_of_ble_eq_true rfl) (fun E hp => ?_)
  refine s_iload_n (pc := 0) 1 rfl rfl dX7_wrong_0 ?_
  refine s_csi1 (pc := 1) (c_X7_isRowT hk) ml_X7_68 ms_X7_isRow (by decide) (Nat.le_of_ble_eq_true rfl) dX7_wrong_1 ?_
  refine s_if_neT (pc := 4) 9 dX7_wrong_4 (by decide) ?_
  refine s_aload_n (pc := 9) 0 rfl rfl dX7_wrong_9 ?_
  refine s_cvi0 (pc := 10) (c_X7_are hA hO.1.1) ml_X7_198 mw_X7_are rfl (by decide) (Nat.le_of_ble_eq_true rfl) dX7_wrong_10 ?_
  refine s_if_neB (pc := 13) 19 dX7_wrong_13 (by decide) (fun c_13 => ?_) (fun c_13 => ?_)
  · refine s_aload_n (pc := 19) 0 rfl rfl dX7_wrong_19 ?_
    refine s_getr (pc := 20) (b := 51) fl_X7_7 rfl rfl rfl dX7_wrong_20 ?_
    refine s_iload_n (pc := 23) 1 rfl rfl dX7_wrong_23 ?_
    refine s_ialdN (pc := 24) (_) rfl rfl (by omega) hz dX7_wrong_24 ?_
    refine s_if_geN (pc := 25) (by omega) 34 dX7_wrong_25 (by decide) ?_
    refine s_aload_n (pc := 34) 0 rfl rfl dX7_wrong_34 ?_
    refine s_iload_n (pc := 35) 1 rfl rfl dX7_wrong_35 ?_
    refine s_aload_n (pc := 36) 0 rfl rfl dX7_wrong_36 ?_
    refine s_getr (pc := 37) (b := 56) fl_X7_25 rfl rfl rfl dX7_wrong_37 ?_
    refine s_iconst (pc := 40) (k_i5N) dX7_wrong_40 ?_
    refine s_ialdN (pc := 41) (_) rfl rfl (by omega) (hA _ (by omega)) dX7_wrong_41 ?_
    refine s_cvi2 (pc := 42) (c_X7_areOnce hA hO hk hz hz6 hf o64) ml_X7_226 mw_X7_areOnce rfl (by decide) (Nat.le_of_ble_eq_true rfl) dX7_wrong_42 ?_
    refine s_if_neB (pc := 45) 54 dX7_wrong_45 (by decide) (fun c_45 => ?_) (fun c_45 => ?_)
    · refine s_iconst (pc := 54) (k_i0N) dX7_wrong_54 ?_
      refine s_istore_n (pc := 55) 2 rfl (by decide) rfl dX7_wrong_55 ?_
      refine s_iconst (pc := 56) (k_i0N) dX7_wrong_56 ?_
      refine s_istore_n (pc := 57) 3 rfl (by decide) rfl dX7_wrong_57 ?_
      refine s_iconst (pc := 58) (k_i0N) dX7_wrong_58 ?_
      refine s_istore (pc := 59) (by decide) rfl dX7_wrong_59 ?_
      suffices lp_61 : ∀ t, t ≤ m → ∀ S, S < 64 → (∀ x, S.testBit x = true ↔ WQ a (yN f) (fun x1 x2 => x2 < m ∧ (x1 < t ∨ (x1 = t ∧ x2 < 0))) x) → ∀ z1 z2 z3 z4, WW E cX7_wrong RX7 9 _ 61 [.ref 50, .int (nI q), .int (nI (sumU t (fun p => sumU m (cI a (yN f) p)))), .int (nI S), .int (nI t), z1, z2, z3, z4] (h) [] from lp_61 0 (by omega) 0 (by decide) (fun x => ⟨fun z => absurd z (by rw [Nat.zero_testBit]; exact Bool.false_ne_true), fun ⟨p, b, h1, h2⟩ => by omega⟩) _ _ _ _
      refine lpi m (fun t hk_t ih_61 => ?_)
      intro S sl hS z1 z2 z3 z4
      refine s_iload (pc := 61) rfl dX7_wrong_61 ?_
      refine s_aload_n (pc := 63) 0 rfl rfl dX7_wrong_63 ?_
      refine s_getr (pc := 64) (b := 51) fl_X7_7 rfl rfl rfl dX7_wrong_64 ?_
      refine s_iload_n (pc := 67) 1 rfl rfl dX7_wrong_67 ?_
      refine s_ialdN (pc := 68) (_) rfl rfl (by omega) hz dX7_wrong_68 ?_
      refine s_icmp_geN (pc := 69) (by omega) (by omega) 173 dX7_wrong_69 (by decide) (fun c_69 => ?_) (fun c_69 => ?_)
      · obtain rfl : t = m := by omega
        rw [wrP_eq o0 (fun p hp => (al p hp).2.1) (fun p b h1 h2 => (al b h2).2.2.2.1 p h1)]
        obtain rfl : S = wrS a (yN f) t := Nat.eq_of_testBit_eq (fun x => Bool.eq_iff_iff.mpr ((hS x).trans (Iff.trans ⟨fun ⟨p, b, h1, h2⟩ => ⟨p, b, h1.1, h2⟩, fun ⟨p, b, h1, h2, h3⟩ => ⟨p, b, ⟨h1, by omega⟩, h2, h3⟩⟩ (wrS_tb (fun p hp => (al p hp).2.1) (fun p b h1 h2 => (al b h2).2.2.2.1 p h1) x).symm)))
        refine s_aload_n (pc := 173) 0 rfl rfl dX7_wrong_173 ?_
        refine s_iload_n (pc := 174) 2 rfl rfl dX7_wrong_174 ?_
        refine s_iload_n (pc := 175) 3 rfl rfl dX7_wrong_175 ?_
        refine s_cvi2 (pc := 176) (c_X7_tells) ml_X7_84 mw_X7_tells rfl (by decide) (Nat.le_of_ble_eq_true rfl) dX7_wrong_176 ?_
        refine s_iret (pc := 179) dX7_wrong_179 (PostE.of hp ?_ ?_)
        · rfl
        · rfl
      · refine s_iload (pc := 72) rfl dX7_wrong_72 ?_
        refine s_iconst (pc := 74) (k_i1N) dX7_wrong_74 ?_
        refine s_iaddN (pc := 75) dX7_wrong_75 ?_
        refine s_istore (pc := 76) (by decide) rfl dX7_wrong_76 ?_
        suffices lp_78 : ∀ b, b ≤ m → ∀ S, S < 64 → t + 1 ≤ b → (∀ x, S.testBit x = true ↔ WQ a (yN f) (fun x1 x2 => x2 < m ∧ (x1 < t ∨ (x1 = t ∧ x2 < b))) x) → ∀ z2 z3 z4, WW E cX7_wrong RX7 9 _ 78 [.ref 50, .int (nI q), .int (nI (sumU t (fun p => sumU m (cI a (yN f) p)) + sumU b (cI a (yN f) t))), .int (nI S), .int (nI t), .int (nI b), z2, z3, z4] (h) [] from by
          have lp := lp_78 (t + 1) (by omega) S sl (Nat.le_refl _) (fun x => (hS x).trans ⟨fun ⟨p, b, h1, h2⟩ => ⟨p, b, by omega, h2⟩, fun ⟨p, b, h1, h2⟩ => ⟨p, b, by omega, h2⟩⟩) z2 z3 z4
          rw [sumU_0 (n := t + 1) (f := cI a (yN f) t) (fun j hj => by unfold cI; rw [if_neg (by omega)]), Nat.add_zero] at lp
          exact lp
        clear hS sl S
        refine lpi m (fun b hk_b ih_78 => ?_)
        intro S sl htb hS z2 z3 z4
        refine s_iload (pc := 78) rfl dX7_wrong_78 ?_
        refine s_aload_n (pc := 80) 0 rfl rfl dX7_wrong_80 ?_
        refine s_getr (pc := 81) (b := 51) fl_X7_7 rfl rfl rfl dX7_wrong_81 ?_
        refine s_iload_n (pc := 84) 1 rfl rfl dX7_wrong_84 ?_
        refine s_ialdN (pc := 85) (_) rfl rfl (by omega) hz dX7_wrong_85 ?_
        refine s_icmp_geN (pc := 86) (by omega) (by omega) 167 dX7_wrong_86 (by decide) (fun c_86 => ?_) (fun c_86 => ?_)
        · refine s_iincN (pc := 167) rfl (by decide) rfl dX7_wrong_167 ?_
          refine s_goto (pc := 170) 61 dX7_wrong_170 (by decide) ?_
          obtain rfl : b = m := by omega
          refine ih_61 (by omega) S sl (fun x => (hS x).trans ⟨?_, ?_⟩) _ _ _ _
          · rintro ⟨p, b, h1, h2⟩
            exact ⟨p, b, by omega, h2⟩
          · rintro ⟨p, b, h1, h2⟩
            exact ⟨p, b, ⟨h1.1, h1.2.elim (fun z => (Nat.lt_or_eq_of_le (Nat.le_of_lt_succ z)).imp id (fun e => ⟨e, h1.1⟩)) (fun z => absurd z.2 (Nat.not_lt_zero _))⟩, h2⟩
        · have al1 := al t (by omega)
          have al2 := al b (by omega)
          have pl1 : 2 ^ yN f t < 64 := Nat.pow_lt_pow_right (n := 6) (by decide) (by omega)
          have pl2 : 2 ^ yN f b < 64 := Nat.pow_lt_pow_right (n := 6) (by decide) (by omega)
          refine s_aload_n (pc := 89) 0 rfl rfl dX7_wrong_89 ?_
          refine s_getr (pc := 90) (b := 52) fl_X7_13 rfl rfl rfl dX7_wrong_90 ?_
          refine s_bipush (pc := 93) (k_b40N) dX7_wrong_93 ?_
          refine s_iload_n (pc := 95) 1 rfl rfl dX7_wrong_95 ?_
          refine s_imulN (pc := 96) dX7_wrong_96 ?_
          refine s_iload (pc := 97) rfl dX7_wrong_97 ?_
          refine s_iaddN (pc := 99) dX7_wrong_99 ?_
          refine s_ialdN (pc := 100) (_) rfl rfl (by omega) ((hf _ (by omega)).trans al1.1) dX7_wrong_100 ?_
          refine s_istore (pc := 101) (by decide) rfl dX7_wrong_101 ?_
          refine s_aload_n (pc := 103) 0 rfl rfl dX7_wrong_103 ?_
          refine s_getr (pc := 104) (b := 52) fl_X7_13 rfl rfl rfl dX7_wrong_104 ?_
          refine s_bipush (pc := 107) (k_b40N) dX7_wrong_107 ?_
          refine s_iload_n (pc := 109) 1 rfl rfl dX7_wrong_109 ?_
          refine s_imulN (pc := 110) dX7_wrong_110 ?_
          refine s_iload (pc := 111) rfl dX7_wrong_111 ?_
          refine s_iaddN (pc := 113) dX7_wrong_113 ?_
          refine s_ialdN (pc := 114) (_) rfl rfl (by omega) ((hf _ (by omega)).trans al2.1) dX7_wrong_114 ?_
          refine s_istore (pc := 115) (by decide) rfl dX7_wrong_115 ?_
          refine s_aload_n (pc := 117) 0 rfl rfl dX7_wrong_117 ?_
          refine s_iload (pc := 118) rfl dX7_wrong_118 ?_
          refine s_iload (pc := 120) rfl dX7_wrong_120 ?_
          refine s_cvi2 (pc := 122) (c_X7_isAhead hA hO (by omega) (by omega)) ml_X7_165 mw_X7_isAhead rfl (by decide) (Nat.le_of_ble_eq_true rfl) dX7_wrong_122 ?_
          refine s_istore (pc := 125) (by decide) rfl dX7_wrong_125 ?_
          refine s_iload_n (pc := 127) 2 rfl rfl dX7_wrong_127 ?_
          refine s_iload (pc := 128) rfl dX7_wrong_128 ?_
          refine s_if_eqB (pc := 130) 137 dX7_wrong_130 (by decide) (fun c_130 => ?_) (fun c_130 => ?_)
          · refine s_iconst (pc := 137) (k_i0N) dX7_wrong_137 ?_
            refine s_iaddN (pc := 138) dX7_wrong_138 ?_
            refine s_istore_n (pc := 139) 2 rfl (by decide) rfl dX7_wrong_139 ?_
            refine s_iload_n (pc := 140) 3 rfl rfl dX7_wrong_140 ?_
            refine s_iload (pc := 141) rfl dX7_wrong_141 ?_
            refine s_if_eqB (pc := 143) 158 dX7_wrong_143 (by decide) (fun c_143 => ?_) (fun c_143 => ?_)
            · refine s_iconst (pc := 158) (k_i0N) dX7_wrong_158 ?_
              refine s_iorN (pc := 159) (by omega) (by first | omega | exact Nat.or_lt_two_pow (n := 31) (by omega) (by omega)) dX7_wrong_159 ?_
              refine s_istore_n (pc := 160) 3 rfl (by decide) rfl dX7_wrong_160 ?_
              refine s_iincN (pc := 161) rfl (by decide) rfl dX7_wrong_161 ?_
              refine s_goto (pc := 164) 78 dX7_wrong_164 (by decide) ?_
              have hS2 : ∀ x, (S ||| 0).testBit x = true ↔ WQ a (yN f) (fun x1 x2 => x2 < m ∧ (x1 < t ∨ (x1 = t ∧ x2 < b + 1))) x := fun x => by
                rw [Nat.or_zero, hS]
                constructor
                · rintro ⟨p, b, h1, h2⟩
                  exact ⟨p, b, by omega, h2⟩
                · rintro ⟨p, b2, h1, h2, h3, h4⟩
                  by_cases e : p = t ∧ b2 = b
                  · obtain ⟨rfl, rfl⟩ := e
                    exact absurd h3 c_130
                  · exact ⟨p, b2, by omega, h2, h3, h4⟩
              have ih := ih_78 (by omega) (S ||| 0) (by rw [Nat.or_zero]; exact sl) (by omega) hS2
              rw [show sumU (b + 1) (cI a (yN f) t) = sumU b (cI a (yN f) t) + 0 from congrArg (sumU b (cI a (yN f) t) + ·) (if_neg (fun z => c_130 z.2)), ← Nat.add_assoc] at ih
              exact ih _ _ _
            · exfalso; exact c_130 c_143
          · refine s_iconst (pc := 133) (k_i1N) dX7_wrong_133 ?_
            refine s_goto (pc := 134) 138 dX7_wrong_134 (by decide) ?_
            refine s_iaddN (pc := 138) dX7_wrong_138 ?_
            refine s_istore_n (pc := 139) 2 rfl (by decide) rfl dX7_wrong_139 ?_
            refine s_iload_n (pc := 140) 3 rfl rfl dX7_wrong_140 ?_
            refine s_iload (pc := 141) rfl dX7_wrong_141 ?_
            refine s_if_eqB (pc := 143) 158 dX7_wrong_143 (by decide) (fun c_143 => ?_) (fun c_143 => ?_)
            · exfalso; exact c_143 c_130
            · refine s_iconst (pc := 146) (k_i1N) dX7_wrong_146 ?_
              refine s_iload (pc := 147) rfl dX7_wrong_147 ?_
              refine s_ishl1N (pc := 149) (by omega) dX7_wrong_149 ?_
              refine s_iconst (pc := 150) (k_i1N) dX7_wrong_150 ?_
              refine s_iload (pc := 151) rfl dX7_wrong_151 ?_
              refine s_ishl1N (pc := 153) (by omega) dX7_wrong_153 ?_
              refine s_iorN (pc := 154) (by omega) (by omega) dX7_wrong_154 ?_
              refine s_goto (pc := 155) 159 dX7_wrong_155 (by decide) ?_
              refine s_iorN (pc := 159) (by omega) (by first | omega | exact Nat.or_lt_two_pow (n := 31) (by omega) (by omega)) dX7_wrong_159 ?_
              refine s_istore_n (pc := 160) 3 rfl (by decide) rfl dX7_wrong_160 ?_
              refine s_iincN (pc := 161) rfl (by decide) rfl dX7_wrong_161 ?_
              refine s_goto (pc := 164) 78 dX7_wrong_164 (by decide) ?_
              have hS2 : ∀ x, (S ||| (2 ^ yN f t ||| 2 ^ yN f b)).testBit x = true ↔ WQ a (yN f) (fun x1 x2 => x2 < m ∧ (x1 < t ∨ (x1 = t ∧ x2 < b + 1))) x := fun x => by
                rw [Nat.testBit_or, Nat.testBit_or, Bool.or_eq_true, Bool.or_eq_true, Nat.testBit_two_pow, Nat.testBit_two_pow, decide_eq_true_eq, decide_eq_true_eq, hS]
                constructor
                · rintro (⟨p, b, h1, h2⟩ | e | e)
                  · exact ⟨p, b, by omega, h2⟩
                  · exact ⟨t, b, by omega, by omega, c_130, Or.inl e.symm⟩
                  · exact ⟨t, b, by omega, by omega, c_130, Or.inr e.symm⟩
                · rintro ⟨p, b2, h1, h2, h3, h4⟩
                  by_cases e : p = t ∧ b2 = b
                  · obtain ⟨rfl, rfl⟩ := e
                    exact Or.inr (h4.imp Eq.symm Eq.symm)
                  · exact Or.inl ⟨p, b2, by omega, h2, h3, h4⟩
              have ih := ih_78 (by omega) (S ||| (2 ^ yN f t ||| 2 ^ yN f b)) (Nat.or_lt_two_pow (n := 6) sl (Nat.or_lt_two_pow (n := 6) pl1 pl2)) (by omega) hS2
              rw [show sumU (b + 1) (cI a (yN f) t) = sumU b (cI a (yN f) t) + 1 from congrArg (sumU b (cI a (yN f) t) + ·) (if_pos ⟨by omega, c_130⟩), ← Nat.add_assoc] at ih
              exact ih _ _ _
    · exfalso; exact c_45 hu
  · exfalso; omega
