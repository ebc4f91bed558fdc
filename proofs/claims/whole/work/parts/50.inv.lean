/-! ### both objects, side by side -/
def IR (h : Hp) : Prop := (h.1 1 0 = nI 6 ∧ h.1 1 1 = nI 40) ∧ ∀ k, k < 6 → h.1 51 k = h.1 2 k ∧ (∃ n, n ≤ 40 ∧ (h.1 2 k = nI n ∨ (h.1 2 k = -1 ∧ n = 0))) ∧ ∀ j, j < 40 → h.1 52 (40 * k + j) = h.1 (3 + 1 + k) j
def IT (h : Hp) : Prop := (h.1 10 0 = nI 4 ∧ h.1 10 1 = nI 60) ∧ ∀ k, k < 4 → h.1 54 k = h.1 11 k ∧ (∃ n, n ≤ 60 ∧ (h.1 11 k = nI n ∨ (h.1 11 k = -1 ∧ n = 0))) ∧ ∀ j, j < 60 → h.1 55 (60 * k + j) = h.1 (12 + 1 + k) j
def IH (a b ds : Nat → Nat) (h : Hp) : Prop := (RM a h ∧ RC a h ∧ RB b h ∧ h.1 23 6 = nI (a 3) ∧ ∀ j, j < a 3 → h.1 32 j = nI (ds j)) ∧ OkB a ∧ OkB b ∧ Base b ∧ Hst a b ds
def IK1 (b : Nat → Nat) (h : Hp) (k : Nat) : Prop := (h.1 59 k = nI 0 ∧ h.1 18 k = -1) ∨ (h.1 59 k = nI 1 ∧ ∃ c es : Nat → Nat, OkB c ∧ Hst c b es ∧ h.1 18 k = nI (c 3) ∧ (∀ j, j < 215 → h.1 58 (215 * k + j) = nI (c j)) ∧ ∀ j, j < c 3 → h.1 (19 + 1 + k) j = nI (es j))
def IK (b : Nat → Nat) (h : Hp) : Prop := (h.1 17 0 = nI 3 ∧ h.1 17 1 = nI 40) ∧ ∀ k, k < 3 → IK1 b h k
def IFn (h : Hp) : Prop := h.1 0 9 = h.1 50 10 ∧ ∀ f, f < 6 → h.1 49 f = h.1 60 f
def IL (h : Hp) : Prop := h.1 0 10 = h.1 50 11
def IU (h : Hp) : Prop := h.2 47 1 = h.2 50 12 ∧ h.2 47 2 = h.2 50 13
def Inv (h : Hp) : Prop := (∃ a b ds : Nat → Nat, IH a b ds h ∧ IK b h) ∧ IR h ∧ IT h ∧ IFn h ∧ IL h ∧ IU h
theorem IR.cg {h g : Hp} (i : IR h) (e : ∀ x y, (1 ≤ x ∧ x ≤ 9) ∨ x = 51 ∨ x = 52 → g.1 x y = h.1 x y) : IR g := by
  obtain ⟨⟨i1, i2⟩, i3⟩ := i
  refine ⟨⟨by rw [e 1 0 (by omega)]; exact i1, by rw [e 1 1 (by omega)]; exact i2⟩, fun k hk => ?_⟩
  obtain ⟨j1, j2, j3⟩ := i3 k hk
  refine ⟨by rw [e 51 k (by omega), e 2 k (by omega)]; exact j1, by rw [e 2 k (by omega)]; exact j2, fun j hj => by rw [e 52 _ (by omega), e (3 + 1 + k) j (by omega)]; exact j3 j hj⟩
theorem IT.cg {h g : Hp} (i : IT h) (e : ∀ x y, (10 ≤ x ∧ x ≤ 16) ∨ x = 54 ∨ x = 55 → g.1 x y = h.1 x y) : IT g := by
  obtain ⟨⟨i1, i2⟩, i3⟩ := i
  refine ⟨⟨by rw [e 10 0 (by omega)]; exact i1, by rw [e 10 1 (by omega)]; exact i2⟩, fun k hk => ?_⟩
  obtain ⟨j1, j2, j3⟩ := i3 k hk
  refine ⟨by rw [e 54 k (by omega), e 11 k (by omega)]; exact j1, by rw [e 11 k (by omega)]; exact j2, fun j hj => by rw [e 55 _ (by omega), e (12 + 1 + k) j (by omega)]; exact j3 j hj⟩
theorem RB.cg {b : Nat → Nat} {h g : Hp} (i : RB b h) (e : ∀ x y, 24 ≤ x ∧ x ≤ 29 → g.1 x y = h.1 x y) : RB b g := by
  obtain ⟨i1, i2, i3, i4⟩ := i
  refine ⟨by rw [e 24 5 (by omega)]; exact i1, by rw [e 24 6 (by omega)]; exact i2, by rw [e 24 7 (by omega)]; exact i3, fun i hi => ?_⟩
  obtain ⟨j1, j2, j3, j4, j5⟩ := i4 i hi
  exact ⟨by rw [e 25 i (by omega)]; exact j1, by rw [e 26 i (by omega)]; exact j2, by rw [e 27 i (by omega)]; exact j3, by rw [e 28 i (by omega)]; exact j4, by rw [e 29 i (by omega)]; exact j5⟩
theorem IH.cg {a b ds : Nat → Nat} {h g : Hp} (i : IH a b ds h) (e : ∀ x y, (23 ≤ x ∧ x ≤ 34) ∨ x = 56 → g.1 x y = h.1 x y) : IH a b ds g := by
  obtain ⟨⟨i1, i2, i3, i4, i5⟩, r⟩ := i
  refine ⟨⟨fun j hj => by rw [e 56 j (by omega)]; exact i1 j hj, i2.to (fun x y q => e x y (Or.inl ⟨q.1, q.2.1⟩)), i3.cg (fun x y q => e x y (by omega)), by rw [e 23 6 (by omega)]; exact i4, fun j hj => by rw [e 32 j (by omega)]; exact i5 j hj⟩, r⟩
theorem IK1.cg {b : Nat → Nat} {h g : Hp} {k : Nat} (i : IK1 b h k) (e18 : g.1 18 k = h.1 18 k) (e59 : g.1 59 k = h.1 59 k) (e58 : ∀ j, j < 215 → g.1 58 (215 * k + j) = h.1 58 (215 * k + j)) (e20 : ∀ j, g.1 (19 + 1 + k) j = h.1 (19 + 1 + k) j) : IK1 b g k := by
  rcases i with ⟨j1, j2⟩ | ⟨j1, c, es, j2, j3, j4, j5, j6⟩
  · exact Or.inl ⟨by rw [e59]; exact j1, by rw [e18]; exact j2⟩
  · exact Or.inr ⟨by rw [e59]; exact j1, c, es, j2, j3, by rw [e18]; exact j4, fun j hj => by rw [e58 j hj]; exact j5 j hj, fun j hj => by rw [e20 j]; exact j6 j hj⟩
theorem IK.cg {b : Nat → Nat} {h g : Hp} (i : IK b h) (e : ∀ x y, (17 ≤ x ∧ x ≤ 22) ∨ x = 58 ∨ x = 59 → g.1 x y = h.1 x y) : IK b g := by
  obtain ⟨⟨i1, i2⟩, i3⟩ := i
  exact ⟨⟨by rw [e 17 0 (by omega)]; exact i1, by rw [e 17 1 (by omega)]; exact i2⟩, fun k hk => (i3 k hk).cg (e _ _ (by omega)) (e _ _ (by omega)) (fun j _ => e _ _ (by omega)) (fun j => e _ _ (by omega))⟩
theorem IFn.cg {h g : Hp} (i : IFn h) (e : ∀ x y, (x = 0 ∧ y = 9) ∨ (x = 50 ∧ y = 10) ∨ x = 49 ∨ x = 60 → g.1 x y = h.1 x y) : IFn g :=
  ⟨by rw [e 0 9 (by omega), e 50 10 (by omega)]; exact i.1, fun f hf => by rw [e 49 f (by omega), e 60 f (by omega)]; exact i.2 f hf⟩
theorem IL.cg {h g : Hp} (i : IL h) (e : ∀ x y, (x = 0 ∧ y = 10) ∨ (x = 50 ∧ y = 11) → g.1 x y = h.1 x y) : IL g := by
  unfold IL; rw [e 0 10 (by omega), e 50 11 (by omega)]; exact i
theorem IU.cg {h g : Hp} (i : IU h) (e : g.2 = h.2) : IU g := by unfold IU; rw [e]; exact i
/-- only scratch places differ -/
theorem Inv.cg {h g : Hp} (i : Inv h) (e2 : g.2 = h.2) (e : ∀ x y, (x ≤ 34 ∨ x = 49 ∨ (x = 50 ∧ (y = 10 ∨ y = 11)) ∨ x = 51 ∨ x = 52 ∨ (54 ≤ x ∧ x ≤ 56) ∨ (58 ≤ x ∧ x ≤ 60)) → g.1 x y = h.1 x y) : Inv g := by
  obtain ⟨⟨a, b, ds, hH, hK⟩, hR, hT, hF, hL, hU⟩ := i
  exact ⟨⟨a, b, ds, hH.cg (fun x y q => e x y (by omega)), hK.cg (fun x y q => e x y (by omega))⟩, hR.cg (fun x y q => e x y (by omega)), hT.cg (fun x y q => e x y (by omega)), hF.cg (fun x y q => e x y (by omega)), hL.cg (fun x y q => e x y (by omega)), hU.cg e2⟩
/-- and what is told -/
theorem Inv.cgL {h g : Hp} (i : Inv h) (e2 : g.2 = h.2) (e : ∀ x y, ((x = 0 ∧ y ≠ 10) ∨ (1 ≤ x ∧ x ≤ 34) ∨ x = 49 ∨ (x = 50 ∧ y = 10) ∨ x = 51 ∨ x = 52 ∨ (54 ≤ x ∧ x ≤ 56) ∨ (58 ≤ x ∧ x ≤ 60)) → g.1 x y = h.1 x y) (hL : IL g) : Inv g := by
  obtain ⟨⟨a, b, ds, hH, hK⟩, hR, hT, hF, -, hU⟩ := i
  exact ⟨⟨a, b, ds, hH.cg (fun x y q => e x y (by omega)), hK.cg (fun x y q => e x y (by omega))⟩, hR.cg (fun x y q => e x y (by omega)), hT.cg (fun x y q => e x y (by omega)), hF.cg (fun x y q => e x y (by omega)), hL, hU.cg e2⟩
/-- and rows -/
theorem Inv.cgRL {h g : Hp} (i : Inv h) (e2 : g.2 = h.2) (e : ∀ x y, ((x = 0 ∧ y ≠ 10) ∨ (10 ≤ x ∧ x ≤ 34) ∨ x = 49 ∨ (x = 50 ∧ y = 10) ∨ (54 ≤ x ∧ x ≤ 56) ∨ (58 ≤ x ∧ x ≤ 60)) → g.1 x y = h.1 x y) (hR : IR g) (hL : IL g) : Inv g := by
  obtain ⟨⟨a, b, ds, hH, hK⟩, -, hT, hF, -, hU⟩ := i
  exact ⟨⟨a, b, ds, hH.cg (fun x y q => e x y (by omega)), hK.cg (fun x y q => e x y (by omega))⟩, hR, hT.cg (fun x y q => e x y (by omega)), hF.cg (fun x y q => e x y (by omega)), hL, hU.cg e2⟩
theorem Inv.cgR {h g : Hp} (i : Inv h) (e2 : g.2 = h.2) (e : ∀ x y, (x = 0 ∨ (10 ≤ x ∧ x ≤ 34) ∨ x = 49 ∨ (x = 50 ∧ (y = 10 ∨ y = 11)) ∨ (54 ≤ x ∧ x ≤ 56) ∨ (58 ≤ x ∧ x ≤ 60)) → g.1 x y = h.1 x y) (hR : IR g) : Inv g :=
  i.cgRL e2 (fun x y q => e x y (by omega)) hR (i.2.2.2.2.1.cg (fun x y q => e x y (by omega)))
theorem Inv.cgT {h g : Hp} (i : Inv h) (e2 : g.2 = h.2) (e : ∀ x y, (x ≤ 9 ∨ (17 ≤ x ∧ x ≤ 34) ∨ x = 49 ∨ (x = 50 ∧ (y = 10 ∨ y = 11)) ∨ x = 51 ∨ x = 52 ∨ x = 56 ∨ (58 ≤ x ∧ x ≤ 60)) → g.1 x y = h.1 x y) (hT : IT g) : Inv g := by
  obtain ⟨⟨a, b, ds, hH, hK⟩, hR, -, hF, hL, hU⟩ := i
  exact ⟨⟨a, b, ds, hH.cg (fun x y q => e x y (by omega)), hK.cg (fun x y q => e x y (by omega))⟩, hR.cg (fun x y q => e x y (by omega)), hT, hF.cg (fun x y q => e x y (by omega)), hL.cg (fun x y q => e x y (by omega)), hU.cg e2⟩
theorem Inv.cgF {h g : Hp} (i : Inv h) (e2 : g.2 = h.2) (e : ∀ x y, ((x = 0 ∧ y = 10) ∨ (1 ≤ x ∧ x ≤ 34) ∨ (x = 50 ∧ y = 11) ∨ x = 51 ∨ x = 52 ∨ (54 ≤ x ∧ x ≤ 56) ∨ x = 58 ∨ x = 59) → g.1 x y = h.1 x y) (hF : IFn g) : Inv g := by
  obtain ⟨⟨a, b, ds, hH, hK⟩, hR, hT, -, hL, hU⟩ := i
  exact ⟨⟨a, b, ds, hH.cg (fun x y q => e x y (by omega)), hK.cg (fun x y q => e x y (by omega))⟩, hR.cg (fun x y q => e x y (by omega)), hT.cg (fun x y q => e x y (by omega)), hF, hL.cg (fun x y q => e x y (by omega)), hU.cg e2⟩
theorem Inv.cgU {h g : Hp} (i : Inv h) (e : ∀ x y, g.1 x y = h.1 x y) (hU : IU g) : Inv g := by
  obtain ⟨⟨a, b, ds, hH, hK⟩, hR, hT, hF, hL, -⟩ := i
  exact ⟨⟨a, b, ds, hH.cg (fun x y q => e x y), hK.cg (fun x y q => e x y)⟩, hR.cg (fun x y q => e x y), hT.cg (fun x y q => e x y), hF.cg (fun x y q => e x y), hL.cg (fun x y q => e x y), hU⟩
/-- another harbour, or other deeds, of the same fleet -/
theorem Inv.cgH {b : Nat → Nat} {h g : Hp} {a ds : Nat → Nat} (i : IK b h ∧ IR h ∧ IT h ∧ IFn h ∧ IL h ∧ IU h) (e2 : g.2 = h.2) (e : ∀ x y, (x ≤ 22 ∨ x = 49 ∨ (x = 50 ∧ (y = 10 ∨ y = 11)) ∨ x = 51 ∨ x = 52 ∨ x = 54 ∨ x = 55 ∨ (58 ≤ x ∧ x ≤ 60)) → g.1 x y = h.1 x y) (hH : IH a b ds g) : Inv g := by
  obtain ⟨hK, hR, hT, hF, hL, hU⟩ := i
  exact ⟨⟨a, b, ds, hH, hK.cg (fun x y q => e x y (by omega))⟩, hR.cg (fun x y q => e x y (by omega)), hT.cg (fun x y q => e x y (by omega)), hF.cg (fun x y q => e x y (by omega)), hL.cg (fun x y q => e x y (by omega)), hU.cg e2⟩
/-! a call on both -/
def PrI (yC : MethodName) (cC : ByteArray) (nC : Nat) (yM : MethodName) (cM : ByteArray) (nM : Nat) (as : List Value) (h : Hp) : Prop := ∃ (d1 d2 : Nat) (v : Int32) (h1 h2 : Hp), d1 ≤ 20 ∧ d2 ≤ 20 ∧ CT d1 yC cC nC (some .int) (.ref 0 :: as) h (some (.int v)) h1 ∧ CT d2 yM cM nM (some .int) (.ref 50 :: as) h1 (some (.int v)) h2 ∧ Inv h2
def PrL (yC : MethodName) (cC : ByteArray) (nC : Nat) (yM : MethodName) (cM : ByteArray) (nM : Nat) (as : List Value) (h : Hp) : Prop := ∃ (d1 d2 : Nat) (v : Int64) (h1 h2 : Hp), d1 ≤ 20 ∧ d2 ≤ 20 ∧ CT d1 yC cC nC (some .long) (.ref 0 :: as) h (some (.long v)) h1 ∧ CT d2 yM cM nM (some .long) (.ref 50 :: as) h1 (some (.long v)) h2 ∧ Inv h2
section PRI
variable {yC yM : MethodName} {cC cM : ByteArray} {nC nM d1 d2 : Nat} {as : List Value} {h : Hp} {v : Int32}
theorem PrI.same (k1 : CT d1 yC cC nC (some .int) (.ref 0 :: as) h (some (.int v)) h) (k2 : CT d2 yM cM nM (some .int) (.ref 50 :: as) h (some (.int v)) h) (i : Inv h) (e1 : d1 ≤ 20 := by decide) (e2 : d2 ≤ 20 := by decide) : PrI yC cC nC yM cM nM as h := ⟨d1, d2, v, h, h, e1, e2, k1, k2, i⟩
theorem finC_o {h : Hp} {f x y : Nat} (h1 : x ≠ 0) (h2 : x ≠ 49) : (finC h f).1 x y = h.1 x y := by rw [finC, ui_ne h2, ui_ne h1]
theorem finM_o {h : Hp} {f x y : Nat} (h1 : x ≠ 50) (h2 : x ≠ 60) : (finM h f).1 x y = h.1 x y := by rw [finM, ui_ne h2, ui_ne h1]
theorem Inv.find (i : Inv h) {f : Nat} (hf : f < 6) : Inv (finM (finC h f) f) := by
  refine i.cgF rfl (fun x y q => ?_) ⟨?_, fun g hg => ?_⟩
  · simp only [finM, finC, ui]
    repeat rw [if_neg (by omega)]
  · simp [finM, finC, ui]
  · have e := i.2.2.2.1.2 g hg
    have ef := i.2.2.2.1.2 f hf
    by_cases hgf : g = f
    · subst hgf; simp [finM, finC, ui, e]
    · simp [finM, finC, ui, e, hgf]
theorem PrI.find {f : Nat} (k1 : CT d1 yC cC nC (some .int) (.ref 0 :: as) h (some (.int v)) (finC h f)) (k2 : CT d2 yM cM nM (some .int) (.ref 50 :: as) (finC h f) (some (.int v)) (finM (finC h f) f)) (i : Inv h) (hf : f < 6 := by decide) (e1 : d1 ≤ 20 := by decide) (e2 : d2 ≤ 20 := by decide) : PrI yC cC nC yM cM nM as h := ⟨d1, d2, v, _, _, e1, e2, k1, k2, i.find hf⟩
theorem Inv.tell (i : Inv h) (u : Int32) : Inv (ui (ui h 0 10 u) 50 11 u) := by
  refine i.cgL rfl (fun x y q => ?_) ?_
  · simp only [ui]
    repeat rw [if_neg (by omega)]
  · simp [IL, ui]
theorem PrI.tell {u : Int32} (k1 : CT d1 yC cC nC (some .int) (.ref 0 :: as) h (some (.int v)) (ui h 0 10 u)) (k2 : CT d2 yM cM nM (some .int) (.ref 50 :: as) (ui h 0 10 u) (some (.int v)) (ui (ui h 0 10 u) 50 11 u)) (i : Inv h) (e1 : d1 ≤ 20 := by decide) (e2 : d2 ≤ 20 := by decide) : PrI yC cC nC yM cM nM as h := ⟨d1, d2, v, _, _, e1, e2, k1, k2, i.tell u⟩
end PRI
/-! an int's range -/
theorem rng_cs (n : Nat) (hn : n < 2 ^ 31) (s : Int32) : (s < 0 ∨ nI n ≤ s) ∨ ∃ k, k < n ∧ s = nI k := by
  by_cases h1 : s < 0
  · exact Or.inl (Or.inl h1)
  · obtain ⟨k, hk, e⟩ := nI_of h1
    by_cases h2 : k < n
    · exact Or.inr ⟨k, h2, e⟩
    · exact Or.inl (Or.inr (by rw [e]; exact nI_le (by omega) hk))
theorem siz_cs (n : Nat) (hn : n < 2 ^ 31) (s : Int32) : s < 0 ∨ nI n < s ∨ ∃ k, k ≤ n ∧ s = nI k := by
  by_cases h1 : s < 0
  · exact Or.inl h1
  · obtain ⟨k, hk, e⟩ := nI_of h1
    by_cases h2 : k ≤ n
    · exact Or.inr (Or.inr ⟨k, h2, e⟩)
    · exact Or.inr (Or.inl (by rw [e, Int32.lt_iff_toInt_lt, nI_toInt hn, nI_toInt hk]; omega))
theorem one_cs (n : Nat) (hn : n < 2 ^ 31) (s : Int32) : (s < nI 1 ∨ nI n < s) ∨ ∃ k, 1 ≤ k ∧ k ≤ n ∧ s = nI k := by
  rcases siz_cs n hn s with h | h | ⟨k, hk, e⟩
  · exact Or.inl (Or.inl (Int32.lt_trans h (by decide)))
  · exact Or.inl (Or.inr h)
  · by_cases h1 : 1 ≤ k
    · exact Or.inr ⟨k, h1, hk, e⟩
    · exact Or.inl (Or.inl (by rw [e, show k = 0 by omega]; decide))
theorem nn_cs (s : Int32) : s < 0 ∨ ∃ k, k < 2 ^ 31 ∧ s = nI k := by
  by_cases h1 : s < 0
  · exact Or.inl h1
  · obtain ⟨k, hk, e⟩ := nI_of h1
    exact Or.inr ⟨k, hk, e⟩
