/-! the numbers below 55 decide -/
def Ag (a r : Nat → Nat) : Prop := ∀ x, x < 55 → a x = r x
section AGS
variable {a r : Nat → Nat}
theorem Ag.sim (h : Ag a r) : Sim a r := ⟨(h 0 (by decide)).symm, (h 1 (by decide)).symm, fun i w hi hw => (h _ (by omega)).symm⟩
theorem Ag.sh (h : Ag a r) {i w : Nat} (hi : i < 6) (hw : w < 8) : sh r i w = sh a i w := (h _ (by omega)).symm
theorem Ag.shift (h : Ag a r) {i s : Nat} (hi : i < 6) : shiftN r i s = shiftN a i s := cnt_congr (fun j hj => by
  simp only [shiftP]; rw [h.sim.now hj hi])
theorem Ag.berth (h : Ag a r) (hn : a 0 ≤ 6) {i g s y : Nat} (hi : i < 6) : berthN r i g s y = berthN a i g s y := by
  unfold berthN
  rw [← h 0 (by decide)]
  exact cnt_congr (fun j hj => by simp only [berthP]; rw [h.sim.age (by omega), h.sim.ahead (by omega) hi])
theorem Ag.exc (h : Ag a r) (hn : a 0 ≤ 6) {i : Nat} (hi : i < 6) : excN r i = excN a i := by
  unfold excN berthI
  rw [h.sh hi (by decide), ← h 5 (by decide), ← h 1 (by decide), h.berth hn hi, h.sim.age hi]
theorem Ag.grd (h : Ag a r) (hn : a 0 ≤ 6) : grdN r = grdN a := by
  unfold grdN
  rw [← h 0 (by decide)]
  exact bitsU_congr (fun j hj => by rw [h.exc hn (by omega)])
theorem Ag.okB (h : Ag a r) (k : OkB r) : OkB a := by
  obtain ⟨⟨⟨p0, p1, p2, p3, p4, p5, p6⟩, ps⟩, q1, q6, qs⟩ := k
  have e := h
  rw [← e 0 (by decide)] at p0 p5 ps qs
  rw [← e 1 (by decide)] at p1 q1
  rw [← e 2 (by decide)] at p2
  rw [← e 3 (by decide)] at p3 q1 q6 qs
  rw [← e 4 (by decide)] at p4
  rw [← e 5 (by decide)] at p5
  rw [← e 6 (by decide)] at p6 q6
  refine ⟨⟨⟨p0, p1, p2, p3, p4, p5, p6⟩, fun i hi => ?_⟩, q1, q6, fun i hi => ?_⟩
  · have z := ps i hi
    rw [h.sh (by omega) (by decide), h.sh (by omega) (by decide), h.sh (by omega) (by decide), h.sh (by omega) (by decide), h.sh (by omega) (by decide), h.sh (by omega) (by decide), h.sh (by omega) (by decide), h.sh (by omega) (by decide)] at z
    exact z
  · have z := qs i hi
    rw [h.sh (by omega) (by decide), h.sh (by omega) (by decide)] at z
    exact z
theorem Ag.RC (h : Ag a r) (hn : a 0 ≤ 6) {g : Hp} (k : RC r g) : RC a g := by
  obtain ⟨⟨⟨r0, r1, r2, r4, r5, r6⟩, rs, P, rp, rP, rt⟩, rg⟩ := k
  have e := h
  rw [← e 0 (by decide)] at r0 rs rt rg
  rw [← e 1 (by decide)] at r1 rg
  rw [← e 2 (by decide)] at r2
  rw [← e 4 (by decide)] at r4
  rw [← e 5 (by decide)] at r5
  rw [← e 6 (by decide)] at r6
  refine ⟨⟨⟨r0, r1, r2, r4, r5, r6⟩, fun i hi => ?_, P, rp, rP, fun i hi => ?_⟩, fun i hi => ?_⟩
  · have z := rs i hi
    rw [h.sh (by omega) (by decide), h.sh (by omega) (by decide), h.sh (by omega) (by decide), h.sh (by omega) (by decide), h.sh (by omega) (by decide), h.sh (by omega) (by decide), h.sh (by omega) (by decide)] at z
    exact z
  · have z := rt i hi
    rw [h.sh (by omega) (by decide)] at z
    exact z
  · have z := rg i hi
    rw [h.sim.age (by omega), h.sim.ahd hn (by omega)] at z
    exact z
theorem Ag.okD (h : Ag a r) (hn : a 0 ≤ 6) {dd i : Nat} (k : okD a dd i) : okD r dd i := by
  obtain ⟨k3, k6, k5, k0, d0, d1, d2⟩ := k
  have e := h
  refine ⟨by rw [← e 3 (by decide)]; exact k3, k6, k5, by rw [← e 0 (by decide)]; exact k0, fun z => ?_, fun z => ?_, fun z => ?_⟩
  · have q := d0 z
    rw [h.shift k6, ← e 0 (by decide), ← e 5 (by decide), ← e 4 (by decide)]; exact q
  · have q := d1 z
    rw [h.sh k6 (by decide), h.sh k6 (by decide), ← e 0 (by decide)]; exact q
  · have q := d2 z
    rw [h.sh k6 (by decide), ← e 0 (by decide)]; exact q
theorem note_cg (e3 : a 3 = r 3) (h : ∀ x, x < 55 + 4 * a 3 → a x = r x) {dd x y z j : Nat} (hj : j < 55 + 4 * (a 3 + 1)) : noteN a dd x y z j = noteN r dd x y z j := by
  simp only [noteN, au, ← e3]
  split
  · rfl
  split
  · rfl
  split
  · rfl
  split
  · rfl
  split
  · rfl
  · exact h j (by omega)
theorem step_cg (h : ∀ x, x < 55 + 4 * a 3 → a x = r x) (hn : a 0 ≤ 6) {dd i : Nat} (hi : i < 6) : ∀ x, x < 55 + 4 * (a 3 + 1) → stepN a dd i x = stepN r dd i x := by
  intro x hx
  have g : Ag a r := fun x hx => h x (by omega)
  have e3 : a 3 = r 3 := g 3 (by decide)
  have nc : ∀ dd x y z j, j < 55 + 4 * (a 3 + 1) → noteN a dd x y z j = noteN r dd x y z j := fun dd x y z j hj => note_cg e3 h hj
  unfold stepN
  split
  · simp only [goesN, au]
    rw [g.shift hi, ← g 4 (by decide), ← g 5 (by decide), ← g 6 (by decide), nc _ _ _ _ x hx]
  split
  · simp only [payN, au]
    rw [nc _ _ _ _ x hx]
  split
  · simp only [teaN, au]
    rw [nc _ _ _ _ x hx, g.sh hi (by decide)]
  split
  · simp only [ebbsN, au, grN]
    rw [g.grd hn, ← g 4 (by decide), ← g 2 (by decide), ← g 0 (by decide), nc _ _ _ _ x hx]
  · simp only [yearN, au]
    rw [nc _ _ _ _ x hx, ← g 1 (by decide)]
end AGS
def dsU (ds : Nat → Nat) (n v : Nat) : Nat → Nat := fun j => if j = n then v else ds j
theorem run_cg {b ds es : Nat → Nat} {n : Nat} (h : ∀ j, j < n → es j = ds j) : runN b es n = runN b ds n := by
  induction n with
  | zero => rfl
  | succ n ih => simp only [runN]; rw [ih (fun j hj => h j (by omega)), h n (by omega)]
theorem Hst.step {a b ds : Nat → Nat} (hs : Hst a b ds) (hb : OkB b) (hb3 : b 3 = 0) (hn : a 0 ≤ 6) {dd i : Nat} (ok : okD a dd i) : Hst (stepN a dd i) b (dsU ds (a 3) (dd * 6 + i)) := by
  obtain ⟨k3, k6, k5, k0, -⟩ := id ok
  have e3 := step_3 (a := a) (dd := dd) k6
  have er : ∀ k, k ≤ a 3 → runN b (dsU ds (a 3) (dd * 6 + i)) k = runN b ds k := fun k hk => run_cg (fun j hj => if_neg (by omega))
  have ev : dsU ds (a 3) (dd * 6 + i) (a 3) = dd * 6 + i := if_pos rfl
  have g : Ag a (runN b ds (a 3)) := fun x hx => hs.2 x (by omega)
  have er1 : runN b (dsU ds (a 3) (dd * 6 + i)) (a 3 + 1) = stepN (runN b ds (a 3)) dd i := by
    simp only [runN]
    rw [er (a 3) (Nat.le_refl _), ev, show (dd * 6 + i) / 6 = dd by omega, show (dd * 6 + i) % 6 = i by omega]
  unfold Hst
  rw [e3]
  refine ⟨⟨by omega, fun k hk => ?_⟩, fun x hx => ?_⟩
  · by_cases e : k = a 3
    · rw [e, er (a 3) (Nat.le_refl _), ev, show (dd * 6 + i) / 6 = dd by omega, show (dd * 6 + i) % 6 = i by omega]
      exact ⟨by omega, g.okD hn ok⟩
    · rw [er k (by omega), show dsU ds (a 3) (dd * 6 + i) k = ds k from if_neg e]
      exact hs.1.2 k (by omega)
  · rw [er1]
    exact step_cg hs.2 hn k6 x hx
theorem wN_o {h : Hp} {a : Nat → Nat} {x y : Nat} (hx : x ≠ 56) : (wN h a).1 x y = h.1 x y := if_neg (fun q => hx q.1)
/-- the harbour behind a deed of both -/
theorem deed_inv {h h1 : Hp} {a b ds : Nat → Nat} (i : Inv h) (hH : IH a b ds h) (hK : IK b h) {dd j : Nat} (od : okD a dd j) (hR1 : RC (stepN a dd j) h1) (h31 : h1.1 23 6 = nI (a 3 + 1)) (hl1 : ∀ y, h1.1 32 y = if y = a 3 then nI (dd * 6 + j) else h.1 32 y) (f1 : Fp h h1) : Inv (wN h1 (stepN a dd j)) := by
  obtain ⟨⟨hA, hC, hB, h3, hd⟩, ok, okb, bs, hs⟩ := hH
  have e3 := step_3 (a := a) (dd := dd) od.2.1
  refine Inv.cgH (b := b) (a := stepN a dd j) (ds := dsU ds (a 3) (dd * 6 + j)) ⟨hK, i.2⟩ (show h1.2 = h.2 from f1.1) (fun x y q => ?_) ⟨⟨RMw _ _, ?_, ?_, ?_, fun y hy => ?_⟩, ok.step od, okb, bs, hs.step okb bs.1 ok.1.1.1 od⟩
  · rw [wN_o (by omega)]; exact f1.2 x y (by omega) (by omega)
  · exact hR1.to (fun x y q => wN_o (by have := q.2.1; omega))
  · exact hB.cg (fun x y q => (wN_o (by omega)).trans (f1.2 x y (by omega) (by omega)))
  · rw [wN_o (by decide), e3]; exact h31
  · rw [e3] at hy
    rw [wN_o (by decide), hl1 y]
    by_cases e : y = a 3
    · rw [if_pos e, e]; exact congrArg nI (if_pos rfl).symm
    · rw [if_neg e, hd y (by omega)]; exact congrArg nI (if_neg e).symm
theorem RM.fp {a : Nat → Nat} {h h1 : Hp} (hA : RM a h) (f : Fp h h1) : RM a h1 := fun j hj => (f.2 56 j (by decide) (by decide)).trans (hA j hj)
section DD
variable {yC yM : MethodName} {cC cM : ByteArray} {nC nM d1 d2 : Nat} {as : List Value} {h : Hp} {v : Int32}
theorem PrI.sameW {a : Nat → Nat} (hA : RM a h) (k1 : CT d1 yC cC nC (some .int) (.ref 0 :: as) h (some (.int v)) h) (k2 : CT d2 yM cM nM (some .int) (.ref 50 :: as) (wN h a) (some (.int v)) (wN h a)) (i : Inv h) (e1 : d1 ≤ 20 := by decide) (e2 : d2 ≤ 20 := by decide) : PrI yC cC nC yM cM nM as h := by
  rw [wN_of hA] at k2
  exact .same k1 k2 i e1 e2
theorem PrI.findW {a : Nat → Nat} {f : Nat} (hA : RM a h) (k1 : CT d1 yC cC nC (some .int) (.ref 0 :: as) h (some (.int v)) (finC h f)) (k2 : CT d2 yM cM nM (some .int) (.ref 50 :: as) (wN (finC h f) a) (some (.int v)) (finM (wN (finC h f) a) f)) (i : Inv h) (hf : f < 6 := by decide) (e1 : d1 ≤ 20 := by decide) (e2 : d2 ≤ 20 := by decide) : PrI yC cC nC yM cM nM as h := by
  rw [wN_of (hA.fC f)] at k2
  exact .find k1 k2 i hf e1 e2
theorem PrI.deed {h1 : Hp} {a b ds : Nat → Nat} (i : Inv h) (hH : IH a b ds h) (hK : IK b h) {dd j : Nat} (od : okD a dd j) (hR1 : RC (stepN a dd j) h1) (h31 : h1.1 23 6 = nI (a 3 + 1)) (hl1 : ∀ y, h1.1 32 y = if y = a 3 then nI (dd * 6 + j) else h.1 32 y) (f1 : Fp h h1) (k1 : CT d1 yC cC nC (some .int) (.ref 0 :: as) h (some (.int v)) h1) (k2 : CT d2 yM cM nM (some .int) (.ref 50 :: as) (wN h1 a) (some (.int v)) (wN h1 (stepN a dd j))) (e1 : d1 ≤ 20 := by decide) (e2 : d2 ≤ 20 := by decide) : PrI yC cC nC yM cM nM as h := by
  have hi := deed_inv i hH hK od hR1 h31 hl1 f1
  rw [wN_of (hH.1.1.fp f1)] at k2
  exact ⟨d1, d2, v, h1, _, e1, e2, k1, k2, hi⟩
end DD

theorem p_come {h : Hp} (i : Inv h) (s : Int32) : PrI yX6_come cX6_come 2 yX7_come cX7_come 2 [.int s] h := by
  obtain ⟨⟨a, b, ds, hH, hK⟩, hR, hT, hF, hL, hU⟩ := id i
  obtain ⟨⟨hA, hC, hB, h3, hd⟩, ok, okb, bs, hs⟩ := id hH
  have hO := ok.1
  have hm := hR.1.1
  have hq := hR.1.2
  have o0 := hO.1.1
  have o3 := hO.1.2.2.2.1
  have h40 : a 3 = 40 → h.1 23 6 = nI 40 := fun e => by rw [h3, e]
  rcases rng_cs (a 0) (by omega) s with hb | ⟨j, hj, rfl⟩
  · exact .sameW hA (c_X6_comeB hC hO hb) (c_X7_comeB ok hb) i
  by_cases hs5 : (a 5).testBit j = true
  · exact .sameW hA (c_X6_comeS hC hO hj hs5) (c_X7_comeS ok hj hs5) i
  by_cases hp : 1 + shiftN a j (a 5) ≤ a 4
  case neg => exact .sameW hA (c_X6_comeP hC hO hj hs5 hp) (c_X7_comeP ok hj hs5 hp) i
  by_cases hf : a 3 = 40
  · exact .sameW hA (c_X6_comeF hC hO hj hs5 hp (h40 hf)) (c_X7_comeF ok hj hs5 hp hf) i
  · have od : okD a 0 j := ⟨by omega, by omega, by decide, by omega, fun _ => ⟨hj, hp⟩, fun z => absurd z (by decide), fun z => absurd z (by decide)⟩
    obtain ⟨h1, c1, r1, e1, l1, f1⟩ := doDeed_ok hC ok h3 od
    exact .deed i hH hK od r1 e1 l1 f1 (c_X6_comeO hC hO hj hs5 hp c1) (c_X7_comeO ok hj hs5 hp (by omega))

theorem p_leave {h : Hp} (i : Inv h) (s : Int32) : PrI yX6_leave cX6_leave 2 yX7_leave cX7_leave 2 [.int s] h := by
  obtain ⟨⟨a, b, ds, hH, hK⟩, hR, hT, hF, hL, hU⟩ := id i
  obtain ⟨⟨hA, hC, hB, h3, hd⟩, ok, okb, bs, hs⟩ := id hH
  have hO := ok.1
  have hm := hR.1.1
  have hq := hR.1.2
  have o0 := hO.1.1
  have o3 := hO.1.2.2.2.1
  have h40 : a 3 = 40 → h.1 23 6 = nI 40 := fun e => by rw [h3, e]
  rcases rng_cs (a 0) (by omega) s with hb | ⟨j, hj, rfl⟩
  · exact .sameW hA (c_X6_leaveB hC hO hb) (c_X7_leaveB ok hb) i
  by_cases hs5 : (a 5).testBit j = true
  case neg => exact .sameW hA (c_X6_leaveS hC hO hj hs5) (c_X7_leaveS ok hj hs5) i
  by_cases hp : 1 + shiftN a j (a 5) ≤ a 4
  case neg => exact .sameW hA (c_X6_leaveP hC hO hj hs5 hp) (c_X7_leaveP ok hj hs5 hp) i
  by_cases hf : a 3 = 40
  · exact .sameW hA (c_X6_leaveF hC hO hj hs5 hp (h40 hf)) (c_X7_leaveF ok hj hs5 hp hf) i
  · have od : okD a 0 j := ⟨by omega, by omega, by decide, by omega, fun _ => ⟨hj, hp⟩, fun z => absurd z (by decide), fun z => absurd z (by decide)⟩
    obtain ⟨h1, c1, r1, e1, l1, f1⟩ := doDeed_ok hC ok h3 od
    exact .deed i hH hK od r1 e1 l1 f1 (c_X6_leaveO hC hO hj hs5 hp c1) (c_X7_leaveO ok hj hs5 hp (by omega))

theorem p_pay {h : Hp} (i : Inv h) (s : Int32) : PrI yX6_pay cX6_pay 2 yX7_pay cX7_pay 2 [.int s] h := by
  obtain ⟨⟨a, b, ds, hH, hK⟩, hR, hT, hF, hL, hU⟩ := id i
  obtain ⟨⟨hA, hC, hB, h3, hd⟩, ok, okb, bs, hs⟩ := id hH
  have hO := ok.1
  have hm := hR.1.1
  have hq := hR.1.2
  have o0 := hO.1.1
  have o3 := hO.1.2.2.2.1
  have h40 : a 3 = 40 → h.1 23 6 = nI 40 := fun e => by rw [h3, e]
  rcases rng_cs (a 0) (by omega) s with hb | ⟨j, hj, rfl⟩
  · exact .sameW hA (c_X6_payB hC hO hb) (c_X7_payB ok hb) i
  by_cases hk : sh a j 0 = 5
  case neg => exact .findW hA (c_X6_payU hC hO hj hk) (c_X7_payU ok hj hk) i
  by_cases hp : sh a j 6 = 1
  · exact .sameW hA (c_X6_payS hC hO hj hk hp) (c_X7_payS ok hj hk hp) i
  by_cases hf : a 3 = 40
  · exact .sameW hA (c_X6_payF hC hO hj hk hp (h40 hf)) (c_X7_payF ok hj hk hp hf) i
  · have s6 := (hO.2 j hj).2.2.2.2.2.2.1
    have od : okD a 1 j := ⟨by omega, by omega, by decide, by omega, fun z => absurd z (by decide), fun _ => ⟨hj, hk, by omega⟩, fun z => absurd z (by decide)⟩
    obtain ⟨h1, c1, r1, e1, l1, f1⟩ := doDeed_ok hC ok h3 od
    exact .deed i hH hK od r1 e1 l1 f1 (c_X6_payO hC hO hj hk hp c1) (c_X7_payO ok hj hk hp (by omega))

theorem p_tea {h : Hp} (i : Inv h) (s : Int32) : PrI yX6_tea cX6_tea 2 yX7_tea cX7_tea 2 [.int s] h := by
  obtain ⟨⟨a, b, ds, hH, hK⟩, hR, hT, hF, hL, hU⟩ := id i
  obtain ⟨⟨hA, hC, hB, h3, hd⟩, ok, okb, bs, hs⟩ := id hH
  have hO := ok.1
  have hm := hR.1.1
  have hq := hR.1.2
  have o0 := hO.1.1
  have o3 := hO.1.2.2.2.1
  have h40 : a 3 = 40 → h.1 23 6 = nI 40 := fun e => by rw [h3, e]
  rcases rng_cs (a 0) (by omega) s with hb | ⟨j, hj, rfl⟩
  · exact .sameW hA (c_X6_teaB hC hO hb) (c_X7_teaB ok hb) i
  have s5 := (hO.2 j hj).2.2.2.2.2.1
  have s5m := (ok.2.2.2 j hj).2
  by_cases hp : sh a j 5 = 20
  · exact .sameW hA (c_X6_teaS hC hO hj hp) (c_X7_teaS ok hj hp) i
  by_cases hf : a 3 = 40
  · exact .sameW hA (c_X6_teaF hC hO hj (by omega) (h40 hf)) (c_X7_teaF ok hj (by omega) hf) i
  · have od : okD a 2 j := ⟨by omega, by omega, by decide, by omega, fun z => absurd z (by decide), fun z => absurd z (by decide), fun _ => ⟨hj, by omega⟩⟩
    obtain ⟨h1, c1, r1, e1, l1, f1⟩ := doDeed_ok hC ok h3 od
    exact .deed i hH hK od r1 e1 l1 f1 (c_X6_teaO hC hO hj (by omega) c1) (c_X7_teaO ok hj (by omega) (by omega))

theorem p_tide {h : Hp} (i : Inv h) : PrI yX6_tide cX6_tide 1 yX7_tide cX7_tide 1 [] h := by
  obtain ⟨⟨a, b, ds, hH, hK⟩, hR, hT, hF, hL, hU⟩ := id i
  obtain ⟨⟨hA, hC, hB, h3, hd⟩, ok, okb, bs, hs⟩ := id hH
  have hO := ok.1
  have hm := hR.1.1
  have hq := hR.1.2
  have o0 := hO.1.1
  have o3 := hO.1.2.2.2.1
  have h40 : a 3 = 40 → h.1 23 6 = nI 40 := fun e => by rw [h3, e]
  by_cases h0 : a 0 = 0
  · exact .sameW hA (c_X6_tideE hC hO h0) (c_X7_tideE ok h0) i
  by_cases hf : a 3 = 40
  · exact .sameW hA (c_X6_tideF hC hO (by omega) (h40 hf)) (c_X7_tideF ok (by omega) hf) i
  · have od : okD a 3 0 := ⟨by omega, by decide, by decide, by omega, fun z => absurd z (by decide), fun z => absurd z (by decide), fun z => absurd z (by decide)⟩
    obtain ⟨h1, c1, r1, e1, l1, f1⟩ := doDeed_ok hC ok h3 od
    exact .deed i hH hK od r1 e1 l1 f1 (c_X6_tideO hC hO (by omega) c1) (c_X7_tideO ok (by omega) (by omega))

theorem p_year {h : Hp} (i : Inv h) : PrI yX6_year cX6_year 1 yX7_year cX7_year 1 [] h := by
  obtain ⟨⟨a, b, ds, hH, hK⟩, hR, hT, hF, hL, hU⟩ := id i
  obtain ⟨⟨hA, hC, hB, h3, hd⟩, ok, okb, bs, hs⟩ := id hH
  have hO := ok.1
  have hm := hR.1.1
  have hq := hR.1.2
  have o0 := hO.1.1
  have o3 := hO.1.2.2.2.1
  have h40 : a 3 = 40 → h.1 23 6 = nI 40 := fun e => by rw [h3, e]
  by_cases h0 : a 0 = 0
  · exact .sameW hA (c_X6_yearE hC hO h0) (c_X7_yearE ok h0) i
  by_cases hf : a 3 = 40
  · exact .sameW hA (c_X6_yearF hC hO (by omega) (h40 hf)) (c_X7_yearF ok (by omega) hf) i
  · have od : okD a 4 0 := ⟨by omega, by decide, by decide, by omega, fun z => absurd z (by decide), fun z => absurd z (by decide), fun z => absurd z (by decide)⟩
    obtain ⟨h1, c1, r1, e1, l1, f1⟩ := doDeed_ok hC ok h3 od
    exact .deed i hH hK od r1 e1 l1 f1 (c_X6_yearO hC hO (by omega) c1) (c_X7_yearO ok (by omega) (by omega))

theorem p_undo {h : Hp} (i : Inv h) (s : Int32) : PrI yX6_undo cX6_undo 3 yX7_undo cX7_undo 4 [.int s] h := by
  obtain ⟨⟨a, b, ds, hH, hK⟩, hR, hT, hF, hL, hU⟩ := id i
  obtain ⟨⟨hA, hC, hB, h3, hd⟩, ok, okb, bs, hs⟩ := id hH
  have hO := ok.1
  have hm := hR.1.1
  have hq := hR.1.2
  have o0 := hO.1.1
  have o3 := hO.1.2.2.2.1
  rcases siz_cs (a 3) (by omega) s with hb | hb | ⟨n, hn, rfl⟩
  · exact .sameW hA (c_X6_undoB hC hO h3 (Or.inl hb)) (c_X7_undoB ok (Or.inl hb)) i
  · exact .sameW hA (c_X6_undoB hC hO h3 (Or.inr hb)) (c_X7_undoB ok (Or.inr hb)) i
  · obtain ⟨h1, c1, r1, e1, l1, f1⟩ := replay_ok (c := 32) rfl (Or.inl rfl) okb bs hB (hs.1.le hn) (fun j hj => hd j (by omega))
    have c2 := c_X7_undoO (h := h1) ok okb bs.1 hs hn
    rw [wN_of (hA.fp f1)] at c2
    obtain ⟨u1, u2, u3⟩ := und_inv okb bs.1 hs (a 3 - n) (by omega)
    rw [show a 3 - (a 3 - n) = n by omega] at u1
    obtain ⟨ro, r3⟩ := run_ok okb bs.1 hs.1 n hn
    have ea : ∀ x, x < 55 + 4 * n → au (undU a (a 3) (a 3 - n)) 3 n x = runN b ds n x := fun x hx => by
      simp only [au]
      by_cases e : x = 3
      · rw [if_pos e, e, r3]
      · rw [if_neg e]; exact u1 x hx e
    have g : Ag (au (undU a (a 3) (a 3 - n)) 3 n) (runN b ds n) := fun x hx => ea x (by omega)
    have ok2 := g.okB ro
    have e3 : au (undU a (a 3) (a 3 - n)) 3 n 3 = n := if_pos rfl
    refine ⟨_, _, _, _, _, by decide, by decide, c_X6_undoO hC hO h3 hn c1, c2, Inv.cgH (b := b) (a := au (undU a (a 3) (a 3 - n)) 3 n) (ds := ds) ⟨hK, i.2⟩ (show h1.2 = h.2 from f1.1) (fun x y q => ?_) ⟨⟨RMw _ _, ?_, ?_, ?_, fun y hy => ?_⟩, ok2, okb, bs, ?_, ?_⟩⟩
    · rw [wN_o (by omega)]; exact f1.2 x y (by omega) (by omega)
    · exact (g.RC ok2.1.1.1 r1).to (fun x y q => wN_o (by have := q.2.1; omega))
    · exact hB.cg (fun x y q => (wN_o (by omega)).trans (f1.2 x y (by omega) (by omega)))
    · rw [wN_o (by decide), e3]; exact e1
    · rw [e3] at hy
      rw [wN_o (by decide)]; exact l1 y hy
    · rw [e3]; exact hs.1.le hn
    · rw [e3]; exact ea

theorem p_keep {h : Hp} (i : Inv h) (s : Int32) : PrI yX6_keep cX6_keep 2 yX7_keep cX7_keep 2 [.int s] h := by
  obtain ⟨⟨a, b, ds, hH, hK⟩, hR, hT, hF, hL, hU⟩ := id i
  obtain ⟨⟨hA, hC, hB, h3, hd⟩, ok, okb, bs, hs⟩ := id hH
  have hO := ok.1
  have hm := hR.1.1
  have hq := hR.1.2
  have o0 := hO.1.1
  have o3 := hO.1.2.2.2.1
  have km := hK.1.1
  rcases rng_cs 3 (by decide) s with hb | ⟨k, hk, rfl⟩
  · exact .same (c_X6_keepB km hb) (c_X7_keepB hb) i
  by_cases h0 : a 0 = 0
  · exact .same (c_X6_keepE hC hO km hk h0) (c_X7_keepE hA hO hk h0) i
  · have c1 := c_X6_keepO hC hO h3 km hK.1.2 hk (by omega)
    generalize hg : ucp (fil (ui h 18 k (nI (a 3))) (19 + 1 + k) 0 40 (nI 0)) 32 0 (19 + 1 + k) 0 (a 3) = g at c1
    have go : ∀ x y, x ≠ 19 + 1 + k → ¬ (x = 18 ∧ y = k) → g.1 x y = h.1 x y := fun x y e1 e2 => by
      rw [← hg, ucp_ne e1, fil_ne e1]
      exact if_neg e2
    have g18 : g.1 18 k = nI (a 3) := by rw [← hg, ucp_ne (by omega), fil_ne (by omega), ui_eq]
    have g20 : ∀ j, j < a 3 → g.1 (19 + 1 + k) j = nI (ds j) := fun j hj => by
      rw [← hg]
      simp only [ucp, true_and]
      rw [if_pos (by omega), fil_ne (by omega), ui_ne (by omega), show 0 + (j - 0) = j by omega]
      exact hd j hj
    have hA1 : RM a g := fun j hj => (go 56 j (by omega) (by omega)).trans (hA j hj)
    have c2 := c_X7_keepO hA1 hO hk (by omega)
    have fo : ∀ x y, x ≠ 19 + 1 + k → ¬ (x = 18 ∧ y = k) → ¬ (x = 59 ∧ y = k) → x ≠ 58 → (ui (ucp g 56 0 58 (215 * k) 215) 59 k (nI 1)).1 x y = h.1 x y := fun x y e1 e2 e3 e4 => by
      rw [← go x y e1 e2]
      exact (if_neg e3).trans (ucp_ne e4)
    refine ⟨_, _, _, _, _, by decide, by decide, c1, c2, ⟨a, b, ds, hH.cg (fun x y q => fo x y (by omega) (by omega) (by omega) (by omega)), ⟨⟨(fo 17 0 (by omega) (by omega) (by omega) (by omega)).trans hK.1.1, (fo 17 1 (by omega) (by omega) (by omega) (by omega)).trans hK.1.2⟩, fun q hq => ?_⟩⟩, hR.cg (fun x y q => fo x y (by omega) (by omega) (by omega) (by omega)), hT.cg (fun x y q => fo x y (by omega) (by omega) (by omega) (by omega)), hF.cg (fun x y q => fo x y (by omega) (by omega) (by omega) (by omega)), hL.cg (fun x y q => fo x y (by omega) (by omega) (by omega) (by omega)), hU.cg (by show g.2 = h.2; rw [← hg]; rfl)⟩
    by_cases e : q = k
    · subst e
      refine Or.inr ⟨ui_eq, a, ds, ok, hs, ?_, fun j hj => ?_, fun j hj => ?_⟩
      · rw [ui_ne (by decide), ucp_ne (by decide)]; exact g18
      · rw [ui_ne (by decide)]
        simp only [ucp, true_and]
        rw [if_pos (by omega), show 0 + (215 * q + j - 215 * q) = j by omega]
        exact hA1 j hj
      · rw [ui_ne (by omega), ucp_ne (by omega)]; exact g20 j hj
    · refine (hK.2 q hq).cg (fo 18 q (by omega) (by omega) (by omega) (by omega)) (fo 59 q (by omega) (by omega) (by omega) (by omega)) (fun j hj => ?_) (fun j => fo _ j (by omega) (by omega) (by omega) (by omega))
      rw [ui_ne (by decide)]
      simp only [ucp, true_and]
      rw [if_neg (by omega)]
      exact go 58 _ (by omega) (by omega)

theorem p_on {h : Hp} (i : Inv h) (s : Int32) : PrI yX6_on cX6_on 3 yX7_on cX7_on 2 [.int s] h := by
  obtain ⟨⟨a, b, ds, hH, hK⟩, hR, hT, hF, hL, hU⟩ := id i
  obtain ⟨⟨hA, hC, hB, h3, hd⟩, ok, okb, bs, hs⟩ := id hH
  have hO := ok.1
  have hm := hR.1.1
  have hq := hR.1.2
  have o0 := hO.1.1
  have o3 := hO.1.2.2.2.1
  have km := hK.1.1
  rcases rng_cs 3 (by decide) s with hb | ⟨k, hk, rfl⟩
  · exact .same (c_X6_onB km hb) (c_X7_onB hb) i
  rcases hK.2 k hk with ⟨z1, z2⟩ | ⟨z1, c, es, oc, sc, z2, z3, z4⟩
  · exact .find (c_X6_onM km hk z2) (c_X7_onM hk (fC z1)) i
  · have c3 := oc.1.1.2.2.2.1
    have lyk : lyL[19 + 1 + k]? = some (1, 40) := (show ∀ k, k < 3 → lyL[19 + 1 + k]? = some (1, 40) by decide) k hk
    obtain ⟨h1, c1, r1, e1, l1, f1⟩ := replay_ok (c := 19 + 1 + k) lyk (Or.inr ⟨by omega, by omega⟩) okb bs hB sc.1 z4
    have c2 := c_X7_onO (h := h1) (c := c) hk ((f1.2 59 k (by omega) (by omega)).trans z1) (fun j hj => (f1.2 58 _ (by omega) (by omega)).trans (z3 j hj))
    have g : Ag c (runN b es (c 3)) := fun x hx => sc.2 x (by omega)
    refine ⟨_, _, _, _, _, by decide, by decide, c_X6_onO km hk z2 c3 c1 e1, c2, Inv.cgH (b := b) (a := c) (ds := es) ⟨hK, i.2⟩ (show h1.2 = h.2 from f1.1) (fun x y q => ?_) ⟨⟨fun j hj => ?_, ?_, ?_, ?_, fun y hy => ?_⟩, oc, okb, bs, sc⟩⟩
    · rw [ucp_ne (by omega)]; exact f1.2 x y (by omega) (by omega)
    · simp only [ucp, true_and]
      rw [if_pos (by omega), show 215 * k + (j - 0) = 215 * k + j by omega]
      exact (f1.2 58 _ (by omega) (by omega)).trans (z3 j hj)
    · exact (g.RC oc.1.1.1 r1).to (fun x y q => ucp_ne (by have := q.2.1; omega))
    · exact hB.cg (fun x y q => (ucp_ne (by omega)).trans (f1.2 x y (by omega) (by omega)))
    · rw [ucp_ne (by decide)]; exact e1
    · rw [ucp_ne (by decide)]; exact l1 y hy

def dsL (a : Nat → Nat) (x : Nat) (ds : Nat → Nat) (k : Nat) : Nat → Nat := fun j => if a 3 ≤ j ∧ j < a 3 + k then lotD a x (j - a 3) else ds j
theorem Hst.lots {a b ds : Nat → Nat} {x : Nat} (hs : Hst a b ds) (ok : OkB a) (hb : OkB b) (hb3 : b 3 = 0) (h0 : 0 < a 0) : ∀ k, a 3 + k ≤ 40 → Hst (lotA a x k) b (dsL a x ds k) := by
  intro k
  induction k with
  | zero =>
    intro _
    have e : dsL a x ds 0 = ds := by funext j; simp only [dsL]; rw [if_neg (by omega)]
    rw [e]; exact hs
  | succ k ih =>
    intro hk
    obtain ⟨b1, b3⟩ := lot_ok (x := x) ok h0 (k1 := k) (by omega)
    have od := lot_okD (x := x) ok h0 (k1 := k) (by omega)
    have hs1 := (ih (by omega)).step hb hb3 b1.1.1.1 od
    have e : dsU (dsL a x ds k) (lotA a x k 3) (lotQ (lotA a x k) (lotI a (lotX x (k + 1))) * 6 + lotI a (lotX x (k + 1))) = dsL a x ds (k + 1) := by
      funext j
      simp only [dsU, dsL]
      rw [b3]
      by_cases e1 : j = a 3 + k
      · rw [if_pos e1, if_pos (by omega), e1, Nat.add_sub_cancel_left]; rfl
      · rw [if_neg e1]
        by_cases e2 : a 3 ≤ j ∧ j < a 3 + k
        · rw [if_pos e2, if_pos (by omega)]
        · rw [if_neg e2, if_neg (by omega)]
    rw [e] at hs1
    exact hs1

theorem p_lots {h : Hp} (i : Inv h) (s p : Int32) : PrI yX6_lots cX6_lots 8 yX7_lots cX7_lots 8 [.int s, .int p] h := by
  obtain ⟨⟨a, b, ds, hH, hK⟩, hR, hT, hF, hL, hU⟩ := id i
  obtain ⟨⟨hA, hC, hB, h3, hd⟩, ok, okb, bs, hs⟩ := id hH
  have hO := ok.1
  have hm := hR.1.1
  have hq := hR.1.2
  have o0 := hO.1.1
  have o3 := hO.1.2.2.2.1
  rcases one_cs 20 (by decide) s with hb | ⟨n, n1, n20, rfl⟩
  · exact .same (c_X6_lotsB1 hb) (c_X7_lotsB1 hb) i
  rcases one_cs 2147483646 (by decide) p with hb | ⟨x, x1, xl, rfl⟩
  · exact .same (c_X6_lotsB2 n1 n20 hb) (c_X7_lotsB2 n1 n20 hb) i
  by_cases h0 : a 0 = 0
  · exact .same (c_X6_lotsE hC hO n1 n20 x1 (by omega) h0) (c_X7_lotsE hA hO n1 n20 x1 (by omega) h0) i
  by_cases hf : 40 < a 3 + n
  · exact .same (c_X6_lotsF hC hO h3 n1 n20 x1 (by omega) (by omega) hf) (c_X7_lotsF hA hO n1 n20 x1 (by omega) (by omega) hf) i
  · obtain ⟨h1, ⟨r1, e1, l1, f1⟩, c1⟩ := c_X6_lotsO hC ok h3 n1 n20 x1 (show x < 2147483647 by omega) (by omega) (by omega)
    have c2 := c_X7_lotsO (h := h1) ok n1 n20 x1 (show x < 2147483647 by omega) (by omega) (by omega)
    rw [wN_of (hA.fp f1)] at c2
    obtain ⟨b1, b3⟩ := lot_ok (x := x) ok (by omega) (k1 := n) (by omega)
    refine ⟨_, _, _, _, _, by decide, by decide, c1, c2, Inv.cgH (b := b) (a := lotA a x n) (ds := dsL a x ds n) ⟨hK, i.2⟩ (show h1.2 = h.2 from f1.1) (fun x y q => ?_) ⟨⟨RMw _ _, ?_, ?_, ?_, fun y hy => ?_⟩, b1, okb, bs, hs.lots ok okb bs.1 (by omega) n (by omega)⟩⟩
    · rw [wN_o (by omega)]; exact f1.2 x y (by omega) (by omega)
    · exact r1.to (fun x y q => wN_o (by have := q.2.1; omega))
    · exact hB.cg (fun x y q => (wN_o (by omega)).trans (f1.2 x y (by omega) (by omega)))
    · rw [wN_o (by decide), b3]; exact e1
    · rw [b3] at hy
      rw [wN_o (by decide), l1 y]
      simp only [dsL]
      by_cases e : a 3 ≤ y ∧ y < a 3 + n
      · rw [if_pos e, if_pos e]
      · rw [if_neg e, if_neg e]; exact hd y (by omega)

theorem p_harbour {h : Hp} (i : Inv h) (s : Int32) : PrI yX6_harbour cX6_harbour 4 yX7_harbour cX7_harbour 3 [.int s] h := by
  obtain ⟨⟨a, b, ds, hH, hK⟩, hR, hT, hF, hL, hU⟩ := id i
  obtain ⟨⟨hA, hC, hB, h3, hd⟩, ok, okb, bs, hs⟩ := id hH
  have hO := ok.1
  have hm := hR.1.1
  have hq := hR.1.2
  have tm := hT.1.1
  rcases rng_cs 4 (by decide) s with hb | ⟨k, hk, rfl⟩
  · exact .same (c_X6_harbourB tm hb) (c_X7_harbourB hb) i
  rcases hT.cs hk with ⟨z1, z2⟩ | ⟨m, hm6, z1, z2⟩
  · exact .find (c_X6_harbourM tm hk z1) (c_X7_harbourM hk (fC z2)) i
  have ev := (hT.2 k hk).2.2
  obtain ⟨h1, c1, f1⟩ := read_35 (f := h.1 (12 + 1 + k)) (h := h) hk (fun _ _ => rfl) hm6
  have cf := c_X6_faultO tm hk z1 hm6 c1
  rcases ans_cs (h.1 (12 + 1 + k)) m with ⟨hw, hn, ea⟩ | ea
  · rw [ea] at cf
    have hP := PA_prs hw
    obtain ⟨h2, c2, f2, b2⟩ := read_24 (f := h.1 (12 + 1 + k)) (h := h1) hk (fun j hj => f1.2 _ _ (by omega)) hm6 hw
    have q2 : ∀ x y, ¬ (24 ≤ x ∧ x ≤ 29) → ¬ (35 ≤ x ∧ x ≤ 40) → h2.1 x y = h.1 x y := fun x y e1 e2 => (f2.2 x y (by omega)).trans (f1.2 x y (by omega))
    have c3 := c_X6_harbourO cf hk ((f1.2 11 k (by omega)).trans z1) hm6 c2 b2 hP.base hP.okB.1 ((q2 17 0 (by omega) (by omega)).trans hK.1.1)
    generalize hg : fil (setl (bg0 h2 (prs (h.1 (12 + 1 + k)) m).2) (prs (h.1 (12 + 1 + k)) m).2) 18 0 3 (-1) = g at c3
    have go : ∀ x y, x ≠ 18 → x ≠ 23 → ¬ (30 ≤ x ∧ x ≤ 34) → g.1 x y = h2.1 x y := fun x y e1 e2 e3 => by
      rw [← hg, fil_ne e1, setl_ne (by omega) (by omega), bg0, ui_ne e2, ui_ne e2, ui_ne e2, ui_ne e2, ui_ne e2, ui_ne e2, fil_ne (by omega), fil_ne (by omega)]
    have qg : ∀ x y, x ≠ 18 → ¬ (23 ≤ x ∧ x ≤ 40) → g.1 x y = h.1 x y := fun x y e1 e2 => (go x y e1 (by omega) (by omega)).trans (q2 x y (by omega) (by omega))
    have rc : RC (prs (h.1 (12 + 1 + k)) m).2 g := by
      rw [← hg]
      exact (RC_setl (RC_bg0 b2 hP.base hP.1.1)).to (fun x y q => fil_ne (by have := q.1; omega))
    have g6 : g.1 23 6 = nI 0 := by
      rw [← hg, fil_ne (by omega), setl_ne (by omega) (by omega)]; rfl
    have g18 : ∀ q, q < 3 → g.1 18 q = -1 := fun q hq => by
      rw [← hg]; exact if_pos ⟨rfl, by omega, by omega⟩
    obtain ⟨d, d1, c4⟩ := reads_ok (f := h.1 (12 + 1 + k)) (h := g) hk ((qg 54 k (by omega) (by omega)).trans z2) hm6 (fun j hj => (qg 55 _ (by omega) (by omega)).trans (ev j hj))
    rw [ea] at c4
    have d2 := d1 hw
    have c5 := c_X7_harbourO (n := (prs (h.1 (12 + 1 + k)) m).2 0) hk ((qg 54 k (by omega) (by omega)).trans z2) hm6 c4 ((rdH_d (by decide)).trans (d2 0 (by decide)))
    generalize hr : rdH g d (prs (h.1 (12 + 1 + k)) m).1 = r at c5
    have ro : ∀ x y, x ≠ 57 → ¬ (x = 50 ∧ (y = 19 ∨ y = 20)) → r.1 x y = g.1 x y := fun x y e1 e2 => by
      rw [← hr]
      by_cases e : x = 50
      · subst e; exact rdH_50 (by omega) (by omega)
      · exact rdH_o e1 e
    have fo : ∀ x y, x ≠ 57 → ¬ (x = 50 ∧ (y = 19 ∨ y = 20)) → x ≠ 56 → x ≠ 59 → (fil (ucp r 57 0 56 0 215) 59 0 3 (nI 0)).1 x y = g.1 x y := fun x y e1 e2 e3 e4 => by
      rw [fil_ne e4, ucp_ne e3]; exact ro x y e1 e2
    have fh : ∀ x y, (x ≤ 17 ∨ x = 49 ∨ (x = 50 ∧ (y = 10 ∨ y = 11)) ∨ x = 51 ∨ x = 52 ∨ x = 54 ∨ x = 55 ∨ x = 60) → (fil (ucp r 57 0 56 0 215) 59 0 3 (nI 0)).1 x y = h.1 x y := fun x y q => (fo x y (by omega) (by omega) (by omega) (by omega)).trans (qg x y (by omega) (by omega))
    refine ⟨_, _, _, _, _, by decide, by decide, c3, c5, ⟨(prs (h.1 (12 + 1 + k)) m).2, (prs (h.1 (12 + 1 + k)) m).2, ds, ⟨⟨fun j hj => ?_, ?_, ?_, ?_, fun y hy => ?_⟩, hP.okB, hP.okB, hP.base, ⟨?_, ?_⟩, fun x hx => ?_⟩, ⟨(fh 17 0 (by omega)).trans hK.1.1, (fh 17 1 (by omega)).trans hK.1.2⟩, fun q hq => Or.inl ⟨?_, ?_⟩⟩, hR.cg (fun x y q => fh x y (by omega)), hT.cg (fun x y q => fh x y (by omega)), hF.cg (fun x y q => fh x y (by omega)), hL.cg (fun x y q => fh x y (by omega)), hU.cg ?_⟩
    · rw [fil_ne (by omega)]
      simp only [ucp, true_and]
      rw [if_pos (by omega), show 0 + (j - 0) = j by omega, ← hr, rdH_d hj]
      exact d2 j hj
    · exact rc.to (fun x y q => fo x y (by have := q.2.1; omega) (by have := q.2.1; omega) (by have := q.2.1; omega) (by have := q.2.1; omega))
    · exact b2.cg (fun x y q => (fo x y (by omega) (by omega) (by omega) (by omega)).trans (go x y (by omega) (by omega) (by omega)))
    · rw [fo 23 6 (by omega) (by omega) (by omega) (by omega), hP.base.1]; exact g6
    · rw [hP.base.1] at hy; omega
    · rw [hP.base.1]; omega
    · rw [hP.base.1]; exact fun q hq => absurd hq (Nat.not_lt_zero _)
    · rw [hP.base.1]; rfl
    · exact if_pos ⟨rfl, by omega, by omega⟩
    · rw [fo 18 q (by omega) (by omega) (by omega) (by omega)]; exact g18 q hq
    · show r.2 = h.2
      rw [← hr]
      show g.2 = h.2
      rw [← hg]
      show h2.2 = h.2
      rw [f2.1, f1.1]
  · rw [ea] at cf
    have ql : (prs (h.1 (12 + 1 + k)) m).1.1 ≤ 60 := Nat.le_trans prs_le hm6
    obtain ⟨d, -, c2⟩ := reads_ok (f := h.1 (12 + 1 + k)) (h := h1) hk ((f1.2 54 k (by omega)).trans z2) hm6 (fun j hj => (f1.2 55 _ (by omega)).trans (ev j hj))
    rw [ea] at c2
    refine ⟨_, _, _, _, _, by decide, by decide, c_X6_harbourE cf ql, c_X7_harbourE hk ((f1.2 54 k (by omega)).trans z2) hm6 c2 ql, i.cg (show (rdH h1 d (prs (h.1 (12 + 1 + k)) m).1).2 = h.2 from f1.1) (fun x y q => ?_)⟩
    have g : h1.1 x y = h.1 x y := f1.2 x y (by omega)
    by_cases e : x = 50
    · subst e; rw [rdH_50 (by omega) (by omega)]; exact g
    · rw [rdH_o (by omega) e]; exact g
