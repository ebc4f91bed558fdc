theorem IR.cs {h : Hp} (i : IR h) {k : Nat} (hk : k < 6) : (h.1 2 k = -1 ∧ h.1 51 k = -1) ∨ ∃ m, m ≤ 40 ∧ h.1 2 k = nI m ∧ h.1 51 k = nI m := by
  obtain ⟨e, ⟨n, hn, h1 | ⟨h1, -⟩⟩, -⟩ := i.2 k hk
  · exact Or.inr ⟨n, hn, h1, e.trans h1⟩
  · exact Or.inl ⟨h1, e.trans h1⟩
theorem IT.cs {h : Hp} (i : IT h) {k : Nat} (hk : k < 4) : (h.1 11 k = -1 ∧ h.1 54 k = -1) ∨ ∃ m, m ≤ 60 ∧ h.1 11 k = nI m ∧ h.1 54 k = nI m := by
  obtain ⟨e, ⟨n, hn, h1 | ⟨h1, -⟩⟩, -⟩ := i.2 k hk
  · exact Or.inr ⟨n, hn, h1, e.trans h1⟩
  · exact Or.inl ⟨h1, e.trans h1⟩
theorem fC {h : Hp} {f x y : Nat} {v : Int32} (e : h.1 x y = v) (h1 : x ≠ 0 := by decide) (h2 : x ≠ 49 := by decide) : (finC h f).1 x y = v := (finC_o h1 h2).trans e
theorem RM.fC {a : Nat → Nat} {h : Hp} (hA : RM a h) (f : Nat) : RM a (finC h f) := fun j hj => (finC_o (by decide) (by decide)).trans (hA j hj)
theorem RM.tl {a : Nat → Nat} {h : Hp} (hA : RM a h) (v : Int32) : RM a (ui h 0 10 v) := fun j hj => (ui_ne (by decide)).trans (hA j hj)
/-- a row's sizes and places, changed alike -/
theorem IR.set {h g : Hp} (i : IR h) {k : Nat} (hk : k < 6) (e1 : ∀ y, g.1 1 y = h.1 1 y) (ez : ∀ y, y ≠ k → g.1 2 y = h.1 2 y ∧ g.1 51 y = h.1 51 y) (n : Nat) (hn : n ≤ 40) (hz : g.1 51 k = g.1 2 k) (hz2 : g.1 2 k = nI n ∨ (g.1 2 k = -1 ∧ n = 0)) (ep : ∀ q j, q < 6 → q ≠ k → j < 40 → g.1 52 (40 * q + j) = h.1 52 (40 * q + j) ∧ g.1 (3 + 1 + q) j = h.1 (3 + 1 + q) j) (hp : ∀ j, j < 40 → g.1 52 (40 * k + j) = g.1 (3 + 1 + k) j) : IR g := by
  obtain ⟨⟨i1, i2⟩, i3⟩ := i
  refine ⟨⟨by rw [e1]; exact i1, by rw [e1]; exact i2⟩, fun q hq => ?_⟩
  by_cases e : q = k
  · subst e; exact ⟨hz, ⟨n, hn, hz2⟩, hp⟩
  · obtain ⟨j1, j2, j3⟩ := i3 q hq
    obtain ⟨z1, z2⟩ := ez q e
    rw [z1, z2]
    exact ⟨j1, j2, fun j hj => by rw [(ep q j hq e hj).1, (ep q j hq e hj).2]; exact j3 j hj⟩
theorem IT.set {h g : Hp} (i : IT h) {k : Nat} (hk : k < 4) (e1 : ∀ y, g.1 10 y = h.1 10 y) (ez : ∀ y, y ≠ k → g.1 11 y = h.1 11 y ∧ g.1 54 y = h.1 54 y) (n : Nat) (hn : n ≤ 60) (hz : g.1 54 k = g.1 11 k) (hz2 : g.1 11 k = nI n ∨ (g.1 11 k = -1 ∧ n = 0)) (ep : ∀ q j, q < 4 → q ≠ k → j < 60 → g.1 55 (60 * q + j) = h.1 55 (60 * q + j) ∧ g.1 (12 + 1 + q) j = h.1 (12 + 1 + q) j) (hp : ∀ j, j < 60 → g.1 55 (60 * k + j) = g.1 (12 + 1 + k) j) : IT g := by
  obtain ⟨⟨i1, i2⟩, i3⟩ := i
  refine ⟨⟨by rw [e1]; exact i1, by rw [e1]; exact i2⟩, fun q hq => ?_⟩
  by_cases e : q = k
  · subst e; exact ⟨hz, ⟨n, hn, hz2⟩, hp⟩
  · obtain ⟨j1, j2, j3⟩ := i3 q hq
    obtain ⟨z1, z2⟩ := ez q e
    rw [z1, z2]
    exact ⟨j1, j2, fun j hj => by rw [(ep q j hq e hj).1, (ep q j hq e hj).2]; exact j3 j hj⟩

theorem p_row {h : Hp} (i : Inv h) (s n : Int32) : PrI yX6_row cX6_row 3 yX7_row cX7_row 3 [.int s, .int n] h := by
  obtain ⟨⟨a, b, ds, hH, hK⟩, hR, hT, hF, hL, hU⟩ := id i
  obtain ⟨⟨hA, hC, hB, h3, hd⟩, ok, okb, bs, hs⟩ := id hH
  have hO := ok.1
  have hm := hR.1.1
  have hq := hR.1.2
  rcases rng_cs 6 (by decide) s with hb | ⟨k, hk, rfl⟩
  · exact .same (c_X6_rowB hm hb) (c_X7_rowB hb) i
  rcases siz_cs 40 (by decide) n with hn | hn | ⟨z, hz, rfl⟩
  · exact .find (c_X6_rowS hm hq hk hn) (c_X7_rowS hk hn) i
  · exact .same (c_X6_rowG hm hq hk hn) (c_X7_rowG hk hn) i
  · refine ⟨_, _, _, _, _, by decide, by decide, c_X6_rowO hm hq hk hz, c_X7_rowO hk hz, i.cgR rfl (fun x y q => ?_) (hR.set hk (fun y => ?_) (fun y e => ⟨?_, ?_⟩) z hz ?_ (Or.inl ?_) (fun q j hq e hj => ⟨?_, ?_⟩) (fun j hj => ?_))⟩
    · simp only [layM, fil, ui]; (repeat rw [if_neg (by omega)])
    · simp only [layM, fil, ui]; (repeat rw [if_neg (by omega)])
    · simp only [layM, fil, ui]; (repeat rw [if_neg (by omega)])
    · simp only [layM, fil, ui]; (repeat rw [if_neg (by omega)])
    · simp only [layM, fil, ui]; rw [if_neg (by omega), if_pos (by first | omega | (simp; done) | (simp; omega)), if_neg (by omega), if_neg (by omega), if_neg (by omega), if_pos (by first | omega | (simp; done) | (simp; omega))]
    · simp only [layM, fil, ui]; rw [if_neg (by omega), if_neg (by omega), if_neg (by omega), if_pos (by first | omega | (simp; done) | (simp; omega))]
    · simp only [layM, fil, ui]; (repeat rw [if_neg (by omega)])
    · simp only [layM, fil, ui]; (repeat rw [if_neg (by omega)])
    · simp only [layM, fil, ui]; rw [if_pos (by first | omega | (simp; done) | (simp; omega)), if_neg (by omega), if_neg (by omega), if_pos (by first | omega | (simp; done) | (simp; omega))]

theorem p_lay {h : Hp} (i : Inv h) (s u v : Int32) : PrI yX6_lay cX6_lay 5 yX7_lay cX7_lay 5 [.int s, .int u, .int v] h := by
  obtain ⟨⟨a, b, ds, hH, hK⟩, hR, hT, hF, hL, hU⟩ := id i
  obtain ⟨⟨hA, hC, hB, h3, hd⟩, ok, okb, bs, hs⟩ := id hH
  have hO := ok.1
  have hm := hR.1.1
  have hq := hR.1.2
  rcases rng_cs 6 (by decide) s with hb | ⟨k, hk, rfl⟩
  · exact .same (c_X6_layB hm hb) (c_X7_layB hb) i
  rcases hR.cs hk with ⟨z1, z2⟩ | ⟨m, hm6, z1, z2⟩
  · exact .find (c_X6_layM hm hk z1) (c_X7_layM hk (fC z2)) i
  rcases rng_cs m (by omega) u with hb | ⟨j, hj, rfl⟩
  · exact .find (c_X6_layY hm hk z1 hm6 hb) (c_X7_layY hk (fC z2) hm6 hb) i
  · have ev := (hR.2 k hk).2.2
    have ev2 := ev j (by omega)
    refine ⟨_, _, _, _, _, by decide, by decide, c_X6_layO hm hk z1 hm6 hj, c_X7_layO hk (m := m) (by rw [ui_ne (by omega), ui_ne (by omega)]; exact z2) hm6 hj, i.cgRL rfl (fun x y q => ?_) (hR.set hk (fun y => ?_) (fun y e => ⟨?_, ?_⟩) m hm6 ?_ (Or.inl ?_) (fun q j hq e hj => ⟨?_, ?_⟩) (fun j2 hj2 => ?_)) ?_⟩
    · simp only [ui]; (repeat rw [if_neg (by omega)])
    · simp only [ui]; (repeat rw [if_neg (by omega)])
    · simp only [ui]; (repeat rw [if_neg (by omega)])
    · simp only [ui]; (repeat rw [if_neg (by omega)])
    · simp only [ui]; (repeat rw [if_neg (by omega)]); exact z2.trans z1.symm
    · simp only [ui]; (repeat rw [if_neg (by omega)]); exact z1
    · simp only [ui]; (repeat rw [if_neg (by omega)])
    · simp only [ui]; (repeat rw [if_neg (by omega)])
    · simp only [ui]
      by_cases e : j2 = j
      · subst e; rw [if_pos (by first | omega | (simp; done) | (simp; omega)), if_neg (by omega), if_neg (by omega), if_pos (by first | omega | (simp; done) | (simp; omega))]
      · (repeat rw [if_neg (by omega)]); exact ev j2 hj2
    · simp only [IL, ui]; rw [if_neg (by omega), if_neg (by omega), if_neg (by omega), if_pos (by first | omega | (simp; done) | (simp; omega)), if_neg (by omega), if_pos (by first | omega | (simp; done) | (simp; omega)), if_neg (by omega), if_neg (by omega)]; exact ev2.symm

theorem p_at {h : Hp} (i : Inv h) (s u : Int32) : PrI yX6_at cX6_at 4 yX7_at cX7_at 3 [.int s, .int u] h := by
  obtain ⟨⟨a, b, ds, hH, hK⟩, hR, hT, hF, hL, hU⟩ := id i
  obtain ⟨⟨hA, hC, hB, h3, hd⟩, ok, okb, bs, hs⟩ := id hH
  have hO := ok.1
  have hm := hR.1.1
  have hq := hR.1.2
  rcases rng_cs 6 (by decide) s with hb | ⟨k, hk, rfl⟩
  · exact .same (c_X6_atB hm hb) (c_X7_atB hb) i
  rcases hR.cs hk with ⟨z1, z2⟩ | ⟨m, hm6, z1, z2⟩
  · exact .find (c_X6_atM hm hk z1) (c_X7_atM hk (fC z2)) i
  rcases rng_cs m (by omega) u with hb | ⟨j, hj, rfl⟩
  · exact .find (c_X6_atY hm hk z1 hm6 hb) (c_X7_atY hk (fC z2) hm6 hb) i
  · have ev2 := (hR.2 k hk).2.2 j (by omega)
    have c2 := c_X7_atO (h := ui h 0 10 (h.1 (3 + 1 + k) j)) hk (m := m) (by rw [ui_ne (by omega)]; exact z2) hm6 hj
    rw [ui_ne (show 52 ≠ 0 by decide), ev2] at c2
    exact .tell (c_X6_atO hm hk z1 hm6 hj) c2 i

theorem p_tear {h : Hp} (i : Inv h) (s : Int32) : PrI yX6_tear cX6_tear 3 yX7_tear cX7_tear 2 [.int s] h := by
  obtain ⟨⟨a, b, ds, hH, hK⟩, hR, hT, hF, hL, hU⟩ := id i
  obtain ⟨⟨hA, hC, hB, h3, hd⟩, ok, okb, bs, hs⟩ := id hH
  have hO := ok.1
  have hm := hR.1.1
  have hq := hR.1.2
  rcases rng_cs 6 (by decide) s with hb | ⟨k, hk, rfl⟩
  · exact .same (c_X6_tearB hm hb) (c_X7_tearB hb) i
  rcases hR.cs hk with ⟨z1, z2⟩ | ⟨m, hm6, z1, z2⟩
  · exact .find (c_X6_tearM hm hk z1) (c_X7_tearM hk (fC z2)) i
  · have ev := (hR.2 k hk).2.2
    refine ⟨_, _, _, _, _, by decide, by decide, c_X6_tearO hm hk z1 hm6, c_X7_tearO hk (m := m) (by rw [ui_ne (by omega)]; exact z2) hm6, i.cgR rfl (fun x y q => ?_) (hR.set hk (fun y => ?_) (fun y e => ⟨?_, ?_⟩) 0 (by omega) ?_ (Or.inr ⟨?_, rfl⟩) (fun q j hq e hj => ⟨?_, ?_⟩) (fun j2 hj2 => ?_))⟩
    · simp only [ui]; (repeat rw [if_neg (by omega)])
    · simp only [ui]; (repeat rw [if_neg (by omega)])
    · simp only [ui]; (repeat rw [if_neg (by omega)])
    · simp only [ui]; (repeat rw [if_neg (by omega)])
    · simp only [ui]; rw [if_pos (by first | omega | (simp; done) | (simp; omega)), if_neg (by omega), if_pos (by first | omega | (simp; done) | (simp; omega))]
    · simp only [ui]; rw [if_neg (by omega), if_pos (by first | omega | (simp; done) | (simp; omega))]
    · simp only [ui]; (repeat rw [if_neg (by omega)])
    · simp only [ui]; (repeat rw [if_neg (by omega)])
    · simp only [ui]; (repeat rw [if_neg (by omega)]); exact ev j2 hj2

theorem sumL_cg {f g : Nat → Int32} {n : Nat} (h : ∀ j, j < n → f j = g j) : sumL f n = sumL g n := by
  induction n with
  | zero => rfl
  | succ n ih => simp only [sumL]; rw [ih (fun j hj => h j (by omega)), h n (by omega)]

theorem p_mean {h : Hp} (i : Inv h) (s : Int32) : PrI yX6_mean cX6_mean 7 yX7_mean cX7_mean 5 [.int s] h := by
  obtain ⟨⟨a, b, ds, hH, hK⟩, hR, hT, hF, hL, hU⟩ := id i
  obtain ⟨⟨hA, hC, hB, h3, hd⟩, ok, okb, bs, hs⟩ := id hH
  have hO := ok.1
  have hm := hR.1.1
  have hq := hR.1.2
  rcases rng_cs 6 (by decide) s with hb | ⟨k, hk, rfl⟩
  · exact .same (c_X6_meanB hm hb) (c_X7_meanB hb) i
  rcases hR.cs hk with ⟨z1, z2⟩ | ⟨m, hm6, z1, z2⟩
  · exact .find (c_X6_meanM hm hk z1) (c_X7_meanM hk (fC z2)) i
  by_cases h0 : m = 0
  · subst h0
    exact .find (c_X6_meanN hm hk z1) (c_X7_meanN hk (fC z2)) i
  · have ev := (hR.2 k hk).2.2
    exact .tell (c_X6_meanO hm hk z1 hm6 (by omega)) (c_X7_meanO hk (m := m) (by rw [ui_ne (by omega)]; exact z2) hm6 (by omega) (f := h.1 (3 + 1 + k)) (fun j hj => by rw [ui_ne (by omega)]; exact ev j hj)) i

theorem p_text {h : Hp} (i : Inv h) (s n : Int32) : PrI yX6_text cX6_text 3 yX7_text cX7_text 4 [.int s, .int n] h := by
  obtain ⟨⟨a, b, ds, hH, hK⟩, hR, hT, hF, hL, hU⟩ := id i
  obtain ⟨⟨hA, hC, hB, h3, hd⟩, ok, okb, bs, hs⟩ := id hH
  have hO := ok.1
  have hm := hR.1.1
  have hq := hR.1.2
  have tm := hT.1.1
  have tq := hT.1.2
  rcases rng_cs 4 (by decide) s with hb | ⟨k, hk, rfl⟩
  · exact .same (c_X6_textB tm hb) (c_X7_textB hb) i
  rcases siz_cs 60 (by decide) n with hn | hn | ⟨z, hz, rfl⟩
  · exact .find (c_X6_textS tm tq hk hn) (c_X7_textS hk hn) i
  · exact .same (c_X6_textG tm tq hk hn) (c_X7_textG hk hn) i
  · refine ⟨_, _, _, _, _, by decide, by decide, c_X6_textO tm tq hk hz, c_X7_textO hk hz, i.cgT rfl (fun x y q => ?_) (hT.set hk (fun y => ?_) (fun y e => ⟨?_, ?_⟩) z hz ?_ (Or.inl ?_) (fun q j hq e hj => ⟨?_, ?_⟩) (fun j hj => ?_))⟩
    · simp only [layT, fil, ui]; (repeat rw [if_neg (by omega)])
    · simp only [layT, fil, ui]; (repeat rw [if_neg (by omega)])
    · simp only [layT, fil, ui]; (repeat rw [if_neg (by omega)])
    · simp only [layT, fil, ui]; (repeat rw [if_neg (by omega)])
    · simp only [layT, fil, ui]; rw [if_neg (by omega), if_pos (by first | omega | (simp; done) | (simp; omega)), if_neg (by omega), if_neg (by omega), if_neg (by omega), if_pos (by first | omega | (simp; done) | (simp; omega))]
    · simp only [layT, fil, ui]; rw [if_neg (by omega), if_neg (by omega), if_neg (by omega), if_pos (by first | omega | (simp; done) | (simp; omega))]
    · simp only [layT, fil, ui]; (repeat rw [if_neg (by omega)])
    · simp only [layT, fil, ui]; (repeat rw [if_neg (by omega)])
    · simp only [layT, fil, ui]; rw [if_pos (by first | omega | (simp; done) | (simp; omega)), if_neg (by omega), if_neg (by omega), if_pos (by first | omega | (simp; done) | (simp; omega))]

theorem p_put {h : Hp} (i : Inv h) (s u v : Int32) : PrI yX6_put cX6_put 6 yX7_put cX7_put 5 [.int s, .int u, .int v] h := by
  obtain ⟨⟨a, b, ds, hH, hK⟩, hR, hT, hF, hL, hU⟩ := id i
  obtain ⟨⟨hA, hC, hB, h3, hd⟩, ok, okb, bs, hs⟩ := id hH
  have hO := ok.1
  have hm := hR.1.1
  have hq := hR.1.2
  have tm := hT.1.1
  rcases rng_cs 4 (by decide) s with hb | ⟨k, hk, rfl⟩
  · exact .same (c_X6_putB tm hb) (c_X7_putB hb) i
  rcases hT.cs hk with ⟨z1, z2⟩ | ⟨m, hm6, z1, z2⟩
  · exact .find (c_X6_putM tm hk z1) (c_X7_putM hk (fC z2)) i
  rcases rng_cs m (by omega) u with hb | ⟨j, hj, rfl⟩
  · exact .find (c_X6_putY tm hk z1 hm6 hb) (c_X7_putY hk (fC z2) hm6 hb) i
  · have ev := (hT.2 k hk).2.2
    have ev2 := ev j (by omega)
    have c2 := c_X7_putO (h := ui h (12 + 1 + k) j v.toInt8.toInt32) (v := v) hk (m := m) (by rw [ui_ne (by omega)]; exact z2) hm6 hj
    rw [ui_ne (show 55 ≠ 12 + 1 + k by omega), ev2] at c2
    refine ⟨_, _, _, _, _, by decide, by decide, c_X6_putO tm hk z1 hm6 hj, c2, i.cgT rfl (fun x y q => ?_) (hT.set hk (fun y => ?_) (fun y e => ⟨?_, ?_⟩) m hm6 ?_ (Or.inl ?_) (fun q j hq e hj => ⟨?_, ?_⟩) (fun j2 hj2 => ?_))⟩
    · simp only [ui]; (repeat rw [if_neg (by omega)])
    · simp only [ui]; (repeat rw [if_neg (by omega)])
    · simp only [ui]; (repeat rw [if_neg (by omega)])
    · simp only [ui]; (repeat rw [if_neg (by omega)])
    · simp only [ui]; (repeat rw [if_neg (by omega)]); exact z2.trans z1.symm
    · simp only [ui]; (repeat rw [if_neg (by omega)]); exact z1
    · simp only [ui]; (repeat rw [if_neg (by omega)])
    · simp only [ui]; (repeat rw [if_neg (by omega)])
    · simp only [ui]
      by_cases e : j2 = j
      · subst e; rw [if_pos (by first | omega | (simp; done) | (simp; omega)), if_neg (by omega), if_pos (by first | omega | (simp; done) | (simp; omega))]
      · (repeat rw [if_neg (by omega)]); exact ev j2 hj2

theorem p_copy {h : Hp} (i : Inv h) (r u t v n : Int32) : PrI yX6_copy cX6_copy 6 yX7_copy cX7_copy 7 [.int r, .int u, .int t, .int v, .int n] h := by
  obtain ⟨⟨a, b, ds, hH, hK⟩, hR, hT, hF, hL, hU⟩ := id i
  obtain ⟨⟨hA, hC, hB, h3, hd⟩, ok, okb, bs, hs⟩ := id hH
  have hO := ok.1
  have hm := hR.1.1
  have hq := hR.1.2
  rcases rng_cs 6 (by decide) r with hb | ⟨k, hk, rfl⟩
  · exact .same (c_X6_copyB1 hm hb) (c_X7_copyB1 hb) i
  rcases rng_cs 6 (by decide) t with hb | ⟨q, hl, rfl⟩
  · exact .same (c_X6_copyB2 hm hk hb) (c_X7_copyB2 hk hb) i
  rcases nn_cs n with hn | ⟨n, hn, rfl⟩
  · exact .find (c_X6_copyS hm hk hl hn) (c_X7_copyS hk hl hn) i
  rcases hR.cs hk with ⟨z1, z2⟩ | ⟨m, hm6, z1, z2⟩
  · exact .find (c_X6_copyM1 hm hk hl hn z1) (c_X7_copyM1 hk hl hn (fC z2)) i
  rcases hR.cs hl with ⟨y1, y2⟩ | ⟨p, hp6, y1, y2⟩
  · exact .find (c_X6_copyM2 hm hk hl hn z1 hm6 y1) (c_X7_copyM2 hk hl hn (fC z2) hm6 (fC y2)) i
  have y1i : ∀ {u : Int32}, u < 0 → (u < 0 ∨ nI m < u) := fun z => Or.inl z
  rcases nn_cs u with hu | ⟨f, hf2, rfl⟩
  · exact .find (c_X6_copyY1 hm hk hl hn z1 hm6 y1 hp6 (Or.inl hu)) (c_X7_copyYi hk hl hn (fC z2) hm6 (fC y2) hp6 hu) i
  rcases nn_cs v with hv | ⟨g, hg2, rfl⟩
  · have c2 := c_X7_copyYj (h := finC h 2) hk hl hn (fC z2) hm6 (fC y2) hp6 hf2 hv
    by_cases a1 : m < f
    · exact .find (c_X6_copyY1 hm hk hl hn z1 hm6 y1 hp6 (Or.inr (by rw [Int32.lt_iff_toInt_lt, nI_toInt (by omega), nI_toInt hf2]; omega))) c2 i
    by_cases a2 : m < f + n
    · exact .find (c_X6_copyY2 hm hk hl hn z1 hm6 y1 hp6 (by omega) a2) c2 i
    · exact .find (c_X6_copyY3 hm hk hl hn z1 hm6 y1 hp6 (by omega) (Or.inl hv)) c2 i
  by_cases a1 : m < f
  · exact .find (c_X6_copyY1 hm hk hl hn z1 hm6 y1 hp6 (Or.inr (by rw [Int32.lt_iff_toInt_lt, nI_toInt (by omega), nI_toInt hf2]; omega))) (c_X7_copyY1 hk hl hn (fC z2) hm6 (fC y2) hp6 hf2 hg2 (by omega)) i
  by_cases a2 : m < f + n
  · exact .find (c_X6_copyY2 hm hk hl hn z1 hm6 y1 hp6 (by omega) a2) (c_X7_copyY1 hk hl hn (fC z2) hm6 (fC y2) hp6 hf2 hg2 a2) i
  by_cases a3 : p < g
  · exact .find (c_X6_copyY3 hm hk hl hn z1 hm6 y1 hp6 (by omega) (Or.inr (by rw [Int32.lt_iff_toInt_lt, nI_toInt (by omega), nI_toInt hg2]; omega))) (c_X7_copyY2 hk hl hn (fC z2) hm6 (fC y2) hp6 hf2 hg2 (by omega) (by omega)) i
  by_cases a4 : p < g + n
  · exact .find (c_X6_copyY4 hm hk hl hn z1 hm6 y1 hp6 (by omega) (by omega) a4) (c_X7_copyY2 hk hl hn (fC z2) hm6 (fC y2) hp6 hf2 hg2 (by omega) a4) i
  · have ev := (hR.2 k hk).2.2
    have ev2 := (hR.2 q hl).2.2
    refine ⟨_, _, _, _, _, by decide, by decide, c_X6_copyO hm hk hl z1 hm6 y1 hp6 (by omega) (by omega), c_X7_copyO hk hl hn (m := m) (u := p) (by rw [ucp_ne (by omega)]; exact z2) hm6 (by rw [ucp_ne (by omega)]; exact y2) hp6 hf2 hg2 (by omega) (by omega), i.cgR rfl (fun x y q => ?_) (hR.set hl (fun y => ?_) (fun y e => ⟨?_, ?_⟩) p hp6 ?_ (Or.inl ?_) (fun q j hq e hj => ⟨?_, ?_⟩) (fun j2 hj2 => ?_))⟩
    · simp only [ucp]; (repeat rw [if_neg (by omega)])
    · simp only [ucp]; (repeat rw [if_neg (by omega)])
    · simp only [ucp]; (repeat rw [if_neg (by omega)])
    · simp only [ucp]; (repeat rw [if_neg (by omega)])
    · simp only [ucp]; (repeat rw [if_neg (by omega)]); exact y2.trans y1.symm
    · simp only [ucp]; (repeat rw [if_neg (by omega)]); exact y1
    · simp only [ucp]; (repeat rw [if_neg (by omega)])
    · simp only [ucp]; (repeat rw [if_neg (by omega)])
    · simp only [ucp]
      by_cases e : g ≤ j2 ∧ j2 < g + n
      · rw [if_pos (by first | omega | (simp; done) | (simp; omega)), if_pos (by first | omega | (simp; done) | (simp; omega)), if_neg (by omega), if_neg (by omega), if_neg (by omega), if_pos (by first | omega | (simp; done) | (simp; omega)), ← ev _ (by omega)]
        rw [show 40 * k + f + (0 + (40 * q + j2 - (40 * q + g)) - 0) = 40 * k + (f + (j2 - g)) by omega]
      · (repeat rw [if_neg (by omega)]); exact ev2 j2 hj2
