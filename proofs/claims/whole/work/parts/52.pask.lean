theorem p_ship {h : Hp} (i : Inv h) (s x : Int32) : PrI yX6_ship cX6_ship 3 yX7_ship cX7_ship 3 [.int s, .int x] h := by
  obtain ⟨⟨a, b, ds, hH, hK⟩, hR, hT, hF, hL, hU⟩ := id i
  obtain ⟨⟨hA, hC, hB, h3, hd⟩, ok, okb, bs, hs⟩ := id hH
  have hO := ok.1
  have hm := hR.1.1
  have hq := hR.1.2
  have o0 := hO.1.1
  rcases rng_cs (a 0) (by omega) s with hb | ⟨j, hi, rfl⟩
  · exact .same (c_X6_shipB hC hO hb) (c_X7_shipB hA hO hb) i
  rcases rng_cs 9 (by decide) x with hx | ⟨q, hq, rfl⟩
  · exact .same (c_X6_shipB2 hC hO hi hx) (c_X7_shipB2 hA hO hi hx) i
  · exact .tell (c_X6_shipO hC hO hi hq) (c_X7_shipO (hA.tl _) hO hi hq) i

theorem mk_b {x : Int32} (h : x < nI 1 ∨ nI 5 < x) : x ≤ 0 ∨ nI 6 ≤ x := by
  rcases h with h | h
  · rw [Int32.lt_iff_toInt_lt, nI_toInt (by decide)] at h
    exact Or.inl (by rw [Int32.le_iff_toInt_le, Int32.toInt_zero]; omega)
  · rw [Int32.lt_iff_toInt_lt, nI_toInt (by decide)] at h
    exact Or.inr (by rw [Int32.le_iff_toInt_le, nI_toInt (by decide)]; omega)

theorem p_mark {h : Hp} (i : Inv h) (s x : Int32) : PrI yX6_mark cX6_mark 3 yX7_mark cX7_mark 3 [.int s, .int x] h := by
  obtain ⟨⟨a, b, ds, hH, hK⟩, hR, hT, hF, hL, hU⟩ := id i
  obtain ⟨⟨hA, hC, hB, h3, hd⟩, ok, okb, bs, hs⟩ := id hH
  have hO := ok.1
  have hm := hR.1.1
  have hq := hR.1.2
  have o0 := hO.1.1
  rcases rng_cs (a 0) (by omega) s with hb | ⟨j, hi, rfl⟩
  · exact .same (c_X6_markB hC hO hb) (c_X7_markB hA hO hb) i
  rcases one_cs 5 (by decide) x with hx | ⟨q, hq1, hq5, rfl⟩
  · exact .same (c_X6_markB2 hC hO hi (mk_b hx)) (c_X7_markB2 hA hO hi hx) i
  by_cases hk : sh a j 0 = q ∨ (sh a j 0 = 4 ∧ q = 1) ∨ (sh a j 0 = 5 ∧ q = 3)
  · rcases (show q = 1 ∨ q = 2 ∨ q = 3 ∨ q = 4 ∨ q = 5 by omega) with rfl | rfl | rfl | rfl | rfl
    · exact .same (c_X6_markO1 hC hO hi (by omega)) (c_X7_markO1 hA hO hi (by omega)) i
    · exact .same (c_X6_markO2 hC hO hi (by omega)) (c_X7_markO2 hA hO hi (by omega)) i
    · exact .same (c_X6_markO3 hC hO hi (by omega)) (c_X7_markO3 hA hO hi (by omega)) i
    · exact .same (c_X6_markO4 hC hO hi (by omega)) (c_X7_markO4 hA hO hi (by omega)) i
    · exact .same (c_X6_markO5 hC hO hi (by omega)) (c_X7_markO5 hA hO hi (by omega)) i
  · exact .find (c_X6_markU hC hO hi (by omega) (by omega) hk) (c_X7_markU (hA.fC 3) hO hi (by omega) (by omega) hk) i

theorem p_age {h : Hp} (i : Inv h) (s x : Int32) : PrI yX6_age cX6_age 3 yX7_age cX7_age 3 [.int s, .int x] h := by
  obtain ⟨⟨a, b, ds, hH, hK⟩, hR, hT, hF, hL, hU⟩ := id i
  obtain ⟨⟨hA, hC, hB, h3, hd⟩, ok, okb, bs, hs⟩ := id hH
  have hO := ok.1
  have hm := hR.1.1
  have hq := hR.1.2
  have o0 := hO.1.1
  rcases rng_cs (a 0) (by omega) s with hb | ⟨j, hi, rfl⟩
  · exact .same (c_X6_ageB hC hO hb) (c_X7_ageB hA hO hb) i
  rcases siz_cs 999 (by decide) x with hx | hx | ⟨q, hq, rfl⟩
  · exact .same (c_X6_ageB2 hC hO hi (Or.inl hx)) (c_X7_ageB2 hA hO hi (Or.inl hx)) i
  · exact .same (c_X6_ageB2 hC hO hi (Or.inr hx)) (c_X7_ageB2 hA hO hi (Or.inr hx)) i
  · exact .same (c_X6_ageO hC hO hi hq) (c_X7_ageO hA hO hi hq) i

theorem p_hours {h : Hp} (i : Inv h) (s : Int32) : PrI yX6_hours cX6_hours 2 yX7_hours cX7_hours 2 [.int s] h := by
  obtain ⟨⟨a, b, ds, hH, hK⟩, hR, hT, hF, hL, hU⟩ := id i
  obtain ⟨⟨hA, hC, hB, h3, hd⟩, ok, okb, bs, hs⟩ := id hH
  have hO := ok.1
  have hm := hR.1.1
  have hq := hR.1.2
  have o0 := hO.1.1
  rcases rng_cs (a 0) (by omega) s with hb | ⟨j, hi, rfl⟩
  · exact .same (c_X6_hoursB hC hO hb) (c_X7_hoursB hA hO hb) i
  · exact .same (c_X6_hoursO hC hO hi) (c_X7_hoursO hA hO hi) i

theorem p_ground {h : Hp} (i : Inv h) : PrI yX6_ground cX6_ground 3 yX7_ground cX7_ground 3 [] h := by
  obtain ⟨⟨a, b, ds, hH, hK⟩, hR, hT, hF, hL, hU⟩ := id i
  obtain ⟨⟨hA, hC, hB, h3, hd⟩, ok, okb, bs, hs⟩ := id hH
  have hO := ok.1
  have hm := hR.1.1
  have hq := hR.1.2
  have o0 := hO.1.1
  by_cases h0 : a 0 = 0
  · exact .same (c_X6_groundE hC hO h0) (c_X7_groundE hA hO h0) i
  · exact .tell (c_X6_groundO hC hO (by omega)) (c_X7_groundO (hA.tl _) hO (by omega)) i

theorem p_when {h : Hp} (i : Inv h) (s x : Int32) : PrI yX6_when cX6_when 5 yX7_when cX7_when 5 [.int s, .int x] h := by
  obtain ⟨⟨a, b, ds, hH, hK⟩, hR, hT, hF, hL, hU⟩ := id i
  obtain ⟨⟨hA, hC, hB, h3, hd⟩, ok, okb, bs, hs⟩ := id hH
  have hO := ok.1
  have hm := hR.1.1
  have hq := hR.1.2
  have o0 := hO.1.1
  rcases rng_cs (a 0) (by omega) s with hb | ⟨j, hi, rfl⟩
  · exact .same (c_X6_whenB hC hO hb) (c_X7_whenB hA hO hb) i
  rcases rng_cs 6 (by decide) x with hx | ⟨q, hq, rfl⟩
  · exact .same (c_X6_whenB2 hC hO hi hx) (c_X7_whenB2 hA hO hi hx) i
  · exact .same (c_X6_whenO hC hO hi hq) (c_X7_whenO hA hO hi hq) i

theorem p_least {h : Hp} (i : Inv h) (s x : Int32) : PrI yX6_least cX6_least 4 yX7_least cX7_least 5 [.int s, .int x] h := by
  obtain ⟨⟨a, b, ds, hH, hK⟩, hR, hT, hF, hL, hU⟩ := id i
  obtain ⟨⟨hA, hC, hB, h3, hd⟩, ok, okb, bs, hs⟩ := id hH
  have hO := ok.1
  have hm := hR.1.1
  have hq := hR.1.2
  have o0 := hO.1.1
  rcases rng_cs (a 0) (by omega) s with hb | ⟨j, hi, rfl⟩
  · exact .same (c_X6_leastB hC hO hb) (c_X7_leastB hA hO hb) i
  rcases rng_cs 6 (by decide) x with hx | ⟨q, hq, rfl⟩
  · exact .same (c_X6_leastB2 hC hO hi hx) (c_X7_leastB2 hA hO hi hx) i
  · exact .same (c_X6_leastO hC hO hi hq) (c_X7_leastO hA hO hi hq) i

theorem p_built {h : Hp} (i : Inv h) (s x : Int32) : PrI yX6_built cX6_built 6 yX7_built cX7_built 8 [.int s, .int x] h := by
  obtain ⟨⟨a, b, ds, hH, hK⟩, hR, hT, hF, hL, hU⟩ := id i
  obtain ⟨⟨hA, hC, hB, h3, hd⟩, ok, okb, bs, hs⟩ := id hH
  have hO := ok.1
  have hm := hR.1.1
  have hq := hR.1.2
  have o0 := hO.1.1
  rcases rng_cs (a 0) (by omega) s with hb | ⟨j, hi, rfl⟩
  · exact .same (c_X6_builtB hC hO hb) (c_X7_builtB hA hO hb) i
  rcases rng_cs 6 (by decide) x with hx | ⟨q, hq, rfl⟩
  · exact .same (c_X6_builtB2 hC hO hi hx) (c_X7_builtB2 hA hO hi hx) i
  by_cases hz : (blN (buP a j q) 100).1 = 0
  · exact .same (c_X6_builtN hC hO hi hq hz) (c_X7_builtN hA hO hi hq hz) i
  · exact .tell (c_X6_builtO hC hO hi hq hz) (c_X7_builtO (hA.tl _) hO hi hq hz) i

theorem p_wrong {h : Hp} (i : Inv h) (s : Int32) : PrI yX6_wrong cX6_wrong 9 yX7_wrong cX7_wrong 9 [.int s] h := by
  obtain ⟨⟨a, b, ds, hH, hK⟩, hR, hT, hF, hL, hU⟩ := id i
  obtain ⟨⟨hA, hC, hB, h3, hd⟩, ok, okb, bs, hs⟩ := id hH
  have hO := ok.1
  have hm := hR.1.1
  have hq := hR.1.2
  have o0 := hO.1.1
  rcases rng_cs 6 (by decide) s with hb | ⟨k, hk, rfl⟩
  · exact .same (c_X6_wrongB hC hO hm hb) (c_X7_wrongB hb) i
  by_cases h0 : a 0 = 0
  · exact .same (c_X6_wrongE hC hO hm hk h0) (c_X7_wrongE hA hO hk h0) i
  rcases hR.cs hk with ⟨z1, z2⟩ | ⟨m, hm6, z1, z2⟩
  · exact .find (c_X6_wrongM hC hO hm hk (by omega) z1) (c_X7_wrongM (hA.fC 1) hO hk (by omega) (fC z2)) i
  by_cases hu : (onc (a 0) (a 5) (h.1 (3 + 1 + k)) m).1 = true
  · exact .tell (c_X6_wrongO hC hO hm (by omega) hk z1 hm6 (fun _ _ => rfl) hu) (c_X7_wrongO (hA.tl _) hO (by omega) hk ((ui_ne (by decide)).trans z2) hm6 (fun j hj => (ui_ne (by decide)).trans ((hR.2 k hk).2.2 j hj)) hu) i
  · exact .find (c_X6_wrongU hC hO hm (by omega) hk z1 hm6 (fun _ _ => rfl) hu) (c_X7_wrongU (hA.fC 3) hO (by omega) hk (fC z2) hm6 (fun j hj => (finC_o (by decide) (by decide)).trans ((hR.2 k hk).2.2 j hj)) hu) i

theorem p_kinds {h : Hp} (i : Inv h) (s x : Int32) : PrI yX6_kinds cX6_kinds 4 yX7_kinds cX7_kinds 4 [.int s, .int x] h := by
  obtain ⟨⟨a, b, ds, hH, hK⟩, hR, hT, hF, hL, hU⟩ := id i
  obtain ⟨⟨hA, hC, hB, h3, hd⟩, ok, okb, bs, hs⟩ := id hH
  have hO := ok.1
  have hm := hR.1.1
  have hq := hR.1.2
  have o0 := hO.1.1
  rcases rng_cs (a 0) (by omega) s with hb | ⟨j, hi, rfl⟩
  · exact .same (c_X6_kindsB1 hC hO hb) (c_X7_kindsB1 hA hO hb) i
  rcases rng_cs 6 (by decide) x with hx | ⟨k, hk, rfl⟩
  · exact .same (c_X6_kindsB2 hC hO hm hi hx) (c_X7_kindsB2 hA hO hi hx) i
  rcases hR.cs hk with ⟨z1, z2⟩ | ⟨m, hm6, z1, z2⟩
  · exact .find (c_X6_kindsM hC hO hm hi hk z1) (c_X7_kindsM (hA.fC 1) hO hi hk (fC z2)) i
  by_cases ho : m % 2 = 0
  · obtain ⟨u, rfl⟩ : ∃ u, m = 2 * u := ⟨m / 2, by omega⟩
    by_cases hu : ∀ j, j < 2 * u → pok (h.1 (3 + 1 + k)) j = true
    · exact .same (c_X6_kindsO hC hO hm hi hk z1 hm6 hu) (c_X7_kindsO hA hO hi hk z2 hm6 (fun j hj => (hR.2 k hk).2.2 j hj) hu) i
    · exact .find (c_X6_kindsU hC hO hm hi hk z1 hm6 ho hu) (c_X7_kindsU (hA.fC 3) hO hi hk (fC z2) hm6 (fun j hj => (finC_o (by decide) (by decide)).trans ((hR.2 k hk).2.2 j hj)) hu) i
  · exact .find (c_X6_kindsS hC hO hm hi hk z1 hm6 ho) (c_X7_kindsS (hA.fC 5) hO hi hk (fC z2) hm6 ho) i

theorem p_test {h : Hp} (i : Inv h) (s x : Int32) : PrI yX6_test cX6_test 9 yX7_test cX7_test 9 [.int s, .int x] h := by
  obtain ⟨⟨a, b, ds, hH, hK⟩, hR, hT, hF, hL, hU⟩ := id i
  obtain ⟨⟨hA, hC, hB, h3, hd⟩, ok, okb, bs, hs⟩ := id hH
  have hO := ok.1
  have hm := hR.1.1
  have hq := hR.1.2
  have o0 := hO.1.1
  rcases rng_cs (a 0) (by omega) s with hb | ⟨j, hi, rfl⟩
  · exact .same (c_X6_testB1 hC hO hb) (c_X7_testB1 hA hO hb) i
  rcases rng_cs 6 (by decide) x with hx | ⟨k, hk, rfl⟩
  · exact .same (c_X6_testB2 hC hO hm hi hx) (c_X7_testB2 hA hO hi hx) i
  rcases hR.cs hk with ⟨z1, z2⟩ | ⟨m, hm6, z1, z2⟩
  · exact .find (c_X6_testM hC hO hm hi hk z1) (c_X7_testM (hA.fC 1) hO hi hk (fC z2)) i
  by_cases ho : m % 2 = 0
  · obtain ⟨u, rfl⟩ : ∃ u, m = 2 * u := ⟨m / 2, by omega⟩
    by_cases hu : ∀ j, j < 2 * u → pok (h.1 (3 + 1 + k)) j = true
    · by_cases h0 : kndN a j (h.1 (3 + 1 + k)) u = 0
      · exact .same (c_X6_testN hC hO hm hi hk z1 hm6 hu h0) (c_X7_testN hA hO hi hk z2 hm6 (fun j hj => (hR.2 k hk).2.2 j hj) hu h0) i
      · exact .tell (c_X6_testO hC hO hm hi hk z1 hm6 hu h0) (c_X7_testO (hA.tl _) hO hi hk ((ui_ne (by decide)).trans z2) hm6 (fun j hj => (ui_ne (by decide)).trans ((hR.2 k hk).2.2 j hj)) hu h0) i
    · exact .find (c_X6_testU hC hO hm hi hk z1 hm6 ho hu) (c_X7_testU (hA.fC 3) hO hi hk (fC z2) hm6 (fun j hj => (finC_o (by decide) (by decide)).trans ((hR.2 k hk).2.2 j hj)) hu) i
  · exact .find (c_X6_testS hC hO hm hi hk z1 hm6 ho) (c_X7_testS (hA.fC 5) hO hi hk (fC z2) hm6 ho) i

theorem p_duel {h : Hp} (i : Inv h) (x : Int32) : PrI yX6_duel cX6_duel 2 yX7_duel cX7_duel 4 [.int x] h := by
  obtain ⟨⟨a, b, ds, hH, hK⟩, hR, hT, hF, hL, hU⟩ := id i
  obtain ⟨⟨hA, hC, hB, h3, hd⟩, ok, okb, bs, hs⟩ := id hH
  have hO := ok.1
  have hm := hR.1.1
  have hq := hR.1.2
  have o0 := hO.1.1
  rcases siz_cs 5 (by decide) x with hx | hx | ⟨n, hn, rfl⟩
  · exact .same (c_X6_duelB hC hO (Or.inl hx)) (c_X7_duelB (Or.inl hx)) i
  · exact .same (c_X6_duelB hC hO (Or.inr hx)) (c_X7_duelB (Or.inr hx)) i
  by_cases h0 : a 0 = 0
  · exact .same (c_X6_duelE hC hO hn h0) (c_X7_duelE hA hO hn h0) i
  · obtain ⟨v1, co⟩ := c_X3_outcome hC hO hn
    have hA1 : RM a (dH h (2 ^ a 0) (fun y => wC (mmx a n n y)) v1) := fun j hj => by rw [dH, fup_ne (by decide), fup_ne (by decide)]; exact hA j hj
    obtain ⟨h2, f2, c2⟩ := c_X7_duelO hA1 hO hn (by omega)
    refine ⟨_, _, _, _, h2, by decide, by decide, c_X6_duelO hC hO hn (by omega) co, c2, i.cg (f2.1.trans rfl) (fun x y q => ?_)⟩
    rw [f2.2 x y (by omega), dH, fup_ne (by omega), fup_ne (by omega)]

theorem p_odds {h : Hp} (i : Inv h) (s x p : Int32) : PrI yX6_odds cX6_odds 4 yX7_odds cX7_odds 4 [.int s, .int x, .int p] h := by
  obtain ⟨⟨a, b, ds, hH, hK⟩, hR, hT, hF, hL, hU⟩ := id i
  obtain ⟨⟨hA, hC, hB, h3, hd⟩, ok, okb, bs, hs⟩ := id hH
  have hO := ok.1
  have hm := hR.1.1
  have hq := hR.1.2
  have o0 := hO.1.1
  rcases rng_cs (a 0) (by omega) s with hb | ⟨j, hi, rfl⟩
  · exact .same (c_X6_oddsB1 hC hO hb) (c_X7_oddsB1 hA hO hb) i
  rcases rng_cs 6 (by decide) x with hx | ⟨q, hq, rfl⟩
  · exact .same (c_X6_oddsB2 hC hO hi hx) (c_X7_oddsB2 hA hO hi hx) i
  rcases siz_cs 12 (by decide) p with hp | hp | ⟨p, hp, rfl⟩
  · exact .same (c_X6_oddsB3 hC hO hi hq (Or.inl hp)) (c_X7_oddsB3 hA hO hi hq (Or.inl hp)) i
  · exact .same (c_X6_oddsB3 hC hO hi hq (Or.inr hp)) (c_X7_oddsB3 hA hO hi hq (Or.inr hp)) i
  · exact ⟨_, _, _, _, _, by decide, by decide, c_X6_oddsO hC hO hi hq hp, c_X7_oddsO (fun j hj => hA j hj) hO hi hq hp, i.cgU (fun x y => rfl) ⟨by simp [ul], by simp [ul]⟩⟩

theorem p_mid {h : Hp} (i : Inv h) (s p : Int32) : PrI yX6_mid cX6_mid 3 yX7_mid cX7_mid 3 [.int s, .int p] h := by
  obtain ⟨⟨a, b, ds, hH, hK⟩, hR, hT, hF, hL, hU⟩ := id i
  obtain ⟨⟨hA, hC, hB, h3, hd⟩, ok, okb, bs, hs⟩ := id hH
  have hO := ok.1
  have hm := hR.1.1
  have hq := hR.1.2
  have o0 := hO.1.1
  rcases rng_cs (a 0) (by omega) s with hb | ⟨j, hi, rfl⟩
  · exact .same (c_X6_midB1 hC hO hb) (c_X7_midB1 hA hO hb) i
  rcases siz_cs 12 (by decide) p with hp | hp | ⟨p, hp, rfl⟩
  · exact .same (c_X6_midB2 hC hO hi (Or.inl hp)) (c_X7_midB2 hA hO hi (Or.inl hp)) i
  · exact .same (c_X6_midB2 hC hO hi (Or.inr hp)) (c_X7_midB2 hA hO hi (Or.inr hp)) i
  · exact ⟨_, _, _, _, _, by decide, by decide, c_X6_midO hC hO hi hp, c_X7_midO (fun j hj => hA j hj) hO hi hp, i.cgU (fun x y => rfl) ⟨by simp [ul], by simp [ul]⟩⟩

theorem first_no (p : Nat → Bool) (m : Nat) : (∀ k, k < m → p k = true) ∨ ∃ k0, k0 < m ∧ (∀ k, k < k0 → p k = true) ∧ ¬ p k0 = true := by
  induction m with
  | zero => exact Or.inl (fun k hk => absurd hk (Nat.not_lt_zero _))
  | succ m ih =>
    rcases ih with ih | ⟨k0, h1, h2, h3⟩
    · by_cases hp : p m = true
      · exact Or.inl (fun k hk => by
          by_cases e : k = m
          · rw [e]; exact hp
          · exact ih k (by omega))
      · exact Or.inr ⟨m, by omega, ih, hp⟩
    · exact Or.inr ⟨k0, by omega, h2, h3⟩
theorem sQ_o {h : Hp} {q : Qs} {x y : Nat} (hx : x ≠ 41) : (setQ h q).1 x y = h.1 x y := by
  simp only [setQ]
  repeat rw [if_neg (by omega)]

theorem p_order {h : Hp} (i : Inv h) (s : Int32) : PrI yX6_order cX6_order 4 yX7_order cX7_order 3 [.int s] h := by
  obtain ⟨⟨a, b, ds, hH, hK⟩, hR, hT, hF, hL, hU⟩ := id i
  obtain ⟨⟨hA, hC, hB, h3, hd⟩, ok, okb, bs, hs⟩ := id hH
  have hO := ok.1
  have hm := hR.1.1
  have hq := hR.1.2
  have o0 := hO.1.1
  rcases rng_cs 6 (by decide) s with hb | ⟨k, hk, rfl⟩
  · exact .same (c_X6_orderB hC hO hm hb) (c_X7_orderB hb) i
  by_cases h0 : a 0 = 0
  · exact .same (c_X6_orderE hC hO hm hk h0) (c_X7_orderE hA hO hk h0) i
  rcases hR.cs hk with ⟨z1, z2⟩ | ⟨m, hm6, z1, z2⟩
  · exact .find (c_X6_orderM hC hO hm hk (by omega) z1) (c_X7_orderM (hA.fC 1) hO hk (by omega) (fC z2)) i
  have ev := (hR.2 k hk).2.2
  by_cases hu : (onc (a 0) (63 - a 5) (h.1 (3 + 1 + k)) m).1 = true
  · rcases first_no (fun t => qcan a (qst a (yN (h.1 (3 + 1 + k))) t) (yN (h.1 (3 + 1 + k)) t)) m with hc | ⟨k0, h1, hc, hN⟩
    · refine ⟨_, _, _, _, _, by decide, by decide, c_X6_orderO hC hO hm (by omega) hk z1 hm6 (fun _ _ => rfl) hu hc, c_X7_orderO (fun j hj => ?_) hO (by omega) hk (m := m) ?_ hm6 (f := h.1 (3 + 1 + k)) (fun j hj => ?_) hu hc, i.cgL rfl (fun x y q => ?_) ?_⟩
      · rw [ui_ne (by decide), sQ_o (by decide)]; exact hA j hj
      · rw [ui_ne (by decide), sQ_o (by decide)]; exact z2
      · rw [ui_ne (by decide), sQ_o (by decide)]; exact ev j hj
      · simp only [eH, ui, ucp, setQ]; (repeat rw [if_neg (by omega)])
      · simp [IL, eH, ui, ucp]
    · refine ⟨_, _, _, _, _, by decide, by decide, c_X6_orderN hC hO hm (by omega) hk z1 hm6 (fun _ _ => rfl) hu h1 hc hN, c_X7_orderN (fun j hj => ?_) hO (by omega) hk (m := m) ?_ hm6 (f := h.1 (3 + 1 + k)) (fun j hj => ?_) hu h1 hc hN, i.cg rfl (fun x y q => ?_)⟩
      · rw [sQ_o (by decide)]; exact hA j hj
      · rw [sQ_o (by decide)]; exact z2
      · rw [sQ_o (by decide)]; exact ev j hj
      · simp only [eH, ui, ucp, setQ]; (repeat rw [if_neg (by omega)])
  · exact .find (c_X6_orderU hC hO hm (by omega) hk z1 hm6 (fun _ _ => rfl) hu) (c_X7_orderU (hA.fC 3) hO (by omega) hk (fC z2) hm6 (fun j hj => (finC_o (by decide) (by decide)).trans (ev j hj)) hu) i

theorem brC_2 {g : Hp} {a : Nat → Nat} {r lo n : Nat} : (brC g a r lo n).2 = g.2 := by
  induction n with
  | zero => rfl
  | succ n ih =>
    simp only [brC]
    split
    · exact ih
    · exact ih
theorem br_eq {h g : Hp} {a : Nat → Nat} {r1 lo1 r2 lo2 n : Nat} (e : ∀ j, j < 40 → h.1 r1 (lo1 + j) = g.1 r2 (lo2 + j)) : ∀ j, j < 40 → (brC h a r1 lo1 n).1 r1 (lo1 + j) = (brC g a r2 lo2 n).1 r2 (lo2 + j) := by
  induction n with
  | zero => exact e
  | succ n ih =>
    intro j hj
    simp only [brC]
    split
    · simp only [ui]
      by_cases c : j = berthI a n (a 5)
      · rw [if_pos ⟨trivial, by omega⟩, if_pos ⟨trivial, by omega⟩]
      · rw [if_neg (by omega), if_neg (by omega)]; exact ih j hj
    · exact ih j hj
theorem br_lo {g : Hp} {a : Nat → Nat} {r lo n j : Nat} (hO : OkA a) (hn : n ≤ a 0) (hj : j < lo ∨ lo + 40 ≤ j) : (brC g a r lo n).1 r j = g.1 r j := by
  have o0 := hO.1.1
  induction n with
  | zero => rfl
  | succ n ih =>
    simp only [brC]
    split
    · have bl : berthI a n (a 5) ≤ a 0 := berth_le _ _ _ _ _
      simp only [ui]
      rw [if_neg (by omega)]; exact ih (by omega)
    · exact ih (by omega)

theorem p_berths {h : Hp} (i : Inv h) (s : Int32) : PrI yX6_berths cX6_berths 4 yX7_berths cX7_berths 4 [.int s] h := by
  obtain ⟨⟨a, b, ds, hH, hK⟩, hR, hT, hF, hL, hU⟩ := id i
  obtain ⟨⟨hA, hC, hB, h3, hd⟩, ok, okb, bs, hs⟩ := id hH
  have hO := ok.1
  have hm := hR.1.1
  have hq := hR.1.2
  have o0 := hO.1.1
  rcases rng_cs 6 (by decide) s with hb | ⟨k, hk, rfl⟩
  · exact .same (c_X6_berthsB hm hb) (c_X7_berthsB hb) i
  by_cases h0 : a 0 = 0
  · exact .same (c_X6_berthsE hC hO hm hk h0) (c_X7_berthsE hA hO hk h0) i
  have pl := pop_le (a 5)
  have c2 := c_X7_berthsO (h := brC (fil (ui h 2 k (nI (pop (a 5)))) (3 + 1 + k) 0 40 (nI 0)) a (3 + 1 + k) 0 (a 0)) (fun j hj => by rw [brC_ne (by omega), fil_ne (by omega), ui_ne (by omega)]; exact hA j hj) hO hk (by omega)
  refine ⟨_, _, _, _, _, by decide, by decide, c_X6_berthsO hC hO hm hq hk (by omega), c2, i.cgR ?_ (fun x y q => ?_) (hR.set hk (fun y => ?_) (fun y e => ⟨?_, ?_⟩) (pop (a 5)) (by omega) ?_ (Or.inl ?_) (fun q j hq e hj => ⟨?_, ?_⟩) (fun j hj => ?_))⟩
  · rw [brC_2]; exact brC_2
  · rw [brC_ne (by omega), layM, fil_ne (by omega), ui_ne (by omega), brC_ne (by omega), fil_ne (by omega), ui_ne (by omega)]
  · rw [brC_ne (by omega), layM, fil_ne (by omega), ui_ne (by omega), brC_ne (by omega), fil_ne (by omega), ui_ne (by omega)]
  · rw [brC_ne (by omega), layM, fil_ne (by omega), ui_ne (by omega), brC_ne (by omega), fil_ne (by omega)]
    simp only [ui]; rw [if_neg (by omega)]
  · rw [brC_ne (by omega), layM, fil_ne (by omega)]
    simp only [ui]; rw [if_neg (by omega)]
    exact (brC_ne (by omega)).trans ((fil_ne (by omega)).trans (ui_ne (by omega)))
  · rw [brC_ne (by omega), layM, fil_ne (by omega), ui_eq, brC_ne (by omega), fil_ne (by omega), ui_ne (by omega), brC_ne (by omega), fil_ne (by omega), ui_eq]
  · rw [brC_ne (by omega), layM, fil_ne (by omega), ui_ne (by omega), brC_ne (by omega), fil_ne (by omega), ui_eq]
  · rw [br_lo hO (Nat.le_refl _) (by omega), layM]
    simp only [fil]; rw [if_neg (by omega)]
    exact (ui_ne (by omega)).trans ((brC_ne (by omega)).trans ((if_neg (by omega)).trans (ui_ne (by omega))))
  · rw [brC_ne (by omega), layM, fil_ne (by omega), ui_ne (by omega), brC_ne (by omega), fil_ne (by omega), ui_ne (by omega)]
  · have e := br_eq (a := a) (n := a 0) (lo1 := 40 * k) (r1 := 52) (lo2 := 0) (r2 := 3 + 1 + k) (h := layM (brC (fil (ui h 2 k (nI (pop (a 5)))) (3 + 1 + k) 0 40 (nI 0)) a (3 + 1 + k) 0 (a 0)) k (nI (pop (a 5)))) (g := fil (ui h 2 k (nI (pop (a 5)))) (3 + 1 + k) 0 40 (nI 0)) (fun j hj => by
      simp only [layM, fil]; rw [if_pos ⟨trivial, by omega, by omega⟩, if_pos ⟨trivial, by omega, by omega⟩]) j hj
    rw [e, Nat.zero_add]
    exact ((brC_ne (by omega)).trans ((fil_ne (by omega)).trans (ui_ne (by omega)))).symm

theorem p_enter {h : Hp} (i : Inv h) (s : Int32) : PrI yX6_enter cX6_enter 3 yX7_enter cX7_enter 8 [.int s] h := by
  obtain ⟨⟨a, b, ds, hH, hK⟩, hR, hT, hF, hL, hU⟩ := id i
  obtain ⟨⟨hA, hC, hB, h3, hd⟩, ok, okb, bs, hs⟩ := id hH
  have hO := ok.1
  have hm := hR.1.1
  have hq := hR.1.2
  have o0 := hO.1.1
  rcases rng_cs 6 (by decide) s with hb | ⟨k, hk, rfl⟩
  · exact .same (c_X6_enterB hC hO hm hb) (c_X7_enterB hb) i
  by_cases h0 : a 0 = 0
  · exact .same (c_X6_enterE hC hO hm hk h0) (c_X7_enterE hA hO hk h0) i
  obtain ⟨h1, ⟨f1, b1⟩, cf⟩ := fb_ok hC hO
  cases hB : bstA a with
  | none =>
    obtain ⟨h2, f2, c2⟩ := c_X7_enterN (h := h1) (fun j hj => (f1.2 56 j (by omega) (by omega) (by omega)).trans (hA j hj)) hO hk (by omega) hB
    exact ⟨_, _, _, _, h2, by decide, by decide, c_X6_enterN hC hO hm hk (by omega) hB cf, c2, i.cg (f2.1.trans f1.1) (fun x y q => (f2.2 x y (by omega) (by omega) (by omega)).trans (f1.2 x y (by omega) (by omega) (by omega)))⟩
  | some z =>
    obtain ⟨t, d, p⟩ := z
    have b2 : BC (some (t, d, p)) h1 := hB ▸ b1
    have pl := pop_le (oOut a)
    have c1 := c_X6_enterO hC hO hm hq hk (by omega) hB f1 b2 cf
    generalize hg : ui (fup (fil (ui h1 2 k (nI p.length)) (3 + 1 + k) 0 40 (nI 0)) (3 + 1 + k) p.length (fun y => nI (gp p y))) 0 10 (nI d) = g1 at c1
    have g1o : ∀ x y, x ≠ 0 → x ≠ 2 → ¬ (4 ≤ x ∧ x ≤ 9) → g1.1 x y = h1.1 x y := fun x y e1 e2 e3 => by
      rw [← hg, ui_ne e1, fup_ne (by omega), fil_ne (by omega), ui_ne e2]
    obtain ⟨h2, f2, ⟨lp, v2⟩, c2⟩ := c_X7_enterO (h := g1) (fun j hj => (g1o 56 j (by omega) (by omega) (by omega)).trans ((f1.2 56 j (by omega) (by omega) (by omega)).trans (hA j hj))) hO hk (by omega) hB
    have go : ∀ x y, x ≠ 61 → x ≠ 62 → ¬ (x = 50 ∧ (y = 17 ∨ y = 18)) → x ≠ 0 → x ≠ 2 → ¬ (4 ≤ x ∧ x ≤ 9) → x ≠ 41 → x ≠ 42 → x ≠ 43 → h2.1 x y = h.1 x y := fun x y e1 e2 e3 e4 e5 e6 e7 e8 e9 => (f2.2 x y e1 e2 e3).trans ((g1o x y e4 e5 e6).trans (f1.2 x y e7 e8 e9))
    have hz2 : ∀ y, h2.1 2 y = if y = k then nI p.length else h.1 2 y := fun y => by
      rw [f2.2 2 y (by omega) (by omega) (by omega), ← hg, ui_ne (by omega), fup_ne (by omega), fil_ne (by omega)]
      simp only [ui, true_and]
      by_cases e : y = k
      · rw [if_pos e, if_pos e]
      · rw [if_neg e, if_neg e]; exact f1.2 2 y (by omega) (by omega) (by omega)
    have hro : ∀ q j, q < 6 → q ≠ k → h2.1 (3 + 1 + q) j = h.1 (3 + 1 + q) j := fun q j hq e => by
      rw [f2.2 _ j (by omega) (by omega) (by omega), ← hg, ui_ne (by omega), fup_ne (by omega), fil_ne (by omega), ui_ne (by omega)]
      exact f1.2 _ j (by omega) (by omega) (by omega)
    have hrk : ∀ j, j < 40 → h2.1 (3 + 1 + k) j = if j < p.length then nI (gp p j) else nI 0 := fun j hj => by
      rw [f2.2 _ j (by omega) (by omega) (by omega), ← hg, ui_ne (by omega)]
      simp only [fup, fil, true_and]
      by_cases e : j < p.length
      · rw [if_pos e, if_pos e]
      · rw [if_neg e, if_neg e, if_pos (by omega)]
    refine ⟨_, _, _, _, _, by decide, by decide, c1, c2, i.cgRL ?_ (fun x y q => ?_) (hR.set hk (fun y => ?_) (fun y e => ⟨?_, ?_⟩) p.length (by omega) ?_ (Or.inl ?_) (fun q j hq e hj => ⟨?_, ?_⟩) (fun j hj => ?_)) ?_⟩
    · show h2.2 = h.2
      rw [f2.1, ← hg]; exact f1.1
    · simp only [layM, ui, ucp, fil]
      (repeat rw [if_neg (by omega)])
      by_cases e0 : x = 0
      · rw [f2.2 x y (by omega) (by omega) (by omega), ← hg]
        simp only [ui]; rw [if_neg (by omega)]
        exact (fup_ne (by omega)).trans ((fil_ne (by omega)).trans ((ui_ne (by omega)).trans (f1.2 x y (by omega) (by omega) (by omega))))
      · exact go x y (by omega) (by omega) (by omega) e0 (by omega) (by omega) (by omega) (by omega) (by omega)
    · rw [ui_ne (by omega), ucp_ne (by omega), layM, fil_ne (by omega), ui_ne (by omega)]; exact go 1 y (by omega) (by omega) (by omega) (by omega) (by omega) (by omega) (by omega) (by omega) (by omega)
    · rw [ui_ne (by omega), ucp_ne (by omega), layM, fil_ne (by omega), ui_ne (by omega), hz2 y, if_neg e]
    · rw [ui_ne (by omega), ucp_ne (by omega), layM, fil_ne (by omega)]
      simp only [ui]; rw [if_neg (by omega)]
      exact go 51 y (by omega) (by omega) (by omega) (by omega) (by omega) (by omega) (by omega) (by omega) (by omega)
    · rw [ui_ne (by omega), ucp_ne (by omega), layM, fil_ne (by omega), ui_eq, ui_ne (by omega), ucp_ne (by omega), fil_ne (by omega), ui_ne (by omega), hz2 k, if_pos rfl, lp]
    · rw [ui_ne (by omega), ucp_ne (by omega), layM, fil_ne (by omega), ui_ne (by omega), hz2 k, if_pos rfl]
    · rw [ui_ne (by omega)]
      simp only [layM, ucp, fil]; rw [if_neg (by omega), if_neg (by omega)]
      exact (ui_ne (by omega)).trans (go 52 _ (by omega) (by omega) (by omega) (by omega) (by omega) (by omega) (by omega) (by omega) (by omega))
    · rw [ui_ne (by omega), ucp_ne (by omega), layM, fil_ne (by omega), ui_ne (by omega)]; exact hro q j hq e
    · rw [ui_ne (by omega), ui_ne (show 3 + 1 + k ≠ 50 by omega), ucp_ne (show 3 + 1 + k ≠ 52 by omega), layM, fil_ne (show 3 + 1 + k ≠ 52 by omega), ui_ne (show 3 + 1 + k ≠ 51 by omega), hrk j hj]
      simp only [ucp, true_and]
      by_cases e : j < p.length
      · rw [if_pos (by omega), if_pos e, fil_ne (by omega), ui_ne (by omega), show 0 + (40 * k + j - 40 * k) = j by omega]
        exact v2 j (by omega)
      · rw [if_neg (by omega), if_neg e]
        simp only [fil]; rw [if_pos ⟨trivial, by omega, by omega⟩]
    · show (ui _ 50 11 _).1 0 10 = (ui _ 50 11 _).1 50 11
      rw [ui_eq, ui_ne (by omega), ucp_ne (by omega), layM, fil_ne (by omega), ui_ne (by omega), f2.2 0 10 (by omega) (by omega) (by omega), ← hg, ui_eq]

theorem p_asked {h : Hp} (i : Inv h) : PrI yX6_asked cX6_asked 1 yX7_asked cX7_asked 1 [] h := by
  have c1 := c_X6_asked (h := h)
  have c2 := c_X7_asked (h := h)
  rw [show h.1 50 11 = h.1 0 10 from i.2.2.2.2.1.symm] at c2
  exact .same c1 c2 i

theorem p_finding {h : Hp} (i : Inv h) : PrI yX6_finding cX6_finding 1 yX7_finding cX7_finding 1 [] h := by
  have c1 := c_X6_finding (h := h)
  have c2 := c_X7_finding (h := h)
  rw [show h.1 50 10 = h.1 0 9 from i.2.2.2.1.1.symm] at c2
  exact .same c1 c2 i

theorem p_findings {h : Hp} (i : Inv h) (s : Int32) : PrI yX6_findings cX6_findings 2 yX7_findings cX7_findings 2 [.int s] h := by
  rcases one_cs 5 (by decide) s with hb | ⟨f, h1, h5, rfl⟩
  · exact .same (c_X6_findingsB hb) (c_X7_findingsB hb) i
  · have c2 := c_X7_findingsO (h := h) h1 h5
    rw [← i.2.2.2.1.2 f (by omega)] at c2
    exact .same (c_X6_findingsO h1 h5) c2 i

theorem p_upper {h : Hp} (i : Inv h) : PrL yX6_upper cX6_upper 1 yX7_upper cX7_upper 1 [] h := by
  have c1 := c_X6_upper (h := h)
  have c2 := c_X7_upper (h := h)
  rw [← i.2.2.2.2.2.1] at c2
  exact ⟨_, _, _, _, _, by decide, by decide, c1, c2, i⟩

theorem p_lower {h : Hp} (i : Inv h) : PrL yX6_lower cX6_lower 1 yX7_lower cX7_lower 1 [] h := by
  have c1 := c_X6_lower (h := h)
  have c2 := c_X7_lower (h := h)
  rw [← i.2.2.2.2.2.2] at c2
  exact ⟨_, _, _, _, _, by decide, by decide, c1, c2, i⟩

theorem nI_m1 {n : Nat} (h : n ≤ 1000) (e : nI n = (-1 : Int32)) : False := by
  rw [← Int32.toInt_inj, nI_toInt (by omega), show (-1 : Int32).toInt = -1 by decide] at e
  omega

theorem p_count {h : Hp} (i : Inv h) (s : Int32) : PrI yX6_count cX6_count 2 yX7_count cX7_count 4 [.int s] h := by
  obtain ⟨⟨a, b, ds, hH, hK⟩, hR, hT, hF, hL, hU⟩ := id i
  obtain ⟨⟨hA, hC, hB, h3, hd⟩, ok, okb, bs, hs⟩ := id hH
  have hO := ok.1
  have hm := hR.1.1
  have hq := hR.1.2
  have hz1 : ∀ s, s < 6 → h.1 51 s = h.1 2 s ∧ ∃ n, Sz (h.1 2 s) n := fun s hs => by
    obtain ⟨e, ⟨n, hn, c⟩, -⟩ := hR.2 s hs
    exact ⟨e, n, by omega, c⟩
  have hz2 : ∀ s, s < 4 → h.1 54 s = h.1 11 s ∧ ∃ n, Sz (h.1 11 s) n := fun s hs => by
    obtain ⟨e, ⟨n, hn, c⟩, -⟩ := hT.2 s hs
    exact ⟨e, n, hn, c⟩
  have hz3 : ∀ k, k < 3 → (h.1 59 k = nI 0 ∧ h.1 18 k = -1) ∨ (h.1 59 k = nI 1 ∧ ¬ h.1 18 k = -1) := fun k hk => by
    rcases hK.2 k hk with ⟨e1, e2⟩ | ⟨e1, c, es, oc, -, e3, -⟩
    · exact Or.inl ⟨e1, e2⟩
    · have c3 := oc.1.1.2.2.2.1
      exact Or.inr ⟨e1, fun z => by rw [e3] at z; exact nI_m1 (by omega) z⟩
  rcases rng_cs 11 (by decide) s with hb | ⟨q, hq, rfl⟩
  · exact .same (c_X6_countB hb) (c_X7_countB hb) i
  · exact .same (c_X6_countO hC hO h3 hm hT.1.1 hK.1.1 hq) (c_X7_countO hA hO hz1 hz2 hz3 hq) i

theorem sz_f {z : Nat → Int32} {N M : Nat} (h : ∀ s, s < N → ∃ n, n ≤ M ∧ (z s = nI n ∨ (z s = -1 ∧ n = 0))) (hM : M ≤ 60) : ∃ f : Nat → Nat, (∀ s, s < N → Sz (z s) (f s)) ∧ ∀ s, s < N → f s ≤ M := by
  induction N with
  | zero => exact ⟨fun _ => 0, fun s hs => absurd hs (Nat.not_lt_zero _), fun s hs => absurd hs (Nat.not_lt_zero _)⟩
  | succ N ih =>
    obtain ⟨f, f1, f2⟩ := ih (fun s hs => h s (by omega))
    obtain ⟨n, hn, c⟩ := h N (by omega)
    refine ⟨fun s => if s = N then n else f s, fun s hs => ?_, fun s hs => ?_⟩
    · show Sz (z s) (if s = N then n else f s)
      by_cases e : s = N
      · rw [if_pos e, e]; exact ⟨by omega, c⟩
      · rw [if_neg e]; exact f1 s (by omega)
    · show (if s = N then n else f s) ≤ M
      by_cases e : s = N
      · rw [if_pos e]; exact hn
      · rw [if_neg e]; exact f2 s (by omega)

theorem p_digest {h : Hp} (i : Inv h) : PrL yX6_digest cX6_digest 5 yX7_digest cX7_digest 5 [] h := by
  obtain ⟨⟨a, b, ds, hH, hK⟩, hR, hT, hF, hL, hU⟩ := id i
  obtain ⟨⟨hA, hC, hB, h3, hd⟩, ok, okb, bs, hs⟩ := id hH
  have hO := ok.1
  have hm := hR.1.1
  have hq := hR.1.2
  have hz1 : ∀ s, s < 6 → h.1 51 s = h.1 2 s ∧ ∃ n, Sz (h.1 2 s) n := fun s hs => by
    obtain ⟨e, ⟨n, hn, c⟩, -⟩ := hR.2 s hs
    exact ⟨e, n, by omega, c⟩
  have hz2 : ∀ s, s < 4 → h.1 54 s = h.1 11 s ∧ ∃ n, Sz (h.1 11 s) n := fun s hs => by
    obtain ⟨e, ⟨n, hn, c⟩, -⟩ := hT.2 s hs
    exact ⟨e, n, hn, c⟩
  have hz3 : ∀ k, k < 3 → (h.1 59 k = nI 0 ∧ h.1 18 k = -1) ∨ (h.1 59 k = nI 1 ∧ ¬ h.1 18 k = -1) := fun k hk => by
    rcases hK.2 k hk with ⟨e1, e2⟩ | ⟨e1, c, es, oc, -, e3, -⟩
    · exact Or.inl ⟨e1, e2⟩
    · have c3 := oc.1.1.2.2.2.1
      exact Or.inr ⟨e1, fun z => by rw [e3] at z; exact nI_m1 (by omega) z⟩
  obtain ⟨n1, s1, l1⟩ := sz_f (z := h.1 2) (N := 6) (M := 40) (fun s hs => (hR.2 s hs).2.1) (by decide)
  obtain ⟨n2, s2, l2⟩ := sz_f (z := h.1 11) (N := 4) (M := 60) (fun s hs => (hT.2 s hs).2.1) (by decide)
  have hk3 : ∀ k, k < 3 → ¬ h.1 18 k = -1 → h.1 58 (215 * k + 3) = h.1 18 k := fun k hk e => by
    rcases hK.2 k hk with ⟨-, e2⟩ | ⟨-, c, es, -, -, e3, e4, -⟩
    · exact absurd e2 e
    · rw [e4 3 (by decide), e3]
  exact ⟨_, _, _, _, _, by decide, by decide, c_X6_digest hC hO h3 hm hT.1.1 hK.1.1 s1 l1 s2 l2, c_X7_digest hA hO hz1 hz2 hz3 s1 l1 s2 l2 (fun s j hs hj => (hR.2 s hs).2.2 j hj) (fun s j hs hj => (hT.2 s hs).2.2 j hj) hk3, i⟩

theorem p_fault {h : Hp} (i : Inv h) (s : Int32) : PrI yX6_fault cX6_fault 3 yX7_fault cX7_fault 2 [.int s] h := by
  obtain ⟨⟨a, b, ds, hH, hK⟩, hR, hT, hF, hL, hU⟩ := id i
  obtain ⟨⟨hA, hC, hB, h3, hd⟩, ok, okb, bs, hs⟩ := id hH
  have hO := ok.1
  have hm := hR.1.1
  have hq := hR.1.2
  have tm := hT.1.1
  rcases rng_cs 4 (by decide) s with hb | ⟨k, hk, rfl⟩
  · exact .same (c_X6_faultB tm hb) (c_X7_faultB hb) i
  rcases hT.cs hk with ⟨z1, z2⟩ | ⟨m, hm6, z1, z2⟩
  · exact .find (c_X6_faultM tm hk z1) (c_X7_faultM hk (fC z2)) i
  · have ev := (hT.2 k hk).2.2
    obtain ⟨h1, c1, f1⟩ := read_35 (f := h.1 (12 + 1 + k)) (h := h) hk (fun _ _ => rfl) hm6
    obtain ⟨d, -, c2⟩ := reads_ok (f := h.1 (12 + 1 + k)) (h := h1) hk ((f1.2 54 k (by decide)).trans z2) hm6 (fun j hj => (f1.2 55 _ (by decide)).trans (ev j hj))
    refine ⟨_, _, _, _, _, by decide, by decide, c_X6_faultO tm hk z1 hm6 c1, c_X7_faultO hk ((f1.2 54 k (by decide)).trans z2) hm6 c2, i.cg (show (rdH h1 d (prs (h.1 (12 + 1 + k)) m).1).2 = h.2 from f1.1) (fun x y q => ?_)⟩
    have g : h1.1 x y = h.1 x y := f1.2 x y (by omega)
    by_cases e : x = 50
    · subst e; rw [rdH_50 (by omega) (by omega)]; exact g
    · rw [rdH_o (by omega) e]; exact g
