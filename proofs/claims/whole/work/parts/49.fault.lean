/-! what a text that can be read tells -/
def PA (a : Nat → Nat) : Prop := (a 0 ≤ 6 ∧ a 1 ≤ 99 ∧ a 2 ≤ 9 ∧ a 4 = a 2 ∧ a 3 = 0 ∧ a 5 = 0 ∧ a 6 = 0) ∧ (∀ i, i < a 0 → sh a i 0 < 6 ∧ sh a i 1 ≤ 99 ∧ sh a i 2 ≤ 9 ∧ sh a i 3 ≤ 9 ∧ sh a i 4 ≤ 9) ∧ ∀ i, i < 6 → sh a i 5 = 0 ∧ sh a i 6 = 0 ∧ sh a i 7 = 0
theorem hdA_v (f : Nat → Int32) (q : Nat) : hdA f q 1 = 10 * dvN f (q + 1) + dvN f (q + 2) ∧ hdA f q 2 = dvN f (q + 3) ∧ hdA f q 4 = dvN f (q + 3) ∧ ∀ j, j ≠ 1 → j ≠ 2 → j ≠ 4 → hdA f q j = 0 := by
  refine ⟨?_, ?_, ?_, fun j h1 h2 h4 => ?_⟩
  · simp [hdA, au]
  · simp [hdA, au]
  · simp [hdA, au]
  · simp [hdA, au, h1, h2, h4]
theorem PA_hd {f : Nat → Int32} {m : Nat} (hs : (hdS f m).2 = true) : PA (hdA f (sk f m 0)) := by
  rcases hd_cs f m with ⟨h0, e⟩ | ⟨h0, h⟩
  · rw [e] at hs; exact absurd hs (by simp)
  rcases h with ⟨h1, e⟩ | ⟨h1, h⟩
  · rw [e] at hs; exact absurd hs (by simp)
  rcases h with ⟨h2, e⟩ | ⟨h2, h⟩
  · rw [e] at hs; exact absurd hs (by simp)
  rcases h with ⟨h3, e⟩ | ⟨h3, e⟩
  · rw [e] at hs; exact absurd hs (by simp)
  have b1 := (dg_v (Nat.zero_le _) h1).2.2.2
  have b2 := (dg_v (Nat.zero_le _) h2).2.2.2
  have b3 := (dg_v (by decide) h3).2.2.2
  obtain ⟨v1, v2, v4, v0⟩ := hdA_v f (sk f m 0)
  have z0 : hdA f (sk f m 0) 0 = 0 := v0 0 (by decide) (by decide) (by decide)
  refine ⟨⟨by omega, by omega, by omega, by omega, v0 3 (by decide) (by decide) (by decide), v0 5 (by decide) (by decide) (by decide), v0 6 (by decide) (by decide) (by decide)⟩, fun i hi => by omega, fun i hi => ⟨v0 _ (by omega) (by omega) (by omega), v0 _ (by omega) (by omega) (by omega), v0 _ (by omega) (by omega) (by omega)⟩⟩
theorem PA_sh {f : Nat → Int32} {m : Nat} {a : Nat → Nat} {q : Nat} (hP : PA a) (hs : (shS f m (a 0) q).2 = true) : PA (shA f a q) := by
  rcases sh_cs f m (a 0) q with ⟨h0, e⟩ | ⟨h0, h⟩
  · rw [e] at hs; exact absurd hs (by simp)
  rcases h with ⟨h1, e⟩ | ⟨h1, h⟩
  · rw [e] at hs; exact absurd hs (by simp)
  rcases h with ⟨h2, e⟩ | ⟨h2, h⟩
  · rw [e] at hs; exact absurd hs (by simp)
  rcases h with ⟨h3, e⟩ | ⟨h3, h⟩
  · rw [e] at hs; exact absurd hs (by simp)
  rcases h with ⟨h4, e⟩ | ⟨h4, h⟩
  · rw [e] at hs; exact absurd hs (by simp)
  rcases h with ⟨h5, e⟩ | ⟨h5, e⟩
  · rw [e] at hs; exact absurd hs (by simp)
  have b1 := (dg_v (Nat.zero_le _) h1).2.2.2
  have b2 := (dg_v (Nat.zero_le _) h2).2.2.2
  have b3 := (dg_v (Nat.zero_le _) h3).2.2.2
  have b4 := (dg_v (Nat.zero_le _) h4).2.2.2
  have b5 := (dg_v (Nat.zero_le _) h5).2.2.2
  obtain ⟨⟨p0, p1, p2, p4, p3, p5, p6⟩, ps, pz⟩ := hP
  obtain ⟨n0, n1, n2, n3, n4⟩ := shA_n f a q
  have e0 := shA_0 f a q
  have g : ∀ j, j ≠ 0 → j < 7 → shA f a q j = a j := fun j h1 h2 => shA_lo h1 (by omega)
  refine ⟨⟨by omega, ?_, ?_, ?_, ?_, ?_, ?_⟩, fun i hi => ?_, fun i hi => ?_⟩
  · rw [g 1 (by decide) (by decide)]; exact p1
  · rw [g 2 (by decide) (by decide)]; exact p2
  · rw [g 2 (by decide) (by decide), g 4 (by decide) (by decide)]; exact p4
  · rw [g 3 (by decide) (by decide)]; exact p3
  · rw [g 5 (by decide) (by decide)]; exact p5
  · rw [g 6 (by decide) (by decide)]; exact p6
  · rw [e0] at hi
    by_cases e1 : i = a 0
    · subst e1
      rw [n0, n1, n2, n3, n4]
      exact ⟨h0.2.1, by omega, b3, b4, b5⟩
    · have g2 : ∀ w, w < 8 → sh (shA f a q) i w = sh a i w := fun w hw => shA_lo (by omega) (by omega)
      rw [g2 0 (by decide), g2 1 (by decide), g2 2 (by decide), g2 3 (by decide), g2 4 (by decide)]
      exact ps i (by omega)
  · have g3 : ∀ w, 5 ≤ w → w < 8 → sh (shA f a q) i w = sh a i w := fun w h1 hw => shA_lo (by omega) (by omega)
    rw [g3 5 (by decide) (by decide), g3 6 (by decide) (by decide), g3 7 (by decide) (by decide)]
    exact pz i hi
theorem PA_rd {f : Nat → Int32} {m : Nat} : ∀ k q (a : Nat → Nat), PA a → (rdS f m k q a).1.2 = true → PA (rdS f m k q a).2 := by
  intro k
  induction k with
  | zero => intro q a hP _; exact hP
  | succ k ih =>
    intro q a hP hw
    by_cases h1 : q < m
    · by_cases h2 : (shS f m (a 0) q).2 = true
      · have e : rdS f m (k + 1) q a = rdS f m k (sk f m (q + 6)) (shA f a q) := by simp only [rdS]; rw [if_pos h1, if_pos h2]
        rw [e] at hw ⊢
        exact ih _ _ (PA_sh hP h2) hw
      · have e : rdS f m (k + 1) q a = (((shS f m (a 0) q).1, false), a) := by simp only [rdS]; rw [if_pos h1, if_neg h2]
        rw [e] at hw
        exact absurd hw (by simp)
    · have e : rdS f m (k + 1) q a = ((q, true), a) := by simp only [rdS]; rw [if_neg h1]
      rw [e]; exact hP
theorem PA_prs {f : Nat → Int32} {m : Nat} (hw : (prs f m).1.2 = true) : PA (prs f m).2 := by
  by_cases hh : (hdS f m).2 = true
  · have e : prs f m = rdS f m 7 (sk f m (sk f m 0 + 4)) (hdA f (sk f m 0)) := if_pos hh
    rw [e] at hw ⊢
    exact PA_rd _ _ _ (PA_hd hh) hw
  · have e : prs f m = (((hdS f m).1, false), fun _ => 0) := if_neg hh
    rw [e] at hw; exact absurd hw (by simp)
theorem PA.base {a : Nat → Nat} (h : PA a) : Base a := ⟨h.1.2.2.2.2.1, h.1.2.2.2.1, h.1.2.2.2.2.2.1, h.1.2.2.2.2.2.2, fun i hi => h.2.2 i (by have := h.1.1; omega)⟩
theorem PA.okB {a : Nat → Nat} (h : PA a) : OkB a := by
  obtain ⟨⟨p0, p1, p2, p4, p3, p5, p6⟩, ps, pz⟩ := h
  have pw : 0 < 2 ^ a 0 := Nat.pow_pos (by decide)
  refine ⟨⟨⟨p0, by omega, p2, by omega, by omega, by omega, by omega⟩, fun i hi => ?_⟩, by omega, by omega, fun i hi => ?_⟩
  · obtain ⟨s0, s1, s2, s3, s4⟩ := ps i hi
    obtain ⟨z5, z6, z7⟩ := pz i (by omega)
    exact ⟨s0, s1, s2, s3, s4, by omega, by omega, by omega⟩
  · obtain ⟨z5, z6, z7⟩ := pz i (by omega)
    exact ⟨by omega, by omega⟩
theorem ans_cs (f : Nat → Int32) (m : Nat) : ((prs f m).1.2 = true ∧ 0 < (prs f m).2 0 ∧ ansN (prs f m) = -9) ∨ ansN (prs f m) = nI (prs f m).1.1 := by
  unfold ansN
  by_cases h : (prs f m).1.2 = true ∧ 0 < (prs f m).2 0
  · rw [if_pos h]; exact Or.inl ⟨h.1, h.2, rfl⟩
  · rw [if_neg h]; exact Or.inr rfl
theorem fg_le60 {f : Nat → Int32} {m low : Nat} {s : Nat × Bool} (h : s.1 ≤ m) : (fgS f m low s).1 ≤ m := fg_le h
theorem rd_le {f : Nat → Int32} {m : Nat} : ∀ k q (a : Nat → Nat), q ≤ m → (rdS f m k q a).1.1 ≤ m := by
  intro k
  induction k with
  | zero => intro q a h; exact h
  | succ k ih =>
    intro q a hq
    simp only [rdS]
    split
    · rename_i h1
      split
      · rename_i h2
        refine ih _ _ ?_
        rcases sh_cs f m (a 0) q with ⟨h0, e⟩ | ⟨h0, h⟩
        · rw [e] at h2; exact absurd h2 (by simp)
        rcases h with ⟨h1, e⟩ | ⟨h1, h⟩
        · rw [e] at h2; exact absurd h2 (by simp)
        rcases h with ⟨h2', e⟩ | ⟨h2', h⟩
        · rw [e] at h2; exact absurd h2 (by simp)
        rcases h with ⟨h3, e⟩ | ⟨h3, h⟩
        · rw [e] at h2; exact absurd h2 (by simp)
        rcases h with ⟨h4, e⟩ | ⟨h4, h⟩
        · rw [e] at h2; exact absurd h2 (by simp)
        rcases h with ⟨h5, e⟩ | ⟨h5, e⟩
        · rw [e] at h2; exact absurd h2 (by simp)
        exact (sk_le (by have := dg_lt h5; omega)).2
      · show (shS f m (a 0) q).1 ≤ m
        unfold shS
        refine fg_le (fg_le (fg_le (fg_le (fg_le ?_))))
        split
        · exact h1
        · exact hq
    · exact hq
theorem prs_le {f : Nat → Int32} {m : Nat} : (prs f m).1.1 ≤ m := by
  have sl := sk_le (f := f) (Nat.zero_le m)
  by_cases hh : (hdS f m).2 = true
  · have e : prs f m = rdS f m 7 (sk f m (sk f m 0 + 4)) (hdA f (sk f m 0)) := if_pos hh
    rw [e]
    exact rd_le _ _ _ (sk_le (hdD_v hh).2.1).2
  · have e : prs f m = (((hdS f m).1, false), fun _ => 0) := if_neg hh
    rw [e]
    show (hdS f m).1 ≤ m
    unfold hdS
    refine fg_le (fg_le (fg_le ?_))
    split
    · rename_i z; exact z.1
    · exact sl.2

set_option maxRecDepth 20000 in
theorem c_X6_faultB {s : Int32} {h : Hp} (hm : h.1 10 0 = nI 4) (hb : s < 0 ∨ nI 4 ≤ s) : CT 6 yX6_fault cX6_fault 3 (some .int) [.ref 0, .int s] h (some (.int (-1))) (h) := by
  refine CT.of (own := RX6) rfl (by decide) (ro_i _) [.ref 0, .int s, .null] rfl (Nat.le_of_ble_eq_true rfl) (fun E hp => ?_)
  refine s_aload_n (pc := 0) 0 rfl rfl dX6_fault_0 ?_
  refine s_aload_n (pc := 1) 0 rfl rfl dX6_fault_1 ?_
  refine s_getr (pc := 2) (b := 10) fl_X6_18 rfl rfl rfl dX6_fault_2 ?_
  refine s_iload_n (pc := 5) 1 rfl rfl dX6_fault_5 ?_
  refine s_cvi2 (pc := 6) (c_X6_refusalOfSheet_10B hm hb) ml_X6_88 mw_X6_refusalOfSheet rfl (by decide) (Nat.le_of_ble_eq_true rfl) dX6_fault_6 ?_
  refine s_istore_n (pc := 9) 2 rfl (by decide) rfl dX6_fault_9 ?_
  refine s_iload_n (pc := 10) 2 rfl rfl dX6_fault_10 ?_
  refine s_if_eq (pc := 11) 18 dX6_fault_11 (by decide) (fun c_11 => ?_) (fun c_11 => ?_)
  · exfalso; exact absurd c_11 (by decide)
  · refine s_iload_n (pc := 14) 2 rfl rfl dX6_fault_14 ?_
    refine s_goto (pc := 15) 43 dX6_fault_15 (by decide) ?_
    refine s_iret (pc := 43) dX6_fault_43 (PostE.of hp ?_ ?_)
    · rfl
    · rfl

set_option maxRecDepth 20000 in
theorem c_X6_faultM {k : Nat} {h : Hp} (hm : h.1 10 0 = nI 4) (hk : k < 4) (hz : h.1 11 k = -1) : CT 6 yX6_fault cX6_fault 3 (some .int) [.ref 0, .int (nI k)] h (some (.int (-3))) (finC h 1) := by
  refine CT.of (own := RX6) rfl (by decide) (ro_i _) [.ref 0, .int (nI k), .null] rfl (Nat.le_of_ble_eq_true rfl) (fun E hp => ?_)
  refine s_aload_n (pc := 0) 0 rfl rfl dX6_fault_0 ?_
  refine s_aload_n (pc := 1) 0 rfl rfl dX6_fault_1 ?_
  refine s_getr (pc := 2) (b := 10) fl_X6_18 rfl rfl rfl dX6_fault_2 ?_
  refine s_iload_n (pc := 5) 1 rfl rfl dX6_fault_5 ?_
  refine s_cvi2 (pc := 6) (c_X6_refusalOfSheet_10M hm hk hz) ml_X6_88 mw_X6_refusalOfSheet rfl (by decide) (Nat.le_of_ble_eq_true rfl) dX6_fault_6 ?_
  refine s_istore_n (pc := 9) 2 rfl (by decide) rfl dX6_fault_9 ?_
  refine s_iload_n (pc := 10) 2 rfl rfl dX6_fault_10 ?_
  refine s_if_eq (pc := 11) 18 dX6_fault_11 (by decide) (fun c_11 => ?_) (fun c_11 => ?_)
  · exfalso; exact absurd c_11 (by decide)
  · refine s_iload_n (pc := 14) 2 rfl rfl dX6_fault_14 ?_
    refine s_goto (pc := 15) 43 dX6_fault_15 (by decide) ?_
    refine s_iret (pc := 43) dX6_fault_43 (PostE.of hp ?_ ?_)
    · rfl
    · rfl

set_option maxRecDepth 20000 in
theorem c_X6_faultO {k m : Nat} {v : Int32} {h h2 : Hp} (hm : h.1 10 0 = nI 4) (hk : k < 4) (hz : h.1 11 k = nI m) (hz6 : m ≤ 60) (crd : CT 5 yX1_read cX1_read 4 (some .int) [.ref 35, .ref (12 + 1 + k), .int (nI m)] h (some (.int v)) h2) : CT 6 yX6_fault cX6_fault 3 (some .int) [.ref 0, .int (nI k)] h (some (.int v)) (h2) := by
  refine CT.of (own := RX6) rfl (by decide) (ro_i _) [.ref 0, .int (nI k), .null] rfl (Nat.le_of_ble_eq_true rfl) (fun E hp => ?_)
  refine s_aload_n (pc := 0) 0 rfl rfl dX6_fault_0 ?_
  refine s_aload_n (pc := 1) 0 rfl rfl dX6_fault_1 ?_
  refine s_getr (pc := 2) (b := 10) fl_X6_18 rfl rfl rfl dX6_fault_2 ?_
  refine s_iload_n (pc := 5) 1 rfl rfl dX6_fault_5 ?_
  refine s_cvi2 (pc := 6) (c_X6_refusalOfSheet_10O hm hk hz hz6) ml_X6_88 mw_X6_refusalOfSheet rfl (by decide) (Nat.le_of_ble_eq_true rfl) dX6_fault_6 ?_
  refine s_istore_n (pc := 9) 2 rfl (by decide) rfl dX6_fault_9 ?_
  refine s_iload_n (pc := 10) 2 rfl rfl dX6_fault_10 ?_
  refine s_if_eqN (pc := 11) (by omega) 18 dX6_fault_11 (by decide) (fun c_11 => ?_) (fun c_11 => ?_)
  · refine s_aload_n (pc := 18) 0 rfl rfl dX6_fault_18 ?_
    refine s_getr (pc := 19) (b := 35) fl_X6_34 rfl rfl rfl dX6_fault_19 ?_
    refine s_aload_n (pc := 22) 0 rfl rfl dX6_fault_22 ?_
    refine s_getr (pc := 23) (b := 10) fl_X6_18 rfl rfl rfl dX6_fault_23 ?_
    refine s_getr (pc := 26) (b := 12) fl_X6_111 rfl rfl rfl dX6_fault_26 ?_
    refine s_iload_n (pc := 29) 1 rfl rfl dX6_fault_29 ?_
    refine s_aald (pc := 30) (b := 12 + 1 + k) (_) rfl rfl (by omega) rfl dX6_fault_30 ?_
    refine s_aload_n (pc := 31) 0 rfl rfl dX6_fault_31 ?_
    refine s_getr (pc := 32) (b := 10) fl_X6_18 rfl rfl rfl dX6_fault_32 ?_
    refine s_getr (pc := 35) (b := 11) fl_X6_121 rfl rfl rfl dX6_fault_35 ?_
    refine s_iload_n (pc := 38) 1 rfl rfl dX6_fault_38 ?_
    refine s_ialdN (pc := 39) (_) rfl rfl (by omega) hz dX6_fault_39 ?_
    refine s_cvi2 (pc := 40) (crd) ml_X6_124 mw_X1_read rfl (by decide) (Nat.le_of_ble_eq_true rfl) dX6_fault_40 ?_
    refine s_iret (pc := 43) dX6_fault_43 (PostE.of hp ?_ ?_)
    · rfl
    · rfl
  · exfalso; omega

set_option maxRecDepth 20000 in
theorem c_X6_harbourB {s : Int32} {h : Hp} (hm : h.1 10 0 = nI 4) (hb : s < 0 ∨ nI 4 ≤ s) : CT 7 yX6_harbour cX6_harbour 4 (some .int) [.ref 0, .int s] h (some (.int (-1))) (h) := by
  refine CT.of (own := RX6) rfl (by decide) (ro_i _) [.ref 0, .int s, .null, .null] rfl (Nat.le_of_ble_eq_true rfl) (fun E hp => ?_)
  refine s_aload_n (pc := 0) 0 rfl rfl dX6_harbour_0 ?_
  refine s_iload_n (pc := 1) 1 rfl rfl dX6_harbour_1 ?_
  refine s_cvi1 (pc := 2) (c_X6_faultB hm hb) ml_X6_128 mw_X6_fault rfl (by decide) (Nat.le_of_ble_eq_true rfl) dX6_harbour_2 ?_
  refine s_istore_n (pc := 5) 2 rfl (by decide) rfl dX6_harbour_5 ?_
  refine s_iload_n (pc := 6) 2 rfl rfl dX6_harbour_6 ?_
  refine s_bipush (pc := 7) (k_bm9) dX6_harbour_7 ?_
  refine s_icmp_eq (pc := 9) 23 dX6_harbour_9 (by decide) (fun c_9 => ?_) (fun c_9 => ?_)
  · exfalso; exact absurd c_9 (by decide)
  · refine s_iload_n (pc := 12) 2 rfl rfl dX6_harbour_12 ?_
    refine s_if_ge (pc := 13) 20 dX6_harbour_13 (by decide) (fun c_13 => ?_) (fun c_13 => ?_)
    · exfalso; exact absurd c_13 (by decide)
    · refine s_iload_n (pc := 16) 2 rfl rfl dX6_harbour_16 ?_
      refine s_goto (pc := 17) 22 dX6_harbour_17 (by decide) ?_
      refine s_iret (pc := 22) dX6_harbour_22 (PostE.of hp ?_ ?_)
      · rfl
      · rfl

set_option maxRecDepth 20000 in
theorem c_X6_harbourM {k : Nat} {h : Hp} (hm : h.1 10 0 = nI 4) (hk : k < 4) (hz : h.1 11 k = -1) : CT 7 yX6_harbour cX6_harbour 4 (some .int) [.ref 0, .int (nI k)] h (some (.int (-3))) (finC h 1) := by
  refine CT.of (own := RX6) rfl (by decide) (ro_i _) [.ref 0, .int (nI k), .null, .null] rfl (Nat.le_of_ble_eq_true rfl) (fun E hp => ?_)
  refine s_aload_n (pc := 0) 0 rfl rfl dX6_harbour_0 ?_
  refine s_iload_n (pc := 1) 1 rfl rfl dX6_harbour_1 ?_
  refine s_cvi1 (pc := 2) (c_X6_faultM hm hk hz) ml_X6_128 mw_X6_fault rfl (by decide) (Nat.le_of_ble_eq_true rfl) dX6_harbour_2 ?_
  refine s_istore_n (pc := 5) 2 rfl (by decide) rfl dX6_harbour_5 ?_
  refine s_iload_n (pc := 6) 2 rfl rfl dX6_harbour_6 ?_
  refine s_bipush (pc := 7) (k_bm9) dX6_harbour_7 ?_
  refine s_icmp_eq (pc := 9) 23 dX6_harbour_9 (by decide) (fun c_9 => ?_) (fun c_9 => ?_)
  · exfalso; exact absurd c_9 (by decide)
  · refine s_iload_n (pc := 12) 2 rfl rfl dX6_harbour_12 ?_
    refine s_if_ge (pc := 13) 20 dX6_harbour_13 (by decide) (fun c_13 => ?_) (fun c_13 => ?_)
    · exfalso; exact absurd c_13 (by decide)
    · refine s_iload_n (pc := 16) 2 rfl rfl dX6_harbour_16 ?_
      refine s_goto (pc := 17) 22 dX6_harbour_17 (by decide) ?_
      refine s_iret (pc := 22) dX6_harbour_22 (PostE.of hp ?_ ?_)
      · rfl
      · rfl

theorem nI_n9b {n : Nat} (h : n ≤ 1000) (e : nI n = (-9 : Int32)) : False := by
  rw [← Int32.toInt_inj, nI_toInt (by omega), show (-9 : Int32).toInt = -9 by decide] at e
  omega

set_option maxRecDepth 20000 in
theorem c_X6_harbourE {k q : Nat} {h h2 : Hp} (cft : CT 6 yX6_fault cX6_fault 3 (some .int) [.ref 0, .int (nI k)] h (some (.int (nI q))) h2) (hq : q ≤ 60) : CT 7 yX6_harbour cX6_harbour 4 (some .int) [.ref 0, .int (nI k)] h (some (.int (-4))) (h2) := by
  refine CT.of (own := RX6) rfl (by decide) (ro_i _) [.ref 0, .int (nI k), .null, .null] rfl (Nat.le_of_ble_eq_true rfl) (fun E hp => ?_)
  refine s_aload_n (pc := 0) 0 rfl rfl dX6_harbour_0 ?_
  refine s_iload_n (pc := 1) 1 rfl rfl dX6_harbour_1 ?_
  refine s_cvi1 (pc := 2) (cft) ml_X6_128 mw_X6_fault rfl (by decide) (Nat.le_of_ble_eq_true rfl) dX6_harbour_2 ?_
  refine s_istore_n (pc := 5) 2 rfl (by decide) rfl dX6_harbour_5 ?_
  refine s_iload_n (pc := 6) 2 rfl rfl dX6_harbour_6 ?_
  refine s_bipush (pc := 7) (k_bm9) dX6_harbour_7 ?_
  refine s_icmp_eq (pc := 9) 23 dX6_harbour_9 (by decide) (fun c_9 => ?_) (fun c_9 => ?_)
  · exfalso; exact nI_n9b (by omega) c_9
  · refine s_iload_n (pc := 12) 2 rfl rfl dX6_harbour_12 ?_
    refine s_if_geN (pc := 13) (by omega) 20 dX6_harbour_13 (by decide) ?_
    refine s_bipush (pc := 20) (k_bm4) dX6_harbour_20 ?_
    refine s_iret (pc := 22) dX6_harbour_22 (PostE.of hp ?_ ?_)
    · rfl
    · rfl

set_option maxRecDepth 20000 in
theorem c_X6_harbourO {k m : Nat} {v : Int32} {b : Nat → Nat} {h h2 h3 : Hp} (cft : CT 6 yX6_fault cX6_fault 3 (some .int) [.ref 0, .int (nI k)] h (some (.int (-9))) h2) (hk : k < 4) (hz : h2.1 11 k = nI m) (hz6 : m ≤ 60) (crd : CT 5 yX1_read cX1_read 4 (some .int) [.ref 24, .ref (12 + 1 + k), .int (nI m)] h2 (some (.int v)) h3) (hB : RB b h3) (hb : Base b) (hO : OkA b) (h17 : h3.1 17 0 = nI 3) : CT 7 yX6_harbour cX6_harbour 4 (some .int) [.ref 0, .int (nI k)] h (some (.int (nI (b 0)))) (fil (setl (bg0 h3 b) b) 18 0 3 (-1)) := by
  have h17b : ∀ j, (fil (setl (bg0 h3 b) b) 18 0 j (-1)).1 17 0 = nI 3 := fun j => by rw [fil_ne (by decide), setl_ne (by decide) (by decide), bg0, ui_ne (by decide), ui_ne (by decide), ui_ne (by decide), ui_ne (by decide), ui_ne (by decide), ui_ne (by decide), fil_ne (by decide), fil_ne (by decide)]; exact h17
  have h245 : (fil (setl (bg0 h3 b) b) 18 0 3 (-1)).1 24 5 = nI (b 0) := by rw [fil_ne (by decide), setl_ne (by decide) (by decide), bg0, ui_ne (by decide), ui_ne (by decide), ui_ne (by decide), ui_ne (by decide), ui_ne (by decide), ui_ne (by decide), fil_ne (by decide), fil_ne (by decide)]; exact hB.1
  refine CT.of (own := RX6) rfl (by decide) (ro_i _) [.ref 0, .int (nI k), .null, .null] rfl (Nat.le_of_ble_eq_true rfl) (fun E hp => ?_)
  refine s_aload_n (pc := 0) 0 rfl rfl dX6_harbour_0 ?_
  refine s_iload_n (pc := 1) 1 rfl rfl dX6_harbour_1 ?_
  refine s_cvi1 (pc := 2) (cft) ml_X6_128 mw_X6_fault rfl (by decide) (Nat.le_of_ble_eq_true rfl) dX6_harbour_2 ?_
  refine s_istore_n (pc := 5) 2 rfl (by decide) rfl dX6_harbour_5 ?_
  refine s_iload_n (pc := 6) 2 rfl rfl dX6_harbour_6 ?_
  refine s_bipush (pc := 7) (k_bm9) dX6_harbour_7 ?_
  refine s_icmp_eq (pc := 9) 23 dX6_harbour_9 (by decide) (fun c_9 => ?_) (fun c_9 => ?_)
  · refine s_aload_n (pc := 23) 0 rfl rfl dX6_harbour_23 ?_
    refine s_getr (pc := 24) (b := 23) fl_X6_27 rfl rfl rfl dX6_harbour_24 ?_
    refine s_getr (pc := 27) (b := 24) fl_X6_131 rfl rfl rfl dX6_harbour_27 ?_
    refine s_aload_n (pc := 30) 0 rfl rfl dX6_harbour_30 ?_
    refine s_getr (pc := 31) (b := 10) fl_X6_18 rfl rfl rfl dX6_harbour_31 ?_
    refine s_getr (pc := 34) (b := 12) fl_X6_111 rfl rfl rfl dX6_harbour_34 ?_
    refine s_iload_n (pc := 37) 1 rfl rfl dX6_harbour_37 ?_
    refine s_aald (pc := 38) (b := 12 + 1 + k) (_) rfl rfl (by omega) rfl dX6_harbour_38 ?_
    refine s_aload_n (pc := 39) 0 rfl rfl dX6_harbour_39 ?_
    refine s_getr (pc := 40) (b := 10) fl_X6_18 rfl rfl rfl dX6_harbour_40 ?_
    refine s_getr (pc := 43) (b := 11) fl_X6_121 rfl rfl rfl dX6_harbour_43 ?_
    refine s_iload_n (pc := 46) 1 rfl rfl dX6_harbour_46 ?_
    refine s_ialdN (pc := 47) (_) rfl rfl (by omega) hz dX6_harbour_47 ?_
    refine s_cvi2 (pc := 48) (crd) ml_X6_124 mw_X1_read rfl (by decide) (Nat.le_of_ble_eq_true rfl) dX6_harbour_48 ?_
    refine s_pop (pc := 51) rfl dX6_harbour_51 ?_
    refine s_aload_n (pc := 52) 0 rfl rfl dX6_harbour_52 ?_
    refine s_getr (pc := 53) (b := 23) fl_X6_27 rfl rfl rfl dX6_harbour_53 ?_
    refine s_cvn0 (pc := 56) (c_X2_begin hB hb hO) ml_X6_134 mw_X2_begin rfl (by decide) (Nat.le_of_ble_eq_true rfl) dX6_harbour_56 ?_
    refine s_iconst (pc := 59) (k_i0N) dX6_harbour_59 ?_
    refine s_istore_n (pc := 60) 3 rfl (by decide) rfl dX6_harbour_60 ?_
    refine WW.hp (show setl (bg0 h3 b) b = fil (setl (bg0 h3 b) b) 18 0 0 (-1) from (fil_0 _ _ _ _).symm) ?_
    suffices lp_61 : ∀ j, j ≤ 3 → WW E cX6_harbour RX6 4 _ 61 [.ref 0, .int (nI k), .int (-9), .int (nI j)] (fil (setl (bg0 h3 b) b) 18 0 j (-1)) [] from lp_61 0 (by omega)
    refine lpi 3 (fun j hk_j ih_61 => ?_)
    refine s_iload_n (pc := 61) 3 rfl rfl dX6_harbour_61 ?_
    refine s_iconst (pc := 62) (k_i3N) dX6_harbour_62 ?_
    refine s_icmp_geN (pc := 63) (by omega) (by omega) 80 dX6_harbour_63 (by decide) (fun c_63 => ?_) (fun c_63 => ?_)
    · obtain rfl : j = 3 := by omega
      refine s_aload_n (pc := 80) 0 rfl rfl dX6_harbour_80 ?_
      refine s_getr (pc := 81) (b := 23) fl_X6_27 rfl rfl rfl dX6_harbour_81 ?_
      refine s_getr (pc := 84) (b := 24) fl_X6_131 rfl rfl rfl dX6_harbour_84 ?_
      refine s_getiE (pc := 87) fl_X6_137 rfl rfl h245 dX6_harbour_87 ?_
      refine s_iret (pc := 90) dX6_harbour_90 (PostE.of hp ?_ ?_)
      · rfl
      · rfl
    · refine s_aload_n (pc := 66) 0 rfl rfl dX6_harbour_66 ?_
      refine s_getr (pc := 67) (b := 17) fl_X6_21 rfl rfl rfl dX6_harbour_67 ?_
      refine s_iload_n (pc := 70) 3 rfl rfl dX6_harbour_70 ?_
      refine s_cvn1 (pc := 71) (c_X5_drop_17 (h17b j) (by omega)) ml_X6_92 mw_X5_drop rfl (by decide) (Nat.le_of_ble_eq_true rfl) dX6_harbour_71 ?_
      refine s_iincN (pc := 74) rfl (by decide) rfl dX6_harbour_74 ?_
      refine s_goto (pc := 77) 61 dX6_harbour_77 (by decide) ?_
      have e5 := fil_s (setl (bg0 h3 b) b) 18 0 j (-1)
      rw [Nat.zero_add] at e5
      rw [e5]
      exact ih_61 (by omega)
  · exfalso; exact c_9 rfl

set_option maxRecDepth 20000 in
theorem c_X7_faultB {s : Int32} {h : Hp} (hb : s < 0 ∨ nI 4 ≤ s) : CT 6 yX7_fault cX7_fault 2 (some .int) [.ref 50, .int s] h (some (.int (-1))) (h) := by
  refine CT.of (own := RX7) rfl (by decide) (ro_i _) [.ref 50, .int s] rfl (Nat.le_of_ble_eq_true rfl) (fun E hp => ?_)
  refine s_iload_n (pc := 0) 1 rfl rfl dX7_fault_0 ?_
  refine s_csi1 (pc := 1) (c_X7_isTextF hb) ml_X7_87 ms_X7_isText (by decide) (Nat.le_of_ble_eq_true rfl) dX7_fault_1 ?_
  refine s_if_neF (pc := 4) 9 dX7_fault_4 (by decide) ?_
  refine s_iconst (pc := 7) (k_im1) dX7_fault_7 ?_
  refine s_iret (pc := 8) dX7_fault_8 (PostE.of hp ?_ ?_)
  · rfl
  · rfl

set_option maxRecDepth 20000 in
theorem c_X7_faultM {k : Nat} {h : Hp} (hk : k < 4) (hz : h.1 54 k = -1) : CT 6 yX7_fault cX7_fault 2 (some .int) [.ref 50, .int (nI k)] h (some (.int (-3))) (finM h 1) := by
  refine CT.of (own := RX7) rfl (by decide) (ro_i _) [.ref 50, .int (nI k)] rfl (Nat.le_of_ble_eq_true rfl) (fun E hp => ?_)
  refine s_iload_n (pc := 0) 1 rfl rfl dX7_fault_0 ?_
  refine s_csi1 (pc := 1) (c_X7_isTextT hk) ml_X7_87 ms_X7_isText (by decide) (Nat.le_of_ble_eq_true rfl) dX7_fault_1 ?_
  refine s_if_neT (pc := 4) 9 dX7_fault_4 (by decide) ?_
  refine s_aload_n (pc := 9) 0 rfl rfl dX7_fault_9 ?_
  refine s_getr (pc := 10) (b := 54) fl_X7_19 rfl rfl rfl dX7_fault_10 ?_
  refine s_iload_n (pc := 13) 1 rfl rfl dX7_fault_13 ?_
  refine s_ialdE (pc := 14) (_) rfl rfl (by omega) hz dX7_fault_14 ?_
  refine s_if_ge (pc := 15) 26 dX7_fault_15 (by decide) (fun c_15 => ?_) (fun c_15 => ?_)
  · exfalso; exact absurd c_15 (by decide)
  · refine s_aload_n (pc := 18) 0 rfl rfl dX7_fault_18 ?_
    refine s_iconst (pc := 19) (k_i1N) dX7_fault_19 ?_
    refine s_cvi1 (pc := 20) (c_X7_finds (by decide)) ml_X7_72 mw_X7_finds rfl (by decide) (Nat.le_of_ble_eq_true rfl) dX7_fault_20 ?_
    refine s_goto (pc := 23) 31 dX7_fault_23 (by decide) ?_
    refine s_iret (pc := 31) dX7_fault_31 (PostE.of hp ?_ ?_)
    · rfl
    · rfl

set_option maxRecDepth 20000 in
theorem c_X7_faultO {k m : Nat} {v : Int32} {h h2 : Hp} (hk : k < 4) (hz : h.1 54 k = nI m) (hz6 : m ≤ 60) (crm : CT 5 yX7_reads cX7_reads 3 (some .int) [.ref 50, .int (nI k)] h (some (.int v)) h2) : CT 6 yX7_fault cX7_fault 2 (some .int) [.ref 50, .int (nI k)] h (some (.int v)) (h2) := by
  refine CT.of (own := RX7) rfl (by decide) (ro_i _) [.ref 50, .int (nI k)] rfl (Nat.le_of_ble_eq_true rfl) (fun E hp => ?_)
  refine s_iload_n (pc := 0) 1 rfl rfl dX7_fault_0 ?_
  refine s_csi1 (pc := 1) (c_X7_isTextT hk) ml_X7_87 ms_X7_isText (by decide) (Nat.le_of_ble_eq_true rfl) dX7_fault_1 ?_
  refine s_if_neT (pc := 4) 9 dX7_fault_4 (by decide) ?_
  refine s_aload_n (pc := 9) 0 rfl rfl dX7_fault_9 ?_
  refine s_getr (pc := 10) (b := 54) fl_X7_19 rfl rfl rfl dX7_fault_10 ?_
  refine s_iload_n (pc := 13) 1 rfl rfl dX7_fault_13 ?_
  refine s_ialdN (pc := 14) (_) rfl rfl (by omega) hz dX7_fault_14 ?_
  refine s_if_geN (pc := 15) (by omega) 26 dX7_fault_15 (by decide) ?_
  refine s_aload_n (pc := 26) 0 rfl rfl dX7_fault_26 ?_
  refine s_iload_n (pc := 27) 1 rfl rfl dX7_fault_27 ?_
  refine s_cvi1 (pc := 28) (crm) ml_X7_119 mw_X7_reads rfl (by decide) (Nat.le_of_ble_eq_true rfl) dX7_fault_28 ?_
  refine s_iret (pc := 31) dX7_fault_31 (PostE.of hp ?_ ?_)
  · rfl
  · rfl

set_option maxRecDepth 20000 in
theorem c_X7_harbourB {s : Int32} {h : Hp} (hb : s < 0 ∨ nI 4 ≤ s) : CT 6 yX7_harbour cX7_harbour 3 (some .int) [.ref 50, .int s] h (some (.int (-1))) (h) := by
  refine CT.of (own := RX7) rfl (by decide) (ro_i _) [.ref 50, .int s, .null] rfl (Nat.le_of_ble_eq_true rfl) (fun E hp => ?_)
  refine s_iload_n (pc := 0) 1 rfl rfl dX7_harbour_0 ?_
  refine s_csi1 (pc := 1) (c_X7_isTextF hb) ml_X7_87 ms_X7_isText (by decide) (Nat.le_of_ble_eq_true rfl) dX7_harbour_1 ?_
  refine s_if_neF (pc := 4) 9 dX7_harbour_4 (by decide) ?_
  refine s_iconst (pc := 7) (k_im1) dX7_harbour_7 ?_
  refine s_iret (pc := 8) dX7_harbour_8 (PostE.of hp ?_ ?_)
  · rfl
  · rfl

set_option maxRecDepth 20000 in
theorem c_X7_harbourM {k : Nat} {h : Hp} (hk : k < 4) (hz : h.1 54 k = -1) : CT 6 yX7_harbour cX7_harbour 3 (some .int) [.ref 50, .int (nI k)] h (some (.int (-3))) (finM h 1) := by
  refine CT.of (own := RX7) rfl (by decide) (ro_i _) [.ref 50, .int (nI k), .null] rfl (Nat.le_of_ble_eq_true rfl) (fun E hp => ?_)
  refine s_iload_n (pc := 0) 1 rfl rfl dX7_harbour_0 ?_
  refine s_csi1 (pc := 1) (c_X7_isTextT hk) ml_X7_87 ms_X7_isText (by decide) (Nat.le_of_ble_eq_true rfl) dX7_harbour_1 ?_
  refine s_if_neT (pc := 4) 9 dX7_harbour_4 (by decide) ?_
  refine s_aload_n (pc := 9) 0 rfl rfl dX7_harbour_9 ?_
  refine s_getr (pc := 10) (b := 54) fl_X7_19 rfl rfl rfl dX7_harbour_10 ?_
  refine s_iload_n (pc := 13) 1 rfl rfl dX7_harbour_13 ?_
  refine s_ialdE (pc := 14) (_) rfl rfl (by omega) hz dX7_harbour_14 ?_
  refine s_if_ge (pc := 15) 24 dX7_harbour_15 (by decide) (fun c_15 => ?_) (fun c_15 => ?_)
  · exfalso; exact absurd c_15 (by decide)
  · refine s_aload_n (pc := 18) 0 rfl rfl dX7_harbour_18 ?_
    refine s_iconst (pc := 19) (k_i1N) dX7_harbour_19 ?_
    refine s_cvi1 (pc := 20) (c_X7_finds (by decide)) ml_X7_72 mw_X7_finds rfl (by decide) (Nat.le_of_ble_eq_true rfl) dX7_harbour_20 ?_
    refine s_iret (pc := 23) dX7_harbour_23 (PostE.of hp ?_ ?_)
    · rfl
    · rfl

set_option maxRecDepth 20000 in
theorem c_X7_harbourE {k m q : Nat} {h h2 : Hp} (hk : k < 4) (hz : h.1 54 k = nI m) (hz6 : m ≤ 60) (crm : CT 5 yX7_reads cX7_reads 3 (some .int) [.ref 50, .int (nI k)] h (some (.int (nI q))) h2) (hq : q ≤ 60) : CT 6 yX7_harbour cX7_harbour 3 (some .int) [.ref 50, .int (nI k)] h (some (.int (-4))) (h2) := by
  refine CT.of (own := RX7) rfl (by decide) (ro_i _) [.ref 50, .int (nI k), .null] rfl (Nat.le_of_ble_eq_true rfl) (fun E hp => ?_)
  refine s_iload_n (pc := 0) 1 rfl rfl dX7_harbour_0 ?_
  refine s_csi1 (pc := 1) (c_X7_isTextT hk) ml_X7_87 ms_X7_isText (by decide) (Nat.le_of_ble_eq_true rfl) dX7_harbour_1 ?_
  refine s_if_neT (pc := 4) 9 dX7_harbour_4 (by decide) ?_
  refine s_aload_n (pc := 9) 0 rfl rfl dX7_harbour_9 ?_
  refine s_getr (pc := 10) (b := 54) fl_X7_19 rfl rfl rfl dX7_harbour_10 ?_
  refine s_iload_n (pc := 13) 1 rfl rfl dX7_harbour_13 ?_
  refine s_ialdN (pc := 14) (_) rfl rfl (by omega) hz dX7_harbour_14 ?_
  refine s_if_geN (pc := 15) (by omega) 24 dX7_harbour_15 (by decide) ?_
  refine s_aload_n (pc := 24) 0 rfl rfl dX7_harbour_24 ?_
  refine s_iload_n (pc := 25) 1 rfl rfl dX7_harbour_25 ?_
  refine s_cvi1 (pc := 26) (crm) ml_X7_119 mw_X7_reads rfl (by decide) (Nat.le_of_ble_eq_true rfl) dX7_harbour_26 ?_
  refine s_bipush (pc := 29) (k_bm9) dX7_harbour_29 ?_
  refine s_icmp_eq (pc := 31) 37 dX7_harbour_31 (by decide) (fun c_31 => ?_) (fun c_31 => ?_)
  · exfalso; exact nI_n9b (by omega) c_31
  · refine s_bipush (pc := 34) (k_bm4) dX7_harbour_34 ?_
    refine s_iret (pc := 36) dX7_harbour_36 (PostE.of hp ?_ ?_)
    · rfl
    · rfl

set_option maxRecDepth 20000 in
theorem c_X7_copies_57 {x y : Nat} {h : Hp} (hx : x + 215 ≤ 215) (hy : y + 215 ≤ 215) : CT 1 yX7_copies cX7_copies 5 none [.ref 57, .int (nI x), .ref 56, .int (nI y)] h (none) (ucp h 57 x 56 y 215) := by
  refine CT.of (own := RX7) rfl (by decide) ro_v [.ref 57, .int (nI x), .ref 56, .int (nI y), .null] rfl (Nat.le_of_ble_eq_true rfl) (fun E hp => ?_)
  refine s_iconst (pc := 0) (k_i0N) dX7_copies_0 ?_
  refine s_istore (pc := 1) (by decide) rfl dX7_copies_1 ?_
  refine WW.hp (ucp_0 h 57 x 56 y).symm ?_
  suffices lp_3 : ∀ k, k ≤ 215 → WW E cX7_copies RX7 5 _ 3 [.ref 57, .int (nI x), .ref 56, .int (nI y), .int (nI k)] (ucp h 57 x 56 y k) [] from lp_3 0 (by omega)
  refine lpi 215 (fun k hk_k ih_3 => ?_)
  refine s_iload (pc := 3) rfl dX7_copies_3 ?_
  refine s_sipush (pc := 5) (k_s215N) dX7_copies_5 ?_
  refine s_icmp_geN (pc := 8) (by omega) (by omega) 29 dX7_copies_8 (by decide) (fun c_8 => ?_) (fun c_8 => ?_)
  · obtain rfl : k = 215 := by omega
    refine s_vret (pc := 29) dX7_copies_29 (PostE.of hp ?_ ?_)
    · rfl
    · rfl
  · refine s_aload_n (pc := 11) 2 rfl rfl dX7_copies_11 ?_
    refine s_iload_n (pc := 12) 3 rfl rfl dX7_copies_12 ?_
    refine s_iload (pc := 13) rfl dX7_copies_13 ?_
    refine s_iaddN (pc := 15) dX7_copies_15 ?_
    refine s_aload_n (pc := 16) 0 rfl rfl dX7_copies_16 ?_
    refine s_iload_n (pc := 17) 1 rfl rfl dX7_copies_17 ?_
    refine s_iload (pc := 18) rfl dX7_copies_18 ?_
    refine s_iaddN (pc := 20) dX7_copies_20 ?_
    refine s_ialdE (pc := 21) (_) rfl rfl (by omega) (ucp_ne (by decide)) dX7_copies_21 ?_
    refine s_iast (pc := 22) (_) rfl rfl (by omega) dX7_copies_22 ?_
    refine s_iincN (pc := 23) rfl (by decide) rfl dX7_copies_23 ?_
    refine s_goto (pc := 26) 3 dX7_copies_26 (by decide) ?_
    rw [ucp_s h 57 x 56 y k (by rfl)]
    exact ih_3 (by omega)

set_option maxRecDepth 20000 in
theorem c_X7_harbourO {k m n : Nat} {h h2 : Hp} (hk : k < 4) (hz : h.1 54 k = nI m) (hz6 : m ≤ 60) (crm : CT 5 yX7_reads cX7_reads 3 (some .int) [.ref 50, .int (nI k)] h (some (.int (-9))) h2) (hd : h2.1 57 0 = nI n) : CT 6 yX7_harbour cX7_harbour 3 (some .int) [.ref 50, .int (nI k)] h (some (.int (nI n))) (fil (ucp h2 57 0 56 0 215) 59 0 3 (nI 0)) := by
  refine CT.of (own := RX7) rfl (by decide) (ro_i _) [.ref 50, .int (nI k), .null] rfl (Nat.le_of_ble_eq_true rfl) (fun E hp => ?_)
  refine s_iload_n (pc := 0) 1 rfl rfl dX7_harbour_0 ?_
  refine s_csi1 (pc := 1) (c_X7_isTextT hk) ml_X7_87 ms_X7_isText (by decide) (Nat.le_of_ble_eq_true rfl) dX7_harbour_1 ?_
  refine s_if_neT (pc := 4) 9 dX7_harbour_4 (by decide) ?_
  refine s_aload_n (pc := 9) 0 rfl rfl dX7_harbour_9 ?_
  refine s_getr (pc := 10) (b := 54) fl_X7_19 rfl rfl rfl dX7_harbour_10 ?_
  refine s_iload_n (pc := 13) 1 rfl rfl dX7_harbour_13 ?_
  refine s_ialdN (pc := 14) (_) rfl rfl (by omega) hz dX7_harbour_14 ?_
  refine s_if_geN (pc := 15) (by omega) 24 dX7_harbour_15 (by decide) ?_
  refine s_aload_n (pc := 24) 0 rfl rfl dX7_harbour_24 ?_
  refine s_iload_n (pc := 25) 1 rfl rfl dX7_harbour_25 ?_
  refine s_cvi1 (pc := 26) (crm) ml_X7_119 mw_X7_reads rfl (by decide) (Nat.le_of_ble_eq_true rfl) dX7_harbour_26 ?_
  refine s_bipush (pc := 29) (k_bm9) dX7_harbour_29 ?_
  refine s_icmp_eq (pc := 31) 37 dX7_harbour_31 (by decide) (fun c_31 => ?_) (fun c_31 => ?_)
  · refine s_aload_n (pc := 37) 0 rfl rfl dX7_harbour_37 ?_
    refine s_getr (pc := 38) (b := 57) fl_X7_28 rfl rfl rfl dX7_harbour_38 ?_
    refine s_iconst (pc := 41) (k_i0N) dX7_harbour_41 ?_
    refine s_aload_n (pc := 42) 0 rfl rfl dX7_harbour_42 ?_
    refine s_getr (pc := 43) (b := 56) fl_X7_25 rfl rfl rfl dX7_harbour_43 ?_
    refine s_iconst (pc := 46) (k_i0N) dX7_harbour_46 ?_
    refine s_csn4 (pc := 47) (c_X7_copies_57 (by decide) (by decide)) ml_X7_122 ms_X7_copies (by decide) (Nat.le_of_ble_eq_true rfl) dX7_harbour_47 ?_
    refine s_iconst (pc := 50) (k_i0N) dX7_harbour_50 ?_
    refine s_istore_n (pc := 51) 2 rfl (by decide) rfl dX7_harbour_51 ?_
    refine WW.hp (show (ucp h2 57 0 56 0 215) = fil (ucp h2 57 0 56 0 215) 59 0 0 (nI 0) from (fil_0 _ _ _ _).symm) ?_
    suffices lp_52 : ∀ j, j ≤ 3 → WW E cX7_harbour RX7 3 _ 52 [.ref 50, .int (nI k), .int (nI j)] (fil (ucp h2 57 0 56 0 215) 59 0 j (nI 0)) [] from lp_52 0 (by omega)
    refine lpi 3 (fun j hk_j ih_52 => ?_)
    refine s_iload_n (pc := 52) 2 rfl rfl dX7_harbour_52 ?_
    refine s_iconst (pc := 53) (k_i3N) dX7_harbour_53 ?_
    refine s_icmp_geN (pc := 54) (by omega) (by omega) 70 dX7_harbour_54 (by decide) (fun c_54 => ?_) (fun c_54 => ?_)
    · obtain rfl : j = 3 := by omega
      refine s_aload_n (pc := 70) 0 rfl rfl dX7_harbour_70 ?_
      refine s_getr (pc := 71) (b := 56) fl_X7_25 rfl rfl rfl dX7_harbour_71 ?_
      refine s_iconst (pc := 74) (k_i0N) dX7_harbour_74 ?_
      refine s_ialdN (pc := 75) (_) rfl rfl (by omega) (show _ = nI n from by rw [fil_ne (by decide)]; exact hd) dX7_harbour_75 ?_
      refine s_iret (pc := 76) dX7_harbour_76 (PostE.of hp ?_ ?_)
      · rfl
      · rfl
    · refine s_aload_n (pc := 57) 0 rfl rfl dX7_harbour_57 ?_
      refine s_getr (pc := 58) (b := 59) fl_X7_34 rfl rfl rfl dX7_harbour_58 ?_
      refine s_iload_n (pc := 61) 2 rfl rfl dX7_harbour_61 ?_
      refine s_iconst (pc := 62) (k_i0N) dX7_harbour_62 ?_
      refine s_zast (pc := 63) (_) rfl rfl (by omega) (by decide) dX7_harbour_63 ?_
      refine s_iincN (pc := 64) rfl (by decide) rfl dX7_harbour_64 ?_
      refine s_goto (pc := 67) 52 dX7_harbour_67 (by decide) ?_
      have e5 := fil_s (ucp h2 57 0 56 0 215) 59 0 j (nI 0)
      rw [Nat.zero_add] at e5
      rw [e5]
      exact ih_52 (by omega)
  · exfalso; exact c_31 rfl
