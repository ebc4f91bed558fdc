/-! reading a harbour's text: f its signs, m how many -/
def lkN (f : Nat → Int32) (m q : Nat) (z : Int32) : Int32 := if q < m then f q else z
def dgB (f : Nat → Int32) (m low q : Nat) : Bool := decide (q < m ∧ nI (48 + low) ≤ f q ∧ f q ≤ nI 57)
def dvN (f : Nat → Int32) (q : Nat) : Nat := yN f q - 48
def kdN (x : Int32) : Nat := if x = nI 115 then 0 else if x = nI 98 then 1 else if x = nI 112 then 2 else if x = nI 114 then 3 else if x = nI 102 then 4 else if x = nI 103 then 5 else 6
theorem dg_v {f : Nat → Int32} {m low q : Nat} (hl : low ≤ 9) (h : dgB f m low q = true) : q < m ∧ f q = nI (48 + dvN f q) ∧ low ≤ dvN f q ∧ dvN f q ≤ 9 := by
  simp only [dgB, decide_eq_true_eq] at h
  obtain ⟨h0, h1, h2⟩ := h
  have hn : ¬ f q < 0 := by
    rw [Int32.le_iff_toInt_le, nI_toInt (by omega)] at h1
    rw [Int32.lt_iff_toInt_lt, Int32.toInt_zero]; omega
  obtain ⟨j, hj, e⟩ := nI_of hn
  have ey : yN f q = j := by unfold yN; rw [e, nI_clamp hj]
  rw [e, Int32.le_iff_toInt_le, nI_toInt (by omega), nI_toInt hj] at h1
  rw [e, Int32.le_iff_toInt_le, nI_toInt hj, nI_toInt (by decide)] at h2
  unfold dvN
  rw [ey, e]
  refine ⟨h0, ?_, by omega, by omega⟩
  rw [show 48 + (j - 48) = j by omega]
theorem dg_f {f : Nat → Int32} {m low q : Nat} {z : Int32} (hz : z < nI 48 ∨ nI 57 < z) (hz2 : z < nI (48 + low) ∨ nI 57 < z) (h : ¬ dgB f m low q = true) : lkN f m q z < nI (48 + low) ∨ nI 57 < lkN f m q z := by
  simp only [dgB, decide_eq_true_eq] at h
  unfold lkN
  by_cases hq : q < m
  · rw [if_pos hq]
    by_cases h1 : nI (48 + low) ≤ f q
    · exact Or.inr (Int32.not_le.mp (fun h2 => h ⟨hq, h1, h2⟩))
    · exact Or.inl (Int32.not_le.mp h1)
  · rw [if_neg hq]; exact hz2
theorem sub48 (x : Int32) : (x - nI 48).toInt = if x.toInt < -2147483600 then x.toInt - 48 + 4294967296 else x.toInt - 48 := by
  have h1 := x.toInt_lt
  have h2 := x.le_toInt
  rw [Int32.toInt_sub, nI_toInt (by decide), Int.bmod_def]
  split <;> split <;> omega
theorem dg_in {f : Nat → Int32} {m low q : Nat} (hl : low ≤ 9) : (nI low ≤ lkN f m q (-1000) - nI 48 ∧ lkN f m q (-1000) - nI 48 ≤ nI 9) ↔ dgB f m low q = true := by
  by_cases hq : q < m
  · have e : lkN f m q (-1000) = f q := if_pos hq
    have h1 := (f q).toInt_lt
    have h2 := (f q).le_toInt
    have s4 := sub48 (f q)
    rw [e]
    simp only [dgB, decide_eq_true_eq, Int32.le_iff_toInt_le, hq, true_and]
    rw [nI_toInt (show low < 2 ^ 31 by omega), nI_toInt (show 9 < 2 ^ 31 by decide), nI_toInt (show 48 + low < 2 ^ 31 by omega), nI_toInt (show 57 < 2 ^ 31 by decide)]
    split at s4 <;> omega
  · have e : lkN f m q (-1000) = -1000 := if_neg hq
    have s4 : ((-1000 : Int32) - nI 48).toInt = -1048 := by decide
    rw [e]
    simp only [dgB, decide_eq_true_eq, Int32.le_iff_toInt_le, hq, false_and, iff_false]
    rw [nI_toInt (show low < 2 ^ 31 by omega), s4]
    omega
theorem kd_le (x : Int32) : kdN x ≤ 6 := by unfold kdN; (repeat' split) <;> omega
theorem kd_let {x : Int32} (h : kdN x < 6) : letA (kdN x) = x := by
  unfold kdN at h ⊢
  split at h
  · simp_all; rfl
  · split at h
    · simp_all; rfl
    · split at h
      · simp_all; rfl
      · split at h
        · simp_all; rfl
        · split at h
          · simp_all; rfl
          · split at h
            · simp_all; rfl
            · omega
theorem let_ne : ∀ k, k < 6 → ∀ j, j < k → letA j ≠ letA k := by decide +kernel
theorem kd_bad {x : Int32} (h : ¬ kdN x < 6) : ∀ k, k < 6 → letA k ≠ x := by
  intro k hk e
  have : kdN (letA k) < 6 := (show ∀ k, k < 6 → kdN (letA k) < 6 by decide +kernel) k hk
  rw [e] at this
  exact h this
theorem kd_z : kdN (nI 1000) = 6 ∧ kdN (-1000) = 6 := by decide
def skF (f : Nat → Int32) (m : Nat) : Nat → Nat → Nat
  | 0, q => q
  | n + 1, q => if q < m ∧ f q = nI 32 then skF f m n (q + 1) else q
def sk (f : Nat → Int32) (m q : Nat) : Nat := skF f m (m - q) q
theorem sk_t {f : Nat → Int32} {m q : Nat} (h : q < m ∧ f q = nI 32) : sk f m q = sk f m (q + 1) := by
  unfold sk
  rw [show m - q = (m - (q + 1)) + 1 by omega]
  simp only [skF]
  rw [if_pos h]
theorem sk_f {f : Nat → Int32} {m q : Nat} (h : ¬ (q < m ∧ f q = nI 32)) : sk f m q = q := by
  unfold sk
  cases hk : m - q with
  | zero => rfl
  | succ n => simp only [skF]; rw [if_neg h]
theorem sk_le {f : Nat → Int32} {m q : Nat} (h : q ≤ m) : q ≤ sk f m q ∧ sk f m q ≤ m := by
  unfold sk
  generalize hn : m - q = n
  induction n generalizing q with
  | zero => exact ⟨Nat.le_refl _, h⟩
  | succ n ih =>
    simp only [skF]
    split
    · have := ih (q := q + 1) (by omega) (by omega)
      exact ⟨by omega, this.2⟩
    · exact ⟨Nat.le_refl _, h⟩
theorem lk_32 {f : Nat → Int32} {m q : Nat} {z : Int32} (hz : z ≠ nI 32) : lkN f m q z = nI 32 ↔ q < m ∧ f q = nI 32 := by
  unfold lkN
  by_cases hq : q < m
  · rw [if_pos hq]; exact ⟨fun h => ⟨hq, h⟩, fun h => h.2⟩
  · rw [if_neg hq]; exact ⟨fun h => absurd h hz, fun h => absurd h.1 hq⟩
theorem lk_eq {f : Nat → Int32} {m q : Nat} {z v : Int32} (hz : z ≠ v) : lkN f m q z = v ↔ q < m ∧ f q = v := by
  unfold lkN
  by_cases hq : q < m
  · rw [if_pos hq]; exact ⟨fun h => ⟨hq, h⟩, fun h => h.2⟩
  · rw [if_neg hq]; exact ⟨fun h => absurd h hz, fun h => absurd h.1 hq⟩
theorem lk_kd {f : Nat → Int32} {m q : Nat} {z : Int32} (hz : kdN z = 6) : kdN (lkN f m q z) < 6 ↔ q < m ∧ kdN (f q) < 6 := by
  unfold lkN
  by_cases hq : q < m
  · rw [if_pos hq]; exact ⟨fun h => ⟨hq, h⟩, fun h => h.2⟩
  · rw [if_neg hq]; exact ⟨fun h => by omega, fun h => absurd h.1 hq⟩
def fgS (f : Nat → Int32) (m low : Nat) (s : Nat × Bool) : Nat × Bool := if s.2 = true ∧ dgB f m low s.1 = true then (s.1 + 1, true) else (s.1, false)
theorem fg_t {f : Nat → Int32} {m low q : Nat} (h : dgB f m low q = true) : fgS f m low (q, true) = (q + 1, true) := if_pos ⟨rfl, h⟩
theorem fg_f {f : Nat → Int32} {m low q : Nat} (h : ¬ dgB f m low q = true) : fgS f m low (q, true) = (q, false) := if_neg (fun z => h z.2)
theorem fg_n {f : Nat → Int32} {m low q : Nat} : fgS f m low (q, false) = (q, false) := if_neg (fun z => absurd z.1 (by simp))
theorem fg_le {f : Nat → Int32} {m low : Nat} {s : Nat × Bool} (h : s.1 ≤ m) : (fgS f m low s).1 ≤ m := by
  unfold fgS
  split
  · rename_i h1
    have h2 := h1.2
    simp only [dgB, decide_eq_true_eq] at h2
    exact h2.1
  · exact h
def hdS (f : Nat → Int32) (m : Nat) : Nat × Bool := fgS f m 1 (fgS f m 0 (fgS f m 0 (if sk f m 0 < m ∧ f (sk f m 0) = nI 104 then (sk f m 0 + 1, true) else (sk f m 0, false))))
def shS (f : Nat → Int32) (m n q : Nat) : Nat × Bool := fgS f m 0 (fgS f m 0 (fgS f m 0 (fgS f m 0 (fgS f m 0 (if q < m ∧ kdN (f q) < 6 ∧ n < 6 then (q + 1, true) else (q, false))))))
def hdA (f : Nat → Int32) (q : Nat) : Nat → Nat := au (au (au (fun _ => 0) 1 (10 * dvN f (q + 1) + dvN f (q + 2))) 2 (dvN f (q + 3))) 4 (dvN f (q + 3))
def shA (f : Nat → Int32) (a : Nat → Nat) (q : Nat) : Nat → Nat := au (au (au (au (au (au a (7 + 8 * a 0) (kdN (f q))) (7 + 8 * a 0 + 1) (10 * dvN f (q + 1) + dvN f (q + 2))) (7 + 8 * a 0 + 2) (dvN f (q + 3))) (7 + 8 * a 0 + 3) (dvN f (q + 4))) (7 + 8 * a 0 + 4) (dvN f (q + 5))) 0 (a 0 + 1)
def rdS (f : Nat → Int32) (m : Nat) : Nat → Nat → (Nat → Nat) → (Nat × Bool) × (Nat → Nat)
  | 0, q, a => ((q, true), a)
  | k + 1, q, a => if q < m then (if (shS f m (a 0) q).2 = true then rdS f m k (sk f m (q + 6)) (shA f a q) else (((shS f m (a 0) q).1, false), a)) else ((q, true), a)
def prs (f : Nat → Int32) (m : Nat) : (Nat × Bool) × (Nat → Nat) := if (hdS f m).2 = true then rdS f m 7 (sk f m (sk f m 0 + 4)) (hdA f (sk f m 0)) else (((hdS f m).1, false), fun _ => 0)
def ansN (r : (Nat × Bool) × (Nat → Nat)) : Int32 := if r.1.2 = true ∧ 0 < r.2 0 then -9 else nI r.1.1
theorem fg_cs (f : Nat → Int32) (m low q : Nat) (b : Bool) : (b = true ∧ dgB f m low q = true ∧ fgS f m low (q, b) = (q + 1, true)) ∨ fgS f m low (q, b) = (q, false) := by
  unfold fgS
  by_cases h : b = true ∧ dgB f m low q = true
  · exact Or.inl ⟨h.1, h.2, if_pos h⟩
  · exact Or.inr (if_neg h)
theorem hd_cs (f : Nat → Int32) (m : Nat) : (¬ (sk f m 0 < m ∧ f (sk f m 0) = nI 104) ∧ hdS f m = (sk f m 0, false)) ∨ ((sk f m 0 < m ∧ f (sk f m 0) = nI 104) ∧ ((¬ dgB f m 0 (sk f m 0 + 1) = true ∧ hdS f m = (sk f m 0 + 1, false)) ∨ (dgB f m 0 (sk f m 0 + 1) = true ∧ ((¬ dgB f m 0 (sk f m 0 + 2) = true ∧ hdS f m = (sk f m 0 + 2, false)) ∨ (dgB f m 0 (sk f m 0 + 2) = true ∧ ((¬ dgB f m 1 (sk f m 0 + 3) = true ∧ hdS f m = (sk f m 0 + 3, false)) ∨ (dgB f m 1 (sk f m 0 + 3) = true ∧ hdS f m = (sk f m 0 + 4, true)))))))) := by
  unfold hdS
  by_cases h0 : sk f m 0 < m ∧ f (sk f m 0) = nI 104
  · rw [if_pos h0]
    refine Or.inr ⟨h0, ?_⟩
    by_cases h1 : dgB f m 0 (sk f m 0 + 1) = true
    · rw [fg_t h1]
      refine Or.inr ⟨h1, ?_⟩
      by_cases h2 : dgB f m 0 (sk f m 0 + 2) = true
      · rw [fg_t h2]
        refine Or.inr ⟨h2, ?_⟩
        by_cases h3 : dgB f m 1 (sk f m 0 + 3) = true
        · rw [fg_t h3]; exact Or.inr ⟨h3, rfl⟩
        · rw [fg_f h3]; exact Or.inl ⟨h3, rfl⟩
      · rw [fg_f h2, fg_n]; exact Or.inl ⟨h2, rfl⟩
    · rw [fg_f h1, fg_n, fg_n]; exact Or.inl ⟨h1, rfl⟩
  · rw [if_neg h0, fg_n, fg_n, fg_n]
    exact Or.inl ⟨h0, rfl⟩
/-- where a ship's reading ends, stage by stage -/
theorem sh_cs (f : Nat → Int32) (m n q : Nat) : (¬ (q < m ∧ kdN (f q) < 6 ∧ n < 6) ∧ shS f m n q = (q, false)) ∨ ((q < m ∧ kdN (f q) < 6 ∧ n < 6) ∧ ((¬ dgB f m 0 (q + 1) = true ∧ shS f m n q = (q + 1, false)) ∨ (dgB f m 0 (q + 1) = true ∧ ((¬ dgB f m 0 (q + 2) = true ∧ shS f m n q = (q + 2, false)) ∨ (dgB f m 0 (q + 2) = true ∧ ((¬ dgB f m 0 (q + 3) = true ∧ shS f m n q = (q + 3, false)) ∨ (dgB f m 0 (q + 3) = true ∧ ((¬ dgB f m 0 (q + 4) = true ∧ shS f m n q = (q + 4, false)) ∨ (dgB f m 0 (q + 4) = true ∧ ((¬ dgB f m 0 (q + 5) = true ∧ shS f m n q = (q + 5, false)) ∨ (dgB f m 0 (q + 5) = true ∧ shS f m n q = (q + 6, true)))))))))))) := by
  unfold shS
  by_cases h0 : q < m ∧ kdN (f q) < 6 ∧ n < 6
  · rw [if_pos h0]
    refine Or.inr ⟨h0, ?_⟩
    by_cases h1 : dgB f m 0 (q + 1) = true
    · rw [fg_t h1]
      refine Or.inr ⟨h1, ?_⟩
      by_cases h2 : dgB f m 0 (q + 2) = true
      · rw [fg_t h2]
        refine Or.inr ⟨h2, ?_⟩
        by_cases h3 : dgB f m 0 (q + 3) = true
        · rw [fg_t h3]
          refine Or.inr ⟨h3, ?_⟩
          by_cases h4 : dgB f m 0 (q + 4) = true
          · rw [fg_t h4]
            refine Or.inr ⟨h4, ?_⟩
            by_cases h5 : dgB f m 0 (q + 5) = true
            · rw [fg_t h5]; exact Or.inr ⟨h5, rfl⟩
            · rw [fg_f h5]; exact Or.inl ⟨h5, rfl⟩
          · rw [fg_f h4, fg_n]; exact Or.inl ⟨h4, rfl⟩
        · rw [fg_f h3, fg_n, fg_n]; exact Or.inl ⟨h3, rfl⟩
      · rw [fg_f h2, fg_n, fg_n, fg_n]; exact Or.inl ⟨h2, rfl⟩
    · rw [fg_f h1, fg_n, fg_n, fg_n, fg_n]; exact Or.inl ⟨h1, rfl⟩
  · rw [if_neg h0, fg_n, fg_n, fg_n, fg_n, fg_n]
    exact Or.inl ⟨h0, rfl⟩
theorem dg_lt {f : Nat → Int32} {m low q : Nat} (h : dgB f m low q = true) : q < m := by
  simp only [dgB, decide_eq_true_eq] at h
  exact h.1
theorem z_l : nI 1000 < nI 48 ∨ nI 57 < nI 1000 := Or.inr (by decide)
/-- the frame of the class's reading: only the fleet F changes -/
def FF (F : Nat) (h h' : Hp) : Prop := h'.2 = h.2 ∧ ∀ x y, ¬ (F ≤ x ∧ x ≤ F + 5) → h'.1 x y = h.1 x y
theorem FF.rf (F : Nat) (h : Hp) : FF F h h := ⟨rfl, fun _ _ _ => rfl⟩
theorem FF.tr {F : Nat} {h h1 h2 : Hp} (p : FF F h h1) (q : FF F h1 h2) : FF F h h2 := ⟨q.1.trans p.1, fun x y c => (q.2 x y c).trans (p.2 x y c)⟩
theorem FF.ui {F : Nat} {h h1 : Hp} (p : FF F h h1) {a k : Nat} {v : Int32} (ha : F ≤ a ∧ a ≤ F + 5) : FF F h (ui h1 a k v) := ⟨p.1, fun x y c => (ui_ne (fun e => c (by rw [e]; exact ha))).trans (p.2 x y c)⟩

set_option maxRecDepth 20000 in
theorem c_X1_kindOfT {x : Int32} {h : Hp} (hx : kdN x < 6) : CT 1 yX1_kindOf cX1_kindOf 2 (some .int) [.int x] h (some (.int (nI (kdN x)))) (h) := by
  have ex := kd_let hx
  refine CT.of (own := RX1) rfl (by decide) (ro_i _) [.int x, .null] rfl (Nat.le_of_ble_eq_true rfl) (fun E hp => ?_)
  refine s_iconst (pc := 0) (k_i0N) dX1_kindOf_0 ?_
  refine s_istore_n (pc := 1) 1 rfl (by decide) rfl dX1_kindOf_1 ?_
  suffices lp_2 : ∀ k, k ≤ kdN x → WW E cX1_kindOf RX1 2 _ 2 [.int x, .int (nI k)] (h) [] from lp_2 (0) (by omega)
  refine lpi (kdN x) (fun k hk_k ih_2 => ?_)
  refine s_iload_n (pc := 2) 1 rfl rfl dX1_kindOf_2 ?_
  refine s_getL (pc := 3) dX1_kindOf_3 ?_
  refine s_lenL (pc := 6) dX1_kindOf_6 ?_
  refine WW.top (show (6 : Int32) = nI 6 from rfl) ?_
  refine s_icmp_geN (pc := 7) (by omega) (by omega) 27 dX1_kindOf_7 (by decide) (fun c_7 => ?_) (fun c_7 => ?_)
  · exfalso; omega
  · refine s_getL (pc := 10) dX1_kindOf_10 ?_
    refine s_iload_n (pc := 13) 1 rfl rfl dX1_kindOf_13 ?_
    refine s_ldL (pc := 14) (_) rfl (by omega) dX1_kindOf_14 ?_
    refine s_iload_n (pc := 15) 0 rfl rfl dX1_kindOf_15 ?_
    refine s_icmp_ne (pc := 16) 21 dX1_kindOf_16 (by decide) (fun c_16 => ?_) (fun c_16 => ?_)
    · refine s_iincN (pc := 21) rfl (by decide) rfl dX1_kindOf_21 ?_
      refine s_goto (pc := 24) 2 dX1_kindOf_24 (by decide) ?_
      exact ih_2 (Nat.lt_of_le_of_ne hk_k (fun e => c_16 (by rw [e]; exact ex)))
    · obtain rfl : k = kdN x := Decidable.byContradiction (fun e => absurd (c_16.trans ex.symm) (let_ne _ hx k (by omega)))
      refine s_iload_n (pc := 19) 1 rfl rfl dX1_kindOf_19 ?_
      refine s_iret (pc := 20) dX1_kindOf_20 (PostE.of hp ?_ ?_)
      · rfl
      · rfl

set_option maxRecDepth 20000 in
theorem c_X1_kindOfF {x : Int32} {h : Hp} (hx : ¬ kdN x < 6) : CT 1 yX1_kindOf cX1_kindOf 2 (some .int) [.int x] h (some (.int (-1))) (h) := by
  refine CT.of (own := RX1) rfl (by decide) (ro_i _) [.int x, .null] rfl (Nat.le_of_ble_eq_true rfl) (fun E hp => ?_)
  refine s_iconst (pc := 0) (k_i0N) dX1_kindOf_0 ?_
  refine s_istore_n (pc := 1) 1 rfl (by decide) rfl dX1_kindOf_1 ?_
  suffices lp_2 : ∀ k, k ≤ 6 → WW E cX1_kindOf RX1 2 _ 2 [.int x, .int (nI k)] (h) [] from lp_2 (0) (by omega)
  refine lpi (6) (fun k hk_k ih_2 => ?_)
  refine s_iload_n (pc := 2) 1 rfl rfl dX1_kindOf_2 ?_
  refine s_getL (pc := 3) dX1_kindOf_3 ?_
  refine s_lenL (pc := 6) dX1_kindOf_6 ?_
  refine WW.top (show (6 : Int32) = nI 6 from rfl) ?_
  refine s_icmp_geN (pc := 7) (by omega) (by omega) 27 dX1_kindOf_7 (by decide) (fun c_7 => ?_) (fun c_7 => ?_)
  · refine s_iconst (pc := 27) (k_im1) dX1_kindOf_27 ?_
    refine s_iret (pc := 28) dX1_kindOf_28 (PostE.of hp ?_ ?_)
    · rfl
    · rfl
  · refine s_getL (pc := 10) dX1_kindOf_10 ?_
    refine s_iload_n (pc := 13) 1 rfl rfl dX1_kindOf_13 ?_
    refine s_ldL (pc := 14) (_) rfl (by omega) dX1_kindOf_14 ?_
    refine s_iload_n (pc := 15) 0 rfl rfl dX1_kindOf_15 ?_
    refine s_icmp_ne (pc := 16) 21 dX1_kindOf_16 (by decide) (fun c_16 => ?_) (fun c_16 => ?_)
    · refine s_iincN (pc := 21) rfl (by decide) rfl dX1_kindOf_21 ?_
      refine s_goto (pc := 24) 2 dX1_kindOf_24 (by decide) ?_
      exact ih_2 (by omega)
    · exfalso; exact kd_bad hx k (by omega) c_16

theorem ui_self {h : Hp} {a k : Nat} {v : Int32} (e : h.1 a k = v) : ui h a k v = h := hp_ext (fun x y => by
  simp only [ui]
  by_cases q : x = a ∧ y = k
  · rw [if_pos q, q.1, q.2, e]
  · rw [if_neg q]) (fun _ _ => rfl)

set_option maxRecDepth 20000 in
theorem c_X1_signHere_35 {t m q : Nat} {f : Nat → Int32} {h : Hp} (ht : t < 4) (hf : ∀ j, j < 60 → h.1 (12 + 1 + t) j = f j) (hm : m ≤ 60) (hq : h.1 35 8 = nI q) (hqm : q ≤ m) : CT 1 yX1_signHere cX1_signHere 3 (some .int) [.ref 35, .ref (12 + 1 + t), .int (nI m)] h (some (.int (lkN f m q (nI 1000)))) (h) := by
  refine CT.of (own := RX1) rfl (by decide) (ro_i _) [.ref 35, .ref (12 + 1 + t), .int (nI m)] rfl (Nat.le_of_ble_eq_true rfl) (fun E hp => ?_)
  refine s_aload_n (pc := 0) 0 rfl rfl dX1_signHere_0 ?_
  refine s_getiE (pc := 1) fl_X1_37 rfl rfl hq dX1_signHere_1 ?_
  refine s_if_ltN (pc := 4) (by omega) 33 dX1_signHere_4 (by decide) ?_
  refine s_aload_n (pc := 7) 0 rfl rfl dX1_signHere_7 ?_
  refine s_getiE (pc := 8) fl_X1_37 rfl rfl hq dX1_signHere_8 ?_
  refine s_iload_n (pc := 11) 2 rfl rfl dX1_signHere_11 ?_
  refine s_icmp_geN (pc := 12) (by omega) (by omega) 33 dX1_signHere_12 (by decide) (fun c_12 => ?_) (fun c_12 => ?_)
  · refine s_sipush (pc := 33) (k_s1000N) dX1_signHere_33 ?_
    refine s_iret (pc := 36) dX1_signHere_36 (PostE.of hp ?_ ?_)
    · unfold lkN; first | (rw [if_pos (by omega)]; done) | (rw [if_neg (by omega)]; done)
    · rfl
  · refine s_aload_n (pc := 15) 0 rfl rfl dX1_signHere_15 ?_
    refine s_getiE (pc := 16) fl_X1_37 rfl rfl hq dX1_signHere_16 ?_
    refine s_aload_n (pc := 19) 1 rfl rfl dX1_signHere_19 ?_
    refine s_alen (pc := 20) (ly_10 t ht) (by decide) dX1_signHere_20 ?_
    refine s_icmp_geN (pc := 21) (by omega) (by omega) 33 dX1_signHere_21 (by decide) (fun c_21 => ?_) (fun c_21 => ?_)
    · exfalso; omega
    · refine s_aload_n (pc := 24) 1 rfl rfl dX1_signHere_24 ?_
      refine s_aload_n (pc := 25) 0 rfl rfl dX1_signHere_25 ?_
      refine s_getiE (pc := 26) fl_X1_37 rfl rfl hq dX1_signHere_26 ?_
      refine s_ialdE (pc := 29) (_) (ly_10 t ht) rfl (by omega) (hf _ (by omega)) dX1_signHere_29 ?_
      refine s_goto (pc := 30) 36 dX1_signHere_30 (by decide) ?_
      refine s_iret (pc := 36) dX1_signHere_36 (PostE.of hp ?_ ?_)
      · unfold lkN; first | (rw [if_pos (by omega)]; done) | (rw [if_neg (by omega)]; done)
      · rfl

set_option maxRecDepth 20000 in
theorem c_X1_skipBlanks_35 {t m q : Nat} {f : Nat → Int32} {h : Hp} (ht : t < 4) (hf : ∀ j, j < 60 → h.1 (12 + 1 + t) j = f j) (hm : m ≤ 60) (hq : h.1 35 8 = nI q) (hqm : q ≤ m) : CT 2 yX1_skipBlanks cX1_skipBlanks 4 none [.ref 35, .ref (12 + 1 + t), .int (nI m)] h (none) (ui h 35 8 (nI (sk f m q))) := by
  refine CT.of (own := RX1) rfl (by decide) ro_v [.ref 35, .ref (12 + 1 + t), .int (nI m), .null] rfl (Nat.le_of_ble_eq_true rfl) (fun E hp => ?_)
  refine s_iconst (pc := 0) (k_i0N) dX1_skipBlanks_0 ?_
  refine s_istore_n (pc := 1) 3 rfl (by decide) rfl dX1_skipBlanks_1 ?_
  refine WW.hp (show h = ui h 35 8 (nI q) from (ui_self hq).symm) ?_
  suffices lp_2 : ∀ n, n ≤ m → ∀ u, (u ≤ m ∧ n ≤ u ∧ sk f m q = sk f m u) → WW E cX1_skipBlanks RX1 4 _ 2 [.ref 35, .ref (12 + 1 + t), .int (nI m), .int (nI n)] (ui h 35 8 (nI u)) [] from lp_2 0 (by omega) q ⟨hqm, Nat.zero_le _, rfl⟩
  refine lpi m (fun n hk_n ih_2 => ?_)
  intro u hu
  refine s_iload_n (pc := 2) 3 rfl rfl dX1_skipBlanks_2 ?_
  refine s_iload_n (pc := 3) 2 rfl rfl dX1_skipBlanks_3 ?_
  refine s_icmp_geN (pc := 4) (by omega) (by omega) 34 dX1_skipBlanks_4 (by decide) (fun c_4 => ?_) (fun c_4 => ?_)
  · refine s_vret (pc := 34) dX1_skipBlanks_34 (PostE.of hp ?_ ?_)
    · rfl
    · rw [hu.2.2, sk_f (by omega)]
  · refine s_aload_n (pc := 7) 0 rfl rfl dX1_skipBlanks_7 ?_
    refine s_aload_n (pc := 8) 1 rfl rfl dX1_skipBlanks_8 ?_
    refine s_iload_n (pc := 9) 2 rfl rfl dX1_skipBlanks_9 ?_
    refine s_cvi2 (pc := 10) (c_X1_signHere_35 (f := f) (h := ui h 35 8 (nI u)) ht (fun j hj => by (repeat rw [ui_ne (by omega)]); exact hf j hj) hm ui_eq hu.1) ml_X1_51 mw_X1_signHere rfl (by decide) (Nat.le_of_ble_eq_true rfl) dX1_skipBlanks_10 ?_
    refine s_bipush (pc := 13) (k_b32N) dX1_skipBlanks_13 ?_
    refine s_icmp_ne (pc := 15) 34 dX1_skipBlanks_15 (by decide) (fun c_15 => ?_) (fun c_15 => ?_)
    · refine s_vret (pc := 34) dX1_skipBlanks_34 (PostE.of hp ?_ ?_)
      · rfl
      · rw [hu.2.2, sk_f (fun z => c_15 ((lk_32 (by decide)).mpr z))]
    · refine s_aload_n (pc := 18) 0 rfl rfl dX1_skipBlanks_18 ?_
      refine s_dup (pc := 19) rfl dX1_skipBlanks_19 ?_
      refine s_getiE (pc := 20) fl_X1_37 rfl rfl (show (ui h 35 8 (nI u)).1 35 8 = nI u from ui_eq) dX1_skipBlanks_20 ?_
      refine s_iconst (pc := 23) (k_i1N) dX1_skipBlanks_23 ?_
      refine s_iaddN (pc := 24) dX1_skipBlanks_24 ?_
      refine s_puti (pc := 25) fl_X1_37 fw_1_8 rfl rfl dX1_skipBlanks_25 ?_
      refine s_iincN (pc := 28) rfl (by decide) rfl dX1_skipBlanks_28 ?_
      refine s_goto (pc := 31) 2 dX1_skipBlanks_31 (by decide) ?_
      have c2 := (lk_32 (by decide)).mp c_15
      rw [ui_ui]
      exact ih_2 (by omega) (u + 1) ⟨by omega, by omega, hu.2.2.trans (sk_t c2)⟩

set_option maxRecDepth 20000 in
theorem c_X1_readFigureT_35 {low : Nat} {t m q : Nat} {f : Nat → Int32} {h : Hp} (ht : t < 4) (hf : ∀ j, j < 60 → h.1 (12 + 1 + t) j = f j) (hm : m ≤ 60) (hq : h.1 35 8 = nI q) (hqm : q ≤ m) (hl : low ≤ 9) (hd : dgB f m low q = true) : CT 2 yX1_readFigure cX1_readFigure 5 (some .int) [.ref 35, .ref (12 + 1 + t), .int (nI m), .int (nI low)] h (some (.int (nI (dvN f q)))) (ui h 35 8 (nI (q + 1))) := by
  obtain ⟨g0, g1, g2, g3⟩ := dg_v hl hd
  have gk : lkN f m q (nI 1000) = nI (48 + dvN f q) := (if_pos g0).trans g1
  refine CT.of (own := RX1) rfl (by decide) (ro_i _) [.ref 35, .ref (12 + 1 + t), .int (nI m), .int (nI low), .null] rfl (Nat.le_of_ble_eq_true rfl) (fun E hp => ?_)
  refine s_aload_n (pc := 0) 0 rfl rfl dX1_readFigure_0 ?_
  refine s_aload_n (pc := 1) 1 rfl rfl dX1_readFigure_1 ?_
  refine s_iload_n (pc := 2) 2 rfl rfl dX1_readFigure_2 ?_
  refine s_cvi2 (pc := 3) (c_X1_signHere_35 ht hf hm hq hqm) ml_X1_51 mw_X1_signHere rfl (by decide) (Nat.le_of_ble_eq_true rfl) dX1_readFigure_3 ?_
  refine WW.top gk ?_
  refine s_istore (pc := 6) (by decide) rfl dX1_readFigure_6 ?_
  refine s_iload (pc := 8) rfl dX1_readFigure_8 ?_
  refine s_bipush (pc := 10) (k_b48N) dX1_readFigure_10 ?_
  refine s_iload_n (pc := 12) 3 rfl rfl dX1_readFigure_12 ?_
  refine s_iaddN (pc := 13) dX1_readFigure_13 ?_
  refine s_icmp_ltN (pc := 14) (by omega) (by omega) 24 dX1_readFigure_14 (by decide) (fun c_14 => ?_) (fun c_14 => ?_)
  · exfalso; omega
  · refine s_iload (pc := 17) rfl dX1_readFigure_17 ?_
    refine s_bipush (pc := 19) (k_b57N) dX1_readFigure_19 ?_
    refine s_icmp_leN (pc := 21) (by omega) (by omega) 26 dX1_readFigure_21 (by decide) (fun c_21 => ?_) (fun c_21 => ?_)
    · refine s_aload_n (pc := 26) 0 rfl rfl dX1_readFigure_26 ?_
      refine s_dup (pc := 27) rfl dX1_readFigure_27 ?_
      refine s_getiE (pc := 28) fl_X1_37 rfl rfl hq dX1_readFigure_28 ?_
      refine s_iconst (pc := 31) (k_i1N) dX1_readFigure_31 ?_
      refine s_iaddN (pc := 32) dX1_readFigure_32 ?_
      refine s_puti (pc := 33) fl_X1_37 fw_1_8 rfl rfl dX1_readFigure_33 ?_
      refine s_iload (pc := 36) rfl dX1_readFigure_36 ?_
      refine s_bipush (pc := 38) (k_b48N) dX1_readFigure_38 ?_
      refine s_isubN (pc := 40) (by omega) dX1_readFigure_40 ?_
      refine s_iret (pc := 41) dX1_readFigure_41 (PostE.of hp ?_ ?_)
      · exact retn (by omega)
      · rfl
    · exfalso; omega

set_option maxRecDepth 20000 in
theorem c_X1_readFigureF_35 {low : Nat} {t m q : Nat} {f : Nat → Int32} {h : Hp} (ht : t < 4) (hf : ∀ j, j < 60 → h.1 (12 + 1 + t) j = f j) (hm : m ≤ 60) (hq : h.1 35 8 = nI q) (hqm : q ≤ m) (hl : low ≤ 9) (hd : ¬ dgB f m low q = true) : CT 2 yX1_readFigure cX1_readFigure 5 (some .int) [.ref 35, .ref (12 + 1 + t), .int (nI m), .int (nI low)] h (some (.int (-1))) (h) := by
  have gk := dg_f z_l (Or.inr (by decide)) hd
  refine CT.of (own := RX1) rfl (by decide) (ro_i _) [.ref 35, .ref (12 + 1 + t), .int (nI m), .int (nI low), .null] rfl (Nat.le_of_ble_eq_true rfl) (fun E hp => ?_)
  refine s_aload_n (pc := 0) 0 rfl rfl dX1_readFigure_0 ?_
  refine s_aload_n (pc := 1) 1 rfl rfl dX1_readFigure_1 ?_
  refine s_iload_n (pc := 2) 2 rfl rfl dX1_readFigure_2 ?_
  refine s_cvi2 (pc := 3) (c_X1_signHere_35 ht hf hm hq hqm) ml_X1_51 mw_X1_signHere rfl (by decide) (Nat.le_of_ble_eq_true rfl) dX1_readFigure_3 ?_
  refine s_istore (pc := 6) (by decide) rfl dX1_readFigure_6 ?_
  refine s_iload (pc := 8) rfl dX1_readFigure_8 ?_
  refine s_bipush (pc := 10) (k_b48N) dX1_readFigure_10 ?_
  refine s_iload_n (pc := 12) 3 rfl rfl dX1_readFigure_12 ?_
  refine s_iaddN (pc := 13) dX1_readFigure_13 ?_
  refine s_icmp_lt (pc := 14) 24 dX1_readFigure_14 (by decide) (fun c_14 => ?_) (fun c_14 => ?_)
  · refine s_iconst (pc := 24) (k_im1) dX1_readFigure_24 ?_
    refine s_iret (pc := 25) dX1_readFigure_25 (PostE.of hp ?_ ?_)
    · rfl
    · rfl
  · refine s_iload (pc := 17) rfl dX1_readFigure_17 ?_
    refine s_bipush (pc := 19) (k_b57N) dX1_readFigure_19 ?_
    refine s_icmp_le (pc := 21) 26 dX1_readFigure_21 (by decide) (fun c_21 => ?_) (fun c_21 => ?_)
    · exact (gk.elim c_14 (fun g => absurd c_21 (Int32.not_le.mpr g))).elim
    · refine s_iconst (pc := 24) (k_im1) dX1_readFigure_24 ?_
      refine s_iret (pc := 25) dX1_readFigure_25 (PostE.of hp ?_ ?_)
      · rfl
      · rfl

set_option maxRecDepth 20000 in
theorem c_X1_readTwoFiguresT_35 {t m q : Nat} {f : Nat → Int32} {h : Hp} (ht : t < 4) (hf : ∀ j, j < 60 → h.1 (12 + 1 + t) j = f j) (hm : m ≤ 60) (hq : h.1 35 8 = nI q) (hqm : q ≤ m) (h1 : dgB f m 0 q = true) (h2 : dgB f m 0 (q + 1) = true) : CT 3 yX1_readTwoFigures cX1_readTwoFigures 5 (some .int) [.ref 35, .ref (12 + 1 + t), .int (nI m)] h (some (.int (nI (10 * dvN f q + dvN f (q + 1))))) (ui h 35 8 (nI (q + 2))) := by
  have b1 := dg_v (Nat.zero_le _) h1
  have b2 := dg_v (Nat.zero_le _) h2
  refine CT.of (own := RX1) rfl (by decide) (ro_i _) [.ref 35, .ref (12 + 1 + t), .int (nI m), .null, .null] rfl (Nat.le_of_ble_eq_true rfl) (fun E hp => ?_)
  refine s_aload_n (pc := 0) 0 rfl rfl dX1_readTwoFigures_0 ?_
  refine s_aload_n (pc := 1) 1 rfl rfl dX1_readTwoFigures_1 ?_
  refine s_iload_n (pc := 2) 2 rfl rfl dX1_readTwoFigures_2 ?_
  refine s_iconst (pc := 3) (k_i0N) dX1_readTwoFigures_3 ?_
  refine s_cvi3 (pc := 4) (c_X1_readFigureT_35 ht hf hm hq hqm (Nat.zero_le _) h1) ml_X1_58 mw_X1_readFigure rfl (by decide) (Nat.le_of_ble_eq_true rfl) dX1_readTwoFigures_4 ?_
  refine s_istore_n (pc := 7) 3 rfl (by decide) rfl dX1_readTwoFigures_7 ?_
  refine s_iload_n (pc := 8) 3 rfl rfl dX1_readTwoFigures_8 ?_
  refine s_if_geN (pc := 9) (by omega) 16 dX1_readTwoFigures_9 (by decide) ?_
  refine s_aload_n (pc := 16) 0 rfl rfl dX1_readTwoFigures_16 ?_
  refine s_aload_n (pc := 17) 1 rfl rfl dX1_readTwoFigures_17 ?_
  refine s_iload_n (pc := 18) 2 rfl rfl dX1_readTwoFigures_18 ?_
  refine s_iconst (pc := 19) (k_i0N) dX1_readTwoFigures_19 ?_
  refine s_cvi3 (pc := 20) (c_X1_readFigureT_35 (f := f) (h := ui h 35 8 (nI (q + 1))) ht (fun j hj => by (repeat rw [ui_ne (by omega)]); exact hf j hj) hm ui_eq (dg_lt h1) (Nat.zero_le _) h2) ml_X1_58 mw_X1_readFigure rfl (by decide) (Nat.le_of_ble_eq_true rfl) dX1_readTwoFigures_20 ?_
  refine s_istore (pc := 23) (by decide) rfl dX1_readTwoFigures_23 ?_
  refine s_iload (pc := 25) rfl dX1_readTwoFigures_25 ?_
  refine s_if_geN (pc := 27) (by omega) 34 dX1_readTwoFigures_27 (by decide) ?_
  refine s_bipush (pc := 34) (k_b10N) dX1_readTwoFigures_34 ?_
  refine s_iload_n (pc := 36) 3 rfl rfl dX1_readTwoFigures_36 ?_
  refine s_imulN (pc := 37) dX1_readTwoFigures_37 ?_
  refine s_iload (pc := 38) rfl dX1_readTwoFigures_38 ?_
  refine s_iaddN (pc := 40) dX1_readTwoFigures_40 ?_
  refine s_iret (pc := 41) dX1_readTwoFigures_41 (PostE.of hp ?_ ?_)
  · rfl
  · exact ui_ui _ _ _ _ _

set_option maxRecDepth 20000 in
theorem c_X1_readTwoFiguresF1_35 {t m q : Nat} {f : Nat → Int32} {h : Hp} (ht : t < 4) (hf : ∀ j, j < 60 → h.1 (12 + 1 + t) j = f j) (hm : m ≤ 60) (hq : h.1 35 8 = nI q) (hqm : q ≤ m) (h1 : ¬ dgB f m 0 q = true) : CT 3 yX1_readTwoFigures cX1_readTwoFigures 5 (some .int) [.ref 35, .ref (12 + 1 + t), .int (nI m)] h (some (.int (-1))) (h) := by
  refine CT.of (own := RX1) rfl (by decide) (ro_i _) [.ref 35, .ref (12 + 1 + t), .int (nI m), .null, .null] rfl (Nat.le_of_ble_eq_true rfl) (fun E hp => ?_)
  refine s_aload_n (pc := 0) 0 rfl rfl dX1_readTwoFigures_0 ?_
  refine s_aload_n (pc := 1) 1 rfl rfl dX1_readTwoFigures_1 ?_
  refine s_iload_n (pc := 2) 2 rfl rfl dX1_readTwoFigures_2 ?_
  refine s_iconst (pc := 3) (k_i0N) dX1_readTwoFigures_3 ?_
  refine s_cvi3 (pc := 4) (c_X1_readFigureF_35 ht hf hm hq hqm (Nat.zero_le _) h1) ml_X1_58 mw_X1_readFigure rfl (by decide) (Nat.le_of_ble_eq_true rfl) dX1_readTwoFigures_4 ?_
  refine s_istore_n (pc := 7) 3 rfl (by decide) rfl dX1_readTwoFigures_7 ?_
  refine s_iload_n (pc := 8) 3 rfl rfl dX1_readTwoFigures_8 ?_
  refine s_if_ge (pc := 9) 16 dX1_readTwoFigures_9 (by decide) (fun c_9 => ?_) (fun c_9 => ?_)
  · exfalso; exact absurd c_9 (by decide)
  · refine s_iconst (pc := 12) (k_im1) dX1_readTwoFigures_12 ?_
    refine s_goto (pc := 13) 23 dX1_readTwoFigures_13 (by decide) ?_
    refine s_istore (pc := 23) (by decide) rfl dX1_readTwoFigures_23 ?_
    refine s_iload (pc := 25) rfl dX1_readTwoFigures_25 ?_
    refine s_if_ge (pc := 27) 34 dX1_readTwoFigures_27 (by decide) (fun c_27 => ?_) (fun c_27 => ?_)
    · exfalso; exact absurd c_27 (by decide)
    · refine s_iconst (pc := 30) (k_im1) dX1_readTwoFigures_30 ?_
      refine s_goto (pc := 31) 41 dX1_readTwoFigures_31 (by decide) ?_
      refine s_iret (pc := 41) dX1_readTwoFigures_41 (PostE.of hp ?_ ?_)
      · rfl
      · rfl

set_option maxRecDepth 20000 in
theorem c_X1_readTwoFiguresF2_35 {t m q : Nat} {f : Nat → Int32} {h : Hp} (ht : t < 4) (hf : ∀ j, j < 60 → h.1 (12 + 1 + t) j = f j) (hm : m ≤ 60) (hq : h.1 35 8 = nI q) (hqm : q ≤ m) (h1 : dgB f m 0 q = true) (h2 : ¬ dgB f m 0 (q + 1) = true) : CT 3 yX1_readTwoFigures cX1_readTwoFigures 5 (some .int) [.ref 35, .ref (12 + 1 + t), .int (nI m)] h (some (.int (-1))) (ui h 35 8 (nI (q + 1))) := by
  have b1 := dg_v (Nat.zero_le _) h1
  refine CT.of (own := RX1) rfl (by decide) (ro_i _) [.ref 35, .ref (12 + 1 + t), .int (nI m), .null, .null] rfl (Nat.le_of_ble_eq_true rfl) (fun E hp => ?_)
  refine s_aload_n (pc := 0) 0 rfl rfl dX1_readTwoFigures_0 ?_
  refine s_aload_n (pc := 1) 1 rfl rfl dX1_readTwoFigures_1 ?_
  refine s_iload_n (pc := 2) 2 rfl rfl dX1_readTwoFigures_2 ?_
  refine s_iconst (pc := 3) (k_i0N) dX1_readTwoFigures_3 ?_
  refine s_cvi3 (pc := 4) (c_X1_readFigureT_35 ht hf hm hq hqm (Nat.zero_le _) h1) ml_X1_58 mw_X1_readFigure rfl (by decide) (Nat.le_of_ble_eq_true rfl) dX1_readTwoFigures_4 ?_
  refine s_istore_n (pc := 7) 3 rfl (by decide) rfl dX1_readTwoFigures_7 ?_
  refine s_iload_n (pc := 8) 3 rfl rfl dX1_readTwoFigures_8 ?_
  refine s_if_geN (pc := 9) (by omega) 16 dX1_readTwoFigures_9 (by decide) ?_
  refine s_aload_n (pc := 16) 0 rfl rfl dX1_readTwoFigures_16 ?_
  refine s_aload_n (pc := 17) 1 rfl rfl dX1_readTwoFigures_17 ?_
  refine s_iload_n (pc := 18) 2 rfl rfl dX1_readTwoFigures_18 ?_
  refine s_iconst (pc := 19) (k_i0N) dX1_readTwoFigures_19 ?_
  refine s_cvi3 (pc := 20) (c_X1_readFigureF_35 (f := f) (h := ui h 35 8 (nI (q + 1))) ht (fun j hj => by (repeat rw [ui_ne (by omega)]); exact hf j hj) hm ui_eq (dg_lt h1) (Nat.zero_le _) h2) ml_X1_58 mw_X1_readFigure rfl (by decide) (Nat.le_of_ble_eq_true rfl) dX1_readTwoFigures_20 ?_
  refine s_istore (pc := 23) (by decide) rfl dX1_readTwoFigures_23 ?_
  refine s_iload (pc := 25) rfl dX1_readTwoFigures_25 ?_
  refine s_if_ge (pc := 27) 34 dX1_readTwoFigures_27 (by decide) (fun c_27 => ?_) (fun c_27 => ?_)
  · exfalso; exact absurd c_27 (by decide)
  · refine s_iconst (pc := 30) (k_im1) dX1_readTwoFigures_30 ?_
    refine s_goto (pc := 31) 41 dX1_readTwoFigures_31 (by decide) ?_
    refine s_iret (pc := 41) dX1_readTwoFigures_41 (PostE.of hp ?_ ?_)
    · rfl
    · rfl

set_option maxRecDepth 20000 in
theorem c_X1_signHere_24 {t m q : Nat} {f : Nat → Int32} {h : Hp} (ht : t < 4) (hf : ∀ j, j < 60 → h.1 (12 + 1 + t) j = f j) (hm : m ≤ 60) (hq : h.1 24 8 = nI q) (hqm : q ≤ m) : CT 1 yX1_signHere cX1_signHere 3 (some .int) [.ref 24, .ref (12 + 1 + t), .int (nI m)] h (some (.int (lkN f m q (nI 1000)))) (h) := by
  refine CT.of (own := RX1) rfl (by decide) (ro_i _) [.ref 24, .ref (12 + 1 + t), .int (nI m)] rfl (Nat.le_of_ble_eq_true rfl) (fun E hp => ?_)
  refine s_aload_n (pc := 0) 0 rfl rfl dX1_signHere_0 ?_
  refine s_getiE (pc := 1) fl_X1_37 rfl rfl hq dX1_signHere_1 ?_
  refine s_if_ltN (pc := 4) (by omega) 33 dX1_signHere_4 (by decide) ?_
  refine s_aload_n (pc := 7) 0 rfl rfl dX1_signHere_7 ?_
  refine s_getiE (pc := 8) fl_X1_37 rfl rfl hq dX1_signHere_8 ?_
  refine s_iload_n (pc := 11) 2 rfl rfl dX1_signHere_11 ?_
  refine s_icmp_geN (pc := 12) (by omega) (by omega) 33 dX1_signHere_12 (by decide) (fun c_12 => ?_) (fun c_12 => ?_)
  · refine s_sipush (pc := 33) (k_s1000N) dX1_signHere_33 ?_
    refine s_iret (pc := 36) dX1_signHere_36 (PostE.of hp ?_ ?_)
    · unfold lkN; first | (rw [if_pos (by omega)]; done) | (rw [if_neg (by omega)]; done)
    · rfl
  · refine s_aload_n (pc := 15) 0 rfl rfl dX1_signHere_15 ?_
    refine s_getiE (pc := 16) fl_X1_37 rfl rfl hq dX1_signHere_16 ?_
    refine s_aload_n (pc := 19) 1 rfl rfl dX1_signHere_19 ?_
    refine s_alen (pc := 20) (ly_10 t ht) (by decide) dX1_signHere_20 ?_
    refine s_icmp_geN (pc := 21) (by omega) (by omega) 33 dX1_signHere_21 (by decide) (fun c_21 => ?_) (fun c_21 => ?_)
    · exfalso; omega
    · refine s_aload_n (pc := 24) 1 rfl rfl dX1_signHere_24 ?_
      refine s_aload_n (pc := 25) 0 rfl rfl dX1_signHere_25 ?_
      refine s_getiE (pc := 26) fl_X1_37 rfl rfl hq dX1_signHere_26 ?_
      refine s_ialdE (pc := 29) (_) (ly_10 t ht) rfl (by omega) (hf _ (by omega)) dX1_signHere_29 ?_
      refine s_goto (pc := 30) 36 dX1_signHere_30 (by decide) ?_
      refine s_iret (pc := 36) dX1_signHere_36 (PostE.of hp ?_ ?_)
      · unfold lkN; first | (rw [if_pos (by omega)]; done) | (rw [if_neg (by omega)]; done)
      · rfl

set_option maxRecDepth 20000 in
theorem c_X1_skipBlanks_24 {t m q : Nat} {f : Nat → Int32} {h : Hp} (ht : t < 4) (hf : ∀ j, j < 60 → h.1 (12 + 1 + t) j = f j) (hm : m ≤ 60) (hq : h.1 24 8 = nI q) (hqm : q ≤ m) : CT 2 yX1_skipBlanks cX1_skipBlanks 4 none [.ref 24, .ref (12 + 1 + t), .int (nI m)] h (none) (ui h 24 8 (nI (sk f m q))) := by
  refine CT.of (own := RX1) rfl (by decide) ro_v [.ref 24, .ref (12 + 1 + t), .int (nI m), .null] rfl (Nat.le_of_ble_eq_true rfl) (fun E hp => ?_)
  refine s_iconst (pc := 0) (k_i0N) dX1_skipBlanks_0 ?_
  refine s_istore_n (pc := 1) 3 rfl (by decide) rfl dX1_skipBlanks_1 ?_
  refine WW.hp (show h = ui h 24 8 (nI q) from (ui_self hq).symm) ?_
  suffices lp_2 : ∀ n, n ≤ m → ∀ u, (u ≤ m ∧ n ≤ u ∧ sk f m q = sk f m u) → WW E cX1_skipBlanks RX1 4 _ 2 [.ref 24, .ref (12 + 1 + t), .int (nI m), .int (nI n)] (ui h 24 8 (nI u)) [] from lp_2 0 (by omega) q ⟨hqm, Nat.zero_le _, rfl⟩
  refine lpi m (fun n hk_n ih_2 => ?_)
  intro u hu
  refine s_iload_n (pc := 2) 3 rfl rfl dX1_skipBlanks_2 ?_
  refine s_iload_n (pc := 3) 2 rfl rfl dX1_skipBlanks_3 ?_
  refine s_icmp_geN (pc := 4) (by omega) (by omega) 34 dX1_skipBlanks_4 (by decide) (fun c_4 => ?_) (fun c_4 => ?_)
  · refine s_vret (pc := 34) dX1_skipBlanks_34 (PostE.of hp ?_ ?_)
    · rfl
    · rw [hu.2.2, sk_f (by omega)]
  · refine s_aload_n (pc := 7) 0 rfl rfl dX1_skipBlanks_7 ?_
    refine s_aload_n (pc := 8) 1 rfl rfl dX1_skipBlanks_8 ?_
    refine s_iload_n (pc := 9) 2 rfl rfl dX1_skipBlanks_9 ?_
    refine s_cvi2 (pc := 10) (c_X1_signHere_24 (f := f) (h := ui h 24 8 (nI u)) ht (fun j hj => by (repeat rw [ui_ne (by omega)]); exact hf j hj) hm ui_eq hu.1) ml_X1_51 mw_X1_signHere rfl (by decide) (Nat.le_of_ble_eq_true rfl) dX1_skipBlanks_10 ?_
    refine s_bipush (pc := 13) (k_b32N) dX1_skipBlanks_13 ?_
    refine s_icmp_ne (pc := 15) 34 dX1_skipBlanks_15 (by decide) (fun c_15 => ?_) (fun c_15 => ?_)
    · refine s_vret (pc := 34) dX1_skipBlanks_34 (PostE.of hp ?_ ?_)
      · rfl
      · rw [hu.2.2, sk_f (fun z => c_15 ((lk_32 (by decide)).mpr z))]
    · refine s_aload_n (pc := 18) 0 rfl rfl dX1_skipBlanks_18 ?_
      refine s_dup (pc := 19) rfl dX1_skipBlanks_19 ?_
      refine s_getiE (pc := 20) fl_X1_37 rfl rfl (show (ui h 24 8 (nI u)).1 24 8 = nI u from ui_eq) dX1_skipBlanks_20 ?_
      refine s_iconst (pc := 23) (k_i1N) dX1_skipBlanks_23 ?_
      refine s_iaddN (pc := 24) dX1_skipBlanks_24 ?_
      refine s_puti (pc := 25) fl_X1_37 fw_1_8 rfl rfl dX1_skipBlanks_25 ?_
      refine s_iincN (pc := 28) rfl (by decide) rfl dX1_skipBlanks_28 ?_
      refine s_goto (pc := 31) 2 dX1_skipBlanks_31 (by decide) ?_
      have c2 := (lk_32 (by decide)).mp c_15
      rw [ui_ui]
      exact ih_2 (by omega) (u + 1) ⟨by omega, by omega, hu.2.2.trans (sk_t c2)⟩

set_option maxRecDepth 20000 in
theorem c_X1_readFigureT_24 {low : Nat} {t m q : Nat} {f : Nat → Int32} {h : Hp} (ht : t < 4) (hf : ∀ j, j < 60 → h.1 (12 + 1 + t) j = f j) (hm : m ≤ 60) (hq : h.1 24 8 = nI q) (hqm : q ≤ m) (hl : low ≤ 9) (hd : dgB f m low q = true) : CT 2 yX1_readFigure cX1_readFigure 5 (some .int) [.ref 24, .ref (12 + 1 + t), .int (nI m), .int (nI low)] h (some (.int (nI (dvN f q)))) (ui h 24 8 (nI (q + 1))) := by
  obtain ⟨g0, g1, g2, g3⟩ := dg_v hl hd
  have gk : lkN f m q (nI 1000) = nI (48 + dvN f q) := (if_pos g0).trans g1
  refine CT.of (own := RX1) rfl (by decide) (ro_i _) [.ref 24, .ref (12 + 1 + t), .int (nI m), .int (nI low), .null] rfl (Nat.le_of_ble_eq_true rfl) (fun E hp => ?_)
  refine s_aload_n (pc := 0) 0 rfl rfl dX1_readFigure_0 ?_
  refine s_aload_n (pc := 1) 1 rfl rfl dX1_readFigure_1 ?_
  refine s_iload_n (pc := 2) 2 rfl rfl dX1_readFigure_2 ?_
  refine s_cvi2 (pc := 3) (c_X1_signHere_24 ht hf hm hq hqm) ml_X1_51 mw_X1_signHere rfl (by decide) (Nat.le_of_ble_eq_true rfl) dX1_readFigure_3 ?_
  refine WW.top gk ?_
  refine s_istore (pc := 6) (by decide) rfl dX1_readFigure_6 ?_
  refine s_iload (pc := 8) rfl dX1_readFigure_8 ?_
  refine s_bipush (pc := 10) (k_b48N) dX1_readFigure_10 ?_
  refine s_iload_n (pc := 12) 3 rfl rfl dX1_readFigure_12 ?_
  refine s_iaddN (pc := 13) dX1_readFigure_13 ?_
  refine s_icmp_ltN (pc := 14) (by omega) (by omega) 24 dX1_readFigure_14 (by decide) (fun c_14 => ?_) (fun c_14 => ?_)
  · exfalso; omega
  · refine s_iload (pc := 17) rfl dX1_readFigure_17 ?_
    refine s_bipush (pc := 19) (k_b57N) dX1_readFigure_19 ?_
    refine s_icmp_leN (pc := 21) (by omega) (by omega) 26 dX1_readFigure_21 (by decide) (fun c_21 => ?_) (fun c_21 => ?_)
    · refine s_aload_n (pc := 26) 0 rfl rfl dX1_readFigure_26 ?_
      refine s_dup (pc := 27) rfl dX1_readFigure_27 ?_
      refine s_getiE (pc := 28) fl_X1_37 rfl rfl hq dX1_readFigure_28 ?_
      refine s_iconst (pc := 31) (k_i1N) dX1_readFigure_31 ?_
      refine s_iaddN (pc := 32) dX1_readFigure_32 ?_
      refine s_puti (pc := 33) fl_X1_37 fw_1_8 rfl rfl dX1_readFigure_33 ?_
      refine s_iload (pc := 36) rfl dX1_readFigure_36 ?_
      refine s_bipush (pc := 38) (k_b48N) dX1_readFigure_38 ?_
      refine s_isubN (pc := 40) (by omega) dX1_readFigure_40 ?_
      refine s_iret (pc := 41) dX1_readFigure_41 (PostE.of hp ?_ ?_)
      · exact retn (by omega)
      · rfl
    · exfalso; omega

set_option maxRecDepth 20000 in
theorem c_X1_readFigureF_24 {low : Nat} {t m q : Nat} {f : Nat → Int32} {h : Hp} (ht : t < 4) (hf : ∀ j, j < 60 → h.1 (12 + 1 + t) j = f j) (hm : m ≤ 60) (hq : h.1 24 8 = nI q) (hqm : q ≤ m) (hl : low ≤ 9) (hd : ¬ dgB f m low q = true) : CT 2 yX1_readFigure cX1_readFigure 5 (some .int) [.ref 24, .ref (12 + 1 + t), .int (nI m), .int (nI low)] h (some (.int (-1))) (h) := by
  have gk := dg_f z_l (Or.inr (by decide)) hd
  refine CT.of (own := RX1) rfl (by decide) (ro_i _) [.ref 24, .ref (12 + 1 + t), .int (nI m), .int (nI low), .null] rfl (Nat.le_of_ble_eq_true rfl) (fun E hp => ?_)
  refine s_aload_n (pc := 0) 0 rfl rfl dX1_readFigure_0 ?_
  refine s_aload_n (pc := 1) 1 rfl rfl dX1_readFigure_1 ?_
  refine s_iload_n (pc := 2) 2 rfl rfl dX1_readFigure_2 ?_
  refine s_cvi2 (pc := 3) (c_X1_signHere_24 ht hf hm hq hqm) ml_X1_51 mw_X1_signHere rfl (by decide) (Nat.le_of_ble_eq_true rfl) dX1_readFigure_3 ?_
  refine s_istore (pc := 6) (by decide) rfl dX1_readFigure_6 ?_
  refine s_iload (pc := 8) rfl dX1_readFigure_8 ?_
  refine s_bipush (pc := 10) (k_b48N) dX1_readFigure_10 ?_
  refine s_iload_n (pc := 12) 3 rfl rfl dX1_readFigure_12 ?_
  refine s_iaddN (pc := 13) dX1_readFigure_13 ?_
  refine s_icmp_lt (pc := 14) 24 dX1_readFigure_14 (by decide) (fun c_14 => ?_) (fun c_14 => ?_)
  · refine s_iconst (pc := 24) (k_im1) dX1_readFigure_24 ?_
    refine s_iret (pc := 25) dX1_readFigure_25 (PostE.of hp ?_ ?_)
    · rfl
    · rfl
  · refine s_iload (pc := 17) rfl dX1_readFigure_17 ?_
    refine s_bipush (pc := 19) (k_b57N) dX1_readFigure_19 ?_
    refine s_icmp_le (pc := 21) 26 dX1_readFigure_21 (by decide) (fun c_21 => ?_) (fun c_21 => ?_)
    · exact (gk.elim c_14 (fun g => absurd c_21 (Int32.not_le.mpr g))).elim
    · refine s_iconst (pc := 24) (k_im1) dX1_readFigure_24 ?_
      refine s_iret (pc := 25) dX1_readFigure_25 (PostE.of hp ?_ ?_)
      · rfl
      · rfl

set_option maxRecDepth 20000 in
theorem c_X1_readTwoFiguresT_24 {t m q : Nat} {f : Nat → Int32} {h : Hp} (ht : t < 4) (hf : ∀ j, j < 60 → h.1 (12 + 1 + t) j = f j) (hm : m ≤ 60) (hq : h.1 24 8 = nI q) (hqm : q ≤ m) (h1 : dgB f m 0 q = true) (h2 : dgB f m 0 (q + 1) = true) : CT 3 yX1_readTwoFigures cX1_readTwoFigures 5 (some .int) [.ref 24, .ref (12 + 1 + t), .int (nI m)] h (some (.int (nI (10 * dvN f q + dvN f (q + 1))))) (ui h 24 8 (nI (q + 2))) := by
  have b1 := dg_v (Nat.zero_le _) h1
  have b2 := dg_v (Nat.zero_le _) h2
  refine CT.of (own := RX1) rfl (by decide) (ro_i _) [.ref 24, .ref (12 + 1 + t), .int (nI m), .null, .null] rfl (Nat.le_of_ble_eq_true rfl) (fun E hp => ?_)
  refine s_aload_n (pc := 0) 0 rfl rfl dX1_readTwoFigures_0 ?_
  refine s_aload_n (pc := 1) 1 rfl rfl dX1_readTwoFigures_1 ?_
  refine s_iload_n (pc := 2) 2 rfl rfl dX1_readTwoFigures_2 ?_
  refine s_iconst (pc := 3) (k_i0N) dX1_readTwoFigures_3 ?_
  refine s_cvi3 (pc := 4) (c_X1_readFigureT_24 ht hf hm hq hqm (Nat.zero_le _) h1) ml_X1_58 mw_X1_readFigure rfl (by decide) (Nat.le_of_ble_eq_true rfl) dX1_readTwoFigures_4 ?_
  refine s_istore_n (pc := 7) 3 rfl (by decide) rfl dX1_readTwoFigures_7 ?_
  refine s_iload_n (pc := 8) 3 rfl rfl dX1_readTwoFigures_8 ?_
  refine s_if_geN (pc := 9) (by omega) 16 dX1_readTwoFigures_9 (by decide) ?_
  refine s_aload_n (pc := 16) 0 rfl rfl dX1_readTwoFigures_16 ?_
  refine s_aload_n (pc := 17) 1 rfl rfl dX1_readTwoFigures_17 ?_
  refine s_iload_n (pc := 18) 2 rfl rfl dX1_readTwoFigures_18 ?_
  refine s_iconst (pc := 19) (k_i0N) dX1_readTwoFigures_19 ?_
  refine s_cvi3 (pc := 20) (c_X1_readFigureT_24 (f := f) (h := ui h 24 8 (nI (q + 1))) ht (fun j hj => by (repeat rw [ui_ne (by omega)]); exact hf j hj) hm ui_eq (dg_lt h1) (Nat.zero_le _) h2) ml_X1_58 mw_X1_readFigure rfl (by decide) (Nat.le_of_ble_eq_true rfl) dX1_readTwoFigures_20 ?_
  refine s_istore (pc := 23) (by decide) rfl dX1_readTwoFigures_23 ?_
  refine s_iload (pc := 25) rfl dX1_readTwoFigures_25 ?_
  refine s_if_geN (pc := 27) (by omega) 34 dX1_readTwoFigures_27 (by decide) ?_
  refine s_bipush (pc := 34) (k_b10N) dX1_readTwoFigures_34 ?_
  refine s_iload_n (pc := 36) 3 rfl rfl dX1_readTwoFigures_36 ?_
  refine s_imulN (pc := 37) dX1_readTwoFigures_37 ?_
  refine s_iload (pc := 38) rfl dX1_readTwoFigures_38 ?_
  refine s_iaddN (pc := 40) dX1_readTwoFigures_40 ?_
  refine s_iret (pc := 41) dX1_readTwoFigures_41 (PostE.of hp ?_ ?_)
  · rfl
  · exact ui_ui _ _ _ _ _

set_option maxRecDepth 20000 in
theorem c_X1_readTwoFiguresF1_24 {t m q : Nat} {f : Nat → Int32} {h : Hp} (ht : t < 4) (hf : ∀ j, j < 60 → h.1 (12 + 1 + t) j = f j) (hm : m ≤ 60) (hq : h.1 24 8 = nI q) (hqm : q ≤ m) (h1 : ¬ dgB f m 0 q = true) : CT 3 yX1_readTwoFigures cX1_readTwoFigures 5 (some .int) [.ref 24, .ref (12 + 1 + t), .int (nI m)] h (some (.int (-1))) (h) := by
  refine CT.of (own := RX1) rfl (by decide) (ro_i _) [.ref 24, .ref (12 + 1 + t), .int (nI m), .null, .null] rfl (Nat.le_of_ble_eq_true rfl) (fun E hp => ?_)
  refine s_aload_n (pc := 0) 0 rfl rfl dX1_readTwoFigures_0 ?_
  refine s_aload_n (pc := 1) 1 rfl rfl dX1_readTwoFigures_1 ?_
  refine s_iload_n (pc := 2) 2 rfl rfl dX1_readTwoFigures_2 ?_
  refine s_iconst (pc := 3) (k_i0N) dX1_readTwoFigures_3 ?_
  refine s_cvi3 (pc := 4) (c_X1_readFigureF_24 ht hf hm hq hqm (Nat.zero_le _) h1) ml_X1_58 mw_X1_readFigure rfl (by decide) (Nat.le_of_ble_eq_true rfl) dX1_readTwoFigures_4 ?_
  refine s_istore_n (pc := 7) 3 rfl (by decide) rfl dX1_readTwoFigures_7 ?_
  refine s_iload_n (pc := 8) 3 rfl rfl dX1_readTwoFigures_8 ?_
  refine s_if_ge (pc := 9) 16 dX1_readTwoFigures_9 (by decide) (fun c_9 => ?_) (fun c_9 => ?_)
  · exfalso; exact absurd c_9 (by decide)
  · refine s_iconst (pc := 12) (k_im1) dX1_readTwoFigures_12 ?_
    refine s_goto (pc := 13) 23 dX1_readTwoFigures_13 (by decide) ?_
    refine s_istore (pc := 23) (by decide) rfl dX1_readTwoFigures_23 ?_
    refine s_iload (pc := 25) rfl dX1_readTwoFigures_25 ?_
    refine s_if_ge (pc := 27) 34 dX1_readTwoFigures_27 (by decide) (fun c_27 => ?_) (fun c_27 => ?_)
    · exfalso; exact absurd c_27 (by decide)
    · refine s_iconst (pc := 30) (k_im1) dX1_readTwoFigures_30 ?_
      refine s_goto (pc := 31) 41 dX1_readTwoFigures_31 (by decide) ?_
      refine s_iret (pc := 41) dX1_readTwoFigures_41 (PostE.of hp ?_ ?_)
      · rfl
      · rfl

set_option maxRecDepth 20000 in
theorem c_X1_readTwoFiguresF2_24 {t m q : Nat} {f : Nat → Int32} {h : Hp} (ht : t < 4) (hf : ∀ j, j < 60 → h.1 (12 + 1 + t) j = f j) (hm : m ≤ 60) (hq : h.1 24 8 = nI q) (hqm : q ≤ m) (h1 : dgB f m 0 q = true) (h2 : ¬ dgB f m 0 (q + 1) = true) : CT 3 yX1_readTwoFigures cX1_readTwoFigures 5 (some .int) [.ref 24, .ref (12 + 1 + t), .int (nI m)] h (some (.int (-1))) (ui h 24 8 (nI (q + 1))) := by
  have b1 := dg_v (Nat.zero_le _) h1
  refine CT.of (own := RX1) rfl (by decide) (ro_i _) [.ref 24, .ref (12 + 1 + t), .int (nI m), .null, .null] rfl (Nat.le_of_ble_eq_true rfl) (fun E hp => ?_)
  refine s_aload_n (pc := 0) 0 rfl rfl dX1_readTwoFigures_0 ?_
  refine s_aload_n (pc := 1) 1 rfl rfl dX1_readTwoFigures_1 ?_
  refine s_iload_n (pc := 2) 2 rfl rfl dX1_readTwoFigures_2 ?_
  refine s_iconst (pc := 3) (k_i0N) dX1_readTwoFigures_3 ?_
  refine s_cvi3 (pc := 4) (c_X1_readFigureT_24 ht hf hm hq hqm (Nat.zero_le _) h1) ml_X1_58 mw_X1_readFigure rfl (by decide) (Nat.le_of_ble_eq_true rfl) dX1_readTwoFigures_4 ?_
  refine s_istore_n (pc := 7) 3 rfl (by decide) rfl dX1_readTwoFigures_7 ?_
  refine s_iload_n (pc := 8) 3 rfl rfl dX1_readTwoFigures_8 ?_
  refine s_if_geN (pc := 9) (by omega) 16 dX1_readTwoFigures_9 (by decide) ?_
  refine s_aload_n (pc := 16) 0 rfl rfl dX1_readTwoFigures_16 ?_
  refine s_aload_n (pc := 17) 1 rfl rfl dX1_readTwoFigures_17 ?_
  refine s_iload_n (pc := 18) 2 rfl rfl dX1_readTwoFigures_18 ?_
  refine s_iconst (pc := 19) (k_i0N) dX1_readTwoFigures_19 ?_
  refine s_cvi3 (pc := 20) (c_X1_readFigureF_24 (f := f) (h := ui h 24 8 (nI (q + 1))) ht (fun j hj => by (repeat rw [ui_ne (by omega)]); exact hf j hj) hm ui_eq (dg_lt h1) (Nat.zero_le _) h2) ml_X1_58 mw_X1_readFigure rfl (by decide) (Nat.le_of_ble_eq_true rfl) dX1_readTwoFigures_20 ?_
  refine s_istore (pc := 23) (by decide) rfl dX1_readTwoFigures_23 ?_
  refine s_iload (pc := 25) rfl dX1_readTwoFigures_25 ?_
  refine s_if_ge (pc := 27) 34 dX1_readTwoFigures_27 (by decide) (fun c_27 => ?_) (fun c_27 => ?_)
  · exfalso; exact absurd c_27 (by decide)
  · refine s_iconst (pc := 30) (k_im1) dX1_readTwoFigures_30 ?_
    refine s_goto (pc := 31) 41 dX1_readTwoFigures_31 (by decide) ?_
    refine s_iret (pc := 41) dX1_readTwoFigures_41 (PostE.of hp ?_ ?_)
    · rfl
    · rfl
