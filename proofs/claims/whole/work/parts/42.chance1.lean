/-! chances: sums over the sunk ones -/
theorem sumU_split (m n : Nat) (f : Nat → Nat) : sumU (m + n) f = sumU m f + sumU n (fun j => f (m + j)) := by
  induction n with
  | zero => rfl
  | succ n ih => show sumU (m + n) f + f (m + n) = _; rw [ih]; simp only [sumU]; omega
theorem sumU_mul (c n : Nat) (f : Nat → Nat) : sumU n (fun j => c * f j) = c * sumU n f := by
  induction n with
  | zero => rfl
  | succ n ih => simp only [sumU]; rw [ih, Nat.mul_add]
theorem sumU_mr {n m : Nat} {f : Nat → Nat} (hnm : n ≤ m) (h : ∀ j, n ≤ j → j < m → f j = 0) : sumU m f = sumU n f := by
  induction m with
  | zero => rw [show n = 0 by omega]
  | succ m ih =>
    by_cases e : n = m + 1
    · rw [e]
    · simp only [sumU]; rw [ih (by omega) (fun j h1 h2 => h j h1 (by omega)), h m (by omega) (by omega)]; rfl
def chS (o A : Nat → Bool) (p : Nat) : Nat → (Nat → Nat) → Nat
  | 0, g => g 0
  | n + 1, g => if o n = true then (if A n = true then p * chS o A p n g + (12 - p) * chS o A p n (fun b => g (b + 1)) else p * chS o A p n g + (12 - p) * chS o A p n g) else chS o A p n g
def chT (p : Nat) : Nat → (Nat → Nat) → Nat
  | 0, g => g 0
  | m + 1, g => p * chT p m g + (12 - p) * chT p m (fun b => g (b + 1))
/-- ways of the set s of sunk ones, among the first n -/
def chW (o : Nat → Bool) (p s : Nat) : Nat → Nat
  | 0 => 1
  | n + 1 => chW o p s n * (if o n = true then (if s.testBit n = true then p else 12 - p) else (if s.testBit n = true then 0 else 1))
def chB (o A : Nat → Bool) (s n : Nat) : Nat := cnt n (fun j => o j && !s.testBit j && A j)
theorem chW_congr {o : Nat → Bool} {p s t n : Nat} (h : ∀ j, j < n → s.testBit j = t.testBit j) : chW o p s n = chW o p t n := by
  induction n with
  | zero => rfl
  | succ n ih => simp only [chW]; rw [ih (fun j hj => h j (by omega)), h n (by omega)]
theorem chB_congr {o A : Nat → Bool} {s t n : Nat} (h : ∀ j, j < n → s.testBit j = t.testBit j) : chB o A s n = chB o A t n := cnt_congr (fun j hj => by rw [h j hj])
theorem ch_sum (o A : Nat → Bool) (p n : Nat) : ∀ g, sumU (2 ^ n) (fun s => chW o p s n * g (chB o A s n)) = chS o A p n g := by
  induction n with
  | zero => intro g; show 0 + 1 * g 0 = g 0; omega
  | succ n ih =>
    intro g
    rw [Nat.pow_succ, Nat.mul_two, sumU_split]
    have e1 : sumU (2 ^ n) (fun s => chW o p s (n + 1) * g (chB o A s (n + 1))) = sumU (2 ^ n) (fun s => (if o n = true then 12 - p else 1) * (chW o p s n * g (chB o A s n + (if (o n && A n) = true then 1 else 0)))) := by
      refine sumU_congr (fun s hs => ?_)
      have hb : s.testBit n = false := Nat.testBit_lt_two_pow hs
      simp only [chW, chB, cnt, hb, Bool.not_false, Bool.and_true]
      cases o n <;> simp [Nat.mul_left_comm, Nat.mul_comm, Nat.mul_assoc]
    have e2 : sumU (2 ^ n) (fun s => chW o p (2 ^ n + s) (n + 1) * g (chB o A (2 ^ n + s) (n + 1))) = sumU (2 ^ n) (fun s => (if o n = true then p else 0) * (chW o p s n * g (chB o A s n))) := by
      refine sumU_congr (fun s hs => ?_)
      have hb : (2 ^ n + s).testBit n = true := by rw [Nat.testBit_two_pow_add_eq, Nat.testBit_lt_two_pow hs]; rfl
      have hl : ∀ j, j < n → (2 ^ n + s).testBit j = s.testBit j := fun j hj => Nat.testBit_two_pow_add_gt hj s
      have c1 : chW o p (2 ^ n + s) (n + 1) = chW o p s n * (if o n = true then p else 0) := by
        simp only [chW, hb]; rw [chW_congr hl]; cases o n <;> simp
      have c2 : chB o A (2 ^ n + s) (n + 1) = chB o A s n := by
        show cnt n _ + (if (o n && !(2 ^ n + s).testBit n && A n) = true then 1 else 0) = _
        rw [hb]
        have := chB_congr (o := o) (A := A) hl
        simp only [chB] at this
        rw [this]; simp [chB]
      rw [c1, c2]
      simp [Nat.mul_left_comm, Nat.mul_comm, Nat.mul_assoc]
    rw [e1, e2, sumU_mul, sumU_mul, ih (fun b => g (b + (if (o n && A n) = true then 1 else 0))), ih g]
    simp only [chS]
    by_cases ho : o n = true
    · rw [if_pos ho, if_pos ho, if_pos ho, ho]
      by_cases hA : A n = true
      · rw [if_pos hA, hA, Nat.add_comm]; rfl
      · rw [if_neg hA, Bool.eq_false_iff.mpr hA, Nat.add_comm]; rfl
    · rw [if_neg ho, if_neg ho, if_neg ho, Bool.eq_false_iff.mpr ho]; simp
theorem chS_T {p : Nat} (hp : p ≤ 12) (o A : Nat → Bool) (n : Nat) : ∀ g, chS o A p n g = 12 ^ cnt n (fun j => o j && !A j) * chT p (cnt n (fun j => o j && A j)) g := by
  induction n with
  | zero => intro g; simp [chS, chT, cnt]
  | succ n ih =>
    intro g
    simp only [chS, cnt]
    by_cases ho : o n = true
    · by_cases hA : A n = true
      · rw [if_pos ho, if_pos hA, ih, ih]
        have e1 : (if (o n && !A n) = true then 1 else 0) = 0 := by simp [ho, hA]
        have e2 : (if (o n && A n) = true then 1 else 0) = 1 := by simp [ho, hA]
        rw [e1, e2, Nat.add_zero]
        simp only [chT]
        rw [Nat.mul_add, Nat.mul_left_comm p, Nat.mul_left_comm (12 - p)]
      · rw [if_pos ho, if_neg hA, ih]
        have e1 : (if (o n && !A n) = true then 1 else 0) = 1 := by simp [ho, hA]
        have e2 : (if (o n && A n) = true then 1 else 0) = 0 := by simp [hA]
        rw [e1, e2, Nat.add_zero, ← Nat.add_mul, show p + (12 - p) = 12 by omega, Nat.pow_succ, Nat.mul_comm _ 12, Nat.mul_assoc]
        rfl
    · rw [if_neg ho, ih]
      have e1 : (if (o n && !A n) = true then 1 else 0) = 0 := by simp [ho]
      have e2 : (if (o n && A n) = true then 1 else 0) = 0 := by simp [ho]
      rw [e1, e2, Nat.add_zero, Nat.add_zero]
/-- in how many of the 12 ^ m ways t of m stay -/
def stN (p : Nat) : Nat → Nat → Nat
  | 0, t => if t = 0 then 1 else 0
  | m + 1, 0 => stN p m 0 * p
  | m + 1, t + 1 => stN p m (t + 1) * p + stN p m t * (12 - p)
theorem st_sum (p m k : Nat) : sumU (k + 1) (stN p (m + 1)) = p * sumU (k + 1) (stN p m) + (12 - p) * sumU k (stN p m) := by
  induction k with
  | zero => simp [sumU, stN, Nat.mul_comm]
  | succ k ih =>
    have e : sumU (k + 1 + 1) (stN p (m + 1)) = sumU (k + 1) (stN p (m + 1)) + (stN p m (k + 1) * p + stN p m k * (12 - p)) := rfl
    rw [e, ih]
    simp only [sumU]
    rw [Nat.mul_add p, Nat.mul_add p, Nat.mul_add p, Nat.mul_add (12 - p), Nat.mul_comm (stN p m (k + 1)) p, Nat.mul_comm (stN p m k) (12 - p)]
    omega
theorem st_z (p m : Nat) (g : Nat → Nat) (hg : ∀ b, g b = 0) : chT p m g = 0 := by
  induction m generalizing g with
  | zero => exact hg 0
  | succ m ih => simp only [chT]; rw [ih g hg, ih _ (fun b => hg (b + 1))]; simp
theorem chT_le (p m : Nat) : ∀ k, chT p m (fun b => if b < k then 1 else 0) = sumU k (stN p m) := by
  induction m with
  | zero =>
    intro k
    cases k with
    | zero => rfl
    | succ k =>
      show (if 0 < k + 1 then 1 else 0) = _
      rw [if_pos (by omega)]
      induction k with
      | zero => rfl
      | succ k ih => simp only [sumU] at ih ⊢; rw [← ih]; rfl
  | succ m ih =>
    intro k
    cases k with
    | zero => exact st_z p (m + 1) _ (fun b => rfl)
    | succ k =>
      rw [st_sum]
      simp only [chT]
      have e : (fun b => if b + 1 < k + 1 then 1 else 0) = (fun b => if b < k then 1 else 0) := by
        funext b; simp
      rw [ih (k + 1), e, ih k]
theorem chT_mean {p : Nat} (hp : p ≤ 12) (m : Nat) : ∀ c, 12 * chT p m (fun b => b + c) = 12 ^ m * (12 * c + m * (12 - p)) := by
  induction m with
  | zero => intro c; simp [chT]
  | succ m ih =>
    intro c
    simp only [chT]
    have e : (fun b => b + 1 + c) = (fun b => b + (c + 1)) := by funext b; omega
    rw [e, Nat.mul_add, Nat.mul_left_comm 12 p, Nat.mul_left_comm 12 (12 - p), ih, ih]
    obtain ⟨r, hr⟩ : ∃ r, 12 - p = r := ⟨_, rfl⟩
    have hpr : p + r = 12 := by omega
    rw [hr, show 12 * (c + 1) + m * r = (12 * c + m * r) + 12 by omega, show (m + 1) * r = m * r + r from Nat.succ_mul m r, ← Nat.add_assoc]
    generalize 12 * c + m * r = Z
    rw [Nat.mul_left_comm p, Nat.mul_left_comm r, ← Nat.mul_add, Nat.pow_succ, Nat.mul_assoc]
    congr 1
    rw [Nat.mul_add r, ← Nat.add_assoc, ← Nat.add_mul, hpr]
    omega
theorem chT_b {p : Nat} (hp : p ≤ 12) (m B : Nat) : ∀ g : Nat → Nat, (∀ b, b ≤ m → g b ≤ B) → chT p m g ≤ 12 ^ m * B := by
  induction m with
  | zero => intro g hg; simpa [chT] using hg 0 (Nat.le_refl _)
  | succ m ih =>
    intro g hg
    have h1 := ih g (fun b hb => hg b (by omega))
    have h2 := ih (fun b => g (b + 1)) (fun b hb => hg (b + 1) (by omega))
    simp only [chT]
    have h3 := Nat.add_le_add (Nat.mul_le_mul_left p h1) (Nat.mul_le_mul_left (12 - p) h2)
    rw [← Nat.add_mul, show p + (12 - p) = 12 by omega] at h3
    rw [Nat.pow_succ, Nat.mul_comm _ 12, Nat.mul_assoc]
    exact h3
/-! lowest terms -/
def rdA (x y : Nat) : Nat := x / Nat.gcd x y
def rdB (x y : Nat) : Nat := y / Nat.gcd x y
theorem rdA_mul {c : Nat} (hc : 0 < c) (x y : Nat) : rdA (c * x) (c * y) = rdA x y := by
  unfold rdA
  rw [Nat.gcd_mul_left, Nat.mul_div_mul_left _ _ hc]
theorem rdB_mul {c : Nat} (hc : 0 < c) (x y : Nat) : rdB (c * x) (c * y) = rdB x y := by
  unfold rdB
  rw [Nat.gcd_mul_left, Nat.mul_div_mul_left _ _ hc]
theorem gcd_st (x y : Nat) : Nat.gcd y (x % y) = Nat.gcd x y := by
  rw [Nat.gcd_comm x y, Nat.gcd_rec y x, Nat.gcd_comm]
theorem half_st {y c : Nat} (h0 : 0 < c) (h : c < y) : 2 * (y % c) < y := by
  have h1 := Nat.mod_lt y h0
  by_cases q : 2 * c ≤ y
  · omega
  · rw [Nat.mod_eq_sub_mod (by omega), Nat.mod_eq_of_lt (by omega)]; omega
/-! the ways of the reference -/
def wyN (o p s w0 : Nat) : Nat → Nat
  | 0 => w0
  | j + 1 => wyN o p s w0 j * (if o.testBit j = true then (if s.testBit j = true then p else 12 - p) else 1)
def wS (o p n s : Nat) : Nat := wyN o p s (if s ^^^ (s &&& o) = 0 then 1 else 0) n
theorem wy_0 (o p s n : Nat) : wyN o p s 0 n = 0 := by
  induction n with
  | zero => rfl
  | succ n ih => simp only [wyN]; rw [ih, Nat.zero_mul]
theorem wy_1 {o p s n : Nat} (h : ∀ j, j < n → s.testBit j = true → o.testBit j = true) : wyN o p s 1 n = chW o.testBit p s n := by
  induction n with
  | zero => rfl
  | succ n ih =>
    simp only [wyN, chW]
    rw [ih (fun j hj => h j (by omega))]
    by_cases ho : o.testBit n = true
    · rw [if_pos ho, if_pos ho]
    · rw [if_neg ho, if_neg ho, if_neg (fun q => ho (h n (by omega) q))]
theorem chW_0 {o : Nat → Bool} {p s n j : Nat} (hj : j < n) (h1 : s.testBit j = true) (h2 : ¬ o j = true) : chW o p s n = 0 := by
  induction n with
  | zero => omega
  | succ n ih =>
    simp only [chW]
    by_cases e : j = n
    · subst e; rw [if_neg h2, if_pos h1, Nat.mul_zero]
    · rw [ih (by omega), Nat.zero_mul]
theorem sub_or (o s n : Nat) : (∀ j, j < n → s.testBit j = true → o.testBit j = true) ∨ ∃ j, j < n ∧ s.testBit j = true ∧ ¬ o.testBit j = true := by
  by_cases h : ∃ j, j < n ∧ s.testBit j = true ∧ ¬ o.testBit j = true
  · exact Or.inr h
  · exact Or.inl (fun j h1 h2 => Decidable.byContradiction (fun h3 => h ⟨j, h1, h2, h3⟩))
theorem wS_W {o p s n : Nat} (hs : s < 2 ^ n) : wS o p n s = chW o.testBit p s n := by
  unfold wS
  rcases sub_or o s n with h | ⟨j, h1, h2, h3⟩
  · have e : s ^^^ (s &&& o) = 0 := Nat.eq_of_testBit_eq (fun j => by
      rw [and_not_tb, Nat.zero_testBit]
      by_cases hj : j < n
      · cases hb : s.testBit j
        · rfl
        · rw [h j hj hb]; rfl
      · rw [tb_lt hs (by omega)]; rfl)
    rw [if_pos e, wy_1 h]
  · have e : ¬ s ^^^ (s &&& o) = 0 := fun z => by
      have z2 := and_not_tb s o j
      rw [z, Nat.zero_testBit, h2, Bool.eq_false_iff.mpr h3] at z2
      exact absurd z2 (by decide)
    rw [if_neg e, wy_0, chW_0 h1 h2 h3]
theorem chW_big {o p s n : Nat} (hs : s < 2 ^ n) (h : o < s) : chW o.testBit p s n = 0 := by
  rcases sub_or o s n with h1 | ⟨j, h1, h2, h3⟩
  · exfalso
    have e : s &&& o = s := Nat.eq_of_testBit_eq (fun j => by
      rw [Nat.testBit_and]
      by_cases hj : j < n
      · cases hb : s.testBit j
        · rfl
        · rw [h1 j hj hb]; rfl
      · rw [tb_lt hs (by omega)]; rfl)
    have := Nat.and_le_right (n := s) (m := o)
    omega
  · exact chW_0 h1 h2 h3
/-- all that the reference adds up -/
theorem ch_all {o p n : Nat} (A : Nat → Bool) (ho : o < 2 ^ n) (hp : p ≤ 12) (g B : Nat → Nat) (hB : ∀ s, s < 2 ^ n → B s = chB o.testBit A s n) : sumU (o + 1) (fun s => wS o p n s * g (B s)) = 12 ^ cnt n (fun j => o.testBit j && !A j) * chT p (cnt n (fun j => o.testBit j && A j)) g := by
  rw [← chS_T hp, ← ch_sum]
  have e : sumU (2 ^ n) (fun s => wS o p n s * g (B s)) = sumU (2 ^ n) (fun s => chW o.testBit p s n * g (chB o.testBit A s n)) := sumU_congr (fun s hs => by
    show wS o p n s * g (B s) = _
    rw [wS_W hs, hB s hs])
  rw [← e]
  exact (sumU_mr (by omega) (fun s h1 h2 => by
    show wS o p n s * g (B s) = 0
    rw [wS_W h2, chW_big h2 (by omega), Nat.zero_mul])).symm
section CHA
variable {a : Nat → Nat} {i : Nat}
theorem ch_o (hO : OkA a) : clrN (a 5) i < 2 ^ a 0 := by
  have h5 := hO.1.2.2.2.2.2.1
  unfold clrN
  split
  · exact Nat.lt_of_le_of_lt (Nat.sub_le _ _) h5
  · exact h5
theorem ch_m (hO : OkA a) (hi : i < a 0) : berthI a i (a 5) = cnt (a 0) (fun j => (clrN (a 5) i).testBit j && aheadNow a j i) := by
  have o0 := hO.1.1
  exact cnt_congr (fun j hj => by
    rw [clr_tb _ hO.in64 i (by omega) j (by omega)]; rfl)
theorem ch_b (hO : OkA a) (hi : i < a 0) (s : Nat) : berthI a i (clrN (a 5) i ^^^ (clrN (a 5) i &&& s)) = chB (clrN (a 5) i).testBit (fun j => aheadNow a j i) s (a 0) := by
  have o0 := hO.1.1
  exact cnt_congr (fun j hj => by
    simp only [berthP]
    rw [and_not_tb, clr_tb _ hO.in64 i (by omega) j (by omega)]
    show _ = (decide (¬ j = i) && (a 5).testBit j && !s.testBit j && aheadNow a j i)
    unfold aheadNow
    cases decide (¬ j = i) <;> simp)
theorem ch_u (hO : OkA a) (hi : i < a 0) : pop (clrN (a 5) i) = cnt (a 0) (fun j => (clrN (a 5) i).testBit j && !aheadNow a j i) + berthI a i (a 5) := by
  have o0 := hO.1.1
  rw [ch_m hO hi]
  unfold pop
  rw [cnt_more o0 (fun j hj => tb_lt (ch_o hO) hj), ← cnt_split (n := a 0) (p := (clrN (a 5) i).testBit) (q := fun j => (clrN (a 5) i).testBit j && aheadNow a j i) (fun j _ h => by simp only [Bool.and_eq_true] at h; exact h.1)]
  congr 1
  exact cnt_congr (fun j _ => by cases (clrN (a 5) i).testBit j <;> simp)
/-- what a gale leaves: the two numbers of odds, of mid -/
def odX (a : Nat → Nat) (i k p : Nat) : Nat := sumU (k + 1) (stN p (berthI a i (a 5)))
theorem od_eq (hO : OkA a) (hi : i < a 0) {k p : Nat} (hp : p ≤ 12) : sumU (clrN (a 5) i + 1) (fun s => wS (clrN (a 5) i) p (a 0) s * (if berthI a i (clrN (a 5) i ^^^ (clrN (a 5) i &&& s)) ≤ k then 1 else 0)) = 12 ^ cnt (a 0) (fun j => (clrN (a 5) i).testBit j && !aheadNow a j i) * odX a i k p := by
  have e := ch_all (o := clrN (a 5) i) (n := a 0) (fun j => aheadNow a j i) (ch_o hO) hp (fun b => if b < k + 1 then 1 else 0) (fun s => berthI a i (clrN (a 5) i ^^^ (clrN (a 5) i &&& s))) (fun s _ => ch_b hO hi s)
  rw [chT_le, ← ch_m hO hi] at e
  rw [odX, ← e]
  exact sumU_congr (fun s _ => by simp only [Nat.lt_succ_iff])
theorem mi_eq (hO : OkA a) (hi : i < a 0) {p : Nat} (hp : p ≤ 12) : sumU (clrN (a 5) i + 1) (fun s => wS (clrN (a 5) i) p (a 0) s * berthI a i (clrN (a 5) i ^^^ (clrN (a 5) i &&& s))) = 12 ^ cnt (a 0) (fun j => (clrN (a 5) i).testBit j && !aheadNow a j i) * chT p (berthI a i (a 5)) (fun b => b + 0) := by
  have e := ch_all (o := clrN (a 5) i) (n := a 0) (fun j => aheadNow a j i) (ch_o hO) hp (fun b => b + 0) (fun s => berthI a i (clrN (a 5) i ^^^ (clrN (a 5) i &&& s))) (fun s _ => ch_b hO hi s)
  rw [← ch_m hO hi] at e
  exact e
theorem od_rd (hO : OkA a) (hi : i < a 0) (k p : Nat) : rdA (12 ^ cnt (a 0) (fun j => (clrN (a 5) i).testBit j && !aheadNow a j i) * odX a i k p) (12 ^ pop (clrN (a 5) i)) = rdA (odX a i k p) (12 ^ berthI a i (a 5)) ∧ rdB (12 ^ cnt (a 0) (fun j => (clrN (a 5) i).testBit j && !aheadNow a j i) * odX a i k p) (12 ^ pop (clrN (a 5) i)) = rdB (odX a i k p) (12 ^ berthI a i (a 5)) := by
  rw [ch_u hO hi, Nat.pow_add]
  exact ⟨rdA_mul (Nat.pow_pos (by decide)) _ _, rdB_mul (Nat.pow_pos (by decide)) _ _⟩
theorem mi_rd (hO : OkA a) (hi : i < a 0) {p : Nat} (hp : p ≤ 12) : rdA (12 ^ cnt (a 0) (fun j => (clrN (a 5) i).testBit j && !aheadNow a j i) * chT p (berthI a i (a 5)) (fun b => b + 0)) (12 ^ pop (clrN (a 5) i)) = rdA (berthI a i (a 5) * (12 - p)) 12 ∧ rdB (12 ^ cnt (a 0) (fun j => (clrN (a 5) i).testBit j && !aheadNow a j i) * chT p (berthI a i (a 5)) (fun b => b + 0)) (12 ^ pop (clrN (a 5) i)) = rdB (berthI a i (a 5) * (12 - p)) 12 := by
  rw [ch_u hO hi, Nat.pow_add]
  have e := chT_mean hp (berthI a i (a 5)) 0
  rw [Nat.mul_zero, Nat.zero_add] at e
  have c0 : 0 < 12 ^ cnt (a 0) (fun j => (clrN (a 5) i).testBit j && !aheadNow a j i) := Nat.pow_pos (by decide)
  have c1 : 0 < 12 ^ berthI a i (a 5) := Nat.pow_pos (by decide)
  rw [rdA_mul c0, rdB_mul c0, ← rdA_mul (c := 12) (by decide), ← rdB_mul (c := 12) (by decide), e, Nat.mul_comm 12 (12 ^ berthI a i (a 5)), rdA_mul c1, rdB_mul c1]
  exact ⟨rfl, rfl⟩
theorem p12_le {m : Nat} (h : m ≤ 6) : 12 ^ m ≤ 2985984 := Nat.pow_le_pow_right (n := 12) (by decide) h
theorem od_b (hO : OkA a) (hi : i < a 0) {k p : Nat} (hp : p ≤ 12) : odX a i k p ≤ 2985984 := by
  have o0 := hO.1.1
  have bl : berthI a i (a 5) ≤ a 0 := berth_le _ _ _ _ _
  unfold odX
  rw [← chT_le]
  have h1 := chT_b hp (berthI a i (a 5)) 1 (fun b => if b < k + 1 then 1 else 0) (fun b _ => by show (if b < k + 1 then 1 else 0) ≤ 1; split <;> omega)
  have h2 := p12_le (show berthI a i (a 5) ≤ 6 by omega)
  omega
theorem ch_bound (hO : OkA a) (hi : i < a 0) {x : Nat} (hx : x ≤ 12 ^ berthI a i (a 5) * 6) : 12 ^ cnt (a 0) (fun j => (clrN (a 5) i).testBit j && !aheadNow a j i) * x ≤ 2985984 * 6 := by
  have h1 := Nat.mul_le_mul_left (12 ^ cnt (a 0) (fun j => (clrN (a 5) i).testBit j && !aheadNow a j i)) hx
  rw [← Nat.mul_assoc, ← Nat.pow_add, ← ch_u hO hi] at h1
  have h2 := p12_le (pop_le (clrN (a 5) i))
  omega
theorem od_bound (hO : OkA a) (hi : i < a 0) {k p : Nat} (hp : p ≤ 12) : 12 ^ cnt (a 0) (fun j => (clrN (a 5) i).testBit j && !aheadNow a j i) * odX a i k p ≤ 2985984 * 6 := ch_bound hO hi (by
  unfold odX
  rw [← chT_le]
  exact chT_b hp _ 6 _ (fun b _ => by show (if b < k + 1 then 1 else 0) ≤ 6; split <;> omega))
theorem mi_bound (hO : OkA a) (hi : i < a 0) {p : Nat} (hp : p ≤ 12) : 12 ^ cnt (a 0) (fun j => (clrN (a 5) i).testBit j && !aheadNow a j i) * chT p (berthI a i (a 5)) (fun b => b + 0) ≤ 2985984 * 6 := ch_bound hO hi (chT_b hp _ 6 _ (fun b hb => by
  have o0 := hO.1.1
  have bl : berthI a i (a 5) ≤ a 0 := berth_le _ _ _ _ _
  show b + 0 ≤ 6
  omega))
end CHA
