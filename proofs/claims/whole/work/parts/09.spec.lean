theorem lpi {P : Nat → Prop} (N : Nat) (hs : ∀ k, k ≤ N → (k < N → P (k + 1)) → P k) : ∀ k, k ≤ N → P k := by
  have key : ∀ f k, k + f = N → P k := by
    intro f
    induction f with
    | zero => intro k hk; exact hs k (by omega) (fun h => by omega)
    | succ f ih => intro k hk; exact hs k (by omega) (fun _ => ih (k + 1) (by omega))
  exact fun k hk => key (N - k) k (by omega)
/-! ### numbers, sets -/
def cnt : Nat → (Nat → Bool) → Nat
  | 0, _ => 0
  | n + 1, p => cnt n p + (if p n = true then 1 else 0)
def bitsU : Nat → (Nat → Bool) → Nat
  | 0, _ => 0
  | n + 1, p => bitsU n p + (if p n = true then 2 ^ n else 0)
def sumU : Nat → (Nat → Nat) → Nat
  | 0, _ => 0
  | n + 1, f => sumU n f + f n
def pop (m : Nat) : Nat := cnt 6 m.testBit
theorem cnt_t {n : Nat} {p : Nat → Bool} (h : p n = true) : cnt n p + 1 = cnt (n + 1) p := by simp [cnt, h]
theorem cnt_f {n : Nat} {p : Nat → Bool} (h : ¬ p n = true) : cnt n p + 0 = cnt (n + 1) p := by simp [cnt, h]
theorem cnt_le (n : Nat) (p : Nat → Bool) : cnt n p ≤ n := by
  induction n with
  | zero => exact Nat.le_refl _
  | succ n ih => simp only [cnt]; split <;> omega
theorem cnt_congr {n : Nat} {p q : Nat → Bool} (h : ∀ j, j < n → p j = q j) : cnt n p = cnt n q := by
  induction n with
  | zero => rfl
  | succ n ih => simp only [cnt]; rw [ih (fun j hj => h j (by omega)), h n (by omega)]
theorem bitsU_lt (n : Nat) (p : Nat → Bool) : bitsU n p < 2 ^ n := by
  induction n with
  | zero => exact Nat.lt_succ_self 0
  | succ n ih => simp only [bitsU, Nat.pow_succ]; split <;> omega
theorem bitsU_congr {n : Nat} {p q : Nat → Bool} (h : ∀ j, j < n → p j = q j) : bitsU n p = bitsU n q := by
  induction n with
  | zero => rfl
  | succ n ih => simp only [bitsU]; rw [ih (fun j hj => h j (by omega)), h n (by omega)]
theorem bit1 (m k : Nat) : (m / 2 ^ k) &&& 1 = (if m.testBit k = true then 1 else 0) := by
  rw [Nat.and_one_is_mod, Nat.testBit_eq_decide_div_mod_eq]
  have := Nat.mod_two_eq_zero_or_one (m / 2 ^ k)
  simp only [decide_eq_true_eq]
  split <;> omega
theorem bit1_iff (m k : Nat) : (m / 2 ^ k) &&& 1 = 1 ↔ m.testBit k = true := by
  rw [bit1]; split <;> simp_all
theorem cnt_bit (m k : Nat) : cnt k m.testBit + ((m / 2 ^ k) &&& 1) = cnt (k + 1) m.testBit := by rw [bit1]; rfl
theorem div_lt31 {m : Nat} (h : m < 2 ^ 31) (k : Nat) : m / 2 ^ k < 2 ^ 31 := Nat.lt_of_le_of_lt (Nat.div_le_self _ _) h
theorem bitsU_testBit (n : Nat) (p : Nat → Bool) (j : Nat) : (bitsU n p).testBit j = (decide (j < n) && p j) := by
  induction n with
  | zero => simp [bitsU]
  | succ n ih =>
    simp only [bitsU]
    have hlt := bitsU_lt n p
    by_cases hp : p n = true
    · rw [if_pos hp, Nat.add_comm]
      by_cases hj : j = n
      · subst hj
        rw [Nat.testBit_two_pow_add_eq, ih]; simp [hp]
      · by_cases hjn : j < n
        · rw [Nat.testBit_two_pow_add_gt hjn, ih]; simp [hjn, show j < n + 1 by omega]
        · have h1 : 2 ^ n + bitsU n p < 2 ^ j := by
            have : 2 ^ (n + 1) ≤ 2 ^ j := Nat.pow_le_pow_right (by decide) (by omega)
            rw [Nat.pow_succ] at this
            omega
          rw [Nat.testBit_lt_two_pow h1]
          simp [show ¬ j < n + 1 by omega]
    · rw [if_neg hp, Nat.add_zero, ih]
      by_cases hj : j = n
      · subst hj; simp [hp]
      · simp only [show (j < n + 1) ↔ (j < n) by omega]
/-! ### contents -/
/-- places lo .. lo + n - 1 of row a are v -/
def fil (h : Hp) (a lo n : Nat) (v : Int32) : Hp := (fun x y => if x = a ∧ lo ≤ y ∧ y < lo + n then v else h.1 x y, h.2)
theorem hp_ext {h h' : Hp} (h1 : ∀ x y, h.1 x y = h'.1 x y) (h2 : ∀ x y, h.2 x y = h'.2 x y) : h = h' := Prod.ext (funext fun x => funext fun y => h1 x y) (funext fun x => funext fun y => h2 x y)
theorem fil_0 (h : Hp) (a lo : Nat) (v : Int32) : fil h a lo 0 v = h := hp_ext (fun x y => by simp only [fil]; rw [if_neg (by omega)]) (fun _ _ => rfl)
theorem fil_s (h : Hp) (a lo k : Nat) (v : Int32) : ui (fil h a lo k v) a (lo + k) v = fil h a lo (k + 1) v := hp_ext (fun x y => by
  simp only [fil, ui]
  by_cases h1 : x = a ∧ y = lo + k
  · rw [if_pos h1, if_pos (by omega)]
  · rw [if_neg h1]
    by_cases h2 : x = a ∧ lo ≤ y ∧ y < lo + k
    · rw [if_pos h2, if_pos (by omega)]
    · rw [if_neg h2, if_neg (by omega)]) (fun _ _ => rfl)
/-! ### the reference's numbers: now[j] = nI (a j) -/
def RM (a : Nat → Nat) (h : Hp) : Prop := ∀ j, j < 215 → h.1 56 j = nI (a j)
abbrev sh (a : Nat → Nat) (i w : Nat) : Nat := a (7 + 8 * i + w)
def agedN (k o t p : Nat) : Nat := if k = 1 then o + t + 20 else if k = 4 then o + t + 25 else if k = 2 then o / 2 + t else if k = 3 then (if o + t < 90 then 90 else o + t) else if k = 5 then (if p = 1 then (if o + t < 90 then 90 else o + t) else 0) else o + t
def ageN (a : Nat → Nat) (i y : Nat) : Nat := agedN (sh a i 0) (y - sh a i 1) (sh a i 5) (sh a i 6)
/-- ship i, of age u, is ahead of ship j, of age v -/
def aheadN (a : Nat → Nat) (i u j v : Nat) : Bool := if u = v then (if sh a i 2 = sh a j 2 then (if sh a i 3 = sh a j 3 then decide (i < j) else decide (sh a j 3 < sh a i 3)) else decide (sh a j 2 < sh a i 2)) else decide (v < u)
def berthP (a : Nat → Nat) (i g s y j : Nat) : Bool := decide (¬ j = i) && s.testBit j && aheadN a j (ageN a j y) i g
def berthN (a : Nat → Nat) (i g s y : Nat) : Nat := cnt (a 0) (berthP a i g s y)
def OkA (a : Nat → Nat) : Prop := (a 0 ≤ 6 ∧ a 1 ≤ 139 ∧ a 2 ≤ 9 ∧ a 3 ≤ 40 ∧ a 4 ≤ 9 ∧ a 5 < 2 ^ a 0 ∧ a 6 ≤ 1000) ∧ ∀ i, i < a 0 → sh a i 0 < 6 ∧ sh a i 1 ≤ 99 ∧ sh a i 2 ≤ 9 ∧ sh a i 3 ≤ 9 ∧ sh a i 4 ≤ 9 ∧ sh a i 5 ≤ 20 ∧ sh a i 6 ≤ 1 ∧ sh a i 7 ≤ 40
theorem OkA.in64 {a : Nat → Nat} (h : OkA a) : a 5 < 64 := by
  have h1 : 2 ^ a 0 ≤ 2 ^ 6 := Nat.pow_le_pow_right (by decide) h.1.1
  have := h.1.2.2.2.2.2.1
  omega
theorem agedN_le {k o t p : Nat} : agedN k o t p ≤ o + t + 90 := by
  unfold agedN
  repeat' split
  all_goals omega
theorem sub0 {x y : Nat} (hx : x < 2 ^ 30) (hy : y < 2 ^ 30) : nI x - nI y = 0 ↔ x = y := by
  rw [← Int32.toInt_inj, pk_sub_toInt hx hy, Int32.toInt_zero]; omega
theorem subp {x y : Nat} (hx : x < 2 ^ 30) (hy : y < 2 ^ 30) : nI x - nI y ≤ 0 ↔ x ≤ y := by
  rw [Int32.le_iff_toInt_le, pk_sub_toInt hx hy, Int32.toInt_zero]; omega
theorem retn {x y : Nat} (h : x = y) : some (Value.int (nI x)) = some (.int (nI y)) := by rw [h]
/-- the contents with now = a -/
def wN (h : Hp) (a : Nat → Nat) : Hp := (fun x y => if x = 56 ∧ y < 215 then nI (a y) else h.1 x y, h.2)
def au (a : Nat → Nat) (j v : Nat) : Nat → Nat := fun x => if x = j then v else a x
theorem RMw (h : Hp) (a : Nat → Nat) : RM a (wN h a) := fun j hj => by
  show (if (56 : Nat) = 56 ∧ j < 215 then nI (a j) else h.1 56 j) = nI (a j)
  exact if_pos ⟨rfl, hj⟩
theorem wN_of {h : Hp} {a : Nat → Nat} (hA : RM a h) : wN h a = h := hp_ext (fun x y => by
  simp only [wN]
  by_cases q : x = 56 ∧ y < 215
  · rw [if_pos q, q.1, hA y q.2]
  · rw [if_neg q]) (fun _ _ => rfl)
theorem wN_ui {h : Hp} {a : Nat → Nat} {j v : Nat} (hj : j < 215) : ui (wN h a) 56 j (nI v) = wN h (au a j v) := hp_ext (fun x y => by
  simp only [wN, ui, au]
  by_cases q : x = 56 ∧ y = j
  · rw [if_pos q, if_pos (by omega), if_pos q.2]
  · rw [if_neg q]
    by_cases q2 : x = 56 ∧ y < 215
    · rw [if_pos q2, if_pos q2, if_neg (fun e => q ⟨q2.1, e⟩)]
    · rw [if_neg q2, if_neg q2]) (fun _ _ => rfl)
theorem wN_wN (h : Hp) (a b : Nat → Nat) : wN (wN h a) b = wN h b := hp_ext (fun x y => by
  simp only [wN]
  by_cases q : x = 56 ∧ y < 215
  · rw [if_pos q, if_pos q]
  · rw [if_neg q, if_neg q, if_neg q]) (fun _ _ => rfl)
theorem wN_congr {h : Hp} {a b : Nat → Nat} (e : ∀ j, j < 215 → a j = b j) : wN h a = wN h b := hp_ext (fun x y => by
  simp only [wN]
  by_cases q : x = 56 ∧ y < 215
  · rw [if_pos q, if_pos q, e y q.2]
  · rw [if_neg q, if_neg q]) (fun _ _ => rfl)
def clrN (s i : Nat) : Nat := if s.testBit i = true then s - 2 ^ i else s
theorem clr_and : ∀ s, s < 64 → ∀ i, i < 6 → nI s &&& (nI (2 ^ i) ^^^ (-1)) = nI (clrN s i) := by decide +kernel
theorem clr_tb : ∀ s, s < 64 → ∀ i, i < 6 → ∀ j, j < 6 → (clrN s i).testBit j = (decide (¬ j = i) && s.testBit j) := by decide +kernel
theorem clr_lt {s i : Nat} (h : s < 64) : clrN s i < 64 := by
  unfold clrN
  split
  · exact Nat.lt_of_le_of_lt (Nat.sub_le _ _) h
  · exact h
def aheadNow (a : Nat → Nat) (j i : Nat) : Bool := aheadN a j (ageN a j (a 1)) i (ageN a i (a 1))
def shiftP (a : Nat → Nat) (i s j : Nat) : Bool := decide (¬ j = i) && s.testBit j && !aheadNow a j i
def shiftN (a : Nat → Nat) (i s : Nat) : Nat := cnt 6 (shiftP a i s)
abbrev berthI (a : Nat → Nat) (i s : Nat) : Nat := berthN a i (ageN a i (a 1)) s (a 1)
theorem tb_lt {s n j : Nat} (h : s < 2 ^ n) (hj : n ≤ j) : s.testBit j = false := Nat.testBit_lt_two_pow (Nat.lt_of_lt_of_le h (Nat.pow_le_pow_right (by decide) hj))
theorem cnt_more {n m : Nat} {p : Nat → Bool} (hnm : n ≤ m) (h : ∀ j, n ≤ j → p j = false) : cnt m p = cnt n p := by
  induction m with
  | zero => rw [show n = 0 by omega]
  | succ m ih =>
    by_cases e : n = m + 1
    · rw [e]
    · simp only [cnt]; rw [ih (by omega), h m (by omega)]; rfl
theorem cnt_split {n : Nat} {p q : Nat → Bool} (h : ∀ j, j < n → q j = true → p j = true) : cnt n (fun j => p j && !q j) + cnt n q = cnt n p := by
  induction n with
  | zero => rfl
  | succ n ih =>
    simp only [cnt]
    have h1 := ih (fun j hj => h j (by omega))
    have h2 := h n (by omega)
    rcases Bool.eq_false_or_eq_true (p n) with hp | hp <;> rcases Bool.eq_false_or_eq_true (q n) with hq | hq <;> simp only [hp, hq] at h2 ⊢ <;> simp at h2 ⊢ <;> omega
theorem berth6 {a : Nat → Nat} {i g s y : Nat} (hn : a 0 ≤ 6) (hs : s < 2 ^ a 0) : berthN a i g s y = cnt 6 (berthP a i g s y) := (cnt_more hn (fun j hj => by simp [berthP, tb_lt hs hj])).symm
theorem shift_eq {a : Nat → Nat} {i s : Nat} (hn : a 0 ≤ 6) (hi : i < 6) (hs : s < 2 ^ a 0) (hs6 : s < 64) : shiftN a i s + berthI a i s = pop (clrN s i) := by
  unfold berthI
  rw [berth6 hn hs]
  unfold pop shiftN
  have e : cnt 6 (clrN s i).testBit = cnt 6 (fun j => decide (¬ j = i) && s.testBit j) := cnt_congr (fun j hj => clr_tb s hs6 i hi j hj)
  rw [e, ← cnt_split (q := berthP a i (ageN a i (a 1)) s (a 1)) (p := fun j => decide (¬ j = i) && s.testBit j) (fun j _ h => by
    simp only [berthP, Bool.and_eq_true] at h; simp only [Bool.and_eq_true]; exact h.1)]
  congr 1
  exact cnt_congr (fun j _ => by
    simp only [shiftP, berthP, aheadNow]
    cases decide (¬ j = i) <;> cases s.testBit j <;> simp)
theorem shift_le (a : Nat → Nat) (i s : Nat) : shiftN a i s ≤ 6 := cnt_le _ _
theorem berth_le (a : Nat → Nat) (i g s y : Nat) : berthN a i g s y ≤ a 0 := cnt_le _ _
theorem pop_le (s : Nat) : pop s ≤ 6 := cnt_le _ _
def noteN (a : Nat → Nat) (dd x y z : Nat) : Nat → Nat := au (au (au (au (au a (55 + 4 * a 3) dd) (55 + 4 * a 3 + 1) x) (55 + 4 * a 3 + 2) y) (55 + 4 * a 3 + 3) z) 3 (a 3 + 1)
def goesN (a : Nat → Nat) (i : Nat) : Nat → Nat := au (au (au (noteN a 0 i (shiftN a i (a 5)) 0) 5 (a 5 ^^^ 2 ^ i)) 6 (a 6 + shiftN a i (a 5))) 4 (a 4 - (1 + shiftN a i (a 5)))
theorem noteN_lo {a : Nat → Nat} {dd x y z j : Nat} (h : j < 55) (h3 : j ≠ 3) : noteN a dd x y z j = a j := by
  simp only [noteN, au]
  repeat rw [if_neg (by omega)]
def excN (a : Nat → Nat) (i : Nat) : Nat := if (a 5).testBit i = true then sh a i 4 - berthI a i (a 5) - 2 else 0
def grdN (a : Nat → Nat) : Nat := bitsU (a 0) (fun i => decide (0 < excN a i))
theorem exc_neg {x b : Nat} (hx : x < 1000) (hb : b < 1000) : nI x - nI b - nI 2 < 0 ↔ x < b + 2 := by
  have h2 : (nI x - nI b - nI 2).toInt = (x : Int) - b - 2 := by
    rw [Int32.toInt_sub, pk_sub_toInt (by omega) (by omega), nI_toInt (by decide)]
    apply Int.bmod_eq_of_le <;> omega
  rw [Int32.lt_iff_toInt_lt, h2, Int32.toInt_zero]; omega
theorem exc_pos {x b : Nat} (h : b + 2 ≤ x) : nI x - nI b - nI 2 = nI (x - b - 2) := by
  rw [pk_sub (by omega), pk_sub (by omega)]
/-- aground once more (the ships of s among the first k) -/
def grN (a : Nat → Nat) (s k : Nat) : Nat → Nat := fun j => if 14 ≤ j ∧ (j - 14) % 8 = 0 ∧ (j - 14) / 8 < k ∧ s.testBit ((j - 14) / 8) = true then a j + 1 else a j
theorem grN_0 (a : Nat → Nat) (s : Nat) : grN a s 0 = a := by funext j; simp only [grN]; rw [if_neg (by omega)]
theorem grN_s (a : Nat → Nat) (s k v : Nat) (hv : v = a (7 + 8 * k + 7) + (if s.testBit k = true then 1 else 0)) : au (grN a s k) (7 + 8 * k + 7) v = grN a s (k + 1) := by
  funext j
  simp only [au, grN]
  by_cases hj : j = 7 + 8 * k + 7
  · subst hj
    rw [if_pos rfl, hv, show (7 + 8 * k + 7 - 14) / 8 = k by omega]
    by_cases hb : s.testBit k = true
    · rw [if_pos hb, if_pos ⟨by omega, by omega, by omega, hb⟩]
    · rw [if_neg hb, if_neg (fun q => hb q.2.2.2)]; rfl
  · rw [if_neg hj]
    by_cases hc : 14 ≤ j ∧ (j - 14) % 8 = 0 ∧ (j - 14) / 8 < k ∧ s.testBit ((j - 14) / 8) = true
    · rw [if_pos hc, if_pos ⟨hc.1, hc.2.1, by omega, hc.2.2.2⟩]
    · rw [if_neg hc, if_neg (fun q => hc ⟨q.1, q.2.1, by omega, q.2.2.2⟩)]
theorem grN_k (a : Nat → Nat) (s k : Nat) : grN a s k (7 + 8 * k + 7) = a (7 + 8 * k + 7) := by simp only [grN]; rw [if_neg (by omega)]
theorem grN_lo (a : Nat → Nat) (s k j : Nat) (h : j < 14) : grN a s k j = a j := by simp only [grN]; rw [if_neg (by omega)]
def ebbsN (a : Nat → Nat) : Nat → Nat := au (grN (noteN a 3 (a 4) (grdN a) 0) (grdN a) (a 0)) 4 (a 2)
/-- the reference finds f -/
def finM (h : Hp) (f : Nat) : Hp := ui (ui h 50 10 (nI f)) 60 f ((ui h 50 10 (nI f)).1 60 f + nI 1)
def layM (h : Hp) (r : Nat) (n : Int32) : Hp := fil (ui h 51 r n) 52 (40 * r) 40 (nI 0)
