/-- the first k below k + f with p, or -9 -/
def fsr (p : Nat → Bool) : Nat → Nat → Int32
  | 0, _ => -9
  | f + 1, k => if p k = true then nI k else fsr p f (k + 1)
theorem fsr_t {p : Nat → Bool} {N k : Nat} (h : k < N) (hp : p k = true) : fsr p (N - k) k = nI k := by
  obtain ⟨f, hf⟩ : ∃ f, N - k = f + 1 := ⟨N - k - 1, by omega⟩
  rw [hf]; simp only [fsr]; rw [if_pos hp]
theorem fsr_f {p : Nat → Bool} {N k : Nat} (h : k < N) (hp : ¬ p k = true) : fsr p (N - k) k = fsr p (N - (k + 1)) (k + 1) := by
  obtain ⟨f, hf⟩ : ∃ f, N - k = f + 1 := ⟨N - k - 1, by omega⟩
  rw [hf, show N - (k + 1) = f by omega]; simp only [fsr]; rw [if_neg hp]
theorem fsr_e {p : Nat → Bool} {N k : Nat} (h : N ≤ k) : fsr p (N - k) k = -9 := by rw [show N - k = 0 by omega]; rfl
/-- from 99 down to k: how many with p, the last met -/
def blN (p : Nat → Bool) : Nat → Nat × Nat
  | 0 => (0, 0)
  | t + 1 => if p (99 - t) = true then ((blN p t).1 + 1, 99 - t) else blN p t
theorem bl_le (p : Nat → Bool) (t : Nat) : (blN p t).1 ≤ t := by
  induction t with
  | zero => exact Nat.le_refl _
  | succ t ih =>
    simp only [blN]
    split
    · show (blN p t).1 + 1 ≤ t + 1
      omega
    · omega
def whP (a : Nat → Nat) (i k : Nat) : Nat → Bool := fun n => decide (berthN a i (ageN a i (a 1 + n)) (a 5) (a 1 + n) = k)
def leP (a : Nat → Nat) (i k : Nat) : Nat → Bool := fun n => decide (berthN a i (agedN (sh a i 0) (a 1 - sh a i 1) (sh a i 5 + n) (sh a i 6)) (a 5) (a 1) ≤ k)
def buP (a : Nat → Nat) (i k : Nat) : Nat → Bool := fun b => decide (berthN a i (agedN (sh a i 0) (a 1 - b) (sh a i 5) (sh a i 6)) (a 5) (a 1) = k)
theorem m1_neg {j : Nat} (hj : j < 1000) : nI j - nI 1 < 0 ↔ j = 0 := by
  rw [Int32.lt_iff_toInt_lt, szr_i hj, Int32.toInt_zero]; omega
theorem m1_ge {j : Nat} (hj : j < 1000) (h : ¬ nI j - nI 1 < 0) : 1 ≤ j := Nat.pos_of_ne_zero (fun q => h ((m1_neg hj).mpr q))

set_option maxRecDepth 20000 in
theorem c_X6_whenB {s x : Int32} {a : Nat → Nat} {h : Hp} (hR : RC a h) (hO : OkA a) (hb : s < 0 ∨ nI (a 0) ≤ s) : CT 3 yX6_when cX6_when 5 (some .int) [.ref 0, .int s, .int x] h (some (.int (-1))) (h) := by
  refine CT.of (own := RX6) rfl (by decide) (ro_i _) [.ref 0, .int s, .int x, .null, .null] rfl (Nat.le_of_ble_eq_true rfl) (fun E hp => ?_)
  refine s_aload_n (pc := 0) 0 rfl rfl dX6_when_0 ?_
  refine s_getr (pc := 1) (b := 23) fl_X6_27 rfl rfl rfl dX6_when_1 ?_
  refine s_iload_n (pc := 4) 1 rfl rfl dX6_when_4 ?_
  refine s_cvi1 (pc := 5) (c_X2_isShipB hR.1 hO.1.1 hb) ml_X6_140 mw_X2_isShip rfl (by decide) (Nat.le_of_ble_eq_true rfl) dX6_when_5 ?_
  refine s_if_eqF (pc := 8) 18 dX6_when_8 (by decide) ?_
  refine s_iconst (pc := 18) (k_im1) dX6_when_18 ?_
  refine s_iret (pc := 19) dX6_when_19 (PostE.of hp ?_ ?_)
  · rfl
  · rfl

set_option maxRecDepth 20000 in
theorem c_X6_whenB2 {i : Nat} {x : Int32} {a : Nat → Nat} {h : Hp} (hR : RC a h) (hO : OkA a) (hi : i < a 0) (hx : x < 0 ∨ nI 6 ≤ x) : CT 3 yX6_when cX6_when 5 (some .int) [.ref 0, .int (nI i), .int x] h (some (.int (-1))) (h) := by
  refine CT.of (own := RX6) rfl (by decide) (ro_i _) [.ref 0, .int (nI i), .int x, .null, .null] rfl (Nat.le_of_ble_eq_true rfl) (fun E hp => ?_)
  refine s_aload_n (pc := 0) 0 rfl rfl dX6_when_0 ?_
  refine s_getr (pc := 1) (b := 23) fl_X6_27 rfl rfl rfl dX6_when_1 ?_
  refine s_iload_n (pc := 4) 1 rfl rfl dX6_when_4 ?_
  refine s_cvi1 (pc := 5) (c_X2_isShipN hR.1 hO.1.1 hi) ml_X6_140 mw_X2_isShip rfl (by decide) (Nat.le_of_ble_eq_true rfl) dX6_when_5 ?_
  refine s_if_eqT (pc := 8) 18 dX6_when_8 (by decide) ?_
  refine s_iload_n (pc := 11) 2 rfl rfl dX6_when_11 ?_
  refine s_csi1 (pc := 12) (c_X6_isBerthF hx) ml_X6_242 ms_X6_isBerth (by decide) (Nat.le_of_ble_eq_true rfl) dX6_when_12 ?_
  refine s_if_neF (pc := 15) 20 dX6_when_15 (by decide) ?_
  refine s_iconst (pc := 18) (k_im1) dX6_when_18 ?_
  refine s_iret (pc := 19) dX6_when_19 (PostE.of hp ?_ ?_)
  · rfl
  · rfl

set_option maxRecDepth 20000 in
theorem c_X7_whenB {s x : Int32} {a : Nat → Nat} {h : Hp} (hA : RM a h) (hO : OkA a) (hb : s < 0 ∨ nI (a 0) ≤ s) : CT 3 yX7_when cX7_when 5 (some .int) [.ref 50, .int s, .int x] h (some (.int (-1))) (h) := by
  refine CT.of (own := RX7) rfl (by decide) (ro_i _) [.ref 50, .int s, .int x, .null, .null] rfl (Nat.le_of_ble_eq_true rfl) (fun E hp => ?_)
  refine s_aload_n (pc := 0) 0 rfl rfl dX7_when_0 ?_
  refine s_iload_n (pc := 1) 1 rfl rfl dX7_when_1 ?_
  refine s_cvi1 (pc := 2) (c_X7_isShipF hA hO.1.1 hb) ml_X7_159 mw_X7_isShip rfl (by decide) (Nat.le_of_ble_eq_true rfl) dX7_when_2 ?_
  refine s_if_eqF (pc := 5) 15 dX7_when_5 (by decide) ?_
  refine s_iconst (pc := 15) (k_im1) dX7_when_15 ?_
  refine s_iret (pc := 16) dX7_when_16 (PostE.of hp ?_ ?_)
  · rfl
  · rfl

set_option maxRecDepth 20000 in
theorem c_X7_whenB2 {i : Nat} {x : Int32} {a : Nat → Nat} {h : Hp} (hA : RM a h) (hO : OkA a) (hi : i < a 0) (hx : x < 0 ∨ nI 6 ≤ x) : CT 3 yX7_when cX7_when 5 (some .int) [.ref 50, .int (nI i), .int x] h (some (.int (-1))) (h) := by
  refine CT.of (own := RX7) rfl (by decide) (ro_i _) [.ref 50, .int (nI i), .int x, .null, .null] rfl (Nat.le_of_ble_eq_true rfl) (fun E hp => ?_)
  refine s_aload_n (pc := 0) 0 rfl rfl dX7_when_0 ?_
  refine s_iload_n (pc := 1) 1 rfl rfl dX7_when_1 ?_
  refine s_cvi1 (pc := 2) (c_X7_isShipT hA hO.1.1 hi) ml_X7_159 mw_X7_isShip rfl (by decide) (Nat.le_of_ble_eq_true rfl) dX7_when_2 ?_
  refine s_if_eqT (pc := 5) 15 dX7_when_5 (by decide) ?_
  refine s_iload_n (pc := 8) 2 rfl rfl dX7_when_8 ?_
  refine s_csi1 (pc := 9) (c_X7_isBerthF hx) ml_X7_229 ms_X7_isBerth (by decide) (Nat.le_of_ble_eq_true rfl) dX7_when_9 ?_
  refine s_if_neF (pc := 12) 17 dX7_when_12 (by decide) ?_
  refine s_iconst (pc := 15) (k_im1) dX7_when_15 ?_
  refine s_iret (pc := 16) dX7_when_16 (PostE.of hp ?_ ?_)
  · rfl
  · rfl

set_option maxRecDepth 20000 in
theorem c_X6_builtB {s x : Int32} {a : Nat → Nat} {h : Hp} (hR : RC a h) (hO : OkA a) (hb : s < 0 ∨ nI (a 0) ≤ s) : CT 3 yX6_built cX6_built 6 (some .int) [.ref 0, .int s, .int x] h (some (.int (-1))) (h) := by
  refine CT.of (own := RX6) rfl (by decide) (ro_i _) [.ref 0, .int s, .int x, .null, .null, .null] rfl (Nat.le_of_ble_eq_true rfl) (fun E hp => ?_)
  refine s_aload_n (pc := 0) 0 rfl rfl dX6_built_0 ?_
  refine s_getr (pc := 1) (b := 23) fl_X6_27 rfl rfl rfl dX6_built_1 ?_
  refine s_iload_n (pc := 4) 1 rfl rfl dX6_built_4 ?_
  refine s_cvi1 (pc := 5) (c_X2_isShipB hR.1 hO.1.1 hb) ml_X6_140 mw_X2_isShip rfl (by decide) (Nat.le_of_ble_eq_true rfl) dX6_built_5 ?_
  refine s_if_eqF (pc := 8) 18 dX6_built_8 (by decide) ?_
  refine s_iconst (pc := 18) (k_im1) dX6_built_18 ?_
  refine s_iret (pc := 19) dX6_built_19 (PostE.of hp ?_ ?_)
  · rfl
  · rfl

set_option maxRecDepth 20000 in
theorem c_X6_builtB2 {i : Nat} {x : Int32} {a : Nat → Nat} {h : Hp} (hR : RC a h) (hO : OkA a) (hi : i < a 0) (hx : x < 0 ∨ nI 6 ≤ x) : CT 3 yX6_built cX6_built 6 (some .int) [.ref 0, .int (nI i), .int x] h (some (.int (-1))) (h) := by
  refine CT.of (own := RX6) rfl (by decide) (ro_i _) [.ref 0, .int (nI i), .int x, .null, .null, .null] rfl (Nat.le_of_ble_eq_true rfl) (fun E hp => ?_)
  refine s_aload_n (pc := 0) 0 rfl rfl dX6_built_0 ?_
  refine s_getr (pc := 1) (b := 23) fl_X6_27 rfl rfl rfl dX6_built_1 ?_
  refine s_iload_n (pc := 4) 1 rfl rfl dX6_built_4 ?_
  refine s_cvi1 (pc := 5) (c_X2_isShipN hR.1 hO.1.1 hi) ml_X6_140 mw_X2_isShip rfl (by decide) (Nat.le_of_ble_eq_true rfl) dX6_built_5 ?_
  refine s_if_eqT (pc := 8) 18 dX6_built_8 (by decide) ?_
  refine s_iload_n (pc := 11) 2 rfl rfl dX6_built_11 ?_
  refine s_csi1 (pc := 12) (c_X6_isBerthF hx) ml_X6_242 ms_X6_isBerth (by decide) (Nat.le_of_ble_eq_true rfl) dX6_built_12 ?_
  refine s_if_neF (pc := 15) 20 dX6_built_15 (by decide) ?_
  refine s_iconst (pc := 18) (k_im1) dX6_built_18 ?_
  refine s_iret (pc := 19) dX6_built_19 (PostE.of hp ?_ ?_)
  · rfl
  · rfl

set_option maxRecDepth 20000 in
theorem c_X7_builtB {s x : Int32} {a : Nat → Nat} {h : Hp} (hA : RM a h) (hO : OkA a) (hb : s < 0 ∨ nI (a 0) ≤ s) : CT 3 yX7_built cX7_built 8 (some .int) [.ref 50, .int s, .int x] h (some (.int (-1))) (h) := by
  refine CT.of (own := RX7) rfl (by decide) (ro_i _) [.ref 50, .int s, .int x, .null, .null, .null, .null, .null] rfl (Nat.le_of_ble_eq_true rfl) (fun E hp => ?_)
  refine s_aload_n (pc := 0) 0 rfl rfl dX7_built_0 ?_
  refine s_iload_n (pc := 1) 1 rfl rfl dX7_built_1 ?_
  refine s_cvi1 (pc := 2) (c_X7_isShipF hA hO.1.1 hb) ml_X7_159 mw_X7_isShip rfl (by decide) (Nat.le_of_ble_eq_true rfl) dX7_built_2 ?_
  refine s_if_eqF (pc := 5) 15 dX7_built_5 (by decide) ?_
  refine s_iconst (pc := 15) (k_im1) dX7_built_15 ?_
  refine s_iret (pc := 16) dX7_built_16 (PostE.of hp ?_ ?_)
  · rfl
  · rfl

set_option maxRecDepth 20000 in
theorem c_X7_builtB2 {i : Nat} {x : Int32} {a : Nat → Nat} {h : Hp} (hA : RM a h) (hO : OkA a) (hi : i < a 0) (hx : x < 0 ∨ nI 6 ≤ x) : CT 3 yX7_built cX7_built 8 (some .int) [.ref 50, .int (nI i), .int x] h (some (.int (-1))) (h) := by
  refine CT.of (own := RX7) rfl (by decide) (ro_i _) [.ref 50, .int (nI i), .int x, .null, .null, .null, .null, .null] rfl (Nat.le_of_ble_eq_true rfl) (fun E hp => ?_)
  refine s_aload_n (pc := 0) 0 rfl rfl dX7_built_0 ?_
  refine s_iload_n (pc := 1) 1 rfl rfl dX7_built_1 ?_
  refine s_cvi1 (pc := 2) (c_X7_isShipT hA hO.1.1 hi) ml_X7_159 mw_X7_isShip rfl (by decide) (Nat.le_of_ble_eq_true rfl) dX7_built_2 ?_
  refine s_if_eqT (pc := 5) 15 dX7_built_5 (by decide) ?_
  refine s_iload_n (pc := 8) 2 rfl rfl dX7_built_8 ?_
  refine s_csi1 (pc := 9) (c_X7_isBerthF hx) ml_X7_229 ms_X7_isBerth (by decide) (Nat.le_of_ble_eq_true rfl) dX7_built_9 ?_
  refine s_if_neF (pc := 12) 17 dX7_built_12 (by decide) ?_
  refine s_iconst (pc := 15) (k_im1) dX7_built_15 ?_
  refine s_iret (pc := 16) dX7_built_16 (PostE.of hp ?_ ?_)
  · rfl
  · rfl

set_option maxRecDepth 20000 in
theorem c_X6_leastB {s x : Int32} {a : Nat → Nat} {h : Hp} (hR : RC a h) (hO : OkA a) (hb : s < 0 ∨ nI (a 0) ≤ s) : CT 3 yX6_least cX6_least 4 (some .int) [.ref 0, .int s, .int x] h (some (.int (-1))) (h) := by
  refine CT.of (own := RX6) rfl (by decide) (ro_i _) [.ref 0, .int s, .int x, .null] rfl (Nat.le_of_ble_eq_true rfl) (fun E hp => ?_)
  refine s_aload_n (pc := 0) 0 rfl rfl dX6_least_0 ?_
  refine s_getr (pc := 1) (b := 23) fl_X6_27 rfl rfl rfl dX6_least_1 ?_
  refine s_iload_n (pc := 4) 1 rfl rfl dX6_least_4 ?_
  refine s_cvi1 (pc := 5) (c_X2_isShipB hR.1 hO.1.1 hb) ml_X6_140 mw_X2_isShip rfl (by decide) (Nat.le_of_ble_eq_true rfl) dX6_least_5 ?_
  refine s_if_eqF (pc := 8) 18 dX6_least_8 (by decide) ?_
  refine s_iconst (pc := 18) (k_im1) dX6_least_18 ?_
  refine s_iret (pc := 19) dX6_least_19 (PostE.of hp ?_ ?_)
  · rfl
  · rfl

set_option maxRecDepth 20000 in
theorem c_X6_leastB2 {i : Nat} {x : Int32} {a : Nat → Nat} {h : Hp} (hR : RC a h) (hO : OkA a) (hi : i < a 0) (hx : x < 0 ∨ nI 6 ≤ x) : CT 3 yX6_least cX6_least 4 (some .int) [.ref 0, .int (nI i), .int x] h (some (.int (-1))) (h) := by
  refine CT.of (own := RX6) rfl (by decide) (ro_i _) [.ref 0, .int (nI i), .int x, .null] rfl (Nat.le_of_ble_eq_true rfl) (fun E hp => ?_)
  refine s_aload_n (pc := 0) 0 rfl rfl dX6_least_0 ?_
  refine s_getr (pc := 1) (b := 23) fl_X6_27 rfl rfl rfl dX6_least_1 ?_
  refine s_iload_n (pc := 4) 1 rfl rfl dX6_least_4 ?_
  refine s_cvi1 (pc := 5) (c_X2_isShipN hR.1 hO.1.1 hi) ml_X6_140 mw_X2_isShip rfl (by decide) (Nat.le_of_ble_eq_true rfl) dX6_least_5 ?_
  refine s_if_eqT (pc := 8) 18 dX6_least_8 (by decide) ?_
  refine s_iload_n (pc := 11) 2 rfl rfl dX6_least_11 ?_
  refine s_csi1 (pc := 12) (c_X6_isBerthF hx) ml_X6_242 ms_X6_isBerth (by decide) (Nat.le_of_ble_eq_true rfl) dX6_least_12 ?_
  refine s_if_neF (pc := 15) 20 dX6_least_15 (by decide) ?_
  refine s_iconst (pc := 18) (k_im1) dX6_least_18 ?_
  refine s_iret (pc := 19) dX6_least_19 (PostE.of hp ?_ ?_)
  · rfl
  · rfl

set_option maxRecDepth 20000 in
theorem c_X7_leastB {s x : Int32} {a : Nat → Nat} {h : Hp} (hA : RM a h) (hO : OkA a) (hb : s < 0 ∨ nI (a 0) ≤ s) : CT 3 yX7_least cX7_least 5 (some .int) [.ref 50, .int s, .int x] h (some (.int (-1))) (h) := by
  refine CT.of (own := RX7) rfl (by decide) (ro_i _) [.ref 50, .int s, .int x, .null, .null] rfl (Nat.le_of_ble_eq_true rfl) (fun E hp => ?_)
  refine s_aload_n (pc := 0) 0 rfl rfl dX7_least_0 ?_
  refine s_iload_n (pc := 1) 1 rfl rfl dX7_least_1 ?_
  refine s_cvi1 (pc := 2) (c_X7_isShipF hA hO.1.1 hb) ml_X7_159 mw_X7_isShip rfl (by decide) (Nat.le_of_ble_eq_true rfl) dX7_least_2 ?_
  refine s_if_eqF (pc := 5) 15 dX7_least_5 (by decide) ?_
  refine s_iconst (pc := 15) (k_im1) dX7_least_15 ?_
  refine s_iret (pc := 16) dX7_least_16 (PostE.of hp ?_ ?_)
  · rfl
  · rfl

set_option maxRecDepth 20000 in
theorem c_X7_leastB2 {i : Nat} {x : Int32} {a : Nat → Nat} {h : Hp} (hA : RM a h) (hO : OkA a) (hi : i < a 0) (hx : x < 0 ∨ nI 6 ≤ x) : CT 3 yX7_least cX7_least 5 (some .int) [.ref 50, .int (nI i), .int x] h (some (.int (-1))) (h) := by
  refine CT.of (own := RX7) rfl (by decide) (ro_i _) [.ref 50, .int (nI i), .int x, .null, .null] rfl (Nat.le_of_ble_eq_true rfl) (fun E hp => ?_)
  refine s_aload_n (pc := 0) 0 rfl rfl dX7_least_0 ?_
  refine s_iload_n (pc := 1) 1 rfl rfl dX7_least_1 ?_
  refine s_cvi1 (pc := 2) (c_X7_isShipT hA hO.1.1 hi) ml_X7_159 mw_X7_isShip rfl (by decide) (Nat.le_of_ble_eq_true rfl) dX7_least_2 ?_
  refine s_if_eqT (pc := 5) 15 dX7_least_5 (by decide) ?_
  refine s_iload_n (pc := 8) 2 rfl rfl dX7_least_8 ?_
  refine s_csi1 (pc := 9) (c_X7_isBerthF hx) ml_X7_229 ms_X7_isBerth (by decide) (Nat.le_of_ble_eq_true rfl) dX7_least_9 ?_
  refine s_if_neF (pc := 12) 17 dX7_least_12 (by decide) ?_
  refine s_iconst (pc := 15) (k_im1) dX7_least_15 ?_
  refine s_iret (pc := 16) dX7_least_16 (PostE.of hp ?_ ?_)
  · rfl
  · rfl

set_option maxRecDepth 20000 in
theorem c_X6_whenO {i k : Nat} {a : Nat → Nat} {h : Hp} (hR : RC a h) (hO : OkA a) (hi : i < a 0) (hk : k < 6) : CT 8 yX6_when cX6_when 5 (some .int) [.ref 0, .int (nI i), .int (nI k)] h (some (.int (fsr (whP a i k) 100 0))) (h) := by
  obtain ⟨⟨o0, o1, o2, o3, o4, o5, o6⟩, os⟩ := id hO
  have o64 := hO.in64
  have hC := hR.1
  obtain ⟨⟨r0, r1, r2, r4, r5, r6⟩, rs, P, rp, rP, rt⟩ := id hC
  have rg := hR.2
  obtain ⟨s0, s1, s2, s3, s4, s5, s6, s7⟩ := os i hi
  refine CT.of (own := RX6) rfl (by decide) (ro_i _) [.ref 0, .int (nI i), .int (nI k), .null, .null] rfl (Nat.le_of_ble_eq_true rfl) (fun E hp => ?_)
  refine s_aload_n (pc := 0) 0 rfl rfl dX6_when_0 ?_
  refine s_getr (pc := 1) (b := 23) fl_X6_27 rfl rfl rfl dX6_when_1 ?_
  refine s_iload_n (pc := 4) 1 rfl rfl dX6_when_4 ?_
  refine s_cvi1 (pc := 5) (c_X2_isShipN hR.1 hO.1.1 hi) ml_X6_140 mw_X2_isShip rfl (by decide) (Nat.le_of_ble_eq_true rfl) dX6_when_5 ?_
  refine s_if_eqT (pc := 8) 18 dX6_when_8 (by decide) ?_
  refine s_iload_n (pc := 11) 2 rfl rfl dX6_when_11 ?_
  refine s_csi1 (pc := 12) (c_X6_isBerthT hk) ml_X6_242 ms_X6_isBerth (by decide) (Nat.le_of_ble_eq_true rfl) dX6_when_12 ?_
  refine s_if_neT (pc := 15) 20 dX6_when_15 (by decide) ?_
  refine s_iconst (pc := 20) (k_i0N) dX6_when_20 ?_
  refine s_istore_n (pc := 21) 3 rfl (by decide) rfl dX6_when_21 ?_
  suffices lp_22 : ∀ t, t ≤ 100 → ∀ zz, fsr (whP a i k) 100 0 = fsr (whP a i k) (100 - t) t → WW E cX6_when RX6 5 _ 22 [.ref 0, .int (nI i), .int (nI k), .int (nI t), zz] (h) [] from lp_22 0 (by omega) _ rfl
  refine lpi 100 (fun t hk_t ih_22 => ?_)
  intro zz hq
  refine s_iload_n (pc := 22) 3 rfl rfl dX6_when_22 ?_
  refine s_bipush (pc := 23) (k_b99N) dX6_when_23 ?_
  refine s_icmp_gtN (pc := 25) (by omega) (by omega) 71 dX6_when_25 (by decide) (fun c_25 => ?_) (fun c_25 => ?_)
  · refine s_bipush (pc := 71) (k_bm9) dX6_when_71 ?_
    refine s_iret (pc := 73) dX6_when_73 (PostE.of hp ?_ ?_)
    · rw [hq, fsr_e (by omega)]
    · rfl
  · refine s_aload_n (pc := 28) 0 rfl rfl dX6_when_28 ?_
    refine s_getr (pc := 29) (b := 23) fl_X6_27 rfl rfl rfl dX6_when_29 ?_
    refine s_getiE (pc := 32) fl_X6_174 rfl rfl r1 dX6_when_32 ?_
    refine s_iload_n (pc := 35) 3 rfl rfl dX6_when_35 ?_
    refine s_iaddN (pc := 36) dX6_when_36 ?_
    refine s_istore (pc := 37) (by decide) rfl dX6_when_37 ?_
    refine s_aload_n (pc := 39) 0 rfl rfl dX6_when_39 ?_
    refine s_getr (pc := 40) (b := 23) fl_X6_27 rfl rfl rfl dX6_when_40 ?_
    refine s_iload (pc := 43) rfl dX6_when_43 ?_
    refine s_iload_n (pc := 45) 1 rfl rfl dX6_when_45 ?_
    refine s_aload_n (pc := 46) 0 rfl rfl dX6_when_46 ?_
    refine s_getr (pc := 47) (b := 23) fl_X6_27 rfl rfl rfl dX6_when_47 ?_
    refine s_iload_n (pc := 50) 1 rfl rfl dX6_when_50 ?_
    refine s_iload (pc := 51) rfl dX6_when_51 ?_
    refine s_cvi2 (pc := 53) (c_X2_ageIn hC hO hi (by omega)) ml_X6_154 mw_X2_ageIn rfl (by decide) (Nat.le_of_ble_eq_true rfl) dX6_when_53 ?_
    refine s_cvi3 (pc := 56) (c_X2_berthIn hC hO hi (Nat.lt_trans (age_lt hO hi (by omega)) (by decide)) (by omega)) ml_X6_245 mw_X2_berthIn rfl (by decide) (Nat.le_of_ble_eq_true rfl) dX6_when_56 ?_
    refine s_iload_n (pc := 59) 2 rfl rfl dX6_when_59 ?_
    refine s_icmp_neN (pc := 60) (Nat.lt_of_le_of_lt (berth_le _ _ _ _ _) (by omega)) (by omega) 65 dX6_when_60 (by decide) (fun c_60 => ?_) (fun c_60 => ?_)
    · refine s_iincN (pc := 65) rfl (by decide) rfl dX6_when_65 ?_
      refine s_goto (pc := 68) 22 dX6_when_68 (by decide) ?_
      exact ih_22 (by omega) _ (hq.trans (fsr_f (by omega) (by simp only [whP, leP, buP, decide_eq_true_eq]; exact c_60)))
    · refine s_iload_n (pc := 63) 3 rfl rfl dX6_when_63 ?_
      refine s_iret (pc := 64) dX6_when_64 (PostE.of hp ?_ ?_)
      · rw [hq, fsr_t (by omega) (by simp only [whP, leP, buP, decide_eq_true_eq]; exact c_60)]
      · rfl

set_option maxRecDepth 20000 in
theorem c_X7_whenO {i k : Nat} {a : Nat → Nat} {h : Hp} (hA : RM a h) (hO : OkA a) (hi : i < a 0) (hk : k < 6) : CT 5 yX7_when cX7_when 5 (some .int) [.ref 50, .int (nI i), .int (nI k)] h (some (.int (fsr (whP a i k) 100 0))) (h) := by
  obtain ⟨⟨o0, o1, o2, o3, o4, o5, o6⟩, os⟩ := id hO
  have o64 := hO.in64
  obtain ⟨s0, s1, s2, s3, s4, s5, s6, s7⟩ := os i hi
  refine CT.of (own := RX7) rfl (by decide) (ro_i _) [.ref 50, .int (nI i), .int (nI k), .null, .null] rfl (Nat.le_of_ble_eq_true rfl) (fun E hp => ?_)
  refine s_aload_n (pc := 0) 0 rfl rfl dX7_when_0 ?_
  refine s_iload_n (pc := 1) 1 rfl rfl dX7_when_1 ?_
  refine s_cvi1 (pc := 2) (c_X7_isShipT hA hO.1.1 hi) ml_X7_159 mw_X7_isShip rfl (by decide) (Nat.le_of_ble_eq_true rfl) dX7_when_2 ?_
  refine s_if_eqT (pc := 5) 15 dX7_when_5 (by decide) ?_
  refine s_iload_n (pc := 8) 2 rfl rfl dX7_when_8 ?_
  refine s_csi1 (pc := 9) (c_X7_isBerthT hk) ml_X7_229 ms_X7_isBerth (by decide) (Nat.le_of_ble_eq_true rfl) dX7_when_9 ?_
  refine s_if_neT (pc := 12) 17 dX7_when_12 (by decide) ?_
  refine s_iconst (pc := 17) (k_i0N) dX7_when_17 ?_
  refine s_istore_n (pc := 18) 3 rfl (by decide) rfl dX7_when_18 ?_
  suffices lp_19 : ∀ t, t ≤ 100 → ∀ zz, fsr (whP a i k) 100 0 = fsr (whP a i k) (100 - t) t → WW E cX7_when RX7 5 _ 19 [.ref 50, .int (nI i), .int (nI k), .int (nI t), zz] (h) [] from lp_19 0 (by omega) _ rfl
  refine lpi 100 (fun t hk_t ih_19 => ?_)
  intro zz hq
  refine s_iload_n (pc := 19) 3 rfl rfl dX7_when_19 ?_
  refine s_bipush (pc := 20) (k_b100N) dX7_when_20 ?_
  refine s_icmp_geN (pc := 22) (by omega) (by omega) 67 dX7_when_22 (by decide) (fun c_22 => ?_) (fun c_22 => ?_)
  · refine s_bipush (pc := 67) (k_bm9) dX7_when_67 ?_
    refine s_iret (pc := 69) dX7_when_69 (PostE.of hp ?_ ?_)
    · rw [hq, fsr_e (by omega)]
    · rfl
  · refine s_aload_n (pc := 25) 0 rfl rfl dX7_when_25 ?_
    refine s_getr (pc := 26) (b := 56) fl_X7_25 rfl rfl rfl dX7_when_26 ?_
    refine s_iconst (pc := 29) (k_i1N) dX7_when_29 ?_
    refine s_ialdN (pc := 30) (_) rfl rfl (by omega) (hA _ (by omega)) dX7_when_30 ?_
    refine s_iload_n (pc := 31) 3 rfl rfl dX7_when_31 ?_
    refine s_iaddN (pc := 32) dX7_when_32 ?_
    refine s_istore (pc := 33) (by decide) rfl dX7_when_33 ?_
    refine s_aload_n (pc := 35) 0 rfl rfl dX7_when_35 ?_
    refine s_iload_n (pc := 36) 1 rfl rfl dX7_when_36 ?_
    refine s_aload_n (pc := 37) 0 rfl rfl dX7_when_37 ?_
    refine s_iload_n (pc := 38) 1 rfl rfl dX7_when_38 ?_
    refine s_iload (pc := 39) rfl dX7_when_39 ?_
    refine s_cvi2 (pc := 41) (c_X7_ageIn hA hO hi (by omega)) ml_X7_136 mw_X7_ageIn rfl (by decide) (Nat.le_of_ble_eq_true rfl) dX7_when_41 ?_
    refine s_aload_n (pc := 44) 0 rfl rfl dX7_when_44 ?_
    refine s_getr (pc := 45) (b := 56) fl_X7_25 rfl rfl rfl dX7_when_45 ?_
    refine s_iconst (pc := 48) (k_i5N) dX7_when_48 ?_
    refine s_ialdN (pc := 49) (_) rfl rfl (by omega) (hA _ (by omega)) dX7_when_49 ?_
    refine s_iload (pc := 50) rfl dX7_when_50 ?_
    refine s_cvi4 (pc := 52) (c_X7_berthBy hA hO hi (Nat.lt_trans (age_lt hO hi (by omega)) (by decide)) (by omega) (by omega)) ml_X7_150 mw_X7_berthBy rfl (by decide) (Nat.le_of_ble_eq_true rfl) dX7_when_52 ?_
    refine s_iload_n (pc := 55) 2 rfl rfl dX7_when_55 ?_
    refine s_icmp_neN (pc := 56) (Nat.lt_of_le_of_lt (berth_le _ _ _ _ _) (by omega)) (by omega) 61 dX7_when_56 (by decide) (fun c_56 => ?_) (fun c_56 => ?_)
    · refine s_iincN (pc := 61) rfl (by decide) rfl dX7_when_61 ?_
      refine s_goto (pc := 64) 19 dX7_when_64 (by decide) ?_
      exact ih_19 (by omega) _ (hq.trans (fsr_f (by omega) (by simp only [whP, leP, buP, decide_eq_true_eq]; exact c_56)))
    · refine s_iload_n (pc := 59) 3 rfl rfl dX7_when_59 ?_
      refine s_iret (pc := 60) dX7_when_60 (PostE.of hp ?_ ?_)
      · rw [hq, fsr_t (by omega) (by simp only [whP, leP, buP, decide_eq_true_eq]; exact c_56)]
      · rfl

set_option maxRecDepth 20000 in
theorem c_X6_leastO {i k : Nat} {a : Nat → Nat} {h : Hp} (hR : RC a h) (hO : OkA a) (hi : i < a 0) (hk : k < 6) : CT 8 yX6_least cX6_least 4 (some .int) [.ref 0, .int (nI i), .int (nI k)] h (some (.int (fsr (leP a i k) 41 0))) (h) := by
  obtain ⟨⟨o0, o1, o2, o3, o4, o5, o6⟩, os⟩ := id hO
  have o64 := hO.in64
  have hC := hR.1
  obtain ⟨⟨r0, r1, r2, r4, r5, r6⟩, rs, P, rp, rP, rt⟩ := id hC
  have rg := hR.2
  obtain ⟨s0, s1, s2, s3, s4, s5, s6, s7⟩ := os i hi
  refine CT.of (own := RX6) rfl (by decide) (ro_i _) [.ref 0, .int (nI i), .int (nI k), .null] rfl (Nat.le_of_ble_eq_true rfl) (fun E hp => ?_)
  refine s_aload_n (pc := 0) 0 rfl rfl dX6_least_0 ?_
  refine s_getr (pc := 1) (b := 23) fl_X6_27 rfl rfl rfl dX6_least_1 ?_
  refine s_iload_n (pc := 4) 1 rfl rfl dX6_least_4 ?_
  refine s_cvi1 (pc := 5) (c_X2_isShipN hR.1 hO.1.1 hi) ml_X6_140 mw_X2_isShip rfl (by decide) (Nat.le_of_ble_eq_true rfl) dX6_least_5 ?_
  refine s_if_eqT (pc := 8) 18 dX6_least_8 (by decide) ?_
  refine s_iload_n (pc := 11) 2 rfl rfl dX6_least_11 ?_
  refine s_csi1 (pc := 12) (c_X6_isBerthT hk) ml_X6_242 ms_X6_isBerth (by decide) (Nat.le_of_ble_eq_true rfl) dX6_least_12 ?_
  refine s_if_neT (pc := 15) 20 dX6_least_15 (by decide) ?_
  refine s_iconst (pc := 20) (k_i0N) dX6_least_20 ?_
  refine s_istore_n (pc := 21) 3 rfl (by decide) rfl dX6_least_21 ?_
  suffices lp_22 : ∀ t, t ≤ 41 → fsr (leP a i k) 41 0 = fsr (leP a i k) (41 - t) t → WW E cX6_least RX6 4 _ 22 [.ref 0, .int (nI i), .int (nI k), .int (nI t)] (h) [] from lp_22 0 (by omega) rfl
  refine lpi 41 (fun t hk_t ih_22 => ?_)
  intro hq
  refine s_iload_n (pc := 22) 3 rfl rfl dX6_least_22 ?_
  refine s_bipush (pc := 23) (k_b40N) dX6_least_23 ?_
  refine s_icmp_gtN (pc := 25) (by omega) (by omega) 64 dX6_least_25 (by decide) (fun c_25 => ?_) (fun c_25 => ?_)
  · refine s_bipush (pc := 64) (k_bm9) dX6_least_64 ?_
    refine s_iret (pc := 66) dX6_least_66 (PostE.of hp ?_ ?_)
    · rw [hq, fsr_e (by omega)]
    · rfl
  · refine s_aload_n (pc := 28) 0 rfl rfl dX6_least_28 ?_
    refine s_getr (pc := 29) (b := 23) fl_X6_27 rfl rfl rfl dX6_least_29 ?_
    refine s_aload_n (pc := 32) 0 rfl rfl dX6_least_32 ?_
    refine s_getr (pc := 33) (b := 23) fl_X6_27 rfl rfl rfl dX6_least_33 ?_
    refine s_getiE (pc := 36) fl_X6_174 rfl rfl r1 dX6_least_36 ?_
    refine s_iload_n (pc := 39) 1 rfl rfl dX6_least_39 ?_
    refine s_aload_n (pc := 40) 0 rfl rfl dX6_least_40 ?_
    refine s_getr (pc := 41) (b := 23) fl_X6_27 rfl rfl rfl dX6_least_41 ?_
    refine s_iload_n (pc := 44) 1 rfl rfl dX6_least_44 ?_
    refine s_iload_n (pc := 45) 3 rfl rfl dX6_least_45 ?_
    refine s_cvi2 (pc := 46) (c_X2_ageWithTea hC hO hi (by omega)) ml_X6_251 mw_X2_ageWithTea rfl (by decide) (Nat.le_of_ble_eq_true rfl) dX6_least_46 ?_
    refine s_cvi3 (pc := 49) (c_X2_berthIn hC hO hi (Nat.lt_of_le_of_lt agedN_le (by omega)) (by omega)) ml_X6_245 mw_X2_berthIn rfl (by decide) (Nat.le_of_ble_eq_true rfl) dX6_least_49 ?_
    refine s_iload_n (pc := 52) 2 rfl rfl dX6_least_52 ?_
    refine s_icmp_gtN (pc := 53) (Nat.lt_of_le_of_lt (berth_le _ _ _ _ _) (by omega)) (by omega) 58 dX6_least_53 (by decide) (fun c_53 => ?_) (fun c_53 => ?_)
    · refine s_iincN (pc := 58) rfl (by decide) rfl dX6_least_58 ?_
      refine s_goto (pc := 61) 22 dX6_least_61 (by decide) ?_
      exact ih_22 (by omega) (hq.trans (fsr_f (by omega) (by simp only [whP, leP, buP, decide_eq_true_eq]; exact by omega)))
    · refine s_iload_n (pc := 56) 3 rfl rfl dX6_least_56 ?_
      refine s_iret (pc := 57) dX6_least_57 (PostE.of hp ?_ ?_)
      · rw [hq, fsr_t (by omega) (by simp only [whP, leP, buP, decide_eq_true_eq]; exact by omega)]
      · rfl

set_option maxRecDepth 20000 in
theorem c_X7_leastO {i k : Nat} {a : Nat → Nat} {h : Hp} (hA : RM a h) (hO : OkA a) (hi : i < a 0) (hk : k < 6) : CT 5 yX7_least cX7_least 5 (some .int) [.ref 50, .int (nI i), .int (nI k)] h (some (.int (fsr (leP a i k) 41 0))) (h) := by
  obtain ⟨⟨o0, o1, o2, o3, o4, o5, o6⟩, os⟩ := id hO
  have o64 := hO.in64
  obtain ⟨s0, s1, s2, s3, s4, s5, s6, s7⟩ := os i hi
  refine CT.of (own := RX7) rfl (by decide) (ro_i _) [.ref 50, .int (nI i), .int (nI k), .null, .null] rfl (Nat.le_of_ble_eq_true rfl) (fun E hp => ?_)
  refine s_aload_n (pc := 0) 0 rfl rfl dX7_least_0 ?_
  refine s_iload_n (pc := 1) 1 rfl rfl dX7_least_1 ?_
  refine s_cvi1 (pc := 2) (c_X7_isShipT hA hO.1.1 hi) ml_X7_159 mw_X7_isShip rfl (by decide) (Nat.le_of_ble_eq_true rfl) dX7_least_2 ?_
  refine s_if_eqT (pc := 5) 15 dX7_least_5 (by decide) ?_
  refine s_iload_n (pc := 8) 2 rfl rfl dX7_least_8 ?_
  refine s_csi1 (pc := 9) (c_X7_isBerthT hk) ml_X7_229 ms_X7_isBerth (by decide) (Nat.le_of_ble_eq_true rfl) dX7_least_9 ?_
  refine s_if_neT (pc := 12) 17 dX7_least_12 (by decide) ?_
  refine s_iconst (pc := 17) (k_i0N) dX7_least_17 ?_
  refine s_istore_n (pc := 18) 3 rfl (by decide) rfl dX7_least_18 ?_
  suffices lp_19 : ∀ t, t ≤ 41 → ∀ zz, fsr (leP a i k) 41 0 = fsr (leP a i k) (41 - t) t → WW E cX7_least RX7 5 _ 19 [.ref 50, .int (nI i), .int (nI k), .int (nI t), zz] (h) [] from lp_19 0 (by omega) _ rfl
  refine lpi 41 (fun t hk_t ih_19 => ?_)
  intro zz hq
  refine s_iload_n (pc := 19) 3 rfl rfl dX7_least_19 ?_
  refine s_bipush (pc := 20) (k_b41N) dX7_least_20 ?_
  refine s_icmp_geN (pc := 22) (by omega) (by omega) 97 dX7_least_22 (by decide) (fun c_22 => ?_) (fun c_22 => ?_)
  · refine s_bipush (pc := 97) (k_bm9) dX7_least_97 ?_
    refine s_iret (pc := 99) dX7_least_99 (PostE.of hp ?_ ?_)
    · rw [hq, fsr_e (by omega)]
    · rfl
  · refine s_aload_n (pc := 25) 0 rfl rfl dX7_least_25 ?_
    refine s_iload_n (pc := 26) 1 rfl rfl dX7_least_26 ?_
    refine s_iconst (pc := 27) (k_i0N) dX7_least_27 ?_
    refine s_cvi2 (pc := 28) (c_X7_of hA (by omega) (by decide)) ml_X7_126 mw_X7_of rfl (by decide) (Nat.le_of_ble_eq_true rfl) dX7_least_28 ?_
    refine s_aload_n (pc := 31) 0 rfl rfl dX7_least_31 ?_
    refine s_getr (pc := 32) (b := 56) fl_X7_25 rfl rfl rfl dX7_least_32 ?_
    refine s_iconst (pc := 35) (k_i1N) dX7_least_35 ?_
    refine s_ialdN (pc := 36) (_) rfl rfl (by omega) (hA _ (by omega)) dX7_least_36 ?_
    refine s_aload_n (pc := 37) 0 rfl rfl dX7_least_37 ?_
    refine s_iload_n (pc := 38) 1 rfl rfl dX7_least_38 ?_
    refine s_iconst (pc := 39) (k_i1N) dX7_least_39 ?_
    refine s_cvi2 (pc := 40) (c_X7_of hA (by omega) (by decide)) ml_X7_126 mw_X7_of rfl (by decide) (Nat.le_of_ble_eq_true rfl) dX7_least_40 ?_
    refine s_csi2 (pc := 43) (c_X7_oldIn (by omega) (by omega)) ml_X7_129 ms_X7_oldIn (by decide) (Nat.le_of_ble_eq_true rfl) dX7_least_43 ?_
    refine s_aload_n (pc := 46) 0 rfl rfl dX7_least_46 ?_
    refine s_iload_n (pc := 47) 1 rfl rfl dX7_least_47 ?_
    refine s_iconst (pc := 48) (k_i5N) dX7_least_48 ?_
    refine s_cvi2 (pc := 49) (c_X7_of hA (by omega) (by decide)) ml_X7_126 mw_X7_of rfl (by decide) (Nat.le_of_ble_eq_true rfl) dX7_least_49 ?_
    refine s_iload_n (pc := 52) 3 rfl rfl dX7_least_52 ?_
    refine s_iaddN (pc := 53) dX7_least_53 ?_
    refine s_aload_n (pc := 54) 0 rfl rfl dX7_least_54 ?_
    refine s_iload_n (pc := 55) 1 rfl rfl dX7_least_55 ?_
    refine s_bipush (pc := 56) (k_b6N) dX7_least_56 ?_
    refine s_cvi2 (pc := 58) (c_X7_of hA (by omega) (by decide)) ml_X7_126 mw_X7_of rfl (by decide) (Nat.le_of_ble_eq_true rfl) dX7_least_58 ?_
    refine s_csi4 (pc := 61) (c_X7_aged s0 (by omega) (by omega) s6) ml_X7_132 ms_X7_aged (by decide) (Nat.le_of_ble_eq_true rfl) dX7_least_61 ?_
    refine s_istore (pc := 64) (by decide) rfl dX7_least_64 ?_
    refine s_aload_n (pc := 66) 0 rfl rfl dX7_least_66 ?_
    refine s_iload_n (pc := 67) 1 rfl rfl dX7_least_67 ?_
    refine s_iload (pc := 68) rfl dX7_least_68 ?_
    refine s_aload_n (pc := 70) 0 rfl rfl dX7_least_70 ?_
    refine s_getr (pc := 71) (b := 56) fl_X7_25 rfl rfl rfl dX7_least_71 ?_
    refine s_iconst (pc := 74) (k_i5N) dX7_least_74 ?_
    refine s_ialdN (pc := 75) (_) rfl rfl (by omega) (hA _ (by omega)) dX7_least_75 ?_
    refine s_aload_n (pc := 76) 0 rfl rfl dX7_least_76 ?_
    refine s_getr (pc := 77) (b := 56) fl_X7_25 rfl rfl rfl dX7_least_77 ?_
    refine s_iconst (pc := 80) (k_i1N) dX7_least_80 ?_
    refine s_ialdN (pc := 81) (_) rfl rfl (by omega) (hA _ (by omega)) dX7_least_81 ?_
    refine s_cvi4 (pc := 82) (c_X7_berthBy hA hO hi (Nat.lt_of_le_of_lt agedN_le (by omega)) (by omega) (by omega)) ml_X7_150 mw_X7_berthBy rfl (by decide) (Nat.le_of_ble_eq_true rfl) dX7_least_82 ?_
    refine s_iload_n (pc := 85) 2 rfl rfl dX7_least_85 ?_
    refine s_icmp_gtN (pc := 86) (Nat.lt_of_le_of_lt (berth_le _ _ _ _ _) (by omega)) (by omega) 91 dX7_least_86 (by decide) (fun c_86 => ?_) (fun c_86 => ?_)
    · refine s_iincN (pc := 91) rfl (by decide) rfl dX7_least_91 ?_
      refine s_goto (pc := 94) 19 dX7_least_94 (by decide) ?_
      exact ih_19 (by omega) _ (hq.trans (fsr_f (by omega) (by simp only [whP, leP, buP, decide_eq_true_eq]; exact by omega)))
    · refine s_iload_n (pc := 89) 3 rfl rfl dX7_least_89 ?_
      refine s_iret (pc := 90) dX7_least_90 (PostE.of hp ?_ ?_)
      · rw [hq, fsr_t (by omega) (by simp only [whP, leP, buP, decide_eq_true_eq]; exact by omega)]
      · rfl

set_option maxRecDepth 20000 in
theorem c_X6_builtN {i k : Nat} {a : Nat → Nat} {h : Hp} (hR : RC a h) (hO : OkA a) (hi : i < a 0) (hk : k < 6) (hz : (blN (buP a i k) 100).1 = 0) : CT 8 yX6_built cX6_built 6 (some .int) [.ref 0, .int (nI i), .int (nI k)] h (some (.int (-9))) (h) := by
  obtain ⟨⟨o0, o1, o2, o3, o4, o5, o6⟩, os⟩ := id hO
  have o64 := hO.in64
  have hC := hR.1
  obtain ⟨⟨r0, r1, r2, r4, r5, r6⟩, rs, P, rp, rP, rt⟩ := id hC
  have rg := hR.2
  obtain ⟨s0, s1, s2, s3, s4, s5, s6, s7⟩ := os i hi
  have bl := bl_le (buP a i k)
  refine CT.of (own := RX6) rfl (by decide) (ro_i _) [.ref 0, .int (nI i), .int (nI k), .null, .null, .null] rfl (Nat.le_of_ble_eq_true rfl) (fun E hp => ?_)
  refine s_aload_n (pc := 0) 0 rfl rfl dX6_built_0 ?_
  refine s_getr (pc := 1) (b := 23) fl_X6_27 rfl rfl rfl dX6_built_1 ?_
  refine s_iload_n (pc := 4) 1 rfl rfl dX6_built_4 ?_
  refine s_cvi1 (pc := 5) (c_X2_isShipN hR.1 hO.1.1 hi) ml_X6_140 mw_X2_isShip rfl (by decide) (Nat.le_of_ble_eq_true rfl) dX6_built_5 ?_
  refine s_if_eqT (pc := 8) 18 dX6_built_8 (by decide) ?_
  refine s_iload_n (pc := 11) 2 rfl rfl dX6_built_11 ?_
  refine s_csi1 (pc := 12) (c_X6_isBerthT hk) ml_X6_242 ms_X6_isBerth (by decide) (Nat.le_of_ble_eq_true rfl) dX6_built_12 ?_
  refine s_if_neT (pc := 15) 20 dX6_built_15 (by decide) ?_
  refine s_iconst (pc := 20) (k_i0N) dX6_built_20 ?_
  refine s_istore_n (pc := 21) 3 rfl (by decide) rfl dX6_built_21 ?_
  refine s_iconst (pc := 22) (k_i0N) dX6_built_22 ?_
  refine s_istore (pc := 23) (by decide) rfl dX6_built_23 ?_
  refine s_bipush (pc := 25) (k_b99N) dX6_built_25 ?_
  refine s_istore (pc := 27) (by decide) rfl dX6_built_27 ?_
  suffices lp_29 : ∀ t, t ≤ 100 → WW E cX6_built RX6 6 _ 29 [.ref 0, .int (nI i), .int (nI k), .int (nI (blN (buP a i k) t).1), .int (nI (blN (buP a i k) t).2), .int (nI (100 - t) - nI 1)] (h) [] from lp_29 0 (by omega)
  refine lpi 100 (fun t hk_t ih_29 => ?_)
  refine s_iload (pc := 29) rfl dX6_built_29 ?_
  refine s_if_lt (pc := 31) 76 dX6_built_31 (by decide) (fun c_31 => ?_) (fun c_31 => ?_)
  · obtain rfl : t = 100 := by have := (m1_neg (j := 100 - t) (by omega)).mp c_31; omega
    have bl1 := bl 100
    refine s_iload_n (pc := 76) 3 rfl rfl dX6_built_76 ?_
    refine s_if_neN (pc := 77) (by omega) 83 dX6_built_77 (by decide) (fun c_77 => ?_) (fun c_77 => ?_)
    · exfalso; exact c_77 hz
    · refine s_bipush (pc := 80) (k_bm9) dX6_built_80 ?_
      refine s_iret (pc := 82) dX6_built_82 (PostE.of hp ?_ ?_)
      · rfl
      · rfl
  · have q31 : 1 ≤ 100 - t := m1_ge (by omega) c_31
    rw [pk_sub q31]
    refine s_aload_n (pc := 34) 0 rfl rfl dX6_built_34 ?_
    refine s_getr (pc := 35) (b := 23) fl_X6_27 rfl rfl rfl dX6_built_35 ?_
    refine s_aload_n (pc := 38) 0 rfl rfl dX6_built_38 ?_
    refine s_getr (pc := 39) (b := 23) fl_X6_27 rfl rfl rfl dX6_built_39 ?_
    refine s_getiE (pc := 42) fl_X6_174 rfl rfl r1 dX6_built_42 ?_
    refine s_iload_n (pc := 45) 1 rfl rfl dX6_built_45 ?_
    refine s_aload_n (pc := 46) 0 rfl rfl dX6_built_46 ?_
    refine s_getr (pc := 47) (b := 23) fl_X6_27 rfl rfl rfl dX6_built_47 ?_
    refine s_iload_n (pc := 50) 1 rfl rfl dX6_built_50 ?_
    refine s_iload (pc := 51) rfl dX6_built_51 ?_
    refine s_cvi2 (pc := 53) (c_X2_ageIfBuilt hC hO hi (by omega)) ml_X6_248 mw_X2_ageIfBuilt rfl (by decide) (Nat.le_of_ble_eq_true rfl) dX6_built_53 ?_
    refine s_cvi3 (pc := 56) (c_X2_berthIn hC hO hi (Nat.lt_of_le_of_lt agedN_le (by omega)) (by omega)) ml_X6_245 mw_X2_berthIn rfl (by decide) (Nat.le_of_ble_eq_true rfl) dX6_built_56 ?_
    refine s_iload_n (pc := 59) 2 rfl rfl dX6_built_59 ?_
    refine s_icmp_neN (pc := 60) (Nat.lt_of_le_of_lt (berth_le _ _ _ _ _) (by omega)) (by omega) 70 dX6_built_60 (by decide) (fun c_60 => ?_) (fun c_60 => ?_)
    · refine s_iinc (pc := 70) _ rfl rfl (by decide) rfl dX6_built_70 ?_
      refine s_goto (pc := 73) 29 dX6_built_73 (by decide) ?_
      have eb : nI (100 - t - 1) + Int32.ofInt (-1) = nI (100 - (t + 1)) - nI 1 := (m1_dec (j := 100 - t) (by omega)).trans (by rw [show 100 - t - 1 = 100 - (t + 1) by omega])
      refine WW.lc ?_ (ih_29 (by omega))
      show [_, _, _, Value.int _, Value.int _, Value.int _] = _
      rw [eb]
      simp only [blN]
      first | (rw [if_pos (show buP a i k (99 - t) = true by simp only [buP, decide_eq_true_eq]; rw [show 99 - t = 100 - t - 1 by omega]; exact c_60), show 99 - t = 100 - t - 1 by omega]; rfl) | (rw [if_neg (show ¬ buP a i k (99 - t) = true by simp only [buP, decide_eq_true_eq]; rw [show 99 - t = 100 - t - 1 by omega]; exact c_60)]; rfl)
    · refine s_iincN (pc := 63) rfl (by decide) rfl dX6_built_63 ?_
      refine s_iload (pc := 66) rfl dX6_built_66 ?_
      refine s_istore (pc := 68) (by decide) rfl dX6_built_68 ?_
      refine s_iinc (pc := 70) _ rfl rfl (by decide) rfl dX6_built_70 ?_
      refine s_goto (pc := 73) 29 dX6_built_73 (by decide) ?_
      have eb : nI (100 - t - 1) + Int32.ofInt (-1) = nI (100 - (t + 1)) - nI 1 := (m1_dec (j := 100 - t) (by omega)).trans (by rw [show 100 - t - 1 = 100 - (t + 1) by omega])
      refine WW.lc ?_ (ih_29 (by omega))
      show [_, _, _, Value.int _, Value.int _, Value.int _] = _
      rw [eb]
      simp only [blN]
      first | (rw [if_pos (show buP a i k (99 - t) = true by simp only [buP, decide_eq_true_eq]; rw [show 99 - t = 100 - t - 1 by omega]; exact c_60), show 99 - t = 100 - t - 1 by omega]; rfl) | (rw [if_neg (show ¬ buP a i k (99 - t) = true by simp only [buP, decide_eq_true_eq]; rw [show 99 - t = 100 - t - 1 by omega]; exact c_60)]; rfl)

set_option maxRecDepth 20000 in
theorem c_X6_builtO {i k : Nat} {a : Nat → Nat} {h : Hp} (hR : RC a h) (hO : OkA a) (hi : i < a 0) (hk : k < 6) (hz : ¬ (blN (buP a i k) 100).1 = 0) : CT 8 yX6_built cX6_built 6 (some .int) [.ref 0, .int (nI i), .int (nI k)] h (some (.int (nI (blN (buP a i k) 100).1))) (ui h 0 10 (nI (blN (buP a i k) 100).2)) := by
  obtain ⟨⟨o0, o1, o2, o3, o4, o5, o6⟩, os⟩ := id hO
  have o64 := hO.in64
  have hC := hR.1
  obtain ⟨⟨r0, r1, r2, r4, r5, r6⟩, rs, P, rp, rP, rt⟩ := id hC
  have rg := hR.2
  obtain ⟨s0, s1, s2, s3, s4, s5, s6, s7⟩ := os i hi
  have bl := bl_le (buP a i k)
  refine CT.of (own := RX6) rfl (by decide) (ro_i _) [.ref 0, .int (nI i), .int (nI k), .null, .null, .null] rfl (Nat.le_of_ble_eq_true rfl) (fun E hp => ?_)
  refine s_aload_n (pc := 0) 0 rfl rfl dX6_built_0 ?_
  refine s_getr (pc := 1) (b := 23) fl_X6_27 rfl rfl rfl dX6_built_1 ?_
  refine s_iload_n (pc := 4) 1 rfl rfl dX6_built_4 ?_
  refine s_cvi1 (pc := 5) (c_X2_isShipN hR.1 hO.1.1 hi) ml_X6_140 mw_X2_isShip rfl (by decide) (Nat.le_of_ble_eq_true rfl) dX6_built_5 ?_
  refine s_if_eqT (pc := 8) 18 dX6_built_8 (by decide) ?_
  refine s_iload_n (pc := 11) 2 rfl rfl dX6_built_11 ?_
  refine s_csi1 (pc := 12) (c_X6_isBerthT hk) ml_X6_242 ms_X6_isBerth (by decide) (Nat.le_of_ble_eq_true rfl) dX6_built_12 ?_
  refine s_if_neT (pc := 15) 20 dX6_built_15 (by decide) ?_
  refine s_iconst (pc := 20) (k_i0N) dX6_built_20 ?_
  refine s_istore_n (pc := 21) 3 rfl (by decide) rfl dX6_built_21 ?_
  refine s_iconst (pc := 22) (k_i0N) dX6_built_22 ?_
  refine s_istore (pc := 23) (by decide) rfl dX6_built_23 ?_
  refine s_bipush (pc := 25) (k_b99N) dX6_built_25 ?_
  refine s_istore (pc := 27) (by decide) rfl dX6_built_27 ?_
  suffices lp_29 : ∀ t, t ≤ 100 → WW E cX6_built RX6 6 _ 29 [.ref 0, .int (nI i), .int (nI k), .int (nI (blN (buP a i k) t).1), .int (nI (blN (buP a i k) t).2), .int (nI (100 - t) - nI 1)] (h) [] from lp_29 0 (by omega)
  refine lpi 100 (fun t hk_t ih_29 => ?_)
  refine s_iload (pc := 29) rfl dX6_built_29 ?_
  refine s_if_lt (pc := 31) 76 dX6_built_31 (by decide) (fun c_31 => ?_) (fun c_31 => ?_)
  · obtain rfl : t = 100 := by have := (m1_neg (j := 100 - t) (by omega)).mp c_31; omega
    have bl1 := bl 100
    refine s_iload_n (pc := 76) 3 rfl rfl dX6_built_76 ?_
    refine s_if_neN (pc := 77) (by omega) 83 dX6_built_77 (by decide) (fun c_77 => ?_) (fun c_77 => ?_)
    · refine s_aload_n (pc := 83) 0 rfl rfl dX6_built_83 ?_
      refine s_iload (pc := 84) rfl dX6_built_84 ?_
      refine s_puti (pc := 86) fl_X6_69 fw_6_10 rfl rfl dX6_built_86 ?_
      refine s_iload_n (pc := 89) 3 rfl rfl dX6_built_89 ?_
      refine s_iret (pc := 90) dX6_built_90 (PostE.of hp ?_ ?_)
      · rfl
      · rfl
    · exfalso; exact hz c_77
  · have q31 : 1 ≤ 100 - t := m1_ge (by omega) c_31
    rw [pk_sub q31]
    refine s_aload_n (pc := 34) 0 rfl rfl dX6_built_34 ?_
    refine s_getr (pc := 35) (b := 23) fl_X6_27 rfl rfl rfl dX6_built_35 ?_
    refine s_aload_n (pc := 38) 0 rfl rfl dX6_built_38 ?_
    refine s_getr (pc := 39) (b := 23) fl_X6_27 rfl rfl rfl dX6_built_39 ?_
    refine s_getiE (pc := 42) fl_X6_174 rfl rfl r1 dX6_built_42 ?_
    refine s_iload_n (pc := 45) 1 rfl rfl dX6_built_45 ?_
    refine s_aload_n (pc := 46) 0 rfl rfl dX6_built_46 ?_
    refine s_getr (pc := 47) (b := 23) fl_X6_27 rfl rfl rfl dX6_built_47 ?_
    refine s_iload_n (pc := 50) 1 rfl rfl dX6_built_50 ?_
    refine s_iload (pc := 51) rfl dX6_built_51 ?_
    refine s_cvi2 (pc := 53) (c_X2_ageIfBuilt hC hO hi (by omega)) ml_X6_248 mw_X2_ageIfBuilt rfl (by decide) (Nat.le_of_ble_eq_true rfl) dX6_built_53 ?_
    refine s_cvi3 (pc := 56) (c_X2_berthIn hC hO hi (Nat.lt_of_le_of_lt agedN_le (by omega)) (by omega)) ml_X6_245 mw_X2_berthIn rfl (by decide) (Nat.le_of_ble_eq_true rfl) dX6_built_56 ?_
    refine s_iload_n (pc := 59) 2 rfl rfl dX6_built_59 ?_
    refine s_icmp_neN (pc := 60) (Nat.lt_of_le_of_lt (berth_le _ _ _ _ _) (by omega)) (by omega) 70 dX6_built_60 (by decide) (fun c_60 => ?_) (fun c_60 => ?_)
    · refine s_iinc (pc := 70) _ rfl rfl (by decide) rfl dX6_built_70 ?_
      refine s_goto (pc := 73) 29 dX6_built_73 (by decide) ?_
      have eb : nI (100 - t - 1) + Int32.ofInt (-1) = nI (100 - (t + 1)) - nI 1 := (m1_dec (j := 100 - t) (by omega)).trans (by rw [show 100 - t - 1 = 100 - (t + 1) by omega])
      refine WW.lc ?_ (ih_29 (by omega))
      show [_, _, _, Value.int _, Value.int _, Value.int _] = _
      rw [eb]
      simp only [blN]
      first | (rw [if_pos (show buP a i k (99 - t) = true by simp only [buP, decide_eq_true_eq]; rw [show 99 - t = 100 - t - 1 by omega]; exact c_60), show 99 - t = 100 - t - 1 by omega]; rfl) | (rw [if_neg (show ¬ buP a i k (99 - t) = true by simp only [buP, decide_eq_true_eq]; rw [show 99 - t = 100 - t - 1 by omega]; exact c_60)]; rfl)
    · refine s_iincN (pc := 63) rfl (by decide) rfl dX6_built_63 ?_
      refine s_iload (pc := 66) rfl dX6_built_66 ?_
      refine s_istore (pc := 68) (by decide) rfl dX6_built_68 ?_
      refine s_iinc (pc := 70) _ rfl rfl (by decide) rfl dX6_built_70 ?_
      refine s_goto (pc := 73) 29 dX6_built_73 (by decide) ?_
      have eb : nI (100 - t - 1) + Int32.ofInt (-1) = nI (100 - (t + 1)) - nI 1 := (m1_dec (j := 100 - t) (by omega)).trans (by rw [show 100 - t - 1 = 100 - (t + 1) by omega])
      refine WW.lc ?_ (ih_29 (by omega))
      show [_, _, _, Value.int _, Value.int _, Value.int _] = _
      rw [eb]
      simp only [blN]
      first | (rw [if_pos (show buP a i k (99 - t) = true by simp only [buP, decide_eq_true_eq]; rw [show 99 - t = 100 - t - 1 by omega]; exact c_60), show 99 - t = 100 - t - 1 by omega]; rfl) | (rw [if_neg (show ¬ buP a i k (99 - t) = true by simp only [buP, decide_eq_true_eq]; rw [show 99 - t = 100 - t - 1 by omega]; exact c_60)]; rfl)

set_option maxRecDepth 20000 in
theorem c_X7_builtN {i k : Nat} {a : Nat → Nat} {h : Hp} (hA : RM a h) (hO : OkA a) (hi : i < a 0) (hk : k < 6) (hz : (blN (buP a i k) 100).1 = 0) : CT 5 yX7_built cX7_built 8 (some .int) [.ref 50, .int (nI i), .int (nI k)] h (some (.int (-9))) (h) := by
  obtain ⟨⟨o0, o1, o2, o3, o4, o5, o6⟩, os⟩ := id hO
  have o64 := hO.in64
  obtain ⟨s0, s1, s2, s3, s4, s5, s6, s7⟩ := os i hi
  have bl := bl_le (buP a i k)
  refine CT.of (own := RX7) rfl (by decide) (ro_i _) [.ref 50, .int (nI i), .int (nI k), .null, .null, .null, .null, .null] rfl (Nat.le_of_ble_eq_true rfl) (fun E hp => ?_)
  refine s_aload_n (pc := 0) 0 rfl rfl dX7_built_0 ?_
  refine s_iload_n (pc := 1) 1 rfl rfl dX7_built_1 ?_
  refine s_cvi1 (pc := 2) (c_X7_isShipT hA hO.1.1 hi) ml_X7_159 mw_X7_isShip rfl (by decide) (Nat.le_of_ble_eq_true rfl) dX7_built_2 ?_
  refine s_if_eqT (pc := 5) 15 dX7_built_5 (by decide) ?_
  refine s_iload_n (pc := 8) 2 rfl rfl dX7_built_8 ?_
  refine s_csi1 (pc := 9) (c_X7_isBerthT hk) ml_X7_229 ms_X7_isBerth (by decide) (Nat.le_of_ble_eq_true rfl) dX7_built_9 ?_
  refine s_if_neT (pc := 12) 17 dX7_built_12 (by decide) ?_
  refine s_iconst (pc := 17) (k_i0N) dX7_built_17 ?_
  refine s_istore_n (pc := 18) 3 rfl (by decide) rfl dX7_built_18 ?_
  refine s_iconst (pc := 19) (k_i0N) dX7_built_19 ?_
  refine s_istore (pc := 20) (by decide) rfl dX7_built_20 ?_
  refine s_bipush (pc := 22) (k_b99N) dX7_built_22 ?_
  refine s_istore (pc := 24) (by decide) rfl dX7_built_24 ?_
  suffices lp_26 : ∀ t, t ≤ 100 → ∀ z1 z2, WW E cX7_built RX7 8 _ 26 [.ref 50, .int (nI i), .int (nI k), .int (nI (blN (buP a i k) t).1), .int (nI (blN (buP a i k) t).2), .int (nI (100 - t) - nI 1), z1, z2] (h) [] from lp_26 0 (by omega) _ _
  refine lpi 100 (fun t hk_t ih_26 => ?_)
  intro z1 z2
  refine s_iload (pc := 26) rfl dX7_built_26 ?_
  refine s_if_lt (pc := 28) 129 dX7_built_28 (by decide) (fun c_28 => ?_) (fun c_28 => ?_)
  · obtain rfl : t = 100 := by have := (m1_neg (j := 100 - t) (by omega)).mp c_28; omega
    have bl1 := bl 100
    refine s_iload_n (pc := 129) 3 rfl rfl dX7_built_129 ?_
    refine s_if_neN (pc := 130) (by omega) 138 dX7_built_130 (by decide) (fun c_130 => ?_) (fun c_130 => ?_)
    · exfalso; exact c_130 hz
    · refine s_bipush (pc := 133) (k_bm9) dX7_built_133 ?_
      refine s_goto (pc := 135) 145 dX7_built_135 (by decide) ?_
      refine s_iret (pc := 145) dX7_built_145 (PostE.of hp ?_ ?_)
      · rfl
      · rfl
  · have q28 : 1 ≤ 100 - t := m1_ge (by omega) c_28
    rw [pk_sub q28]
    refine s_aload_n (pc := 31) 0 rfl rfl dX7_built_31 ?_
    refine s_iload_n (pc := 32) 1 rfl rfl dX7_built_32 ?_
    refine s_iconst (pc := 33) (k_i0N) dX7_built_33 ?_
    refine s_cvi2 (pc := 34) (c_X7_of hA (by omega) (by decide)) ml_X7_126 mw_X7_of rfl (by decide) (Nat.le_of_ble_eq_true rfl) dX7_built_34 ?_
    refine s_aload_n (pc := 37) 0 rfl rfl dX7_built_37 ?_
    refine s_getr (pc := 38) (b := 56) fl_X7_25 rfl rfl rfl dX7_built_38 ?_
    refine s_iconst (pc := 41) (k_i1N) dX7_built_41 ?_
    refine s_ialdN (pc := 42) (_) rfl rfl (by omega) (hA _ (by omega)) dX7_built_42 ?_
    refine s_iload (pc := 43) rfl dX7_built_43 ?_
    refine s_csi2 (pc := 45) (c_X7_oldIn (by omega) (by omega)) ml_X7_129 ms_X7_oldIn (by decide) (Nat.le_of_ble_eq_true rfl) dX7_built_45 ?_
    refine s_aload_n (pc := 48) 0 rfl rfl dX7_built_48 ?_
    refine s_iload_n (pc := 49) 1 rfl rfl dX7_built_49 ?_
    refine s_iconst (pc := 50) (k_i5N) dX7_built_50 ?_
    refine s_cvi2 (pc := 51) (c_X7_of hA (by omega) (by decide)) ml_X7_126 mw_X7_of rfl (by decide) (Nat.le_of_ble_eq_true rfl) dX7_built_51 ?_
    refine s_aload_n (pc := 54) 0 rfl rfl dX7_built_54 ?_
    refine s_iload_n (pc := 55) 1 rfl rfl dX7_built_55 ?_
    refine s_bipush (pc := 56) (k_b6N) dX7_built_56 ?_
    refine s_cvi2 (pc := 58) (c_X7_of hA (by omega) (by decide)) ml_X7_126 mw_X7_of rfl (by decide) (Nat.le_of_ble_eq_true rfl) dX7_built_58 ?_
    refine s_csi4 (pc := 61) (c_X7_aged s0 (by omega) (by omega) s6) ml_X7_132 ms_X7_aged (by decide) (Nat.le_of_ble_eq_true rfl) dX7_built_61 ?_
    refine s_istore (pc := 64) (by decide) rfl dX7_built_64 ?_
    refine s_aload_n (pc := 66) 0 rfl rfl dX7_built_66 ?_
    refine s_iload_n (pc := 67) 1 rfl rfl dX7_built_67 ?_
    refine s_iload (pc := 68) rfl dX7_built_68 ?_
    refine s_aload_n (pc := 70) 0 rfl rfl dX7_built_70 ?_
    refine s_getr (pc := 71) (b := 56) fl_X7_25 rfl rfl rfl dX7_built_71 ?_
    refine s_iconst (pc := 74) (k_i5N) dX7_built_74 ?_
    refine s_ialdN (pc := 75) (_) rfl rfl (by omega) (hA _ (by omega)) dX7_built_75 ?_
    refine s_aload_n (pc := 76) 0 rfl rfl dX7_built_76 ?_
    refine s_getr (pc := 77) (b := 56) fl_X7_25 rfl rfl rfl dX7_built_77 ?_
    refine s_iconst (pc := 80) (k_i1N) dX7_built_80 ?_
    refine s_ialdN (pc := 81) (_) rfl rfl (by omega) (hA _ (by omega)) dX7_built_81 ?_
    refine s_cvi4 (pc := 82) (c_X7_berthBy hA hO hi (Nat.lt_of_le_of_lt agedN_le (by omega)) (by omega) (by omega)) ml_X7_150 mw_X7_berthBy rfl (by decide) (Nat.le_of_ble_eq_true rfl) dX7_built_82 ?_
    refine s_iload_n (pc := 85) 2 rfl rfl dX7_built_85 ?_
    refine s_icmp_neN (pc := 86) (Nat.lt_of_le_of_lt (berth_le _ _ _ _ _) (by omega)) (by omega) 93 dX7_built_86 (by decide) (fun c_86 => ?_) (fun c_86 => ?_)
    · refine s_iconst (pc := 93) (k_i0N) dX7_built_93 ?_
      refine s_istore (pc := 94) (by decide) rfl dX7_built_94 ?_
      refine s_iload_n (pc := 96) 3 rfl rfl dX7_built_96 ?_
      refine s_iload (pc := 97) rfl dX7_built_97 ?_
      refine s_if_eqN (pc := 99) (by omega) 106 dX7_built_99 (by decide) (fun c_99 => ?_) (fun c_99 => ?_)
      · refine s_iconst (pc := 106) (k_i0N) dX7_built_106 ?_
        refine s_iaddN (pc := 107) dX7_built_107 ?_
        refine s_istore_n (pc := 108) 3 rfl (by decide) rfl dX7_built_108 ?_
        refine s_iload (pc := 109) rfl dX7_built_109 ?_
        refine s_if_eqN (pc := 111) (by omega) 119 dX7_built_111 (by decide) (fun c_111 => ?_) (fun c_111 => ?_)
        · refine s_iload (pc := 119) rfl dX7_built_119 ?_
          refine s_istore (pc := 121) (by decide) rfl dX7_built_121 ?_
          refine s_iinc (pc := 123) _ rfl rfl (by decide) rfl dX7_built_123 ?_
          refine s_goto (pc := 126) 26 dX7_built_126 (by decide) ?_
          have eb : nI (100 - t - 1) + Int32.ofInt (-1) = nI (100 - (t + 1)) - nI 1 := (m1_dec (j := 100 - t) (by omega)).trans (by rw [show 100 - t - 1 = 100 - (t + 1) by omega])
          first | (have hh : buP a i k (99 - t) = true := (by simp only [buP, decide_eq_true_eq]; rw [show 99 - t = 100 - t - 1 by omega]; exact c_86); have e1 : (blN (buP a i k) t).1 + 1 = (blN (buP a i k) (t + 1)).1 := (by simp only [blN]; rw [if_pos hh]); have e2 : 100 - t - 1 = (blN (buP a i k) (t + 1)).2 := (by simp only [blN]; rw [if_pos hh]; show _ = 99 - t; omega); rw [eb, e1, e2]; exact ih_26 (by omega) _ _) | (have hh : ¬ buP a i k (99 - t) = true := (by simp only [buP, decide_eq_true_eq]; rw [show 99 - t = 100 - t - 1 by omega]; exact c_86); have e1 : (blN (buP a i k) t).1 + 0 = (blN (buP a i k) (t + 1)).1 := (by simp only [blN]; rw [if_neg hh]; rfl); have e2 : (blN (buP a i k) t).2 = (blN (buP a i k) (t + 1)).2 := (by simp only [blN]; rw [if_neg hh]); rw [eb, e1, e2]; exact ih_26 (by omega) _ _)
        · exfalso; omega
      · exfalso; omega
    · refine s_iconst (pc := 89) (k_i1N) dX7_built_89 ?_
      refine s_goto (pc := 90) 94 dX7_built_90 (by decide) ?_
      refine s_istore (pc := 94) (by decide) rfl dX7_built_94 ?_
      refine s_iload_n (pc := 96) 3 rfl rfl dX7_built_96 ?_
      refine s_iload (pc := 97) rfl dX7_built_97 ?_
      refine s_if_eqN (pc := 99) (by omega) 106 dX7_built_99 (by decide) (fun c_99 => ?_) (fun c_99 => ?_)
      · exfalso; omega
      · refine s_iconst (pc := 102) (k_i1N) dX7_built_102 ?_
        refine s_goto (pc := 103) 107 dX7_built_103 (by decide) ?_
        refine s_iaddN (pc := 107) dX7_built_107 ?_
        refine s_istore_n (pc := 108) 3 rfl (by decide) rfl dX7_built_108 ?_
        refine s_iload (pc := 109) rfl dX7_built_109 ?_
        refine s_if_eqN (pc := 111) (by omega) 119 dX7_built_111 (by decide) (fun c_111 => ?_) (fun c_111 => ?_)
        · exfalso; omega
        · refine s_iload (pc := 114) rfl dX7_built_114 ?_
          refine s_goto (pc := 116) 121 dX7_built_116 (by decide) ?_
          refine s_istore (pc := 121) (by decide) rfl dX7_built_121 ?_
          refine s_iinc (pc := 123) _ rfl rfl (by decide) rfl dX7_built_123 ?_
          refine s_goto (pc := 126) 26 dX7_built_126 (by decide) ?_
          have eb : nI (100 - t - 1) + Int32.ofInt (-1) = nI (100 - (t + 1)) - nI 1 := (m1_dec (j := 100 - t) (by omega)).trans (by rw [show 100 - t - 1 = 100 - (t + 1) by omega])
          first | (have hh : buP a i k (99 - t) = true := (by simp only [buP, decide_eq_true_eq]; rw [show 99 - t = 100 - t - 1 by omega]; exact c_86); have e1 : (blN (buP a i k) t).1 + 1 = (blN (buP a i k) (t + 1)).1 := (by simp only [blN]; rw [if_pos hh]); have e2 : 100 - t - 1 = (blN (buP a i k) (t + 1)).2 := (by simp only [blN]; rw [if_pos hh]; show _ = 99 - t; omega); rw [eb, e1, e2]; exact ih_26 (by omega) _ _) | (have hh : ¬ buP a i k (99 - t) = true := (by simp only [buP, decide_eq_true_eq]; rw [show 99 - t = 100 - t - 1 by omega]; exact c_86); have e1 : (blN (buP a i k) t).1 + 0 = (blN (buP a i k) (t + 1)).1 := (by simp only [blN]; rw [if_neg hh]; rfl); have e2 : (blN (buP a i k) t).2 = (blN (buP a i k) (t + 1)).2 := (by simp only [blN]; rw [if_neg hh]); rw [eb, e1, e2]; exact ih_26 (by omega) _ _)

set_option maxRecDepth 20000 in
theorem c_X7_builtO {i k : Nat} {a : Nat → Nat} {h : Hp} (hA : RM a h) (hO : OkA a) (hi : i < a 0) (hk : k < 6) (hz : ¬ (blN (buP a i k) 100).1 = 0) : CT 5 yX7_built cX7_built 8 (some .int) [.ref 50, .int (nI i), .int (nI k)] h (some (.int (nI (blN (buP a i k) 100).1))) (ui h 50 11 (nI (blN (buP a i k) 100).2)) := by
  obtain ⟨⟨o0, o1, o2, o3, o4, o5, o6⟩, os⟩ := id hO
  have o64 := hO.in64
  obtain ⟨s0, s1, s2, s3, s4, s5, s6, s7⟩ := os i hi
  have bl := bl_le (buP a i k)
  refine CT.of (own := RX7) rfl (by decide) (ro_i _) [.ref 50, .int (nI i), .int (nI k), .null, .null, .null, .null, .null] rfl (Nat.le_of_ble_eq_true rfl) (fun E hp => ?_)
  refine s_aload_n (pc := 0) 0 rfl rfl dX7_built_0 ?_
  refine s_iload_n (pc := 1) 1 rfl rfl dX7_built_1 ?_
  refine s_cvi1 (pc := 2) (c_X7_isShipT hA hO.1.1 hi) ml_X7_159 mw_X7_isShip rfl (by decide) (Nat.le_of_ble_eq_true rfl) dX7_built_2 ?_
  refine s_if_eqT (pc := 5) 15 dX7_built_5 (by decide) ?_
  refine s_iload_n (pc := 8) 2 rfl rfl dX7_built_8 ?_
  refine s_csi1 (pc := 9) (c_X7_isBerthT hk) ml_X7_229 ms_X7_isBerth (by decide) (Nat.le_of_ble_eq_true rfl) dX7_built_9 ?_
  refine s_if_neT (pc := 12) 17 dX7_built_12 (by decide) ?_
  refine s_iconst (pc := 17) (k_i0N) dX7_built_17 ?_
  refine s_istore_n (pc := 18) 3 rfl (by decide) rfl dX7_built_18 ?_
  refine s_iconst (pc := 19) (k_i0N) dX7_built_19 ?_
  refine s_istore (pc := 20) (by decide) rfl dX7_built_20 ?_
  refine s_bipush (pc := 22) (k_b99N) dX7_built_22 ?_
  refine s_istore (pc := 24) (by decide) rfl dX7_built_24 ?_
  suffices lp_26 : ∀ t, t ≤ 100 → ∀ z1 z2, WW E cX7_built RX7 8 _ 26 [.ref 50, .int (nI i), .int (nI k), .int (nI (blN (buP a i k) t).1), .int (nI (blN (buP a i k) t).2), .int (nI (100 - t) - nI 1), z1, z2] (h) [] from lp_26 0 (by omega) _ _
  refine lpi 100 (fun t hk_t ih_26 => ?_)
  intro z1 z2
  refine s_iload (pc := 26) rfl dX7_built_26 ?_
  refine s_if_lt (pc := 28) 129 dX7_built_28 (by decide) (fun c_28 => ?_) (fun c_28 => ?_)
  · obtain rfl : t = 100 := by have := (m1_neg (j := 100 - t) (by omega)).mp c_28; omega
    have bl1 := bl 100
    refine s_iload_n (pc := 129) 3 rfl rfl dX7_built_129 ?_
    refine s_if_neN (pc := 130) (by omega) 138 dX7_built_130 (by decide) (fun c_130 => ?_) (fun c_130 => ?_)
    · refine s_aload_n (pc := 138) 0 rfl rfl dX7_built_138 ?_
      refine s_iload_n (pc := 139) 3 rfl rfl dX7_built_139 ?_
      refine s_iload (pc := 140) rfl dX7_built_140 ?_
      refine s_cvi2 (pc := 142) (c_X7_tells) ml_X7_84 mw_X7_tells rfl (by decide) (Nat.le_of_ble_eq_true rfl) dX7_built_142 ?_
      refine s_iret (pc := 145) dX7_built_145 (PostE.of hp ?_ ?_)
      · rfl
      · rfl
    · exfalso; exact hz c_130
  · have q28 : 1 ≤ 100 - t := m1_ge (by omega) c_28
    rw [pk_sub q28]
    refine s_aload_n (pc := 31) 0 rfl rfl dX7_built_31 ?_
    refine s_iload_n (pc := 32) 1 rfl rfl dX7_built_32 ?_
    refine s_iconst (pc := 33) (k_i0N) dX7_built_33 ?_
    refine s_cvi2 (pc := 34) (c_X7_of hA (by omega) (by decide)) ml_X7_126 mw_X7_of rfl (by decide) (Nat.le_of_ble_eq_true rfl) dX7_built_34 ?_
    refine s_aload_n (pc := 37) 0 rfl rfl dX7_built_37 ?_
    refine s_getr (pc := 38) (b := 56) fl_X7_25 rfl rfl rfl dX7_built_38 ?_
    refine s_iconst (pc := 41) (k_i1N) dX7_built_41 ?_
    refine s_ialdN (pc := 42) (_) rfl rfl (by omega) (hA _ (by omega)) dX7_built_42 ?_
    refine s_iload (pc := 43) rfl dX7_built_43 ?_
    refine s_csi2 (pc := 45) (c_X7_oldIn (by omega) (by omega)) ml_X7_129 ms_X7_oldIn (by decide) (Nat.le_of_ble_eq_true rfl) dX7_built_45 ?_
    refine s_aload_n (pc := 48) 0 rfl rfl dX7_built_48 ?_
    refine s_iload_n (pc := 49) 1 rfl rfl dX7_built_49 ?_
    refine s_iconst (pc := 50) (k_i5N) dX7_built_50 ?_
    refine s_cvi2 (pc := 51) (c_X7_of hA (by omega) (by decide)) ml_X7_126 mw_X7_of rfl (by decide) (Nat.le_of_ble_eq_true rfl) dX7_built_51 ?_
    refine s_aload_n (pc := 54) 0 rfl rfl dX7_built_54 ?_
    refine s_iload_n (pc := 55) 1 rfl rfl dX7_built_55 ?_
    refine s_bipush (pc := 56) (k_b6N) dX7_built_56 ?_
    refine s_cvi2 (pc := 58) (c_X7_of hA (by omega) (by decide)) ml_X7_126 mw_X7_of rfl (by decide) (Nat.le_of_ble_eq_true rfl) dX7_built_58 ?_
    refine s_csi4 (pc := 61) (c_X7_aged s0 (by omega) (by omega) s6) ml_X7_132 ms_X7_aged (by decide) (Nat.le_of_ble_eq_true rfl) dX7_built_61 ?_
    refine s_istore (pc := 64) (by decide) rfl dX7_built_64 ?_
    refine s_aload_n (pc := 66) 0 rfl rfl dX7_built_66 ?_
    refine s_iload_n (pc := 67) 1 rfl rfl dX7_built_67 ?_
    refine s_iload (pc := 68) rfl dX7_built_68 ?_
    refine s_aload_n (pc := 70) 0 rfl rfl dX7_built_70 ?_
    refine s_getr (pc := 71) (b := 56) fl_X7_25 rfl rfl rfl dX7_built_71 ?_
    refine s_iconst (pc := 74) (k_i5N) dX7_built_74 ?_
    refine s_ialdN (pc := 75) (_) rfl rfl (by omega) (hA _ (by omega)) dX7_built_75 ?_
    refine s_aload_n (pc := 76) 0 rfl rfl dX7_built_76 ?_
    refine s_getr (pc := 77) (b := 56) fl_X7_25 rfl rfl rfl dX7_built_77 ?_
    refine s_iconst (pc := 80) (k_i1N) dX7_built_80 ?_
    refine s_ialdN (pc := 81) (_) rfl rfl (by omega) (hA _ (by omega)) dX7_built_81 ?_
    refine s_cvi4 (pc := 82) (c_X7_berthBy hA hO hi (Nat.lt_of_le_of_lt agedN_le (by omega)) (by omega) (by omega)) ml_X7_150 mw_X7_berthBy rfl (by decide) (Nat.le_of_ble_eq_true rfl) dX7_built_82 ?_
    refine s_iload_n (pc := 85) 2 rfl rfl dX7_built_85 ?_
    refine s_icmp_neN (pc := 86) (Nat.lt_of_le_of_lt (berth_le _ _ _ _ _) (by omega)) (by omega) 93 dX7_built_86 (by decide) (fun c_86 => ?_) (fun c_86 => ?_)
    · refine s_iconst (pc := 93) (k_i0N) dX7_built_93 ?_
      refine s_istore (pc := 94) (by decide) rfl dX7_built_94 ?_
      refine s_iload_n (pc := 96) 3 rfl rfl dX7_built_96 ?_
      refine s_iload (pc := 97) rfl dX7_built_97 ?_
      refine s_if_eqN (pc := 99) (by omega) 106 dX7_built_99 (by decide) (fun c_99 => ?_) (fun c_99 => ?_)
      · refine s_iconst (pc := 106) (k_i0N) dX7_built_106 ?_
        refine s_iaddN (pc := 107) dX7_built_107 ?_
        refine s_istore_n (pc := 108) 3 rfl (by decide) rfl dX7_built_108 ?_
        refine s_iload (pc := 109) rfl dX7_built_109 ?_
        refine s_if_eqN (pc := 111) (by omega) 119 dX7_built_111 (by decide) (fun c_111 => ?_) (fun c_111 => ?_)
        · refine s_iload (pc := 119) rfl dX7_built_119 ?_
          refine s_istore (pc := 121) (by decide) rfl dX7_built_121 ?_
          refine s_iinc (pc := 123) _ rfl rfl (by decide) rfl dX7_built_123 ?_
          refine s_goto (pc := 126) 26 dX7_built_126 (by decide) ?_
          have eb : nI (100 - t - 1) + Int32.ofInt (-1) = nI (100 - (t + 1)) - nI 1 := (m1_dec (j := 100 - t) (by omega)).trans (by rw [show 100 - t - 1 = 100 - (t + 1) by omega])
          first | (have hh : buP a i k (99 - t) = true := (by simp only [buP, decide_eq_true_eq]; rw [show 99 - t = 100 - t - 1 by omega]; exact c_86); have e1 : (blN (buP a i k) t).1 + 1 = (blN (buP a i k) (t + 1)).1 := (by simp only [blN]; rw [if_pos hh]); have e2 : 100 - t - 1 = (blN (buP a i k) (t + 1)).2 := (by simp only [blN]; rw [if_pos hh]; show _ = 99 - t; omega); rw [eb, e1, e2]; exact ih_26 (by omega) _ _) | (have hh : ¬ buP a i k (99 - t) = true := (by simp only [buP, decide_eq_true_eq]; rw [show 99 - t = 100 - t - 1 by omega]; exact c_86); have e1 : (blN (buP a i k) t).1 + 0 = (blN (buP a i k) (t + 1)).1 := (by simp only [blN]; rw [if_neg hh]; rfl); have e2 : (blN (buP a i k) t).2 = (blN (buP a i k) (t + 1)).2 := (by simp only [blN]; rw [if_neg hh]); rw [eb, e1, e2]; exact ih_26 (by omega) _ _)
        · exfalso; omega
      · exfalso; omega
    · refine s_iconst (pc := 89) (k_i1N) dX7_built_89 ?_
      refine s_goto (pc := 90) 94 dX7_built_90 (by decide) ?_
      refine s_istore (pc := 94) (by decide) rfl dX7_built_94 ?_
      refine s_iload_n (pc := 96) 3 rfl rfl dX7_built_96 ?_
      refine s_iload (pc := 97) rfl dX7_built_97 ?_
      refine s_if_eqN (pc := 99) (by omega) 106 dX7_built_99 (by decide) (fun c_99 => ?_) (fun c_99 => ?_)
      · exfalso; omega
      · refine s_iconst (pc := 102) (k_i1N) dX7_built_102 ?_
        refine s_goto (pc := 103) 107 dX7_built_103 (by decide) ?_
        refine s_iaddN (pc := 107) dX7_built_107 ?_
        refine s_istore_n (pc := 108) 3 rfl (by decide) rfl dX7_built_108 ?_
        refine s_iload (pc := 109) rfl dX7_built_109 ?_
        refine s_if_eqN (pc := 111) (by omega) 119 dX7_built_111 (by decide) (fun c_111 => ?_) (fun c_111 => ?_)
        · exfalso; omega
        · refine s_iload (pc := 114) rfl dX7_built_114 ?_
          refine s_goto (pc := 116) 121 dX7_built_116 (by decide) ?_
          refine s_istore (pc := 121) (by decide) rfl dX7_built_121 ?_
          refine s_iinc (pc := 123) _ rfl rfl (by decide) rfl dX7_built_123 ?_
          refine s_goto (pc := 126) 26 dX7_built_126 (by decide) ?_
          have eb : nI (100 - t - 1) + Int32.ofInt (-1) = nI (100 - (t + 1)) - nI 1 := (m1_dec (j := 100 - t) (by omega)).trans (by rw [show 100 - t - 1 = 100 - (t + 1) by omega])
          first | (have hh : buP a i k (99 - t) = true := (by simp only [buP, decide_eq_true_eq]; rw [show 99 - t = 100 - t - 1 by omega]; exact c_86); have e1 : (blN (buP a i k) t).1 + 1 = (blN (buP a i k) (t + 1)).1 := (by simp only [blN]; rw [if_pos hh]); have e2 : 100 - t - 1 = (blN (buP a i k) (t + 1)).2 := (by simp only [blN]; rw [if_pos hh]; show _ = 99 - t; omega); rw [eb, e1, e2]; exact ih_26 (by omega) _ _) | (have hh : ¬ buP a i k (99 - t) = true := (by simp only [buP, decide_eq_true_eq]; rw [show 99 - t = 100 - t - 1 by omega]; exact c_86); have e1 : (blN (buP a i k) t).1 + 0 = (blN (buP a i k) (t + 1)).1 := (by simp only [blN]; rw [if_neg hh]; rfl); have e2 : (blN (buP a i k) t).2 = (blN (buP a i k) (t + 1)).2 := (by simp only [blN]; rw [if_neg hh]); rw [eb, e1, e2]; exact ih_26 (by omega) _ _)
