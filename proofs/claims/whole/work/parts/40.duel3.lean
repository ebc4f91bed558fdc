def mvA (a : Nat → Nat) (t1 : Nat) (F : Nat → Nat) (s : Nat) : Nat → Option Nat
  | 0 => none
  | w1 + 1 => if w1 < a 0 ∧ w1 % 2 = t1 % 2 then some (cmv t1 (mvA a t1 F s w1) (F (s ^^^ 2 ^ w1))) else mvA a t1 F s w1
theorem cmv_b {t1 v : Nat} {A : Option Nat} (hA : ∀ b1, A = some b1 → 64 ≤ b1 ∧ b1 ≤ 136) (hv : 64 ≤ v ∧ v ≤ 136) : 64 ≤ cmv t1 A v ∧ cmv t1 A v ≤ 136 := by
  cases A with
  | none => exact hv
  | some b1 => exact opN_b (hA b1 rfl) hv
theorem mvA_b {a : Nat → Nat} {t1 s : Nat} {F : Nat → Nat} (hF : ∀ x, 64 ≤ F x ∧ F x ≤ 136) (w1 : Nat) : ∀ b1, mvA a t1 F s w1 = some b1 → 64 ≤ b1 ∧ b1 ≤ 136 := by
  induction w1 with
  | zero => intro b1 h; exact absurd h (by simp [mvA])
  | succ w1 ih =>
    intro b1 h
    simp only [mvA] at h
    split at h
    · obtain rfl := Option.some.inj h
      exact cmv_b ih (hF _)
    · exact ih b1 h
theorem op_comm (t1 x y : Nat) : opN t1 x y = opN t1 y x := by
  unfold opN
  repeat' split
  all_goals omega
theorem op_rc (t1 x y z : Nat) : opN t1 (opN t1 x y) z = opN t1 (opN t1 x z) y := by
  unfold opN
  repeat' split
  all_goals omega
theorem mvA_mm {a : Nat → Nat} {t1 s : Nat} {F : Nat → Nat} {w1 : Nat} (hw : w1 ≤ a 0) : cmv t1 (mvA a t1 F s w1) (F s) = mmS a t1 F s w1 := by
  induction w1 with
  | zero => rfl
  | succ w1 ih =>
    have ih := ih (by omega)
    simp only [mvA, mmS]
    by_cases q : w1 % 2 = t1 % 2
    · rw [if_pos ⟨by omega, q⟩, if_pos q, ← ih]
      cases mvA a t1 F s w1 with
      | none => exact op_comm _ _ _
      | some b1 => exact op_rc _ _ _ _
    · rw [if_neg (fun z => q z.2), if_neg q, ih]
theorem mvA_6 {a : Nat → Nat} {t1 s : Nat} {F : Nat → Nat} {w1 : Nat} (h : a 0 ≤ w1) : mvA a t1 F s w1 = mvA a t1 F s (a 0) := by
  induction w1 with
  | zero => rw [show a 0 = 0 by omega]
  | succ w1 ih =>
    by_cases e : a 0 = w1 + 1
    · rw [e]
    · simp only [mvA]
      rw [if_neg (by omega), ih (by omega)]
def DuB (a : Nat → Nat) (h : Hp) (n j1 : Nat) : Prop := ∀ (L : Nat → Nat) (B : Nat → Option Nat) (I : Nat → Nat), L (n - j1) = 0 → B (n - j1) = none → (∀ y, n - j1 < y → L y = 0 ∧ B y = none) → I (n - j1) < 2 ^ a 0 →
    ∃ I', (∀ y, y ≤ n - j1 → I' y = I y) ∧ ∀ (E : Cx) (z3 : Value), (∀ z3, WW E cX7_duel RX7 4 6 108 [.ref 50, .int (nI n), .int (nI (n - j1)), z3] (SH h (au L (n - j1) 7) (ub B (n - j1) (some (mmx a n j1 (I (n - j1))))) I') []) → WW E cX7_duel RX7 4 6 64 [.ref 50, .int (nI n), .int (nI (n - j1)), z3] (SH h L B I) []
theorem du_sub {a : Nat → Nat} {h : Hp} {n j1 t1 : Nat} (hA : RM a h) (hO : OkA a) (hn : n ≤ 5) (hj : t1 + 1 + j1 = n) (hD : DuB a h n j1) (L : Nat → Nat) (B : Nat → Option Nat) (I : Nat → Nat) (hL : L (t1 + 1) = 0) (hB : B (t1 + 1) = none) (hy : ∀ y, t1 + 1 < y → L y = 0 ∧ B y = none) (hI : I (t1 + 1) < 2 ^ a 0) (hb : ∀ b1, B t1 = some b1 → b1 < 1000) :
    ∃ I', (∀ y, y ≤ t1 + 1 → I' y = I y) ∧ ∀ (E : Cx) (z3 : Value), (∀ z3, WW E cX7_duel RX7 4 6 64 [.ref 50, .int (nI n), .int (nI t1), z3] (SH h L (ub B t1 (some (cmv t1 (B t1) (mmx a n j1 (I (t1 + 1)))))) I') []) → WW E cX7_duel RX7 4 6 64 [.ref 50, .int (nI n), .int (nI (t1 + 1)), z3] (SH h L B I) [] := by
  have et : n - j1 = t1 + 1 := by omega
  have o0 := hO.1.1
  have hD' := hD L B I
  rw [et] at hD'
  obtain ⟨I', hI', hW⟩ := hD' hL hB hy hI
  refine ⟨I', hI', fun E z3 kk => hW E z3 (fun z3 => ?_)⟩
  have mb := mmx_b o0 (n := n) j1 (I (t1 + 1))
  refine du_pop hA hO hn (by omega) (show mmx a n j1 (I (t1 + 1)) < 1000 by omega) (fun b1 e => hb b1 (by simp only [ub] at e; rw [if_neg (by omega)] at e; exact e)) (by simp only [ub]; rfl) (fun z3 => ?_)
  have eL : au (au L (t1 + 1) 7) (t1 + 1) 0 = L := funext fun y => by
    by_cases e : y = t1 + 1
    · rw [e, au_eq, hL]
    · rw [au_ne e, au_ne e]
  have eT : ub B (t1 + 1) (some (mmx a n j1 (I (t1 + 1)))) t1 = B t1 := by simp only [ub]; rw [if_neg (by omega)]
  have eB : ub (ub (ub B (t1 + 1) (some (mmx a n j1 (I (t1 + 1))))) (t1 + 1) none) t1 (some (cmv t1 (B t1) (mmx a n j1 (I (t1 + 1))))) = ub B t1 (some (cmv t1 (B t1) (mmx a n j1 (I (t1 + 1))))) := funext fun y => by
    simp only [ub]
    by_cases e : y = t1
    · rw [if_pos e, if_pos e]
    · rw [if_neg e, if_neg e]
      by_cases e2 : y = t1 + 1
      · rw [if_pos e2, e2, hB]
      · rw [if_neg e2, if_neg e2]
  rw [eT, eL, eB]
  exact kk z3
theorem ub_ub (B : Nat → Option Nat) (j : Nat) (b1 b2 : Option Nat) : ub (ub B j b1) j b2 = ub B j b2 := funext fun y => by
  simp only [ub]
  split <;> rfl
theorem au_au (L : Nat → Nat) (j x y : Nat) : au (au L j x) j y = au L j y := funext fun z => by
  simp only [au]
  split <;> rfl
theorem ub_eq {B : Nat → Option Nat} {j : Nat} {b1 : Option Nat} : ub B j b1 j = b1 := if_pos rfl
theorem ub_ne {B : Nat → Option Nat} {j y : Nat} {b1 : Option Nat} (h : y ≠ j) : ub B j b1 y = B y := if_neg h
theorem du_body {a : Nat → Nat} {h : Hp} {n : Nat} (hA : RM a h) (hO : OkA a) (hn : n ≤ 5) : ∀ j1, j1 ≤ n → DuB a h n j1 := by
  have o0 := hO.1.1
  intro j1
  induction j1 with
  | zero =>
    intro _ L B I hL hB hy hI
    rw [Nat.sub_zero] at *
    have h6 : 2 ^ a 0 ≤ 2 ^ 6 := Nat.pow_le_pow_right (by decide) o0
    exact ⟨I, fun _ _ => rfl, fun E z3 kk => du_leaf hA hO hn (by omega) (kk z3)⟩
  | succ j1 ih =>
    intro hj L B I hL hB hy hI
    have hD := ih (by omega)
    obtain ⟨t1, ht⟩ : ∃ t1, t1 = n - (j1 + 1) := ⟨_, rfl⟩
    rw [← ht] at hL hB hy hI ⊢
    have hF := mmx_b o0 (n := n) j1
    have key : ∀ w1, w1 ≤ 6 → ∀ I2 : Nat → Nat, I2 t1 = I t1 → ∃ I', (∀ y, y ≤ t1 → I' y = I2 y) ∧ ∀ (E : Cx) (z3 : Value), (∀ z3, WW E cX7_duel RX7 4 6 108 [.ref 50, .int (nI n), .int (nI t1), z3] (SH h (au L t1 7) (ub B t1 (some (mmx a n (j1 + 1) (I t1)))) I') []) → WW E cX7_duel RX7 4 6 64 [.ref 50, .int (nI n), .int (nI t1), z3] (SH h (au L t1 w1) (ub B t1 (mvA a t1 (mmx a n j1) (I t1) w1)) I2) [] := by
      refine lpi 6 (fun w1 hw ihw I2 hI2 => ?_)
      have hm := mvA_b (a := a) (t1 := t1) (s := I t1) hF w1
      by_cases e6 : w1 = 6
      · subst e6
        obtain ⟨I3, hI3, hW⟩ := du_sub hA hO hn (show t1 + 1 + j1 = n by omega) hD (au L t1 7) (ub B t1 (mvA a t1 (mmx a n j1) (I t1) 6)) (au I2 (t1 + 1) (I2 t1)) (by rw [au_ne (by omega)]; exact (hy _ (by omega)).1) (by rw [ub_ne (by omega)]; exact (hy _ (by omega)).2) (fun y hy2 => by rw [au_ne (by omega), ub_ne (by omega)]; exact hy y (by omega)) (by rw [au_eq, hI2]; exact hI) (fun b1 e => by rw [ub_eq] at e; have := hm b1 e; omega)
        refine ⟨I3, fun y hy3 => by rw [hI3 y (by omega), au_ne (by omega)], fun E z3 kk => ?_⟩
        refine du_pass hA hO hn (by omega) au_eq (fun z3 => ?_)
        rw [au_au]
        refine hW E z3 (fun z3 => ?_)
        rw [ub_eq, au_eq, ub_ub, mvA_6 o0, hI2, mvA_mm (Nat.le_refl _)]
        refine du_done hA hO hn (by omega) au_eq ?_
        have e := kk z3
        simp only [mmx] at e
        rw [← ht] at e
        exact e
      · have ihw := ihw (by omega)
        by_cases q : w1 < a 0 ∧ w1 % 2 = t1 % 2
        · have xl := xor_lt hI q.1
          obtain ⟨I3, hI3, hW⟩ := du_sub hA hO hn (show t1 + 1 + j1 = n by omega) hD (au L t1 (w1 + 1)) (ub B t1 (mvA a t1 (mmx a n j1) (I t1) w1)) (au I2 (t1 + 1) (I2 t1 ^^^ 2 ^ w1)) (by rw [au_ne (by omega)]; exact (hy _ (by omega)).1) (by rw [ub_ne (by omega)]; exact (hy _ (by omega)).2) (fun y hy2 => by rw [au_ne (by omega), ub_ne (by omega)]; exact hy y (by omega)) (by rw [au_eq, hI2]; exact xl) (fun b1 e => by rw [ub_eq] at e; have := hm b1 e; omega)
          obtain ⟨I4, hI4, hW4⟩ := ihw I3 (by rw [hI3 t1 (by omega), au_ne (by omega), hI2])
          refine ⟨I4, fun y hy3 => by rw [hI4 y hy3, hI3 y (by omega), au_ne (by omega)], fun E z3 kk => ?_⟩
          have h6 : 2 ^ a 0 ≤ 2 ^ 6 := Nat.pow_le_pow_right (by decide) o0
          refine du_push hA hO hn (by omega) au_eq q.1 (by rw [hI2]; omega) q.2 (fun z3 => ?_)
          rw [au_au]
          refine hW E z3 (fun z3 => ?_)
          have e := hW4 E z3 kk
          simp only [mvA] at e
          rw [if_pos q] at e
          rw [ub_eq, au_eq, ub_ub, hI2]
          exact e
        · obtain ⟨I4, hI4, hW4⟩ := ihw I2 hI2
          refine ⟨I4, hI4, fun E z3 kk => ?_⟩
          refine du_skip hA hO hn (by omega) au_eq (by omega) q (fun z3 => ?_)
          rw [au_au]
          have e := hW4 E z3 kk
          simp only [mvA] at e
          rw [if_neg q] at e
          exact e
    obtain ⟨I', hI', hW⟩ := key 0 (by omega) I rfl
    refine ⟨I', hI', fun E z3 kk => ?_⟩
    have e := hW E z3 kk
    have eL : au L t1 0 = L := funext fun y => by
      by_cases e : y = t1
      · rw [e, au_eq, hL]
      · rw [au_ne e]
    have eB : ub B t1 (mvA a t1 (mmx a n j1) (I t1) 0) = B := funext fun y => by
      by_cases e : y = t1
      · rw [e, ub_eq, hB]; rfl
      · rw [ub_ne e]
    rw [eL, eB] at e
    exact e

def FrD (h h' : Hp) : Prop := h'.2 = h.2 ∧ ∀ x y, ¬ (61 ≤ x ∧ x ≤ 63) → h'.1 x y = h.1 x y
def iH (h : Hp) (k1 : Nat) : Hp := fup (fup h 61 k1 (fun _ => nI 0 - nI 1)) 62 k1 (fun _ => -9)
theorem iH_0 (h : Hp) : iH h 0 = h := by rw [iH, fup_0, fup_0]
theorem iH_s (h : Hp) (k1 : Nat) : ui (ui (iH h k1) 62 k1 (-9)) 61 k1 (-1) = iH h (k1 + 1) := by
  unfold iH
  rw [fup_s _ 62 k1 (fun _ => -9) rfl, ui_fup (by decide), fup_s _ 61 k1 (fun _ => nI 0 - nI 1) m1_0]
theorem iH_e (h : Hp) (x : Nat) : ui (iH h 7) 63 0 (nI x) = SH h (fun _ => 0) (fun _ => none) (au (fun y => (h.1 63 y).toBitVec.toNat) 0 x) := by
  have e : fup (iH h 7) 63 7 (fun y => nI ((h.1 63 y).toBitVec.toNat)) = iH h 7 := hp_ext (fun p q => by
    by_cases c : p = 63 ∧ q < 7
    · rw [c.1, fup_lt c.2, iH, fup_ne (by decide), fup_ne (by decide)]
      exact (nI_of_tb (h.1 63 q).toBitVec.isLt rfl).symm
    · simp only [fup]; rw [if_neg c]) (fun _ _ => rfl)
  rw [← e, fup_ui (by decide), show (fun y => if y = 0 then nI x else nI ((h.1 63 y).toBitVec.toNat)) = (fun y => nI (au (fun y => (h.1 63 y).toBitVec.toNat) 0 x y)) from funext fun y => by simp only [au]; split <;> rfl]
  rfl

set_option maxRecDepth 20000 in
theorem c_X7_duelB {x : Int32} {h : Hp} (hb : x < 0 ∨ nI 5 < x) : CT 3 yX7_duel cX7_duel 4 (some .int) [.ref 50, .int x] h (some (.int (-1))) (h) := by
  refine CT.of (own := RX7) rfl (by decide) (ro_i _) [.ref 50, .int x, .null, .null] rfl (Nat.le_of_ble_eq_true rfl) (fun E hp => ?_)
  refine s_iload_n (pc := 0) 1 rfl rfl dX7_duel_0 ?_
  refine s_iconst (pc := 1) (k_i0N) dX7_duel_1 ?_
  refine s_iconst (pc := 2) (k_i5N) dX7_duel_2 ?_
  refine s_csi3 (pc := 3) (c_X7_inF (hb.imp (fun q => q) (fun q => q))) ml_X7_64 ms_X7_in (by decide) (Nat.le_of_ble_eq_true rfl) dX7_duel_3 ?_
  refine s_if_neF (pc := 6) 11 dX7_duel_6 (by decide) ?_
  refine s_iconst (pc := 9) (k_im1) dX7_duel_9 ?_
  refine s_iret (pc := 10) dX7_duel_10 (PostE.of hp ?_ ?_)
  · rfl
  · rfl

set_option maxRecDepth 20000 in
theorem c_X7_duelE {n : Nat} {a : Nat → Nat} {h : Hp} (hA : RM a h) (hO : OkA a) (hn : n ≤ 5) (h0 : a 0 = 0) : CT 3 yX7_duel cX7_duel 4 (some .int) [.ref 50, .int (nI n)] h (some (.int (-4))) (h) := by
  refine CT.of (own := RX7) rfl (by decide) (ro_i _) [.ref 50, .int (nI n), .null, .null] rfl (Nat.le_of_ble_eq_true rfl) (fun E hp => ?_)
  refine s_iload_n (pc := 0) 1 rfl rfl dX7_duel_0 ?_
  refine s_iconst (pc := 1) (k_i0N) dX7_duel_1 ?_
  refine s_iconst (pc := 2) (k_i5N) dX7_duel_2 ?_
  refine s_csi3 (pc := 3) (c_X7_inT (rng_t hn (by decide))) ml_X7_64 ms_X7_in (by decide) (Nat.le_of_ble_eq_true rfl) dX7_duel_3 ?_
  refine s_if_neT (pc := 6) 11 dX7_duel_6 (by decide) ?_
  refine s_aload_n (pc := 11) 0 rfl rfl dX7_duel_11 ?_
  refine s_cvi0 (pc := 12) (c_X7_are hA hO.1.1) ml_X7_198 mw_X7_are rfl (by decide) (Nat.le_of_ble_eq_true rfl) dX7_duel_12 ?_
  refine s_if_neB (pc := 15) 21 dX7_duel_15 (by decide) (fun c_15 => ?_) (fun c_15 => ?_)
  · exfalso; omega
  · refine s_bipush (pc := 18) (k_bm4) dX7_duel_18 ?_
    refine s_iret (pc := 20) dX7_duel_20 (PostE.of hp ?_ ?_)
    · rfl
    · rfl

set_option maxRecDepth 20000 in
theorem c_X7_duelO {n : Nat} {a : Nat → Nat} {h : Hp} (hA : RM a h) (hO : OkA a) (hn : n ≤ 5) (h0 : 0 < a 0) : ∃ h', FrD h h' ∧ CT 6 yX7_duel cX7_duel 4 (some .int) [.ref 50, .int (nI n)] h (some (.int (nI (mmx a n n (a 5))))) h' := by
  have o5 := hO.1.2.2.2.2.2.1
  have hD := du_body hA hO hn n (Nat.le_refl _) (fun _ => 0) (fun _ => none) (au (fun y => (h.1 63 y).toBitVec.toNat) 0 (a 5))
  rw [Nat.sub_self] at hD
  obtain ⟨I', hI', hW⟩ := hD rfl rfl (fun _ _ => ⟨rfl, rfl⟩) (by rw [au_eq]; exact o5)
  rw [au_eq] at hW
  refine ⟨SH h (au (au (fun _ => 0) 0 7) 0 0) (ub (ub (fun _ => none) 0 (some (mmx a n n (a 5)))) 0 none) I', ⟨rfl, fun x y hx => SH_ne hx⟩, ?_⟩
  refine CT.of (own := RX7) rfl (by decide) (ro_i _) [.ref 50, .int (nI n), .null, .null] rfl (Nat.le_of_ble_eq_true rfl) (fun E hp => ?_)

  refine s_iload_n (pc := 0) 1 rfl rfl dX7_duel_0 ?_
  refine s_iconst (pc := 1) (k_i0N) dX7_duel_1 ?_
  refine s_iconst (pc := 2) (k_i5N) dX7_duel_2 ?_
  refine s_csi3 (pc := 3) (c_X7_inT (rng_t hn (by decide))) ml_X7_64 ms_X7_in (by decide) (Nat.le_of_ble_eq_true rfl) dX7_duel_3 ?_
  refine s_if_neT (pc := 6) 11 dX7_duel_6 (by decide) ?_
  refine s_aload_n (pc := 11) 0 rfl rfl dX7_duel_11 ?_
  refine s_cvi0 (pc := 12) (c_X7_are hA hO.1.1) ml_X7_198 mw_X7_are rfl (by decide) (Nat.le_of_ble_eq_true rfl) dX7_duel_12 ?_
  refine s_if_neB (pc := 15) 21 dX7_duel_15 (by decide) (fun c_15 => ?_) (fun c_15 => ?_)
  · refine s_iconst (pc := 21) (k_i0N) dX7_duel_21 ?_
    refine s_istore_n (pc := 22) 2 rfl (by decide) rfl dX7_duel_22 ?_
    refine s_iconst (pc := 23) (k_i0N) dX7_duel_23 ?_
    refine s_istore_n (pc := 24) 3 rfl (by decide) rfl dX7_duel_24 ?_
    refine WW.hp (iH_0 h).symm ?_
    suffices lp_25 : ∀ k1, k1 ≤ 7 → WW E cX7_duel RX7 4 _ 25 [.ref 50, .int (nI n), .int (nI 0), .int (nI k1)] (iH h k1) [] from lp_25 0 (by omega)
    refine lpi 7 (fun k1 hk_k1 ih_25 => ?_)
    refine s_iload_n (pc := 25) 3 rfl rfl dX7_duel_25 ?_
    refine s_bipush (pc := 26) (k_b7N) dX7_duel_26 ?_
    refine s_icmp_geN (pc := 28) (by omega) (by omega) 52 dX7_duel_28 (by decide) (fun c_28 => ?_) (fun c_28 => ?_)
    · obtain rfl : k1 = 7 := by omega
      refine s_aload_n (pc := 52) 0 rfl rfl dX7_duel_52 ?_
      refine s_getr (pc := 53) (b := 63) fl_X7_47 rfl rfl rfl dX7_duel_53 ?_
      refine s_iconst (pc := 56) (k_i0N) dX7_duel_56 ?_
      refine s_aload_n (pc := 57) 0 rfl rfl dX7_duel_57 ?_
      refine s_getr (pc := 58) (b := 56) fl_X7_25 rfl rfl rfl dX7_duel_58 ?_
      refine s_iconst (pc := 61) (k_i5N) dX7_duel_61 ?_
      refine s_ialdN (pc := 62) (_) rfl rfl (by omega) (show (iH h 7).1 56 5 = nI (a 5) from by rw [iH, fup_ne (by decide), fup_ne (by decide)]; exact hA 5 (by decide)) dX7_duel_62 ?_
      refine s_iast (pc := 63) (_) rfl rfl (by omega) dX7_duel_63 ?_
      rw [iH_e]
      exact hW E _ (fun z3 => du_end hA hO hn ub_eq hp)
    · refine s_aload_n (pc := 31) 0 rfl rfl dX7_duel_31 ?_
      refine s_getr (pc := 32) (b := 62) fl_X7_44 rfl rfl rfl dX7_duel_32 ?_
      refine s_iload_n (pc := 35) 3 rfl rfl dX7_duel_35 ?_
      refine s_bipush (pc := 36) (k_bm9) dX7_duel_36 ?_
      refine s_iast (pc := 38) (_) rfl rfl (by omega) dX7_duel_38 ?_
      refine s_aload_n (pc := 39) 0 rfl rfl dX7_duel_39 ?_
      refine s_getr (pc := 40) (b := 61) fl_X7_41 rfl rfl rfl dX7_duel_40 ?_
      refine s_iload_n (pc := 43) 3 rfl rfl dX7_duel_43 ?_
      refine s_iconst (pc := 44) (k_im1) dX7_duel_44 ?_
      refine s_iast (pc := 45) (_) rfl rfl (by omega) dX7_duel_45 ?_
      rw [iH_s]
      refine s_iincN (pc := 46) rfl (by decide) rfl dX7_duel_46 ?_
      refine s_goto (pc := 49) 25 dX7_duel_49 (by decide) ?_
      exact ih_25 (by omega)
  · exfalso; omega
