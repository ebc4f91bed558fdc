/-- nothing but the harbour's own (23, 30 .. 34) has changed -/
def Fp (h h' : Hp) : Prop := h'.2 = h.2 ∧ ∀ x y, x ≠ 23 → ¬ (30 ≤ x ∧ x ≤ 34) → h'.1 x y = h.1 x y
theorem Fp.rf (h : Hp) : Fp h h := ⟨rfl, fun _ _ _ _ => rfl⟩
theorem Fp.tr {h h1 h2 : Hp} (p : Fp h h1) (q : Fp h1 h2) : Fp h h2 := ⟨q.1.trans p.1, fun x y a b => (q.2 x y a b).trans (p.2 x y a b)⟩
theorem setl_2 (h : Hp) (a : Nat → Nat) : (setl h a).2 = h.2 := rfl
theorem RC_goes {a : Nat → Nat} {h : Hp} {i : Nat} (hR : RC a h) (hn : a 0 ≤ 6) : RC (goesN a i) (movC h a i) := by
  obtain ⟨v2, v4, v5, v6, v3, v7⟩ := goes_v a i
  refine RC_sim hR (Sim.goes a i) hn v2 ?_ ?_ ?_ (fun j hj => ?_) (fun x y _ q _ => ?_)
  · rw [v4]; rfl
  · rw [v5]; rfl
  · rw [v6]; rfl
  · rw [v7 j (by omega)]; exact (hR.1.2.1 j hj).2.2.2.2.2.2
  · simp only [movC, ui]
    rw [if_neg (fun z => q ⟨z.1, Or.inr (Or.inr z.2)⟩), if_neg (fun z => q ⟨z.1, Or.inl z.2⟩), if_neg (fun z => q ⟨z.1, Or.inr (Or.inl z.2)⟩)]
theorem RC_ebbs {a : Nat → Nat} {h : Hp} (hR : RC a h) (hn : a 0 ≤ 6) : RC (ebbsN a) (rgC (ui h 23 8 (nI (a 2))) a (grdN a) (a 0)) := by
  obtain ⟨v2, v4, v5, v6, v3, v7⟩ := ebbs_v a
  refine RC_sim hR (Sim.ebbs a) hn v2 ?_ ?_ ?_ (fun j hj => ?_) (fun x y _ q q2 => ?_)
  · rw [v4]; rfl
  · rw [v5]; exact hR.1.1.2.2.2.2.1
  · rw [v6]; exact hR.1.1.2.2.2.2.2
  · rw [v7 j (by omega), rgC, fup_lt hj, bit1]
    congr 2
    by_cases q : (grdN a).testBit j = true
    · rw [if_pos q, if_pos ⟨hj, q⟩]
    · rw [if_neg q, if_neg (fun z => q z.2)]
  · rw [rgC, fup_ne q2]
    simp only [ui]
    exact if_neg (fun z => q ⟨z.1, Or.inl z.2⟩)
theorem doDeed_ok {a : Nat → Nat} {h : Hp} {dd i : Nat} (hR : RC a h) (hB : OkB a) (h3 : h.1 23 6 = nI (a 3)) (ok : okD a dd i) : ∃ h', CT 8 yX2_doDeed cX2_doDeed 3 (some .int) [.ref 23, .int (nI dd), .int (nI i)] h (some (.int (nI (retN a dd i)))) h' ∧ RC (stepN a dd i) h' ∧ h'.1 23 6 = nI (a 3 + 1) ∧ (∀ j, h'.1 32 j = if j = a 3 then nI (dd * 6 + i) else h.1 32 j) ∧ Fp h h' := by
  obtain ⟨P, rp, rP, rt⟩ := hR.1.2.2
  have hn := hB.1.1.1
  have hR1 := RC_dd1 hR (a 3) dd i
  have l1 : ∀ j, (dd1 h (a 3) dd i).1 32 j = if j = a 3 then nI (dd * 6 + i) else h.1 32 j := fun j => by
    show (if (32 : Nat) = 32 ∧ j = a 3 then nI (dd * 6 + i) else h.1 32 j) = _
    by_cases q : j = a 3
    · rw [if_pos ⟨rfl, q⟩, if_pos q]
    · rw [if_neg (fun z => q z.2), if_neg q]
  have f1 : Fp h (dd1 h (a 3) dd i) := ⟨rfl, fun x y h1 h2 => by rw [dd1, ui_ne h1, ui_ne (by omega)]⟩
  refine ⟨ddC h a dd i P, ?_⟩
  have okk := ok
  obtain ⟨k3, ki6, kdd, kn, d0, d1, d2⟩ := ok
  rcases (show dd = 0 ∨ dd = 1 ∨ dd = 2 ∨ dd = 3 ∨ dd = 4 by omega) with rfl | rfl | rfl | rfl | rfl
  · exact ⟨c_X2_doDeed_0 hR hB h3 okk rp rP rt, RC_goes hR1 hn, rfl, l1, f1.tr ⟨rfl, fun x y h1 h2 => by show (movC _ a i).1 x y = _; rw [movC, ui_ne h1, ui_ne h1, ui_ne h1]⟩⟩
  · refine ⟨c_X2_doDeed_1 hR hB h3 okk rp rP rt, RC_setl (RC_pay hR1 (d1 rfl).1 hn rP rp rt), ?_, fun j => ?_, f1.tr ⟨rfl, fun x y h1 h2 => ?_⟩⟩
    · show (setl _ _).1 23 6 = _; rw [setl_ne (by decide) (by decide)]; rfl
    · show (setl _ _).1 32 j = _; rw [setl_ne (by decide) (by decide)]; exact l1 j
    · show (setl _ _).1 x y = _; rw [setl_ne (by omega) (by omega), ui_ne h1]
  · refine ⟨c_X2_doDeed_2 hR hB h3 okk rp rP rt, RC_setl (RC_tea hR1 (d2 rfl).1 hn), ?_, fun j => ?_, f1.tr ⟨rfl, fun x y h1 h2 => ?_⟩⟩
    · show (setl _ _).1 23 6 = _; rw [setl_ne (by decide) (by decide)]; rfl
    · show (setl _ _).1 32 j = _; rw [setl_ne (by decide) (by decide)]; exact l1 j
    · show (setl _ _).1 x y = _; rw [setl_ne (by omega) (by omega), ui_ne (by omega)]
  · refine ⟨c_X2_doDeed_3 hR hB h3 okk rp rP rt, RC_ebbs hR1 hn, rfl, l1, f1.tr ⟨rfl, fun x y h1 h2 => ?_⟩⟩
    show (rgC _ a _ _).1 x y = _
    rw [rgC, fup_ne (by omega), ui_ne h1]
  · refine ⟨c_X2_doDeed_4 hR hB h3 okk rp rP rt, RC_setl (RC_year hR1 hn), ?_, fun j => ?_, f1.tr ⟨rfl, fun x y h1 h2 => ?_⟩⟩
    · show (setl _ _).1 23 6 = _; rw [setl_ne (by decide) (by decide)]; rfl
    · show (setl _ _).1 32 j = _; rw [setl_ne (by decide) (by decide)]; exact l1 j
    · show (setl _ _).1 x y = _; rw [setl_ne (by omega) (by omega), ui_ne h1]
def runN (b : Nat → Nat) (ds : Nat → Nat) : Nat → (Nat → Nat)
  | 0 => b
  | k + 1 => stepN (runN b ds k) (ds k / 6) (ds k % 6)
def okR (b : Nat → Nat) (ds : Nat → Nat) (n : Nat) : Prop := n ≤ 40 ∧ ∀ k, k < n → ds k < 30 ∧ okD (runN b ds k) (ds k / 6) (ds k % 6)
theorem run_ok {b ds : Nat → Nat} {n : Nat} (hb : OkB b) (h3 : b 3 = 0) (ok : okR b ds n) : ∀ k, k ≤ n → OkB (runN b ds k) ∧ runN b ds k 3 = k := by
  intro k
  induction k with
  | zero => exact fun _ => ⟨hb, h3⟩
  | succ k ih =>
    intro hk
    obtain ⟨i1, i2⟩ := ih (by omega)
    have o := ok.2 k (by omega)
    exact ⟨i1.step o.2, (step_3 o.2.2.1).trans (by rw [i2])⟩
theorem okR.le {b ds : Nat → Nat} {n k : Nat} (ok : okR b ds n) (hk : k ≤ n) : okR b ds k := ⟨by have := ok.1; omega, fun j hj => ok.2 j (by omega)⟩

set_option maxRecDepth 20000 in
theorem replay_lp {b ds : Nat → Nat} {n c : Nat} (hc : lyL[c]? = some (1, 40)) (hc2 : c = 32 ∨ (c ≠ 23 ∧ ¬ (30 ≤ c ∧ c ≤ 34))) (hb : OkB b) (hb3 : b 3 = 0) (ok : okR b ds n) : ∀ k, k ≤ n → ∀ h : Hp, RC (runN b ds k) h → h.1 23 6 = nI k → (∀ j, j < n → h.1 c j = nI (ds j)) →
    ∃ h', (RC (runN b ds n) h' ∧ h'.1 23 6 = nI n ∧ (∀ j, h'.1 32 j = if k ≤ j ∧ j < n then nI (ds j) else h.1 32 j) ∧ Fp h h') ∧ ∀ E : Cx, WW E cX2_replay RX2 4 9 40 [.ref 23, .ref c, .int (nI n), .int (nI n)] h' [] → WW E cX2_replay RX2 4 9 6 [.ref 23, .ref c, .int (nI n), .int (nI k)] h [] := by
  have on := ok.1
  refine lpi n (fun k hk ih h hR h3 hL => ?_)
  by_cases hkn : k < n
  · obtain ⟨b1, b3⟩ := run_ok hb hb3 ok k hk
    obtain ⟨o1, o2⟩ := ok.2 k hkn
    obtain ⟨h1, hcd, hR1, h31, hl1, hf1⟩ := doDeed_ok hR b1 (by rw [b3]; exact h3) o2
    rw [b3] at h31 hl1
    have hLk : ∀ j, j < n → h.1 c j = nI (ds j) := hL
    have hL1 : ∀ j, j < n → h1.1 c j = nI (ds j) := fun j hj => by
      rcases hc2 with rfl | ⟨q1, q2⟩
      · rw [hl1 j]
        by_cases e : j = k
        · rw [if_pos e, e, Nat.mul_comm, Nat.div_add_mod]
        · rw [if_neg e]; exact hL j hj
      · rw [hf1.2 c j q1 q2]; exact hL j hj
    obtain ⟨h', ⟨q1, q2, q3, q4⟩, hW⟩ := ih hkn h1 hR1 h31 hL1
    refine ⟨h', ⟨q1, q2, fun j => ?_, hf1.tr q4⟩, fun E kx => ?_⟩
    · rw [q3 j, hl1 j]
      by_cases e : j = k
      · subst e
        rw [if_neg (by omega), if_pos rfl, if_pos ⟨Nat.le_refl _, hkn⟩, Nat.mul_comm, Nat.div_add_mod]
      · rw [if_neg e]
        by_cases e2 : k + 1 ≤ j ∧ j < n
        · rw [if_pos e2, if_pos (by omega)]
        · rw [if_neg e2, if_neg (by omega)]
    refine s_iload_n (pc := 6) 3 rfl rfl dX2_replay_6 ?_
    refine s_iload_n (pc := 7) 2 rfl rfl dX2_replay_7 ?_
    refine s_icmp_geN (pc := 8) (by omega) (by omega) 40 dX2_replay_8 (by decide) (fun c_8 => ?_) (fun c_8 => ?_)
    · exact absurd c_8 (by omega)
    · refine s_iload_n (pc := 11) 3 rfl rfl dX2_replay_11 ?_
      refine s_aload_n (pc := 12) 1 rfl rfl dX2_replay_12 ?_
      refine s_alen (pc := 13) hc (by decide) dX2_replay_13 ?_
      refine s_icmp_geN (pc := 14) (by omega) (by omega) 40 dX2_replay_14 (by decide) (fun c_14 => ?_) (fun c_14 => ?_)
      · exact absurd c_14 (by omega)
      · refine s_aload_n (pc := 17) 0 rfl rfl dX2_replay_17 ?_
        refine s_aload_n (pc := 18) 1 rfl rfl dX2_replay_18 ?_
        refine s_iload_n (pc := 19) 3 rfl rfl dX2_replay_19 ?_
        refine s_ialdN (pc := 20) (_) hc rfl (by omega) (hLk _ (by omega)) dX2_replay_20 ?_
        refine s_bipush (pc := 21) (k_b6N) dX2_replay_21 ?_
        refine s_idivN (pc := 23) (by omega) (by omega) (by omega) dX2_replay_23 ?_
        refine s_aload_n (pc := 24) 1 rfl rfl dX2_replay_24 ?_
        refine s_iload_n (pc := 25) 3 rfl rfl dX2_replay_25 ?_
        refine s_ialdN (pc := 26) (_) hc rfl (by omega) (hLk _ (by omega)) dX2_replay_26 ?_
        refine s_bipush (pc := 27) (k_b6N) dX2_replay_27 ?_
        refine s_iremN (pc := 29) (by omega) (by omega) (by omega) dX2_replay_29 ?_
        refine s_cvi2 (pc := 30) (hcd) ml_X2_85 mw_X2_doDeed rfl (by decide) (Nat.le_of_ble_eq_true rfl) dX2_replay_30 ?_
        refine s_pop (pc := 33) rfl dX2_replay_33 ?_
        refine s_iincN (pc := 34) rfl (by decide) rfl dX2_replay_34 ?_
        refine s_goto (pc := 37) 6 dX2_replay_37 (by decide) ?_
        exact hW E kx
  · obtain rfl : k = n := by omega
    refine ⟨h, ⟨hR, h3, fun j => by rw [if_neg (by omega)], Fp.rf h⟩, fun E kx => ?_⟩
    refine s_iload_n (pc := 6) 3 rfl rfl dX2_replay_6 ?_
    refine s_iload_n (pc := 7) 2 rfl rfl dX2_replay_7 ?_
    refine s_icmp_geN (pc := 8) (by omega) (by omega) 40 dX2_replay_8 (by decide) (fun c_8 => ?_) (fun c_8 => ?_)
    · exact kx
    · exact absurd (Nat.le_refl _) c_8

theorem replay_ok {b ds : Nat → Nat} {n c : Nat} {h : Hp} (hc : lyL[c]? = some (1, 40)) (hc2 : c = 32 ∨ (c ≠ 23 ∧ ¬ (30 ≤ c ∧ c ≤ 34))) (hb : OkB b) (hBs : Base b) (hB : RB b h) (ok : okR b ds n) (hL : ∀ j, j < n → h.1 c j = nI (ds j)) :
    ∃ h', CT 9 yX2_replay cX2_replay 4 none [.ref 23, .ref c, .int (nI n)] h none h' ∧ RC (runN b ds n) h' ∧ h'.1 23 6 = nI n ∧ (∀ j, j < n → h'.1 32 j = nI (ds j)) ∧ Fp h h' := by
  have fb : Fp h (setl (bg0 h b) b) := ⟨rfl, fun x y h1 h2 => by rw [setl_ne (by omega) (by omega), bg0, ui_ne h1, ui_ne h1, ui_ne h1, ui_ne h1, ui_ne h1, ui_ne h1, fil_ne (by omega), fil_ne (by omega)]⟩
  have hL0 : ∀ j, j < n → (setl (bg0 h b) b).1 c j = nI (ds j) := fun j hj => by
    rcases hc2 with rfl | ⟨q1, q2⟩
    · rw [setl_ne (by decide) (by decide), bg0, ui_ne (by decide), ui_ne (by decide), ui_ne (by decide), ui_ne (by decide), ui_ne (by decide), ui_ne (by decide), fil_ne (by decide), fil_ne (by decide)]; exact hL j hj
    · rw [fb.2 c j q1 q2]; exact hL j hj
  obtain ⟨h', ⟨q1, q2, q3, q4⟩, hW⟩ := replay_lp hc hc2 hb hBs.1 ok 0 (Nat.zero_le _) (setl (bg0 h b) b) (RC_setl (RC_bg0 hB hBs hb.1.1.1)) (by rw [setl_ne (by decide) (by decide)]; rfl) hL0
  refine ⟨h', ?_, q1, q2, fun j hj => by rw [q3 j, if_pos ⟨Nat.zero_le _, hj⟩], fb.tr q4⟩
  refine CT.of (own := RX2) rfl (by decide) ro_v [.ref 23, .ref c, .int (nI n), .null] rfl (Nat.le_of_ble_eq_true rfl) (fun E hp => ?_)
  refine s_aload_n (pc := 0) 0 rfl rfl dX2_replay_0 ?_
  refine s_cvn0 (pc := 1) (c_X2_begin hB hBs hb.1) ml_X2_82 mw_X2_begin rfl (by decide) (Nat.le_of_ble_eq_true rfl) dX2_replay_1 ?_
  refine s_iconst (pc := 4) (k_i0N) dX2_replay_4 ?_
  refine s_istore_n (pc := 5) 3 rfl (by decide) rfl dX2_replay_5 ?_
  exact hW E (s_vret (pc := 40) dX2_replay_40 hp)
