/-! the class's search -/
def frU (st : Bst → Nat → Bst) : Nat → Nat → Bst → Bst
  | 0, _, b => b
  | k + 1, i, b => frU st k (i + 1) (st b i)
def seekN (a : Nat → Nat) : Nat → Qs → Nat → List Nat → Bst → Bst
  | 0, q, _, pre, b => if btr q.2.2.1 q.2.2.2 b = true then some (q.2.2.1, q.2.2.2, pre) else b
  | f + 1, q, o, pre, b => if btr q.2.2.1 q.2.2.2 b = true then frU (fun b i => if o.testBit i = true ∧ qcan a q i = true then seekN a f (qtk a q i) (clrN o i) (pre ++ [i]) b else b) 6 0 b else b
theorem fr_more {st : Bst → Nat → Bst} {n : Nat} : ∀ (k i : Nat) (b : Bst), (∀ b j, n ≤ i + j → st b (i + j) = b) → n ≤ i + k → frU st k i b = frU st (n - i) i b := by
  intro k
  induction k with
  | zero =>
    intro i b h hn
    rw [show n - i = 0 by omega]
  | succ k ih =>
    intro i b h hn
    by_cases e : n ≤ i
    · have e2 := ih (i + 1) b (fun b j hj => by rw [show i + 1 + j = i + (j + 1) by omega]; exact h b (j + 1) (by omega)) (by omega)
      rw [show n - (i + 1) = 0 by omega] at e2
      rw [show n - i = 0 by omega]
      simp only [frU]
      have hs := h b 0 (by omega)
      rw [Nat.add_zero] at hs
      rw [hs]
      exact e2
    · rw [show n - i = (n - (i + 1)) + 1 by omega]
      simp only [frU]
      exact ih (i + 1) (st b i) (fun b j hj => by rw [show i + 1 + j = i + (j + 1) by omega]; exact h b (j + 1) (by omega)) (by omega)
theorem fr_fold (st : Bst → Nat → Bst) (b : Bst) : frU st 6 0 b = (List.range 6).foldl st b := rfl
theorem tk_mono (a : Nat → Nat) (q : Qs) (i : Nat) : q.2.2.1 ≤ (qtk a q i).2.2.1 ∧ q.2.2.2 ≤ (qtk a q i).2.2.2 := by
  simp only [qtk]
  constructor
  · split <;> omega
  · omega
theorem ev_mono {a : Nat → Nat} : ∀ (p : List Nat) (q r : Qs), evq a q p = some r → q.2.2.1 ≤ r.2.2.1 ∧ q.2.2.2 ≤ r.2.2.2 := by
  intro p
  induction p with
  | nil => intro q r h; obtain rfl := Option.some.inj h; exact ⟨Nat.le_refl _, Nat.le_refl _⟩
  | cons i p ih =>
    intro q r h
    simp only [evq] at h
    split at h
    · have h1 := ih _ _ h
      have h2 := tk_mono a q i
      exact ⟨Nat.le_trans h2.1 h1.1, Nat.le_trans h2.2 h1.2⟩
    · exact absurd h (by simp)
theorem btr_mono {t d t' d' : Nat} {b : Bst} (h1 : t ≤ t') (h2 : d ≤ d') (h : ¬ btr t d b = true) : ¬ btr t' d' b = true := by
  cases b with
  | none => exact absurd rfl h
  | some b =>
    obtain ⟨bt, bd, bp⟩ := b
    simp only [btr, Bool.or_eq_true, Bool.and_eq_true, decide_eq_true_eq] at h ⊢
    omega
theorem sel_pr {a : Nat → Nat} {q : Qs} {pre : List Nat} {b : Bst} (h : ¬ btr q.2.2.1 q.2.2.2 b = true) : ∀ L : List (List Nat), L.foldl (sel a q pre) b = b := by
  intro L
  induction L with
  | nil => rfl
  | cons p L ih =>
    have e : sel a q pre b p = b := by
      unfold sel
      cases he : evq a q p with
      | none => rfl
      | some r =>
        have := ev_mono p q r he
        simp only
        rw [if_neg (btr_mono this.1 this.2 h)]
    rw [List.foldl_cons, e]
    exact ih
theorem sel_cons {a : Nat → Nat} {q : Qs} {pre : List Nat} {b : Bst} {i : Nat} {p : List Nat} : sel a q pre b (i :: p) = if qcan a q i = true then sel a (qtk a q i) (pre ++ [i]) b p else b := by
  by_cases c : qcan a q i = true
  · rw [if_pos c]
    unfold sel
    simp only [evq]
    rw [if_pos c]
    cases evq a (qtk a q i) p with
    | none => rfl
    | some r => simp only; rw [List.append_assoc]; rfl
  · rw [if_neg c]
    unfold sel
    simp only [evq]
    rw [if_neg c]
theorem foldl_id {α : Type} {L : List α} {b : Bst} {f : Bst → α → Bst} (h : ∀ b x, f b x = b) : L.foldl f b = b := by
  induction L with
  | nil => rfl
  | cons x L ih => rw [List.foldl_cons, h]; exact ih
theorem foldl_cg {α : Type} {L : List α} {b : Bst} {f g : Bst → α → Bst} (h : ∀ b x, f b x = g b x) : L.foldl f b = L.foldl g b := by
  rw [show f = g from funext fun b => funext fun x => h b x]
theorem seek_eq (a : Nat → Nat) : ∀ (f : Nat) (q : Qs) (o : Nat) (pre : List Nat) (b : Bst), seekN a f q o pre b = (PLs f o).foldl (sel a q pre) b := by
  intro f
  induction f with
  | zero =>
    intro q o pre b
    show _ = sel a q pre b []
    simp only [seekN, sel, evq, List.append_nil]
  | succ f ih =>
    intro q o pre b
    by_cases c : btr q.2.2.1 q.2.2.2 b = true
    · simp only [seekN]
      rw [if_pos c, fr_fold]
      simp only [PLs]
      rw [List.foldl_flatMap]
      refine foldl_cg (fun b i => ?_)
      by_cases ho : o.testBit i = true
      · rw [if_pos ho, List.foldl_map]
        by_cases hc : qcan a q i = true
        · rw [if_pos ⟨ho, hc⟩, ih]
          exact foldl_cg (fun b p => by rw [sel_cons, if_pos hc])
        · rw [if_neg (fun z => hc z.2)]
          exact (foldl_id (fun b p => by rw [sel_cons, if_neg hc])).symm
      · rw [if_neg ho, if_neg (fun z => ho z.1)]; rfl
    · simp only [seekN]
      rw [if_neg c, sel_pr c]
/-! its contents -/
def QH (q : Qs) (h : Hp) : Prop := h.1 41 3 = nI q.1 ∧ h.1 41 4 = nI q.2.1 ∧ h.1 41 5 = nI q.2.2.1 ∧ h.1 41 6 = nI q.2.2.2
def BC (b : Bst) (h : Hp) : Prop := match b with
  | none => h.1 41 7 = nI 0
  | some (t, d, p) => h.1 41 7 = nI 1 ∧ (p.length ≤ 6 ∧ t ≤ 6 ∧ d ≤ 36) ∧ h.1 41 8 = nI p.length ∧ h.1 41 9 = nI t ∧ h.1 41 10 = nI d ∧ ∀ k, k < p.length → h.1 43 k = nI (gp p k)
def PH (pre : List Nat) (h : Hp) : Prop := ∀ k, k < pre.length → h.1 42 k = nI (gp pre k)
def FrQ (h h' : Hp) : Prop := h'.2 = h.2 ∧ ∀ x y, x ≠ 41 → x ≠ 42 → x ≠ 43 → h'.1 x y = h.1 x y
theorem FrQ.rf (h : Hp) : FrQ h h := ⟨rfl, fun _ _ _ _ _ => rfl⟩
theorem FrQ.tr {h h1 h2 : Hp} (p : FrQ h h1) (q : FrQ h1 h2) : FrQ h h2 := ⟨q.1.trans p.1, fun x y a b c => (q.2 x y a b c).trans (p.2 x y a b c)⟩
theorem FrQ.sQ (h : Hp) (q : Qs) : FrQ h (setQ h q) := ⟨rfl, fun _ _ a _ _ => sQ_ne a⟩
theorem RC.fq {a : Nat → Nat} {h h' : Hp} (hR : RC a h) (f : FrQ h h') : RC a h' := hR.to (fun x y z => f.2 x y (by have := z.2.1; omega) (by have := z.2.1; omega) (by have := z.2.1; omega))
theorem BC.to {b : Bst} {h h' : Hp} (hB : BC b h) (e : ∀ y, 7 ≤ y → h'.1 41 y = h.1 41 y) (e2 : ∀ y, h'.1 43 y = h.1 43 y) : BC b h' := by
  cases b with
  | none => exact (e 7 (by decide)).trans hB
  | some b =>
    obtain ⟨t, d, p⟩ := b
    obtain ⟨b1, b2, b3, b4, b5, b6⟩ := hB
    exact ⟨(e 7 (by decide)).trans b1, b2, (e 8 (by decide)).trans b3, (e 9 (by decide)).trans b4, (e 10 (by decide)).trans b5, fun k hk => (e2 k).trans (b6 k hk)⟩
def oS (a : Nat → Nat) (s : Nat) : Nat := 2 ^ a 0 - 1 - s
theorem oS_tk : ∀ n, n ≤ 6 → ∀ s, s < 2 ^ n → ∀ i, i < n → ¬ s.testBit i = true → 2 ^ n - 1 - (s ||| 2 ^ i) = clrN (2 ^ n - 1 - s) i ∧ pop (2 ^ n - 1 - s) = pop (2 ^ n - 1 - (s ||| 2 ^ i)) + 1 := by decide +kernel
theorem oS_0 : ∀ n, n ≤ 6 → ∀ s, s < 2 ^ n → (pop (2 ^ n - 1 - s) = 0 ↔ s = 2 ^ n - 1) := by decide +kernel
def isBtr (t d bt bd : Nat) : Prop := t < bt ∨ (t = bt ∧ d < bd)
def kpH (h : Hp) (n t d : Nat) : Hp := ucp (ui (ui (ui (ui h 41 7 (nI 1)) 41 8 (nI n)) 41 9 (nI t)) 41 10 (nI d)) 42 0 43 0 n
theorem sQ_put (h : Hp) (s l t d : Nat) : ui (ui (ui (ui h 41 3 (nI s)) 41 4 (nI l)) 41 5 (nI t)) 41 6 (nI d) = setQ h (s, l, t, d) := hp_ext (fun x y => by
  by_cases e : x = 41
  · subst e
    by_cases e3 : y = 3
    · subst e3; rfl
    · by_cases e4 : y = 4
      · subst e4; rfl
      · by_cases e5 : y = 5
        · subst e5; rfl
        · by_cases e6 : y = 6
          · subst e6; rfl
          · simp [setQ, ui, e3, e4, e5, e6]
  · simp [setQ, ui, e]) (fun _ _ => rfl)

set_option maxRecDepth 20000 in
theorem c_X4_isBetter {bt bd qs ql qt qd : Nat} {h : Hp} (hq : QH (qs, ql, qt, qd) h) (hb9 : h.1 41 9 = nI bt) (hb10 : h.1 41 10 = nI bd) (b1 : qt < 1000) (b2 : qd < 1000) (b3 : bt < 1000) (b4 : bd < 1000) : CT 1 yX4_isBetter cX4_isBetter 1 (some .boolean) [.ref 41] h (some (.int (bi (qt < bt ∨ (qt = bt ∧ qd < bd))))) (h) := by
  refine CT.of (own := RX4) rfl (by decide) (ro_z _) [.ref 41] rfl (Nat.le_of_ble_eq_true rfl) (fun E hp => ?_)
  refine s_aload_n (pc := 0) 0 rfl rfl dX4_isBetter_0 ?_
  refine s_getiE (pc := 1) fl_X4_25 rfl rfl (show _ = nI qt from hq.2.2.1) dX4_isBetter_1 ?_
  refine s_aload_n (pc := 4) 0 rfl rfl dX4_isBetter_4 ?_
  refine s_getiE (pc := 5) fl_X4_38 rfl rfl hb9 dX4_isBetter_5 ?_
  refine s_icmp_ltN (pc := 8) (by omega) (by omega) 33 dX4_isBetter_8 (by decide) (fun c_8 => ?_) (fun c_8 => ?_)
  · refine s_iconst (pc := 33) (k_i1N) dX4_isBetter_33 ?_
    refine s_goto (pc := 34) 38 dX4_isBetter_34 (by decide) ?_
    refine s_iret (pc := 38) dX4_isBetter_38 (PostE.of hp ?_ ?_)
    · first | exact ret_t rfl (by omega) | exact ret_f rfl (by omega)
    · rfl
  · refine s_aload_n (pc := 11) 0 rfl rfl dX4_isBetter_11 ?_
    refine s_getiE (pc := 12) fl_X4_25 rfl rfl (show _ = nI qt from hq.2.2.1) dX4_isBetter_12 ?_
    refine s_aload_n (pc := 15) 0 rfl rfl dX4_isBetter_15 ?_
    refine s_getiE (pc := 16) fl_X4_38 rfl rfl hb9 dX4_isBetter_16 ?_
    refine s_icmp_neN (pc := 19) (by omega) (by omega) 37 dX4_isBetter_19 (by decide) (fun c_19 => ?_) (fun c_19 => ?_)
    · refine s_iconst (pc := 37) (k_i0N) dX4_isBetter_37 ?_
      refine s_iret (pc := 38) dX4_isBetter_38 (PostE.of hp ?_ ?_)
      · first | exact ret_t rfl (by omega) | exact ret_f rfl (by omega)
      · rfl
    · refine s_aload_n (pc := 22) 0 rfl rfl dX4_isBetter_22 ?_
      refine s_getiE (pc := 23) fl_X4_28 rfl rfl (show _ = nI qd from hq.2.2.2) dX4_isBetter_23 ?_
      refine s_aload_n (pc := 26) 0 rfl rfl dX4_isBetter_26 ?_
      refine s_getiE (pc := 27) fl_X4_41 rfl rfl hb10 dX4_isBetter_27 ?_
      refine s_icmp_geN (pc := 30) (by omega) (by omega) 37 dX4_isBetter_30 (by decide) (fun c_30 => ?_) (fun c_30 => ?_)
      · refine s_iconst (pc := 37) (k_i0N) dX4_isBetter_37 ?_
        refine s_iret (pc := 38) dX4_isBetter_38 (PostE.of hp ?_ ?_)
        · first | exact ret_t rfl (by omega) | exact ret_f rfl (by omega)
        · rfl
      · refine s_iconst (pc := 33) (k_i1N) dX4_isBetter_33 ?_
        refine s_goto (pc := 34) 38 dX4_isBetter_34 (by decide) ?_
        refine s_iret (pc := 38) dX4_isBetter_38 (PostE.of hp ?_ ?_)
        · first | exact ret_t rfl (by omega) | exact ret_f rfl (by omega)
        · rfl

set_option maxRecDepth 20000 in
theorem c_X4_keepPath {n : Nat} {qs ql qt qd : Nat} {h : Hp} (hq : QH (qs, ql, qt, qd) h) (hn : n ≤ 6) : CT 1 yX4_keepPath cX4_keepPath 2 none [.ref 41, .int (nI n)] h (none) (kpH h n qt qd) := by
  refine CT.of (own := RX4) rfl (by decide) ro_v [.ref 41, .int (nI n)] rfl (Nat.le_of_ble_eq_true rfl) (fun E hp => ?_)
  refine s_aload_n (pc := 0) 0 rfl rfl dX4_keepPath_0 ?_
  refine s_iconst (pc := 1) (k_i1N) dX4_keepPath_1 ?_
  refine s_putz (pc := 2) ⟨by rfl, by rfl⟩ fl_X4_31 fw_4_7 rfl rfl dX4_keepPath_2 ?_
  refine s_aload_n (pc := 5) 0 rfl rfl dX4_keepPath_5 ?_
  refine s_iload_n (pc := 6) 1 rfl rfl dX4_keepPath_6 ?_
  refine s_puti (pc := 7) fl_X4_35 fw_4_8 rfl rfl dX4_keepPath_7 ?_
  refine s_aload_n (pc := 10) 0 rfl rfl dX4_keepPath_10 ?_
  refine s_aload_n (pc := 11) 0 rfl rfl dX4_keepPath_11 ?_
  refine s_getiE (pc := 12) fl_X4_25 rfl rfl (show _ = nI qt from hq.2.2.1) dX4_keepPath_12 ?_
  refine s_puti (pc := 15) fl_X4_38 fw_4_9 rfl rfl dX4_keepPath_15 ?_
  refine s_aload_n (pc := 18) 0 rfl rfl dX4_keepPath_18 ?_
  refine s_aload_n (pc := 19) 0 rfl rfl dX4_keepPath_19 ?_
  refine s_getiE (pc := 20) fl_X4_28 rfl rfl (show _ = nI qd from hq.2.2.2) dX4_keepPath_20 ?_
  refine s_puti (pc := 23) fl_X4_41 fw_4_10 rfl rfl dX4_keepPath_23 ?_
  refine s_aload_n (pc := 26) 0 rfl rfl dX4_keepPath_26 ?_
  refine s_getr (pc := 27) (b := 42) fl_X4_9 rfl rfl rfl dX4_keepPath_27 ?_
  refine s_iconst (pc := 30) (k_i0N) dX4_keepPath_30 ?_
  refine s_aload_n (pc := 31) 0 rfl rfl dX4_keepPath_31 ?_
  refine s_getr (pc := 32) (b := 43) fl_X4_15 rfl rfl rfl dX4_keepPath_32 ?_
  refine s_iconst (pc := 35) (k_i0N) dX4_keepPath_35 ?_
  refine s_iload_n (pc := 36) 1 rfl rfl dX4_keepPath_36 ?_
  refine s_acopy (pc := 37) (0) (0) (n) rfl rfl rfl rfl rfl (by omega) (by omega) ml_X4_95 lm_cp.1 lm_cp.2.1 lm_cp.2.2 (by decide) (Nat.le_of_ble_eq_true rfl) dX4_keepPath_37 ?_
  refine s_vret (pc := 40) dX4_keepPath_40 (PostE.of hp ?_ ?_)
  · rfl
  · rfl

set_option maxRecDepth 20000 in
theorem c_X4_sbT {D n i qs ql qt qd : Nat} {h h2 h3 : Hp} (hq : QH (qs, ql, qt, qd) h) (hn : n < 6) (hD : 2 ≤ D) (hT : CT 2 yX4_takes cX4_takes 4 (some .boolean) [.ref 41, .int (nI i)] (ui h 42 n (nI i)) (some (.int (bi True))) h2) (hS : CT D yX4_seek cX4_seek 3 none [.ref 41, .int (nI (n + 1))] h2 none h3) : CT (D + 1) yX4_seekBehind cX4_seekBehind 7 none [.ref 41, .int (nI i), .int (nI n)] h (none) (setQ h3 (qs, ql, qt, qd)) := by
  refine CT.of (own := RX4) rfl (by decide) ro_v [.ref 41, .int (nI i), .int (nI n), .null, .null, .null, .null] rfl (Nat.le_of_ble_eq_true rfl) (fun E hp => ?_)
  refine s_iload_n (pc := 0) 2 rfl rfl dX4_seekBehind_0 ?_
  refine s_bipush (pc := 1) (k_b6N) dX4_seekBehind_1 ?_
  refine s_icmp_ltN (pc := 3) (by omega) (by omega) 7 dX4_seekBehind_3 (by decide) (fun c_3 => ?_) (fun c_3 => ?_)
  · refine s_aload_n (pc := 7) 0 rfl rfl dX4_seekBehind_7 ?_
    refine s_getiE (pc := 8) fl_X4_18 rfl rfl (show _ = nI qs from hq.1) dX4_seekBehind_8 ?_
    refine s_istore_n (pc := 11) 3 rfl (by decide) rfl dX4_seekBehind_11 ?_
    refine s_aload_n (pc := 12) 0 rfl rfl dX4_seekBehind_12 ?_
    refine s_getiE (pc := 13) fl_X4_22 rfl rfl (show _ = nI ql from hq.2.1) dX4_seekBehind_13 ?_
    refine s_istore (pc := 16) (by decide) rfl dX4_seekBehind_16 ?_
    refine s_aload_n (pc := 18) 0 rfl rfl dX4_seekBehind_18 ?_
    refine s_getiE (pc := 19) fl_X4_25 rfl rfl (show _ = nI qt from hq.2.2.1) dX4_seekBehind_19 ?_
    refine s_istore (pc := 22) (by decide) rfl dX4_seekBehind_22 ?_
    refine s_aload_n (pc := 24) 0 rfl rfl dX4_seekBehind_24 ?_
    refine s_getiE (pc := 25) fl_X4_28 rfl rfl (show _ = nI qd from hq.2.2.2) dX4_seekBehind_25 ?_
    refine s_istore (pc := 28) (by decide) rfl dX4_seekBehind_28 ?_
    refine s_aload_n (pc := 30) 0 rfl rfl dX4_seekBehind_30 ?_
    refine s_getr (pc := 31) (b := 42) fl_X4_9 rfl rfl rfl dX4_seekBehind_31 ?_
    refine s_iload_n (pc := 34) 2 rfl rfl dX4_seekBehind_34 ?_
    refine s_iload_n (pc := 35) 1 rfl rfl dX4_seekBehind_35 ?_
    refine s_iast (pc := 36) (_) rfl rfl (by omega) dX4_seekBehind_36 ?_
    refine s_aload_n (pc := 37) 0 rfl rfl dX4_seekBehind_37 ?_
    refine s_iload_n (pc := 38) 1 rfl rfl dX4_seekBehind_38 ?_
    refine s_cvi1 (pc := 39) (hT) ml_X4_91 mw_X4_takes rfl (by omega) (Nat.le_of_ble_eq_true rfl) dX4_seekBehind_39 ?_
    refine s_if_eqT (pc := 42) 52 dX4_seekBehind_42 (by decide) ?_
    refine s_aload_n (pc := 45) 0 rfl rfl dX4_seekBehind_45 ?_
    refine s_iload_n (pc := 46) 2 rfl rfl dX4_seekBehind_46 ?_
    refine s_iconst (pc := 47) (k_i1N) dX4_seekBehind_47 ?_
    refine s_iaddN (pc := 48) dX4_seekBehind_48 ?_
    refine s_cvn1 (pc := 49) (hS) ml_X4_73 mw_X4_seek rfl (by omega) (Nat.le_of_ble_eq_true rfl) dX4_seekBehind_49 ?_
    refine s_aload_n (pc := 52) 0 rfl rfl dX4_seekBehind_52 ?_
    refine s_iload_n (pc := 53) 3 rfl rfl dX4_seekBehind_53 ?_
    refine s_puti (pc := 54) fl_X4_18 fw_4_3 rfl rfl dX4_seekBehind_54 ?_
    refine s_aload_n (pc := 57) 0 rfl rfl dX4_seekBehind_57 ?_
    refine s_iload (pc := 58) rfl dX4_seekBehind_58 ?_
    refine s_puti (pc := 60) fl_X4_22 fw_4_4 rfl rfl dX4_seekBehind_60 ?_
    refine s_aload_n (pc := 63) 0 rfl rfl dX4_seekBehind_63 ?_
    refine s_iload (pc := 64) rfl dX4_seekBehind_64 ?_
    refine s_puti (pc := 66) fl_X4_25 fw_4_5 rfl rfl dX4_seekBehind_66 ?_
    refine s_aload_n (pc := 69) 0 rfl rfl dX4_seekBehind_69 ?_
    refine s_iload (pc := 70) rfl dX4_seekBehind_70 ?_
    refine s_puti (pc := 72) fl_X4_28 fw_4_6 rfl rfl dX4_seekBehind_72 ?_
    refine s_vret (pc := 75) dX4_seekBehind_75 (PostE.of hp ?_ ?_)
    · rfl
    · exact sQ_put _ _ _ _ _
  · exfalso; omega

set_option maxRecDepth 20000 in
theorem c_X4_sbF {D n i qs ql qt qd : Nat} {h h2 : Hp} (hq : QH (qs, ql, qt, qd) h) (hn : n < 6) (hD : 2 ≤ D) (hT : CT 2 yX4_takes cX4_takes 4 (some .boolean) [.ref 41, .int (nI i)] (ui h 42 n (nI i)) (some (.int (bi False))) h2) : CT (D + 1) yX4_seekBehind cX4_seekBehind 7 none [.ref 41, .int (nI i), .int (nI n)] h (none) (setQ h2 (qs, ql, qt, qd)) := by
  refine CT.of (own := RX4) rfl (by decide) ro_v [.ref 41, .int (nI i), .int (nI n), .null, .null, .null, .null] rfl (Nat.le_of_ble_eq_true rfl) (fun E hp => ?_)
  refine s_iload_n (pc := 0) 2 rfl rfl dX4_seekBehind_0 ?_
  refine s_bipush (pc := 1) (k_b6N) dX4_seekBehind_1 ?_
  refine s_icmp_ltN (pc := 3) (by omega) (by omega) 7 dX4_seekBehind_3 (by decide) (fun c_3 => ?_) (fun c_3 => ?_)
  · refine s_aload_n (pc := 7) 0 rfl rfl dX4_seekBehind_7 ?_
    refine s_getiE (pc := 8) fl_X4_18 rfl rfl (show _ = nI qs from hq.1) dX4_seekBehind_8 ?_
    refine s_istore_n (pc := 11) 3 rfl (by decide) rfl dX4_seekBehind_11 ?_
    refine s_aload_n (pc := 12) 0 rfl rfl dX4_seekBehind_12 ?_
    refine s_getiE (pc := 13) fl_X4_22 rfl rfl (show _ = nI ql from hq.2.1) dX4_seekBehind_13 ?_
    refine s_istore (pc := 16) (by decide) rfl dX4_seekBehind_16 ?_
    refine s_aload_n (pc := 18) 0 rfl rfl dX4_seekBehind_18 ?_
    refine s_getiE (pc := 19) fl_X4_25 rfl rfl (show _ = nI qt from hq.2.2.1) dX4_seekBehind_19 ?_
    refine s_istore (pc := 22) (by decide) rfl dX4_seekBehind_22 ?_
    refine s_aload_n (pc := 24) 0 rfl rfl dX4_seekBehind_24 ?_
    refine s_getiE (pc := 25) fl_X4_28 rfl rfl (show _ = nI qd from hq.2.2.2) dX4_seekBehind_25 ?_
    refine s_istore (pc := 28) (by decide) rfl dX4_seekBehind_28 ?_
    refine s_aload_n (pc := 30) 0 rfl rfl dX4_seekBehind_30 ?_
    refine s_getr (pc := 31) (b := 42) fl_X4_9 rfl rfl rfl dX4_seekBehind_31 ?_
    refine s_iload_n (pc := 34) 2 rfl rfl dX4_seekBehind_34 ?_
    refine s_iload_n (pc := 35) 1 rfl rfl dX4_seekBehind_35 ?_
    refine s_iast (pc := 36) (_) rfl rfl (by omega) dX4_seekBehind_36 ?_
    refine s_aload_n (pc := 37) 0 rfl rfl dX4_seekBehind_37 ?_
    refine s_iload_n (pc := 38) 1 rfl rfl dX4_seekBehind_38 ?_
    refine s_cvi1 (pc := 39) (hT) ml_X4_91 mw_X4_takes rfl (by omega) (Nat.le_of_ble_eq_true rfl) dX4_seekBehind_39 ?_
    refine s_if_eqF (pc := 42) 52 dX4_seekBehind_42 (by decide) ?_
    refine s_aload_n (pc := 52) 0 rfl rfl dX4_seekBehind_52 ?_
    refine s_iload_n (pc := 53) 3 rfl rfl dX4_seekBehind_53 ?_
    refine s_puti (pc := 54) fl_X4_18 fw_4_3 rfl rfl dX4_seekBehind_54 ?_
    refine s_aload_n (pc := 57) 0 rfl rfl dX4_seekBehind_57 ?_
    refine s_iload (pc := 58) rfl dX4_seekBehind_58 ?_
    refine s_puti (pc := 60) fl_X4_22 fw_4_4 rfl rfl dX4_seekBehind_60 ?_
    refine s_aload_n (pc := 63) 0 rfl rfl dX4_seekBehind_63 ?_
    refine s_iload (pc := 64) rfl dX4_seekBehind_64 ?_
    refine s_puti (pc := 66) fl_X4_25 fw_4_5 rfl rfl dX4_seekBehind_66 ?_
    refine s_aload_n (pc := 69) 0 rfl rfl dX4_seekBehind_69 ?_
    refine s_iload (pc := 70) rfl dX4_seekBehind_70 ?_
    refine s_puti (pc := 72) fl_X4_28 fw_4_6 rfl rfl dX4_seekBehind_72 ?_
    refine s_vret (pc := 75) dX4_seekBehind_75 (PostE.of hp ?_ ?_)
    · rfl
    · exact sQ_put _ _ _ _ _
  · exfalso; omega

set_option maxRecDepth 20000 in
theorem c_X4_skP {D n qs ql qt qd bt bd : Nat} {a : Nat → Nat} {h : Hp} (hR : RC a h) (hO : OkA a) (hq : QH (qs, ql, qt, qd) h) (hn : n ≤ 6) (hb7 : h.1 41 7 = nI 1) (hb9 : h.1 41 9 = nI bt) (hb10 : h.1 41 10 = nI bd) (b1 : qt < 1000) (b2 : qd < 1000) (b3 : bt < 1000) (b4 : bd < 1000) (hb : ¬ (qt < bt ∨ (qt = bt ∧ qd < bd))) : CT (D + 2) yX4_seek cX4_seek 3 none [.ref 41, .int (nI n)] h (none) (h) := by
  refine CT.of (own := RX4) rfl (by decide) ro_v [.ref 41, .int (nI n), .null] rfl (Nat.le_of_ble_eq_true rfl) (fun E hp => ?_)
  refine s_iload_n (pc := 0) 1 rfl rfl dX4_seek_0 ?_
  refine s_if_ltN (pc := 1) (by omega) 24 dX4_seek_1 (by decide) ?_
  refine s_iload_n (pc := 4) 1 rfl rfl dX4_seek_4 ?_
  refine s_bipush (pc := 5) (k_b6N) dX4_seek_5 ?_
  refine s_icmp_gtN (pc := 7) (by omega) (by omega) 24 dX4_seek_7 (by decide) (fun c_7 => ?_) (fun c_7 => ?_)
  · exfalso; omega
  · refine s_aload_n (pc := 10) 0 rfl rfl dX4_seek_10 ?_
    refine s_getzE (pc := 11) fl_X4_31 rfl rfl hb7 dX4_seek_11 ?_
    refine s_if_eqN (pc := 14) (by omega) 25 dX4_seek_14 (by decide) (fun c_14 => ?_) (fun c_14 => ?_)
    · exfalso; omega
    · refine s_aload_n (pc := 17) 0 rfl rfl dX4_seek_17 ?_
      refine s_cvi0 (pc := 18) (c_X4_isBetter hq hb9 hb10 b1 b2 b3 b4) ml_X4_77 mw_X4_isBetter rfl (by omega) (Nat.le_of_ble_eq_true rfl) dX4_seek_18 ?_
      refine s_if_neB (pc := 21) 25 dX4_seek_21 (by decide) (fun c_21 => ?_) (fun c_21 => ?_)
      · exfalso; omega
      · refine s_vret (pc := 24) dX4_seek_24 (PostE.of hp ?_ ?_)
        · rfl
        · rfl

set_option maxRecDepth 20000 in
theorem c_X4_skL1 {D n qs ql qt qd bt bd : Nat} {a : Nat → Nat} {h : Hp} (hR : RC a h) (hO : OkA a) (hq : QH (qs, ql, qt, qd) h) (hn : n ≤ 6) (hb7 : h.1 41 7 = nI 1) (hb9 : h.1 41 9 = nI bt) (hb10 : h.1 41 10 = nI bd) (b1 : qt < 1000) (b2 : qd < 1000) (b3 : bt < 1000) (b4 : bd < 1000) (hb : qt < bt ∨ (qt = bt ∧ qd < bd)) (hs : qs = 2 ^ a 0 - 1) : CT (D + 2) yX4_seek cX4_seek 3 none [.ref 41, .int (nI n)] h (none) (kpH h n qt qd) := by
  obtain ⟨⟨o0, o1, o2, o3, o4, o5, o6⟩, os⟩ := id hO
  have o64 := hO.in64
  have hC := hR.1
  obtain ⟨⟨r0, r1, r2, r4, r5, r6⟩, rs, P, rp, rP, rt⟩ := id hC
  have rg := hR.2
  have p1 : 1 ≤ 2 ^ a 0 := Nat.one_le_two_pow
  have p2 : 2 ^ a 0 ≤ 2 ^ 6 := Nat.pow_le_pow_right (by decide) o0
  refine CT.of (own := RX4) rfl (by decide) ro_v [.ref 41, .int (nI n), .null] rfl (Nat.le_of_ble_eq_true rfl) (fun E hp => ?_)
  refine s_iload_n (pc := 0) 1 rfl rfl dX4_seek_0 ?_
  refine s_if_ltN (pc := 1) (by omega) 24 dX4_seek_1 (by decide) ?_
  refine s_iload_n (pc := 4) 1 rfl rfl dX4_seek_4 ?_
  refine s_bipush (pc := 5) (k_b6N) dX4_seek_5 ?_
  refine s_icmp_gtN (pc := 7) (by omega) (by omega) 24 dX4_seek_7 (by decide) (fun c_7 => ?_) (fun c_7 => ?_)
  · exfalso; omega
  · refine s_aload_n (pc := 10) 0 rfl rfl dX4_seek_10 ?_
    refine s_getzE (pc := 11) fl_X4_31 rfl rfl hb7 dX4_seek_11 ?_
    refine s_if_eqN (pc := 14) (by omega) 25 dX4_seek_14 (by decide) (fun c_14 => ?_) (fun c_14 => ?_)
    · exfalso; omega
    · refine s_aload_n (pc := 17) 0 rfl rfl dX4_seek_17 ?_
      refine s_cvi0 (pc := 18) (c_X4_isBetter hq hb9 hb10 b1 b2 b3 b4) ml_X4_77 mw_X4_isBetter rfl (by omega) (Nat.le_of_ble_eq_true rfl) dX4_seek_18 ?_
      refine s_if_neB (pc := 21) 25 dX4_seek_21 (by decide) (fun c_21 => ?_) (fun c_21 => ?_)
      · refine s_aload_n (pc := 25) 0 rfl rfl dX4_seek_25 ?_
        refine s_getiE (pc := 26) fl_X4_18 rfl rfl (show _ = nI qs from hq.1) dX4_seek_26 ?_
        refine s_iconst (pc := 29) (k_i1N) dX4_seek_29 ?_
        refine s_aload_n (pc := 30) 0 rfl rfl dX4_seek_30 ?_
        refine s_getr (pc := 31) (b := 23) fl_X4_44 rfl rfl rfl dX4_seek_31 ?_
        refine s_getr (pc := 34) (b := 24) fl_X4_61 rfl rfl rfl dX4_seek_34 ?_
        refine s_getiE (pc := 37) fl_X4_81 rfl rfl r0 dX4_seek_37 ?_
        refine s_ishl1N (pc := 40) (by omega) dX4_seek_40 ?_
        refine s_iconst (pc := 41) (k_i1N) dX4_seek_41 ?_
        refine s_isubN (pc := 42) (by omega) dX4_seek_42 ?_
        refine s_icmp_neN (pc := 43) (by omega) (by omega) 52 dX4_seek_43 (by decide) (fun c_43 => ?_) (fun c_43 => ?_)
        · exfalso; omega
        · refine s_aload_n (pc := 46) 0 rfl rfl dX4_seek_46 ?_
          refine s_iload_n (pc := 47) 1 rfl rfl dX4_seek_47 ?_
          refine s_cvn1 (pc := 48) (c_X4_keepPath hq hn) ml_X4_84 mw_X4_keepPath rfl (by omega) (Nat.le_of_ble_eq_true rfl) dX4_seek_48 ?_
          refine s_vret (pc := 51) dX4_seek_51 (PostE.of hp ?_ ?_)
          · rfl
          · rfl
      · exfalso; omega

set_option maxRecDepth 20000 in
theorem c_X4_skL0 {D n qs ql qt qd : Nat} {a : Nat → Nat} {h : Hp} (hR : RC a h) (hO : OkA a) (hq : QH (qs, ql, qt, qd) h) (hn : n ≤ 6) (hb7 : h.1 41 7 = nI 0) (hs : qs = 2 ^ a 0 - 1) : CT (D + 2) yX4_seek cX4_seek 3 none [.ref 41, .int (nI n)] h (none) (kpH h n qt qd) := by
  obtain ⟨⟨o0, o1, o2, o3, o4, o5, o6⟩, os⟩ := id hO
  have o64 := hO.in64
  have hC := hR.1
  obtain ⟨⟨r0, r1, r2, r4, r5, r6⟩, rs, P, rp, rP, rt⟩ := id hC
  have rg := hR.2
  have p1 : 1 ≤ 2 ^ a 0 := Nat.one_le_two_pow
  have p2 : 2 ^ a 0 ≤ 2 ^ 6 := Nat.pow_le_pow_right (by decide) o0
  refine CT.of (own := RX4) rfl (by decide) ro_v [.ref 41, .int (nI n), .null] rfl (Nat.le_of_ble_eq_true rfl) (fun E hp => ?_)
  refine s_iload_n (pc := 0) 1 rfl rfl dX4_seek_0 ?_
  refine s_if_ltN (pc := 1) (by omega) 24 dX4_seek_1 (by decide) ?_
  refine s_iload_n (pc := 4) 1 rfl rfl dX4_seek_4 ?_
  refine s_bipush (pc := 5) (k_b6N) dX4_seek_5 ?_
  refine s_icmp_gtN (pc := 7) (by omega) (by omega) 24 dX4_seek_7 (by decide) (fun c_7 => ?_) (fun c_7 => ?_)
  · exfalso; omega
  · refine s_aload_n (pc := 10) 0 rfl rfl dX4_seek_10 ?_
    refine s_getzE (pc := 11) fl_X4_31 rfl rfl hb7 dX4_seek_11 ?_
    refine s_if_eqN (pc := 14) (by omega) 25 dX4_seek_14 (by decide) (fun c_14 => ?_) (fun c_14 => ?_)
    · refine s_aload_n (pc := 25) 0 rfl rfl dX4_seek_25 ?_
      refine s_getiE (pc := 26) fl_X4_18 rfl rfl (show _ = nI qs from hq.1) dX4_seek_26 ?_
      refine s_iconst (pc := 29) (k_i1N) dX4_seek_29 ?_
      refine s_aload_n (pc := 30) 0 rfl rfl dX4_seek_30 ?_
      refine s_getr (pc := 31) (b := 23) fl_X4_44 rfl rfl rfl dX4_seek_31 ?_
      refine s_getr (pc := 34) (b := 24) fl_X4_61 rfl rfl rfl dX4_seek_34 ?_
      refine s_getiE (pc := 37) fl_X4_81 rfl rfl r0 dX4_seek_37 ?_
      refine s_ishl1N (pc := 40) (by omega) dX4_seek_40 ?_
      refine s_iconst (pc := 41) (k_i1N) dX4_seek_41 ?_
      refine s_isubN (pc := 42) (by omega) dX4_seek_42 ?_
      refine s_icmp_neN (pc := 43) (by omega) (by omega) 52 dX4_seek_43 (by decide) (fun c_43 => ?_) (fun c_43 => ?_)
      · exfalso; omega
      · refine s_aload_n (pc := 46) 0 rfl rfl dX4_seek_46 ?_
        refine s_iload_n (pc := 47) 1 rfl rfl dX4_seek_47 ?_
        refine s_cvn1 (pc := 48) (c_X4_keepPath hq hn) ml_X4_84 mw_X4_keepPath rfl (by omega) (Nat.le_of_ble_eq_true rfl) dX4_seek_48 ?_
        refine s_vret (pc := 51) dX4_seek_51 (PostE.of hp ?_ ?_)
        · rfl
        · rfl
    · exfalso; omega

set_option maxRecDepth 20000 in
theorem sk_n1 {E : Cx} {D n qs ql qt qd bt bd : Nat} {a : Nat → Nat} {h : Hp} (hR : RC a h) (hO : OkA a) (hq : QH (qs, ql, qt, qd) h) (hn : n ≤ 6) (hb7 : h.1 41 7 = nI 1) (hb9 : h.1 41 9 = nI bt) (hb10 : h.1 41 10 = nI bd) (b1 : qt < 1000) (b2 : qd < 1000) (b3 : bt < 1000) (b4 : bd < 1000) (hb : qt < bt ∨ (qt = bt ∧ qd < bd)) (hl : qs < 64) (hs : ¬ qs = 2 ^ a 0 - 1) (k : WW E cX4_seek RX4 3 (D + 2) 54 [.ref 41, .int (nI n), .int (nI 0)] (h) []) : WW E cX4_seek RX4 3 (D + 2) 0 [.ref 41, .int (nI n), .null] (h) [] := by
  obtain ⟨⟨o0, o1, o2, o3, o4, o5, o6⟩, os⟩ := id hO
  have o64 := hO.in64
  have hC := hR.1
  obtain ⟨⟨r0, r1, r2, r4, r5, r6⟩, rs, P, rp, rP, rt⟩ := id hC
  have rg := hR.2
  have p1 : 1 ≤ 2 ^ a 0 := Nat.one_le_two_pow
  have p2 : 2 ^ a 0 ≤ 2 ^ 6 := Nat.pow_le_pow_right (by decide) o0
  refine s_iload_n (pc := 0) 1 rfl rfl dX4_seek_0 ?_
  refine s_if_ltN (pc := 1) (by omega) 24 dX4_seek_1 (by decide) ?_
  refine s_iload_n (pc := 4) 1 rfl rfl dX4_seek_4 ?_
  refine s_bipush (pc := 5) (k_b6N) dX4_seek_5 ?_
  refine s_icmp_gtN (pc := 7) (by omega) (by omega) 24 dX4_seek_7 (by decide) (fun c_7 => ?_) (fun c_7 => ?_)
  · exfalso; omega
  · refine s_aload_n (pc := 10) 0 rfl rfl dX4_seek_10 ?_
    refine s_getzE (pc := 11) fl_X4_31 rfl rfl hb7 dX4_seek_11 ?_
    refine s_if_eqN (pc := 14) (by omega) 25 dX4_seek_14 (by decide) (fun c_14 => ?_) (fun c_14 => ?_)
    · exfalso; omega
    · refine s_aload_n (pc := 17) 0 rfl rfl dX4_seek_17 ?_
      refine s_cvi0 (pc := 18) (c_X4_isBetter hq hb9 hb10 b1 b2 b3 b4) ml_X4_77 mw_X4_isBetter rfl (by omega) (Nat.le_of_ble_eq_true rfl) dX4_seek_18 ?_
      refine s_if_neB (pc := 21) 25 dX4_seek_21 (by decide) (fun c_21 => ?_) (fun c_21 => ?_)
      · refine s_aload_n (pc := 25) 0 rfl rfl dX4_seek_25 ?_
        refine s_getiE (pc := 26) fl_X4_18 rfl rfl (show _ = nI qs from hq.1) dX4_seek_26 ?_
        refine s_iconst (pc := 29) (k_i1N) dX4_seek_29 ?_
        refine s_aload_n (pc := 30) 0 rfl rfl dX4_seek_30 ?_
        refine s_getr (pc := 31) (b := 23) fl_X4_44 rfl rfl rfl dX4_seek_31 ?_
        refine s_getr (pc := 34) (b := 24) fl_X4_61 rfl rfl rfl dX4_seek_34 ?_
        refine s_getiE (pc := 37) fl_X4_81 rfl rfl r0 dX4_seek_37 ?_
        refine s_ishl1N (pc := 40) (by omega) dX4_seek_40 ?_
        refine s_iconst (pc := 41) (k_i1N) dX4_seek_41 ?_
        refine s_isubN (pc := 42) (by omega) dX4_seek_42 ?_
        refine s_icmp_neN (pc := 43) (by omega) (by omega) 52 dX4_seek_43 (by decide) (fun c_43 => ?_) (fun c_43 => ?_)
        · refine s_iconst (pc := 52) (k_i0N) dX4_seek_52 ?_
          refine s_istore_n (pc := 53) 2 rfl (by decide) rfl dX4_seek_53 ?_
          exact k
        · exfalso; omega
      · exfalso; omega

set_option maxRecDepth 20000 in
theorem sk_n0 {E : Cx} {D n qs ql qt qd : Nat} {a : Nat → Nat} {h : Hp} (hR : RC a h) (hO : OkA a) (hq : QH (qs, ql, qt, qd) h) (hn : n ≤ 6) (hb7 : h.1 41 7 = nI 0) (hl : qs < 64) (hs : ¬ qs = 2 ^ a 0 - 1) (k : WW E cX4_seek RX4 3 (D + 2) 54 [.ref 41, .int (nI n), .int (nI 0)] (h) []) : WW E cX4_seek RX4 3 (D + 2) 0 [.ref 41, .int (nI n), .null] (h) [] := by
  obtain ⟨⟨o0, o1, o2, o3, o4, o5, o6⟩, os⟩ := id hO
  have o64 := hO.in64
  have hC := hR.1
  obtain ⟨⟨r0, r1, r2, r4, r5, r6⟩, rs, P, rp, rP, rt⟩ := id hC
  have rg := hR.2
  have p1 : 1 ≤ 2 ^ a 0 := Nat.one_le_two_pow
  have p2 : 2 ^ a 0 ≤ 2 ^ 6 := Nat.pow_le_pow_right (by decide) o0
  refine s_iload_n (pc := 0) 1 rfl rfl dX4_seek_0 ?_
  refine s_if_ltN (pc := 1) (by omega) 24 dX4_seek_1 (by decide) ?_
  refine s_iload_n (pc := 4) 1 rfl rfl dX4_seek_4 ?_
  refine s_bipush (pc := 5) (k_b6N) dX4_seek_5 ?_
  refine s_icmp_gtN (pc := 7) (by omega) (by omega) 24 dX4_seek_7 (by decide) (fun c_7 => ?_) (fun c_7 => ?_)
  · exfalso; omega
  · refine s_aload_n (pc := 10) 0 rfl rfl dX4_seek_10 ?_
    refine s_getzE (pc := 11) fl_X4_31 rfl rfl hb7 dX4_seek_11 ?_
    refine s_if_eqN (pc := 14) (by omega) 25 dX4_seek_14 (by decide) (fun c_14 => ?_) (fun c_14 => ?_)
    · refine s_aload_n (pc := 25) 0 rfl rfl dX4_seek_25 ?_
      refine s_getiE (pc := 26) fl_X4_18 rfl rfl (show _ = nI qs from hq.1) dX4_seek_26 ?_
      refine s_iconst (pc := 29) (k_i1N) dX4_seek_29 ?_
      refine s_aload_n (pc := 30) 0 rfl rfl dX4_seek_30 ?_
      refine s_getr (pc := 31) (b := 23) fl_X4_44 rfl rfl rfl dX4_seek_31 ?_
      refine s_getr (pc := 34) (b := 24) fl_X4_61 rfl rfl rfl dX4_seek_34 ?_
      refine s_getiE (pc := 37) fl_X4_81 rfl rfl r0 dX4_seek_37 ?_
      refine s_ishl1N (pc := 40) (by omega) dX4_seek_40 ?_
      refine s_iconst (pc := 41) (k_i1N) dX4_seek_41 ?_
      refine s_isubN (pc := 42) (by omega) dX4_seek_42 ?_
      refine s_icmp_neN (pc := 43) (by omega) (by omega) 52 dX4_seek_43 (by decide) (fun c_43 => ?_) (fun c_43 => ?_)
      · refine s_iconst (pc := 52) (k_i0N) dX4_seek_52 ?_
        refine s_istore_n (pc := 53) 2 rfl (by decide) rfl dX4_seek_53 ?_
        exact k
      · exfalso; omega
    · exfalso; omega

set_option maxRecDepth 20000 in
theorem sk_in {E : Cx} {D n i qs ql qt qd : Nat} {a : Nat → Nat} {h : Hp} (hR : RC a h) (hO : OkA a) (hq : QH (qs, ql, qt, qd) h) (hi : i < a 0) (hl : qs < 64) (hb : qs.testBit i = true) (k : WW E cX4_seek RX4 3 (D + 2) 54 [.ref 41, .int (nI n), .int (nI (i + 1))] (h) []) : WW E cX4_seek RX4 3 (D + 2) 54 [.ref 41, .int (nI n), .int (nI i)] (h) [] := by
  obtain ⟨⟨o0, o1, o2, o3, o4, o5, o6⟩, os⟩ := id hO
  have o64 := hO.in64
  have hC := hR.1
  obtain ⟨⟨r0, r1, r2, r4, r5, r6⟩, rs, P, rp, rP, rt⟩ := id hC
  have rg := hR.2
  have bb := (bit1_iff qs i).mpr hb
  refine s_iload_n (pc := 54) 2 rfl rfl dX4_seek_54 ?_
  refine s_aload_n (pc := 55) 0 rfl rfl dX4_seek_55 ?_
  refine s_getr (pc := 56) (b := 23) fl_X4_44 rfl rfl rfl dX4_seek_56 ?_
  refine s_getr (pc := 59) (b := 24) fl_X4_61 rfl rfl rfl dX4_seek_59 ?_
  refine s_getiE (pc := 62) fl_X4_81 rfl rfl r0 dX4_seek_62 ?_
  refine s_icmp_geN (pc := 65) (by omega) (by omega) 91 dX4_seek_65 (by decide) (fun c_65 => ?_) (fun c_65 => ?_)
  · exfalso; omega
  · refine s_aload_n (pc := 68) 0 rfl rfl dX4_seek_68 ?_
    refine s_getiE (pc := 69) fl_X4_18 rfl rfl (show _ = nI qs from hq.1) dX4_seek_69 ?_
    refine s_iload_n (pc := 72) 2 rfl rfl dX4_seek_72 ?_
    refine s_ishrN (pc := 73) (by omega) (by omega) dX4_seek_73 ?_
    refine s_iconst (pc := 74) (k_i1N) dX4_seek_74 ?_
    refine s_iandN (pc := 75) (div_lt31 (by omega) i) (by omega) dX4_seek_75 ?_
    refine s_if_neN (pc := 76) (by rw [bit1]; split <;> decide) 85 dX4_seek_76 (by decide) (fun c_76 => ?_) (fun c_76 => ?_)
    · refine s_iincN (pc := 85) rfl (by decide) rfl dX4_seek_85 ?_
      refine s_goto (pc := 88) 54 dX4_seek_88 (by decide) ?_
      exact k
    · exfalso; omega

set_option maxRecDepth 20000 in
theorem sk_out {h2 : Hp} {E : Cx} {D n i qs ql qt qd : Nat} {a : Nat → Nat} {h : Hp} (hR : RC a h) (hO : OkA a) (hq : QH (qs, ql, qt, qd) h) (hi : i < a 0) (hl : qs < 64) (hb : ¬ qs.testBit i = true) (hsb : CT (D + 1) yX4_seekBehind cX4_seekBehind 7 none [.ref 41, .int (nI i), .int (nI n)] h none h2) (k : WW E cX4_seek RX4 3 (D + 2) 54 [.ref 41, .int (nI n), .int (nI (i + 1))] (h2) []) : WW E cX4_seek RX4 3 (D + 2) 54 [.ref 41, .int (nI n), .int (nI i)] (h) [] := by
  obtain ⟨⟨o0, o1, o2, o3, o4, o5, o6⟩, os⟩ := id hO
  have o64 := hO.in64
  have hC := hR.1
  obtain ⟨⟨r0, r1, r2, r4, r5, r6⟩, rs, P, rp, rP, rt⟩ := id hC
  have rg := hR.2
  have bb : (qs / 2 ^ i) &&& 1 = 0 := by rw [bit1, if_neg hb]
  refine s_iload_n (pc := 54) 2 rfl rfl dX4_seek_54 ?_
  refine s_aload_n (pc := 55) 0 rfl rfl dX4_seek_55 ?_
  refine s_getr (pc := 56) (b := 23) fl_X4_44 rfl rfl rfl dX4_seek_56 ?_
  refine s_getr (pc := 59) (b := 24) fl_X4_61 rfl rfl rfl dX4_seek_59 ?_
  refine s_getiE (pc := 62) fl_X4_81 rfl rfl r0 dX4_seek_62 ?_
  refine s_icmp_geN (pc := 65) (by omega) (by omega) 91 dX4_seek_65 (by decide) (fun c_65 => ?_) (fun c_65 => ?_)
  · exfalso; omega
  · refine s_aload_n (pc := 68) 0 rfl rfl dX4_seek_68 ?_
    refine s_getiE (pc := 69) fl_X4_18 rfl rfl (show _ = nI qs from hq.1) dX4_seek_69 ?_
    refine s_iload_n (pc := 72) 2 rfl rfl dX4_seek_72 ?_
    refine s_ishrN (pc := 73) (by omega) (by omega) dX4_seek_73 ?_
    refine s_iconst (pc := 74) (k_i1N) dX4_seek_74 ?_
    refine s_iandN (pc := 75) (div_lt31 (by omega) i) (by omega) dX4_seek_75 ?_
    refine s_if_neN (pc := 76) (by rw [bit1]; split <;> decide) 85 dX4_seek_76 (by decide) (fun c_76 => ?_) (fun c_76 => ?_)
    · exfalso; omega
    · refine s_aload_n (pc := 79) 0 rfl rfl dX4_seek_79 ?_
      refine s_iload_n (pc := 80) 2 rfl rfl dX4_seek_80 ?_
      refine s_iload_n (pc := 81) 1 rfl rfl dX4_seek_81 ?_
      refine s_cvn2 (pc := 82) (hsb) ml_X4_87 mw_X4_seekBehind rfl (by omega) (Nat.le_of_ble_eq_true rfl) dX4_seek_82 ?_
      refine s_iincN (pc := 85) rfl (by decide) rfl dX4_seek_85 ?_
      refine s_goto (pc := 88) 54 dX4_seek_88 (by decide) ?_
      exact k

set_option maxRecDepth 20000 in
theorem sk_end {E : Cx} {D n : Nat} {a : Nat → Nat} {h : Hp} (hR : RC a h) (hO : OkA a) (hp : PostE E none h) : WW E cX4_seek RX4 3 (D + 2) 54 [.ref 41, .int (nI n), .int (nI (a 0))] (h) [] := by
  obtain ⟨⟨o0, o1, o2, o3, o4, o5, o6⟩, os⟩ := id hO
  have o64 := hO.in64
  have hC := hR.1
  obtain ⟨⟨r0, r1, r2, r4, r5, r6⟩, rs, P, rp, rP, rt⟩ := id hC
  have rg := hR.2
  refine s_iload_n (pc := 54) 2 rfl rfl dX4_seek_54 ?_
  refine s_aload_n (pc := 55) 0 rfl rfl dX4_seek_55 ?_
  refine s_getr (pc := 56) (b := 23) fl_X4_44 rfl rfl rfl dX4_seek_56 ?_
  refine s_getr (pc := 59) (b := 24) fl_X4_61 rfl rfl rfl dX4_seek_59 ?_
  refine s_getiE (pc := 62) fl_X4_81 rfl rfl r0 dX4_seek_62 ?_
  refine s_icmp_geN (pc := 65) (by omega) (by omega) 91 dX4_seek_65 (by decide) (fun c_65 => ?_) (fun c_65 => ?_)
  · refine s_vret (pc := 91) dX4_seek_91 (PostE.of hp ?_ ?_)
    · rfl
    · rfl
  · exfalso; omega
