abbrev Bst : Type := Option (Nat × Nat × List Nat)
def PLs : Nat → Nat → List (List Nat)
  | 0, _ => [[]]
  | f + 1, o => (List.range 6).flatMap (fun i => if o.testBit i = true then (PLs f (clrN o i)).map (i :: ·) else [])
def gp (p : List Nat) : Nat → Nat := fun k => p.getD k 0
def evq (a : Nat → Nat) (q : Qs) : List Nat → Option Qs
  | [] => some q
  | i :: p => if qcan a q i = true then evq a (qtk a q i) p else none
def btr (t d : Nat) : Bst → Bool
  | none => true
  | some (bt, bd, _) => decide (t < bt) || (decide (t = bt) && decide (d < bd))
def sel (a : Nat → Nat) (q : Qs) (pre : List Nat) (b : Bst) (p : List Nat) : Bst := match evq a q p with
  | none => b
  | some r => if btr r.2.2.1 r.2.2.2 b = true then some (r.2.2.1, r.2.2.2, pre ++ p) else b
def chkL (n : Nat) : List (List Nat) → Bool
  | [] => false
  | [p] => decide (fK (gp p) (n - 1) = 0) && decide (p.length = n)
  | p :: p' :: r => decide (0 < fK (gp p) (n - 1)) && decide (p.length = n) && allU (fun x => decide (nxG n (gp p) (fK (gp p) (n - 1) - 1) x = gp p' x)) n && chkL n (p' :: r)
theorem chk_all : ∀ o, o < 64 → chkL (pop o) (PLs (pop o) o) = true := by decide +kernel
def outL (s : Nat) : Nat → List Nat
  | 0 => []
  | i + 1 => if s.testBit i = true then outL s i else outL s i ++ [i]
theorem out_all : ∀ n, n ≤ 6 → ∀ s, s < 2 ^ n → (PLs (pop (2 ^ n - 1 - s)) (2 ^ n - 1 - s)).head? = some (outL s n) ∧ (outL s n).length = pop (2 ^ n - 1 - s) := by decide +kernel
theorem pls_mem : ∀ o, o < 64 → ∀ p ∈ PLs (pop o) o, ∀ i ∈ p, o.testBit i = true := by decide +kernel
theorem out_le (s i : Nat) : (outL s i).length ≤ i := by
  induction i with
  | zero => exact Nat.le_refl _
  | succ i ih =>
    simp only [outL]
    split
    · omega
    · rw [List.length_append, List.length_singleton]; omega
theorem gp_app {p : List Nat} {i j : Nat} : gp (p ++ [i]) j = if j = p.length then i else if j < p.length then gp p j else 0 := by
  unfold gp
  rw [List.getD_eq_getElem?_getD, List.getD_eq_getElem?_getD]
  by_cases e : j < p.length
  · rw [List.getElem?_append_left e, if_neg (by omega), if_pos e]
  · rw [List.getElem?_append_right (by omega)]
    by_cases e2 : j = p.length
    · rw [if_pos e2, e2, Nat.sub_self]; rfl
    · rw [if_neg e2, if_neg e, show j - p.length = (j - p.length - 1) + 1 by omega]; rfl
theorem lnH_app {h : Hp} {p : List Nat} {i : Nat} : ui (lnH h p.length (gp p)) 61 p.length (nI i) = lnH h (p ++ [i]).length (gp (p ++ [i])) := hp_ext (fun x y => by
  simp only [lnH, fup, ui, List.length_append, List.length_singleton]
  by_cases q : x = 61 ∧ y = p.length
  · rw [if_pos q, if_pos (by omega), gp_app, if_pos q.2]
  · rw [if_neg q]
    by_cases q2 : x = 61 ∧ y < p.length
    · rw [if_pos q2, if_pos (by omega), gp_app, if_neg (by omega), if_pos q2.2]
    · rw [if_neg q2, if_neg (by omega)]) (fun _ _ => rfl)
theorem ev_at {a g : Nat → Nat} : ∀ (l : List Nat) (k : Nat), (∀ j, j < l.length → g (k + j) = gp l j) →
    (evq a (qst a g k) l = some (qst a g (k + l.length)) ∧ ∀ j, k ≤ j → j < k + l.length → qcan a (qst a g j) (g j) = true) ∨
    (evq a (qst a g k) l = none ∧ ∃ k0, k ≤ k0 ∧ k0 < k + l.length ∧ (∀ j, k ≤ j → j < k0 → qcan a (qst a g j) (g j) = true) ∧ ¬ qcan a (qst a g k0) (g k0) = true) := by
  intro l
  induction l with
  | nil => exact fun k _ => Or.inl ⟨rfl, fun j h1 h2 => by rw [List.length_nil] at h2; omega⟩
  | cons i l ih =>
    intro k hg
    have g0 : g k = i := hg 0 (Nat.zero_lt_succ _)
    have hl : (i :: l).length = l.length + 1 := rfl
    by_cases c : qcan a (qst a g k) i = true
    · have e : evq a (qst a g k) (i :: l) = evq a (qst a g (k + 1)) l := by
        simp only [evq, qst]; rw [if_pos c, g0]
      have ck : qcan a (qst a g k) (g k) = true := by rw [g0]; exact c
      rw [e, hl, show k + (l.length + 1) = k + 1 + l.length by omega]
      rcases ih (k + 1) (fun j hj => by rw [show k + 1 + j = k + (j + 1) by omega]; exact hg (j + 1) (by rw [hl]; omega)) with ⟨h1, h2⟩ | ⟨h1, k0, h2, h3, h4, h5⟩
      · refine Or.inl ⟨h1, fun j j1 j2 => ?_⟩
        by_cases z : j = k
        · rw [z]; exact ck
        · exact h2 j (by omega) j2
      · refine Or.inr ⟨h1, k0, by omega, h3, fun j j1 j2 => ?_, h5⟩
        by_cases z : j = k
        · rw [z]; exact ck
        · exact h4 j (by omega) j2
    · exact Or.inr ⟨by simp only [evq]; rw [if_neg c], k, Nat.le_refl _, by rw [hl]; omega, fun j j1 j2 => by omega, by rw [g0]; exact c⟩
theorem ev_q {a : Nat → Nat} (p : List Nat) : (evq a (q0 a) p = some (qst a (gp p) p.length) ∧ ∀ j, j < p.length → qcan a (qst a (gp p) j) (gp p j) = true) ∨
    (evq a (q0 a) p = none ∧ ∃ k0, k0 < p.length ∧ (∀ j, j < k0 → qcan a (qst a (gp p) j) (gp p j) = true) ∧ ¬ qcan a (qst a (gp p) k0) (gp p k0) = true) := by
  rcases ev_at (a := a) (g := gp p) p 0 (fun j _ => by rw [Nat.zero_add]) with ⟨h1, h2⟩ | ⟨h1, k0, _, h3, h4, h5⟩
  · rw [Nat.zero_add] at h1 h2
    exact Or.inl ⟨h1, fun j hj => h2 j (Nat.zero_le _) hj⟩
  · rw [Nat.zero_add] at h3
    exact Or.inr ⟨h1, k0, h3, fun j hj => h4 j (Nat.zero_le _) hj, h5⟩
def fwI : Bst → Int32
  | none => -9
  | some (t, _, _) => nI t
def leN : Bst → Nat
  | none => 0
  | some (_, d, _) => d
def FrE (h h' : Hp) : Prop := h'.2 = h.2 ∧ ∀ x y, x ≠ 61 → x ≠ 62 → ¬ (x = 50 ∧ (y = 17 ∨ y = 18)) → h'.1 x y = h.1 x y
theorem FrE.rf (h : Hp) : FrE h h := ⟨rfl, fun _ _ _ _ _ => rfl⟩
theorem FrE.tr {h h1 h2 : Hp} (p : FrE h h1) (q : FrE h1 h2) : FrE h h2 := ⟨q.1.trans p.1, fun x y a b c => (q.2 x y a b c).trans (p.2 x y a b c)⟩
theorem FrE.eH (h : Hp) (t d : Nat) : FrE h (eH h t d) := ⟨rfl, fun x y _ _ c => by
  by_cases e : x = 50
  · subst e
    show (if (50 : Nat) = 50 ∧ y = 18 then nI d else if (50 : Nat) = 50 ∧ y = 17 then nI t else h.1 50 y) = _
    rw [if_neg (by omega), if_neg (by omega)]
  · exact eH_ne e⟩
theorem FrE.cp (h : Hp) (n : Nat) : FrE h (ucp h 61 0 62 0 n) := ⟨rfl, fun x y _ b _ => ucp_ne b⟩
theorem FrE.ln (h : Hp) (n : Nat) (g : Nat → Nat) : FrE h (lnH h n g) := ⟨rfl, fun x y b _ _ => lnH_ne b⟩
def BRe (n : Nat) (b : Bst) (h : Hp) : Prop := match b with
  | none => True
  | some (t, d, p) => p.length = n ∧ t ≤ 6 ∧ d ≤ 36 ∧ ∀ k, k < n → h.1 62 k = nI (gp p k)
theorem m9_ne {t : Nat} (h : t < 2 ^ 31) : ¬ nI t = -9 := by
  intro e
  have := congrArg Int32.toInt e
  rw [nI_toInt h] at this
  have h9 : ((-9 : Int32)).toInt = -9 := by decide
  omega

set_option maxRecDepth 20000 in
theorem ent_F {E : Cx} {r n le : Nat} {fw : Int32} {mo : Prop} [Decidable mo] {z1 z2 : Value} {h h1 h3 : Hp} (hE : CT 6 yX7_enters cX7_enters 7 (some .boolean) [.ref 50, .int (nI n)] h (some (.int (bi False))) h1) (hN : CT 3 yX7_nextOrder cX7_nextOrder 5 (some .boolean) [.ref 50, .int (nI n)] h1 (some (.int (bi mo))) h3) (k : ∀ z1 z2, WW E cX7_enter RX7 8 7 71 [.ref 50, .int (nI r), .int (nI n), .int fw, .int (nI le), .int (bi mo), z1, z2] (h3) []) : WW E cX7_enter RX7 8 7 71 [.ref 50, .int (nI r), .int (nI n), .int fw, .int (nI le), .int (nI 1), z1, z2] (h) [] := by
  refine s_iload (pc := 71) rfl dX7_enter_71 ?_
  refine s_if_eqN (pc := 73) (by omega) 169 dX7_enter_73 (by decide) (fun c_73 => ?_) (fun c_73 => ?_)
  · exfalso; omega
  · refine s_aload_n (pc := 76) 0 rfl rfl dX7_enter_76 ?_
    refine s_iload_n (pc := 77) 2 rfl rfl dX7_enter_77 ?_
    refine s_cvi1 (pc := 78) (hE) ml_X7_217 mw_X7_enters rfl (by decide) (Nat.le_of_ble_eq_true rfl) dX7_enter_78 ?_
    refine s_istore (pc := 81) (by decide) rfl dX7_enter_81 ?_
    refine s_iload (pc := 83) rfl dX7_enter_83 ?_
    refine s_if_eqF (pc := 85) 159 dX7_enter_85 (by decide) ?_
    refine s_aload_n (pc := 159) 0 rfl rfl dX7_enter_159 ?_
    refine s_iload_n (pc := 160) 2 rfl rfl dX7_enter_160 ?_
    refine s_cvi1 (pc := 161) (hN) ml_X7_220 mw_X7_nextOrder rfl (by decide) (Nat.le_of_ble_eq_true rfl) dX7_enter_161 ?_
    refine s_istore (pc := 164) (by decide) rfl dX7_enter_164 ?_
    refine s_goto (pc := 166) 71 dX7_enter_166 (by decide) ?_
    exact k _ _

set_option maxRecDepth 20000 in
theorem ent_T0 {E : Cx} {r n t1 d1 : Nat} {mo : Prop} [Decidable mo] {z1 z2 : Value} {h h1 h3 : Hp} (hn : n ≤ 6) (ht : t1 ≤ 6) (hd : d1 ≤ 36) (h17 : h1.1 50 17 = nI t1) (h18 : h1.1 50 18 = nI d1) (hE : CT 6 yX7_enters cX7_enters 7 (some .boolean) [.ref 50, .int (nI n)] h (some (.int (bi True))) h1) (hN : CT 3 yX7_nextOrder cX7_nextOrder 5 (some .boolean) [.ref 50, .int (nI n)] (ucp h1 61 0 62 0 n) (some (.int (bi mo))) h3) (k : ∀ z1 z2, WW E cX7_enter RX7 8 7 71 [.ref 50, .int (nI r), .int (nI n), .int (nI t1), .int (nI d1), .int (bi mo), z1, z2] (h3) []) : WW E cX7_enter RX7 8 7 71 [.ref 50, .int (nI r), .int (nI n), .int (-9), .int (nI 0), .int (nI 1), z1, z2] (h) [] := by
  refine s_iload (pc := 71) rfl dX7_enter_71 ?_
  refine s_if_eqN (pc := 73) (by omega) 169 dX7_enter_73 (by decide) (fun c_73 => ?_) (fun c_73 => ?_)
  · exfalso; omega
  · refine s_aload_n (pc := 76) 0 rfl rfl dX7_enter_76 ?_
    refine s_iload_n (pc := 77) 2 rfl rfl dX7_enter_77 ?_
    refine s_cvi1 (pc := 78) (hE) ml_X7_217 mw_X7_enters rfl (by decide) (Nat.le_of_ble_eq_true rfl) dX7_enter_78 ?_
    refine s_istore (pc := 81) (by decide) rfl dX7_enter_81 ?_
    refine s_iload (pc := 83) rfl dX7_enter_83 ?_
    refine s_if_eqT (pc := 85) 159 dX7_enter_85 (by decide) ?_
    refine s_iload_n (pc := 88) 3 rfl rfl dX7_enter_88 ?_
    refine s_bipush (pc := 89) (k_bm9) dX7_enter_89 ?_
    refine s_icmp_eq (pc := 91) 119 dX7_enter_91 (by decide) (fun c_91 => ?_) (fun c_91 => ?_)
    · refine s_aload_n (pc := 119) 0 rfl rfl dX7_enter_119 ?_
      refine s_getiE (pc := 120) fl_X7_208 rfl rfl h17 dX7_enter_120 ?_
      refine s_istore_n (pc := 123) 3 rfl (by decide) rfl dX7_enter_123 ?_
      refine s_aload_n (pc := 124) 0 rfl rfl dX7_enter_124 ?_
      refine s_getiE (pc := 125) fl_X7_211 rfl rfl h18 dX7_enter_125 ?_
      refine s_istore (pc := 128) (by decide) rfl dX7_enter_128 ?_
      refine s_iconst (pc := 130) (k_i0N) dX7_enter_130 ?_
      refine s_istore (pc := 131) (by decide) rfl dX7_enter_131 ?_
      refine WW.hp (ucp_0 h1 61 0 62 0).symm ?_
      suffices lp_133 : ∀ t, t ≤ n → ∀ z1, WW E cX7_enter RX7 8 _ 133 [.ref 50, .int (nI r), .int (nI n), .int (nI t1), .int (nI d1), .int (nI 1), z1, .int (nI t)] (ucp h1 61 0 62 0 t) [] from lp_133 0 (by omega) _
      refine lpi n (fun t hk_t ih_133 => ?_)
      intro z1
      refine s_iload (pc := 133) rfl dX7_enter_133 ?_
      refine s_iload_n (pc := 135) 2 rfl rfl dX7_enter_135 ?_
      refine s_icmp_geN (pc := 136) (by omega) (by omega) 159 dX7_enter_136 (by decide) (fun c_136 => ?_) (fun c_136 => ?_)
      · obtain rfl : t = n := by omega
        refine s_aload_n (pc := 159) 0 rfl rfl dX7_enter_159 ?_
        refine s_iload_n (pc := 160) 2 rfl rfl dX7_enter_160 ?_
        refine s_cvi1 (pc := 161) (hN) ml_X7_220 mw_X7_nextOrder rfl (by decide) (Nat.le_of_ble_eq_true rfl) dX7_enter_161 ?_
        refine s_istore (pc := 164) (by decide) rfl dX7_enter_164 ?_
        refine s_goto (pc := 166) 71 dX7_enter_166 (by decide) ?_
        exact k _ _
      · refine s_aload_n (pc := 139) 0 rfl rfl dX7_enter_139 ?_
        refine s_getr (pc := 140) (b := 62) fl_X7_44 rfl rfl rfl dX7_enter_140 ?_
        refine s_iload (pc := 143) rfl dX7_enter_143 ?_
        refine s_aload_n (pc := 145) 0 rfl rfl dX7_enter_145 ?_
        refine s_getr (pc := 146) (b := 61) fl_X7_41 rfl rfl rfl dX7_enter_146 ?_
        refine s_iload (pc := 149) rfl dX7_enter_149 ?_
        refine s_iald (pc := 151) (_) rfl rfl (by omega) dX7_enter_151 ?_
        refine s_iast (pc := 152) (_) rfl rfl (by omega) dX7_enter_152 ?_
        rw [ucp_s0 (h := h1) (r := 61) (x := 0) (s := 62) (k := t) (show (ucp h1 61 0 62 0 t).1 61 t = h1.1 61 (0 + t) by rw [Nat.zero_add]; exact ucp_ne (by decide))]
        refine s_iincN (pc := 153) rfl (by decide) rfl dX7_enter_153 ?_
        refine s_goto (pc := 156) 133 dX7_enter_156 (by decide) ?_
        exact ih_133 (by omega) _
    · exfalso; exact c_91 rfl

set_option maxRecDepth 20000 in
theorem ent_T1 {E : Cx} {r n t1 d1 bt bd : Nat} {mo : Prop} [Decidable mo] {z1 z2 : Value} {h h1 h3 : Hp} (hn : n ≤ 6) (ht : t1 ≤ 6) (hd : d1 ≤ 36) (h17 : h1.1 50 17 = nI t1) (h18 : h1.1 50 18 = nI d1) (hbt : bt ≤ 6) (hbd : bd ≤ 36) (hb : t1 < bt ∨ (t1 = bt ∧ d1 < bd)) (hE : CT 6 yX7_enters cX7_enters 7 (some .boolean) [.ref 50, .int (nI n)] h (some (.int (bi True))) h1) (hN : CT 3 yX7_nextOrder cX7_nextOrder 5 (some .boolean) [.ref 50, .int (nI n)] (ucp h1 61 0 62 0 n) (some (.int (bi mo))) h3) (k : ∀ z1 z2, WW E cX7_enter RX7 8 7 71 [.ref 50, .int (nI r), .int (nI n), .int (nI t1), .int (nI d1), .int (bi mo), z1, z2] (h3) []) : WW E cX7_enter RX7 8 7 71 [.ref 50, .int (nI r), .int (nI n), .int (nI bt), .int (nI bd), .int (nI 1), z1, z2] (h) [] := by
  refine s_iload (pc := 71) rfl dX7_enter_71 ?_
  refine s_if_eqN (pc := 73) (by omega) 169 dX7_enter_73 (by decide) (fun c_73 => ?_) (fun c_73 => ?_)
  · exfalso; omega
  · refine s_aload_n (pc := 76) 0 rfl rfl dX7_enter_76 ?_
    refine s_iload_n (pc := 77) 2 rfl rfl dX7_enter_77 ?_
    refine s_cvi1 (pc := 78) (hE) ml_X7_217 mw_X7_enters rfl (by decide) (Nat.le_of_ble_eq_true rfl) dX7_enter_78 ?_
    refine s_istore (pc := 81) (by decide) rfl dX7_enter_81 ?_
    refine s_iload (pc := 83) rfl dX7_enter_83 ?_
    refine s_if_eqT (pc := 85) 159 dX7_enter_85 (by decide) ?_
    refine s_iload_n (pc := 88) 3 rfl rfl dX7_enter_88 ?_
    refine s_bipush (pc := 89) (k_bm9) dX7_enter_89 ?_
    refine s_icmp_eq (pc := 91) 119 dX7_enter_91 (by decide) (fun c_91 => ?_) (fun c_91 => ?_)
    · exfalso; exact m9_ne (by omega) c_91
    · refine s_aload_n (pc := 94) 0 rfl rfl dX7_enter_94 ?_
      refine s_getiE (pc := 95) fl_X7_208 rfl rfl h17 dX7_enter_95 ?_
      refine s_iload_n (pc := 98) 3 rfl rfl dX7_enter_98 ?_
      refine s_icmp_ltN (pc := 99) (by omega) (by omega) 119 dX7_enter_99 (by decide) (fun c_99 => ?_) (fun c_99 => ?_)
      · refine s_aload_n (pc := 119) 0 rfl rfl dX7_enter_119 ?_
        refine s_getiE (pc := 120) fl_X7_208 rfl rfl h17 dX7_enter_120 ?_
        refine s_istore_n (pc := 123) 3 rfl (by decide) rfl dX7_enter_123 ?_
        refine s_aload_n (pc := 124) 0 rfl rfl dX7_enter_124 ?_
        refine s_getiE (pc := 125) fl_X7_211 rfl rfl h18 dX7_enter_125 ?_
        refine s_istore (pc := 128) (by decide) rfl dX7_enter_128 ?_
        refine s_iconst (pc := 130) (k_i0N) dX7_enter_130 ?_
        refine s_istore (pc := 131) (by decide) rfl dX7_enter_131 ?_
        refine WW.hp (ucp_0 h1 61 0 62 0).symm ?_
        suffices lp_133 : ∀ t, t ≤ n → ∀ z1, WW E cX7_enter RX7 8 _ 133 [.ref 50, .int (nI r), .int (nI n), .int (nI t1), .int (nI d1), .int (nI 1), z1, .int (nI t)] (ucp h1 61 0 62 0 t) [] from lp_133 0 (by omega) _
        refine lpi n (fun t hk_t ih_133 => ?_)
        intro z1
        refine s_iload (pc := 133) rfl dX7_enter_133 ?_
        refine s_iload_n (pc := 135) 2 rfl rfl dX7_enter_135 ?_
        refine s_icmp_geN (pc := 136) (by omega) (by omega) 159 dX7_enter_136 (by decide) (fun c_136 => ?_) (fun c_136 => ?_)
        · obtain rfl : t = n := by omega
          refine s_aload_n (pc := 159) 0 rfl rfl dX7_enter_159 ?_
          refine s_iload_n (pc := 160) 2 rfl rfl dX7_enter_160 ?_
          refine s_cvi1 (pc := 161) (hN) ml_X7_220 mw_X7_nextOrder rfl (by decide) (Nat.le_of_ble_eq_true rfl) dX7_enter_161 ?_
          refine s_istore (pc := 164) (by decide) rfl dX7_enter_164 ?_
          refine s_goto (pc := 166) 71 dX7_enter_166 (by decide) ?_
          exact k _ _
        · refine s_aload_n (pc := 139) 0 rfl rfl dX7_enter_139 ?_
          refine s_getr (pc := 140) (b := 62) fl_X7_44 rfl rfl rfl dX7_enter_140 ?_
          refine s_iload (pc := 143) rfl dX7_enter_143 ?_
          refine s_aload_n (pc := 145) 0 rfl rfl dX7_enter_145 ?_
          refine s_getr (pc := 146) (b := 61) fl_X7_41 rfl rfl rfl dX7_enter_146 ?_
          refine s_iload (pc := 149) rfl dX7_enter_149 ?_
          refine s_iald (pc := 151) (_) rfl rfl (by omega) dX7_enter_151 ?_
          refine s_iast (pc := 152) (_) rfl rfl (by omega) dX7_enter_152 ?_
          rw [ucp_s0 (h := h1) (r := 61) (x := 0) (s := 62) (k := t) (show (ucp h1 61 0 62 0 t).1 61 t = h1.1 61 (0 + t) by rw [Nat.zero_add]; exact ucp_ne (by decide))]
          refine s_iincN (pc := 153) rfl (by decide) rfl dX7_enter_153 ?_
          refine s_goto (pc := 156) 133 dX7_enter_156 (by decide) ?_
          exact ih_133 (by omega) _
      · refine s_aload_n (pc := 102) 0 rfl rfl dX7_enter_102 ?_
        refine s_getiE (pc := 103) fl_X7_208 rfl rfl h17 dX7_enter_103 ?_
        refine s_iload_n (pc := 106) 3 rfl rfl dX7_enter_106 ?_
        refine s_icmp_neN (pc := 107) (by omega) (by omega) 159 dX7_enter_107 (by decide) (fun c_107 => ?_) (fun c_107 => ?_)
        · exfalso; omega
        · refine s_aload_n (pc := 110) 0 rfl rfl dX7_enter_110 ?_
          refine s_getiE (pc := 111) fl_X7_211 rfl rfl h18 dX7_enter_111 ?_
          refine s_iload (pc := 114) rfl dX7_enter_114 ?_
          refine s_icmp_geN (pc := 116) (by omega) (by omega) 159 dX7_enter_116 (by decide) (fun c_116 => ?_) (fun c_116 => ?_)
          · exfalso; omega
          · refine s_aload_n (pc := 119) 0 rfl rfl dX7_enter_119 ?_
            refine s_getiE (pc := 120) fl_X7_208 rfl rfl h17 dX7_enter_120 ?_
            refine s_istore_n (pc := 123) 3 rfl (by decide) rfl dX7_enter_123 ?_
            refine s_aload_n (pc := 124) 0 rfl rfl dX7_enter_124 ?_
            refine s_getiE (pc := 125) fl_X7_211 rfl rfl h18 dX7_enter_125 ?_
            refine s_istore (pc := 128) (by decide) rfl dX7_enter_128 ?_
            refine s_iconst (pc := 130) (k_i0N) dX7_enter_130 ?_
            refine s_istore (pc := 131) (by decide) rfl dX7_enter_131 ?_
            refine WW.hp (ucp_0 h1 61 0 62 0).symm ?_
            suffices lp_133 : ∀ t, t ≤ n → ∀ z1, WW E cX7_enter RX7 8 _ 133 [.ref 50, .int (nI r), .int (nI n), .int (nI t1), .int (nI d1), .int (nI 1), z1, .int (nI t)] (ucp h1 61 0 62 0 t) [] from lp_133 0 (by omega) _
            refine lpi n (fun t hk_t ih_133 => ?_)
            intro z1
            refine s_iload (pc := 133) rfl dX7_enter_133 ?_
            refine s_iload_n (pc := 135) 2 rfl rfl dX7_enter_135 ?_
            refine s_icmp_geN (pc := 136) (by omega) (by omega) 159 dX7_enter_136 (by decide) (fun c_136 => ?_) (fun c_136 => ?_)
            · obtain rfl : t = n := by omega
              refine s_aload_n (pc := 159) 0 rfl rfl dX7_enter_159 ?_
              refine s_iload_n (pc := 160) 2 rfl rfl dX7_enter_160 ?_
              refine s_cvi1 (pc := 161) (hN) ml_X7_220 mw_X7_nextOrder rfl (by decide) (Nat.le_of_ble_eq_true rfl) dX7_enter_161 ?_
              refine s_istore (pc := 164) (by decide) rfl dX7_enter_164 ?_
              refine s_goto (pc := 166) 71 dX7_enter_166 (by decide) ?_
              exact k _ _
            · refine s_aload_n (pc := 139) 0 rfl rfl dX7_enter_139 ?_
              refine s_getr (pc := 140) (b := 62) fl_X7_44 rfl rfl rfl dX7_enter_140 ?_
              refine s_iload (pc := 143) rfl dX7_enter_143 ?_
              refine s_aload_n (pc := 145) 0 rfl rfl dX7_enter_145 ?_
              refine s_getr (pc := 146) (b := 61) fl_X7_41 rfl rfl rfl dX7_enter_146 ?_
              refine s_iload (pc := 149) rfl dX7_enter_149 ?_
              refine s_iald (pc := 151) (_) rfl rfl (by omega) dX7_enter_151 ?_
              refine s_iast (pc := 152) (_) rfl rfl (by omega) dX7_enter_152 ?_
              rw [ucp_s0 (h := h1) (r := 61) (x := 0) (s := 62) (k := t) (show (ucp h1 61 0 62 0 t).1 61 t = h1.1 61 (0 + t) by rw [Nat.zero_add]; exact ucp_ne (by decide))]
              refine s_iincN (pc := 153) rfl (by decide) rfl dX7_enter_153 ?_
              refine s_goto (pc := 156) 133 dX7_enter_156 (by decide) ?_
              exact ih_133 (by omega) _

set_option maxRecDepth 20000 in
theorem ent_T2 {E : Cx} {r n t1 d1 bt bd : Nat} {mo : Prop} [Decidable mo] {z1 z2 : Value} {h h1 h3 : Hp} (hn : n ≤ 6) (ht : t1 ≤ 6) (hd : d1 ≤ 36) (h17 : h1.1 50 17 = nI t1) (h18 : h1.1 50 18 = nI d1) (hbt : bt ≤ 6) (hbd : bd ≤ 36) (hb : ¬ (t1 < bt ∨ (t1 = bt ∧ d1 < bd))) (hE : CT 6 yX7_enters cX7_enters 7 (some .boolean) [.ref 50, .int (nI n)] h (some (.int (bi True))) h1) (hN : CT 3 yX7_nextOrder cX7_nextOrder 5 (some .boolean) [.ref 50, .int (nI n)] h1 (some (.int (bi mo))) h3) (k : ∀ z1 z2, WW E cX7_enter RX7 8 7 71 [.ref 50, .int (nI r), .int (nI n), .int (nI bt), .int (nI bd), .int (bi mo), z1, z2] (h3) []) : WW E cX7_enter RX7 8 7 71 [.ref 50, .int (nI r), .int (nI n), .int (nI bt), .int (nI bd), .int (nI 1), z1, z2] (h) [] := by
  refine s_iload (pc := 71) rfl dX7_enter_71 ?_
  refine s_if_eqN (pc := 73) (by omega) 169 dX7_enter_73 (by decide) (fun c_73 => ?_) (fun c_73 => ?_)
  · exfalso; omega
  · refine s_aload_n (pc := 76) 0 rfl rfl dX7_enter_76 ?_
    refine s_iload_n (pc := 77) 2 rfl rfl dX7_enter_77 ?_
    refine s_cvi1 (pc := 78) (hE) ml_X7_217 mw_X7_enters rfl (by decide) (Nat.le_of_ble_eq_true rfl) dX7_enter_78 ?_
    refine s_istore (pc := 81) (by decide) rfl dX7_enter_81 ?_
    refine s_iload (pc := 83) rfl dX7_enter_83 ?_
    refine s_if_eqT (pc := 85) 159 dX7_enter_85 (by decide) ?_
    refine s_iload_n (pc := 88) 3 rfl rfl dX7_enter_88 ?_
    refine s_bipush (pc := 89) (k_bm9) dX7_enter_89 ?_
    refine s_icmp_eq (pc := 91) 119 dX7_enter_91 (by decide) (fun c_91 => ?_) (fun c_91 => ?_)
    · exfalso; exact m9_ne (by omega) c_91
    · refine s_aload_n (pc := 94) 0 rfl rfl dX7_enter_94 ?_
      refine s_getiE (pc := 95) fl_X7_208 rfl rfl h17 dX7_enter_95 ?_
      refine s_iload_n (pc := 98) 3 rfl rfl dX7_enter_98 ?_
      refine s_icmp_ltN (pc := 99) (by omega) (by omega) 119 dX7_enter_99 (by decide) (fun c_99 => ?_) (fun c_99 => ?_)
      · exfalso; omega
      · refine s_aload_n (pc := 102) 0 rfl rfl dX7_enter_102 ?_
        refine s_getiE (pc := 103) fl_X7_208 rfl rfl h17 dX7_enter_103 ?_
        refine s_iload_n (pc := 106) 3 rfl rfl dX7_enter_106 ?_
        refine s_icmp_neN (pc := 107) (by omega) (by omega) 159 dX7_enter_107 (by decide) (fun c_107 => ?_) (fun c_107 => ?_)
        · 
          refine s_aload_n (pc := 159) 0 rfl rfl dX7_enter_159 ?_
          refine s_iload_n (pc := 160) 2 rfl rfl dX7_enter_160 ?_
          refine s_cvi1 (pc := 161) (hN) ml_X7_220 mw_X7_nextOrder rfl (by decide) (Nat.le_of_ble_eq_true rfl) dX7_enter_161 ?_
          refine s_istore (pc := 164) (by decide) rfl dX7_enter_164 ?_
          refine s_goto (pc := 166) 71 dX7_enter_166 (by decide) ?_
          exact k _ _
        · refine s_aload_n (pc := 110) 0 rfl rfl dX7_enter_110 ?_
          refine s_getiE (pc := 111) fl_X7_211 rfl rfl h18 dX7_enter_111 ?_
          refine s_iload (pc := 114) rfl dX7_enter_114 ?_
          refine s_icmp_geN (pc := 116) (by omega) (by omega) 159 dX7_enter_116 (by decide) (fun c_116 => ?_) (fun c_116 => ?_)
          · 
            refine s_aload_n (pc := 159) 0 rfl rfl dX7_enter_159 ?_
            refine s_iload_n (pc := 160) 2 rfl rfl dX7_enter_160 ?_
            refine s_cvi1 (pc := 161) (hN) ml_X7_220 mw_X7_nextOrder rfl (by decide) (Nat.le_of_ble_eq_true rfl) dX7_enter_161 ?_
            refine s_istore (pc := 164) (by decide) rfl dX7_enter_164 ?_
            refine s_goto (pc := 166) 71 dX7_enter_166 (by decide) ?_
            exact k _ _
          · exfalso; omega

set_option maxRecDepth 20000 in
theorem ent_X {E : Cx} {r n : Nat} {fw le : Int32} {z1 z2 : Value} {h : Hp} (k : WW E cX7_enter RX7 8 7 169 [.ref 50, .int (nI r), .int (nI n), .int fw, .int le, .int (bi False), z1, z2] (h) []) : WW E cX7_enter RX7 8 7 71 [.ref 50, .int (nI r), .int (nI n), .int fw, .int le, .int (bi False), z1, z2] (h) [] := by
  refine s_iload (pc := 71) rfl dX7_enter_71 ?_
  refine s_if_eqF (pc := 73) 169 dX7_enter_73 (by decide) ?_
  exact k
