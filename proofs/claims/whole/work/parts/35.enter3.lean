theorem RM.fr {a : Nat → Nat} {h h' : Hp} (hA : RM a h) (f : FrE h h') : RM a h' := fun j hj => (f.2 56 j (by decide) (by decide) (by omega)).trans (hA j hj)
theorem cp_v {h : Hp} {n k : Nat} (hk : k < n) : (ucp h 61 0 62 0 n).1 62 k = h.1 61 k := by
  show (if (62 : Nat) = 62 ∧ 0 ≤ k ∧ k < 0 + n then h.1 61 (0 + (k - 0)) else h.1 62 k) = _
  rw [if_pos ⟨rfl, Nat.zero_le _, by omega⟩, Nat.sub_zero, Nat.zero_add]
theorem ent_step {a : Nat → Nat} {r n : Nat} {p : List Nat} {b : Bst} {h : Hp} (hO : OkA a) (hn : n ≤ 6) (hA : RM a h) (hl : p.length = n) (hp : ∀ j, j < n → gp p j < a 0) (hb : BRe n b h) (hL : ∀ j, j < n → h.1 61 j = nI (gp p j)) :
    ∃ h2, (FrE h h2 ∧ BRe n (sel a (q0 a) [] b p) h2 ∧ ∀ j, j < n → h2.1 61 j = nI (gp p j)) ∧ ∀ (mo : Prop) [Decidable mo] (h3 : Hp), CT 3 yX7_nextOrder cX7_nextOrder 5 (some .boolean) [.ref 50, .int (nI n)] h2 (some (.int (bi mo))) h3 → ∀ (E : Cx) (z1 z2 : Value), (∀ z1 z2, WW E cX7_enter RX7 8 7 71 [.ref 50, .int (nI r), .int (nI n), .int (fwI (sel a (q0 a) [] b p)), .int (nI (leN (sel a (q0 a) [] b p))), .int (bi mo), z1, z2] h3 []) → WW E cX7_enter RX7 8 7 71 [.ref 50, .int (nI r), .int (nI n), .int (fwI b), .int (nI (leN b)), .int (nI 1), z1, z2] h [] := by
  subst hl
  have hg : ∀ j, j < p.length → h.1 61 j = nI (gp p j) ∧ gp p j < a 0 := fun j hj => ⟨hL j hj, hp j hj⟩
  rcases ev_q (a := a) p with ⟨he, hc⟩ | ⟨he, k0, hk0, hc, hN⟩
  · have hE := c_X7_entT hA hO hg hn hc
    obtain ⟨ql1, ql2⟩ := qst_le a (gp p) p.length
    have t6 : (qst a (gp p) p.length).2.2.1 ≤ 6 := by omega
    have d36 : (qst a (gp p) p.length).2.2.2 ≤ 36 := by omega
    generalize ht : (qst a (gp p) p.length).2.2.1 = t1 at *
    generalize hd : (qst a (gp p) p.length).2.2.2 = d1 at *
    have hL1 : ∀ j, j < p.length → (eH h t1 d1).1 61 j = nI (gp p j) := fun j hj => (eH_ne (by decide)).trans (hL j hj)
    have hL2 : ∀ j, j < p.length → (ucp (eH h t1 d1) 61 0 62 0 p.length).1 61 j = nI (gp p j) := fun j hj => (ucp_ne (by decide)).trans (hL1 j hj)
    have hB2 : BRe p.length (some (t1, d1, p)) (ucp (eH h t1 d1) 61 0 62 0 p.length) := ⟨rfl, t6, d36, fun k hk => (cp_v hk).trans (hL1 k hk)⟩
    have F1 := FrE.eH h t1 d1
    have F2 := F1.tr (FrE.cp (eH h t1 d1) p.length)
    cases b with
    | none =>
      have es : sel a (q0 a) [] none p = some (t1, d1, p) := by simp only [sel, he, btr, ht, hd]; rfl
      rw [es]
      exact ⟨_, ⟨F2, hB2, hL2⟩, fun mo _ h3 hNx E z1 z2 k => ent_T0 hn t6 d36 rfl rfl hE hNx k⟩
    | some b =>
      obtain ⟨bt, bd, bp⟩ := b
      obtain ⟨b1, b2, b3, b4⟩ := hb
      by_cases q : t1 < bt ∨ (t1 = bt ∧ d1 < bd)
      · have es : sel a (q0 a) [] (some (bt, bd, bp)) p = some (t1, d1, p) := by
          simp only [sel, he, btr, ht, hd]
          rw [if_pos (by simp only [Bool.or_eq_true, Bool.and_eq_true, decide_eq_true_eq]; exact q)]; rfl
        rw [es]
        exact ⟨_, ⟨F2, hB2, hL2⟩, fun mo _ h3 hNx E z1 z2 k => ent_T1 hn t6 d36 rfl rfl b2 b3 q hE hNx k⟩
      · have es : sel a (q0 a) [] (some (bt, bd, bp)) p = some (bt, bd, bp) := by
          simp only [sel, he, btr, ht, hd]
          rw [if_neg (by simp only [Bool.or_eq_true, Bool.and_eq_true, decide_eq_true_eq]; exact q)]
        rw [es]
        exact ⟨_, ⟨F1, ⟨b1, b2, b3, fun k hk => (eH_ne (by decide)).trans (b4 k hk)⟩, hL1⟩, fun mo _ h3 hNx E z1 z2 k => ent_T2 hn t6 d36 rfl rfl b2 b3 q hE hNx k⟩
  · have hE := c_X7_entF hA hO hg hn hk0 hc hN
    have es : sel a (q0 a) [] b p = b := by simp only [sel, he]
    rw [es]
    refine ⟨_, ⟨FrE.eH h _ _, ?_, fun j hj => (eH_ne (by decide)).trans (hL j hj)⟩, fun mo _ h3 hNx E z1 z2 k => ent_F hE hNx k⟩
    cases b with
    | none => trivial
    | some b => exact ⟨hb.1, hb.2.1, hb.2.2.1, fun k hk => (eH_ne (by decide)).trans (hb.2.2.2 k hk)⟩
theorem ent_lp {a : Nat → Nat} {r n : Nat} (hO : OkA a) (hn : n ≤ 6) (a6 : a 0 ≤ 6) : ∀ (L : List (List Nat)), chkL n L = true → (∀ p, p ∈ L → ∀ j, j < n → gp p j < a 0) → ∀ (p : List Nat), L.head? = some p → ∀ (b : Bst) (h : Hp), RM a h → BRe n b h → (∀ j, j < n → h.1 61 j = nI (gp p j)) →
    ∃ h', (FrE h h' ∧ BRe n (L.foldl (sel a (q0 a) []) b) h') ∧ ∀ (E : Cx) (z1 z2 : Value), (∀ z1 z2, WW E cX7_enter RX7 8 7 169 [.ref 50, .int (nI r), .int (nI n), .int (fwI (L.foldl (sel a (q0 a) []) b)), .int (nI (leN (L.foldl (sel a (q0 a) []) b))), .int (bi False), z1, z2] h' []) → WW E cX7_enter RX7 8 7 71 [.ref 50, .int (nI r), .int (nI n), .int (fwI b), .int (nI (leN b)), .int (nI 1), z1, z2] h [] := by
  intro L
  induction L with
  | nil => intro hc; exact absurd hc Bool.false_ne_true
  | cons p L ih =>
    intro hc hm p0 hp0 b h hA hb hL
    obtain rfl : p = p0 := Option.some.inj hp0
    cases L with
    | nil =>
      simp only [chkL, Bool.and_eq_true, decide_eq_true_eq] at hc
      obtain ⟨h2, ⟨F, B2, L2⟩, st⟩ := ent_step (r := r) hO hn hA hc.2 (hm p (List.mem_cons_self ..)) hb hL
      refine ⟨h2, ⟨F, B2⟩, fun E z1 z2 k => st False h2 ?_ E z1 z2 (fun z1 z2 => ent_X (k z1 z2))⟩
      by_cases z : n = 0
      · subst z
        exact c_X7_nx0 (g := gp p)
      · have c := c_X7_nxN (h := h2) (g := gp p) (n := n) (by omega) (by omega) (fun j hj => Nat.lt_of_lt_of_le (hm p (List.mem_cons_self ..) j hj) (by omega)) hc.1
        rw [lnH_of L2] at c
        exact c
    | cons p' L =>
      simp only [chkL, Bool.and_eq_true, decide_eq_true_eq] at hc
      obtain ⟨⟨⟨c1, c2⟩, c3⟩, c4⟩ := hc
      obtain ⟨h2, ⟨F, B2, L2⟩, st⟩ := ent_step (r := r) hO hn hA c2 (hm p (List.mem_cons_self ..)) hb hL
      have n1 : 1 ≤ n := by
        have := fK_le (gp p) (n - 1)
        omega
      obtain ⟨K, hK⟩ : ∃ K, fK (gp p) (n - 1) = K + 1 := ⟨fK (gp p) (n - 1) - 1, by omega⟩
      have c := c_X7_nxS (h := h2) (g := gp p) (n := n) (by omega) n1 (fun j hj => Nat.lt_of_lt_of_le (hm p (List.mem_cons_self ..) j hj) (by omega)) hK
      have eg : ∀ j, j < n → nxG n (gp p) K j = gp p' j := fun j hj => by
        have := allU_iff.mp c3 j hj
        rw [hK, Nat.add_sub_cancel, decide_eq_true_eq] at this
        exact this
      rw [lnH_of L2, lnH_congr eg] at c
      have F3 := FrE.ln h2 n (gp p')
      have B3 : BRe n (sel a (q0 a) [] b p) (lnH h2 n (gp p')) := by
        generalize sel a (q0 a) [] b p = bb at B2
        cases bb with
        | none => trivial
        | some bb => exact ⟨B2.1, B2.2.1, B2.2.2.1, fun k hk => (lnH_ne (by decide)).trans (B2.2.2.2 k hk)⟩
      obtain ⟨h', ⟨F4, B4⟩, hW⟩ := ih c4 (fun p hp => hm p (List.mem_cons_of_mem _ hp)) p' rfl (sel a (q0 a) [] b p) (lnH h2 n (gp p')) ((hA.fr F).fr F3) B3 (fun j hj => lnH_v hj)
      refine ⟨h', ⟨(F.tr F3).tr F4, B4⟩, fun E z1 z2 k => st True _ c E z1 z2 (fun z1 z2 => ?_)⟩
      rw [bi_T trivial]
      exact hW E z1 z2 k

def oOut (a : Nat → Nat) : Nat := 2 ^ a 0 - 1 - a 5
def bstA (a : Nat → Nat) : Bst := (PLs (pop (oOut a)) (oOut a)).foldl (sel a (q0 a) []) none
theorem oOut_lt {a : Nat → Nat} (hO : OkA a) : oOut a < 64 := by
  have h1 : 2 ^ a 0 ≤ 2 ^ 6 := Nat.pow_le_pow_right (by decide) hO.1.1
  unfold oOut
  omega
theorem oOut_tb : ∀ n, n ≤ 6 → ∀ s, s < 2 ^ n → ∀ i, i < 7 → (2 ^ n - 1 - s).testBit i = (decide (i < n) && !s.testBit i) := by decide +kernel
theorem pl_gp {a : Nat → Nat} (hO : OkA a) : ∀ p, p ∈ PLs (pop (oOut a)) (oOut a) → ∀ j, j < p.length → gp p j < a 0 := by
  intro p hp j hj
  have h1 := pls_mem (oOut a) (oOut_lt hO) p hp (gp p j) (by
    unfold gp
    rw [List.getD_eq_getElem?_getD, List.getElem?_eq_getElem hj]
    exact List.getElem_mem hj)
  by_cases q : gp p j < a 0
  · exact q
  · rw [Nat.testBit_lt_two_pow] at h1
    · exact absurd h1 Bool.false_ne_true
    · have h2 : 2 ^ a 0 ≤ 2 ^ gp p j := Nat.pow_le_pow_right (by decide) (by omega)
      have := Nat.one_le_two_pow (n := a 0)
      unfold oOut
      omega
theorem chk_len {n : Nat} : ∀ L : List (List Nat), chkL n L = true → ∀ p, p ∈ L → p.length = n := by
  intro L
  induction L with
  | nil => intro h; exact absurd h Bool.false_ne_true
  | cons p L ih =>
    intro h q hq
    cases L with
    | nil =>
      simp only [chkL, Bool.and_eq_true, decide_eq_true_eq] at h
      rw [List.mem_singleton] at hq
      rw [hq]; exact h.2
    | cons p' L =>
      simp only [chkL, Bool.and_eq_true, decide_eq_true_eq] at h
      rcases List.mem_cons.mp hq with e | e
      · rw [e]; exact h.1.1.2
      · exact ih h.2 q e

set_option maxRecDepth 20000 in
theorem ent_tN {E : Cx} {q n le : Nat} {z1 z2 : Value} {h : Hp} (hp : PostE E (some (.int (-9))) h) : WW E cX7_enter RX7 8 7 169 [.ref 50, .int (nI q), .int (nI n), .int (-9), .int (nI le), .int (bi False), z1, z2] (h) [] := by
  refine s_iload_n (pc := 169) 3 rfl rfl dX7_enter_169 ?_
  refine s_bipush (pc := 170) (k_bm9) dX7_enter_170 ?_
  refine s_icmp_ne (pc := 172) 178 dX7_enter_172 (by decide) (fun c_172 => ?_) (fun c_172 => ?_)
  · exfalso; exact c_172 rfl
  · refine s_bipush (pc := 175) (k_bm9) dX7_enter_175 ?_
    refine s_iret (pc := 177) dX7_enter_177 (PostE.of hp ?_ ?_)
    · rfl
    · rfl

set_option maxRecDepth 20000 in
theorem ent_tO {E : Cx} {q n t d : Nat} {z1 z2 : Value} {h : Hp} (hq : q < 6) (hn : n ≤ 6) (ht : t ≤ 6) (hp : PostE E (some (.int (nI t))) (ui (ucp (layM h q (nI n)) 62 0 52 (40 * q) n) 50 11 (nI d))) : WW E cX7_enter RX7 8 7 169 [.ref 50, .int (nI q), .int (nI n), .int (nI t), .int (nI d), .int (bi False), z1, z2] (h) [] := by
  refine s_iload_n (pc := 169) 3 rfl rfl dX7_enter_169 ?_
  refine s_bipush (pc := 170) (k_bm9) dX7_enter_170 ?_
  refine s_icmp_ne (pc := 172) 178 dX7_enter_172 (by decide) (fun c_172 => ?_) (fun c_172 => ?_)
  · refine s_aload_n (pc := 178) 0 rfl rfl dX7_enter_178 ?_
    refine s_iload_n (pc := 179) 1 rfl rfl dX7_enter_179 ?_
    refine s_iload_n (pc := 180) 2 rfl rfl dX7_enter_180 ?_
    refine s_cvn2 (pc := 181) (c_X7_lays hq) ml_X7_76 mw_X7_lays rfl (by decide) (Nat.le_of_ble_eq_true rfl) dX7_enter_181 ?_
    refine s_iconst (pc := 184) (k_i0N) dX7_enter_184 ?_
    refine s_istore (pc := 185) (by decide) rfl dX7_enter_185 ?_
    refine WW.hp (ucp_0 (layM h q (nI n)) 62 0 52 (40 * q)).symm ?_
    suffices lp_187 : ∀ k, k ≤ n → WW E cX7_enter RX7 8 _ 187 [.ref 50, .int (nI q), .int (nI n), .int (nI t), .int (nI d), .int (bi False), .int (nI k), z2] (ucp (layM h q (nI n)) 62 0 52 (40 * q) k) [] from lp_187 0 (by omega)
    refine lpi n (fun k hk_k ih_187 => ?_)
    refine s_iload (pc := 187) rfl dX7_enter_187 ?_
    refine s_iload_n (pc := 189) 2 rfl rfl dX7_enter_189 ?_
    refine s_icmp_geN (pc := 190) (by omega) (by omega) 218 dX7_enter_190 (by decide) (fun c_190 => ?_) (fun c_190 => ?_)
    · obtain rfl : k = n := by omega
      refine s_aload_n (pc := 218) 0 rfl rfl dX7_enter_218 ?_
      refine s_iload_n (pc := 219) 3 rfl rfl dX7_enter_219 ?_
      refine s_iload (pc := 220) rfl dX7_enter_220 ?_
      refine s_cvi2 (pc := 222) (c_X7_tells) ml_X7_84 mw_X7_tells rfl (by decide) (Nat.le_of_ble_eq_true rfl) dX7_enter_222 ?_
      refine s_iret (pc := 225) dX7_enter_225 (PostE.of hp ?_ ?_)
      · rfl
      · rfl
    · refine s_aload_n (pc := 193) 0 rfl rfl dX7_enter_193 ?_
      refine s_getr (pc := 194) (b := 52) fl_X7_13 rfl rfl rfl dX7_enter_194 ?_
      refine s_bipush (pc := 197) (k_b40N) dX7_enter_197 ?_
      refine s_iload_n (pc := 199) 1 rfl rfl dX7_enter_199 ?_
      refine s_imulN (pc := 200) dX7_enter_200 ?_
      refine s_iload (pc := 201) rfl dX7_enter_201 ?_
      refine s_iaddN (pc := 203) dX7_enter_203 ?_
      refine s_aload_n (pc := 204) 0 rfl rfl dX7_enter_204 ?_
      refine s_getr (pc := 205) (b := 62) fl_X7_44 rfl rfl rfl dX7_enter_205 ?_
      refine s_iload (pc := 208) rfl dX7_enter_208 ?_
      refine s_iald (pc := 210) (_) rfl rfl (by omega) dX7_enter_210 ?_
      refine s_iast (pc := 211) (_) rfl rfl (by omega) dX7_enter_211 ?_
      rw [ucp_s (layM h q (nI n)) 62 0 52 (40 * q) k (show (ucp (layM h q (nI n)) 62 0 52 (40 * q) k).1 62 k = (layM h q (nI n)).1 62 (0 + k) by rw [Nat.zero_add]; exact ucp_ne (by decide))]
      refine s_iincN (pc := 212) rfl (by decide) rfl dX7_enter_212 ?_
      refine s_goto (pc := 215) 187 dX7_enter_215 (by decide) ?_
      exact ih_187 (by omega)
  · exfalso; exact m9_ne (by omega) c_172

set_option maxRecDepth 20000 in
theorem c_X7_enterB {s : Int32} {h : Hp} (hb : s < 0 ∨ nI 6 ≤ s) : CT 3 yX7_enter cX7_enter 8 (some .int) [.ref 50, .int s] h (some (.int (-1))) (h) := by
  refine CT.of (own := RX7) rfl (by decide) (ro_i _) [.ref 50, .int s, .null, .null, .null, .null, .null, .null] rfl (Nat.le_of_ble_eq_true rfl) (fun E hp => ?_)
  refine s_iload_n (pc := 0) 1 rfl rfl dX7_enter_0 ?_
  refine s_csi1 (pc := 1) (c_X7_isRowF hb) ml_X7_68 ms_X7_isRow (by decide) (Nat.le_of_ble_eq_true rfl) dX7_enter_1 ?_
  refine s_if_neF (pc := 4) 9 dX7_enter_4 (by decide) ?_
  refine s_iconst (pc := 7) (k_im1) dX7_enter_7 ?_
  refine s_iret (pc := 8) dX7_enter_8 (PostE.of hp ?_ ?_)
  · rfl
  · rfl

set_option maxRecDepth 20000 in
theorem c_X7_enterE {q : Nat} {a : Nat → Nat} {h : Hp} (hA : RM a h) (hO : OkA a) (hk : q < 6) (h0 : a 0 = 0) : CT 3 yX7_enter cX7_enter 8 (some .int) [.ref 50, .int (nI q)] h (some (.int (-4))) (h) := by
  refine CT.of (own := RX7) rfl (by decide) (ro_i _) [.ref 50, .int (nI q), .null, .null, .null, .null, .null, .null] rfl (Nat.le_of_ble_eq_true rfl) (fun E hp => ?_)
  refine s_iload_n (pc := 0) 1 rfl rfl dX7_enter_0 ?_
  refine s_csi1 (pc := 1) (c_X7_isRowT hk) ml_X7_68 ms_X7_isRow (by decide) (Nat.le_of_ble_eq_true rfl) dX7_enter_1 ?_
  refine s_if_neT (pc := 4) 9 dX7_enter_4 (by decide) ?_
  refine s_aload_n (pc := 9) 0 rfl rfl dX7_enter_9 ?_
  refine s_cvi0 (pc := 10) (c_X7_are hA hO.1.1) ml_X7_198 mw_X7_are rfl (by decide) (Nat.le_of_ble_eq_true rfl) dX7_enter_10 ?_
  refine s_if_neB (pc := 13) 19 dX7_enter_13 (by decide) (fun c_13 => ?_) (fun c_13 => ?_)
  · exfalso; omega
  · refine s_bipush (pc := 16) (k_bm4) dX7_enter_16 ?_
    refine s_iret (pc := 18) dX7_enter_18 (PostE.of hp ?_ ?_)
    · rfl
    · rfl

set_option maxRecDepth 20000 in
theorem c_X7_enterN {q : Nat} {a : Nat → Nat} {h : Hp} (hA : RM a h) (hO : OkA a) (hk : q < 6) (h0 : 0 < a 0) (hB : bstA a = none) : ∃ h', FrE h h' ∧ CT 7 yX7_enter cX7_enter 8 (some .int) [.ref 50, .int (nI q)] h (some (.int (-9))) h' := by
  have o0 := hO.1.1
  have o5 := hO.1.2.2.2.2.2.1
  have o64 := hO.in64
  have ck := chk_all (oOut a) (oOut_lt hO)
  obtain ⟨hd, hlen⟩ := out_all (a 0) o0 (a 5) o5
  have hn : pop (oOut a) ≤ 6 := pop_le _
  have hl0 : (outL (a 5) (a 0)).length = pop (oOut a) := hlen
  have hA1 : RM a (lnH h (pop (oOut a)) (gp (outL (a 5) (a 0)))) := fun j hj => (lnH_ne (by decide)).trans (hA j hj)
  obtain ⟨h', ⟨F, B⟩, hW⟩ := ent_lp (r := q) hO hn o0 (PLs (pop (oOut a)) (oOut a)) ck (fun p hp j hj => pl_gp hO p hp j (by rw [chk_len _ ck p hp]; exact hj)) (outL (a 5) (a 0)) hd none (lnH h (pop (oOut a)) (gp (outL (a 5) (a 0)))) hA1 trivial (fun j hj => lnH_v hj)
  have F0 := (FrE.ln h (pop (oOut a)) (gp (outL (a 5) (a 0)))).tr F
  have eB : (PLs (pop (oOut a)) (oOut a)).foldl (sel a (q0 a) []) none = bstA a := rfl
  rw [eB] at B hW
  rw [hB] at B hW
  refine ⟨h', F0, ?_⟩
  refine CT.of (own := RX7) rfl (by decide) (ro_i _) [.ref 50, .int (nI q), .null, .null, .null, .null, .null, .null] rfl (Nat.le_of_ble_eq_true rfl) (fun E hp => ?_)
  refine s_iload_n (pc := 0) 1 rfl rfl dX7_enter_0 ?_
  refine s_csi1 (pc := 1) (c_X7_isRowT hk) ml_X7_68 ms_X7_isRow (by decide) (Nat.le_of_ble_eq_true rfl) dX7_enter_1 ?_
  refine s_if_neT (pc := 4) 9 dX7_enter_4 (by decide) ?_
  refine s_aload_n (pc := 9) 0 rfl rfl dX7_enter_9 ?_
  refine s_cvi0 (pc := 10) (c_X7_are hA hO.1.1) ml_X7_198 mw_X7_are rfl (by decide) (Nat.le_of_ble_eq_true rfl) dX7_enter_10 ?_
  refine s_if_neB (pc := 13) 19 dX7_enter_13 (by decide) (fun c_13 => ?_) (fun c_13 => ?_)
  · refine s_iconst (pc := 19) (k_i0N) dX7_enter_19 ?_
    refine s_istore_n (pc := 20) 2 rfl (by decide) rfl dX7_enter_20 ?_
    refine s_iconst (pc := 21) (k_i0N) dX7_enter_21 ?_
    refine s_istore_n (pc := 22) 3 rfl (by decide) rfl dX7_enter_22 ?_
    refine WW.hp (show h = lnH h (outL (a 5) 0).length (gp (outL (a 5) 0)) from (fup_0 h 61 _).symm) ?_
    suffices lp_23 : ∀ i, i ≤ a 0 → WW E cX7_enter RX7 8 _ 23 [.ref 50, .int (nI q), .int (nI (outL (a 5) i).length), .int (nI i), .null, .null, .null, .null] (lnH h (outL (a 5) i).length (gp (outL (a 5) i))) [] from lp_23 0 (by omega)
    refine lpi (a 0) (fun i hk_i ih_23 => ?_)
    have ol := out_le (a 5) i
    have hA2 : RM a (lnH h (outL (a 5) i).length (gp (outL (a 5) i))) := fun j hj => (lnH_ne (by decide)).trans (hA j hj)
    refine s_iload_n (pc := 23) 3 rfl rfl dX7_enter_23 ?_
    refine s_aload_n (pc := 24) 0 rfl rfl dX7_enter_24 ?_
    refine s_getr (pc := 25) (b := 56) fl_X7_25 rfl rfl rfl dX7_enter_25 ?_
    refine s_iconst (pc := 28) (k_i0N) dX7_enter_28 ?_
    refine s_ialdN (pc := 29) (_) rfl rfl (by omega) (hA2 _ (by omega)) dX7_enter_29 ?_
    refine s_icmp_geN (pc := 30) (by omega) (by omega) 62 dX7_enter_30 (by decide) (fun c_30 => ?_) (fun c_30 => ?_)
    · have ei : i = a 0 := by omega
      subst ei
      rw [hl0]
      refine s_bipush (pc := 62) (k_bm9) dX7_enter_62 ?_
      refine s_istore_n (pc := 64) 3 rfl (by decide) rfl dX7_enter_64 ?_
      refine s_iconst (pc := 65) (k_i0N) dX7_enter_65 ?_
      refine s_istore (pc := 66) (by decide) rfl dX7_enter_66 ?_
      refine s_iconst (pc := 68) (k_i1N) dX7_enter_68 ?_
      refine s_istore (pc := 69) (by decide) rfl dX7_enter_69 ?_
      exact hW E _ _ (fun z1 z2 => ent_tN hp)
    · refine s_aload_n (pc := 33) 0 rfl rfl dX7_enter_33 ?_
      refine s_getr (pc := 34) (b := 56) fl_X7_25 rfl rfl rfl dX7_enter_34 ?_
      refine s_iconst (pc := 37) (k_i5N) dX7_enter_37 ?_
      refine s_ialdN (pc := 38) (_) rfl rfl (by omega) (hA2 _ (by omega)) dX7_enter_38 ?_
      refine s_iload_n (pc := 39) 3 rfl rfl dX7_enter_39 ?_
      refine s_csi2 (pc := 40) (c_X7_has (by omega) (by omega)) ml_X7_146 ms_X7_has (by decide) (Nat.le_of_ble_eq_true rfl) dX7_enter_40 ?_
      refine s_if_neB (pc := 43) 56 dX7_enter_43 (by decide) (fun c_43 => ?_) (fun c_43 => ?_)
      · refine s_iincN (pc := 56) rfl (by decide) rfl dX7_enter_56 ?_
        refine s_goto (pc := 59) 23 dX7_enter_59 (by decide) ?_
        have ih := ih_23 (by omega)
        simp only [outL] at ih
        rw [if_pos c_43] at ih
        exact ih
      · refine s_aload_n (pc := 46) 0 rfl rfl dX7_enter_46 ?_
        refine s_getr (pc := 47) (b := 61) fl_X7_41 rfl rfl rfl dX7_enter_47 ?_
        refine s_iload_n (pc := 50) 2 rfl rfl dX7_enter_50 ?_
        refine s_iload_n (pc := 51) 3 rfl rfl dX7_enter_51 ?_
        refine s_iast (pc := 52) (_) rfl rfl (by omega) dX7_enter_52 ?_
        refine s_iincN (pc := 53) rfl (by decide) rfl dX7_enter_53 ?_
        refine s_iincN (pc := 56) rfl (by decide) rfl dX7_enter_56 ?_
        refine s_goto (pc := 59) 23 dX7_enter_59 (by decide) ?_
        have ih := ih_23 (by omega)
        simp only [outL] at ih
        rw [if_neg c_43, ← lnH_app, List.length_append, List.length_singleton] at ih
        exact ih
  · exfalso; omega

set_option maxRecDepth 20000 in
theorem c_X7_enterO {q t d : Nat} {p : List Nat} {a : Nat → Nat} {h : Hp} (hA : RM a h) (hO : OkA a) (hk : q < 6) (h0 : 0 < a 0) (hB : bstA a = some (t, d, p)) : ∃ h', FrE h h' ∧ (p.length = pop (oOut a) ∧ ∀ k, k < pop (oOut a) → h'.1 62 k = nI (gp p k)) ∧ CT 7 yX7_enter cX7_enter 8 (some .int) [.ref 50, .int (nI q)] h (some (.int (nI t))) (ui (ucp (layM h' q (nI (pop (oOut a)))) 62 0 52 (40 * q) (pop (oOut a))) 50 11 (nI d)) := by
  have o0 := hO.1.1
  have o5 := hO.1.2.2.2.2.2.1
  have o64 := hO.in64
  have ck := chk_all (oOut a) (oOut_lt hO)
  obtain ⟨hd, hlen⟩ := out_all (a 0) o0 (a 5) o5
  have hn : pop (oOut a) ≤ 6 := pop_le _
  have hl0 : (outL (a 5) (a 0)).length = pop (oOut a) := hlen
  have hA1 : RM a (lnH h (pop (oOut a)) (gp (outL (a 5) (a 0)))) := fun j hj => (lnH_ne (by decide)).trans (hA j hj)
  obtain ⟨h', ⟨F, B⟩, hW⟩ := ent_lp (r := q) hO hn o0 (PLs (pop (oOut a)) (oOut a)) ck (fun p hp j hj => pl_gp hO p hp j (by rw [chk_len _ ck p hp]; exact hj)) (outL (a 5) (a 0)) hd none (lnH h (pop (oOut a)) (gp (outL (a 5) (a 0)))) hA1 trivial (fun j hj => lnH_v hj)
  have F0 := (FrE.ln h (pop (oOut a)) (gp (outL (a 5) (a 0)))).tr F
  have eB : (PLs (pop (oOut a)) (oOut a)).foldl (sel a (q0 a) []) none = bstA a := rfl
  rw [eB] at B hW
  rw [hB] at B hW
  obtain ⟨b1, b2, b3, b4⟩ := B
  refine ⟨h', F0, ⟨b1, b4⟩, ?_⟩
  refine CT.of (own := RX7) rfl (by decide) (ro_i _) [.ref 50, .int (nI q), .null, .null, .null, .null, .null, .null] rfl (Nat.le_of_ble_eq_true rfl) (fun E hp => ?_)
  refine s_iload_n (pc := 0) 1 rfl rfl dX7_enter_0 ?_
  refine s_csi1 (pc := 1) (c_X7_isRowT hk) ml_X7_68 ms_X7_isRow (by decide) (Nat.le_of_ble_eq_true rfl) dX7_enter_1 ?_
  refine s_if_neT (pc := 4) 9 dX7_enter_4 (by decide) ?_
  refine s_aload_n (pc := 9) 0 rfl rfl dX7_enter_9 ?_
  refine s_cvi0 (pc := 10) (c_X7_are hA hO.1.1) ml_X7_198 mw_X7_are rfl (by decide) (Nat.le_of_ble_eq_true rfl) dX7_enter_10 ?_
  refine s_if_neB (pc := 13) 19 dX7_enter_13 (by decide) (fun c_13 => ?_) (fun c_13 => ?_)
  · refine s_iconst (pc := 19) (k_i0N) dX7_enter_19 ?_
    refine s_istore_n (pc := 20) 2 rfl (by decide) rfl dX7_enter_20 ?_
    refine s_iconst (pc := 21) (k_i0N) dX7_enter_21 ?_
    refine s_istore_n (pc := 22) 3 rfl (by decide) rfl dX7_enter_22 ?_
    refine WW.hp (show h = lnH h (outL (a 5) 0).length (gp (outL (a 5) 0)) from (fup_0 h 61 _).symm) ?_
    suffices lp_23 : ∀ i, i ≤ a 0 → WW E cX7_enter RX7 8 _ 23 [.ref 50, .int (nI q), .int (nI (outL (a 5) i).length), .int (nI i), .null, .null, .null, .null] (lnH h (outL (a 5) i).length (gp (outL (a 5) i))) [] from lp_23 0 (by omega)
    refine lpi (a 0) (fun i hk_i ih_23 => ?_)
    have ol := out_le (a 5) i
    have hA2 : RM a (lnH h (outL (a 5) i).length (gp (outL (a 5) i))) := fun j hj => (lnH_ne (by decide)).trans (hA j hj)
    refine s_iload_n (pc := 23) 3 rfl rfl dX7_enter_23 ?_
    refine s_aload_n (pc := 24) 0 rfl rfl dX7_enter_24 ?_
    refine s_getr (pc := 25) (b := 56) fl_X7_25 rfl rfl rfl dX7_enter_25 ?_
    refine s_iconst (pc := 28) (k_i0N) dX7_enter_28 ?_
    refine s_ialdN (pc := 29) (_) rfl rfl (by omega) (hA2 _ (by omega)) dX7_enter_29 ?_
    refine s_icmp_geN (pc := 30) (by omega) (by omega) 62 dX7_enter_30 (by decide) (fun c_30 => ?_) (fun c_30 => ?_)
    · have ei : i = a 0 := by omega
      subst ei
      rw [hl0]
      refine s_bipush (pc := 62) (k_bm9) dX7_enter_62 ?_
      refine s_istore_n (pc := 64) 3 rfl (by decide) rfl dX7_enter_64 ?_
      refine s_iconst (pc := 65) (k_i0N) dX7_enter_65 ?_
      refine s_istore (pc := 66) (by decide) rfl dX7_enter_66 ?_
      refine s_iconst (pc := 68) (k_i1N) dX7_enter_68 ?_
      refine s_istore (pc := 69) (by decide) rfl dX7_enter_69 ?_
      exact hW E _ _ (fun z1 z2 => ent_tO hk hn b2 hp)
    · refine s_aload_n (pc := 33) 0 rfl rfl dX7_enter_33 ?_
      refine s_getr (pc := 34) (b := 56) fl_X7_25 rfl rfl rfl dX7_enter_34 ?_
      refine s_iconst (pc := 37) (k_i5N) dX7_enter_37 ?_
      refine s_ialdN (pc := 38) (_) rfl rfl (by omega) (hA2 _ (by omega)) dX7_enter_38 ?_
      refine s_iload_n (pc := 39) 3 rfl rfl dX7_enter_39 ?_
      refine s_csi2 (pc := 40) (c_X7_has (by omega) (by omega)) ml_X7_146 ms_X7_has (by decide) (Nat.le_of_ble_eq_true rfl) dX7_enter_40 ?_
      refine s_if_neB (pc := 43) 56 dX7_enter_43 (by decide) (fun c_43 => ?_) (fun c_43 => ?_)
      · refine s_iincN (pc := 56) rfl (by decide) rfl dX7_enter_56 ?_
        refine s_goto (pc := 59) 23 dX7_enter_59 (by decide) ?_
        have ih := ih_23 (by omega)
        simp only [outL] at ih
        rw [if_pos c_43] at ih
        exact ih
      · refine s_aload_n (pc := 46) 0 rfl rfl dX7_enter_46 ?_
        refine s_getr (pc := 47) (b := 61) fl_X7_41 rfl rfl rfl dX7_enter_47 ?_
        refine s_iload_n (pc := 50) 2 rfl rfl dX7_enter_50 ?_
        refine s_iload_n (pc := 51) 3 rfl rfl dX7_enter_51 ?_
        refine s_iast (pc := 52) (_) rfl rfl (by omega) dX7_enter_52 ?_
        refine s_iincN (pc := 53) rfl (by decide) rfl dX7_enter_53 ?_
        refine s_iincN (pc := 56) rfl (by decide) rfl dX7_enter_56 ?_
        refine s_goto (pc := 59) 23 dX7_enter_59 (by decide) ?_
        have ih := ih_23 (by omega)
        simp only [outL] at ih
        rw [if_neg c_43, ← lnH_app, List.length_append, List.length_singleton] at ih
        exact ih
  · exfalso; omega
