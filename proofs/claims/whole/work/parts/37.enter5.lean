theorem kp_ok {h : Hp} {q : Qs} {pre : List Nat} {b : Bst} (hq : QH q h) (hP : PH pre h) (hn : pre.length ≤ 6) (ht : q.2.2.1 ≤ 6) (hd : q.2.2.2 ≤ 36) : FrQ h (kpH h pre.length q.2.2.1 q.2.2.2) ∧ QH q (kpH h pre.length q.2.2.1 q.2.2.2) ∧ BC (some (q.2.2.1, q.2.2.2, pre)) (kpH h pre.length q.2.2.1 q.2.2.2) ∧ PH pre (kpH h pre.length q.2.2.1 q.2.2.2) := by
  refine ⟨⟨rfl, fun x y h1 _ h3 => ?_⟩, ⟨hq.1, hq.2.1, hq.2.2.1, hq.2.2.2⟩, ⟨rfl, ⟨hn, ht, hd⟩, rfl, rfl, rfl, fun k hk => ?_⟩, fun k hk => ?_⟩
  · unfold kpH
    rw [ucp_ne h3, ui_ne h1, ui_ne h1, ui_ne h1, ui_ne h1]
  · unfold kpH
    show (if (43 : Nat) = 43 ∧ 0 ≤ k ∧ k < 0 + pre.length then (ui (ui (ui (ui h 41 7 (nI 1)) 41 8 (nI pre.length)) 41 9 (nI q.2.2.1)) 41 10 (nI q.2.2.2)).1 42 (0 + (k - 0)) else _) = _
    rw [if_pos ⟨rfl, Nat.zero_le _, by omega⟩, Nat.zero_add, Nat.sub_zero]
    exact hP k hk
  · unfold kpH
    rw [ucp_ne (by decide)]
    exact hP k hk
def SkR (a : Nat → Nat) (D f : Nat) : Prop := ∀ (h : Hp) (q : Qs) (b : Bst) (pre : List Nat), RC a h → OkQ a q → QH q h → BC b h → PH pre h → pop (oS a q.1) = f → pre.length + f ≤ 6 → q.2.2.1 ≤ pre.length → q.2.2.2 ≤ 6 * pre.length →
    ∃ h', (FrQ h h' ∧ QH q h' ∧ BC (seekN a f q (oS a q.1) pre b) h' ∧ PH pre h') ∧ CT D yX4_seek cX4_seek 3 none [.ref 41, .int (nI pre.length)] h none h'
theorem sb_ok {a : Nat → Nat} {D f i : Nat} {h : Hp} {q : Qs} {b : Bst} {pre : List Nat} (hO : OkA a) (hD : 2 ≤ D) (hS : SkR a D f) (hR : RC a h) (hk : OkQ a q) (hq : QH q h) (hB : BC b h) (hP : PH pre h) (hf : pop (oS a q.1) = f + 1) (hl : pre.length + (f + 1) ≤ 6) (ht : q.2.2.1 ≤ pre.length) (hd : q.2.2.2 ≤ 6 * pre.length) (hi : i < a 0) (hb : ¬ q.1.testBit i = true) :
    ∃ h', (FrQ h h' ∧ QH q h' ∧ BC ((fun b i => if (oS a q.1).testBit i = true ∧ qcan a q i = true then seekN a f (qtk a q i) (clrN (oS a q.1) i) (pre ++ [i]) b else b) b i) h' ∧ PH pre h') ∧ CT (D + 1) yX4_seekBehind cX4_seekBehind 7 none [.ref 41, .int (nI i), .int (nI pre.length)] h none h' := by
  have o0 := hO.1.1
  have F1 : FrQ h (ui h 42 pre.length (nI i)) := ⟨rfl, fun x y _ h2 _ => ui_ne h2⟩
  have hR1 := hR.fq F1
  have hq1 : QH q (ui h 42 pre.length (nI i)) := ⟨hq.1, hq.2.1, hq.2.2.1, hq.2.2.2⟩
  have hB1 : BC b (ui h 42 pre.length (nI i)) := hB.to (fun y _ => ui_ne (by decide)) (fun y => ui_ne (by decide))
  have es : setQ (ui h 42 pre.length (nI i)) q = ui h 42 pre.length (nI i) := sQ_of hq1.1 hq1.2.1 hq1.2.2.1 hq1.2.2.2
  have hT := c_X4_takesG hR1 hO hi hk hb
  obtain ⟨e1, e2⟩ := oS_tk (a 0) o0 q.1 hk.1 i hi hb
  have ob : (oS a q.1).testBit i = true := by
    unfold oS
    rw [oOut_tb (a 0) o0 q.1 hk.1 i (by omega), Bool.eq_false_iff.mpr hb]
    simp [hi]
  obtain ⟨qs, ql, qt, qd⟩ := q
  by_cases c : qcan a (qs, ql, qt, qd) i = true
  · rw [if_pos c, es, bi_cg (q := True) ⟨fun _ => trivial, fun _ => c⟩] at hT
    have gl : (pre ++ [i]).length = pre.length + 1 := by rw [List.length_append, List.length_singleton]
    have sl := shift_le a i qs
    obtain ⟨h3, ⟨f3, q3, b3, p3⟩, c3⟩ := hS (setQ (ui h 42 pre.length (nI i)) (qtk a (qs, ql, qt, qd) i)) (qtk a (qs, ql, qt, qd) i) b (pre ++ [i]) (hR1.sQ _) (hk.tk hO hi) ⟨rfl, rfl, rfl, rfl⟩
      (hB1.to (fun y hy => sQ_hi (by omega)) (fun y => sQ_ne (by decide)))
      (fun k hk => by
        rw [gl] at hk
        rw [sQ_ne (by decide), gp_app]
        by_cases e : k = pre.length
        · rw [if_pos e, e, ui_eq]
        · rw [if_neg e, if_pos (by omega), ui_nk e]; exact hP k (by omega))
      (by
        have : pop (oS a (qs ||| 2 ^ i)) + 1 = f + 1 := by rw [← hf]; exact e2.symm
        show pop (oS a (qs ||| 2 ^ i)) = f
        omega)
      (by rw [gl]; omega)
      (by
        rw [gl]
        show (if ql < shiftN a i qs + 1 then qt + 1 else qt) ≤ _
        have : qt ≤ pre.length := ht
        split <;> omega)
      (by
        rw [gl]
        show qd + shiftN a i qs ≤ _
        have : qd ≤ 6 * pre.length := hd
        omega)
    rw [gl] at c3
    have e1' : oS a (qtk a (qs, ql, qt, qd) i).1 = clrN (oS a qs) i := e1
    rw [e1'] at b3
    refine ⟨setQ h3 (qs, ql, qt, qd), ⟨((F1.tr (FrQ.sQ _ _)).tr f3).tr (FrQ.sQ _ _), ⟨rfl, rfl, rfl, rfl⟩, ?_, fun k hk => ?_⟩, c_X4_sbT hq (by omega) hD hT c3⟩
    · show BC (if _ then _ else _) _
      rw [if_pos ⟨ob, c⟩]
      exact b3.to (fun y hy => sQ_hi (by omega)) (fun y => sQ_ne (by decide))
    · rw [sQ_ne (by decide)]
      have := p3 k (by rw [gl]; omega)
      rw [this, gp_app, if_neg (by omega), if_pos hk]
  · rw [if_neg c, es, bi_cg (q := False) ⟨fun z => c z, fun z => z.elim⟩] at hT
    refine ⟨setQ (ui h 42 pre.length (nI i)) (qs, ql, qt, qd), ⟨F1.tr (FrQ.sQ _ _), ⟨rfl, rfl, rfl, rfl⟩, ?_, fun k hk => ?_⟩, c_X4_sbF hq (by omega) hD hT⟩
    · show BC (if _ then _ else _) _
      rw [if_neg (fun z => c z.2)]
      exact hB1.to (fun y hy => sQ_hi (by omega)) (fun y => sQ_ne (by decide))
    · rw [sQ_ne (by decide), ui_nk (by omega)]
      exact hP k hk
theorem sk_lp {a : Nat → Nat} {D f : Nat} {q : Qs} {pre : List Nat} (hO : OkA a) (hD : 2 ≤ D) (hS : SkR a D f) (hk : OkQ a q) (hf : pop (oS a q.1) = f + 1) (hl : pre.length + (f + 1) ≤ 6) (ht : q.2.2.1 ≤ pre.length) (hd : q.2.2.2 ≤ 6 * pre.length) : ∀ i, i ≤ a 0 → ∀ (h : Hp) (b : Bst), RC a h → QH q h → BC b h → PH pre h →
    ∃ h', (FrQ h h' ∧ QH q h' ∧ BC (frU (fun b i => if (oS a q.1).testBit i = true ∧ qcan a q i = true then seekN a f (qtk a q i) (clrN (oS a q.1) i) (pre ++ [i]) b else b) (a 0 - i) i b) h' ∧ PH pre h') ∧ ∀ E : Cx, WW E cX4_seek RX4 3 (D + 2) 54 [.ref 41, .int (nI pre.length), .int (nI (a 0))] h' [] → WW E cX4_seek RX4 3 (D + 2) 54 [.ref 41, .int (nI pre.length), .int (nI i)] h [] := by
  refine lpi (a 0) (fun i hia ih h b hR hq hB hP => ?_)
  have o0 := hO.1.1
  by_cases e : i = a 0
  · subst e
    rw [Nat.sub_self]
    exact ⟨h, ⟨FrQ.rf h, hq, hB, hP⟩, fun E k => k⟩
  · have hi : i < a 0 := by omega
    rw [show a 0 - i = (a 0 - (i + 1)) + 1 by omega]
    by_cases hb : q.1.testBit i = true
    · have ob : ¬ (oS a q.1).testBit i = true := by
        unfold oS
        rw [oOut_tb (a 0) o0 q.1 hk.1 i (by omega), hb]
        simp
      obtain ⟨h', F, k⟩ := ih hi h b hR hq hB hP
      refine ⟨h', ?_, fun E z => ?_⟩
      · simp only [frU]
        rw [if_neg (fun z => ob z.1)]
        exact F
      · obtain ⟨qs, ql, qt, qd⟩ := q
        exact sk_in hR hO hq hi hk.2.1 hb (k E z)
    · obtain ⟨h2, ⟨F2, q2, b2, p2⟩, c2⟩ := sb_ok hO hD hS hR hk hq hB hP hf hl ht hd hi hb
      obtain ⟨h', ⟨F, q', b', p'⟩, k⟩ := ih hi h2 _ (hR.fq F2) q2 b2 p2
      refine ⟨h', ⟨F2.tr F, q', b', p'⟩, fun E z => ?_⟩
      obtain ⟨qs, ql, qt, qd⟩ := q
      exact sk_out hR hO hq hi hk.2.1 hb c2 (k E z)
theorem seek_node {a : Nat → Nat} {D f : Nat} {h : Hp} {q : Qs} {b : Bst} {pre : List Nat} (hO : OkA a) (hD : 2 ≤ D) (hS : SkR a D f) (hR : RC a h) (hk : OkQ a q) (hq : QH q h) (hB : BC b h) (hP : PH pre h) (hf : pop (oS a q.1) = f + 1) (hl : pre.length + (f + 1) ≤ 6) (ht : q.2.2.1 ≤ pre.length) (hd : q.2.2.2 ≤ 6 * pre.length) (hb : btr q.2.2.1 q.2.2.2 b = true) :
    ∃ h', (FrQ h h' ∧ QH q h' ∧ BC (frU (fun b i => if (oS a q.1).testBit i = true ∧ qcan a q i = true then seekN a f (qtk a q i) (clrN (oS a q.1) i) (pre ++ [i]) b else b) 6 0 b) h' ∧ PH pre h') ∧ CT (D + 2) yX4_seek cX4_seek 3 none [.ref 41, .int (nI pre.length)] h none h' := by
  have o0 := hO.1.1
  have hns : ¬ q.1 = 2 ^ a 0 - 1 := fun z => by
    have := (oS_0 (a 0) o0 q.1 hk.1).mpr z
    unfold oS at hf
    omega
  obtain ⟨h', ⟨F, q', b', p'⟩, k⟩ := sk_lp hO hD hS hk hf hl ht hd 0 (Nat.zero_le _) h b hR hq hB hP
  rw [Nat.sub_zero] at b'
  have em : frU (fun b i => if (oS a q.1).testBit i = true ∧ qcan a q i = true then seekN a f (qtk a q i) (clrN (oS a q.1) i) (pre ++ [i]) b else b) 6 0 b = frU (fun b i => if (oS a q.1).testBit i = true ∧ qcan a q i = true then seekN a f (qtk a q i) (clrN (oS a q.1) i) (pre ++ [i]) b else b) (a 0) 0 b := by
    have := fr_more (st := (fun b i => if (oS a q.1).testBit i = true ∧ qcan a q i = true then seekN a f (qtk a q i) (clrN (oS a q.1) i) (pre ++ [i]) b else b)) (n := a 0) 6 0 b (fun b j hj => by
      rw [Nat.zero_add] at hj ⊢
      have ob : ¬ (oS a q.1).testBit j = true := by
        unfold oS
        rw [Nat.testBit_lt_two_pow]
        · exact Bool.false_ne_true
        · have h2 : 2 ^ a 0 ≤ 2 ^ j := Nat.pow_le_pow_right (by decide) hj
          have := Nat.one_le_two_pow (n := a 0)
          omega
      rw [if_neg (fun z => ob z.1)]) (by omega)
    rw [Nat.sub_zero] at this
    exact this
  rw [em]
  refine ⟨h', ⟨F, q', b', p'⟩, CT.of (own := RX4) rfl (by decide) ro_v [.ref 41, .int (nI pre.length), .null] rfl (Nat.le_of_ble_eq_true rfl) (fun E hp => ?_)⟩
  have kk := k E (sk_end (hR.fq F) hO hp)
  obtain ⟨qs, ql, qt, qd⟩ := q
  cases b with
  | none => exact sk_n0 hR hO hq (by omega) hB hk.2.1 hns kk
  | some b =>
    obtain ⟨bt, bd, bp⟩ := b
    obtain ⟨b1, ⟨b2, b3, b4⟩, b5, b6, b7, b8⟩ := hB
    have ht2 : qt ≤ pre.length := ht
    have hd2 : qd ≤ 6 * pre.length := hd
    exact sk_n1 hR hO hq (by omega) b1 b6 b7 (by omega) (by omega) (by omega) (by omega) (by simpa only [btr, Bool.or_eq_true, Bool.and_eq_true, decide_eq_true_eq] using hb) hk.2.1 hns kk
theorem seek_ok {a : Nat → Nat} (hO : OkA a) : ∀ f, SkR a (2 * f + 2) f := by
  have o0 := hO.1.1
  intro f
  induction f with
  | zero =>
    intro h q b pre hR hk hq hB hP hf hl ht hd
    have hs : q.1 = 2 ^ a 0 - 1 := (oS_0 (a 0) o0 q.1 hk.1).mp hf
    obtain ⟨k1, k2, k3, k4⟩ := kp_ok (b := b) hq hP (by omega) (by omega) (by omega)
    by_cases hb : btr q.2.2.1 q.2.2.2 b = true
    · refine ⟨kpH h pre.length q.2.2.1 q.2.2.2, ⟨k1, k2, ?_, k4⟩, ?_⟩
      · simp only [seekN]; rw [if_pos hb]; exact k3
      · obtain ⟨qs, ql, qt, qd⟩ := q
        cases b with
        | none => exact c_X4_skL0 (D := 0) hR hO hq (by omega) hB hs
        | some b =>
          obtain ⟨bt, bd, bp⟩ := b
          obtain ⟨b1, ⟨b2, b3, b4⟩, b5, b6, b7, b8⟩ := hB
          have ht2 : qt ≤ pre.length := ht
          have hd2 : qd ≤ 6 * pre.length := hd
          exact c_X4_skL1 (D := 0) hR hO hq (by omega) b1 b6 b7 (by omega) (by omega) (by omega) (by omega) (by simpa only [btr, Bool.or_eq_true, Bool.and_eq_true, decide_eq_true_eq] using hb) hs
    · refine ⟨h, ⟨FrQ.rf h, hq, ?_, hP⟩, ?_⟩
      · simp only [seekN]; rw [if_neg hb]; exact hB
      · obtain ⟨qs, ql, qt, qd⟩ := q
        cases b with
        | none => exact absurd rfl hb
        | some b =>
          obtain ⟨bt, bd, bp⟩ := b
          obtain ⟨b1, ⟨b2, b3, b4⟩, b5, b6, b7, b8⟩ := hB
          have ht2 : qt ≤ pre.length := ht
          have hd2 : qd ≤ 6 * pre.length := hd
          exact c_X4_skP (D := 0) hR hO hq (by omega) b1 b6 b7 (by omega) (by omega) (by omega) (by omega) (by simpa only [btr, Bool.or_eq_true, Bool.and_eq_true, decide_eq_true_eq] using hb)
  | succ f ih =>
    intro h q b pre hR hk hq hB hP hf hl ht hd
    by_cases hb : btr q.2.2.1 q.2.2.2 b = true
    · obtain ⟨h', F, c⟩ := seek_node hO (by omega) ih hR hk hq hB hP hf hl ht hd hb
      refine ⟨h', ?_, c⟩
      simp only [seekN]
      rw [if_pos hb]
      exact F
    · refine ⟨h, ⟨FrQ.rf h, hq, ?_, hP⟩, ?_⟩
      · simp only [seekN]; rw [if_neg hb]; exact hB
      · obtain ⟨qs, ql, qt, qd⟩ := q
        cases b with
        | none => exact absurd rfl hb
        | some b =>
          obtain ⟨bt, bd, bp⟩ := b
          obtain ⟨b1, ⟨b2, b3, b4⟩, b5, b6, b7, b8⟩ := hB
          have ht2 : qt ≤ pre.length := ht
          have hd2 : qd ≤ 6 * pre.length := hd
          exact c_X4_skP (D := 2 * f + 2) hR hO hq (by omega) b1 b6 b7 (by omega) (by omega) (by omega) (by omega) (by simpa only [btr, Bool.or_eq_true, Bool.and_eq_true, decide_eq_true_eq] using hb)

set_option maxRecDepth 20000 in
theorem c_X4_fbN {f : Nat} {h3 : Hp} {a : Nat → Nat} {h : Hp} (hR : RC a h) (hO : OkA a) (hf : f ≤ 6) (hS : CT (2 * f + 2) yX4_seek cX4_seek 3 none [.ref 41, .int (nI 0)] (ui (setQ h (q0 a)) 41 7 (nI 0)) none h3) (h7 : h3.1 41 7 = nI 0) : CT 15 yX4_findBest cX4_findBest 1 (some .boolean) [.ref 41] h (some (.int (bi False))) (h3) := by
  refine CT.of (own := RX4) rfl (by decide) (ro_z _) [.ref 41] rfl (Nat.le_of_ble_eq_true rfl) (fun E hp => ?_)
  refine s_aload_n (pc := 0) 0 rfl rfl dX4_findBest_0 ?_
  refine s_cvn0 (pc := 1) (c_X4_begin hR hO) ml_X4_70 mw_X4_begin rfl (by omega) (Nat.le_of_ble_eq_true rfl) dX4_findBest_1 ?_
  refine s_aload_n (pc := 4) 0 rfl rfl dX4_findBest_4 ?_
  refine s_iconst (pc := 5) (k_i0N) dX4_findBest_5 ?_
  refine s_putz (pc := 6) ⟨by rfl, by rfl⟩ fl_X4_31 fw_4_7 rfl rfl dX4_findBest_6 ?_
  refine s_aload_n (pc := 9) 0 rfl rfl dX4_findBest_9 ?_
  refine s_iconst (pc := 10) (k_i0N) dX4_findBest_10 ?_
  refine s_cvn1 (pc := 11) (hS) ml_X4_73 mw_X4_seek rfl (by omega) (Nat.le_of_ble_eq_true rfl) dX4_findBest_11 ?_
  refine s_aload_n (pc := 14) 0 rfl rfl dX4_findBest_14 ?_
  refine s_getzE (pc := 15) fl_X4_31 rfl rfl h7 dX4_findBest_15 ?_
  refine s_iret (pc := 18) dX4_findBest_18 (PostE.of hp ?_ ?_)
  · rfl
  · rfl

set_option maxRecDepth 20000 in
theorem c_X4_fbO {f : Nat} {h3 : Hp} {a : Nat → Nat} {h : Hp} (hR : RC a h) (hO : OkA a) (hf : f ≤ 6) (hS : CT (2 * f + 2) yX4_seek cX4_seek 3 none [.ref 41, .int (nI 0)] (ui (setQ h (q0 a)) 41 7 (nI 0)) none h3) (h7 : h3.1 41 7 = nI 1) : CT 15 yX4_findBest cX4_findBest 1 (some .boolean) [.ref 41] h (some (.int (bi True))) (h3) := by
  refine CT.of (own := RX4) rfl (by decide) (ro_z _) [.ref 41] rfl (Nat.le_of_ble_eq_true rfl) (fun E hp => ?_)
  refine s_aload_n (pc := 0) 0 rfl rfl dX4_findBest_0 ?_
  refine s_cvn0 (pc := 1) (c_X4_begin hR hO) ml_X4_70 mw_X4_begin rfl (by omega) (Nat.le_of_ble_eq_true rfl) dX4_findBest_1 ?_
  refine s_aload_n (pc := 4) 0 rfl rfl dX4_findBest_4 ?_
  refine s_iconst (pc := 5) (k_i0N) dX4_findBest_5 ?_
  refine s_putz (pc := 6) ⟨by rfl, by rfl⟩ fl_X4_31 fw_4_7 rfl rfl dX4_findBest_6 ?_
  refine s_aload_n (pc := 9) 0 rfl rfl dX4_findBest_9 ?_
  refine s_iconst (pc := 10) (k_i0N) dX4_findBest_10 ?_
  refine s_cvn1 (pc := 11) (hS) ml_X4_73 mw_X4_seek rfl (by omega) (Nat.le_of_ble_eq_true rfl) dX4_findBest_11 ?_
  refine s_aload_n (pc := 14) 0 rfl rfl dX4_findBest_14 ?_
  refine s_getzE (pc := 15) fl_X4_31 rfl rfl h7 dX4_findBest_15 ?_
  refine s_iret (pc := 18) dX4_findBest_18 (PostE.of hp ?_ ?_)
  · rfl
  · rfl

theorem fb_ok {a : Nat → Nat} {h : Hp} (hR : RC a h) (hO : OkA a) : ∃ h', (FrQ h h' ∧ BC (bstA a) h') ∧ CT 15 yX4_findBest cX4_findBest 1 (some .boolean) [.ref 41] h (some (.int (bi (¬ bstA a = none)))) h' := by
  have F1 : FrQ h (ui (setQ h (q0 a)) 41 7 (nI 0)) := (FrQ.sQ h _).tr ⟨rfl, fun x y h1 _ _ => ui_ne h1⟩
  have p6 : pop (oS a (q0 a).1) ≤ 6 := pop_le _
  obtain ⟨h', ⟨f1, f2, f3, f4⟩, c⟩ := seek_ok hO (pop (oS a (q0 a).1)) (ui (setQ h (q0 a)) 41 7 (nI 0)) (q0 a) none [] (hR.fq F1) (OkQ.z hO) ⟨rfl, rfl, rfl, rfl⟩ rfl (fun k hk => absurd hk (Nat.not_lt_zero _)) rfl (by rw [List.length_nil]; omega) (Nat.le_refl _) (Nat.le_refl _)
  rw [seek_eq] at f3
  have f3' : BC (bstA a) h' := f3
  refine ⟨h', ⟨F1.tr f1, f3'⟩, ?_⟩
  cases hb : bstA a with
  | none =>
    rw [hb] at f3'
    exact (c_X4_fbN hR hO p6 c f3').ret (bi_cg ⟨fun z => z.elim, fun z => z rfl⟩)
  | some b =>
    rw [hb] at f3'
    exact (c_X4_fbO hR hO p6 c f3'.1).ret (bi_cg ⟨fun _ z => by simp at z, fun _ => trivial⟩)

set_option maxRecDepth 20000 in
theorem c_X6_enterB {s : Int32} {a : Nat → Nat} {h : Hp} (hR : RC a h) (hO : OkA a) (hm : h.1 1 0 = nI 6) (hb : s < 0 ∨ nI 6 ≤ s) : CT 16 yX6_enter cX6_enter 3 (some .int) [.ref 0, .int s] h (some (.int (-1))) (h) := by
  refine CT.of (own := RX6) rfl (by decide) (ro_i _) [.ref 0, .int s, .null] rfl (Nat.le_of_ble_eq_true rfl) (fun E hp => ?_)
  refine s_aload_n (pc := 0) 0 rfl rfl dX6_enter_0 ?_
  refine s_getr (pc := 1) (b := 1) fl_X6_14 rfl rfl rfl dX6_enter_1 ?_
  refine s_iload_n (pc := 4) 1 rfl rfl dX6_enter_4 ?_
  refine s_cvi1 (pc := 5) (c_X5_isNumber_1F hm hb) ml_X6_96 mw_X5_isNumber rfl (by decide) (Nat.le_of_ble_eq_true rfl) dX6_enter_5 ?_
  refine s_if_neF (pc := 8) 13 dX6_enter_8 (by decide) ?_
  refine s_iconst (pc := 11) (k_im1) dX6_enter_11 ?_
  refine s_iret (pc := 12) dX6_enter_12 (PostE.of hp ?_ ?_)
  · rfl
  · rfl

set_option maxRecDepth 20000 in
theorem c_X6_enterE {q : Nat} {a : Nat → Nat} {h : Hp} (hR : RC a h) (hO : OkA a) (hm : h.1 1 0 = nI 6) (hk : q < 6) (h0 : a 0 = 0) : CT 16 yX6_enter cX6_enter 3 (some .int) [.ref 0, .int (nI q)] h (some (.int (-4))) (h) := by
  refine CT.of (own := RX6) rfl (by decide) (ro_i _) [.ref 0, .int (nI q), .null] rfl (Nat.le_of_ble_eq_true rfl) (fun E hp => ?_)
  refine s_aload_n (pc := 0) 0 rfl rfl dX6_enter_0 ?_
  refine s_getr (pc := 1) (b := 1) fl_X6_14 rfl rfl rfl dX6_enter_1 ?_
  refine s_iload_n (pc := 4) 1 rfl rfl dX6_enter_4 ?_
  refine s_cvi1 (pc := 5) (c_X5_isNumber_1T hm hk) ml_X6_96 mw_X5_isNumber rfl (by decide) (Nat.le_of_ble_eq_true rfl) dX6_enter_5 ?_
  refine s_if_neT (pc := 8) 13 dX6_enter_8 (by decide) ?_
  refine s_aload_n (pc := 13) 0 rfl rfl dX6_enter_13 ?_
  refine s_getr (pc := 14) (b := 23) fl_X6_27 rfl rfl rfl dX6_enter_14 ?_
  refine s_cvi0 (pc := 17) (c_X2_isEmpty hR.1 hO.1.1) ml_X6_170 mw_X2_isEmpty rfl (by decide) (Nat.le_of_ble_eq_true rfl) dX6_enter_17 ?_
  refine s_if_eqB (pc := 20) 26 dX6_enter_20 (by decide) (fun c_20 => ?_) (fun c_20 => ?_)
  · exfalso; omega
  · refine s_bipush (pc := 23) (k_bm4) dX6_enter_23 ?_
    refine s_iret (pc := 25) dX6_enter_25 (PostE.of hp ?_ ?_)
    · rfl
    · rfl

set_option maxRecDepth 20000 in
theorem c_X6_enterN {q : Nat} {h2 : Hp} {a : Nat → Nat} {h : Hp} (hR : RC a h) (hO : OkA a) (hm : h.1 1 0 = nI 6) (hk : q < 6) (h0 : 0 < a 0) (hB : bstA a = none) (hfb : CT 15 yX4_findBest cX4_findBest 1 (some .boolean) [.ref 41] h (some (.int (bi (¬ bstA a = none)))) h2) : CT 16 yX6_enter cX6_enter 3 (some .int) [.ref 0, .int (nI q)] h (some (.int (-9))) (h2) := by
  refine CT.of (own := RX6) rfl (by decide) (ro_i _) [.ref 0, .int (nI q), .null] rfl (Nat.le_of_ble_eq_true rfl) (fun E hp => ?_)
  refine s_aload_n (pc := 0) 0 rfl rfl dX6_enter_0 ?_
  refine s_getr (pc := 1) (b := 1) fl_X6_14 rfl rfl rfl dX6_enter_1 ?_
  refine s_iload_n (pc := 4) 1 rfl rfl dX6_enter_4 ?_
  refine s_cvi1 (pc := 5) (c_X5_isNumber_1T hm hk) ml_X6_96 mw_X5_isNumber rfl (by decide) (Nat.le_of_ble_eq_true rfl) dX6_enter_5 ?_
  refine s_if_neT (pc := 8) 13 dX6_enter_8 (by decide) ?_
  refine s_aload_n (pc := 13) 0 rfl rfl dX6_enter_13 ?_
  refine s_getr (pc := 14) (b := 23) fl_X6_27 rfl rfl rfl dX6_enter_14 ?_
  refine s_cvi0 (pc := 17) (c_X2_isEmpty hR.1 hO.1.1) ml_X6_170 mw_X2_isEmpty rfl (by decide) (Nat.le_of_ble_eq_true rfl) dX6_enter_17 ?_
  refine s_if_eqB (pc := 20) 26 dX6_enter_20 (by decide) (fun c_20 => ?_) (fun c_20 => ?_)
  · refine s_aload_n (pc := 26) 0 rfl rfl dX6_enter_26 ?_
    refine s_getr (pc := 27) (b := 41) fl_X6_43 rfl rfl rfl dX6_enter_27 ?_
    refine s_cvi0 (pc := 30) (hfb) ml_X6_214 mw_X4_findBest rfl (by decide) (Nat.le_of_ble_eq_true rfl) dX6_enter_30 ?_
    refine s_if_neB (pc := 33) 39 dX6_enter_33 (by decide) (fun c_33 => ?_) (fun c_33 => ?_)
    · exfalso; exact c_33 hB
    · refine s_bipush (pc := 36) (k_bm9) dX6_enter_36 ?_
      refine s_iret (pc := 38) dX6_enter_38 (PostE.of hp ?_ ?_)
      · rfl
      · rfl
  · exfalso; omega

set_option maxRecDepth 20000 in
theorem c_X6_enterO {q t d : Nat} {p : List Nat} {h2 : Hp} {a : Nat → Nat} {h : Hp} (hR : RC a h) (hO : OkA a) (hm : h.1 1 0 = nI 6) (hq : h.1 1 1 = nI 40) (hk : q < 6) (h0 : 0 < a 0) (hB : bstA a = some (t, d, p)) (F : FrQ h h2) (B : BC (some (t, d, p)) h2) (hfb : CT 15 yX4_findBest cX4_findBest 1 (some .boolean) [.ref 41] h (some (.int (bi (¬ bstA a = none)))) h2) : CT 16 yX6_enter cX6_enter 3 (some .int) [.ref 0, .int (nI q)] h (some (.int (nI t))) (ui (fup (fil (ui h2 2 q (nI p.length)) (3 + 1 + q) 0 40 (nI 0)) (3 + 1 + q) p.length (fun y => nI (gp p y))) 0 10 (nI d)) := by
  obtain ⟨b1, ⟨b2, b3, b4⟩, b5, b6, b7, b8⟩ := B
  have hm2 : h2.1 1 0 = nI 6 := (F.2 1 0 (by decide) (by decide) (by decide)).trans hm
  have hq2 : h2.1 1 1 = nI 40 := (F.2 1 1 (by decide) (by decide) (by decide)).trans hq
  have ne : ∀ k x y, x ≠ 2 → x ≠ 3 + 1 + q → (fup (fil (ui h2 2 q (nI p.length)) (3 + 1 + q) 0 40 (nI 0)) (3 + 1 + q) k (fun y => nI (gp p y))).1 x y = h2.1 x y := fun k x y n1 n2 => by rw [fup_ne n2, fil_ne n2, ui_ne n1]
  have z2 : ∀ k, (fup (fil (ui h2 2 q (nI p.length)) (3 + 1 + q) 0 40 (nI 0)) (3 + 1 + q) k (fun y => nI (gp p y))).1 2 q = nI p.length := fun k => by rw [fup_ne (by omega), fil_ne (by omega), ui_eq]
  refine CT.of (own := RX6) rfl (by decide) (ro_i _) [.ref 0, .int (nI q), .null] rfl (Nat.le_of_ble_eq_true rfl) (fun E hp => ?_)
  refine s_aload_n (pc := 0) 0 rfl rfl dX6_enter_0 ?_
  refine s_getr (pc := 1) (b := 1) fl_X6_14 rfl rfl rfl dX6_enter_1 ?_
  refine s_iload_n (pc := 4) 1 rfl rfl dX6_enter_4 ?_
  refine s_cvi1 (pc := 5) (c_X5_isNumber_1T hm hk) ml_X6_96 mw_X5_isNumber rfl (by decide) (Nat.le_of_ble_eq_true rfl) dX6_enter_5 ?_
  refine s_if_neT (pc := 8) 13 dX6_enter_8 (by decide) ?_
  refine s_aload_n (pc := 13) 0 rfl rfl dX6_enter_13 ?_
  refine s_getr (pc := 14) (b := 23) fl_X6_27 rfl rfl rfl dX6_enter_14 ?_
  refine s_cvi0 (pc := 17) (c_X2_isEmpty hR.1 hO.1.1) ml_X6_170 mw_X2_isEmpty rfl (by decide) (Nat.le_of_ble_eq_true rfl) dX6_enter_17 ?_
  refine s_if_eqB (pc := 20) 26 dX6_enter_20 (by decide) (fun c_20 => ?_) (fun c_20 => ?_)
  · refine s_aload_n (pc := 26) 0 rfl rfl dX6_enter_26 ?_
    refine s_getr (pc := 27) (b := 41) fl_X6_43 rfl rfl rfl dX6_enter_27 ?_
    refine s_cvi0 (pc := 30) (hfb) ml_X6_214 mw_X4_findBest rfl (by decide) (Nat.le_of_ble_eq_true rfl) dX6_enter_30 ?_
    refine s_if_neB (pc := 33) 39 dX6_enter_33 (by decide) (fun c_33 => ?_) (fun c_33 => ?_)
    · refine s_aload_n (pc := 39) 0 rfl rfl dX6_enter_39 ?_
      refine s_getr (pc := 40) (b := 1) fl_X6_14 rfl rfl rfl dX6_enter_40 ?_
      refine s_iload_n (pc := 43) 1 rfl rfl dX6_enter_43 ?_
      refine s_aload_n (pc := 44) 0 rfl rfl dX6_enter_44 ?_
      refine s_getr (pc := 45) (b := 41) fl_X6_43 rfl rfl rfl dX6_enter_45 ?_
      refine s_getiE (pc := 48) fl_X6_217 rfl rfl b5 dX6_enter_48 ?_
      refine s_iconst (pc := 51) (k_i0N) dX6_enter_51 ?_
      refine s_cvn3 (pc := 52) (c_X5_make_1 hm2 hq2 hk (by omega)) ml_X6_187 mw_X5_make rfl (by decide) (Nat.le_of_ble_eq_true rfl) dX6_enter_52 ?_
      refine s_iconst (pc := 55) (k_i0N) dX6_enter_55 ?_
      refine s_istore_n (pc := 56) 2 rfl (by decide) rfl dX6_enter_56 ?_
      refine WW.hp (fup_0 (fil (ui h2 2 q (nI p.length)) (3 + 1 + q) 0 40 (nI 0)) (3 + 1 + q) (fun y => nI (gp p y))).symm ?_
      suffices lp_57 : ∀ k, k ≤ p.length → WW E cX6_enter RX6 3 _ 57 [.ref 0, .int (nI q), .int (nI k)] (fup (fil (ui h2 2 q (nI p.length)) (3 + 1 + q) 0 40 (nI 0)) (3 + 1 + q) k (fun y => nI (gp p y))) [] from lp_57 0 (by omega)
      refine lpi p.length (fun k hk_k ih_57 => ?_)
      refine s_iload_n (pc := 57) 2 rfl rfl dX6_enter_57 ?_
      refine s_aload_n (pc := 58) 0 rfl rfl dX6_enter_58 ?_
      refine s_getr (pc := 59) (b := 41) fl_X6_43 rfl rfl rfl dX6_enter_59 ?_
      refine s_getiE (pc := 62) fl_X6_217 rfl rfl ((ne k 41 8 (by decide) (by omega)).trans b5) dX6_enter_62 ?_
      refine s_icmp_geN (pc := 65) (by omega) (by omega) 92 dX6_enter_65 (by decide) (fun c_65 => ?_) (fun c_65 => ?_)
      · obtain rfl : k = p.length := by omega
        refine s_aload_n (pc := 92) 0 rfl rfl dX6_enter_92 ?_
        refine s_aload_n (pc := 93) 0 rfl rfl dX6_enter_93 ?_
        refine s_getr (pc := 94) (b := 41) fl_X6_43 rfl rfl rfl dX6_enter_94 ?_
        refine s_getiE (pc := 97) fl_X6_223 rfl rfl ((ne _ 41 10 (by decide) (by omega)).trans b7) dX6_enter_97 ?_
        refine s_puti (pc := 100) fl_X6_69 fw_6_10 rfl rfl dX6_enter_100 ?_
        refine s_aload_n (pc := 103) 0 rfl rfl dX6_enter_103 ?_
        refine s_getr (pc := 104) (b := 41) fl_X6_43 rfl rfl rfl dX6_enter_104 ?_
        refine s_getiE (pc := 107) fl_X6_226 rfl rfl ((ne _ 41 9 (by decide) (by omega)).trans b6) dX6_enter_107 ?_
        refine s_iret (pc := 110) dX6_enter_110 (PostE.of hp ?_ ?_)
        · rfl
        · rfl
      · refine s_aload_n (pc := 68) 0 rfl rfl dX6_enter_68 ?_
        refine s_getr (pc := 69) (b := 1) fl_X6_14 rfl rfl rfl dX6_enter_69 ?_
        refine s_iload_n (pc := 72) 1 rfl rfl dX6_enter_72 ?_
        refine s_iload_n (pc := 73) 2 rfl rfl dX6_enter_73 ?_
        refine s_aload_n (pc := 74) 0 rfl rfl dX6_enter_74 ?_
        refine s_getr (pc := 75) (b := 41) fl_X6_43 rfl rfl rfl dX6_enter_75 ?_
        refine s_getr (pc := 78) (b := 43) fl_X6_220 rfl rfl rfl dX6_enter_78 ?_
        refine s_iload_n (pc := 81) 2 rfl rfl dX6_enter_81 ?_
        refine s_ialdN (pc := 82) (_) rfl rfl (by omega) ((ne k 43 k (by decide) (by omega)).trans (b8 k (by omega))) dX6_enter_82 ?_
        refine s_cvn3 (pc := 83) (c_X5_set_1 ((ne k 1 0 (by decide) (by omega)).trans hm2) hk (z2 k) (by omega) (by omega)) ml_X6_84 mw_X5_set rfl (by decide) (Nat.le_of_ble_eq_true rfl) dX6_enter_83 ?_
        rw [fup_s (fil (ui h2 2 q (nI p.length)) (3 + 1 + q) 0 40 (nI 0)) (3 + 1 + q) k (fun y => nI (gp p y)) rfl]
        refine s_iincN (pc := 86) rfl (by decide) rfl dX6_enter_86 ?_
        refine s_goto (pc := 89) 57 dX6_enter_89 (by decide) ?_
        exact ih_57 (by omega)
    · exfalso; exact c_33 (by rw [hB]; simp)
  · exfalso; omega
