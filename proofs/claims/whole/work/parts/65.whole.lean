section SK2
variable {E : Kc} {cc : ByteArray} {own : String} {nL d mc ms pc : Nat} {L L' : List Value} {ws : va_W} {ce sl : Nat} {st : List Value}
theorem k_astore_n {k4 : Fin 4} (i : Nat) {x : Nat} (hi : (k4 : Nat) = i) (hn : i < nL) (hL : setL L i (.ref x) = L') (hd : decode cc pc = .ok (.astore_n k4, 1)) (k : KW E cc own nL d mc ms (pc + 1) L' ws ce sl st) : KW E cc own nL d mc ms pc L ws ce sl (.ref x :: st) := by
  obtain ⟨p, l, e, R, s, m, args, below, meth, c, D, T, A, Q, post⟩ := E
  intro ok ls H locs hl hP hD hS
  exact lv_astore_n ok.1.1 ok.1.2.1 hd hi hl.has hn rfl (fun ls' hl' => k ok ls' H locs (lvR.set1 (v := .ref x) hL hl') hP hD hS)
theorem va_P_row {D : va_G} {ws : va_W} {H : Heap} {a n : Nat} {cA : ClassId} {f g : Nat → Option Nat} (i0 : Nat) (he : ws[i0]? = some (a, .inl (cA, n, .inr (.inr (.inr (.inr f)))))) (hfg : ∀ j, j < n → f j = g j) (hP : va_P D vwCl ws H) : va_P D vwCl (ws.set i0 (a, .inl (cA, n, .inr (.inr (.inr (.inr g)))))) H := by
  intro k q hk
  rw [List.getElem?_set] at hk
  by_cases e : i0 = k
  · subst e
    rw [if_pos rfl] at hk
    split at hk
    · obtain rfl := Option.some.inj hk
      have h1 : H[a]? = some (vp_cell cA (n, .inr (.inr (.inr (.inr f))))) := hP i0 _ he
      show H[a]? = some (vp_cell cA (n, .inr (.inr (.inr (.inr g)))))
      rw [h1, vp_cell_q, vp_cell_q]
      exact congrArg some (arrV_cg (fun j hj => by rw [hfg j hj]))
    · cases hk
  · rw [if_neg e] at hk
    exact hP k q hk
theorem k_rows {ws' : va_W} {a n : Nat} {cA : ClassId} {f g : Nat → Option Nat} (i0 : Nat) (he : ws[i0]? = some (a, .inl (cA, n, .inr (.inr (.inr (.inr f)))))) (hfg : ∀ j, j < n → f j = g j) (hws : ws.set i0 (a, .inl (cA, n, .inr (.inr (.inr (.inr g))))) = ws') (k : KW E cc own nL d mc ms pc L ws' ce sl st) : KW E cc own nL d mc ms pc L ws ce sl st := by
  obtain ⟨p, l, e, R, s, m, args, below, meth, c, D, T, A, Q, post⟩ := E
  intro ok ls H locs hl hP hD hS
  subst hws
  exact k ok ls H locs hl (va_P_row i0 he hfg hP) (hD.set he) hS
end SK2

set_option maxRecDepth 20000 in
set_option maxHeartbeats 1000000 in
theorem law_make {E : Kc} {b : Nat} (k : ∀ q0 q1 q2 q3 q4 q5 q6 q7 q8 q9 q10 q11 q12 q13 q14 q15 q16 q17 q18 q19 q20 q21 q22 q23 q24 q25 q26 q27 q28 q29 q30 q31 q32 q33 q34 q35 q36 r0 r1 r2 r3 r4 r5 r6 r7 r8 r9 r10 r11 r12 r13 : Nat, KW E cL_law RL 4 30 64 2628 18 [.ref b, .ref q0, .ref r0, .int (nI 0)] [(q0, .inr (6, [.ref q1, .ref q4, .ref q7, .ref q10, .ref q22, .ref q28, .ref q31, .ref q34, .ref q36, .int (nI 0), .int (nI 0)])), (q1, .inr (5, [.int (nI 6), .int (nI 40), .ref q2, .ref q3])), (q2, .inl ((KT_ E).1, 6, .inl (upd (upd (upd (upd (upd (upd (fun _ => 0) 0 (-1)) 1 (-1)) 2 (-1)) 3 (-1)) 4 (-1)) 5 (-1)))), (q3, .inl ((KT_ E).2.2.2, 6, .inr (.inr (.inr (.inr (fun i => some (q3 + 1 + i))))))), (q3 + 1 + 0, .inl ((KT_ E).1, 40, .inl (fun _ => 0))), (q3 + 1 + 1, .inl ((KT_ E).1, 40, .inl (fun _ => 0))), (q3 + 1 + 2, .inl ((KT_ E).1, 40, .inl (fun _ => 0))), (q3 + 1 + 3, .inl ((KT_ E).1, 40, .inl (fun _ => 0))), (q3 + 1 + 4, .inl ((KT_ E).1, 40, .inl (fun _ => 0))), (q3 + 1 + 5, .inl ((KT_ E).1, 40, .inl (fun _ => 0))), (q4, .inr (5, [.int (nI 4), .int (nI 60), .ref q5, .ref q6])), (q5, .inl ((KT_ E).1, 4, .inl (upd (upd (upd (upd (fun _ => 0) 0 (-1)) 1 (-1)) 2 (-1)) 3 (-1)))), (q6, .inl ((KT_ E).2.2.2, 4, .inr (.inr (.inr (.inr (fun i => some (q6 + 1 + i))))))), (q6 + 1 + 0, .inl ((KT_ E).1, 60, .inl (fun _ => 0))), (q6 + 1 + 1, .inl ((KT_ E).1, 60, .inl (fun _ => 0))), (q6 + 1 + 2, .inl ((KT_ E).1, 60, .inl (fun _ => 0))), (q6 + 1 + 3, .inl ((KT_ E).1, 60, .inl (fun _ => 0))), (q7, .inr (5, [.int (nI 3), .int (nI 40), .ref q8, .ref q9])), (q8, .inl ((KT_ E).1, 3, .inl (upd (upd (upd (fun _ => 0) 0 (-1)) 1 (-1)) 2 (-1)))), (q9, .inl ((KT_ E).2.2.2, 3, .inr (.inr (.inr (.inr (fun i => some (q9 + 1 + i))))))), (q9 + 1 + 0, .inl ((KT_ E).1, 40, .inl (fun _ => 0))), (q9 + 1 + 1, .inl ((KT_ E).1, 40, .inl (fun _ => 0))), (q9 + 1 + 2, .inl ((KT_ E).1, 40, .inl (fun _ => 0))), (q10, .inr (2, [.ref q11, .ref q17, .ref q18, .ref q19, .ref q20, .ref q21, .int (nI 0), .int (nI 0), .int (nI 0), .int (nI 0), .int (nI 0), .int (nI 0)])), (q11, .inr (1, [.ref q12, .ref q13, .ref q14, .ref q15, .ref q16, .int (nI 0), .int (nI 0), .int (nI 0), .int (nI 0)])), (q12, .inl ((KT_ E).1, 6, .inl (fun _ => 0))), (q13, .inl ((KT_ E).1, 6, .inl (fun _ => 0))), (q14, .inl ((KT_ E).1, 6, .inl (fun _ => 0))), (q15, .inl ((KT_ E).1, 6, .inl (fun _ => 0))), (q16, .inl ((KT_ E).1, 6, .inl (fun _ => 0))), (q17, .inl ((KT_ E).1, 6, .inl (fun _ => 0))), (q18, .inl ((KT_ E).1, 6, .inl (fun _ => 0))), (q19, .inl ((KT_ E).1, 40, .inl (fun _ => 0))), (q20, .inl ((KT_ E).1, 6, .inl (fun _ => 0))), (q21, .inl ((KT_ E).1, 6, .inl (fun _ => 0))), (q22, .inr (1, [.ref q23, .ref q24, .ref q25, .ref q26, .ref q27, .int (nI 0), .int (nI 0), .int (nI 0), .int (nI 0)])), (q23, .inl ((KT_ E).1, 6, .inl (fun _ => 0))), (q24, .inl ((KT_ E).1, 6, .inl (fun _ => 0))), (q25, .inl ((KT_ E).1, 6, .inl (fun _ => 0))), (q26, .inl ((KT_ E).1, 6, .inl (fun _ => 0))), (q27, .inl ((KT_ E).1, 6, .inl (fun _ => 0))), (q28, .inr (4, [.ref q10, .ref q29, .ref q30, .int (nI 0), .int (nI 0), .int (nI 0), .int (nI 0), .int (nI 0), .int (nI 0), .int (nI 0), .int (nI 0)])), (q29, .inl ((KT_ E).1, 6, .inl (fun _ => 0))), (q30, .inl ((KT_ E).1, 6, .inl (fun _ => 0))), (q31, .inr (3, [.ref q10, .ref q32, .ref q33])), (q32, .inl ((KT_ E).1, 64, .inl (fun _ => 0))), (q33, .inl ((KT_ E).1, 64, .inl (fun _ => 0))), (q34, .inr (0, [.ref q35, .long (0), .long (1)])), (q35, .inl ((KT_ E).2.1, 6, .inr (.inl (fun _ => 0)))), (q36, .inl ((KT_ E).1, 6, .inl (fun _ => 0))), (r0, .inr (7, [.ref r1, .ref r2, .ref r3, .ref r4, .ref r5, .ref r6, .ref r7, .ref r8, .ref r9, .ref r10, .int 0, .int 0, .long 0, .long (1), .ref r11, .ref r12, .ref r13, .int 0, .int 0, .int 0, .int 0])), (r1, .inl ((KT_ E).1, 6, .inl (upd (upd (upd (upd (upd (upd (fun _ => 0) 0 (-1)) 1 (-1)) 2 (-1)) 3 (-1)) 4 (-1)) 5 (-1)))), (r2, .inl ((KT_ E).1, 240, .inl (fun _ => 0))), (r3, .inl ((KT_ E).1, 40, .inl (fun _ => 0))), (r4, .inl ((KT_ E).1, 4, .inl (upd (upd (upd (upd (fun _ => 0) 0 (-1)) 1 (-1)) 2 (-1)) 3 (-1)))), (r5, .inl ((KT_ E).1, 240, .inl (fun _ => 0))), (r6, .inl ((KT_ E).1, 215, .inl (fun _ => 0))), (r7, .inl ((KT_ E).1, 215, .inl (fun _ => 0))), (r8, .inl ((KT_ E).1, 645, .inl (fun _ => 0))), (r9, .inl ((KT_ E).2.2.1, 3, .inl (fun _ => 0))), (r10, .inl ((KT_ E).1, 6, .inl (fun _ => 0))), (r11, .inl ((KT_ E).1, 7, .inl (fun _ => 0))), (r12, .inl ((KT_ E).1, 7, .inl (fun _ => 0))), (r13, .inl ((KT_ E).1, 7, .inl (fun _ => 0)))] 64 2628 []) : KW E cL_law RL 4 30 64 2628 0 [.ref b, .null, .null, .null] [] 0 0 [] := by
  refine k_new (pc := 0) (ci := 6) tyX6 tyX6_ok rfl cl_L_7 in_X6 ii_X6 df_X6 (by decide) (by decide) dL_law_0 (fun q0 => ?_)
  refine KW.cw (ws := [(q0, .inr (6, [.null, .null, .null, .null, .null, .null, .null, .null, .null, .int 0, .int 0]))]) rfl ?_
  refine k_dup (pc := 3) rfl dL_law_3 ?_
  refine k_ini (pc := 4) (wr := []) c_X6_init ml_L_9 im_X6_init ii_X6 co_X6_init rfl hn_X6_init rfl rfl (by decide) (by decide) (by decide) (by decide) (Nat.le_of_ble_eq_true rfl) dL_law_4 (fun w hw => ?_)
  obtain ⟨q1, q2, q3, q4, q5, q6, q7, q8, q9, q10, q11, q12, q13, q14, q15, q16, q17, q18, q19, q20, q21, q22, q23, q24, q25, q26, q27, q28, q29, q30, q31, q32, q33, q34, q35, q36, rfl⟩ := hw
  refine k_astore_n (pc := 7) 1 rfl (by decide) rfl dL_law_7 ?_
  refine k_new (pc := 8) (ci := 7) tyX7 tyX7_ok rfl cl_L_10 in_X7 ii_X7 df_X7 (by decide) (by decide) dL_law_8 (fun r0 => ?_)
  refine k_dup (pc := 11) rfl dL_law_11 ?_
  refine k_ini (pc := 12) (wr := [(q0, .inr (6, [.ref q1, .ref q4, .ref q7, .ref q10, .ref q22, .ref q28, .ref q31, .ref q34, .ref q36, .int (nI 0), .int (nI 0)])), (q1, .inr (5, [.int (nI 6), .int (nI 40), .ref q2, .ref q3])), (q2, .inl ((KT_ E).1, 6, .inl (upd (upd (upd (upd (upd (upd (fun _ => 0) 0 (-1)) 1 (-1)) 2 (-1)) 3 (-1)) 4 (-1)) 5 (-1)))), (q3, .inl ((KT_ E).2.2.2, 6, .inr (.inr (.inr (.inr (fun i => some (q3 + 1 + i))))))), (q3 + 1 + 0, .inl ((KT_ E).1, 40, .inl (fun _ => 0))), (q3 + 1 + 1, .inl ((KT_ E).1, 40, .inl (fun _ => 0))), (q3 + 1 + 2, .inl ((KT_ E).1, 40, .inl (fun _ => 0))), (q3 + 1 + 3, .inl ((KT_ E).1, 40, .inl (fun _ => 0))), (q3 + 1 + 4, .inl ((KT_ E).1, 40, .inl (fun _ => 0))), (q3 + 1 + 5, .inl ((KT_ E).1, 40, .inl (fun _ => 0))), (q4, .inr (5, [.int (nI 4), .int (nI 60), .ref q5, .ref q6])), (q5, .inl ((KT_ E).1, 4, .inl (upd (upd (upd (upd (fun _ => 0) 0 (-1)) 1 (-1)) 2 (-1)) 3 (-1)))), (q6, .inl ((KT_ E).2.2.2, 4, .inr (.inr (.inr (.inr (fun i => some (q6 + 1 + i))))))), (q6 + 1 + 0, .inl ((KT_ E).1, 60, .inl (fun _ => 0))), (q6 + 1 + 1, .inl ((KT_ E).1, 60, .inl (fun _ => 0))), (q6 + 1 + 2, .inl ((KT_ E).1, 60, .inl (fun _ => 0))), (q6 + 1 + 3, .inl ((KT_ E).1, 60, .inl (fun _ => 0))), (q7, .inr (5, [.int (nI 3), .int (nI 40), .ref q8, .ref q9])), (q8, .inl ((KT_ E).1, 3, .inl (upd (upd (upd (fun _ => 0) 0 (-1)) 1 (-1)) 2 (-1)))), (q9, .inl ((KT_ E).2.2.2, 3, .inr (.inr (.inr (.inr (fun i => some (q9 + 1 + i))))))), (q9 + 1 + 0, .inl ((KT_ E).1, 40, .inl (fun _ => 0))), (q9 + 1 + 1, .inl ((KT_ E).1, 40, .inl (fun _ => 0))), (q9 + 1 + 2, .inl ((KT_ E).1, 40, .inl (fun _ => 0))), (q10, .inr (2, [.ref q11, .ref q17, .ref q18, .ref q19, .ref q20, .ref q21, .int (nI 0), .int (nI 0), .int (nI 0), .int (nI 0), .int (nI 0), .int (nI 0)])), (q11, .inr (1, [.ref q12, .ref q13, .ref q14, .ref q15, .ref q16, .int (nI 0), .int (nI 0), .int (nI 0), .int (nI 0)])), (q12, .inl ((KT_ E).1, 6, .inl (fun _ => 0))), (q13, .inl ((KT_ E).1, 6, .inl (fun _ => 0))), (q14, .inl ((KT_ E).1, 6, .inl (fun _ => 0))), (q15, .inl ((KT_ E).1, 6, .inl (fun _ => 0))), (q16, .inl ((KT_ E).1, 6, .inl (fun _ => 0))), (q17, .inl ((KT_ E).1, 6, .inl (fun _ => 0))), (q18, .inl ((KT_ E).1, 6, .inl (fun _ => 0))), (q19, .inl ((KT_ E).1, 40, .inl (fun _ => 0))), (q20, .inl ((KT_ E).1, 6, .inl (fun _ => 0))), (q21, .inl ((KT_ E).1, 6, .inl (fun _ => 0))), (q22, .inr (1, [.ref q23, .ref q24, .ref q25, .ref q26, .ref q27, .int (nI 0), .int (nI 0), .int (nI 0), .int (nI 0)])), (q23, .inl ((KT_ E).1, 6, .inl (fun _ => 0))), (q24, .inl ((KT_ E).1, 6, .inl (fun _ => 0))), (q25, .inl ((KT_ E).1, 6, .inl (fun _ => 0))), (q26, .inl ((KT_ E).1, 6, .inl (fun _ => 0))), (q27, .inl ((KT_ E).1, 6, .inl (fun _ => 0))), (q28, .inr (4, [.ref q10, .ref q29, .ref q30, .int (nI 0), .int (nI 0), .int (nI 0), .int (nI 0), .int (nI 0), .int (nI 0), .int (nI 0), .int (nI 0)])), (q29, .inl ((KT_ E).1, 6, .inl (fun _ => 0))), (q30, .inl ((KT_ E).1, 6, .inl (fun _ => 0))), (q31, .inr (3, [.ref q10, .ref q32, .ref q33])), (q32, .inl ((KT_ E).1, 64, .inl (fun _ => 0))), (q33, .inl ((KT_ E).1, 64, .inl (fun _ => 0))), (q34, .inr (0, [.ref q35, .long (0), .long (1)])), (q35, .inl ((KT_ E).2.1, 6, .inr (.inl (fun _ => 0)))), (q36, .inl ((KT_ E).1, 6, .inl (fun _ => 0)))]) c_X7_init ml_L_12 im_X7_init ii_X7 co_X7_init rfl hn_X7_init rfl rfl (by decide) (by decide) (by decide) (by decide) (Nat.le_of_ble_eq_true rfl) dL_law_12 (fun w hw => ?_)
  obtain ⟨r1, r2, r3, r4, r5, r6, r7, r8, r9, r10, r11, r12, r13, rfl⟩ := hw
  refine k_astore_n (pc := 15) 2 rfl (by decide) rfl dL_law_15 ?_
  refine k_iconst (pc := 16) (k_i0N) dL_law_16 ?_
  refine k_istore_n (pc := 17) 3 rfl (by decide) rfl dL_law_17 ?_
  exact k q0 q1 q2 q3 q4 q5 q6 q7 q8 q9 q10 q11 q12 q13 q14 q15 q16 q17 q18 q19 q20 q21 q22 q23 q24 q25 q26 q27 q28 q29 q30 q31 q32 q33 q34 q35 q36 r0 r1 r2 r3 r4 r5 r6 r7 r8 r9 r10 r11 r12 r13

def ρ0 (a : List Nat) : Nat → Nat := fun j => a.getD j 0

theorem c6 {P : Nat → Prop} (h0 : P 0) (h1 : P 1) (h2 : P 2) (h3 : P 3) (h4 : P 4) (h5 : P 5) : ∀ j, j < 6 → P j := fun j hj => by
  rcases lt6 hj with rfl | rfl | rfl | rfl | rfl | rfl <;> assumption
theorem c4 {P : Nat → Prop} (h0 : P 0) (h1 : P 1) (h2 : P 2) (h3 : P 3) : ∀ j, j < 4 → P j := fun j hj => by
  rcases (show j = 0 ∨ j = 1 ∨ j = 2 ∨ j = 3 by omega) with rfl | rfl | rfl | rfl <;> assumption
theorem c3 {P : Nat → Prop} (h0 : P 0) (h1 : P 1) (h2 : P 2) : ∀ j, j < 3 → P j := fun j hj => by
  rcases (show j = 0 ∨ j = 1 ∨ j = 2 by omega) with rfl | rfl | rfl <;> assumption
theorem lvR_of {ls : Array Slot} {ρ : Nat → Nat} {b q r : Nat} {v : Int32} (h : lvR ls 4 id [.ref b, .ref q, .ref r, .int v]) (h0 : ρ 66 = b) (h1 : ρ 0 = q) (h2 : ρ 50 = r) : lvR ls 4 ρ [.ref 66, .ref 0, .ref 50, .int v] := by
  refine ⟨h.1, h.2.1, fun i u hi hu => ?_⟩
  match i, hi with
  | 0, hi => obtain rfl := Option.some.inj hi; have := h.2.2 0 _ rfl (by simp); simp only [cvv, h0]; exact this
  | 1, hi => obtain rfl := Option.some.inj hi; have := h.2.2 1 _ rfl (by simp); simp only [cvv, h1]; exact this
  | 2, hi => obtain rfl := Option.some.inj hi; have := h.2.2 2 _ rfl (by simp); simp only [cvv, h2]; exact this
  | 3, hi => obtain rfl := Option.some.inj hi; exact h.2.2 3 _ rfl (by simp)
  | i + 4, hi => cases hi

set_option maxRecDepth 20000 in
/-- from the two objects, made, to the end -/
theorem law_join {p : Program} {l : Launch} {e : Env} {s : State} {m : MethodId} {below : List Frame} {meth : Method} {c : Code} {b n : Nat} {xs : Nat → Int32} {D : va_G} {T : Ty4} {G : Gx} {q r : Nat} (hL : n ≤ 384) (C0 : lw_At p s m meth c b n xs) (hG : G.2 = (D, T)) (hK : va_K D vwCl (tysK T) s) (hS0 : StG G (fun q : Nat => s.heap.size ≤ q) s s.heap) (h66 : G.1 66 = b) (h0 : G.1 0 = q) (h50 : G.1 50 = r) : KW (p, l, e, room_1, s, m, #[Value.ref b], below, meth, c, D, T, (fun q : Nat => s.heap.size ≤ q), lw_Z below #[Value.ref b] s, fun _ => False) cL_law RL 4 30 64 2628 18 [.ref b, .ref q, .ref r, .int (nI 0)] (wsG G H0) 64 2628 [] := by
  intro ok ls H locs hl hP hD hS
  obtain ⟨hx, hb, hr, hml, hown, hts, hX, hbl, hlocks, hgv⟩ := id C0
  have e1 : G.2.1 = D := by rw [hG]
  have e2 : tysG G = tysK T := by unfold tysG tysK; rw [hG]
  have hX2 : ScE (p, l, e, room_1, s, m, #[Value.ref b], below, meth, c, G, (fun q : Nat => s.heap.size ≤ q), 64, 2628, lw_Z below #[Value.ref b] s, fun ro _ => ro = some (.int (nI 1))) n xs := ⟨by rw [h66]; exact hX, by rw [h66]; exact hbl, by rw [h66]; exact Nat.not_le.mpr hbl⟩
  refine law_loop hX2 (by omega) (fun _ => rfl) 0 (Nat.zero_le _) H0 H0_inv ⟨?_, ⟨hx, hb, hml, hown, fun w hw => hts w (lwg_in hw)⟩, by rw [e1, e2]; exact hK, hS0, ⟨by decide, by decide, by decide, by decide, st_NG hts⟩⟩ ls H locs (lvR_of hl h66 h0 h50) (by rw [e1]; exact hP) hD hS
  intro ro h hro pc ls H locs hP hD hS
  refine ⟨fun v hv hd => ?_, fun v hv _ => ?_, fun hv _ => ?_⟩
  · have ev : v = 1 := by
      rw [show ro = some (.int (nI 1)) from hro] at hv
      exact ((Value.int.inj (Option.some.inj hv))).symm
    subst ev
    exact va_forget (fun q hq => hS.2.2 q hq) (W.widen (by decide) (by decide) (lw_ret hx hb hr hlocks hd))
  · rw [show ro = some (.int (nI 1)) from hro] at hv; cases hv
  · rw [show ro = some (.int (nI 1)) from hro] at hv; cases hv

set_option maxRecDepth 20000 in
set_option maxHeartbeats 4000000 in
/-- THE LAW, from its entry -/
theorem whole_start {p : Program} {e : Env} {s : State} {m : MethodId} {below : List Frame} {meth : Method} {c : Code} (l : Launch) {b L : Nat} {xs : Nat → Int32} (hL : L ≤ 384) (C0 : lw_At p s m meth c b L xs) : W p l e room_1 s m #[Value.ref b] below meth c s.heap [] 0 0 (lw_Z below #[Value.ref b] s) (entryFrame m ([Value.ref b] : List Value).toArray 4) := by
  obtain ⟨hx, hb, hr, hml, hown, hts, hX, hbl, hlocks, hgv⟩ := id C0
  obtain ⟨D, T, hK⟩ := st_K hts
  obtain ⟨t1, t2, hZ⟩ := st_S hts hgv (A := fun q : Nat => s.heap.size ≤ q) (fun a h => Nat.not_le.mpr h)
  have hl := lv_entry ([.ref b]) (n := 4) (Nat.le_of_ble_eq_true rfl)
  rw [lg_entry_eq]
  generalize (lg_sl ([.ref b]) ++ List.replicate (4 - (lg_sl ([.ref b])).length) Slot.unset).toArray = ls at hl ⊢
  have hl : lv_has ls 4 [(0, .ref b)] := hl
  have hl2 : lvR ls 4 id [.ref b, .null, .null, .null] := ⟨hl.1, hl.2.1, fun i v hi hv => by
    match i, hi with
    | 0, hi => obtain rfl := Option.some.inj hi; exact hl.2.2 (0, .ref b) List.mem_cons_self
    | 1, hi => exact absurd (Option.some.inj hi).symm hv
    | 2, hi => exact absurd (Option.some.inj hi).symm hv
    | 3, hi => exact absurd (Option.some.inj hi).symm hv
    | i + 4, hi => cases hi⟩
  refine (law_make (E := (p, l, e, room_1, s, m, #[Value.ref b], below, meth, c, D, T, (fun q : Nat => s.heap.size ≤ q), lw_Z below #[Value.ref b] s, fun _ => False)) (b := b) (fun q0 q1 q2 q3 q4 q5 q6 q7 q8 q9 q10 q11 q12 q13 q14 q15 q16 q17 q18 q19 q20 q21 q22 q23 q24 q25 q26 q27 q28 q29 q30 q31 q32 q33 q34 q35 q36 r0 r1 r2 r3 r4 r5 r6 r7 r8 r9 r10 r11 r12 r13 => ?_)) ⟨⟨hx, hb, hml, hown, fun w hw => hts w (lwg_in hw)⟩, hK, fun q h => h, ⟨by decide, by decide, by decide, by decide⟩, ⟨fun z => absurd rfl z.2, st_NK hts⟩, fun w h => h.elim⟩ ls s.heap [] hl2 (fun k q h => by simp at h) ⟨fun i j p q h => by simp at h, fun k q h => by simp at h⟩ va_S.rf
  refine k_rows 3 (g := fun i => some (ρ0 [q0, q1, q2, q3, q3 + 1 + 0, q3 + 1 + 1, q3 + 1 + 2, q3 + 1 + 3, q3 + 1 + 4, q3 + 1 + 5, q4, q5, q6, q6 + 1 + 0, q6 + 1 + 1, q6 + 1 + 2, q6 + 1 + 3, q7, q8, q9, q9 + 1 + 0, q9 + 1 + 1, q9 + 1 + 2, q10, q11, q12, q13, q14, q15, q16, q17, q18, q19, q20, q21, q22, q23, q24, q25, q26, q27, q28, q29, q30, q31, q32, q33, q34, q35, q36, r0, r1, r2, r3, r4, r5, r6, r7, r8, r9, r10, r11, r12, r13, t1, t2, b] (3 + 1 + i))) rfl (c6 rfl rfl rfl rfl rfl rfl) rfl ?_
  refine k_rows 12 (g := fun i => some (ρ0 [q0, q1, q2, q3, q3 + 1 + 0, q3 + 1 + 1, q3 + 1 + 2, q3 + 1 + 3, q3 + 1 + 4, q3 + 1 + 5, q4, q5, q6, q6 + 1 + 0, q6 + 1 + 1, q6 + 1 + 2, q6 + 1 + 3, q7, q8, q9, q9 + 1 + 0, q9 + 1 + 1, q9 + 1 + 2, q10, q11, q12, q13, q14, q15, q16, q17, q18, q19, q20, q21, q22, q23, q24, q25, q26, q27, q28, q29, q30, q31, q32, q33, q34, q35, q36, r0, r1, r2, r3, r4, r5, r6, r7, r8, r9, r10, r11, r12, r13, t1, t2, b] (12 + 1 + i))) rfl (c4 rfl rfl rfl rfl) rfl ?_
  refine k_rows 19 (g := fun i => some (ρ0 [q0, q1, q2, q3, q3 + 1 + 0, q3 + 1 + 1, q3 + 1 + 2, q3 + 1 + 3, q3 + 1 + 4, q3 + 1 + 5, q4, q5, q6, q6 + 1 + 0, q6 + 1 + 1, q6 + 1 + 2, q6 + 1 + 3, q7, q8, q9, q9 + 1 + 0, q9 + 1 + 1, q9 + 1 + 2, q10, q11, q12, q13, q14, q15, q16, q17, q18, q19, q20, q21, q22, q23, q24, q25, q26, q27, q28, q29, q30, q31, q32, q33, q34, q35, q36, r0, r1, r2, r3, r4, r5, r6, r7, r8, r9, r10, r11, r12, r13, t1, t2, b] (19 + 1 + i))) rfl (c3 rfl rfl rfl) rfl ?_
  exact KW.cw (ws := wsG (ρ0 [q0, q1, q2, q3, q3 + 1 + 0, q3 + 1 + 1, q3 + 1 + 2, q3 + 1 + 3, q3 + 1 + 4, q3 + 1 + 5, q4, q5, q6, q6 + 1 + 0, q6 + 1 + 1, q6 + 1 + 2, q6 + 1 + 3, q7, q8, q9, q9 + 1 + 0, q9 + 1 + 1, q9 + 1 + 2, q10, q11, q12, q13, q14, q15, q16, q17, q18, q19, q20, q21, q22, q23, q24, q25, q26, q27, q28, q29, q30, q31, q32, q33, q34, q35, q36, r0, r1, r2, r3, r4, r5, r6, r7, r8, r9, r10, r11, r12, r13, t1, t2, b], D, T) H0) rfl (law_join hL C0 rfl hK hZ rfl rfl rfl)

set_option maxHeartbeats 4000000 in
theorem lw_walk (l : Launch) (b : Addr) (xs : List Int32) : MetFree l x (headSpec (Jvm.Cond.code x code maxLocals ret :: tables_1) room_1) (lw_P b xs) (fun _ _ _ _ _ => True) lw_Q := by
  refine MetFree.of_bodyS (code := code) (maxLocals := maxLocals) (ret := ret) (by decide) ?_ ?_
  · intro args s m h hn
    obtain ⟨meth, c, h1, h2, h3, h4, h5, h6, -, -⟩ := Cond.code_spec hn (atoms_spec (ws := Jvm.Cond.code x code maxLocals ret :: tables_1) h _ List.mem_cons_self)
    exact ⟨meth, c, h1, h2, h3, h4, h5, h6⟩
  · intro p e s m args below meth c s₁ B hml0 hP _
    obtain ⟨rfl, hx, hbd, hgv⟩ := hP
    obtain ⟨scr, harrAt, hlist, hof, hsmall⟩ := hx
    obtain ⟨hcb, hkn, -, -⟩ := State.arrayAt?_spec harrAt
    have hown : s.vm.findClass R_law = some m.cls := findClass_of_methodNamed B.named
    have hts0 : ∀ c ∈ (Jvm.Cond.code x code maxLocals ret :: tables_1), c.before #[Value.ref b] s = true := atoms_spec (ws := Jvm.Cond.code x code maxLocals ret :: tables_1) B.pre
    have hts : ∀ w ∈ lw_tbl, w.before #[Value.ref b] s = true := k2_hts_sels lw_privs (fun w hw => hts0 w (List.mem_cons_of_mem _ hw)) lw_privs_ok
    have hml : c.maxLocals = 4 := B.maxLocals_eq (hts0 _ List.mem_cons_self)
    have X₀ : Stand p l e room_1 s m #[Value.ref b] below meth c s₁ [] 0 0 := Stand.of_body B
    have hh0 : s₁.heap = s.heap := by rw [B.state]; rfl
    have hsz : scr.slots.size = xs.length := by rw [← Array.length_toList, hlist, List.length_map]
    have hval : ∀ j : Nat, j < xs.length → scr.slots[j]? = some (.int (xs.getD j 0)) := fun j hj => by
      rw [← Array.getElem?_toList, hlist]
      simp [hj]
    have hbl : b < s.heap.size := (Array.getElem?_eq_some_iff.mp hcb).1
    have hX : va_X b xs.length (fun j => xs.getD j 0) s s.heap := ⟨scr, hcb, hof, hkn, hsz, hval⟩
    have K : W p l e room_1 s m #[Value.ref b] below meth c s₁.heap [] 0 0 (lw_Z below #[Value.ref b] s) (entryFrame m ([Value.ref b] : List Value).toArray 4) := by
      rw [hh0]
      exact whole_start l hbd ⟨B.exec, B.bytes, B.returns, hml, hown, hts, hX, hbl, B.notSynchronized, hgv⟩
    obtain ⟨t, a1, o, b1, b2, b3⟩ := K s₁ rfl X₀
    exact ⟨t, o, a1, b1, b2, b3⟩
theorem lw_pre_spec {args : Array Value} {s : State} (h : (Jvm.Cond.and given_1 narrow_1).before args s = true) (hr : rest_1_c.before args s = true) : ∃ (b : Addr) (xs : List Int32), lw_P b xs args s := by
  have hs := flat_of_before _ h
  have hq := flat_of_before _ hr
  have hc : (Cond.count 1).before args s = true := hs _ (by decide +kernel)
  have harr : (Cond.arrayOf (.arg 0) .int).before args s = true := hs _ (by decide +kernel)
  have hle : (Cond.le (.length (.arg 0)) (.int 384)).before args s = true := hs _ (by decide +kernel)
  have hlen : (Cond.isInt (.length (.arg 0))).before args s = true := hq _ (by decide +kernel)
  have hall : (Cond.all (.arg 0) (.isInt (.elem (.arg 0) (.index 0)))).before args s = true := hq _ (by decide +kernel)
  obtain ⟨b, xs, hb, hx⟩ := State.ints_of_pre rfl harr hlen hall
  have hsm : xs.length < 2 ^ 31 := hx.choose_spec.2.2.2
  have hev : (Term.length (.arg 0)).eval args s none [] s = some (.int xs.length.toInt32) := hx.length_eval hb
  have hv := Cond.le_ints hev (show (Term.int 384).eval args s none [] s = some (.int 384) from rfl)
  have hd : xs.length.toInt32 ≤ 384 := by
    simpa [Cond.before, Cond.holds, hv] using hle
  have hN : xs.length ≤ 384 := (Int32.ofNat_le_ofNat hsm (by decide)).mp (show Int32.ofNat xs.length ≤ Int32.ofNat 384 from hd)
  exact ⟨b, xs, Cond.one_arg hc (show args[0]? = some (.ref b) from hb), hx, hN, h⟩
theorem lw_comes (l : Launch) : Comes l x (Jvm.Cond.code x code maxLocals ret :: tables_1) room_1 (fun tb e args s => Calls_1 tb e args s ∧ rest_1 tb e args s ∧ Pre_1 tb e args s)
    (fun _ _ args s o t => lw_Q args s o t) := by
  intro p e ha hc hk s m args below hf hfit hheap happ hpre
  obtain ⟨b, xs, hP⟩ := lw_pre_spec hpre.2.2 hpre.2.1
  obtain ⟨k, o, h1, h2, h3, hQ⟩ := lw_walk l b xs p e ha hc hk s m args below hf ((Spec.applies_iff_loose hf).mp happ).1 hP trivial
  exact ⟨k, o, h1, h2, h3, hQ⟩
theorem lw_frame {s t : State} {o : Outcome} {args : Array Value} (h : Framed s o t [] 600000 7302250) :
    Framed s o t (fieldLocs frame_1_writes args s ++ arrayLocs frame_1_arrays args s ++ staticLocs frame_1_statics s) 600000 7302250 := h
theorem lw_limb (L : Cond) (hL : ∀ (args : Array Value) (s t : State), L.after args s (.returned (some (.int 1))) t = true) :
    ArmFor flags0 classFile x code maxLocals ret World_1 tables_1 room_1 Calls_1 rest_1 Pre_1
      (fun tb e a s o t => postC L tb e a s o t ∧ Framed s o t (fieldLocs frame_1_writes a s ++ arrayLocs frame_1_arrays a s ++ staticLocs frame_1_statics s) 600000 7302250) := by
  intro l _ _ _ p e ha hc hk s m args below hf hfit hheap happ hpre
  obtain ⟨k, o, h1, h2, h3, rfl, hF⟩ := lw_comes l p e ha hc hk s m args below hf hfit hheap happ hpre
  exact ⟨k, _, h1, h2, h3, hL args s _, lw_frame hF⟩
theorem i_vc : Claimed_1_1 ∧ Claimed_1_2 := ⟨lw_limb limb_1_1 (fun args s t => by simp [limb_1_1, Cond.after, Cond.holds, Cond.value]), lw_limb limb_1_2 (fun args s t => Cond.after_iff.mpr (by
  first | (rw [show limb_1_2 = Cond.eq .result (.int 1) from rfl, Cond.eq_ints (x := 1) (y := 1) rfl rfl]; simp; done) | (simp [limb_1_2, Cond.value, Term.eval]; done)))⟩
