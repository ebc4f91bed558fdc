section ST3
variable {E : Cx} {cc : ByteArray} {own : String} {nL d pc : Nat} {L : List Value} {h : Hp} {st : List Value} {x1 y1 : Nat}
theorem s_laddN (hd : decode cc pc = .ok (.ladd, 1)) (k : WW E cc own nL d (pc + 1) L h (.long (lN (x1 + y1)) :: st)) : WW E cc own nL d pc L h (.long (lN y1) :: .long (lN x1) :: st) := s_ladd hd (by rw [lN_add]; exact k)
theorem s_lmulN (hd : decode cc pc = .ok (.lmul, 1)) (k : WW E cc own nL d (pc + 1) L h (.long (lN (x1 * y1)) :: st)) : WW E cc own nL d pc L h (.long (lN y1) :: .long (lN x1) :: st) := s_lmul hd (by rw [lN_mul]; exact k)
theorem lN_nz {n : Nat} (h0 : 0 < n) (h : n < 2 ^ 63) : ¬ lN n = 0 := fun z => by
  have := (pk_lEQ (a := n) (b := 0) h (by decide)).mp z
  omega
theorem s_ldivN (hx : x1 < 2 ^ 63) (hy : y1 < 2 ^ 63) (h0 : 0 < y1) (hd : decode cc pc = .ok (.ldiv, 1)) (k : WW E cc own nL d (pc + 1) L h (.long (lN (x1 / y1)) :: st)) : WW E cc own nL d pc L h (.long (lN y1) :: .long (lN x1) :: st) := s_ldiv (lN_nz h0 hy) hd (by rw [pk_lDiv hx h0 hy]; exact k)
theorem s_lremN (hx : x1 < 2 ^ 63) (hy : y1 < 2 ^ 63) (h0 : 0 < y1) (hd : decode cc pc = .ok (.lrem, 1)) (k : WW E cc own nL d (pc + 1) L h (.long (lN (x1 % y1)) :: st)) : WW E cc own nL d pc L h (.long (lN y1) :: .long (lN x1) :: st) := s_lrem (lN_nz h0 hy) hd (by rw [pk_lRem hx h0 hy]; exact k)
theorem s_i2lN (hx : x1 < 2 ^ 31) (hd : decode cc pc = .ok (.i2l, 1)) (k : WW E cc own nL d (pc + 1) L h (.long (lN x1) :: st)) : WW E cc own nL d pc L h (.int (nI x1) :: st) := s_i2l hd (by rw [nI_l hx]; exact k)
theorem s_l2iN (hd : decode cc pc = .ok (.l2i, 1)) (k : WW E cc own nL d (pc + 1) L h (.int (nI x1) :: st)) : WW E cc own nL d pc L h (.long (lN x1) :: st) := s_l2i hd (by rw [lN_i]; exact k)
theorem s_laldN {a : Nat} {i : Int32} {n v1 : Nat} (j : Nat) (ha : lyL[a]? = some (2, n)) (hi : i = nI j) (hj : j < n) (hv : h.2 a j = lN v1) (hd : decode cc pc = .ok (.laload, 1)) (k : WW E cc own nL d (pc + 1) L h (.long (lN v1) :: st)) : WW E cc own nL d pc L h (.int i :: .ref a :: st) := s_lald j ha hi hj hd (by rw [hv]; exact k)
end ST3
theorem lgc_lt (x y : Int64) : lg_cmp x y < 0 ↔ x < y := lg_cmp_lt x y
/-! lots -/
def lotX (x : Nat) : Nat → Nat
  | 0 => x
  | k1 + 1 => lotX x k1 * 48271 % 2147483647
def lotI (a : Nat → Nat) (x : Nat) : Nat := x / 8 % a 0
def lotQ (a : Nat → Nat) (i : Nat) : Nat := if 1 + shiftN a i (a 5) ≤ a 4 then 0 else 3
def lotA (a : Nat → Nat) (x : Nat) : Nat → (Nat → Nat)
  | 0 => a
  | k1 + 1 => stepN (lotA a x k1) (lotQ (lotA a x k1) (lotI a (lotX x (k1 + 1)))) (lotI a (lotX x (k1 + 1)))
def lotD (a : Nat → Nat) (x k1 : Nat) : Nat := lotQ (lotA a x k1) (lotI a (lotX x (k1 + 1))) * 6 + lotI a (lotX x (k1 + 1))
theorem lotX_lt {x : Nat} (hx : x < 2147483647) (k1 : Nat) : lotX x k1 < 2147483647 := by
  cases k1 with
  | zero => exact hx
  | succ k1 => exact Nat.mod_lt _ (by decide)
theorem lotA_0 (a : Nat → Nat) (x k1 : Nat) : lotA a x k1 0 = a 0 := by
  induction k1 with
  | zero => rfl
  | succ k1 ih =>
    have e : lotA a x (k1 + 1) 0 = lotA a x k1 0 := by
      simp only [lotA, lotQ]
      split
      · exact (Sim.goes (lotA a x k1) (lotI a (lotX x (k1 + 1)))).1
      · exact (Sim.ebbs (lotA a x k1)).1
    rw [e, ih]
theorem lot_ok {a : Nat → Nat} {x k1 : Nat} (hB : OkB a) (h0 : 0 < a 0) (h3 : a 3 + k1 < 40 + 1) : OkB (lotA a x k1) ∧ lotA a x k1 3 = a 3 + k1 := by
  induction k1 with
  | zero => exact ⟨hB, rfl⟩
  | succ k1 ih =>
    obtain ⟨i1, i2⟩ := ih (by omega)
    have o0 := hB.1.1.1
    have il : lotI a (lotX x (k1 + 1)) < a 0 := Nat.mod_lt _ h0
    have e0 := lotA_0 a x k1
    have ok : okD (lotA a x k1) (lotQ (lotA a x k1) (lotI a (lotX x (k1 + 1)))) (lotI a (lotX x (k1 + 1))) := by
      refine ⟨by omega, by omega, ?_, by omega, ?_, ?_, ?_⟩
      · unfold lotQ; split <;> omega
      · intro z; unfold lotQ at z; split at z
        · exact ⟨by omega, by assumption⟩
        · exact absurd z (by decide)
      · intro z; unfold lotQ at z; split at z <;> exact absurd z (by decide)
      · intro z; unfold lotQ at z; split at z <;> exact absurd z (by decide)
    refine ⟨i1.step ok, ?_⟩
    simp only [lotA]
    rw [step_3 (by omega), i2]
    omega
theorem lot_okD {a : Nat → Nat} {x k1 : Nat} (hB : OkB a) (h0 : 0 < a 0) (h3 : a 3 + k1 < 40) : okD (lotA a x k1) (lotQ (lotA a x k1) (lotI a (lotX x (k1 + 1)))) (lotI a (lotX x (k1 + 1))) := by
  obtain ⟨i1, i2⟩ := lot_ok (x := x) hB h0 (k1 := k1) (by omega)
  have o0 := hB.1.1.1
  have il : lotI a (lotX x (k1 + 1)) < a 0 := Nat.mod_lt _ h0
  have e0 := lotA_0 a x k1
  refine ⟨by omega, by omega, ?_, by omega, ?_, ?_, ?_⟩
  · unfold lotQ; split <;> omega
  · intro z; unfold lotQ at z; split at z
    · exact ⟨by omega, by assumption⟩
    · exact absurd z (by decide)
  · intro z; unfold lotQ at z; split at z <;> exact absurd z (by decide)
  · intro z; unfold lotQ at z; split at z <;> exact absurd z (by decide)
theorem c_max : (2147483647 : Int64) = lN 2147483647 := rfl
theorem c_m46 : (2147483646 : Int32) = nI 2147483646 := by decide

set_option maxRecDepth 20000 in
theorem lots_M {E : Cx} {n x k1 v1 : Nat} {sd : Int32} {a a2 : Nat → Nat} {h h1 : Hp} {z1 : Value} (hR : RC a2 h) (hO : OkA a2) (e0 : a2 0 = a 0) (h0 : 0 < a 0) (hx : x < 2147483647) (hn : n ≤ 20) (hk : k1 < n) (hq : 1 + shiftN a2 (lotI a (lotX x (k1 + 1))) (a2 5) ≤ a2 4) (hcd : CT 8 yX2_doDeed cX2_doDeed 3 (some .int) [.ref 23, .int (nI 0), .int (nI (lotI a (lotX x (k1 + 1))))] h (some (.int (nI v1))) h1) (k : ∀ z1, WW E cX6_lots RX6 8 9 69 [.ref 0, .int (nI n), .int sd, .int (nI (a 0)), .long (lN (lotX x (k1 + 1))), .null, .int (nI (k1 + 1)), z1] (h1) []) : WW E cX6_lots RX6 8 9 69 [.ref 0, .int (nI n), .int sd, .int (nI (a 0)), .long (lN (lotX x k1)), .null, .int (nI k1), z1] (h) [] := by
  obtain ⟨⟨o0, o1, o2, o3, o4, o5, o6⟩, os⟩ := id hO
  have o64 := hO.in64
  have hC := hR.1
  obtain ⟨⟨r0, r1, r2, r4, r5, r6⟩, rs, P, rp, rP, rt⟩ := id hC
  have rg := hR.2
  have xl := lotX_lt hx k1
  have xl2 := lotX_lt hx (k1 + 1)
  have il : lotI a (lotX x (k1 + 1)) < a 0 := Nat.mod_lt _ h0
  refine s_iload (pc := 69) rfl dX6_lots_69 ?_
  refine s_iload_n (pc := 71) 1 rfl rfl dX6_lots_71 ?_
  refine s_icmp_geN (pc := 72) (by omega) (by omega) 132 dX6_lots_72 (by decide) (fun c_72 => ?_) (fun c_72 => ?_)
  · exfalso; omega
  · refine s_lload (pc := 75) rfl dX6_lots_75 ?_
    refine s_ldc2 (pc := 77) _ lc_X6_280 dX6_lots_77 ?_
    refine WW.topl (show _ = lN 48271 from rfl) ?_
    refine s_lmulN (pc := 80) dX6_lots_80 ?_
    refine s_ldc2 (pc := 81) _ lc_X6_278 dX6_lots_81 ?_
    refine WW.topl (show _ = lN 2147483647 from rfl) ?_
    refine s_lremN (pc := 84) (by omega) (by omega) (by omega) dX6_lots_84 ?_
    refine WW.topl (show _ = lN (lotX x (k1 + 1)) from rfl) ?_
    refine s_lstore (pc := 85) (by decide) rfl dX6_lots_85 ?_
    refine s_lload (pc := 87) rfl dX6_lots_87 ?_
    refine s_ldc2 (pc := 89) _ lc_X6_282 dX6_lots_89 ?_
    refine WW.topl (show _ = lN 8 from rfl) ?_
    refine s_ldivN (pc := 92) (by omega) (by omega) (by omega) dX6_lots_92 ?_
    refine s_iload_n (pc := 93) 3 rfl rfl dX6_lots_93 ?_
    refine s_i2lN (pc := 94) (by omega) dX6_lots_94 ?_
    refine s_lremN (pc := 95) (by omega) (by omega) (by omega) dX6_lots_95 ?_
    refine s_l2iN (pc := 96) dX6_lots_96 ?_
    refine WW.top (show _ = nI (lotI a (lotX x (k1 + 1))) from rfl) ?_
    refine s_istore (pc := 97) (by decide) rfl dX6_lots_97 ?_
    refine s_aload_n (pc := 99) 0 rfl rfl dX6_lots_99 ?_
    refine s_getr (pc := 100) (b := 23) fl_X6_27 rfl rfl rfl dX6_lots_100 ?_
    refine s_aload_n (pc := 103) 0 rfl rfl dX6_lots_103 ?_
    refine s_getr (pc := 104) (b := 23) fl_X6_27 rfl rfl rfl dX6_lots_104 ?_
    refine s_iload (pc := 107) rfl dX6_lots_107 ?_
    refine s_cvi1 (pc := 109) (c_X2_hasHoursFor hR hO (by omega)) ml_X6_284 mw_X2_hasHoursFor rfl (by decide) (Nat.le_of_ble_eq_true rfl) dX6_lots_109 ?_
    refine s_if_eqB (pc := 112) 119 dX6_lots_112 (by decide) (fun c_112 => ?_) (fun c_112 => ?_)
    · exfalso; exact c_112 hq
    · refine s_iconst (pc := 115) (k_i0N) dX6_lots_115 ?_
      refine s_goto (pc := 116) 120 dX6_lots_116 (by decide) ?_
      refine s_iload (pc := 120) rfl dX6_lots_120 ?_
      refine s_cvi2 (pc := 122) (hcd) ml_X6_164 mw_X2_doDeed rfl (by decide) (Nat.le_of_ble_eq_true rfl) dX6_lots_122 ?_
      refine s_pop (pc := 125) rfl dX6_lots_125 ?_
      refine s_iincN (pc := 126) rfl (by decide) rfl dX6_lots_126 ?_
      refine s_goto (pc := 129) 69 dX6_lots_129 (by decide) ?_
      exact k _

set_option maxRecDepth 20000 in
theorem lots_T {E : Cx} {n x k1 v1 : Nat} {sd : Int32} {a a2 : Nat → Nat} {h h1 : Hp} {z1 : Value} (hR : RC a2 h) (hO : OkA a2) (e0 : a2 0 = a 0) (h0 : 0 < a 0) (hx : x < 2147483647) (hn : n ≤ 20) (hk : k1 < n) (hq : ¬ 1 + shiftN a2 (lotI a (lotX x (k1 + 1))) (a2 5) ≤ a2 4) (hcd : CT 8 yX2_doDeed cX2_doDeed 3 (some .int) [.ref 23, .int (nI 3), .int (nI (lotI a (lotX x (k1 + 1))))] h (some (.int (nI v1))) h1) (k : ∀ z1, WW E cX6_lots RX6 8 9 69 [.ref 0, .int (nI n), .int sd, .int (nI (a 0)), .long (lN (lotX x (k1 + 1))), .null, .int (nI (k1 + 1)), z1] (h1) []) : WW E cX6_lots RX6 8 9 69 [.ref 0, .int (nI n), .int sd, .int (nI (a 0)), .long (lN (lotX x k1)), .null, .int (nI k1), z1] (h) [] := by
  obtain ⟨⟨o0, o1, o2, o3, o4, o5, o6⟩, os⟩ := id hO
  have o64 := hO.in64
  have hC := hR.1
  obtain ⟨⟨r0, r1, r2, r4, r5, r6⟩, rs, P, rp, rP, rt⟩ := id hC
  have rg := hR.2
  have xl := lotX_lt hx k1
  have xl2 := lotX_lt hx (k1 + 1)
  have il : lotI a (lotX x (k1 + 1)) < a 0 := Nat.mod_lt _ h0
  refine s_iload (pc := 69) rfl dX6_lots_69 ?_
  refine s_iload_n (pc := 71) 1 rfl rfl dX6_lots_71 ?_
  refine s_icmp_geN (pc := 72) (by omega) (by omega) 132 dX6_lots_72 (by decide) (fun c_72 => ?_) (fun c_72 => ?_)
  · exfalso; omega
  · refine s_lload (pc := 75) rfl dX6_lots_75 ?_
    refine s_ldc2 (pc := 77) _ lc_X6_280 dX6_lots_77 ?_
    refine WW.topl (show _ = lN 48271 from rfl) ?_
    refine s_lmulN (pc := 80) dX6_lots_80 ?_
    refine s_ldc2 (pc := 81) _ lc_X6_278 dX6_lots_81 ?_
    refine WW.topl (show _ = lN 2147483647 from rfl) ?_
    refine s_lremN (pc := 84) (by omega) (by omega) (by omega) dX6_lots_84 ?_
    refine WW.topl (show _ = lN (lotX x (k1 + 1)) from rfl) ?_
    refine s_lstore (pc := 85) (by decide) rfl dX6_lots_85 ?_
    refine s_lload (pc := 87) rfl dX6_lots_87 ?_
    refine s_ldc2 (pc := 89) _ lc_X6_282 dX6_lots_89 ?_
    refine WW.topl (show _ = lN 8 from rfl) ?_
    refine s_ldivN (pc := 92) (by omega) (by omega) (by omega) dX6_lots_92 ?_
    refine s_iload_n (pc := 93) 3 rfl rfl dX6_lots_93 ?_
    refine s_i2lN (pc := 94) (by omega) dX6_lots_94 ?_
    refine s_lremN (pc := 95) (by omega) (by omega) (by omega) dX6_lots_95 ?_
    refine s_l2iN (pc := 96) dX6_lots_96 ?_
    refine WW.top (show _ = nI (lotI a (lotX x (k1 + 1))) from rfl) ?_
    refine s_istore (pc := 97) (by decide) rfl dX6_lots_97 ?_
    refine s_aload_n (pc := 99) 0 rfl rfl dX6_lots_99 ?_
    refine s_getr (pc := 100) (b := 23) fl_X6_27 rfl rfl rfl dX6_lots_100 ?_
    refine s_aload_n (pc := 103) 0 rfl rfl dX6_lots_103 ?_
    refine s_getr (pc := 104) (b := 23) fl_X6_27 rfl rfl rfl dX6_lots_104 ?_
    refine s_iload (pc := 107) rfl dX6_lots_107 ?_
    refine s_cvi1 (pc := 109) (c_X2_hasHoursFor hR hO (by omega)) ml_X6_284 mw_X2_hasHoursFor rfl (by decide) (Nat.le_of_ble_eq_true rfl) dX6_lots_109 ?_
    refine s_if_eqB (pc := 112) 119 dX6_lots_112 (by decide) (fun c_112 => ?_) (fun c_112 => ?_)
    · refine s_iconst (pc := 119) (k_i3N) dX6_lots_119 ?_
      refine s_iload (pc := 120) rfl dX6_lots_120 ?_
      refine s_cvi2 (pc := 122) (hcd) ml_X6_164 mw_X2_doDeed rfl (by decide) (Nat.le_of_ble_eq_true rfl) dX6_lots_122 ?_
      refine s_pop (pc := 125) rfl dX6_lots_125 ?_
      refine s_iincN (pc := 126) rfl (by decide) rfl dX6_lots_126 ?_
      refine s_goto (pc := 129) 69 dX6_lots_129 (by decide) ?_
      exact k _
    · exfalso; exact hq c_112

set_option maxRecDepth 20000 in
theorem lots_lp {n x : Nat} {sd : Int32} {a : Nat → Nat} (hB : OkB a) (h0 : 0 < a 0) (hx : x < 2147483647) (hn : n ≤ 20) (h3 : a 3 + n ≤ 40) : ∀ k1, k1 ≤ n → ∀ h : Hp, RC (lotA a x k1) h → h.1 23 6 = nI (a 3 + k1) →
    ∃ h', (RC (lotA a x n) h' ∧ h'.1 23 6 = nI (a 3 + n) ∧ (∀ j, h'.1 32 j = if a 3 + k1 ≤ j ∧ j < a 3 + n then nI (lotD a x (j - a 3)) else h.1 32 j) ∧ Fp h h') ∧ ∀ E : Cx, (∀ z1, WW E cX6_lots RX6 8 9 69 [.ref 0, .int (nI n), .int sd, .int (nI (a 0)), .long (lN (lotX x n)), .null, .int (nI n), z1] (h') []) → ∀ z1, WW E cX6_lots RX6 8 9 69 [.ref 0, .int (nI n), .int sd, .int (nI (a 0)), .long (lN (lotX x k1)), .null, .int (nI k1), z1] (h) [] := by
  refine lpi n (fun k1 hk ih h hR h6 => ?_)
  by_cases hkn : k1 < n
  · obtain ⟨b1, b3⟩ := lot_ok (x := x) hB h0 (k1 := k1) (by omega)
    have ok := lot_okD (x := x) hB h0 (k1 := k1) (by omega)
    obtain ⟨h1, hcd, hR1, h31, hl1, hf1⟩ := doDeed_ok hR b1 (by rw [b3]; exact h6) ok
    obtain ⟨h', ⟨q1, q2, q3, q4⟩, kk⟩ := ih hkn h1 hR1 (by rw [h31, b3]; rfl)
    refine ⟨h', ⟨q1, q2, fun j => ?_, hf1.tr q4⟩, fun E ke z1 => ?_⟩
    · rw [q3 j, hl1 j, b3]
      by_cases c : a 3 + (k1 + 1) ≤ j ∧ j < a 3 + n
      · rw [if_pos c, if_pos (by omega)]
      · rw [if_neg c]
        by_cases c2 : j = a 3 + k1
        · rw [if_pos c2, if_pos (by omega), c2, Nat.add_sub_cancel_left]; rfl
        · rw [if_neg c2, if_neg (by omega)]
    · have e0 := lotA_0 a x k1
      by_cases hq : 1 + shiftN (lotA a x k1) (lotI a (lotX x (k1 + 1))) (lotA a x k1 5) ≤ lotA a x k1 4
      · have eq : lotQ (lotA a x k1) (lotI a (lotX x (k1 + 1))) = 0 := if_pos hq
        rw [eq] at hcd
        exact lots_M hR b1.1 e0 h0 hx hn hkn hq hcd (fun z1 => kk E ke z1)
      · have eq : lotQ (lotA a x k1) (lotI a (lotX x (k1 + 1))) = 3 := if_neg hq
        rw [eq] at hcd
        exact lots_T hR b1.1 e0 h0 hx hn hkn hq hcd (fun z1 => kk E ke z1)
  · obtain rfl : k1 = n := by omega
    refine ⟨h, ⟨hR, h6, fun j => by rw [if_neg (by omega)], Fp.rf h⟩, fun E ke z1 => ke z1⟩

set_option maxRecDepth 20000 in
theorem c_X6_lotsB1 {n s : Int32} {h : Hp} (hb : n < nI 1 ∨ nI 20 < n) : CT 9 yX6_lots cX6_lots 8 (some .int) [.ref 0, .int n, .int s] h (some (.int (-1))) (h) := by
  refine CT.of (own := RX6) rfl (by decide) (ro_i _) [.ref 0, .int n, .int s, .null, .null, .null, .null, .null] rfl (Nat.le_of_ble_eq_true rfl) (fun E hp => ?_)
  refine s_iload_n (pc := 0) 1 rfl rfl dX6_lots_0 ?_
  refine s_iconst (pc := 1) (k_i1N) dX6_lots_1 ?_
  refine s_icmp_lt (pc := 2) 25 dX6_lots_2 (by decide) (fun c_2 => ?_) (fun c_2 => ?_)
  · refine s_iconst (pc := 25) (k_im1) dX6_lots_25 ?_
    refine s_iret (pc := 26) dX6_lots_26 (PostE.of hp ?_ ?_)
    · rfl
    · rfl
  · refine s_iload_n (pc := 5) 1 rfl rfl dX6_lots_5 ?_
    refine s_bipush (pc := 6) (k_b20N) dX6_lots_6 ?_
    refine s_icmp_gt (pc := 8) 25 dX6_lots_8 (by decide) (fun c_8 => ?_) (fun c_8 => ?_)
    · refine s_iconst (pc := 25) (k_im1) dX6_lots_25 ?_
      refine s_iret (pc := 26) dX6_lots_26 (PostE.of hp ?_ ?_)
      · rfl
      · rfl
    · refine s_iload_n (pc := 11) 2 rfl rfl dX6_lots_11 ?_
      refine s_iconst (pc := 12) (k_i1N) dX6_lots_12 ?_
      refine s_icmp_lt (pc := 13) 25 dX6_lots_13 (by decide) (fun c_13 => ?_) (fun c_13 => ?_)
      · exact (hb.elim c_2 c_8).elim
      · exact (hb.elim c_2 c_8).elim

theorem sd_b {s : Int32} (h : s < nI 1 ∨ nI 2147483646 < s) (h1 : ¬ s < nI 1) : ¬ lg_cmp s.toInt64 2147483647 < 0 := by
  rcases h with h | h
  · exact absurd h h1
  · intro z
    rw [lgc_lt, Int64.lt_iff_toInt_lt, Int32.toInt_toInt64, c_max, pk_lT (by decide)] at z
    rw [Int32.lt_iff_toInt_lt, nI_toInt (by decide)] at h
    omega

set_option maxRecDepth 20000 in
theorem c_X6_lotsB2 {n : Nat} {s : Int32} {h : Hp} (h1 : 1 ≤ n) (hn : n ≤ 20) (hb : s < nI 1 ∨ nI 2147483646 < s) : CT 9 yX6_lots cX6_lots 8 (some .int) [.ref 0, .int (nI n), .int s] h (some (.int (-1))) (h) := by
  refine CT.of (own := RX6) rfl (by decide) (ro_i _) [.ref 0, .int (nI n), .int s, .null, .null, .null, .null, .null] rfl (Nat.le_of_ble_eq_true rfl) (fun E hp => ?_)
  refine s_iload_n (pc := 0) 1 rfl rfl dX6_lots_0 ?_
  refine s_iconst (pc := 1) (k_i1N) dX6_lots_1 ?_
  refine s_icmp_ltN (pc := 2) (by omega) (by omega) 25 dX6_lots_2 (by decide) (fun c_2 => ?_) (fun c_2 => ?_)
  · exfalso; omega
  · refine s_iload_n (pc := 5) 1 rfl rfl dX6_lots_5 ?_
    refine s_bipush (pc := 6) (k_b20N) dX6_lots_6 ?_
    refine s_icmp_gtN (pc := 8) (by omega) (by omega) 25 dX6_lots_8 (by decide) (fun c_8 => ?_) (fun c_8 => ?_)
    · exfalso; omega
    · refine s_iload_n (pc := 11) 2 rfl rfl dX6_lots_11 ?_
      refine s_iconst (pc := 12) (k_i1N) dX6_lots_12 ?_
      refine s_icmp_lt (pc := 13) 25 dX6_lots_13 (by decide) (fun c_13 => ?_) (fun c_13 => ?_)
      · refine s_iconst (pc := 25) (k_im1) dX6_lots_25 ?_
        refine s_iret (pc := 26) dX6_lots_26 (PostE.of hp ?_ ?_)
        · rfl
        · rfl
      · refine s_iload_n (pc := 16) 2 rfl rfl dX6_lots_16 ?_
        refine s_i2l (pc := 17) dX6_lots_17 ?_
        refine s_ldc2 (pc := 18) _ lc_X6_278 dX6_lots_18 ?_
        refine s_lcmp (pc := 21) dX6_lots_21 ?_
        refine s_if_lt (pc := 22) 27 dX6_lots_22 (by decide) (fun c_22 => ?_) (fun c_22 => ?_)
        · exfalso; exact sd_b hb c_13 c_22
        · refine s_iconst (pc := 25) (k_im1) dX6_lots_25 ?_
          refine s_iret (pc := 26) dX6_lots_26 (PostE.of hp ?_ ?_)
          · rfl
          · rfl

set_option maxRecDepth 20000 in
theorem c_X6_lotsE {n x : Nat} {a : Nat → Nat} {h : Hp} (hR : RC a h) (hO : OkA a) (h1 : 1 ≤ n) (hn : n ≤ 20) (x1 : 1 ≤ x) (hx : x < 2147483647) (h0 : a 0 = 0) : CT 9 yX6_lots cX6_lots 8 (some .int) [.ref 0, .int (nI n), .int (nI x)] h (some (.int (-4))) (h) := by
  obtain ⟨⟨o0, o1, o2, o3, o4, o5, o6⟩, os⟩ := id hO
  have o64 := hO.in64
  have hC := hR.1
  obtain ⟨⟨r0, r1, r2, r4, r5, r6⟩, rs, P, rp, rP, rt⟩ := id hC
  have rg := hR.2
  refine CT.of (own := RX6) rfl (by decide) (ro_i _) [.ref 0, .int (nI n), .int (nI x), .null, .null, .null, .null, .null] rfl (Nat.le_of_ble_eq_true rfl) (fun E hp => ?_)
  refine s_iload_n (pc := 0) 1 rfl rfl dX6_lots_0 ?_
  refine s_iconst (pc := 1) (k_i1N) dX6_lots_1 ?_
  refine s_icmp_ltN (pc := 2) (by omega) (by omega) 25 dX6_lots_2 (by decide) (fun c_2 => ?_) (fun c_2 => ?_)
  · exfalso; omega
  · refine s_iload_n (pc := 5) 1 rfl rfl dX6_lots_5 ?_
    refine s_bipush (pc := 6) (k_b20N) dX6_lots_6 ?_
    refine s_icmp_gtN (pc := 8) (by omega) (by omega) 25 dX6_lots_8 (by decide) (fun c_8 => ?_) (fun c_8 => ?_)
    · exfalso; omega
    · refine s_iload_n (pc := 11) 2 rfl rfl dX6_lots_11 ?_
      refine s_iconst (pc := 12) (k_i1N) dX6_lots_12 ?_
      refine s_icmp_ltN (pc := 13) (by omega) (by omega) 25 dX6_lots_13 (by decide) (fun c_13 => ?_) (fun c_13 => ?_)
      · exfalso; omega
      · refine s_iload_n (pc := 16) 2 rfl rfl dX6_lots_16 ?_
        refine s_i2l (pc := 17) dX6_lots_17 ?_
        refine s_ldc2 (pc := 18) _ lc_X6_278 dX6_lots_18 ?_
        refine s_lcmp (pc := 21) dX6_lots_21 ?_
        refine s_if_lt (pc := 22) 27 dX6_lots_22 (by decide) (fun c_22 => ?_) (fun c_22 => ?_)
        · refine s_aload_n (pc := 27) 0 rfl rfl dX6_lots_27 ?_
          refine s_getr (pc := 28) (b := 23) fl_X6_27 rfl rfl rfl dX6_lots_28 ?_
          refine s_getr (pc := 31) (b := 24) fl_X6_131 rfl rfl rfl dX6_lots_31 ?_
          refine s_getiE (pc := 34) fl_X6_137 rfl rfl r0 dX6_lots_34 ?_
          refine s_istore_n (pc := 37) 3 rfl (by decide) rfl dX6_lots_37 ?_
          refine s_iload_n (pc := 38) 3 rfl rfl dX6_lots_38 ?_
          refine s_if_gtN (pc := 39) (by omega) 45 dX6_lots_39 (by decide) (fun c_39 => ?_) (fun c_39 => ?_)
          · exfalso; omega
          · refine s_bipush (pc := 42) (k_bm4) dX6_lots_42 ?_
            refine s_iret (pc := 44) dX6_lots_44 (PostE.of hp ?_ ?_)
            · rfl
            · rfl
        · exfalso; rw [lgc_lt, c_max, nI_l (by omega), pk_lLT (by omega) (by decide)] at c_22; exact c_22 hx

set_option maxRecDepth 20000 in
theorem c_X6_lotsF {n x : Nat} {a : Nat → Nat} {h : Hp} (hR : RC a h) (hO : OkA a) (h3 : h.1 23 6 = nI (a 3)) (h1 : 1 ≤ n) (hn : n ≤ 20) (x1 : 1 ≤ x) (hx : x < 2147483647) (h0 : 0 < a 0) (hf : 40 < a 3 + n) : CT 9 yX6_lots cX6_lots 8 (some .int) [.ref 0, .int (nI n), .int (nI x)] h (some (.int (-2))) (h) := by
  obtain ⟨⟨o0, o1, o2, o3, o4, o5, o6⟩, os⟩ := id hO
  have o64 := hO.in64
  have hC := hR.1
  obtain ⟨⟨r0, r1, r2, r4, r5, r6⟩, rs, P, rp, rP, rt⟩ := id hC
  have rg := hR.2
  refine CT.of (own := RX6) rfl (by decide) (ro_i _) [.ref 0, .int (nI n), .int (nI x), .null, .null, .null, .null, .null] rfl (Nat.le_of_ble_eq_true rfl) (fun E hp => ?_)
  refine s_iload_n (pc := 0) 1 rfl rfl dX6_lots_0 ?_
  refine s_iconst (pc := 1) (k_i1N) dX6_lots_1 ?_
  refine s_icmp_ltN (pc := 2) (by omega) (by omega) 25 dX6_lots_2 (by decide) (fun c_2 => ?_) (fun c_2 => ?_)
  · exfalso; omega
  · refine s_iload_n (pc := 5) 1 rfl rfl dX6_lots_5 ?_
    refine s_bipush (pc := 6) (k_b20N) dX6_lots_6 ?_
    refine s_icmp_gtN (pc := 8) (by omega) (by omega) 25 dX6_lots_8 (by decide) (fun c_8 => ?_) (fun c_8 => ?_)
    · exfalso; omega
    · refine s_iload_n (pc := 11) 2 rfl rfl dX6_lots_11 ?_
      refine s_iconst (pc := 12) (k_i1N) dX6_lots_12 ?_
      refine s_icmp_ltN (pc := 13) (by omega) (by omega) 25 dX6_lots_13 (by decide) (fun c_13 => ?_) (fun c_13 => ?_)
      · exfalso; omega
      · refine s_iload_n (pc := 16) 2 rfl rfl dX6_lots_16 ?_
        refine s_i2l (pc := 17) dX6_lots_17 ?_
        refine s_ldc2 (pc := 18) _ lc_X6_278 dX6_lots_18 ?_
        refine s_lcmp (pc := 21) dX6_lots_21 ?_
        refine s_if_lt (pc := 22) 27 dX6_lots_22 (by decide) (fun c_22 => ?_) (fun c_22 => ?_)
        · refine s_aload_n (pc := 27) 0 rfl rfl dX6_lots_27 ?_
          refine s_getr (pc := 28) (b := 23) fl_X6_27 rfl rfl rfl dX6_lots_28 ?_
          refine s_getr (pc := 31) (b := 24) fl_X6_131 rfl rfl rfl dX6_lots_31 ?_
          refine s_getiE (pc := 34) fl_X6_137 rfl rfl r0 dX6_lots_34 ?_
          refine s_istore_n (pc := 37) 3 rfl (by decide) rfl dX6_lots_37 ?_
          refine s_iload_n (pc := 38) 3 rfl rfl dX6_lots_38 ?_
          refine s_if_gtN (pc := 39) (by omega) 45 dX6_lots_39 (by decide) (fun c_39 => ?_) (fun c_39 => ?_)
          · refine s_aload_n (pc := 45) 0 rfl rfl dX6_lots_45 ?_
            refine s_getr (pc := 46) (b := 23) fl_X6_27 rfl rfl rfl dX6_lots_46 ?_
            refine s_getiE (pc := 49) fl_X6_177 rfl rfl h3 dX6_lots_49 ?_
            refine s_iload_n (pc := 52) 1 rfl rfl dX6_lots_52 ?_
            refine s_iaddN (pc := 53) dX6_lots_53 ?_
            refine s_bipush (pc := 54) (k_b40N) dX6_lots_54 ?_
            refine s_icmp_leN (pc := 56) (by omega) (by omega) 62 dX6_lots_56 (by decide) (fun c_56 => ?_) (fun c_56 => ?_)
            · exfalso; omega
            · refine s_bipush (pc := 59) (k_bm2) dX6_lots_59 ?_
              refine s_iret (pc := 61) dX6_lots_61 (PostE.of hp ?_ ?_)
              · rfl
              · rfl
          · exfalso; omega
        · exfalso; rw [lgc_lt, c_max, nI_l (by omega), pk_lLT (by omega) (by decide)] at c_22; exact c_22 hx

set_option maxRecDepth 20000 in
theorem c_X6_lotsO {n x : Nat} {a : Nat → Nat} {h : Hp} (hR : RC a h) (hB : OkB a) (h3 : h.1 23 6 = nI (a 3)) (h1 : 1 ≤ n) (hn : n ≤ 20) (x1 : 1 ≤ x) (hx : x < 2147483647) (h0 : 0 < a 0) (hf : a 3 + n ≤ 40) : ∃ h', (RC (lotA a x n) h' ∧ h'.1 23 6 = nI (a 3 + n) ∧ (∀ j, h'.1 32 j = if a 3 ≤ j ∧ j < a 3 + n then nI (lotD a x (j - a 3)) else h.1 32 j) ∧ Fp h h') ∧ CT 9 yX6_lots cX6_lots 8 (some .int) [.ref 0, .int (nI n), .int (nI x)] h (some (.int (nI (lotA a x n 5)))) h' := by
  have hO := hB.1
  obtain ⟨h', ⟨q1, q2, q3, q4⟩, kk⟩ := lots_lp (sd := nI x) hB h0 hx hn hf 0 (Nat.zero_le _) h hR h3
  refine ⟨h', ⟨q1, q2, q3, q4⟩, ?_⟩
  obtain ⟨⟨o0, o1, o2, o3, o4, o5, o6⟩, os⟩ := id hO
  have o64 := hO.in64
  have hC := hR.1
  obtain ⟨⟨r0, r1, r2, r4, r5, r6⟩, rs, P, rp, rP, rt⟩ := id hC
  have rg := hR.2
  have r5' := q1.1.1.2.2.2.2.1
  refine CT.of (own := RX6) rfl (by decide) (ro_i _) [.ref 0, .int (nI n), .int (nI x), .null, .null, .null, .null, .null] rfl (Nat.le_of_ble_eq_true rfl) (fun E hp => ?_)
  refine s_iload_n (pc := 0) 1 rfl rfl dX6_lots_0 ?_
  refine s_iconst (pc := 1) (k_i1N) dX6_lots_1 ?_
  refine s_icmp_ltN (pc := 2) (by omega) (by omega) 25 dX6_lots_2 (by decide) (fun c_2 => ?_) (fun c_2 => ?_)
  · exfalso; omega
  · refine s_iload_n (pc := 5) 1 rfl rfl dX6_lots_5 ?_
    refine s_bipush (pc := 6) (k_b20N) dX6_lots_6 ?_
    refine s_icmp_gtN (pc := 8) (by omega) (by omega) 25 dX6_lots_8 (by decide) (fun c_8 => ?_) (fun c_8 => ?_)
    · exfalso; omega
    · refine s_iload_n (pc := 11) 2 rfl rfl dX6_lots_11 ?_
      refine s_iconst (pc := 12) (k_i1N) dX6_lots_12 ?_
      refine s_icmp_ltN (pc := 13) (by omega) (by omega) 25 dX6_lots_13 (by decide) (fun c_13 => ?_) (fun c_13 => ?_)
      · exfalso; omega
      · refine s_iload_n (pc := 16) 2 rfl rfl dX6_lots_16 ?_
        refine s_i2l (pc := 17) dX6_lots_17 ?_
        refine s_ldc2 (pc := 18) _ lc_X6_278 dX6_lots_18 ?_
        refine s_lcmp (pc := 21) dX6_lots_21 ?_
        refine s_if_lt (pc := 22) 27 dX6_lots_22 (by decide) (fun c_22 => ?_) (fun c_22 => ?_)
        · refine s_aload_n (pc := 27) 0 rfl rfl dX6_lots_27 ?_
          refine s_getr (pc := 28) (b := 23) fl_X6_27 rfl rfl rfl dX6_lots_28 ?_
          refine s_getr (pc := 31) (b := 24) fl_X6_131 rfl rfl rfl dX6_lots_31 ?_
          refine s_getiE (pc := 34) fl_X6_137 rfl rfl r0 dX6_lots_34 ?_
          refine s_istore_n (pc := 37) 3 rfl (by decide) rfl dX6_lots_37 ?_
          refine s_iload_n (pc := 38) 3 rfl rfl dX6_lots_38 ?_
          refine s_if_gtN (pc := 39) (by omega) 45 dX6_lots_39 (by decide) (fun c_39 => ?_) (fun c_39 => ?_)
          · refine s_aload_n (pc := 45) 0 rfl rfl dX6_lots_45 ?_
            refine s_getr (pc := 46) (b := 23) fl_X6_27 rfl rfl rfl dX6_lots_46 ?_
            refine s_getiE (pc := 49) fl_X6_177 rfl rfl h3 dX6_lots_49 ?_
            refine s_iload_n (pc := 52) 1 rfl rfl dX6_lots_52 ?_
            refine s_iaddN (pc := 53) dX6_lots_53 ?_
            refine s_bipush (pc := 54) (k_b40N) dX6_lots_54 ?_
            refine s_icmp_leN (pc := 56) (by omega) (by omega) 62 dX6_lots_56 (by decide) (fun c_56 => ?_) (fun c_56 => ?_)
            · refine s_iload_n (pc := 62) 2 rfl rfl dX6_lots_62 ?_
              refine s_i2l (pc := 63) dX6_lots_63 ?_
              refine WW.topl (show _ = lN (lotX x 0) from nI_l (by omega)) ?_
              refine s_lstore (pc := 64) (by decide) rfl dX6_lots_64 ?_
              refine s_iconst (pc := 66) (k_i0N) dX6_lots_66 ?_
              refine s_istore (pc := 67) (by decide) rfl dX6_lots_67 ?_
              refine kk E (fun z1 => ?_) _
              refine s_iload (pc := 69) rfl dX6_lots_69 ?_
              refine s_iload_n (pc := 71) 1 rfl rfl dX6_lots_71 ?_
              refine s_icmp_geN (pc := 72) (by omega) (by omega) 132 dX6_lots_72 (by decide) (fun c_72 => ?_) (fun c_72 => ?_)
              · refine s_aload_n (pc := 132) 0 rfl rfl dX6_lots_132 ?_
                refine s_getr (pc := 133) (b := 23) fl_X6_27 rfl rfl rfl dX6_lots_133 ?_
                refine s_getiE (pc := 136) fl_X6_190 rfl rfl r5' dX6_lots_136 ?_
                refine s_iret (pc := 139) dX6_lots_139 (PostE.of hp ?_ ?_)
                · rfl
                · rfl
              · exfalso; omega
            · exfalso; omega
          · exfalso; omega
        · exfalso; rw [lgc_lt, c_max, nI_l (by omega), pk_lLT (by omega) (by decide)] at c_22; exact c_22 hx

set_option maxRecDepth 20000 in
theorem c_X7_lotsB1 {n s : Int32} {h : Hp} (hb : n < nI 1 ∨ nI 20 < n) : CT 3 yX7_lots cX7_lots 8 (some .int) [.ref 50, .int n, .int s] h (some (.int (-1))) (h) := by
  refine CT.of (own := RX7) rfl (by decide) (ro_i _) [.ref 50, .int n, .int s, .null, .null, .null, .null, .null] rfl (Nat.le_of_ble_eq_true rfl) (fun E hp => ?_)
  refine s_iload_n (pc := 0) 1 rfl rfl dX7_lots_0 ?_
  refine s_iconst (pc := 1) (k_i1N) dX7_lots_1 ?_
  refine s_bipush (pc := 2) (k_b20N) dX7_lots_2 ?_
  refine s_csi3 (pc := 4) (c_X7_inF hb) ml_X7_64 ms_X7_in (by decide) (Nat.le_of_ble_eq_true rfl) dX7_lots_4 ?_
  refine s_if_eqF (pc := 7) 21 dX7_lots_7 (by decide) ?_
  refine s_iconst (pc := 21) (k_im1) dX7_lots_21 ?_
  refine s_iret (pc := 22) dX7_lots_22 (PostE.of hp ?_ ?_)
  · rfl
  · rfl

set_option maxRecDepth 20000 in
theorem c_X7_lotsB2 {n : Nat} {s : Int32} {h : Hp} (h1 : 1 ≤ n) (hn : n ≤ 20) (hb : s < nI 1 ∨ nI 2147483646 < s) : CT 3 yX7_lots cX7_lots 8 (some .int) [.ref 50, .int (nI n), .int s] h (some (.int (-1))) (h) := by
  refine CT.of (own := RX7) rfl (by decide) (ro_i _) [.ref 50, .int (nI n), .int s, .null, .null, .null, .null, .null] rfl (Nat.le_of_ble_eq_true rfl) (fun E hp => ?_)
  refine s_iload_n (pc := 0) 1 rfl rfl dX7_lots_0 ?_
  refine s_iconst (pc := 1) (k_i1N) dX7_lots_1 ?_
  refine s_bipush (pc := 2) (k_b20N) dX7_lots_2 ?_
  refine s_csi3 (pc := 4) (c_X7_inT (rng1_t h1 hn (by decide))) ml_X7_64 ms_X7_in (by decide) (Nat.le_of_ble_eq_true rfl) dX7_lots_4 ?_
  refine s_if_eqT (pc := 7) 21 dX7_lots_7 (by decide) ?_
  refine s_iload_n (pc := 10) 2 rfl rfl dX7_lots_10 ?_
  refine s_iconst (pc := 11) (k_i1N) dX7_lots_11 ?_
  refine s_ldcw (pc := 12) _ lc_X7_260 dX7_lots_12 ?_
  refine WW.top c_m46 ?_
  refine s_csi3 (pc := 15) (c_X7_inF hb) ml_X7_64 ms_X7_in (by decide) (Nat.le_of_ble_eq_true rfl) dX7_lots_15 ?_
  refine s_if_neF (pc := 18) 23 dX7_lots_18 (by decide) ?_
  refine s_iconst (pc := 21) (k_im1) dX7_lots_21 ?_
  refine s_iret (pc := 22) dX7_lots_22 (PostE.of hp ?_ ?_)
  · rfl
  · rfl

set_option maxRecDepth 20000 in
theorem c_X7_lotsE {n x : Nat} {a : Nat → Nat} {h : Hp} (hA : RM a h) (hO : OkA a) (h1 : 1 ≤ n) (hn : n ≤ 20) (x1 : 1 ≤ x) (hx : x < 2147483647) (h0 : a 0 = 0) : CT 3 yX7_lots cX7_lots 8 (some .int) [.ref 50, .int (nI n), .int (nI x)] h (some (.int (-4))) (h) := by
  refine CT.of (own := RX7) rfl (by decide) (ro_i _) [.ref 50, .int (nI n), .int (nI x), .null, .null, .null, .null, .null] rfl (Nat.le_of_ble_eq_true rfl) (fun E hp => ?_)
  refine s_iload_n (pc := 0) 1 rfl rfl dX7_lots_0 ?_
  refine s_iconst (pc := 1) (k_i1N) dX7_lots_1 ?_
  refine s_bipush (pc := 2) (k_b20N) dX7_lots_2 ?_
  refine s_csi3 (pc := 4) (c_X7_inT (rng1_t h1 hn (by decide))) ml_X7_64 ms_X7_in (by decide) (Nat.le_of_ble_eq_true rfl) dX7_lots_4 ?_
  refine s_if_eqT (pc := 7) 21 dX7_lots_7 (by decide) ?_
  refine s_iload_n (pc := 10) 2 rfl rfl dX7_lots_10 ?_
  refine s_iconst (pc := 11) (k_i1N) dX7_lots_11 ?_
  refine s_ldcw (pc := 12) _ lc_X7_260 dX7_lots_12 ?_
  refine WW.top c_m46 ?_
  refine s_csi3 (pc := 15) (c_X7_inT (rng1_t x1 (by omega) (by decide))) ml_X7_64 ms_X7_in (by decide) (Nat.le_of_ble_eq_true rfl) dX7_lots_15 ?_
  refine s_if_neT (pc := 18) 23 dX7_lots_18 (by decide) ?_
  refine s_aload_n (pc := 23) 0 rfl rfl dX7_lots_23 ?_
  refine s_cvi0 (pc := 24) (c_X7_are hA hO.1.1) ml_X7_198 mw_X7_are rfl (by decide) (Nat.le_of_ble_eq_true rfl) dX7_lots_24 ?_
  refine s_if_neB (pc := 27) 33 dX7_lots_27 (by decide) (fun c_27 => ?_) (fun c_27 => ?_)
  · exfalso; omega
  · refine s_bipush (pc := 30) (k_bm4) dX7_lots_30 ?_
    refine s_iret (pc := 32) dX7_lots_32 (PostE.of hp ?_ ?_)
    · rfl
    · rfl

set_option maxRecDepth 20000 in
theorem c_X7_lotsF {n x : Nat} {a : Nat → Nat} {h : Hp} (hA : RM a h) (hO : OkA a) (h1 : 1 ≤ n) (hn : n ≤ 20) (x1 : 1 ≤ x) (hx : x < 2147483647) (h0 : 0 < a 0) (hf : 40 < a 3 + n) : CT 3 yX7_lots cX7_lots 8 (some .int) [.ref 50, .int (nI n), .int (nI x)] h (some (.int (-2))) (h) := by
  obtain ⟨⟨o0, o1, o2, o3, o4, o5, o6⟩, os⟩ := id hO
  have o64 := hO.in64
  refine CT.of (own := RX7) rfl (by decide) (ro_i _) [.ref 50, .int (nI n), .int (nI x), .null, .null, .null, .null, .null] rfl (Nat.le_of_ble_eq_true rfl) (fun E hp => ?_)
  refine s_iload_n (pc := 0) 1 rfl rfl dX7_lots_0 ?_
  refine s_iconst (pc := 1) (k_i1N) dX7_lots_1 ?_
  refine s_bipush (pc := 2) (k_b20N) dX7_lots_2 ?_
  refine s_csi3 (pc := 4) (c_X7_inT (rng1_t h1 hn (by decide))) ml_X7_64 ms_X7_in (by decide) (Nat.le_of_ble_eq_true rfl) dX7_lots_4 ?_
  refine s_if_eqT (pc := 7) 21 dX7_lots_7 (by decide) ?_
  refine s_iload_n (pc := 10) 2 rfl rfl dX7_lots_10 ?_
  refine s_iconst (pc := 11) (k_i1N) dX7_lots_11 ?_
  refine s_ldcw (pc := 12) _ lc_X7_260 dX7_lots_12 ?_
  refine WW.top c_m46 ?_
  refine s_csi3 (pc := 15) (c_X7_inT (rng1_t x1 (by omega) (by decide))) ml_X7_64 ms_X7_in (by decide) (Nat.le_of_ble_eq_true rfl) dX7_lots_15 ?_
  refine s_if_neT (pc := 18) 23 dX7_lots_18 (by decide) ?_
  refine s_aload_n (pc := 23) 0 rfl rfl dX7_lots_23 ?_
  refine s_cvi0 (pc := 24) (c_X7_are hA hO.1.1) ml_X7_198 mw_X7_are rfl (by decide) (Nat.le_of_ble_eq_true rfl) dX7_lots_24 ?_
  refine s_if_neB (pc := 27) 33 dX7_lots_27 (by decide) (fun c_27 => ?_) (fun c_27 => ?_)
  · refine s_aload_n (pc := 33) 0 rfl rfl dX7_lots_33 ?_
    refine s_getr (pc := 34) (b := 56) fl_X7_25 rfl rfl rfl dX7_lots_34 ?_
    refine s_iconst (pc := 37) (k_i3N) dX7_lots_37 ?_
    refine s_ialdN (pc := 38) (_) rfl rfl (by omega) (hA _ (by omega)) dX7_lots_38 ?_
    refine s_iload_n (pc := 39) 1 rfl rfl dX7_lots_39 ?_
    refine s_iaddN (pc := 40) dX7_lots_40 ?_
    refine s_bipush (pc := 41) (k_b40N) dX7_lots_41 ?_
    refine s_icmp_leN (pc := 43) (by omega) (by omega) 49 dX7_lots_43 (by decide) (fun c_43 => ?_) (fun c_43 => ?_)
    · exfalso; omega
    · refine s_bipush (pc := 46) (k_bm2) dX7_lots_46 ?_
      refine s_iret (pc := 48) dX7_lots_48 (PostE.of hp ?_ ?_)
      · rfl
      · rfl
  · exfalso; omega

set_option maxRecDepth 20000 in
theorem c_X7_lotsO {n x : Nat} {a : Nat → Nat} {h : Hp} (hB : OkB a) (h1 : 1 ≤ n) (hn : n ≤ 20) (x1 : 1 ≤ x) (hx : x < 2147483647) (h0 : 0 < a 0) (hf : a 3 + n ≤ 40) : CT 9 yX7_lots cX7_lots 8 (some .int) [.ref 50, .int (nI n), .int (nI x)] (wN h a) (some (.int (nI (lotA a x n 5)))) (wN h (lotA a x n)) := by
  have hO := hB.1
  have hA := RMw h a
  obtain ⟨⟨o0, o1, o2, o3, o4, o5, o6⟩, os⟩ := id hO
  have o64 := hO.in64
  refine CT.of (own := RX7) rfl (by decide) (ro_i _) [.ref 50, .int (nI n), .int (nI x), .null, .null, .null, .null, .null] rfl (Nat.le_of_ble_eq_true rfl) (fun E hp => ?_)
  refine s_iload_n (pc := 0) 1 rfl rfl dX7_lots_0 ?_
  refine s_iconst (pc := 1) (k_i1N) dX7_lots_1 ?_
  refine s_bipush (pc := 2) (k_b20N) dX7_lots_2 ?_
  refine s_csi3 (pc := 4) (c_X7_inT (rng1_t h1 hn (by decide))) ml_X7_64 ms_X7_in (by decide) (Nat.le_of_ble_eq_true rfl) dX7_lots_4 ?_
  refine s_if_eqT (pc := 7) 21 dX7_lots_7 (by decide) ?_
  refine s_iload_n (pc := 10) 2 rfl rfl dX7_lots_10 ?_
  refine s_iconst (pc := 11) (k_i1N) dX7_lots_11 ?_
  refine s_ldcw (pc := 12) _ lc_X7_260 dX7_lots_12 ?_
  refine WW.top c_m46 ?_
  refine s_csi3 (pc := 15) (c_X7_inT (rng1_t x1 (by omega) (by decide))) ml_X7_64 ms_X7_in (by decide) (Nat.le_of_ble_eq_true rfl) dX7_lots_15 ?_
  refine s_if_neT (pc := 18) 23 dX7_lots_18 (by decide) ?_
  refine s_aload_n (pc := 23) 0 rfl rfl dX7_lots_23 ?_
  refine s_cvi0 (pc := 24) (c_X7_are hA hO.1.1) ml_X7_198 mw_X7_are rfl (by decide) (Nat.le_of_ble_eq_true rfl) dX7_lots_24 ?_
  refine s_if_neB (pc := 27) 33 dX7_lots_27 (by decide) (fun c_27 => ?_) (fun c_27 => ?_)
  · refine s_aload_n (pc := 33) 0 rfl rfl dX7_lots_33 ?_
    refine s_getr (pc := 34) (b := 56) fl_X7_25 rfl rfl rfl dX7_lots_34 ?_
    refine s_iconst (pc := 37) (k_i3N) dX7_lots_37 ?_
    refine s_ialdN (pc := 38) (_) rfl rfl (by omega) (RMw h a 3 (by decide)) dX7_lots_38 ?_
    refine s_iload_n (pc := 39) 1 rfl rfl dX7_lots_39 ?_
    refine s_iaddN (pc := 40) dX7_lots_40 ?_
    refine s_bipush (pc := 41) (k_b40N) dX7_lots_41 ?_
    refine s_icmp_leN (pc := 43) (by omega) (by omega) 49 dX7_lots_43 (by decide) (fun c_43 => ?_) (fun c_43 => ?_)
    · refine s_iload_n (pc := 49) 2 rfl rfl dX7_lots_49 ?_
      refine s_i2lN (pc := 50) (by omega) dX7_lots_50 ?_
      refine WW.topl (show _ = lN (lotX x 0) from rfl) ?_
      refine s_lstore_n (pc := 51) 3 rfl (by decide) rfl dX7_lots_51 ?_
      refine s_iconst (pc := 52) (k_i0N) dX7_lots_52 ?_
      refine s_istore (pc := 53) (by decide) rfl dX7_lots_53 ?_
      suffices lp_55 : ∀ k1, k1 ≤ n → ∀ z1 z2, WW E cX7_lots RX7 8 _ 55 [.ref 50, .int (nI n), .int (nI x), .long (lN (lotX x k1)), .null, .int (nI k1), z1, z2] (wN h (lotA a x k1)) [] from lp_55 0 (by omega) _ _
      refine lpi n (fun k1 hk_k1 ih_55 => ?_)
      intro z1 z2
      obtain ⟨b1, b3⟩ := lot_ok (x := x) hB h0 (k1 := k1) (by omega)
      have e0 := lotA_0 a x k1
      have xl := lotX_lt hx k1
      have xl2 := lotX_lt hx (k1 + 1)
      have il : lotI a (lotX x (k1 + 1)) < a 0 := Nat.mod_lt _ h0
      have b4 := b1.1.1.2.2.2.2.1
      have sl := shift_le (lotA a x k1) (lotI a (lotX x (k1 + 1))) ((lotA a x k1) 5)
      refine s_iload (pc := 55) rfl dX7_lots_55 ?_
      refine s_iload_n (pc := 57) 1 rfl rfl dX7_lots_57 ?_
      refine s_icmp_geN (pc := 58) (by omega) (by omega) 131 dX7_lots_58 (by decide) (fun c_58 => ?_) (fun c_58 => ?_)
      · obtain rfl : k1 = n := by omega
        refine s_aload_n (pc := 131) 0 rfl rfl dX7_lots_131 ?_
        refine s_getr (pc := 132) (b := 56) fl_X7_25 rfl rfl rfl dX7_lots_132 ?_
        refine s_iconst (pc := 135) (k_i5N) dX7_lots_135 ?_
        refine s_ialdN (pc := 136) (_) rfl rfl (by omega) (RMw _ _ 5 (by decide)) dX7_lots_136 ?_
        refine s_iret (pc := 137) dX7_lots_137 (PostE.of hp ?_ ?_)
        · rfl
        · rfl
      · refine s_lload_n (pc := 61) 3 rfl rfl dX7_lots_61 ?_
        refine s_ldc2 (pc := 62) _ lc_X7_261 dX7_lots_62 ?_
        refine WW.topl (show _ = lN 48271 from rfl) ?_
        refine s_lmulN (pc := 65) dX7_lots_65 ?_
        refine s_ldc2 (pc := 66) _ lc_X7_263 dX7_lots_66 ?_
        refine WW.topl (show _ = lN 2147483647 from rfl) ?_
        refine s_lremN (pc := 69) (by omega) (by omega) (by omega) dX7_lots_69 ?_
        refine WW.topl (show _ = lN (lotX x (k1 + 1)) from rfl) ?_
        refine s_lstore_n (pc := 70) 3 rfl (by decide) rfl dX7_lots_70 ?_
        refine s_lload_n (pc := 71) 3 rfl rfl dX7_lots_71 ?_
        refine s_ldc2 (pc := 72) _ lc_X7_265 dX7_lots_72 ?_
        refine WW.topl (show _ = lN 8 from rfl) ?_
        refine s_ldivN (pc := 75) (by omega) (by omega) (by omega) dX7_lots_75 ?_
        refine s_aload_n (pc := 76) 0 rfl rfl dX7_lots_76 ?_
        refine s_getr (pc := 77) (b := 56) fl_X7_25 rfl rfl rfl dX7_lots_77 ?_
        refine s_iconst (pc := 80) (k_i0N) dX7_lots_80 ?_
        refine s_ialdN (pc := 81) (_) rfl rfl (by omega) ((RMw _ _ _ (by omega)).trans (congrArg nI e0)) dX7_lots_81 ?_
        refine s_i2lN (pc := 82) (by omega) dX7_lots_82 ?_
        refine s_lremN (pc := 83) (by omega) (by omega) (by omega) dX7_lots_83 ?_
        refine s_l2iN (pc := 84) dX7_lots_84 ?_
        refine WW.top (show _ = nI (lotI a (lotX x (k1 + 1))) from rfl) ?_
        refine s_istore (pc := 85) (by decide) rfl dX7_lots_85 ?_
        refine s_aload_n (pc := 87) 0 rfl rfl dX7_lots_87 ?_
        refine s_iload (pc := 88) rfl dX7_lots_88 ?_
        refine s_aload_n (pc := 90) 0 rfl rfl dX7_lots_90 ?_
        refine s_getr (pc := 91) (b := 56) fl_X7_25 rfl rfl rfl dX7_lots_91 ?_
        refine s_iconst (pc := 94) (k_i5N) dX7_lots_94 ?_
        refine s_ialdN (pc := 95) (_) rfl rfl (by omega) (RMw _ _ _ (by omega)) dX7_lots_95 ?_
        refine s_cvi2 (pc := 96) (c_X7_shiftedBy (RMw h (lotA a x k1)) b1.1 (by omega) b1.1.1.2.2.2.2.2.1 b1.1.in64) ml_X7_174 mw_X7_shiftedBy rfl (by decide) (Nat.le_of_ble_eq_true rfl) dX7_lots_96 ?_
        refine s_iconst (pc := 99) (k_i1N) dX7_lots_99 ?_
        refine s_iaddN (pc := 100) dX7_lots_100 ?_
        refine s_aload_n (pc := 101) 0 rfl rfl dX7_lots_101 ?_
        refine s_getr (pc := 102) (b := 56) fl_X7_25 rfl rfl rfl dX7_lots_102 ?_
        refine s_iconst (pc := 105) (k_i4N) dX7_lots_105 ?_
        refine s_ialdN (pc := 106) (_) rfl rfl (by omega) (RMw _ _ _ (by omega)) dX7_lots_106 ?_
        refine s_icmp_leN (pc := 107) (by omega) (by omega) 117 dX7_lots_107 (by decide) (fun c_107 => ?_) (fun c_107 => ?_)
        · refine s_aload_n (pc := 117) 0 rfl rfl dX7_lots_117 ?_
          refine s_iload (pc := 118) rfl dX7_lots_118 ?_
          refine s_cvi1 (pc := 120) (c_X7_goes b1.1 (by omega) (by omega) (by omega)) ml_X7_181 mw_X7_goes rfl (by decide) (Nat.le_of_ble_eq_true rfl) dX7_lots_120 ?_
          refine s_istore (pc := 123) (by decide) rfl dX7_lots_123 ?_
          refine s_iincN (pc := 125) rfl (by decide) rfl dX7_lots_125 ?_
          refine s_goto (pc := 128) 55 dX7_lots_128 (by decide) ?_
          have ih := ih_55 (by omega)
          simp only [lotA, lotQ] at ih
          rw [if_pos (by omega)] at ih
          exact ih _ _
        · refine s_aload_n (pc := 110) 0 rfl rfl dX7_lots_110 ?_
          refine s_cvi0 (pc := 111) (c_X7_ebbs b1.1 (by omega)) ml_X7_202 mw_X7_ebbs rfl (by decide) (Nat.le_of_ble_eq_true rfl) dX7_lots_111 ?_
          refine s_goto (pc := 114) 123 dX7_lots_114 (by decide) ?_
          refine s_istore (pc := 123) (by decide) rfl dX7_lots_123 ?_
          refine s_iincN (pc := 125) rfl (by decide) rfl dX7_lots_125 ?_
          refine s_goto (pc := 128) 55 dX7_lots_128 (by decide) ?_
          have ih := ih_55 (by omega)
          simp only [lotA, lotQ] at ih
          rw [if_neg (by omega)] at ih
          exact ih _ _
    · exfalso; omega
  · exfalso; omega
