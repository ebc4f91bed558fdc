/-! rows of ships, each once -/
def shpB (n : Nat) (x : Int32) : Bool := decide (nI 0 ≤ x ∧ x < nI n)
theorem shp_v {n : Nat} {f : Nat → Int32} {k : Nat} (hn : n ≤ 6) (h : shpB n (f k) = true) : f k = nI (yN f k) ∧ yN f k < n := by
  simp only [shpB, decide_eq_true_eq] at h
  obtain ⟨h1, h2⟩ := h
  obtain ⟨j, hj, e⟩ := nI_of (Int32.not_lt.mpr h1)
  have ey : yN f k = j := by unfold yN; rw [e, nI_clamp hj]
  rw [ey]
  refine ⟨e, ?_⟩
  rw [e, Int32.lt_iff_toInt_lt, nI_toInt hj, nI_toInt (by omega)] at h2
  omega
theorem shp_b {n : Nat} {x : Int32} (h : ¬ shpB n x = true) : x < 0 ∨ nI n ≤ x := by
  simp only [shpB, decide_eq_true_eq] at h
  by_cases q : nI 0 ≤ x
  · exact Or.inr (Int32.not_lt.mp (fun z => h ⟨q, z⟩))
  · exact Or.inl (Int32.not_le.mp q)
theorem shp_n {n j : Nat} (hn : n ≤ 6) (h : j < n) : shpB n (nI j) = true := by
  simp only [shpB, decide_eq_true_eq]
  exact ⟨nI_le (Nat.zero_le _) (by omega), by rw [Int32.lt_iff_toInt_lt, nI_toInt (by omega), nI_toInt (by omega)]; omega⟩
def onc (n s : Nat) (f : Nat → Int32) : Nat → Bool × Nat
  | 0 => (true, s)
  | k + 1 => if (onc n s f k).1 = true ∧ shpB n (f k) = true ∧ (onc n s f k).2.testBit (yN f k) = true then (true, clrN (onc n s f k).2 (yN f k)) else (false, (onc n s f k).2)
theorem onc_t {n s : Nat} {f : Nat → Int32} {k : Nat} (h1 : (onc n s f k).1 = true) (h2 : shpB n (f k) = true) (h3 : (onc n s f k).2.testBit (yN f k) = true) : onc n s f (k + 1) = (true, clrN (onc n s f k).2 (yN f k)) := by
  simp only [onc]; rw [if_pos ⟨h1, h2, h3⟩]
theorem onc_f {n s : Nat} {f : Nat → Int32} {k : Nat} (h : ¬ ((onc n s f k).1 = true ∧ shpB n (f k) = true ∧ (onc n s f k).2.testBit (yN f k) = true)) : onc n s f (k + 1) = (false, (onc n s f k).2) := by
  simp only [onc]; rw [if_neg h]
theorem onc_1 {n s : Nat} {f : Nat → Int32} {k : Nat} (h : (onc n s f (k + 1)).1 = true) : (onc n s f k).1 = true ∧ shpB n (f k) = true ∧ (onc n s f k).2.testBit (yN f k) = true := by
  by_cases q : (onc n s f k).1 = true ∧ shpB n (f k) = true ∧ (onc n s f k).2.testBit (yN f k) = true
  · exact q
  · rw [onc_f q] at h; exact absurd h Bool.false_ne_true
theorem onc_le {n s : Nat} {f : Nat → Int32} {k m : Nat} (h : (onc n s f m).1 = true) (hk : k ≤ m) : (onc n s f k).1 = true := by
  induction m with
  | zero => rw [show k = 0 by omega]; rfl
  | succ m ih =>
    by_cases e : k = m + 1
    · rw [e]; exact h
    · exact ih (onc_1 h).1 (by omega)
theorem onc_lt {n s : Nat} {f : Nat → Int32} (hs : s < 64) (k : Nat) : (onc n s f k).2 < 64 := by
  induction k with
  | zero => exact hs
  | succ k ih =>
    simp only [onc]
    split
    · exact clr_lt ih
    · exact ih
/-- the class's open set: s, or all but the rest of s -/
def opC (b : Bool) (s : Nat) : Int32 := if b = true then nI (63 - s) ^^^ (-1) else nI s
theorem opC_tb : ∀ b, ∀ s, s < 64 → ∀ i, i < 6 → (opC b s >>> (nI i &&& 31)) &&& nI 1 = nI (if s.testBit i = true then 1 else 0) := by decide +kernel
theorem opC_clr : ∀ b, ∀ s, s < 64 → ∀ i, i < 6 → opC b s &&& (nI (2 ^ i) ^^^ (-1)) = opC b (clrN s i) := by decide +kernel
theorem m1_and : ∀ s, s < 64 → nI s &&& (-1) = nI s := by decide +kernel
theorem CT.ret {d : Nat} {y : MethodName} {cc : ByteArray} {nL : Nat} {rt : Option FieldType} {as : List Value} {h h' : Hp} {x x2 : Int32} (k : CT d y cc nL rt as h (some (.int x)) h') (e : x = x2) : CT d y cc nL rt as h (some (.int x2)) h' := e ▸ k
theorem c_X2_isShipG {a : Nat → Nat} {h : Hp} {x : Int32} (hC : RC0 a h) (hn : a 0 ≤ 6) : CT 1 yX2_isShip cX2_isShip 2 (some .boolean) [.ref 23, .int x] h (some (.int (bi (shpB (a 0) x = true)))) h := by
  by_cases q : shpB (a 0) x = true
  · have e := (shp_v (f := fun _ => x) (k := 0) hn q)
    have c := (c_X2_isShipN hC hn e.2).ret (bi_cg (q := shpB (a 0) x = true) ⟨fun _ => q, fun _ => trivial⟩)
    rw [← e.1] at c
    exact c
  · exact (c_X2_isShipB hC hn (shp_b q)).ret (bi_cg ⟨fun z => z.elim, fun z => q z⟩)
theorem c_X7_isShipG {a : Nat → Nat} {h : Hp} {x : Int32} (hA : RM a h) (hn : a 0 ≤ 6) : CT 2 yX7_isShip cX7_isShip 2 (some .boolean) [.ref 50, .int x] h (some (.int (bi (shpB (a 0) x = true)))) h := by
  by_cases q : shpB (a 0) x = true
  · have e := (shp_v (f := fun _ => x) (k := 0) hn q)
    have c := (c_X7_isShipT hA hn e.2).ret (bi_cg (q := shpB (a 0) x = true) ⟨fun _ => q, fun _ => trivial⟩)
    rw [← e.1] at c
    exact c
  · exact (c_X7_isShipF hA hn (shp_b q)).ret (bi_cg ⟨fun z => z.elim, fun z => q z⟩)

set_option maxRecDepth 20000 in
theorem c_X6_rsB {s v : Int32} {h : Hp} (hm : h.1 1 0 = nI 6) (hb : s < 0 ∨ nI 6 ≤ s) : CT 4 yX6_refusalOfShips cX6_refusalOfShips 6 (some .int) [.ref 0, .int s, .int v] h (some (.int (-1))) (h) := by
  refine CT.of (own := RX6) rfl (by decide) (ro_i _) [.ref 0, .int s, .int v, .null, .null, .null] rfl (Nat.le_of_ble_eq_true rfl) (fun E hp => ?_)
  refine s_aload_n (pc := 0) 0 rfl rfl dX6_refusalOfShips_0 ?_
  refine s_getr (pc := 1) (b := 1) fl_X6_14 rfl rfl rfl dX6_refusalOfShips_1 ?_
  refine s_iload_n (pc := 4) 1 rfl rfl dX6_refusalOfShips_4 ?_
  refine s_cvi1 (pc := 5) (c_X5_isNumber_1F hm hb) ml_X6_96 mw_X5_isNumber rfl (by decide) (Nat.le_of_ble_eq_true rfl) dX6_refusalOfShips_5 ?_
  refine s_if_neF (pc := 8) 13 dX6_refusalOfShips_8 (by decide) ?_
  refine s_iconst (pc := 11) (k_im1) dX6_refusalOfShips_11 ?_
  refine s_iret (pc := 12) dX6_refusalOfShips_12 (PostE.of hp ?_ ?_)
  · rfl
  · rfl

set_option maxRecDepth 20000 in
theorem c_X6_rsE {q : Nat} {v : Int32} {a : Nat → Nat} {h : Hp} (hR : RC a h) (hO : OkA a) (hm : h.1 1 0 = nI 6) (hk : q < 6) (h0 : a 0 = 0) : CT 4 yX6_refusalOfShips cX6_refusalOfShips 6 (some .int) [.ref 0, .int (nI q), .int v] h (some (.int (-4))) (h) := by
  refine CT.of (own := RX6) rfl (by decide) (ro_i _) [.ref 0, .int (nI q), .int v, .null, .null, .null] rfl (Nat.le_of_ble_eq_true rfl) (fun E hp => ?_)
  refine s_aload_n (pc := 0) 0 rfl rfl dX6_refusalOfShips_0 ?_
  refine s_getr (pc := 1) (b := 1) fl_X6_14 rfl rfl rfl dX6_refusalOfShips_1 ?_
  refine s_iload_n (pc := 4) 1 rfl rfl dX6_refusalOfShips_4 ?_
  refine s_cvi1 (pc := 5) (c_X5_isNumber_1T hm hk) ml_X6_96 mw_X5_isNumber rfl (by decide) (Nat.le_of_ble_eq_true rfl) dX6_refusalOfShips_5 ?_
  refine s_if_neT (pc := 8) 13 dX6_refusalOfShips_8 (by decide) ?_
  refine s_aload_n (pc := 13) 0 rfl rfl dX6_refusalOfShips_13 ?_
  refine s_getr (pc := 14) (b := 23) fl_X6_27 rfl rfl rfl dX6_refusalOfShips_14 ?_
  refine s_cvi0 (pc := 17) (c_X2_isEmpty hR.1 hO.1.1) ml_X6_170 mw_X2_isEmpty rfl (by decide) (Nat.le_of_ble_eq_true rfl) dX6_refusalOfShips_17 ?_
  refine s_if_eqB (pc := 20) 26 dX6_refusalOfShips_20 (by decide) (fun c_20 => ?_) (fun c_20 => ?_)
  · exfalso; omega
  · refine s_bipush (pc := 23) (k_bm4) dX6_refusalOfShips_23 ?_
    refine s_iret (pc := 25) dX6_refusalOfShips_25 (PostE.of hp ?_ ?_)
    · rfl
    · rfl

set_option maxRecDepth 20000 in
theorem c_X6_rsM {q : Nat} {v : Int32} {a : Nat → Nat} {h : Hp} (hR : RC a h) (hO : OkA a) (hm : h.1 1 0 = nI 6) (hk : q < 6) (h0 : 0 < a 0) (hz : h.1 2 q = -1) : CT 4 yX6_refusalOfShips cX6_refusalOfShips 6 (some .int) [.ref 0, .int (nI q), .int v] h (some (.int (-3))) (finC h 1) := by
  refine CT.of (own := RX6) rfl (by decide) (ro_i _) [.ref 0, .int (nI q), .int v, .null, .null, .null] rfl (Nat.le_of_ble_eq_true rfl) (fun E hp => ?_)
  refine s_aload_n (pc := 0) 0 rfl rfl dX6_refusalOfShips_0 ?_
  refine s_getr (pc := 1) (b := 1) fl_X6_14 rfl rfl rfl dX6_refusalOfShips_1 ?_
  refine s_iload_n (pc := 4) 1 rfl rfl dX6_refusalOfShips_4 ?_
  refine s_cvi1 (pc := 5) (c_X5_isNumber_1T hm hk) ml_X6_96 mw_X5_isNumber rfl (by decide) (Nat.le_of_ble_eq_true rfl) dX6_refusalOfShips_5 ?_
  refine s_if_neT (pc := 8) 13 dX6_refusalOfShips_8 (by decide) ?_
  refine s_aload_n (pc := 13) 0 rfl rfl dX6_refusalOfShips_13 ?_
  refine s_getr (pc := 14) (b := 23) fl_X6_27 rfl rfl rfl dX6_refusalOfShips_14 ?_
  refine s_cvi0 (pc := 17) (c_X2_isEmpty hR.1 hO.1.1) ml_X6_170 mw_X2_isEmpty rfl (by decide) (Nat.le_of_ble_eq_true rfl) dX6_refusalOfShips_17 ?_
  refine s_if_eqB (pc := 20) 26 dX6_refusalOfShips_20 (by decide) (fun c_20 => ?_) (fun c_20 => ?_)
  · refine s_aload_n (pc := 26) 0 rfl rfl dX6_refusalOfShips_26 ?_
    refine s_getr (pc := 27) (b := 1) fl_X6_14 rfl rfl rfl dX6_refusalOfShips_27 ?_
    refine s_iload_n (pc := 30) 1 rfl rfl dX6_refusalOfShips_30 ?_
    refine s_cvi1 (pc := 31) (c_X5_isThere_1F hm hk hz) ml_X6_104 mw_X5_isThere rfl (by decide) (Nat.le_of_ble_eq_true rfl) dX6_refusalOfShips_31 ?_
    refine s_if_neF (pc := 34) 43 dX6_refusalOfShips_34 (by decide) ?_
    refine s_aload_n (pc := 37) 0 rfl rfl dX6_refusalOfShips_37 ?_
    refine s_iconst (pc := 38) (k_i1N) dX6_refusalOfShips_38 ?_
    refine s_cvi1 (pc := 39) (c_X6_refuse (by decide) (by decide)) ml_X6_100 mw_X6_refuse rfl (by decide) (Nat.le_of_ble_eq_true rfl) dX6_refusalOfShips_39 ?_
    refine s_iret (pc := 42) dX6_refusalOfShips_42 (PostE.of hp ?_ ?_)
    · rfl
    · rfl
  · exfalso; omega

set_option maxRecDepth 20000 in
theorem c_X6_rsO {q m s : Nat} {b : Bool} {a : Nat → Nat} {h : Hp} (hR : RC a h) (hO : OkA a) (hm : h.1 1 0 = nI 6) (h0 : 0 < a 0) (hk : q < 6) (hz : h.1 2 q = nI m) (hz6 : m ≤ 40) {f : Nat → Int32} (hf : ∀ j, j < 40 → h.1 (3 + 1 + q) j = f j) (hs : s < 64) (hu : (onc (a 0) s f m).1 = true) : CT 4 yX6_refusalOfShips cX6_refusalOfShips 6 (some .int) [.ref 0, .int (nI q), .int (opC b s)] h (some (.int (nI 0))) (h) := by
  obtain ⟨⟨o0, o1, o2, o3, o4, o5, o6⟩, os⟩ := id hO
  have o64 := hO.in64
  have hC := hR.1
  obtain ⟨⟨r0, r1, r2, r4, r5, r6⟩, rs, P, rp, rP, rt⟩ := id hC
  have rg := hR.2
  refine CT.of (own := RX6) rfl (by decide) (ro_i _) [.ref 0, .int (nI q), .int (opC b s), .null, .null, .null] rfl (Nat.le_of_ble_eq_true rfl) (fun E hp => ?_)
  refine s_aload_n (pc := 0) 0 rfl rfl dX6_refusalOfShips_0 ?_
  refine s_getr (pc := 1) (b := 1) fl_X6_14 rfl rfl rfl dX6_refusalOfShips_1 ?_
  refine s_iload_n (pc := 4) 1 rfl rfl dX6_refusalOfShips_4 ?_
  refine s_cvi1 (pc := 5) (c_X5_isNumber_1T hm hk) ml_X6_96 mw_X5_isNumber rfl (by decide) (Nat.le_of_ble_eq_true rfl) dX6_refusalOfShips_5 ?_
  refine s_if_neT (pc := 8) 13 dX6_refusalOfShips_8 (by decide) ?_
  refine s_aload_n (pc := 13) 0 rfl rfl dX6_refusalOfShips_13 ?_
  refine s_getr (pc := 14) (b := 23) fl_X6_27 rfl rfl rfl dX6_refusalOfShips_14 ?_
  refine s_cvi0 (pc := 17) (c_X2_isEmpty hR.1 hO.1.1) ml_X6_170 mw_X2_isEmpty rfl (by decide) (Nat.le_of_ble_eq_true rfl) dX6_refusalOfShips_17 ?_
  refine s_if_eqB (pc := 20) 26 dX6_refusalOfShips_20 (by decide) (fun c_20 => ?_) (fun c_20 => ?_)
  · refine s_aload_n (pc := 26) 0 rfl rfl dX6_refusalOfShips_26 ?_
    refine s_getr (pc := 27) (b := 1) fl_X6_14 rfl rfl rfl dX6_refusalOfShips_27 ?_
    refine s_iload_n (pc := 30) 1 rfl rfl dX6_refusalOfShips_30 ?_
    refine s_cvi1 (pc := 31) (c_X5_isThere_1T hm hk hz (by omega)) ml_X6_104 mw_X5_isThere rfl (by decide) (Nat.le_of_ble_eq_true rfl) dX6_refusalOfShips_31 ?_
    refine s_if_neT (pc := 34) 43 dX6_refusalOfShips_34 (by decide) ?_
    refine s_iload_n (pc := 43) 2 rfl rfl dX6_refusalOfShips_43 ?_
    refine s_istore_n (pc := 44) 3 rfl (by decide) rfl dX6_refusalOfShips_44 ?_
    refine s_iconst (pc := 45) (k_i0N) dX6_refusalOfShips_45 ?_
    refine s_istore (pc := 46) (by decide) rfl dX6_refusalOfShips_46 ?_
    suffices lp_48 : ∀ t, t ≤ m → ∀ zz, (onc (a 0) s f t).1 = true → WW E cX6_refusalOfShips RX6 6 _ 48 [.ref 0, .int (nI q), .int (opC b s), .int (opC b (onc (a 0) s f t).2), .int (nI t), zz] (h) [] from lp_48 0 (by omega) _ rfl
    refine lpi m (fun t hk_t ih_48 => ?_)
    intro zz hok
    refine s_iload (pc := 48) rfl dX6_refusalOfShips_48 ?_
    refine s_aload_n (pc := 50) 0 rfl rfl dX6_refusalOfShips_50 ?_
    refine s_getr (pc := 51) (b := 1) fl_X6_14 rfl rfl rfl dX6_refusalOfShips_51 ?_
    refine s_getr (pc := 54) (b := 2) fl_X6_121 rfl rfl rfl dX6_refusalOfShips_54 ?_
    refine s_iload_n (pc := 57) 1 rfl rfl dX6_refusalOfShips_57 ?_
    refine s_ialdN (pc := 58) (_) rfl rfl (by omega) hz dX6_refusalOfShips_58 ?_
    refine s_icmp_geN (pc := 59) (by omega) (by omega) 118 dX6_refusalOfShips_59 (by decide) (fun c_59 => ?_) (fun c_59 => ?_)
    · refine s_iconst (pc := 118) (k_i0N) dX6_refusalOfShips_118 ?_
      refine s_iret (pc := 119) dX6_refusalOfShips_119 (PostE.of hp ?_ ?_)
      · rfl
      · rfl
    · refine s_aload_n (pc := 62) 0 rfl rfl dX6_refusalOfShips_62 ?_
      refine s_getr (pc := 63) (b := 1) fl_X6_14 rfl rfl rfl dX6_refusalOfShips_63 ?_
      refine s_getr (pc := 66) (b := 3) fl_X6_111 rfl rfl rfl dX6_refusalOfShips_66 ?_
      refine s_iload_n (pc := 69) 1 rfl rfl dX6_refusalOfShips_69 ?_
      refine s_aald (pc := 70) (b := 3 + 1 + q) (_) rfl rfl (by omega) rfl dX6_refusalOfShips_70 ?_
      refine s_iload (pc := 71) rfl dX6_refusalOfShips_71 ?_
      refine s_ialdE (pc := 73) (_) (ly_1 q hk) rfl (by omega) (hf _ (by omega)) dX6_refusalOfShips_73 ?_
      refine s_istore (pc := 74) (by decide) rfl dX6_refusalOfShips_74 ?_
      refine s_aload_n (pc := 76) 0 rfl rfl dX6_refusalOfShips_76 ?_
      refine s_getr (pc := 77) (b := 23) fl_X6_27 rfl rfl rfl dX6_refusalOfShips_77 ?_
      refine s_iload (pc := 80) rfl dX6_refusalOfShips_80 ?_
      refine s_cvi1 (pc := 82) (c_X2_isShipG hC o0) ml_X6_140 mw_X2_isShip rfl (by decide) (Nat.le_of_ble_eq_true rfl) dX6_refusalOfShips_82 ?_
      refine s_if_eqB (pc := 85) 97 dX6_refusalOfShips_85 (by decide) (fun c_85 => ?_) (fun c_85 => ?_)
      · exfalso; exact c_85 (onc_1 (onc_le hu (k := t + 1) (by omega))).2.1
      · obtain ⟨e1, e2⟩ := shp_v o0 c_85
        rw [e1]
        have ol := onc_lt (n := a 0) (f := f) hs t
        refine s_iload_n (pc := 88) 3 rfl rfl dX6_refusalOfShips_88 ?_
        refine s_iload (pc := 89) rfl dX6_refusalOfShips_89 ?_
        refine s_ishr (pc := 91) dX6_refusalOfShips_91 ?_
        refine s_iconst (pc := 92) (k_i1N) dX6_refusalOfShips_92 ?_
        refine s_iand (pc := 93) dX6_refusalOfShips_93 ?_
        refine WW.top (opC_tb b _ ol _ (by omega)) ?_
        refine s_if_neN (pc := 94) (by split <;> decide) 103 dX6_refusalOfShips_94 (by decide) (fun c_94 => ?_) (fun c_94 => ?_)
        · refine s_iload_n (pc := 103) 3 rfl rfl dX6_refusalOfShips_103 ?_
          refine s_iconst (pc := 104) (k_i1N) dX6_refusalOfShips_104 ?_
          refine s_iload (pc := 105) rfl dX6_refusalOfShips_105 ?_
          refine s_ishl1N (pc := 107) (by omega) dX6_refusalOfShips_107 ?_
          refine s_iconst (pc := 108) (k_im1) dX6_refusalOfShips_108 ?_
          refine s_ixor (pc := 109) dX6_refusalOfShips_109 ?_
          refine s_iand (pc := 110) dX6_refusalOfShips_110 ?_
          refine WW.top (opC_clr b _ ol _ (by omega)) ?_
          refine s_istore_n (pc := 111) 3 rfl (by decide) rfl dX6_refusalOfShips_111 ?_
          refine s_iincN (pc := 112) rfl (by decide) rfl dX6_refusalOfShips_112 ?_
          refine s_goto (pc := 115) 48 dX6_refusalOfShips_115 (by decide) ?_
          have e := onc_t hok c_85 (Classical.byContradiction fun z => c_94 (if_neg z))
          have ih := ih_48 (by omega)
          rw [e] at ih
          exact ih _ rfl
        · exfalso; rw [if_pos (onc_1 (onc_le hu (k := t + 1) (by omega))).2.2] at c_94; exact absurd c_94 (by decide)
  · exfalso; omega

set_option maxRecDepth 20000 in
theorem c_X6_rsU {q m s : Nat} {b : Bool} {a : Nat → Nat} {h : Hp} (hR : RC a h) (hO : OkA a) (hm : h.1 1 0 = nI 6) (h0 : 0 < a 0) (hk : q < 6) (hz : h.1 2 q = nI m) (hz6 : m ≤ 40) {f : Nat → Int32} (hf : ∀ j, j < 40 → h.1 (3 + 1 + q) j = f j) (hs : s < 64) (hu : ¬ (onc (a 0) s f m).1 = true) : CT 4 yX6_refusalOfShips cX6_refusalOfShips 6 (some .int) [.ref 0, .int (nI q), .int (opC b s)] h (some (.int (-3))) (finC h 3) := by
  obtain ⟨⟨o0, o1, o2, o3, o4, o5, o6⟩, os⟩ := id hO
  have o64 := hO.in64
  have hC := hR.1
  obtain ⟨⟨r0, r1, r2, r4, r5, r6⟩, rs, P, rp, rP, rt⟩ := id hC
  have rg := hR.2
  refine CT.of (own := RX6) rfl (by decide) (ro_i _) [.ref 0, .int (nI q), .int (opC b s), .null, .null, .null] rfl (Nat.le_of_ble_eq_true rfl) (fun E hp => ?_)
  refine s_aload_n (pc := 0) 0 rfl rfl dX6_refusalOfShips_0 ?_
  refine s_getr (pc := 1) (b := 1) fl_X6_14 rfl rfl rfl dX6_refusalOfShips_1 ?_
  refine s_iload_n (pc := 4) 1 rfl rfl dX6_refusalOfShips_4 ?_
  refine s_cvi1 (pc := 5) (c_X5_isNumber_1T hm hk) ml_X6_96 mw_X5_isNumber rfl (by decide) (Nat.le_of_ble_eq_true rfl) dX6_refusalOfShips_5 ?_
  refine s_if_neT (pc := 8) 13 dX6_refusalOfShips_8 (by decide) ?_
  refine s_aload_n (pc := 13) 0 rfl rfl dX6_refusalOfShips_13 ?_
  refine s_getr (pc := 14) (b := 23) fl_X6_27 rfl rfl rfl dX6_refusalOfShips_14 ?_
  refine s_cvi0 (pc := 17) (c_X2_isEmpty hR.1 hO.1.1) ml_X6_170 mw_X2_isEmpty rfl (by decide) (Nat.le_of_ble_eq_true rfl) dX6_refusalOfShips_17 ?_
  refine s_if_eqB (pc := 20) 26 dX6_refusalOfShips_20 (by decide) (fun c_20 => ?_) (fun c_20 => ?_)
  · refine s_aload_n (pc := 26) 0 rfl rfl dX6_refusalOfShips_26 ?_
    refine s_getr (pc := 27) (b := 1) fl_X6_14 rfl rfl rfl dX6_refusalOfShips_27 ?_
    refine s_iload_n (pc := 30) 1 rfl rfl dX6_refusalOfShips_30 ?_
    refine s_cvi1 (pc := 31) (c_X5_isThere_1T hm hk hz (by omega)) ml_X6_104 mw_X5_isThere rfl (by decide) (Nat.le_of_ble_eq_true rfl) dX6_refusalOfShips_31 ?_
    refine s_if_neT (pc := 34) 43 dX6_refusalOfShips_34 (by decide) ?_
    refine s_iload_n (pc := 43) 2 rfl rfl dX6_refusalOfShips_43 ?_
    refine s_istore_n (pc := 44) 3 rfl (by decide) rfl dX6_refusalOfShips_44 ?_
    refine s_iconst (pc := 45) (k_i0N) dX6_refusalOfShips_45 ?_
    refine s_istore (pc := 46) (by decide) rfl dX6_refusalOfShips_46 ?_
    suffices lp_48 : ∀ t, t ≤ m → ∀ zz, (onc (a 0) s f t).1 = true → WW E cX6_refusalOfShips RX6 6 _ 48 [.ref 0, .int (nI q), .int (opC b s), .int (opC b (onc (a 0) s f t).2), .int (nI t), zz] (h) [] from lp_48 0 (by omega) _ rfl
    refine lpi m (fun t hk_t ih_48 => ?_)
    intro zz hok
    refine s_iload (pc := 48) rfl dX6_refusalOfShips_48 ?_
    refine s_aload_n (pc := 50) 0 rfl rfl dX6_refusalOfShips_50 ?_
    refine s_getr (pc := 51) (b := 1) fl_X6_14 rfl rfl rfl dX6_refusalOfShips_51 ?_
    refine s_getr (pc := 54) (b := 2) fl_X6_121 rfl rfl rfl dX6_refusalOfShips_54 ?_
    refine s_iload_n (pc := 57) 1 rfl rfl dX6_refusalOfShips_57 ?_
    refine s_ialdN (pc := 58) (_) rfl rfl (by omega) hz dX6_refusalOfShips_58 ?_
    refine s_icmp_geN (pc := 59) (by omega) (by omega) 118 dX6_refusalOfShips_59 (by decide) (fun c_59 => ?_) (fun c_59 => ?_)
    · exfalso; exact hu (by rw [show m = t by omega]; exact hok)
    · refine s_aload_n (pc := 62) 0 rfl rfl dX6_refusalOfShips_62 ?_
      refine s_getr (pc := 63) (b := 1) fl_X6_14 rfl rfl rfl dX6_refusalOfShips_63 ?_
      refine s_getr (pc := 66) (b := 3) fl_X6_111 rfl rfl rfl dX6_refusalOfShips_66 ?_
      refine s_iload_n (pc := 69) 1 rfl rfl dX6_refusalOfShips_69 ?_
      refine s_aald (pc := 70) (b := 3 + 1 + q) (_) rfl rfl (by omega) rfl dX6_refusalOfShips_70 ?_
      refine s_iload (pc := 71) rfl dX6_refusalOfShips_71 ?_
      refine s_ialdE (pc := 73) (_) (ly_1 q hk) rfl (by omega) (hf _ (by omega)) dX6_refusalOfShips_73 ?_
      refine s_istore (pc := 74) (by decide) rfl dX6_refusalOfShips_74 ?_
      refine s_aload_n (pc := 76) 0 rfl rfl dX6_refusalOfShips_76 ?_
      refine s_getr (pc := 77) (b := 23) fl_X6_27 rfl rfl rfl dX6_refusalOfShips_77 ?_
      refine s_iload (pc := 80) rfl dX6_refusalOfShips_80 ?_
      refine s_cvi1 (pc := 82) (c_X2_isShipG hC o0) ml_X6_140 mw_X2_isShip rfl (by decide) (Nat.le_of_ble_eq_true rfl) dX6_refusalOfShips_82 ?_
      refine s_if_eqB (pc := 85) 97 dX6_refusalOfShips_85 (by decide) (fun c_85 => ?_) (fun c_85 => ?_)
      · refine s_aload_n (pc := 97) 0 rfl rfl dX6_refusalOfShips_97 ?_
        refine s_iconst (pc := 98) (k_i3N) dX6_refusalOfShips_98 ?_
        refine s_cvi1 (pc := 99) (c_X6_refuse (by decide) (by decide)) ml_X6_100 mw_X6_refuse rfl (by decide) (Nat.le_of_ble_eq_true rfl) dX6_refusalOfShips_99 ?_
        refine s_iret (pc := 102) dX6_refusalOfShips_102 (PostE.of hp ?_ ?_)
        · rfl
        · rfl
      · obtain ⟨e1, e2⟩ := shp_v o0 c_85
        rw [e1]
        have ol := onc_lt (n := a 0) (f := f) hs t
        refine s_iload_n (pc := 88) 3 rfl rfl dX6_refusalOfShips_88 ?_
        refine s_iload (pc := 89) rfl dX6_refusalOfShips_89 ?_
        refine s_ishr (pc := 91) dX6_refusalOfShips_91 ?_
        refine s_iconst (pc := 92) (k_i1N) dX6_refusalOfShips_92 ?_
        refine s_iand (pc := 93) dX6_refusalOfShips_93 ?_
        refine WW.top (opC_tb b _ ol _ (by omega)) ?_
        refine s_if_neN (pc := 94) (by split <;> decide) 103 dX6_refusalOfShips_94 (by decide) (fun c_94 => ?_) (fun c_94 => ?_)
        · refine s_iload_n (pc := 103) 3 rfl rfl dX6_refusalOfShips_103 ?_
          refine s_iconst (pc := 104) (k_i1N) dX6_refusalOfShips_104 ?_
          refine s_iload (pc := 105) rfl dX6_refusalOfShips_105 ?_
          refine s_ishl1N (pc := 107) (by omega) dX6_refusalOfShips_107 ?_
          refine s_iconst (pc := 108) (k_im1) dX6_refusalOfShips_108 ?_
          refine s_ixor (pc := 109) dX6_refusalOfShips_109 ?_
          refine s_iand (pc := 110) dX6_refusalOfShips_110 ?_
          refine WW.top (opC_clr b _ ol _ (by omega)) ?_
          refine s_istore_n (pc := 111) 3 rfl (by decide) rfl dX6_refusalOfShips_111 ?_
          refine s_iincN (pc := 112) rfl (by decide) rfl dX6_refusalOfShips_112 ?_
          refine s_goto (pc := 115) 48 dX6_refusalOfShips_115 (by decide) ?_
          have e := onc_t hok c_85 (Classical.byContradiction fun z => c_94 (if_neg z))
          have ih := ih_48 (by omega)
          rw [e] at ih
          exact ih _ rfl
        · refine s_aload_n (pc := 97) 0 rfl rfl dX6_refusalOfShips_97 ?_
          refine s_iconst (pc := 98) (k_i3N) dX6_refusalOfShips_98 ?_
          refine s_cvi1 (pc := 99) (c_X6_refuse (by decide) (by decide)) ml_X6_100 mw_X6_refuse rfl (by decide) (Nat.le_of_ble_eq_true rfl) dX6_refusalOfShips_99 ?_
          refine s_iret (pc := 102) dX6_refusalOfShips_102 (PostE.of hp ?_ ?_)
          · rfl
          · rfl
  · exfalso; omega

set_option maxRecDepth 20000 in
theorem c_X7_areOnce {q m s : Nat} {a : Nat → Nat} {h : Hp} (hA : RM a h) (hO : OkA a) (hk : q < 6) (hz : h.1 51 q = nI m) (hz6 : m ≤ 40) {f : Nat → Int32} (hf : ∀ j, j < 40 → h.1 52 (40 * q + j) = f j) (hs : s < 64) : CT 3 yX7_areOnce cX7_areOnce 7 (some .boolean) [.ref 50, .int (nI q), .int (nI s)] h (some (.int (bi ((onc (a 0) s f m).1 = true)))) (h) := by
  obtain ⟨⟨o0, o1, o2, o3, o4, o5, o6⟩, os⟩ := id hO
  have o64 := hO.in64
  refine CT.of (own := RX7) rfl (by decide) (ro_z _) [.ref 50, .int (nI q), .int (nI s), .null, .null, .null, .null] rfl (Nat.le_of_ble_eq_true rfl) (fun E hp => ?_)
  refine s_iload_n (pc := 0) 2 rfl rfl dX7_areOnce_0 ?_
  refine s_istore_n (pc := 1) 3 rfl (by decide) rfl dX7_areOnce_1 ?_
  refine s_iconst (pc := 2) (k_i1N) dX7_areOnce_2 ?_
  refine s_istore (pc := 3) (by decide) rfl dX7_areOnce_3 ?_
  refine s_iconst (pc := 5) (k_i0N) dX7_areOnce_5 ?_
  refine s_istore (pc := 6) (by decide) rfl dX7_areOnce_6 ?_
  suffices lp_8 : ∀ t, t ≤ m → ∀ zz, WW E cX7_areOnce RX7 7 _ 8 [.ref 50, .int (nI q), .int (nI s), .int (nI (onc (a 0) s f t).2), .int (bi ((onc (a 0) s f t).1 = true)), .int (nI t), zz] (h) [] from lp_8 0 (by omega) _
  refine lpi m (fun t hk_t ih_8 => ?_)
  intro zz
  have ol := onc_lt (n := a 0) (f := f) hs t
  refine s_iload (pc := 8) rfl dX7_areOnce_8 ?_
  refine s_aload_n (pc := 10) 0 rfl rfl dX7_areOnce_10 ?_
  refine s_getr (pc := 11) (b := 51) fl_X7_7 rfl rfl rfl dX7_areOnce_11 ?_
  refine s_iload_n (pc := 14) 1 rfl rfl dX7_areOnce_14 ?_
  refine s_ialdN (pc := 15) (_) rfl rfl (by omega) hz dX7_areOnce_15 ?_
  refine s_icmp_geN (pc := 16) (by omega) (by omega) 87 dX7_areOnce_16 (by decide) (fun c_16 => ?_) (fun c_16 => ?_)
  · obtain rfl : t = m := by omega
    refine s_iload (pc := 87) rfl dX7_areOnce_87 ?_
    refine s_iret (pc := 89) dX7_areOnce_89 (PostE.of hp ?_ ?_)
    · rfl
    · rfl
  · refine s_aload_n (pc := 19) 0 rfl rfl dX7_areOnce_19 ?_
    refine s_getr (pc := 20) (b := 52) fl_X7_13 rfl rfl rfl dX7_areOnce_20 ?_
    refine s_bipush (pc := 23) (k_b40N) dX7_areOnce_23 ?_
    refine s_iload_n (pc := 25) 1 rfl rfl dX7_areOnce_25 ?_
    refine s_imulN (pc := 26) dX7_areOnce_26 ?_
    refine s_iload (pc := 27) rfl dX7_areOnce_27 ?_
    refine s_iaddN (pc := 29) dX7_areOnce_29 ?_
    refine s_ialdE (pc := 30) (_) rfl rfl (by omega) (hf _ (by omega)) dX7_areOnce_30 ?_
    refine s_istore (pc := 31) (by decide) rfl dX7_areOnce_31 ?_
    refine s_iload (pc := 33) rfl dX7_areOnce_33 ?_
    refine s_if_eqB (pc := 35) 60 dX7_areOnce_35 (by decide) (fun c_35 => ?_) (fun c_35 => ?_)
    · refine s_iconst (pc := 60) (k_i0N) dX7_areOnce_60 ?_
      refine s_istore (pc := 61) (by decide) rfl dX7_areOnce_61 ?_
      refine s_iload_n (pc := 63) 3 rfl rfl dX7_areOnce_63 ?_
      refine s_iload (pc := 64) rfl dX7_areOnce_64 ?_
      refine s_if_eqN (pc := 66) (by omega) 78 dX7_areOnce_66 (by decide) (fun c_66 => ?_) (fun c_66 => ?_)
      · refine s_iconst (pc := 78) (k_im1) dX7_areOnce_78 ?_
        refine s_iand (pc := 79) dX7_areOnce_79 ?_
        refine WW.top (m1_and _ ol) ?_
        refine s_istore_n (pc := 80) 3 rfl (by decide) rfl dX7_areOnce_80 ?_
        refine s_iincN (pc := 81) rfl (by decide) rfl dX7_areOnce_81 ?_
        refine s_goto (pc := 84) 8 dX7_areOnce_84 (by decide) ?_
        have e := onc_f (n := a 0) (s := s) (f := f) (k := t) (fun z => c_35 z.1)
        have ih := ih_8 (by omega)
        rw [e] at ih
        have e2 := bi_F (p := (false, (onc (a 0) s f t).2).1 = true) Bool.false_ne_true
        rw [e2] at ih
        exact ih _
      · exfalso; omega
    · refine s_aload_n (pc := 38) 0 rfl rfl dX7_areOnce_38 ?_
      refine s_iload (pc := 39) rfl dX7_areOnce_39 ?_
      refine s_cvi1 (pc := 41) (c_X7_isShipG hA o0) ml_X7_159 mw_X7_isShip rfl (by decide) (Nat.le_of_ble_eq_true rfl) dX7_areOnce_41 ?_
      refine s_if_eqB (pc := 44) 60 dX7_areOnce_44 (by decide) (fun c_44 => ?_) (fun c_44 => ?_)
      · refine s_iconst (pc := 60) (k_i0N) dX7_areOnce_60 ?_
        refine s_istore (pc := 61) (by decide) rfl dX7_areOnce_61 ?_
        refine s_iload_n (pc := 63) 3 rfl rfl dX7_areOnce_63 ?_
        refine s_iload (pc := 64) rfl dX7_areOnce_64 ?_
        refine s_if_eqN (pc := 66) (by omega) 78 dX7_areOnce_66 (by decide) (fun c_66 => ?_) (fun c_66 => ?_)
        · refine s_iconst (pc := 78) (k_im1) dX7_areOnce_78 ?_
          refine s_iand (pc := 79) dX7_areOnce_79 ?_
          refine WW.top (m1_and _ ol) ?_
          refine s_istore_n (pc := 80) 3 rfl (by decide) rfl dX7_areOnce_80 ?_
          refine s_iincN (pc := 81) rfl (by decide) rfl dX7_areOnce_81 ?_
          refine s_goto (pc := 84) 8 dX7_areOnce_84 (by decide) ?_
          have e := onc_f (n := a 0) (s := s) (f := f) (k := t) (fun z => c_44 z.2.1)
          have ih := ih_8 (by omega)
          rw [e] at ih
          have e2 := bi_F (p := (false, (onc (a 0) s f t).2).1 = true) Bool.false_ne_true
          rw [e2] at ih
          exact ih _
        · exfalso; omega
      · obtain ⟨e1, e2⟩ := shp_v o0 c_44
        rw [e1]
        refine s_iload_n (pc := 47) 3 rfl rfl dX7_areOnce_47 ?_
        refine s_iload (pc := 48) rfl dX7_areOnce_48 ?_
        refine s_csi2 (pc := 50) (c_X7_has (by omega) (by omega)) ml_X7_146 ms_X7_has (by decide) (Nat.le_of_ble_eq_true rfl) dX7_areOnce_50 ?_
        refine s_if_eqB (pc := 53) 60 dX7_areOnce_53 (by decide) (fun c_53 => ?_) (fun c_53 => ?_)
        · refine s_iconst (pc := 60) (k_i0N) dX7_areOnce_60 ?_
          refine s_istore (pc := 61) (by decide) rfl dX7_areOnce_61 ?_
          refine s_iload_n (pc := 63) 3 rfl rfl dX7_areOnce_63 ?_
          refine s_iload (pc := 64) rfl dX7_areOnce_64 ?_
          refine s_if_eqN (pc := 66) (by omega) 78 dX7_areOnce_66 (by decide) (fun c_66 => ?_) (fun c_66 => ?_)
          · refine s_iconst (pc := 78) (k_im1) dX7_areOnce_78 ?_
            refine s_iand (pc := 79) dX7_areOnce_79 ?_
            refine WW.top (m1_and _ ol) ?_
            refine s_istore_n (pc := 80) 3 rfl (by decide) rfl dX7_areOnce_80 ?_
            refine s_iincN (pc := 81) rfl (by decide) rfl dX7_areOnce_81 ?_
            refine s_goto (pc := 84) 8 dX7_areOnce_84 (by decide) ?_
            have e := onc_f (n := a 0) (s := s) (f := f) (k := t) (fun z => c_53 z.2.2)
            have ih := ih_8 (by omega)
            rw [e] at ih
            have e2 := bi_F (p := (false, (onc (a 0) s f t).2).1 = true) Bool.false_ne_true
            rw [e2] at ih
            exact ih _
          · exfalso; omega
        · refine s_iconst (pc := 56) (k_i1N) dX7_areOnce_56 ?_
          refine s_goto (pc := 57) 61 dX7_areOnce_57 (by decide) ?_
          refine s_istore (pc := 61) (by decide) rfl dX7_areOnce_61 ?_
          refine s_iload_n (pc := 63) 3 rfl rfl dX7_areOnce_63 ?_
          refine s_iload (pc := 64) rfl dX7_areOnce_64 ?_
          refine s_if_eqN (pc := 66) (by omega) 78 dX7_areOnce_66 (by decide) (fun c_66 => ?_) (fun c_66 => ?_)
          · exfalso; omega
          · refine s_iconst (pc := 69) (k_i1N) dX7_areOnce_69 ?_
            refine s_iload (pc := 70) rfl dX7_areOnce_70 ?_
            refine s_ishl1N (pc := 72) (by omega) dX7_areOnce_72 ?_
            refine s_iconst (pc := 73) (k_im1) dX7_areOnce_73 ?_
            refine s_ixor (pc := 74) dX7_areOnce_74 ?_
            refine s_goto (pc := 75) 79 dX7_areOnce_75 (by decide) ?_
            refine s_iand (pc := 79) dX7_areOnce_79 ?_
            refine WW.top (clr_and _ ol _ (by omega)) ?_
            refine s_istore_n (pc := 80) 3 rfl (by decide) rfl dX7_areOnce_80 ?_
            refine s_iincN (pc := 81) rfl (by decide) rfl dX7_areOnce_81 ?_
            refine s_goto (pc := 84) 8 dX7_areOnce_84 (by decide) ?_
            have e := onc_t c_35 c_44 c_53
            have ih := ih_8 (by omega)
            rw [e] at ih
            have e2 := bi_T (p := (true, clrN (onc (a 0) s f t).2 (yN f t)).1 = true) rfl
            rw [e2] at ih
            exact ih _
