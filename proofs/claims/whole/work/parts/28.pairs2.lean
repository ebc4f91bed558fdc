theorem bi_T {p : Prop} [Decidable p] (h : p) : bi p = nI 1 := bi_t h
theorem bi_F {p : Prop} [Decidable p] (h : ¬ p) : bi p = nI 0 := bi_f h
theorem all2 {f : Nat → Int32} {t : Nat} : allU (pok f) (2 * (t + 1)) = true ↔ allU (pok f) (2 * t) = true ∧ (nI 0 ≤ f (2 * t) ∧ f (2 * t) ≤ nI 999) ∧ (nI 0 ≤ f (2 * t + 1) ∧ f (2 * t + 1) ≤ nI 2000) := by
  rw [show 2 * (t + 1) = 2 * t + 1 + 1 by omega]
  simp only [allU, Bool.and_eq_true, pok, decide_eq_true_eq]
  rw [if_pos (show 2 * t % 2 = 0 by omega), if_neg (show ¬ (2 * t + 1) % 2 = 0 by omega)]
  exact ⟨fun q => ⟨q.1.1, q.1.2, q.2⟩, fun q => ⟨⟨q.1, q.2.1⟩, q.2.2⟩⟩
theorem fit2 {a : Nat → Nat} {i k : Nat} {f : Nat → Int32} {t : Nat} : fitU a i k f (t + 1) = true ↔ fitU a i k f t = true ∧ kageN a i k (yN f (2 * t)) = yN f (2 * t + 1) := by
  simp only [fitU, Bool.and_eq_true, decide_eq_true_eq]
def alkP (a : Nat → Nat) (i s y aa : Nat) : Nat → Bool := fun b => s.testBit aa && s.testBit b && decide (kageN a i aa y = kageN a i b y)
theorem gp_s (a : Nat → Nat) (i s y aa : Nat) : gpN a i s y (aa + 1) = if gpN a i s y aa < cnt 6 (alkP a i s y aa) then cnt 6 (alkP a i s y aa) else gpN a i s y aa := by
  by_cases h : s.testBit aa = true
  · have e : cnt 6 (alkP a i s y aa) = alkN a i s y (kageN a i aa y) := cnt_congr (fun b _ => by
      simp only [alkP, h, Bool.true_and]
      congr 1
      exact decide_eq_decide.mpr eq_comm)
    rw [e]
    show (if s.testBit aa = true then _ else _) = _
    rw [if_pos h]
  · have e : cnt 6 (alkP a i s y aa) = 0 := by
      rw [cnt_congr (q := fun _ => false) (fun b _ => by simp only [alkP, h]; rfl)]
      decide
    rw [e]
    show (if s.testBit aa = true then _ else _) = _
    rw [if_neg h, if_neg (by omega)]

set_option maxRecDepth 20000 in
theorem c_X7_brB1 {s x : Int32} {a : Nat → Nat} {h : Hp} (hA : RM a h) (hO : OkA a) (hb : s < 0 ∨ nI (a 0) ≤ s) : CT 3 yX7_barred cX7_barred 5 (some .int) [.ref 50, .int s, .int x] h (some (.int (-1))) (h) := by
  refine CT.of (own := RX7) rfl (by decide) (ro_i _) [.ref 50, .int s, .int x, .null, .null] rfl (Nat.le_of_ble_eq_true rfl) (fun E hp => ?_)
  refine s_aload_n (pc := 0) 0 rfl rfl dX7_barred_0 ?_
  refine s_iload_n (pc := 1) 1 rfl rfl dX7_barred_1 ?_
  refine s_cvi1 (pc := 2) (c_X7_isShipF hA hO.1.1 hb) ml_X7_159 mw_X7_isShip rfl (by decide) (Nat.le_of_ble_eq_true rfl) dX7_barred_2 ?_
  refine s_if_eqF (pc := 5) 15 dX7_barred_5 (by decide) ?_
  refine s_iconst (pc := 15) (k_im1) dX7_barred_15 ?_
  refine s_iret (pc := 16) dX7_barred_16 (PostE.of hp ?_ ?_)
  · rfl
  · rfl

set_option maxRecDepth 20000 in
theorem c_X7_brB2 {i : Nat} {s : Int32} {a : Nat → Nat} {h : Hp} (hA : RM a h) (hO : OkA a) (hi : i < a 0) (hb : s < 0 ∨ nI 6 ≤ s) : CT 3 yX7_barred cX7_barred 5 (some .int) [.ref 50, .int (nI i), .int s] h (some (.int (-1))) (h) := by
  refine CT.of (own := RX7) rfl (by decide) (ro_i _) [.ref 50, .int (nI i), .int s, .null, .null] rfl (Nat.le_of_ble_eq_true rfl) (fun E hp => ?_)
  refine s_aload_n (pc := 0) 0 rfl rfl dX7_barred_0 ?_
  refine s_iload_n (pc := 1) 1 rfl rfl dX7_barred_1 ?_
  refine s_cvi1 (pc := 2) (c_X7_isShipT hA hO.1.1 hi) ml_X7_159 mw_X7_isShip rfl (by decide) (Nat.le_of_ble_eq_true rfl) dX7_barred_2 ?_
  refine s_if_eqT (pc := 5) 15 dX7_barred_5 (by decide) ?_
  refine s_iload_n (pc := 8) 2 rfl rfl dX7_barred_8 ?_
  refine s_csi1 (pc := 9) (c_X7_isRowF hb) ml_X7_68 ms_X7_isRow (by decide) (Nat.le_of_ble_eq_true rfl) dX7_barred_9 ?_
  refine s_if_neF (pc := 12) 17 dX7_barred_12 (by decide) ?_
  refine s_iconst (pc := 15) (k_im1) dX7_barred_15 ?_
  refine s_iret (pc := 16) dX7_barred_16 (PostE.of hp ?_ ?_)
  · rfl
  · rfl

set_option maxRecDepth 20000 in
theorem c_X7_brM {i q : Nat} {a : Nat → Nat} {h : Hp} (hA : RM a h) (hO : OkA a) (hi : i < a 0) (hk : q < 6) (hz : h.1 51 q = -1) : CT 3 yX7_barred cX7_barred 5 (some .int) [.ref 50, .int (nI i), .int (nI q)] h (some (.int (-3))) (finM h 1) := by
  refine CT.of (own := RX7) rfl (by decide) (ro_i _) [.ref 50, .int (nI i), .int (nI q), .null, .null] rfl (Nat.le_of_ble_eq_true rfl) (fun E hp => ?_)
  refine s_aload_n (pc := 0) 0 rfl rfl dX7_barred_0 ?_
  refine s_iload_n (pc := 1) 1 rfl rfl dX7_barred_1 ?_
  refine s_cvi1 (pc := 2) (c_X7_isShipT hA hO.1.1 hi) ml_X7_159 mw_X7_isShip rfl (by decide) (Nat.le_of_ble_eq_true rfl) dX7_barred_2 ?_
  refine s_if_eqT (pc := 5) 15 dX7_barred_5 (by decide) ?_
  refine s_iload_n (pc := 8) 2 rfl rfl dX7_barred_8 ?_
  refine s_csi1 (pc := 9) (c_X7_isRowT hk) ml_X7_68 ms_X7_isRow (by decide) (Nat.le_of_ble_eq_true rfl) dX7_barred_9 ?_
  refine s_if_neT (pc := 12) 17 dX7_barred_12 (by decide) ?_
  refine s_aload_n (pc := 17) 0 rfl rfl dX7_barred_17 ?_
  refine s_getr (pc := 18) (b := 51) fl_X7_7 rfl rfl rfl dX7_barred_18 ?_
  refine s_iload_n (pc := 21) 2 rfl rfl dX7_barred_21 ?_
  refine s_ialdE (pc := 22) (_) rfl rfl (by omega) hz dX7_barred_22 ?_
  refine s_if_ge (pc := 23) 32 dX7_barred_23 (by decide) (fun c_23 => ?_) (fun c_23 => ?_)
  · exfalso; exact absurd c_23 (by decide)
  · refine s_aload_n (pc := 26) 0 rfl rfl dX7_barred_26 ?_
    refine s_iconst (pc := 27) (k_i1N) dX7_barred_27 ?_
    refine s_cvi1 (pc := 28) (c_X7_finds (by decide)) ml_X7_72 mw_X7_finds rfl (by decide) (Nat.le_of_ble_eq_true rfl) dX7_barred_28 ?_
    refine s_iret (pc := 31) dX7_barred_31 (PostE.of hp ?_ ?_)
    · rfl
    · rfl

set_option maxRecDepth 20000 in
theorem c_X7_brS {i q m : Nat} {a : Nat → Nat} {h : Hp} (hA : RM a h) (hO : OkA a) (hi : i < a 0) (hk : q < 6) (hz : h.1 51 q = nI m) (hz6 : m ≤ 40) (ho : ¬ m % 2 = 0) : CT 3 yX7_barred cX7_barred 5 (some .int) [.ref 50, .int (nI i), .int (nI q)] h (some (.int (-3))) (finM h 5) := by
  refine CT.of (own := RX7) rfl (by decide) (ro_i _) [.ref 50, .int (nI i), .int (nI q), .null, .null] rfl (Nat.le_of_ble_eq_true rfl) (fun E hp => ?_)
  refine s_aload_n (pc := 0) 0 rfl rfl dX7_barred_0 ?_
  refine s_iload_n (pc := 1) 1 rfl rfl dX7_barred_1 ?_
  refine s_cvi1 (pc := 2) (c_X7_isShipT hA hO.1.1 hi) ml_X7_159 mw_X7_isShip rfl (by decide) (Nat.le_of_ble_eq_true rfl) dX7_barred_2 ?_
  refine s_if_eqT (pc := 5) 15 dX7_barred_5 (by decide) ?_
  refine s_iload_n (pc := 8) 2 rfl rfl dX7_barred_8 ?_
  refine s_csi1 (pc := 9) (c_X7_isRowT hk) ml_X7_68 ms_X7_isRow (by decide) (Nat.le_of_ble_eq_true rfl) dX7_barred_9 ?_
  refine s_if_neT (pc := 12) 17 dX7_barred_12 (by decide) ?_
  refine s_aload_n (pc := 17) 0 rfl rfl dX7_barred_17 ?_
  refine s_getr (pc := 18) (b := 51) fl_X7_7 rfl rfl rfl dX7_barred_18 ?_
  refine s_iload_n (pc := 21) 2 rfl rfl dX7_barred_21 ?_
  refine s_ialdN (pc := 22) (_) rfl rfl (by omega) hz dX7_barred_22 ?_
  refine s_if_geN (pc := 23) (by omega) 32 dX7_barred_23 (by decide) ?_
  refine s_aload_n (pc := 32) 0 rfl rfl dX7_barred_32 ?_
  refine s_getr (pc := 33) (b := 51) fl_X7_7 rfl rfl rfl dX7_barred_33 ?_
  refine s_iload_n (pc := 36) 2 rfl rfl dX7_barred_36 ?_
  refine s_ialdN (pc := 37) (_) rfl rfl (by omega) hz dX7_barred_37 ?_
  refine s_iconst (pc := 38) (k_i2N) dX7_barred_38 ?_
  refine s_iremN (pc := 39) (by omega) (by omega) (by omega) dX7_barred_39 ?_
  refine s_if_eqN (pc := 40) (by omega) 49 dX7_barred_40 (by decide) (fun c_40 => ?_) (fun c_40 => ?_)
  · exfalso; omega
  · refine s_aload_n (pc := 43) 0 rfl rfl dX7_barred_43 ?_
    refine s_iconst (pc := 44) (k_i5N) dX7_barred_44 ?_
    refine s_cvi1 (pc := 45) (c_X7_finds (by decide)) ml_X7_72 mw_X7_finds rfl (by decide) (Nat.le_of_ble_eq_true rfl) dX7_barred_45 ?_
    refine s_iret (pc := 48) dX7_barred_48 (PostE.of hp ?_ ?_)
    · rfl
    · rfl

set_option maxRecDepth 20000 in
theorem c_X7_brO {i q u : Nat} {a : Nat → Nat} {h : Hp} (hA : RM a h) (hO : OkA a) (hi : i < a 0) (hk : q < 6) (hz : h.1 51 q = nI (2 * u)) (hz6 : 2 * u ≤ 40) {f : Nat → Int32} (hf : ∀ j, j < 40 → h.1 52 (40 * q + j) = f j) (hu : ∀ j, j < 2 * u → pok f j = true) : CT 3 yX7_barred cX7_barred 5 (some .int) [.ref 50, .int (nI i), .int (nI q)] h (some (.int (nI 0))) (h) := by
  refine CT.of (own := RX7) rfl (by decide) (ro_i _) [.ref 50, .int (nI i), .int (nI q), .null, .null] rfl (Nat.le_of_ble_eq_true rfl) (fun E hp => ?_)
  refine s_aload_n (pc := 0) 0 rfl rfl dX7_barred_0 ?_
  refine s_iload_n (pc := 1) 1 rfl rfl dX7_barred_1 ?_
  refine s_cvi1 (pc := 2) (c_X7_isShipT hA hO.1.1 hi) ml_X7_159 mw_X7_isShip rfl (by decide) (Nat.le_of_ble_eq_true rfl) dX7_barred_2 ?_
  refine s_if_eqT (pc := 5) 15 dX7_barred_5 (by decide) ?_
  refine s_iload_n (pc := 8) 2 rfl rfl dX7_barred_8 ?_
  refine s_csi1 (pc := 9) (c_X7_isRowT hk) ml_X7_68 ms_X7_isRow (by decide) (Nat.le_of_ble_eq_true rfl) dX7_barred_9 ?_
  refine s_if_neT (pc := 12) 17 dX7_barred_12 (by decide) ?_
  refine s_aload_n (pc := 17) 0 rfl rfl dX7_barred_17 ?_
  refine s_getr (pc := 18) (b := 51) fl_X7_7 rfl rfl rfl dX7_barred_18 ?_
  refine s_iload_n (pc := 21) 2 rfl rfl dX7_barred_21 ?_
  refine s_ialdN (pc := 22) (_) rfl rfl (by omega) hz dX7_barred_22 ?_
  refine s_if_geN (pc := 23) (by omega) 32 dX7_barred_23 (by decide) ?_
  refine s_aload_n (pc := 32) 0 rfl rfl dX7_barred_32 ?_
  refine s_getr (pc := 33) (b := 51) fl_X7_7 rfl rfl rfl dX7_barred_33 ?_
  refine s_iload_n (pc := 36) 2 rfl rfl dX7_barred_36 ?_
  refine s_ialdN (pc := 37) (_) rfl rfl (by omega) hz dX7_barred_37 ?_
  refine s_iconst (pc := 38) (k_i2N) dX7_barred_38 ?_
  refine s_iremN (pc := 39) (by omega) (by omega) (by omega) dX7_barred_39 ?_
  refine s_if_eqN (pc := 40) (by omega) 49 dX7_barred_40 (by decide) (fun c_40 => ?_) (fun c_40 => ?_)
  · refine s_iconst (pc := 49) (k_i1N) dX7_barred_49 ?_
    refine s_istore_n (pc := 50) 3 rfl (by decide) rfl dX7_barred_50 ?_
    refine s_iconst (pc := 51) (k_i0N) dX7_barred_51 ?_
    refine s_istore (pc := 52) (by decide) rfl dX7_barred_52 ?_
    suffices lp_54 : ∀ t, t ≤ u → WW E cX7_barred RX7 5 _ 54 [.ref 50, .int (nI i), .int (nI q), .int (bi (allU (pok f) (2 * t) = true)), .int (nI (2 * t))] (h) [] from lp_54 (0) (by omega)
    refine lpi (u) (fun t hk_t ih_54 => ?_)
    refine s_iload (pc := 54) rfl dX7_barred_54 ?_
    refine s_aload_n (pc := 56) 0 rfl rfl dX7_barred_56 ?_
    refine s_getr (pc := 57) (b := 51) fl_X7_7 rfl rfl rfl dX7_barred_57 ?_
    refine s_iload_n (pc := 60) 2 rfl rfl dX7_barred_60 ?_
    refine s_ialdN (pc := 61) (_) rfl rfl (by omega) hz dX7_barred_61 ?_
    refine s_icmp_geN (pc := 62) (by omega) (by omega) 127 dX7_barred_62 (by decide) (fun c_62 => ?_) (fun c_62 => ?_)
    · obtain rfl : t = u := by omega
      refine s_iload_n (pc := 127) 3 rfl rfl dX7_barred_127 ?_
      refine s_if_eqB (pc := 128) 135 dX7_barred_128 (by decide) (fun c_128 => ?_) (fun c_128 => ?_)
      · exfalso; exact c_128 (allU_iff.mpr hu)
      · refine s_iconst (pc := 131) (k_i0N) dX7_barred_131 ?_
        refine s_goto (pc := 132) 140 dX7_barred_132 (by decide) ?_
        refine s_iret (pc := 140) dX7_barred_140 (PostE.of hp ?_ ?_)
        · rfl
        · rfl
    · refine s_iload_n (pc := 65) 3 rfl rfl dX7_barred_65 ?_
      refine s_if_eqB (pc := 66) 119 dX7_barred_66 (by decide) (fun c_66 => ?_) (fun c_66 => ?_)
      · refine s_iconst (pc := 119) (k_i0N) dX7_barred_119 ?_
        refine s_istore_n (pc := 120) 3 rfl (by decide) rfl dX7_barred_120 ?_
        refine s_iinc2N (pc := 121) rfl (by decide) rfl dX7_barred_121 ?_
        refine s_goto (pc := 124) 54 dX7_barred_124 (by decide) ?_
        rw [show 2 * t + 2 = 2 * (t + 1) by omega]
        have ih := ih_54 (by omega)
        first | (rw [bi_T (all2.mpr ⟨c_66, c_88, c_112⟩)] at ih; exact ih) | (rw [bi_F (fun z => c_112 (all2.mp z).2.2)] at ih; exact ih) | (rw [bi_F (fun z => c_88 (all2.mp z).2.1)] at ih; exact ih) | (rw [bi_F (fun z => c_66 (all2.mp z).1)] at ih; exact ih)
      · refine s_aload_n (pc := 69) 0 rfl rfl dX7_barred_69 ?_
        refine s_getr (pc := 70) (b := 52) fl_X7_13 rfl rfl rfl dX7_barred_70 ?_
        refine s_bipush (pc := 73) (k_b40N) dX7_barred_73 ?_
        refine s_iload_n (pc := 75) 2 rfl rfl dX7_barred_75 ?_
        refine s_imulN (pc := 76) dX7_barred_76 ?_
        refine s_iload (pc := 77) rfl dX7_barred_77 ?_
        refine s_iaddN (pc := 79) dX7_barred_79 ?_
        refine s_ialdE (pc := 80) (_) rfl rfl (by omega) (hf _ (by omega)) dX7_barred_80 ?_
        refine s_iconst (pc := 81) (k_i0N) dX7_barred_81 ?_
        refine s_sipush (pc := 82) (k_s999N) dX7_barred_82 ?_
        refine s_csi3 (pc := 85) (c_X7_in) ml_X7_64 ms_X7_in (by decide) (Nat.le_of_ble_eq_true rfl) dX7_barred_85 ?_
        refine s_if_eqB (pc := 88) 119 dX7_barred_88 (by decide) (fun c_88 => ?_) (fun c_88 => ?_)
        · refine s_iconst (pc := 119) (k_i0N) dX7_barred_119 ?_
          refine s_istore_n (pc := 120) 3 rfl (by decide) rfl dX7_barred_120 ?_
          refine s_iinc2N (pc := 121) rfl (by decide) rfl dX7_barred_121 ?_
          refine s_goto (pc := 124) 54 dX7_barred_124 (by decide) ?_
          rw [show 2 * t + 2 = 2 * (t + 1) by omega]
          have ih := ih_54 (by omega)
          first | (rw [bi_T (all2.mpr ⟨c_66, c_88, c_112⟩)] at ih; exact ih) | (rw [bi_F (fun z => c_112 (all2.mp z).2.2)] at ih; exact ih) | (rw [bi_F (fun z => c_88 (all2.mp z).2.1)] at ih; exact ih) | (rw [bi_F (fun z => c_66 (all2.mp z).1)] at ih; exact ih)
        · refine s_aload_n (pc := 91) 0 rfl rfl dX7_barred_91 ?_
          refine s_getr (pc := 92) (b := 52) fl_X7_13 rfl rfl rfl dX7_barred_92 ?_
          refine s_bipush (pc := 95) (k_b40N) dX7_barred_95 ?_
          refine s_iload_n (pc := 97) 2 rfl rfl dX7_barred_97 ?_
          refine s_imulN (pc := 98) dX7_barred_98 ?_
          refine s_iload (pc := 99) rfl dX7_barred_99 ?_
          refine s_iaddN (pc := 101) dX7_barred_101 ?_
          refine s_iconst (pc := 102) (k_i1N) dX7_barred_102 ?_
          refine s_iaddN (pc := 103) dX7_barred_103 ?_
          refine s_ialdE (pc := 104) (_) rfl rfl (by omega) ((congrArg (h.1 52) (Nat.add_assoc _ _ _)).trans (hf _ (by omega))) dX7_barred_104 ?_
          refine s_iconst (pc := 105) (k_i0N) dX7_barred_105 ?_
          refine s_sipush (pc := 106) (k_s2000N) dX7_barred_106 ?_
          refine s_csi3 (pc := 109) (c_X7_in) ml_X7_64 ms_X7_in (by decide) (Nat.le_of_ble_eq_true rfl) dX7_barred_109 ?_
          refine s_if_eqB (pc := 112) 119 dX7_barred_112 (by decide) (fun c_112 => ?_) (fun c_112 => ?_)
          · refine s_iconst (pc := 119) (k_i0N) dX7_barred_119 ?_
            refine s_istore_n (pc := 120) 3 rfl (by decide) rfl dX7_barred_120 ?_
            refine s_iinc2N (pc := 121) rfl (by decide) rfl dX7_barred_121 ?_
            refine s_goto (pc := 124) 54 dX7_barred_124 (by decide) ?_
            rw [show 2 * t + 2 = 2 * (t + 1) by omega]
            have ih := ih_54 (by omega)
            first | (rw [bi_T (all2.mpr ⟨c_66, c_88, c_112⟩)] at ih; exact ih) | (rw [bi_F (fun z => c_112 (all2.mp z).2.2)] at ih; exact ih) | (rw [bi_F (fun z => c_88 (all2.mp z).2.1)] at ih; exact ih) | (rw [bi_F (fun z => c_66 (all2.mp z).1)] at ih; exact ih)
          · refine s_iconst (pc := 115) (k_i1N) dX7_barred_115 ?_
            refine s_goto (pc := 116) 120 dX7_barred_116 (by decide) ?_
            refine s_istore_n (pc := 120) 3 rfl (by decide) rfl dX7_barred_120 ?_
            refine s_iinc2N (pc := 121) rfl (by decide) rfl dX7_barred_121 ?_
            refine s_goto (pc := 124) 54 dX7_barred_124 (by decide) ?_
            rw [show 2 * t + 2 = 2 * (t + 1) by omega]
            have ih := ih_54 (by omega)
            first | (rw [bi_T (all2.mpr ⟨c_66, c_88, c_112⟩)] at ih; exact ih) | (rw [bi_F (fun z => c_112 (all2.mp z).2.2)] at ih; exact ih) | (rw [bi_F (fun z => c_88 (all2.mp z).2.1)] at ih; exact ih) | (rw [bi_F (fun z => c_66 (all2.mp z).1)] at ih; exact ih)
  · exfalso; omega

set_option maxRecDepth 20000 in
theorem c_X7_brU {i q u : Nat} {a : Nat → Nat} {h : Hp} (hA : RM a h) (hO : OkA a) (hi : i < a 0) (hk : q < 6) (hz : h.1 51 q = nI (2 * u)) (hz6 : 2 * u ≤ 40) {f : Nat → Int32} (hf : ∀ j, j < 40 → h.1 52 (40 * q + j) = f j) (hu : ¬ ∀ j, j < 2 * u → pok f j = true) : CT 3 yX7_barred cX7_barred 5 (some .int) [.ref 50, .int (nI i), .int (nI q)] h (some (.int (-3))) (finM h 3) := by
  refine CT.of (own := RX7) rfl (by decide) (ro_i _) [.ref 50, .int (nI i), .int (nI q), .null, .null] rfl (Nat.le_of_ble_eq_true rfl) (fun E hp => ?_)
  refine s_aload_n (pc := 0) 0 rfl rfl dX7_barred_0 ?_
  refine s_iload_n (pc := 1) 1 rfl rfl dX7_barred_1 ?_
  refine s_cvi1 (pc := 2) (c_X7_isShipT hA hO.1.1 hi) ml_X7_159 mw_X7_isShip rfl (by decide) (Nat.le_of_ble_eq_true rfl) dX7_barred_2 ?_
  refine s_if_eqT (pc := 5) 15 dX7_barred_5 (by decide) ?_
  refine s_iload_n (pc := 8) 2 rfl rfl dX7_barred_8 ?_
  refine s_csi1 (pc := 9) (c_X7_isRowT hk) ml_X7_68 ms_X7_isRow (by decide) (Nat.le_of_ble_eq_true rfl) dX7_barred_9 ?_
  refine s_if_neT (pc := 12) 17 dX7_barred_12 (by decide) ?_
  refine s_aload_n (pc := 17) 0 rfl rfl dX7_barred_17 ?_
  refine s_getr (pc := 18) (b := 51) fl_X7_7 rfl rfl rfl dX7_barred_18 ?_
  refine s_iload_n (pc := 21) 2 rfl rfl dX7_barred_21 ?_
  refine s_ialdN (pc := 22) (_) rfl rfl (by omega) hz dX7_barred_22 ?_
  refine s_if_geN (pc := 23) (by omega) 32 dX7_barred_23 (by decide) ?_
  refine s_aload_n (pc := 32) 0 rfl rfl dX7_barred_32 ?_
  refine s_getr (pc := 33) (b := 51) fl_X7_7 rfl rfl rfl dX7_barred_33 ?_
  refine s_iload_n (pc := 36) 2 rfl rfl dX7_barred_36 ?_
  refine s_ialdN (pc := 37) (_) rfl rfl (by omega) hz dX7_barred_37 ?_
  refine s_iconst (pc := 38) (k_i2N) dX7_barred_38 ?_
  refine s_iremN (pc := 39) (by omega) (by omega) (by omega) dX7_barred_39 ?_
  refine s_if_eqN (pc := 40) (by omega) 49 dX7_barred_40 (by decide) (fun c_40 => ?_) (fun c_40 => ?_)
  · refine s_iconst (pc := 49) (k_i1N) dX7_barred_49 ?_
    refine s_istore_n (pc := 50) 3 rfl (by decide) rfl dX7_barred_50 ?_
    refine s_iconst (pc := 51) (k_i0N) dX7_barred_51 ?_
    refine s_istore (pc := 52) (by decide) rfl dX7_barred_52 ?_
    suffices lp_54 : ∀ t, t ≤ u → WW E cX7_barred RX7 5 _ 54 [.ref 50, .int (nI i), .int (nI q), .int (bi (allU (pok f) (2 * t) = true)), .int (nI (2 * t))] (h) [] from lp_54 (0) (by omega)
    refine lpi (u) (fun t hk_t ih_54 => ?_)
    refine s_iload (pc := 54) rfl dX7_barred_54 ?_
    refine s_aload_n (pc := 56) 0 rfl rfl dX7_barred_56 ?_
    refine s_getr (pc := 57) (b := 51) fl_X7_7 rfl rfl rfl dX7_barred_57 ?_
    refine s_iload_n (pc := 60) 2 rfl rfl dX7_barred_60 ?_
    refine s_ialdN (pc := 61) (_) rfl rfl (by omega) hz dX7_barred_61 ?_
    refine s_icmp_geN (pc := 62) (by omega) (by omega) 127 dX7_barred_62 (by decide) (fun c_62 => ?_) (fun c_62 => ?_)
    · obtain rfl : t = u := by omega
      refine s_iload_n (pc := 127) 3 rfl rfl dX7_barred_127 ?_
      refine s_if_eqB (pc := 128) 135 dX7_barred_128 (by decide) (fun c_128 => ?_) (fun c_128 => ?_)
      · refine s_aload_n (pc := 135) 0 rfl rfl dX7_barred_135 ?_
        refine s_iconst (pc := 136) (k_i3N) dX7_barred_136 ?_
        refine s_cvi1 (pc := 137) (c_X7_finds (by decide)) ml_X7_72 mw_X7_finds rfl (by decide) (Nat.le_of_ble_eq_true rfl) dX7_barred_137 ?_
        refine s_iret (pc := 140) dX7_barred_140 (PostE.of hp ?_ ?_)
        · rfl
        · rfl
      · exfalso; exact hu (allU_iff.mp c_128)
    · refine s_iload_n (pc := 65) 3 rfl rfl dX7_barred_65 ?_
      refine s_if_eqB (pc := 66) 119 dX7_barred_66 (by decide) (fun c_66 => ?_) (fun c_66 => ?_)
      · refine s_iconst (pc := 119) (k_i0N) dX7_barred_119 ?_
        refine s_istore_n (pc := 120) 3 rfl (by decide) rfl dX7_barred_120 ?_
        refine s_iinc2N (pc := 121) rfl (by decide) rfl dX7_barred_121 ?_
        refine s_goto (pc := 124) 54 dX7_barred_124 (by decide) ?_
        rw [show 2 * t + 2 = 2 * (t + 1) by omega]
        have ih := ih_54 (by omega)
        first | (rw [bi_T (all2.mpr ⟨c_66, c_88, c_112⟩)] at ih; exact ih) | (rw [bi_F (fun z => c_112 (all2.mp z).2.2)] at ih; exact ih) | (rw [bi_F (fun z => c_88 (all2.mp z).2.1)] at ih; exact ih) | (rw [bi_F (fun z => c_66 (all2.mp z).1)] at ih; exact ih)
      · refine s_aload_n (pc := 69) 0 rfl rfl dX7_barred_69 ?_
        refine s_getr (pc := 70) (b := 52) fl_X7_13 rfl rfl rfl dX7_barred_70 ?_
        refine s_bipush (pc := 73) (k_b40N) dX7_barred_73 ?_
        refine s_iload_n (pc := 75) 2 rfl rfl dX7_barred_75 ?_
        refine s_imulN (pc := 76) dX7_barred_76 ?_
        refine s_iload (pc := 77) rfl dX7_barred_77 ?_
        refine s_iaddN (pc := 79) dX7_barred_79 ?_
        refine s_ialdE (pc := 80) (_) rfl rfl (by omega) (hf _ (by omega)) dX7_barred_80 ?_
        refine s_iconst (pc := 81) (k_i0N) dX7_barred_81 ?_
        refine s_sipush (pc := 82) (k_s999N) dX7_barred_82 ?_
        refine s_csi3 (pc := 85) (c_X7_in) ml_X7_64 ms_X7_in (by decide) (Nat.le_of_ble_eq_true rfl) dX7_barred_85 ?_
        refine s_if_eqB (pc := 88) 119 dX7_barred_88 (by decide) (fun c_88 => ?_) (fun c_88 => ?_)
        · refine s_iconst (pc := 119) (k_i0N) dX7_barred_119 ?_
          refine s_istore_n (pc := 120) 3 rfl (by decide) rfl dX7_barred_120 ?_
          refine s_iinc2N (pc := 121) rfl (by decide) rfl dX7_barred_121 ?_
          refine s_goto (pc := 124) 54 dX7_barred_124 (by decide) ?_
          rw [show 2 * t + 2 = 2 * (t + 1) by omega]
          have ih := ih_54 (by omega)
          first | (rw [bi_T (all2.mpr ⟨c_66, c_88, c_112⟩)] at ih; exact ih) | (rw [bi_F (fun z => c_112 (all2.mp z).2.2)] at ih; exact ih) | (rw [bi_F (fun z => c_88 (all2.mp z).2.1)] at ih; exact ih) | (rw [bi_F (fun z => c_66 (all2.mp z).1)] at ih; exact ih)
        · refine s_aload_n (pc := 91) 0 rfl rfl dX7_barred_91 ?_
          refine s_getr (pc := 92) (b := 52) fl_X7_13 rfl rfl rfl dX7_barred_92 ?_
          refine s_bipush (pc := 95) (k_b40N) dX7_barred_95 ?_
          refine s_iload_n (pc := 97) 2 rfl rfl dX7_barred_97 ?_
          refine s_imulN (pc := 98) dX7_barred_98 ?_
          refine s_iload (pc := 99) rfl dX7_barred_99 ?_
          refine s_iaddN (pc := 101) dX7_barred_101 ?_
          refine s_iconst (pc := 102) (k_i1N) dX7_barred_102 ?_
          refine s_iaddN (pc := 103) dX7_barred_103 ?_
          refine s_ialdE (pc := 104) (_) rfl rfl (by omega) ((congrArg (h.1 52) (Nat.add_assoc _ _ _)).trans (hf _ (by omega))) dX7_barred_104 ?_
          refine s_iconst (pc := 105) (k_i0N) dX7_barred_105 ?_
          refine s_sipush (pc := 106) (k_s2000N) dX7_barred_106 ?_
          refine s_csi3 (pc := 109) (c_X7_in) ml_X7_64 ms_X7_in (by decide) (Nat.le_of_ble_eq_true rfl) dX7_barred_109 ?_
          refine s_if_eqB (pc := 112) 119 dX7_barred_112 (by decide) (fun c_112 => ?_) (fun c_112 => ?_)
          · refine s_iconst (pc := 119) (k_i0N) dX7_barred_119 ?_
            refine s_istore_n (pc := 120) 3 rfl (by decide) rfl dX7_barred_120 ?_
            refine s_iinc2N (pc := 121) rfl (by decide) rfl dX7_barred_121 ?_
            refine s_goto (pc := 124) 54 dX7_barred_124 (by decide) ?_
            rw [show 2 * t + 2 = 2 * (t + 1) by omega]
            have ih := ih_54 (by omega)
            first | (rw [bi_T (all2.mpr ⟨c_66, c_88, c_112⟩)] at ih; exact ih) | (rw [bi_F (fun z => c_112 (all2.mp z).2.2)] at ih; exact ih) | (rw [bi_F (fun z => c_88 (all2.mp z).2.1)] at ih; exact ih) | (rw [bi_F (fun z => c_66 (all2.mp z).1)] at ih; exact ih)
          · refine s_iconst (pc := 115) (k_i1N) dX7_barred_115 ?_
            refine s_goto (pc := 116) 120 dX7_barred_116 (by decide) ?_
            refine s_istore_n (pc := 120) 3 rfl (by decide) rfl dX7_barred_120 ?_
            refine s_iinc2N (pc := 121) rfl (by decide) rfl dX7_barred_121 ?_
            refine s_goto (pc := 124) 54 dX7_barred_124 (by decide) ?_
            rw [show 2 * t + 2 = 2 * (t + 1) by omega]
            have ih := ih_54 (by omega)
            first | (rw [bi_T (all2.mpr ⟨c_66, c_88, c_112⟩)] at ih; exact ih) | (rw [bi_F (fun z => c_112 (all2.mp z).2.2)] at ih; exact ih) | (rw [bi_F (fun z => c_88 (all2.mp z).2.1)] at ih; exact ih) | (rw [bi_F (fun z => c_66 (all2.mp z).1)] at ih; exact ih)
  · exfalso; omega

set_option maxRecDepth 20000 in
theorem c_X7_ageAs {i k y : Nat} {a : Nat → Nat} {h : Hp} (hA : RM a h) (hO : OkA a) (hi : i < a 0) (hk6 : k < 6) (hy : y ≤ 1000) : CT 2 yX7_ageAs cX7_ageAs 4 (some .int) [.ref 50, .int (nI i), .int (nI k), .int (nI y)] h (some (.int (nI (kageN a i k y)))) (h) := by
  obtain ⟨⟨o0, o1, o2, o3, o4, o5, o6⟩, os⟩ := id hO
  have o64 := hO.in64
  obtain ⟨s0, s1, s2, s3, s4, s5, s6, s7⟩ := os i hi
  refine CT.of (own := RX7) rfl (by decide) (ro_i _) [.ref 50, .int (nI i), .int (nI k), .int (nI y)] rfl (Nat.le_of_ble_eq_true rfl) (fun E hp => ?_)
  refine s_iload_n (pc := 0) 2 rfl rfl dX7_ageAs_0 ?_
  refine s_iload_n (pc := 1) 3 rfl rfl dX7_ageAs_1 ?_
  refine s_aload_n (pc := 2) 0 rfl rfl dX7_ageAs_2 ?_
  refine s_iload_n (pc := 3) 1 rfl rfl dX7_ageAs_3 ?_
  refine s_iconst (pc := 4) (k_i1N) dX7_ageAs_4 ?_
  refine s_cvi2 (pc := 5) (c_X7_of hA (by omega) (by decide)) ml_X7_126 mw_X7_of rfl (by decide) (Nat.le_of_ble_eq_true rfl) dX7_ageAs_5 ?_
  refine s_csi2 (pc := 8) (c_X7_oldIn (by omega) (by omega)) ml_X7_129 ms_X7_oldIn (by decide) (Nat.le_of_ble_eq_true rfl) dX7_ageAs_8 ?_
  refine s_aload_n (pc := 11) 0 rfl rfl dX7_ageAs_11 ?_
  refine s_iload_n (pc := 12) 1 rfl rfl dX7_ageAs_12 ?_
  refine s_iconst (pc := 13) (k_i5N) dX7_ageAs_13 ?_
  refine s_cvi2 (pc := 14) (c_X7_of hA (by omega) (by decide)) ml_X7_126 mw_X7_of rfl (by decide) (Nat.le_of_ble_eq_true rfl) dX7_ageAs_14 ?_
  refine s_aload_n (pc := 17) 0 rfl rfl dX7_ageAs_17 ?_
  refine s_iload_n (pc := 18) 1 rfl rfl dX7_ageAs_18 ?_
  refine s_bipush (pc := 19) (k_b6N) dX7_ageAs_19 ?_
  refine s_cvi2 (pc := 21) (c_X7_of hA (by omega) (by decide)) ml_X7_126 mw_X7_of rfl (by decide) (Nat.le_of_ble_eq_true rfl) dX7_ageAs_21 ?_
  refine s_csi4 (pc := 24) (c_X7_aged hk6 (by omega) (by omega) s6) ml_X7_132 ms_X7_aged (by decide) (Nat.le_of_ble_eq_true rfl) dX7_ageAs_24 ?_
  refine s_iret (pc := 27) dX7_ageAs_27 (PostE.of hp ?_ ?_)
  · rfl
  · rfl

set_option maxRecDepth 20000 in
theorem c_X7_kindsBy {i q u : Nat} {a : Nat → Nat} {h : Hp} (hA : RM a h) (hO : OkA a) (hi : i < a 0) (hk : q < 6) (hz : h.1 51 q = nI (2 * u)) (hz6 : 2 * u ≤ 40) {f : Nat → Int32} (hf : ∀ j, j < 40 → h.1 52 (40 * q + j) = f j) (hu : ∀ j, j < 2 * u → pok f j = true) : CT 3 yX7_kindsBy cX7_kindsBy 7 (some .int) [.ref 50, .int (nI i), .int (nI q)] h (some (.int (nI (kndN a i f u)))) (h) := by
  obtain ⟨⟨o0, o1, o2, o3, o4, o5, o6⟩, os⟩ := id hO
  have o64 := hO.in64
  obtain ⟨s0, s1, s2, s3, s4, s5, s6, s7⟩ := os i hi
  refine CT.of (own := RX7) rfl (by decide) (ro_i _) [.ref 50, .int (nI i), .int (nI q), .null, .null, .null, .null] rfl (Nat.le_of_ble_eq_true rfl) (fun E hp => ?_)
  refine s_iconst (pc := 0) (k_i0N) dX7_kindsBy_0 ?_
  refine s_istore_n (pc := 1) 3 rfl (by decide) rfl dX7_kindsBy_1 ?_
  refine s_iconst (pc := 2) (k_i0N) dX7_kindsBy_2 ?_
  refine s_istore (pc := 3) (by decide) rfl dX7_kindsBy_3 ?_
  suffices lp_5 : ∀ k, k ≤ 6 → ∀ z1 z2, WW E cX7_kindsBy RX7 7 _ 5 [.ref 50, .int (nI i), .int (nI q), .int (nI (bitsU k (fun k => fitU a i k f u))), .int (nI k), z1, z2] (h) [] from lp_5 0 (by omega) _ _
  refine lpi 6 (fun k hk_k ih_5 => ?_)
  intro z1 z2
  refine s_iload (pc := 5) rfl dX7_kindsBy_5 ?_
  refine s_bipush (pc := 7) (k_b6N) dX7_kindsBy_7 ?_
  refine s_icmp_geN (pc := 9) (by omega) (by omega) 105 dX7_kindsBy_9 (by decide) (fun c_9 => ?_) (fun c_9 => ?_)
  · obtain rfl : k = 6 := by omega
    refine s_iload_n (pc := 105) 3 rfl rfl dX7_kindsBy_105 ?_
    refine s_iret (pc := 106) dX7_kindsBy_106 (PostE.of hp ?_ ?_)
    · rfl
    · rfl
  · refine s_iconst (pc := 12) (k_i1N) dX7_kindsBy_12 ?_
    refine s_istore (pc := 13) (by decide) rfl dX7_kindsBy_13 ?_
    refine s_iconst (pc := 15) (k_i0N) dX7_kindsBy_15 ?_
    refine s_istore (pc := 16) (by decide) rfl dX7_kindsBy_16 ?_
    suffices lp_18 : ∀ t, t ≤ u → WW E cX7_kindsBy RX7 7 _ 18 [.ref 50, .int (nI i), .int (nI q), .int (nI (bitsU k (fun k => fitU a i k f u))), .int (nI k), .int (bi (fitU a i k f t = true)), .int (nI (2 * t))] (h) [] from lp_18 (0) (by omega)
    refine lpi (u) (fun t hk_t ih_18 => ?_)
    refine s_iload (pc := 18) rfl dX7_kindsBy_18 ?_
    refine s_aload_n (pc := 20) 0 rfl rfl dX7_kindsBy_20 ?_
    refine s_getr (pc := 21) (b := 51) fl_X7_7 rfl rfl rfl dX7_kindsBy_21 ?_
    refine s_iload_n (pc := 24) 2 rfl rfl dX7_kindsBy_24 ?_
    refine s_ialdN (pc := 25) (_) rfl rfl (by omega) hz dX7_kindsBy_25 ?_
    refine s_icmp_geN (pc := 26) (by omega) (by omega) 83 dX7_kindsBy_26 (by decide) (fun c_26 => ?_) (fun c_26 => ?_)
    · obtain rfl : t = u := by omega
      have bl := bitsU_lt64 (n := k) (fun k => fitU a i k f t) (by omega)
      have pl := pow_lt31 (k := k) (by omega)
      refine s_iload_n (pc := 83) 3 rfl rfl dX7_kindsBy_83 ?_
      refine s_iload (pc := 84) rfl dX7_kindsBy_84 ?_
      refine s_if_eqB (pc := 86) 96 dX7_kindsBy_86 (by decide) (fun c_86 => ?_) (fun c_86 => ?_)
      · refine s_iconst (pc := 96) (k_i0N) dX7_kindsBy_96 ?_
        refine s_iorN (pc := 97) (by omega) (by omega) dX7_kindsBy_97 ?_
        first | rw [bitsU_t (p := (fun k => fitU a i k f t)) (by exact c_86)] | rw [bitsU_f (p := (fun k => fitU a i k f t)) (by exact c_86)]
        refine s_istore_n (pc := 98) 3 rfl (by decide) rfl dX7_kindsBy_98 ?_
        refine s_iincN (pc := 99) rfl (by decide) rfl dX7_kindsBy_99 ?_
        refine s_goto (pc := 102) 5 dX7_kindsBy_102 (by decide) ?_
        exact ih_5 (by omega) _ _
      · refine s_iconst (pc := 89) (k_i1N) dX7_kindsBy_89 ?_
        refine s_iload (pc := 90) rfl dX7_kindsBy_90 ?_
        refine s_ishl1N (pc := 92) (by omega) dX7_kindsBy_92 ?_
        refine s_goto (pc := 93) 97 dX7_kindsBy_93 (by decide) ?_
        refine s_iorN (pc := 97) (by omega) (by omega) dX7_kindsBy_97 ?_
        first | rw [bitsU_t (p := (fun k => fitU a i k f t)) (by exact c_86)] | rw [bitsU_f (p := (fun k => fitU a i k f t)) (by exact c_86)]
        refine s_istore_n (pc := 98) 3 rfl (by decide) rfl dX7_kindsBy_98 ?_
        refine s_iincN (pc := 99) rfl (by decide) rfl dX7_kindsBy_99 ?_
        refine s_goto (pc := 102) 5 dX7_kindsBy_102 (by decide) ?_
        exact ih_5 (by omega) _ _
    · have p0 := pok_v (hu (2 * t) (by omega))
      have p1 := pok_v (hu (2 * t + 1) (by omega))
      have p2 := p0.2.2 (by omega)
      refine s_iload (pc := 29) rfl dX7_kindsBy_29 ?_
      refine s_if_eqB (pc := 31) 74 dX7_kindsBy_31 (by decide) (fun c_31 => ?_) (fun c_31 => ?_)
      · refine s_iconst (pc := 74) (k_i0N) dX7_kindsBy_74 ?_
        refine s_istore (pc := 75) (by decide) rfl dX7_kindsBy_75 ?_
        refine s_iinc2N (pc := 77) rfl (by decide) rfl dX7_kindsBy_77 ?_
        refine s_goto (pc := 80) 18 dX7_kindsBy_80 (by decide) ?_
        rw [show 2 * t + 2 = 2 * (t + 1) by omega]
        have ih := ih_18 (by omega)
        first | (rw [bi_T (fit2.mpr ⟨c_31, c_67⟩)] at ih; exact ih) | (rw [bi_F (fun z => c_67 (fit2.mp z).2)] at ih; exact ih) | (rw [bi_F (fun z => c_31 (fit2.mp z).1)] at ih; exact ih)
      · refine s_aload_n (pc := 34) 0 rfl rfl dX7_kindsBy_34 ?_
        refine s_iload_n (pc := 35) 1 rfl rfl dX7_kindsBy_35 ?_
        refine s_iload (pc := 36) rfl dX7_kindsBy_36 ?_
        refine s_aload_n (pc := 38) 0 rfl rfl dX7_kindsBy_38 ?_
        refine s_getr (pc := 39) (b := 52) fl_X7_13 rfl rfl rfl dX7_kindsBy_39 ?_
        refine s_bipush (pc := 42) (k_b40N) dX7_kindsBy_42 ?_
        refine s_iload_n (pc := 44) 2 rfl rfl dX7_kindsBy_44 ?_
        refine s_imulN (pc := 45) dX7_kindsBy_45 ?_
        refine s_iload (pc := 46) rfl dX7_kindsBy_46 ?_
        refine s_iaddN (pc := 48) dX7_kindsBy_48 ?_
        refine s_ialdN (pc := 49) (_) rfl rfl (by omega) ((hf _ (by omega)).trans p0.1) dX7_kindsBy_49 ?_
        refine s_cvi3 (pc := 50) (c_X7_ageAs hA hO hi (by omega) (by omega)) ml_X7_232 mw_X7_ageAs rfl (by decide) (Nat.le_of_ble_eq_true rfl) dX7_kindsBy_50 ?_
        refine s_aload_n (pc := 53) 0 rfl rfl dX7_kindsBy_53 ?_
        refine s_getr (pc := 54) (b := 52) fl_X7_13 rfl rfl rfl dX7_kindsBy_54 ?_
        refine s_bipush (pc := 57) (k_b40N) dX7_kindsBy_57 ?_
        refine s_iload_n (pc := 59) 2 rfl rfl dX7_kindsBy_59 ?_
        refine s_imulN (pc := 60) dX7_kindsBy_60 ?_
        refine s_iload (pc := 61) rfl dX7_kindsBy_61 ?_
        refine s_iaddN (pc := 63) dX7_kindsBy_63 ?_
        refine s_iconst (pc := 64) (k_i1N) dX7_kindsBy_64 ?_
        refine s_iaddN (pc := 65) dX7_kindsBy_65 ?_
        refine s_ialdN (pc := 66) (_) rfl rfl (by omega) ((congrArg (h.1 52) (Nat.add_assoc _ _ _)).trans ((hf _ (by omega)).trans p1.1)) dX7_kindsBy_66 ?_
        refine s_icmp_neN (pc := 67) (Nat.lt_of_le_of_lt agedN_le (by omega)) (by omega) 74 dX7_kindsBy_67 (by decide) (fun c_67 => ?_) (fun c_67 => ?_)
        · refine s_iconst (pc := 74) (k_i0N) dX7_kindsBy_74 ?_
          refine s_istore (pc := 75) (by decide) rfl dX7_kindsBy_75 ?_
          refine s_iinc2N (pc := 77) rfl (by decide) rfl dX7_kindsBy_77 ?_
          refine s_goto (pc := 80) 18 dX7_kindsBy_80 (by decide) ?_
          rw [show 2 * t + 2 = 2 * (t + 1) by omega]
          have ih := ih_18 (by omega)
          first | (rw [bi_T (fit2.mpr ⟨c_31, c_67⟩)] at ih; exact ih) | (rw [bi_F (fun z => c_67 (fit2.mp z).2)] at ih; exact ih) | (rw [bi_F (fun z => c_31 (fit2.mp z).1)] at ih; exact ih)
        · refine s_iconst (pc := 70) (k_i1N) dX7_kindsBy_70 ?_
          refine s_goto (pc := 71) 75 dX7_kindsBy_71 (by decide) ?_
          refine s_istore (pc := 75) (by decide) rfl dX7_kindsBy_75 ?_
          refine s_iinc2N (pc := 77) rfl (by decide) rfl dX7_kindsBy_77 ?_
          refine s_goto (pc := 80) 18 dX7_kindsBy_80 (by decide) ?_
          rw [show 2 * t + 2 = 2 * (t + 1) by omega]
          have ih := ih_18 (by omega)
          first | (rw [bi_T (fit2.mpr ⟨c_31, c_67⟩)] at ih; exact ih) | (rw [bi_F (fun z => c_67 (fit2.mp z).2)] at ih; exact ih) | (rw [bi_F (fun z => c_31 (fit2.mp z).1)] at ih; exact ih)

set_option maxRecDepth 20000 in
theorem c_X7_alike {i s y : Nat} {a : Nat → Nat} {h : Hp} (hA : RM a h) (hO : OkA a) (hi : i < a 0) (hs : s < 64) (hy : y ≤ 1000) : CT 3 yX7_alike cX7_alike 8 (some .int) [.ref 50, .int (nI i), .int (nI s), .int (nI y)] h (some (.int (nI (gpN a i s y 6)))) (h) := by
  obtain ⟨⟨o0, o1, o2, o3, o4, o5, o6⟩, os⟩ := id hO
  have o64 := hO.in64
  obtain ⟨s0, s1, s2, s3, s4, s5, s6, s7⟩ := os i hi
  refine CT.of (own := RX7) rfl (by decide) (ro_i _) [.ref 50, .int (nI i), .int (nI s), .int (nI y), .null, .null, .null, .null] rfl (Nat.le_of_ble_eq_true rfl) (fun E hp => ?_)
  refine s_iconst (pc := 0) (k_i0N) dX7_alike_0 ?_
  refine s_istore (pc := 1) (by decide) rfl dX7_alike_1 ?_
  refine s_iconst (pc := 3) (k_i0N) dX7_alike_3 ?_
  refine s_istore (pc := 4) (by decide) rfl dX7_alike_4 ?_
  suffices lp_6 : ∀ k, k ≤ 6 → ∀ z1 z2, WW E cX7_alike RX7 8 _ 6 [.ref 50, .int (nI i), .int (nI s), .int (nI y), .int (nI (gpN a i s y k)), .int (nI k), z1, z2] (h) [] from lp_6 0 (by omega) _ _
  refine lpi 6 (fun k hk_k ih_6 => ?_)
  intro z1 z2
  refine s_iload (pc := 6) rfl dX7_alike_6 ?_
  refine s_bipush (pc := 8) (k_b6N) dX7_alike_8 ?_
  refine s_icmp_geN (pc := 10) (by omega) (by omega) 101 dX7_alike_10 (by decide) (fun c_10 => ?_) (fun c_10 => ?_)
  · obtain rfl : k = 6 := by omega
    refine s_iload (pc := 101) rfl dX7_alike_101 ?_
    refine s_iret (pc := 103) dX7_alike_103 (PostE.of hp ?_ ?_)
    · rfl
    · rfl
  · refine s_iconst (pc := 13) (k_i0N) dX7_alike_13 ?_
    refine s_istore (pc := 14) (by decide) rfl dX7_alike_14 ?_
    refine s_iconst (pc := 16) (k_i0N) dX7_alike_16 ?_
    refine s_istore (pc := 17) (by decide) rfl dX7_alike_17 ?_
    suffices lp_19 : ∀ b, b ≤ 6 → WW E cX7_alike RX7 8 _ 19 [.ref 50, .int (nI i), .int (nI s), .int (nI y), .int (nI (gpN a i s y k)), .int (nI k), .int (nI (cnt b (alkP a i s y k))), .int (nI b)] (h) [] from lp_19 (0) (by omega)
    refine lpi (6) (fun b hk_b ih_19 => ?_)
    refine s_iload (pc := 19) rfl dX7_alike_19 ?_
    refine s_bipush (pc := 21) (k_b6N) dX7_alike_21 ?_
    refine s_icmp_geN (pc := 23) (by omega) (by omega) 79 dX7_alike_23 (by decide) (fun c_23 => ?_) (fun c_23 => ?_)
    · obtain rfl : b = 6 := by omega
      have g1 := gp_le a i s y k
      have g2 := cnt_le 6 (alkP a i s y k)
      refine s_iload (pc := 79) rfl dX7_alike_79 ?_
      refine s_iload (pc := 81) rfl dX7_alike_81 ?_
      refine s_icmp_leN (pc := 83) (by omega) (by omega) 91 dX7_alike_83 (by decide) (fun c_83 => ?_) (fun c_83 => ?_)
      · refine s_iload (pc := 91) rfl dX7_alike_91 ?_
        refine s_istore (pc := 93) (by decide) rfl dX7_alike_93 ?_
        refine s_iincN (pc := 95) rfl (by decide) rfl dX7_alike_95 ?_
        refine s_goto (pc := 98) 6 dX7_alike_98 (by decide) ?_
        have ih := ih_6 (by omega)
        rw [gp_s] at ih
        first | (rw [if_pos (by omega)] at ih; exact ih _ _) | (rw [if_neg (by omega)] at ih; exact ih _ _)
      · refine s_iload (pc := 86) rfl dX7_alike_86 ?_
        refine s_goto (pc := 88) 93 dX7_alike_88 (by decide) ?_
        refine s_istore (pc := 93) (by decide) rfl dX7_alike_93 ?_
        refine s_iincN (pc := 95) rfl (by decide) rfl dX7_alike_95 ?_
        refine s_goto (pc := 98) 6 dX7_alike_98 (by decide) ?_
        have ih := ih_6 (by omega)
        rw [gp_s] at ih
        first | (rw [if_pos (by omega)] at ih; exact ih _ _) | (rw [if_neg (by omega)] at ih; exact ih _ _)
    · refine s_iload (pc := 26) rfl dX7_alike_26 ?_
      refine s_iload_n (pc := 28) 2 rfl rfl dX7_alike_28 ?_
      refine s_iload (pc := 29) rfl dX7_alike_29 ?_
      refine s_csi2 (pc := 31) (c_X7_has (by omega) (by omega)) ml_X7_146 ms_X7_has (by decide) (Nat.le_of_ble_eq_true rfl) dX7_alike_31 ?_
      refine s_if_eqB (pc := 34) 69 dX7_alike_34 (by decide) (fun c_34 => ?_) (fun c_34 => ?_)
      · refine s_iconst (pc := 69) (k_i0N) dX7_alike_69 ?_
        refine s_iaddN (pc := 70) dX7_alike_70 ?_
        first | rw [cnt_t (p := alkP a i s y k) (by simp only [alkP, Bool.and_eq_true, decide_eq_true_eq]; exact ⟨⟨c_34, c_43⟩, c_62⟩)] | rw [cnt_f (p := alkP a i s y k) (by simp only [alkP, Bool.and_eq_true, decide_eq_true_eq]; exact fun q => c_62 q.2)] | rw [cnt_f (p := alkP a i s y k) (by simp only [alkP, Bool.and_eq_true, decide_eq_true_eq]; exact fun q => c_43 q.1.2)] | rw [cnt_f (p := alkP a i s y k) (by simp only [alkP, Bool.and_eq_true, decide_eq_true_eq]; exact fun q => c_34 q.1.1)]
        refine s_istore (pc := 71) (by decide) rfl dX7_alike_71 ?_
        refine s_iincN (pc := 73) rfl (by decide) rfl dX7_alike_73 ?_
        refine s_goto (pc := 76) 19 dX7_alike_76 (by decide) ?_
        exact ih_19 (by omega)
      · refine s_iload_n (pc := 37) 2 rfl rfl dX7_alike_37 ?_
        refine s_iload (pc := 38) rfl dX7_alike_38 ?_
        refine s_csi2 (pc := 40) (c_X7_has (by omega) (by omega)) ml_X7_146 ms_X7_has (by decide) (Nat.le_of_ble_eq_true rfl) dX7_alike_40 ?_
        refine s_if_eqB (pc := 43) 69 dX7_alike_43 (by decide) (fun c_43 => ?_) (fun c_43 => ?_)
        · refine s_iconst (pc := 69) (k_i0N) dX7_alike_69 ?_
          refine s_iaddN (pc := 70) dX7_alike_70 ?_
          first | rw [cnt_t (p := alkP a i s y k) (by simp only [alkP, Bool.and_eq_true, decide_eq_true_eq]; exact ⟨⟨c_34, c_43⟩, c_62⟩)] | rw [cnt_f (p := alkP a i s y k) (by simp only [alkP, Bool.and_eq_true, decide_eq_true_eq]; exact fun q => c_62 q.2)] | rw [cnt_f (p := alkP a i s y k) (by simp only [alkP, Bool.and_eq_true, decide_eq_true_eq]; exact fun q => c_43 q.1.2)] | rw [cnt_f (p := alkP a i s y k) (by simp only [alkP, Bool.and_eq_true, decide_eq_true_eq]; exact fun q => c_34 q.1.1)]
          refine s_istore (pc := 71) (by decide) rfl dX7_alike_71 ?_
          refine s_iincN (pc := 73) rfl (by decide) rfl dX7_alike_73 ?_
          refine s_goto (pc := 76) 19 dX7_alike_76 (by decide) ?_
          exact ih_19 (by omega)
        · refine s_aload_n (pc := 46) 0 rfl rfl dX7_alike_46 ?_
          refine s_iload_n (pc := 47) 1 rfl rfl dX7_alike_47 ?_
          refine s_iload (pc := 48) rfl dX7_alike_48 ?_
          refine s_iload_n (pc := 50) 3 rfl rfl dX7_alike_50 ?_
          refine s_cvi3 (pc := 51) (c_X7_ageAs hA hO hi (by omega) hy) ml_X7_232 mw_X7_ageAs rfl (by decide) (Nat.le_of_ble_eq_true rfl) dX7_alike_51 ?_
          refine s_aload_n (pc := 54) 0 rfl rfl dX7_alike_54 ?_
          refine s_iload_n (pc := 55) 1 rfl rfl dX7_alike_55 ?_
          refine s_iload (pc := 56) rfl dX7_alike_56 ?_
          refine s_iload_n (pc := 58) 3 rfl rfl dX7_alike_58 ?_
          refine s_cvi3 (pc := 59) (c_X7_ageAs hA hO hi (by omega) hy) ml_X7_232 mw_X7_ageAs rfl (by decide) (Nat.le_of_ble_eq_true rfl) dX7_alike_59 ?_
          refine s_icmp_neN (pc := 62) (Nat.lt_of_le_of_lt agedN_le (by omega)) (Nat.lt_of_le_of_lt agedN_le (by omega)) 69 dX7_alike_62 (by decide) (fun c_62 => ?_) (fun c_62 => ?_)
          · refine s_iconst (pc := 69) (k_i0N) dX7_alike_69 ?_
            refine s_iaddN (pc := 70) dX7_alike_70 ?_
            first | rw [cnt_t (p := alkP a i s y k) (by simp only [alkP, Bool.and_eq_true, decide_eq_true_eq]; exact ⟨⟨c_34, c_43⟩, c_62⟩)] | rw [cnt_f (p := alkP a i s y k) (by simp only [alkP, Bool.and_eq_true, decide_eq_true_eq]; exact fun q => c_62 q.2)] | rw [cnt_f (p := alkP a i s y k) (by simp only [alkP, Bool.and_eq_true, decide_eq_true_eq]; exact fun q => c_43 q.1.2)] | rw [cnt_f (p := alkP a i s y k) (by simp only [alkP, Bool.and_eq_true, decide_eq_true_eq]; exact fun q => c_34 q.1.1)]
            refine s_istore (pc := 71) (by decide) rfl dX7_alike_71 ?_
            refine s_iincN (pc := 73) rfl (by decide) rfl dX7_alike_73 ?_
            refine s_goto (pc := 76) 19 dX7_alike_76 (by decide) ?_
            exact ih_19 (by omega)
          · refine s_iconst (pc := 65) (k_i1N) dX7_alike_65 ?_
            refine s_goto (pc := 66) 70 dX7_alike_66 (by decide) ?_
            refine s_iaddN (pc := 70) dX7_alike_70 ?_
            first | rw [cnt_t (p := alkP a i s y k) (by simp only [alkP, Bool.and_eq_true, decide_eq_true_eq]; exact ⟨⟨c_34, c_43⟩, c_62⟩)] | rw [cnt_f (p := alkP a i s y k) (by simp only [alkP, Bool.and_eq_true, decide_eq_true_eq]; exact fun q => c_62 q.2)] | rw [cnt_f (p := alkP a i s y k) (by simp only [alkP, Bool.and_eq_true, decide_eq_true_eq]; exact fun q => c_43 q.1.2)] | rw [cnt_f (p := alkP a i s y k) (by simp only [alkP, Bool.and_eq_true, decide_eq_true_eq]; exact fun q => c_34 q.1.1)]
            refine s_istore (pc := 71) (by decide) rfl dX7_alike_71 ?_
            refine s_iincN (pc := 73) rfl (by decide) rfl dX7_alike_73 ?_
            refine s_goto (pc := 76) 19 dX7_alike_76 (by decide) ?_
            exact ih_19 (by omega)

set_option maxRecDepth 20000 in
theorem c_X7_kindsB1 {s x : Int32} {a : Nat → Nat} {h : Hp} (hA : RM a h) (hO : OkA a) (hb : s < 0 ∨ nI (a 0) ≤ s) : CT 6 yX7_kinds cX7_kinds 4 (some .int) [.ref 50, .int s, .int x] h (some (.int (-1))) (h) := by
  refine CT.of (own := RX7) rfl (by decide) (ro_i _) [.ref 50, .int s, .int x, .null] rfl (Nat.le_of_ble_eq_true rfl) (fun E hp => ?_)
  refine s_aload_n (pc := 0) 0 rfl rfl dX7_kinds_0 ?_
  refine s_iload_n (pc := 1) 1 rfl rfl dX7_kinds_1 ?_
  refine s_iload_n (pc := 2) 2 rfl rfl dX7_kinds_2 ?_
  refine s_cvi2 (pc := 3) (c_X7_brB1 hA hO hb) ml_X7_236 mw_X7_barred rfl (by decide) (Nat.le_of_ble_eq_true rfl) dX7_kinds_3 ?_
  refine s_istore_n (pc := 6) 3 rfl (by decide) rfl dX7_kinds_6 ?_
  refine s_iload_n (pc := 7) 3 rfl rfl dX7_kinds_7 ?_
  refine s_if_ne (pc := 8) 20 dX7_kinds_8 (by decide) (fun c_8 => ?_) (fun c_8 => ?_)
  · refine s_iload_n (pc := 20) 3 rfl rfl dX7_kinds_20 ?_
    refine s_iret (pc := 21) dX7_kinds_21 (PostE.of hp ?_ ?_)
    · rfl
    · rfl
  · exfalso; exact absurd c_8 (by decide)

set_option maxRecDepth 20000 in
theorem c_X7_kindsB2 {i : Nat} {s : Int32} {a : Nat → Nat} {h : Hp} (hA : RM a h) (hO : OkA a) (hi : i < a 0) (hb : s < 0 ∨ nI 6 ≤ s) : CT 6 yX7_kinds cX7_kinds 4 (some .int) [.ref 50, .int (nI i), .int s] h (some (.int (-1))) (h) := by
  refine CT.of (own := RX7) rfl (by decide) (ro_i _) [.ref 50, .int (nI i), .int s, .null] rfl (Nat.le_of_ble_eq_true rfl) (fun E hp => ?_)
  refine s_aload_n (pc := 0) 0 rfl rfl dX7_kinds_0 ?_
  refine s_iload_n (pc := 1) 1 rfl rfl dX7_kinds_1 ?_
  refine s_iload_n (pc := 2) 2 rfl rfl dX7_kinds_2 ?_
  refine s_cvi2 (pc := 3) (c_X7_brB2 hA hO hi hb) ml_X7_236 mw_X7_barred rfl (by decide) (Nat.le_of_ble_eq_true rfl) dX7_kinds_3 ?_
  refine s_istore_n (pc := 6) 3 rfl (by decide) rfl dX7_kinds_6 ?_
  refine s_iload_n (pc := 7) 3 rfl rfl dX7_kinds_7 ?_
  refine s_if_ne (pc := 8) 20 dX7_kinds_8 (by decide) (fun c_8 => ?_) (fun c_8 => ?_)
  · refine s_iload_n (pc := 20) 3 rfl rfl dX7_kinds_20 ?_
    refine s_iret (pc := 21) dX7_kinds_21 (PostE.of hp ?_ ?_)
    · rfl
    · rfl
  · exfalso; exact absurd c_8 (by decide)

set_option maxRecDepth 20000 in
theorem c_X7_kindsM {i q : Nat} {a : Nat → Nat} {h : Hp} (hA : RM a h) (hO : OkA a) (hi : i < a 0) (hk : q < 6) (hz : h.1 51 q = -1) : CT 6 yX7_kinds cX7_kinds 4 (some .int) [.ref 50, .int (nI i), .int (nI q)] h (some (.int (-3))) (finM h 1) := by
  refine CT.of (own := RX7) rfl (by decide) (ro_i _) [.ref 50, .int (nI i), .int (nI q), .null] rfl (Nat.le_of_ble_eq_true rfl) (fun E hp => ?_)
  refine s_aload_n (pc := 0) 0 rfl rfl dX7_kinds_0 ?_
  refine s_iload_n (pc := 1) 1 rfl rfl dX7_kinds_1 ?_
  refine s_iload_n (pc := 2) 2 rfl rfl dX7_kinds_2 ?_
  refine s_cvi2 (pc := 3) (c_X7_brM hA hO hi hk hz) ml_X7_236 mw_X7_barred rfl (by decide) (Nat.le_of_ble_eq_true rfl) dX7_kinds_3 ?_
  refine s_istore_n (pc := 6) 3 rfl (by decide) rfl dX7_kinds_6 ?_
  refine s_iload_n (pc := 7) 3 rfl rfl dX7_kinds_7 ?_
  refine s_if_ne (pc := 8) 20 dX7_kinds_8 (by decide) (fun c_8 => ?_) (fun c_8 => ?_)
  · refine s_iload_n (pc := 20) 3 rfl rfl dX7_kinds_20 ?_
    refine s_iret (pc := 21) dX7_kinds_21 (PostE.of hp ?_ ?_)
    · rfl
    · rfl
  · exfalso; exact absurd c_8 (by decide)

set_option maxRecDepth 20000 in
theorem c_X7_kindsS {i q m : Nat} {a : Nat → Nat} {h : Hp} (hA : RM a h) (hO : OkA a) (hi : i < a 0) (hk : q < 6) (hz : h.1 51 q = nI m) (hz6 : m ≤ 40) (ho : ¬ m % 2 = 0) : CT 6 yX7_kinds cX7_kinds 4 (some .int) [.ref 50, .int (nI i), .int (nI q)] h (some (.int (-3))) (finM h 5) := by
  refine CT.of (own := RX7) rfl (by decide) (ro_i _) [.ref 50, .int (nI i), .int (nI q), .null] rfl (Nat.le_of_ble_eq_true rfl) (fun E hp => ?_)
  refine s_aload_n (pc := 0) 0 rfl rfl dX7_kinds_0 ?_
  refine s_iload_n (pc := 1) 1 rfl rfl dX7_kinds_1 ?_
  refine s_iload_n (pc := 2) 2 rfl rfl dX7_kinds_2 ?_
  refine s_cvi2 (pc := 3) (c_X7_brS hA hO hi hk hz hz6 ho) ml_X7_236 mw_X7_barred rfl (by decide) (Nat.le_of_ble_eq_true rfl) dX7_kinds_3 ?_
  refine s_istore_n (pc := 6) 3 rfl (by decide) rfl dX7_kinds_6 ?_
  refine s_iload_n (pc := 7) 3 rfl rfl dX7_kinds_7 ?_
  refine s_if_ne (pc := 8) 20 dX7_kinds_8 (by decide) (fun c_8 => ?_) (fun c_8 => ?_)
  · refine s_iload_n (pc := 20) 3 rfl rfl dX7_kinds_20 ?_
    refine s_iret (pc := 21) dX7_kinds_21 (PostE.of hp ?_ ?_)
    · rfl
    · rfl
  · exfalso; exact absurd c_8 (by decide)

set_option maxRecDepth 20000 in
theorem c_X7_kindsU {i q u : Nat} {a : Nat → Nat} {h : Hp} (hA : RM a h) (hO : OkA a) (hi : i < a 0) (hk : q < 6) (hz : h.1 51 q = nI (2 * u)) (hz6 : 2 * u ≤ 40) {f : Nat → Int32} (hf : ∀ j, j < 40 → h.1 52 (40 * q + j) = f j) (hu : ¬ ∀ j, j < 2 * u → pok f j = true) : CT 6 yX7_kinds cX7_kinds 4 (some .int) [.ref 50, .int (nI i), .int (nI q)] h (some (.int (-3))) (finM h 3) := by
  refine CT.of (own := RX7) rfl (by decide) (ro_i _) [.ref 50, .int (nI i), .int (nI q), .null] rfl (Nat.le_of_ble_eq_true rfl) (fun E hp => ?_)
  refine s_aload_n (pc := 0) 0 rfl rfl dX7_kinds_0 ?_
  refine s_iload_n (pc := 1) 1 rfl rfl dX7_kinds_1 ?_
  refine s_iload_n (pc := 2) 2 rfl rfl dX7_kinds_2 ?_
  refine s_cvi2 (pc := 3) (c_X7_brU hA hO hi hk hz hz6 hf hu) ml_X7_236 mw_X7_barred rfl (by decide) (Nat.le_of_ble_eq_true rfl) dX7_kinds_3 ?_
  refine s_istore_n (pc := 6) 3 rfl (by decide) rfl dX7_kinds_6 ?_
  refine s_iload_n (pc := 7) 3 rfl rfl dX7_kinds_7 ?_
  refine s_if_ne (pc := 8) 20 dX7_kinds_8 (by decide) (fun c_8 => ?_) (fun c_8 => ?_)
  · refine s_iload_n (pc := 20) 3 rfl rfl dX7_kinds_20 ?_
    refine s_iret (pc := 21) dX7_kinds_21 (PostE.of hp ?_ ?_)
    · rfl
    · rfl
  · exfalso; exact absurd c_8 (by decide)

set_option maxRecDepth 20000 in
theorem c_X7_testB1 {s x : Int32} {a : Nat → Nat} {h : Hp} (hA : RM a h) (hO : OkA a) (hb : s < 0 ∨ nI (a 0) ≤ s) : CT 6 yX7_test cX7_test 9 (some .int) [.ref 50, .int s, .int x] h (some (.int (-1))) (h) := by
  refine CT.of (own := RX7) rfl (by decide) (ro_i _) [.ref 50, .int s, .int x, .null, .null, .null, .null, .null, .null] rfl (Nat.le_of_ble_eq_true rfl) (fun E hp => ?_)
  refine s_aload_n (pc := 0) 0 rfl rfl dX7_test_0 ?_
  refine s_iload_n (pc := 1) 1 rfl rfl dX7_test_1 ?_
  refine s_iload_n (pc := 2) 2 rfl rfl dX7_test_2 ?_
  refine s_cvi2 (pc := 3) (c_X7_brB1 hA hO hb) ml_X7_236 mw_X7_barred rfl (by decide) (Nat.le_of_ble_eq_true rfl) dX7_test_3 ?_
  refine s_istore_n (pc := 6) 3 rfl (by decide) rfl dX7_test_6 ?_
  refine s_iload_n (pc := 7) 3 rfl rfl dX7_test_7 ?_
  refine s_if_eq (pc := 8) 13 dX7_test_8 (by decide) (fun c_8 => ?_) (fun c_8 => ?_)
  · exfalso; exact absurd c_8 (by decide)
  · refine s_iload_n (pc := 11) 3 rfl rfl dX7_test_11 ?_
    refine s_iret (pc := 12) dX7_test_12 (PostE.of hp ?_ ?_)
    · rfl
    · rfl

set_option maxRecDepth 20000 in
theorem c_X7_testB2 {i : Nat} {s : Int32} {a : Nat → Nat} {h : Hp} (hA : RM a h) (hO : OkA a) (hi : i < a 0) (hb : s < 0 ∨ nI 6 ≤ s) : CT 6 yX7_test cX7_test 9 (some .int) [.ref 50, .int (nI i), .int s] h (some (.int (-1))) (h) := by
  refine CT.of (own := RX7) rfl (by decide) (ro_i _) [.ref 50, .int (nI i), .int s, .null, .null, .null, .null, .null, .null] rfl (Nat.le_of_ble_eq_true rfl) (fun E hp => ?_)
  refine s_aload_n (pc := 0) 0 rfl rfl dX7_test_0 ?_
  refine s_iload_n (pc := 1) 1 rfl rfl dX7_test_1 ?_
  refine s_iload_n (pc := 2) 2 rfl rfl dX7_test_2 ?_
  refine s_cvi2 (pc := 3) (c_X7_brB2 hA hO hi hb) ml_X7_236 mw_X7_barred rfl (by decide) (Nat.le_of_ble_eq_true rfl) dX7_test_3 ?_
  refine s_istore_n (pc := 6) 3 rfl (by decide) rfl dX7_test_6 ?_
  refine s_iload_n (pc := 7) 3 rfl rfl dX7_test_7 ?_
  refine s_if_eq (pc := 8) 13 dX7_test_8 (by decide) (fun c_8 => ?_) (fun c_8 => ?_)
  · exfalso; exact absurd c_8 (by decide)
  · refine s_iload_n (pc := 11) 3 rfl rfl dX7_test_11 ?_
    refine s_iret (pc := 12) dX7_test_12 (PostE.of hp ?_ ?_)
    · rfl
    · rfl

set_option maxRecDepth 20000 in
theorem c_X7_testM {i q : Nat} {a : Nat → Nat} {h : Hp} (hA : RM a h) (hO : OkA a) (hi : i < a 0) (hk : q < 6) (hz : h.1 51 q = -1) : CT 6 yX7_test cX7_test 9 (some .int) [.ref 50, .int (nI i), .int (nI q)] h (some (.int (-3))) (finM h 1) := by
  refine CT.of (own := RX7) rfl (by decide) (ro_i _) [.ref 50, .int (nI i), .int (nI q), .null, .null, .null, .null, .null, .null] rfl (Nat.le_of_ble_eq_true rfl) (fun E hp => ?_)
  refine s_aload_n (pc := 0) 0 rfl rfl dX7_test_0 ?_
  refine s_iload_n (pc := 1) 1 rfl rfl dX7_test_1 ?_
  refine s_iload_n (pc := 2) 2 rfl rfl dX7_test_2 ?_
  refine s_cvi2 (pc := 3) (c_X7_brM hA hO hi hk hz) ml_X7_236 mw_X7_barred rfl (by decide) (Nat.le_of_ble_eq_true rfl) dX7_test_3 ?_
  refine s_istore_n (pc := 6) 3 rfl (by decide) rfl dX7_test_6 ?_
  refine s_iload_n (pc := 7) 3 rfl rfl dX7_test_7 ?_
  refine s_if_eq (pc := 8) 13 dX7_test_8 (by decide) (fun c_8 => ?_) (fun c_8 => ?_)
  · exfalso; exact absurd c_8 (by decide)
  · refine s_iload_n (pc := 11) 3 rfl rfl dX7_test_11 ?_
    refine s_iret (pc := 12) dX7_test_12 (PostE.of hp ?_ ?_)
    · rfl
    · rfl

set_option maxRecDepth 20000 in
theorem c_X7_testS {i q m : Nat} {a : Nat → Nat} {h : Hp} (hA : RM a h) (hO : OkA a) (hi : i < a 0) (hk : q < 6) (hz : h.1 51 q = nI m) (hz6 : m ≤ 40) (ho : ¬ m % 2 = 0) : CT 6 yX7_test cX7_test 9 (some .int) [.ref 50, .int (nI i), .int (nI q)] h (some (.int (-3))) (finM h 5) := by
  refine CT.of (own := RX7) rfl (by decide) (ro_i _) [.ref 50, .int (nI i), .int (nI q), .null, .null, .null, .null, .null, .null] rfl (Nat.le_of_ble_eq_true rfl) (fun E hp => ?_)
  refine s_aload_n (pc := 0) 0 rfl rfl dX7_test_0 ?_
  refine s_iload_n (pc := 1) 1 rfl rfl dX7_test_1 ?_
  refine s_iload_n (pc := 2) 2 rfl rfl dX7_test_2 ?_
  refine s_cvi2 (pc := 3) (c_X7_brS hA hO hi hk hz hz6 ho) ml_X7_236 mw_X7_barred rfl (by decide) (Nat.le_of_ble_eq_true rfl) dX7_test_3 ?_
  refine s_istore_n (pc := 6) 3 rfl (by decide) rfl dX7_test_6 ?_
  refine s_iload_n (pc := 7) 3 rfl rfl dX7_test_7 ?_
  refine s_if_eq (pc := 8) 13 dX7_test_8 (by decide) (fun c_8 => ?_) (fun c_8 => ?_)
  · exfalso; exact absurd c_8 (by decide)
  · refine s_iload_n (pc := 11) 3 rfl rfl dX7_test_11 ?_
    refine s_iret (pc := 12) dX7_test_12 (PostE.of hp ?_ ?_)
    · rfl
    · rfl

set_option maxRecDepth 20000 in
theorem c_X7_testU {i q u : Nat} {a : Nat → Nat} {h : Hp} (hA : RM a h) (hO : OkA a) (hi : i < a 0) (hk : q < 6) (hz : h.1 51 q = nI (2 * u)) (hz6 : 2 * u ≤ 40) {f : Nat → Int32} (hf : ∀ j, j < 40 → h.1 52 (40 * q + j) = f j) (hu : ¬ ∀ j, j < 2 * u → pok f j = true) : CT 6 yX7_test cX7_test 9 (some .int) [.ref 50, .int (nI i), .int (nI q)] h (some (.int (-3))) (finM h 3) := by
  refine CT.of (own := RX7) rfl (by decide) (ro_i _) [.ref 50, .int (nI i), .int (nI q), .null, .null, .null, .null, .null, .null] rfl (Nat.le_of_ble_eq_true rfl) (fun E hp => ?_)
  refine s_aload_n (pc := 0) 0 rfl rfl dX7_test_0 ?_
  refine s_iload_n (pc := 1) 1 rfl rfl dX7_test_1 ?_
  refine s_iload_n (pc := 2) 2 rfl rfl dX7_test_2 ?_
  refine s_cvi2 (pc := 3) (c_X7_brU hA hO hi hk hz hz6 hf hu) ml_X7_236 mw_X7_barred rfl (by decide) (Nat.le_of_ble_eq_true rfl) dX7_test_3 ?_
  refine s_istore_n (pc := 6) 3 rfl (by decide) rfl dX7_test_6 ?_
  refine s_iload_n (pc := 7) 3 rfl rfl dX7_test_7 ?_
  refine s_if_eq (pc := 8) 13 dX7_test_8 (by decide) (fun c_8 => ?_) (fun c_8 => ?_)
  · exfalso; exact absurd c_8 (by decide)
  · refine s_iload_n (pc := 11) 3 rfl rfl dX7_test_11 ?_
    refine s_iret (pc := 12) dX7_test_12 (PostE.of hp ?_ ?_)
    · rfl
    · rfl

set_option maxRecDepth 20000 in
theorem c_X7_kindsO {i q u : Nat} {a : Nat → Nat} {h : Hp} (hA : RM a h) (hO : OkA a) (hi : i < a 0) (hk : q < 6) (hz : h.1 51 q = nI (2 * u)) (hz6 : 2 * u ≤ 40) {f : Nat → Int32} (hf : ∀ j, j < 40 → h.1 52 (40 * q + j) = f j) (hu : ∀ j, j < 2 * u → pok f j = true) : CT 6 yX7_kinds cX7_kinds 4 (some .int) [.ref 50, .int (nI i), .int (nI q)] h (some (.int (nI (kndN a i f u)))) (h) := by
  refine CT.of (own := RX7) rfl (by decide) (ro_i _) [.ref 50, .int (nI i), .int (nI q), .null] rfl (Nat.le_of_ble_eq_true rfl) (fun E hp => ?_)
  refine s_aload_n (pc := 0) 0 rfl rfl dX7_kinds_0 ?_
  refine s_iload_n (pc := 1) 1 rfl rfl dX7_kinds_1 ?_
  refine s_iload_n (pc := 2) 2 rfl rfl dX7_kinds_2 ?_
  refine s_cvi2 (pc := 3) (c_X7_brO hA hO hi hk hz hz6 hf hu) ml_X7_236 mw_X7_barred rfl (by decide) (Nat.le_of_ble_eq_true rfl) dX7_kinds_3 ?_
  refine s_istore_n (pc := 6) 3 rfl (by decide) rfl dX7_kinds_6 ?_
  refine s_iload_n (pc := 7) 3 rfl rfl dX7_kinds_7 ?_
  refine s_if_neN (pc := 8) (by omega) 20 dX7_kinds_8 (by decide) (fun c_8 => ?_) (fun c_8 => ?_)
  · exfalso; omega
  · refine s_aload_n (pc := 11) 0 rfl rfl dX7_kinds_11 ?_
    refine s_iload_n (pc := 12) 1 rfl rfl dX7_kinds_12 ?_
    refine s_iload_n (pc := 13) 2 rfl rfl dX7_kinds_13 ?_
    refine s_cvi2 (pc := 14) (c_X7_kindsBy hA hO hi hk hz hz6 hf hu) ml_X7_239 mw_X7_kindsBy rfl (by decide) (Nat.le_of_ble_eq_true rfl) dX7_kinds_14 ?_
    refine s_goto (pc := 17) 21 dX7_kinds_17 (by decide) ?_
    refine s_iret (pc := 21) dX7_kinds_21 (PostE.of hp ?_ ?_)
    · rfl
    · rfl

set_option maxRecDepth 20000 in
theorem c_X7_testN {i q u : Nat} {a : Nat → Nat} {h : Hp} (hA : RM a h) (hO : OkA a) (hi : i < a 0) (hk : q < 6) (hz : h.1 51 q = nI (2 * u)) (hz6 : 2 * u ≤ 40) {f : Nat → Int32} (hf : ∀ j, j < 40 → h.1 52 (40 * q + j) = f j) (hu : ∀ j, j < 2 * u → pok f j = true) (h0 : kndN a i f u = 0) : CT 6 yX7_test cX7_test 9 (some .int) [.ref 50, .int (nI i), .int (nI q)] h (some (.int (-9))) (h) := by
  obtain ⟨⟨o0, o1, o2, o3, o4, o5, o6⟩, os⟩ := id hO
  have o64 := hO.in64
  have kl : kndN a i f u < 64 := bitsU_lt64 _ (by decide)
  refine CT.of (own := RX7) rfl (by decide) (ro_i _) [.ref 50, .int (nI i), .int (nI q), .null, .null, .null, .null, .null, .null] rfl (Nat.le_of_ble_eq_true rfl) (fun E hp => ?_)
  refine s_aload_n (pc := 0) 0 rfl rfl dX7_test_0 ?_
  refine s_iload_n (pc := 1) 1 rfl rfl dX7_test_1 ?_
  refine s_iload_n (pc := 2) 2 rfl rfl dX7_test_2 ?_
  refine s_cvi2 (pc := 3) (c_X7_brO hA hO hi hk hz hz6 hf hu) ml_X7_236 mw_X7_barred rfl (by decide) (Nat.le_of_ble_eq_true rfl) dX7_test_3 ?_
  refine s_istore_n (pc := 6) 3 rfl (by decide) rfl dX7_test_6 ?_
  refine s_iload_n (pc := 7) 3 rfl rfl dX7_test_7 ?_
  refine s_if_eqN (pc := 8) (by omega) 13 dX7_test_8 (by decide) (fun c_8 => ?_) (fun c_8 => ?_)
  · refine s_aload_n (pc := 13) 0 rfl rfl dX7_test_13 ?_
    refine s_iload_n (pc := 14) 1 rfl rfl dX7_test_14 ?_
    refine s_iload_n (pc := 15) 2 rfl rfl dX7_test_15 ?_
    refine s_cvi2 (pc := 16) (c_X7_kindsBy hA hO hi hk hz hz6 hf hu) ml_X7_239 mw_X7_kindsBy rfl (by decide) (Nat.le_of_ble_eq_true rfl) dX7_test_16 ?_
    refine s_istore (pc := 19) (by decide) rfl dX7_test_19 ?_
    refine s_iconst (pc := 21) (k_i0N) dX7_test_21 ?_
    refine s_istore (pc := 22) (by decide) rfl dX7_test_22 ?_
    refine s_bipush (pc := 24) (k_b7N) dX7_test_24 ?_
    refine s_istore (pc := 26) (by decide) rfl dX7_test_26 ?_
    refine s_iconst (pc := 28) (k_i0N) dX7_test_28 ?_
    refine s_istore (pc := 29) (by decide) rfl dX7_test_29 ?_
    suffices lp_31 : ∀ n, n ≤ 100 → ∀ zz, WW E cX7_test RX7 9 _ 31 [.ref 50, .int (nI i), .int (nI q), .int (nI 0), .int (nI (kndN a i f u)), .int (nI (tsN (fun n => gpN a i (kndN a i f u) (a 1 + n) 6) n).1), .int (nI (tsN (fun n => gpN a i (kndN a i f u) (a 1 + n) 6) n).2), .int (nI n), zz] (h) [] from lp_31 0 (by omega) _
    refine lpi 100 (fun n hk_n ih_31 => ?_)
    intro zz
    refine s_iload (pc := 31) rfl dX7_test_31 ?_
    refine s_bipush (pc := 33) (k_b100N) dX7_test_33 ?_
    refine s_icmp_geN (pc := 35) (by omega) (by omega) 94 dX7_test_35 (by decide) (fun c_35 => ?_) (fun c_35 => ?_)
    · obtain rfl : n = 100 := by omega
      refine s_iload (pc := 94) rfl dX7_test_94 ?_
      refine s_if_neN (pc := 96) (by omega) 104 dX7_test_96 (by decide) (fun c_96 => ?_) (fun c_96 => ?_)
      · exfalso; omega
      · refine s_bipush (pc := 99) (k_bm9) dX7_test_99 ?_
        refine s_goto (pc := 101) 112 dX7_test_101 (by decide) ?_
        refine s_iret (pc := 112) dX7_test_112 (PostE.of hp ?_ ?_)
        · rfl
        · rfl
    · refine s_aload_n (pc := 38) 0 rfl rfl dX7_test_38 ?_
      refine s_iload_n (pc := 39) 1 rfl rfl dX7_test_39 ?_
      refine s_iload (pc := 40) rfl dX7_test_40 ?_
      refine s_aload_n (pc := 42) 0 rfl rfl dX7_test_42 ?_
      refine s_getr (pc := 43) (b := 56) fl_X7_25 rfl rfl rfl dX7_test_43 ?_
      refine s_iconst (pc := 46) (k_i1N) dX7_test_46 ?_
      refine s_ialdN (pc := 47) (_) rfl rfl (by omega) (hA _ (by omega)) dX7_test_47 ?_
      refine s_iload (pc := 48) rfl dX7_test_48 ?_
      refine s_iaddN (pc := 50) dX7_test_50 ?_
      refine s_cvi3 (pc := 51) (c_X7_alike hA hO hi kl (by omega)) ml_X7_242 mw_X7_alike rfl (by decide) (Nat.le_of_ble_eq_true rfl) dX7_test_51 ?_
      have gl := gp_le a i (kndN a i f u) (a 1 + n) 6
      have tl := ts_le (fun n => gpN a i (kndN a i f u) (a 1 + n) 6) n
      refine s_istore (pc := 54) (by decide) rfl dX7_test_54 ?_
      refine s_iload (pc := 56) rfl dX7_test_56 ?_
      refine s_iload (pc := 58) rfl dX7_test_58 ?_
      refine s_icmp_geN (pc := 60) (by omega) (by omega) 68 dX7_test_60 (by decide) (fun c_60 => ?_) (fun c_60 => ?_)
      · refine s_iload (pc := 68) rfl dX7_test_68 ?_
        refine s_istore (pc := 70) (by decide) rfl dX7_test_70 ?_
        refine s_iload (pc := 72) rfl dX7_test_72 ?_
        refine s_iload (pc := 74) rfl dX7_test_74 ?_
        refine s_icmp_geN (pc := 76) (by omega) (by omega) 84 dX7_test_76 (by decide) (fun c_76 => ?_) (fun c_76 => ?_)
        · refine s_iload (pc := 84) rfl dX7_test_84 ?_
          refine s_istore (pc := 86) (by decide) rfl dX7_test_86 ?_
          refine s_iincN (pc := 88) rfl (by decide) rfl dX7_test_88 ?_
          refine s_goto (pc := 91) 31 dX7_test_91 (by decide) ?_
          first | (have e1 : n = (tsN (fun n => gpN a i (kndN a i f u) (a 1 + n) 6) (n + 1)).1 := (by simp only [tsN]; rw [if_pos (show gpN a i (kndN a i f u) (a 1 + n) 6 < (tsN (fun n => gpN a i (kndN a i f u) (a 1 + n) 6) n).2 by omega)]); have e2 : gpN a i (kndN a i f u) (a 1 + n) 6 = (tsN (fun n => gpN a i (kndN a i f u) (a 1 + n) 6) (n + 1)).2 := (by simp only [tsN]; rw [if_pos (show gpN a i (kndN a i f u) (a 1 + n) 6 < (tsN (fun n => gpN a i (kndN a i f u) (a 1 + n) 6) n).2 by omega)]); have ih := ih_31 (by omega); rw [← e1, ← e2] at ih; exact ih _) | (have e1 : tsN (fun n => gpN a i (kndN a i f u) (a 1 + n) 6) (n + 1) = tsN (fun n => gpN a i (kndN a i f u) (a 1 + n) 6) n := (by simp only [tsN]; rw [if_neg (show ¬ gpN a i (kndN a i f u) (a 1 + n) 6 < (tsN (fun n => gpN a i (kndN a i f u) (a 1 + n) 6) n).2 by omega)]); have ih := ih_31 (by omega); rw [e1] at ih; exact ih _)
        · exfalso; omega
      · refine s_iload (pc := 63) rfl dX7_test_63 ?_
        refine s_goto (pc := 65) 70 dX7_test_65 (by decide) ?_
        refine s_istore (pc := 70) (by decide) rfl dX7_test_70 ?_
        refine s_iload (pc := 72) rfl dX7_test_72 ?_
        refine s_iload (pc := 74) rfl dX7_test_74 ?_
        refine s_icmp_geN (pc := 76) (by omega) (by omega) 84 dX7_test_76 (by decide) (fun c_76 => ?_) (fun c_76 => ?_)
        · exfalso; omega
        · refine s_iload (pc := 79) rfl dX7_test_79 ?_
          refine s_goto (pc := 81) 86 dX7_test_81 (by decide) ?_
          refine s_istore (pc := 86) (by decide) rfl dX7_test_86 ?_
          refine s_iincN (pc := 88) rfl (by decide) rfl dX7_test_88 ?_
          refine s_goto (pc := 91) 31 dX7_test_91 (by decide) ?_
          first | (have e1 : n = (tsN (fun n => gpN a i (kndN a i f u) (a 1 + n) 6) (n + 1)).1 := (by simp only [tsN]; rw [if_pos (show gpN a i (kndN a i f u) (a 1 + n) 6 < (tsN (fun n => gpN a i (kndN a i f u) (a 1 + n) 6) n).2 by omega)]); have e2 : gpN a i (kndN a i f u) (a 1 + n) 6 = (tsN (fun n => gpN a i (kndN a i f u) (a 1 + n) 6) (n + 1)).2 := (by simp only [tsN]; rw [if_pos (show gpN a i (kndN a i f u) (a 1 + n) 6 < (tsN (fun n => gpN a i (kndN a i f u) (a 1 + n) 6) n).2 by omega)]); have ih := ih_31 (by omega); rw [← e1, ← e2] at ih; exact ih _) | (have e1 : tsN (fun n => gpN a i (kndN a i f u) (a 1 + n) 6) (n + 1) = tsN (fun n => gpN a i (kndN a i f u) (a 1 + n) 6) n := (by simp only [tsN]; rw [if_neg (show ¬ gpN a i (kndN a i f u) (a 1 + n) 6 < (tsN (fun n => gpN a i (kndN a i f u) (a 1 + n) 6) n).2 by omega)]); have ih := ih_31 (by omega); rw [e1] at ih; exact ih _)
  · exfalso; omega

set_option maxRecDepth 20000 in
theorem c_X7_testO {i q u : Nat} {a : Nat → Nat} {h : Hp} (hA : RM a h) (hO : OkA a) (hi : i < a 0) (hk : q < 6) (hz : h.1 51 q = nI (2 * u)) (hz6 : 2 * u ≤ 40) {f : Nat → Int32} (hf : ∀ j, j < 40 → h.1 52 (40 * q + j) = f j) (hu : ∀ j, j < 2 * u → pok f j = true) (h0 : ¬ kndN a i f u = 0) : CT 6 yX7_test cX7_test 9 (some .int) [.ref 50, .int (nI i), .int (nI q)] h (some (.int (nI (tsN (fun n => gpN a i (kndN a i f u) (a 1 + n) 6) 100).1))) (ui h 50 11 (nI (tsN (fun n => gpN a i (kndN a i f u) (a 1 + n) 6) 100).2)) := by
  obtain ⟨⟨o0, o1, o2, o3, o4, o5, o6⟩, os⟩ := id hO
  have o64 := hO.in64
  have kl : kndN a i f u < 64 := bitsU_lt64 _ (by decide)
  refine CT.of (own := RX7) rfl (by decide) (ro_i _) [.ref 50, .int (nI i), .int (nI q), .null, .null, .null, .null, .null, .null] rfl (Nat.le_of_ble_eq_true rfl) (fun E hp => ?_)
  refine s_aload_n (pc := 0) 0 rfl rfl dX7_test_0 ?_
  refine s_iload_n (pc := 1) 1 rfl rfl dX7_test_1 ?_
  refine s_iload_n (pc := 2) 2 rfl rfl dX7_test_2 ?_
  refine s_cvi2 (pc := 3) (c_X7_brO hA hO hi hk hz hz6 hf hu) ml_X7_236 mw_X7_barred rfl (by decide) (Nat.le_of_ble_eq_true rfl) dX7_test_3 ?_
  refine s_istore_n (pc := 6) 3 rfl (by decide) rfl dX7_test_6 ?_
  refine s_iload_n (pc := 7) 3 rfl rfl dX7_test_7 ?_
  refine s_if_eqN (pc := 8) (by omega) 13 dX7_test_8 (by decide) (fun c_8 => ?_) (fun c_8 => ?_)
  · refine s_aload_n (pc := 13) 0 rfl rfl dX7_test_13 ?_
    refine s_iload_n (pc := 14) 1 rfl rfl dX7_test_14 ?_
    refine s_iload_n (pc := 15) 2 rfl rfl dX7_test_15 ?_
    refine s_cvi2 (pc := 16) (c_X7_kindsBy hA hO hi hk hz hz6 hf hu) ml_X7_239 mw_X7_kindsBy rfl (by decide) (Nat.le_of_ble_eq_true rfl) dX7_test_16 ?_
    refine s_istore (pc := 19) (by decide) rfl dX7_test_19 ?_
    refine s_iconst (pc := 21) (k_i0N) dX7_test_21 ?_
    refine s_istore (pc := 22) (by decide) rfl dX7_test_22 ?_
    refine s_bipush (pc := 24) (k_b7N) dX7_test_24 ?_
    refine s_istore (pc := 26) (by decide) rfl dX7_test_26 ?_
    refine s_iconst (pc := 28) (k_i0N) dX7_test_28 ?_
    refine s_istore (pc := 29) (by decide) rfl dX7_test_29 ?_
    suffices lp_31 : ∀ n, n ≤ 100 → ∀ zz, WW E cX7_test RX7 9 _ 31 [.ref 50, .int (nI i), .int (nI q), .int (nI 0), .int (nI (kndN a i f u)), .int (nI (tsN (fun n => gpN a i (kndN a i f u) (a 1 + n) 6) n).1), .int (nI (tsN (fun n => gpN a i (kndN a i f u) (a 1 + n) 6) n).2), .int (nI n), zz] (h) [] from lp_31 0 (by omega) _
    refine lpi 100 (fun n hk_n ih_31 => ?_)
    intro zz
    refine s_iload (pc := 31) rfl dX7_test_31 ?_
    refine s_bipush (pc := 33) (k_b100N) dX7_test_33 ?_
    refine s_icmp_geN (pc := 35) (by omega) (by omega) 94 dX7_test_35 (by decide) (fun c_35 => ?_) (fun c_35 => ?_)
    · obtain rfl : n = 100 := by omega
      refine s_iload (pc := 94) rfl dX7_test_94 ?_
      refine s_if_neN (pc := 96) (by omega) 104 dX7_test_96 (by decide) (fun c_96 => ?_) (fun c_96 => ?_)
      · refine s_aload_n (pc := 104) 0 rfl rfl dX7_test_104 ?_
        refine s_iload (pc := 105) rfl dX7_test_105 ?_
        refine s_iload (pc := 107) rfl dX7_test_107 ?_
        refine s_cvi2 (pc := 109) (c_X7_tells) ml_X7_84 mw_X7_tells rfl (by decide) (Nat.le_of_ble_eq_true rfl) dX7_test_109 ?_
        refine s_iret (pc := 112) dX7_test_112 (PostE.of hp ?_ ?_)
        · rfl
        · rfl
      · exfalso; omega
    · refine s_aload_n (pc := 38) 0 rfl rfl dX7_test_38 ?_
      refine s_iload_n (pc := 39) 1 rfl rfl dX7_test_39 ?_
      refine s_iload (pc := 40) rfl dX7_test_40 ?_
      refine s_aload_n (pc := 42) 0 rfl rfl dX7_test_42 ?_
      refine s_getr (pc := 43) (b := 56) fl_X7_25 rfl rfl rfl dX7_test_43 ?_
      refine s_iconst (pc := 46) (k_i1N) dX7_test_46 ?_
      refine s_ialdN (pc := 47) (_) rfl rfl (by omega) (hA _ (by omega)) dX7_test_47 ?_
      refine s_iload (pc := 48) rfl dX7_test_48 ?_
      refine s_iaddN (pc := 50) dX7_test_50 ?_
      refine s_cvi3 (pc := 51) (c_X7_alike hA hO hi kl (by omega)) ml_X7_242 mw_X7_alike rfl (by decide) (Nat.le_of_ble_eq_true rfl) dX7_test_51 ?_
      have gl := gp_le a i (kndN a i f u) (a 1 + n) 6
      have tl := ts_le (fun n => gpN a i (kndN a i f u) (a 1 + n) 6) n
      refine s_istore (pc := 54) (by decide) rfl dX7_test_54 ?_
      refine s_iload (pc := 56) rfl dX7_test_56 ?_
      refine s_iload (pc := 58) rfl dX7_test_58 ?_
      refine s_icmp_geN (pc := 60) (by omega) (by omega) 68 dX7_test_60 (by decide) (fun c_60 => ?_) (fun c_60 => ?_)
      · refine s_iload (pc := 68) rfl dX7_test_68 ?_
        refine s_istore (pc := 70) (by decide) rfl dX7_test_70 ?_
        refine s_iload (pc := 72) rfl dX7_test_72 ?_
        refine s_iload (pc := 74) rfl dX7_test_74 ?_
        refine s_icmp_geN (pc := 76) (by omega) (by omega) 84 dX7_test_76 (by decide) (fun c_76 => ?_) (fun c_76 => ?_)
        · refine s_iload (pc := 84) rfl dX7_test_84 ?_
          refine s_istore (pc := 86) (by decide) rfl dX7_test_86 ?_
          refine s_iincN (pc := 88) rfl (by decide) rfl dX7_test_88 ?_
          refine s_goto (pc := 91) 31 dX7_test_91 (by decide) ?_
          first | (have e1 : n = (tsN (fun n => gpN a i (kndN a i f u) (a 1 + n) 6) (n + 1)).1 := (by simp only [tsN]; rw [if_pos (show gpN a i (kndN a i f u) (a 1 + n) 6 < (tsN (fun n => gpN a i (kndN a i f u) (a 1 + n) 6) n).2 by omega)]); have e2 : gpN a i (kndN a i f u) (a 1 + n) 6 = (tsN (fun n => gpN a i (kndN a i f u) (a 1 + n) 6) (n + 1)).2 := (by simp only [tsN]; rw [if_pos (show gpN a i (kndN a i f u) (a 1 + n) 6 < (tsN (fun n => gpN a i (kndN a i f u) (a 1 + n) 6) n).2 by omega)]); have ih := ih_31 (by omega); rw [← e1, ← e2] at ih; exact ih _) | (have e1 : tsN (fun n => gpN a i (kndN a i f u) (a 1 + n) 6) (n + 1) = tsN (fun n => gpN a i (kndN a i f u) (a 1 + n) 6) n := (by simp only [tsN]; rw [if_neg (show ¬ gpN a i (kndN a i f u) (a 1 + n) 6 < (tsN (fun n => gpN a i (kndN a i f u) (a 1 + n) 6) n).2 by omega)]); have ih := ih_31 (by omega); rw [e1] at ih; exact ih _)
        · exfalso; omega
      · refine s_iload (pc := 63) rfl dX7_test_63 ?_
        refine s_goto (pc := 65) 70 dX7_test_65 (by decide) ?_
        refine s_istore (pc := 70) (by decide) rfl dX7_test_70 ?_
        refine s_iload (pc := 72) rfl dX7_test_72 ?_
        refine s_iload (pc := 74) rfl dX7_test_74 ?_
        refine s_icmp_geN (pc := 76) (by omega) (by omega) 84 dX7_test_76 (by decide) (fun c_76 => ?_) (fun c_76 => ?_)
        · exfalso; omega
        · refine s_iload (pc := 79) rfl dX7_test_79 ?_
          refine s_goto (pc := 81) 86 dX7_test_81 (by decide) ?_
          refine s_istore (pc := 86) (by decide) rfl dX7_test_86 ?_
          refine s_iincN (pc := 88) rfl (by decide) rfl dX7_test_88 ?_
          refine s_goto (pc := 91) 31 dX7_test_91 (by decide) ?_
          first | (have e1 : n = (tsN (fun n => gpN a i (kndN a i f u) (a 1 + n) 6) (n + 1)).1 := (by simp only [tsN]; rw [if_pos (show gpN a i (kndN a i f u) (a 1 + n) 6 < (tsN (fun n => gpN a i (kndN a i f u) (a 1 + n) 6) n).2 by omega)]); have e2 : gpN a i (kndN a i f u) (a 1 + n) 6 = (tsN (fun n => gpN a i (kndN a i f u) (a 1 + n) 6) (n + 1)).2 := (by simp only [tsN]; rw [if_pos (show gpN a i (kndN a i f u) (a 1 + n) 6 < (tsN (fun n => gpN a i (kndN a i f u) (a 1 + n) 6) n).2 by omega)]); have ih := ih_31 (by omega); rw [← e1, ← e2] at ih; exact ih _) | (have e1 : tsN (fun n => gpN a i (kndN a i f u) (a 1 + n) 6) (n + 1) = tsN (fun n => gpN a i (kndN a i f u) (a 1 + n) 6) n := (by simp only [tsN]; rw [if_neg (show ¬ gpN a i (kndN a i f u) (a 1 + n) 6 < (tsN (fun n => gpN a i (kndN a i f u) (a 1 + n) 6) n).2 by omega)]); have ih := ih_31 (by omega); rw [e1] at ih; exact ih _)
  · exfalso; omega
