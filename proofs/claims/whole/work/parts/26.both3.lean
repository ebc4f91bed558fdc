def thr (z : Nat → Int32) : Nat → Bool := fun s => decide (¬ z s = -1)
def cntV (a : Nat → Nat) (z1 z2 z3 : Nat → Int32) (w : Nat) : Int32 := match w with
  | 0 => nI (a 0)
  | 1 => nI (a 1)
  | 2 => nI (a 3)
  | 3 => nI (a 4)
  | 4 => nI (a 5)
  | 5 => nI (a 6)
  | 6 => nI (sumU (a 0) (fun i => sh a i 7))
  | 7 => nI (cnt (a 0) (fun i => decide (sh a i 0 = 1 ∨ sh a i 0 = 4)))
  | 8 => nI (cnt 6 (thr z1))
  | 9 => nI (cnt 4 (thr z2))
  | _ => nI (cnt 3 (thr z3))
theorem Sz.ge {z : Int32} {n : Nat} (h : Sz z n) : 0 ≤ z ↔ ¬ z = -1 := by
  obtain ⟨hn, rfl | ⟨rfl, rfl⟩⟩ := h
  · exact ⟨fun _ => nI_ne_m1 (by omega), fun _ => nI_pos' (by omega)⟩
  · exact ⟨fun q => absurd q (by decide), fun q => absurd rfl q⟩
theorem sw_bad {x : Int32} {n : Nat} (hn : n + 1 < 2 ^ 31) (h : x < 0 ∨ nI (n + 1) ≤ x) : x.toInt < 0 ∨ (n : Int) < x.toInt := h.imp (fun q => by rw [Int32.lt_iff_toInt_lt, Int32.toInt_zero] at q; exact q) (fun q => by rw [Int32.le_iff_toInt_le, nI_toInt hn] at q; omega)

set_option maxRecDepth 20000 in
theorem c_X6_counted {w : Nat} {a : Nat → Nat} {h : Hp} (hR : RC a h) (hO : OkA a) (h3 : h.1 23 6 = nI (a 3)) (hm1 : h.1 1 0 = nI 6) (hm2 : h.1 10 0 = nI 4) (hm3 : h.1 17 0 = nI 3) (hw : w < 11) : CT 5 yX6_counted cX6_counted 2 (some .int) [.ref 0, .int (nI w)] h (some (.int (cntV a (h.1 2) (h.1 11) (h.1 18) w))) (h) := by
  obtain ⟨⟨o0, o1, o2, o3, o4, o5, o6⟩, os⟩ := id hO
  have o64 := hO.in64
  have hC := hR.1
  obtain ⟨⟨r0, r1, r2, r4, r5, r6⟩, rs, P, rp, rP, rt⟩ := id hC
  have rg := hR.2
  rcases (show w = 0 ∨ w = 1 ∨ w = 2 ∨ w = 3 ∨ w = 4 ∨ w = 5 ∨ w = 6 ∨ w = 7 ∨ w = 8 ∨ w = 9 ∨ w = 10 by omega) with rfl | rfl | rfl | rfl | rfl | rfl | rfl | rfl | rfl | rfl | rfl
  · refine CT.of (own := RX6) rfl (by decide) (ro_i _) [.ref 0, .int (nI 0)] rfl (Nat.le_of_ble_eq_true rfl) (fun E hp => ?_)
    refine s_iload_n (pc := 0) 1 rfl rfl dX6_counted_0 ?_
    refine s_tabIn (pc := 1) 56 dX6_counted_1 (by decide) (by decide) (off := 55) (by decide) (by decide) ?_
    refine s_aload_n (pc := 56) 0 rfl rfl dX6_counted_56 ?_
    refine s_getr (pc := 57) (b := 23) fl_X6_27 rfl rfl rfl dX6_counted_57 ?_
    refine s_getr (pc := 60) (b := 24) fl_X6_131 rfl rfl rfl dX6_counted_60 ?_
    refine s_getiE (pc := 63) fl_X6_137 rfl rfl r0 dX6_counted_63 ?_
    refine s_iret (pc := 66) dX6_counted_66 (PostE.of hp ?_ ?_)
    · rfl
    · rfl
  · refine CT.of (own := RX6) rfl (by decide) (ro_i _) [.ref 0, .int (nI 1)] rfl (Nat.le_of_ble_eq_true rfl) (fun E hp => ?_)
    refine s_iload_n (pc := 0) 1 rfl rfl dX6_counted_0 ?_
    refine s_tabIn (pc := 1) 67 dX6_counted_1 (by decide) (by decide) (off := 66) (by decide) (by decide) ?_
    refine s_aload_n (pc := 67) 0 rfl rfl dX6_counted_67 ?_
    refine s_getr (pc := 68) (b := 23) fl_X6_27 rfl rfl rfl dX6_counted_68 ?_
    refine s_getiE (pc := 71) fl_X6_174 rfl rfl r1 dX6_counted_71 ?_
    refine s_iret (pc := 74) dX6_counted_74 (PostE.of hp ?_ ?_)
    · rfl
    · rfl
  · refine CT.of (own := RX6) rfl (by decide) (ro_i _) [.ref 0, .int (nI 2)] rfl (Nat.le_of_ble_eq_true rfl) (fun E hp => ?_)
    refine s_iload_n (pc := 0) 1 rfl rfl dX6_counted_0 ?_
    refine s_tabIn (pc := 1) 75 dX6_counted_1 (by decide) (by decide) (off := 74) (by decide) (by decide) ?_
    refine s_aload_n (pc := 75) 0 rfl rfl dX6_counted_75 ?_
    refine s_getr (pc := 76) (b := 23) fl_X6_27 rfl rfl rfl dX6_counted_76 ?_
    refine s_getiE (pc := 79) fl_X6_177 rfl rfl h3 dX6_counted_79 ?_
    refine s_iret (pc := 82) dX6_counted_82 (PostE.of hp ?_ ?_)
    · rfl
    · rfl
  · refine CT.of (own := RX6) rfl (by decide) (ro_i _) [.ref 0, .int (nI 3)] rfl (Nat.le_of_ble_eq_true rfl) (fun E hp => ?_)
    refine s_iload_n (pc := 0) 1 rfl rfl dX6_counted_0 ?_
    refine s_tabIn (pc := 1) 83 dX6_counted_1 (by decide) (by decide) (off := 82) (by decide) (by decide) ?_
    refine s_aload_n (pc := 83) 0 rfl rfl dX6_counted_83 ?_
    refine s_getr (pc := 84) (b := 23) fl_X6_27 rfl rfl rfl dX6_counted_84 ?_
    refine s_getiE (pc := 87) fl_X6_317 rfl rfl r4 dX6_counted_87 ?_
    refine s_iret (pc := 90) dX6_counted_90 (PostE.of hp ?_ ?_)
    · rfl
    · rfl
  · refine CT.of (own := RX6) rfl (by decide) (ro_i _) [.ref 0, .int (nI 4)] rfl (Nat.le_of_ble_eq_true rfl) (fun E hp => ?_)
    refine s_iload_n (pc := 0) 1 rfl rfl dX6_counted_0 ?_
    refine s_tabIn (pc := 1) 91 dX6_counted_1 (by decide) (by decide) (off := 90) (by decide) (by decide) ?_
    refine s_aload_n (pc := 91) 0 rfl rfl dX6_counted_91 ?_
    refine s_getr (pc := 92) (b := 23) fl_X6_27 rfl rfl rfl dX6_counted_92 ?_
    refine s_getiE (pc := 95) fl_X6_190 rfl rfl r5 dX6_counted_95 ?_
    refine s_iret (pc := 98) dX6_counted_98 (PostE.of hp ?_ ?_)
    · rfl
    · rfl
  · refine CT.of (own := RX6) rfl (by decide) (ro_i _) [.ref 0, .int (nI 5)] rfl (Nat.le_of_ble_eq_true rfl) (fun E hp => ?_)
    refine s_iload_n (pc := 0) 1 rfl rfl dX6_counted_0 ?_
    refine s_tabIn (pc := 1) 99 dX6_counted_1 (by decide) (by decide) (off := 98) (by decide) (by decide) ?_
    refine s_aload_n (pc := 99) 0 rfl rfl dX6_counted_99 ?_
    refine s_getr (pc := 100) (b := 23) fl_X6_27 rfl rfl rfl dX6_counted_100 ?_
    refine s_getiE (pc := 103) fl_X6_320 rfl rfl r6 dX6_counted_103 ?_
    refine s_iret (pc := 106) dX6_counted_106 (PostE.of hp ?_ ?_)
    · rfl
    · rfl
  · refine CT.of (own := RX6) rfl (by decide) (ro_i _) [.ref 0, .int (nI 6)] rfl (Nat.le_of_ble_eq_true rfl) (fun E hp => ?_)
    refine s_iload_n (pc := 0) 1 rfl rfl dX6_counted_0 ?_
    refine s_tabIn (pc := 1) 107 dX6_counted_1 (by decide) (by decide) (off := 106) (by decide) (by decide) ?_
    refine s_aload_n (pc := 107) 0 rfl rfl dX6_counted_107 ?_
    refine s_getr (pc := 108) (b := 23) fl_X6_27 rfl rfl rfl dX6_counted_108 ?_
    refine s_cvi0 (pc := 111) (c_X2_allAground hC hO) ml_X6_321 mw_X2_allAground rfl (by decide) (Nat.le_of_ble_eq_true rfl) dX6_counted_111 ?_
    refine s_iret (pc := 114) dX6_counted_114 (PostE.of hp ?_ ?_)
    · rfl
    · rfl
  · refine CT.of (own := RX6) rfl (by decide) (ro_i _) [.ref 0, .int (nI 7)] rfl (Nat.le_of_ble_eq_true rfl) (fun E hp => ?_)
    refine s_iload_n (pc := 0) 1 rfl rfl dX6_counted_0 ?_
    refine s_tabIn (pc := 1) 115 dX6_counted_1 (by decide) (by decide) (off := 114) (by decide) (by decide) ?_
    refine s_aload_n (pc := 115) 0 rfl rfl dX6_counted_115 ?_
    refine s_getr (pc := 116) (b := 23) fl_X6_27 rfl rfl rfl dX6_counted_116 ?_
    refine s_cvi0 (pc := 119) (c_X2_bells hC hO) ml_X6_324 mw_X2_bells rfl (by decide) (Nat.le_of_ble_eq_true rfl) dX6_counted_119 ?_
    refine s_iret (pc := 122) dX6_counted_122 (PostE.of hp ?_ ?_)
    · rfl
    · rfl
  · refine CT.of (own := RX6) rfl (by decide) (ro_i _) [.ref 0, .int (nI 8)] rfl (Nat.le_of_ble_eq_true rfl) (fun E hp => ?_)
    refine s_iload_n (pc := 0) 1 rfl rfl dX6_counted_0 ?_
    refine s_tabIn (pc := 1) 123 dX6_counted_1 (by decide) (by decide) (off := 122) (by decide) (by decide) ?_
    refine s_aload_n (pc := 123) 0 rfl rfl dX6_counted_123 ?_
    refine s_getr (pc := 124) (b := 1) fl_X6_14 rfl rfl rfl dX6_counted_124 ?_
    refine s_cvi0 (pc := 127) (c_X5_howMany_1 hm1) ml_X6_327 mw_X5_howMany rfl (by decide) (Nat.le_of_ble_eq_true rfl) dX6_counted_127 ?_
    refine s_iret (pc := 130) dX6_counted_130 (PostE.of hp ?_ ?_)
    · rfl
    · rfl
  · refine CT.of (own := RX6) rfl (by decide) (ro_i _) [.ref 0, .int (nI 9)] rfl (Nat.le_of_ble_eq_true rfl) (fun E hp => ?_)
    refine s_iload_n (pc := 0) 1 rfl rfl dX6_counted_0 ?_
    refine s_tabIn (pc := 1) 131 dX6_counted_1 (by decide) (by decide) (off := 130) (by decide) (by decide) ?_
    refine s_aload_n (pc := 131) 0 rfl rfl dX6_counted_131 ?_
    refine s_getr (pc := 132) (b := 10) fl_X6_18 rfl rfl rfl dX6_counted_132 ?_
    refine s_cvi0 (pc := 135) (c_X5_howMany_10 hm2) ml_X6_327 mw_X5_howMany rfl (by decide) (Nat.le_of_ble_eq_true rfl) dX6_counted_135 ?_
    refine s_iret (pc := 138) dX6_counted_138 (PostE.of hp ?_ ?_)
    · rfl
    · rfl
  · refine CT.of (own := RX6) rfl (by decide) (ro_i _) [.ref 0, .int (nI 10)] rfl (Nat.le_of_ble_eq_true rfl) (fun E hp => ?_)
    refine s_iload_n (pc := 0) 1 rfl rfl dX6_counted_0 ?_
    refine s_tabOut (pc := 1) 139 dX6_counted_1 (by decide) (by decide) ?_
    refine s_aload_n (pc := 139) 0 rfl rfl dX6_counted_139 ?_
    refine s_getr (pc := 140) (b := 17) fl_X6_21 rfl rfl rfl dX6_counted_140 ?_
    refine s_cvi0 (pc := 143) (c_X5_howMany_17 hm3) ml_X6_327 mw_X5_howMany rfl (by decide) (Nat.le_of_ble_eq_true rfl) dX6_counted_143 ?_
    refine s_iret (pc := 146) dX6_counted_146 (PostE.of hp ?_ ?_)
    · rfl
    · rfl

set_option maxRecDepth 20000 in
theorem c_X6_countB {x : Int32} {h : Hp} (hb : x < 0 ∨ nI 11 ≤ x) : CT 3 yX6_count cX6_count 2 (some .int) [.ref 0, .int x] h (some (.int (-1))) (h) := by
  refine CT.of (own := RX6) rfl (by decide) (ro_i _) [.ref 0, .int x] rfl (Nat.le_of_ble_eq_true rfl) (fun E hp => ?_)
  refine s_iload_n (pc := 0) 1 rfl rfl dX6_count_0 ?_
  refine s_if_lt (pc := 1) 10 dX6_count_1 (by decide) (fun c_1 => ?_) (fun c_1 => ?_)
  · refine s_iconst (pc := 10) (k_im1) dX6_count_10 ?_
    refine s_goto (pc := 11) 19 dX6_count_11 (by decide) ?_
    refine s_iret (pc := 19) dX6_count_19 (PostE.of hp ?_ ?_)
    · rfl
    · rfl
  · refine s_iload_n (pc := 4) 1 rfl rfl dX6_count_4 ?_
    refine s_bipush (pc := 5) (k_b11N) dX6_count_5 ?_
    refine s_icmp_lt (pc := 7) 14 dX6_count_7 (by decide) (fun c_7 => ?_) (fun c_7 => ?_)
    · exact (hb.elim c_1 (fun q => absurd c_7 (Int32.not_lt.mpr q))).elim
    · refine s_iconst (pc := 10) (k_im1) dX6_count_10 ?_
      refine s_goto (pc := 11) 19 dX6_count_11 (by decide) ?_
      refine s_iret (pc := 19) dX6_count_19 (PostE.of hp ?_ ?_)
      · rfl
      · rfl

set_option maxRecDepth 20000 in
theorem c_X6_countO {w : Nat} {a : Nat → Nat} {h : Hp} (hR : RC a h) (hO : OkA a) (h3 : h.1 23 6 = nI (a 3)) (hm1 : h.1 1 0 = nI 6) (hm2 : h.1 10 0 = nI 4) (hm3 : h.1 17 0 = nI 3) (hw : w < 11) : CT 6 yX6_count cX6_count 2 (some .int) [.ref 0, .int (nI w)] h (some (.int (cntV a (h.1 2) (h.1 11) (h.1 18) w))) (h) := by
  refine CT.of (own := RX6) rfl (by decide) (ro_i _) [.ref 0, .int (nI w)] rfl (Nat.le_of_ble_eq_true rfl) (fun E hp => ?_)
  refine s_iload_n (pc := 0) 1 rfl rfl dX6_count_0 ?_
  refine s_if_ltN (pc := 1) (by omega) 10 dX6_count_1 (by decide) ?_
  refine s_iload_n (pc := 4) 1 rfl rfl dX6_count_4 ?_
  refine s_bipush (pc := 5) (k_b11N) dX6_count_5 ?_
  refine s_icmp_ltN (pc := 7) (by omega) (by omega) 14 dX6_count_7 (by decide) (fun c_7 => ?_) (fun c_7 => ?_)
  · refine s_aload_n (pc := 14) 0 rfl rfl dX6_count_14 ?_
    refine s_iload_n (pc := 15) 1 rfl rfl dX6_count_15 ?_
    refine s_cvi1 (pc := 16) (c_X6_counted hR hO h3 hm1 hm2 hm3 hw) ml_X6_294 mw_X6_counted rfl (by decide) (Nat.le_of_ble_eq_true rfl) dX6_count_16 ?_
    refine s_iret (pc := 19) dX6_count_19 (PostE.of hp ?_ ?_)
    · rfl
    · rfl
  · exfalso; omega

set_option maxRecDepth 20000 in
theorem c_X7_countB {x : Int32} {h : Hp} (hb : x < 0 ∨ nI 11 ≤ x) : CT 3 yX7_count cX7_count 4 (some .int) [.ref 50, .int x] h (some (.int (-1))) (h) := by
  refine CT.of (own := RX7) rfl (by decide) (ro_i _) [.ref 50, .int x, .null, .null] rfl (Nat.le_of_ble_eq_true rfl) (fun E hp => ?_)
  refine s_iconst (pc := 0) (k_i0N) dX7_count_0 ?_
  refine s_istore_n (pc := 1) 2 rfl (by decide) rfl dX7_count_1 ?_
  refine s_iload_n (pc := 2) 1 rfl rfl dX7_count_2 ?_
  refine s_tabOut (pc := 3) 271 dX7_count_3 (sw_bad (n := 10) (by decide) hb) (by decide) ?_
  refine s_iconst (pc := 271) (k_im1) dX7_count_271 ?_
  refine s_iret (pc := 272) dX7_count_272 (PostE.of hp ?_ ?_)
  · rfl
  · rfl

set_option maxRecDepth 20000 in
theorem c_X7_countO {w : Nat} {a : Nat → Nat} {h : Hp} (hA : RM a h) (hO : OkA a) {z1 z2 z3 : Nat → Int32} (hz1 : ∀ s, s < 6 → h.1 51 s = z1 s ∧ ∃ n, Sz (z1 s) n) (hz2 : ∀ s, s < 4 → h.1 54 s = z2 s ∧ ∃ n, Sz (z2 s) n) (hz3 : ∀ k, k < 3 → (h.1 59 k = nI 0 ∧ z3 k = -1) ∨ (h.1 59 k = nI 1 ∧ ¬ z3 k = -1)) (hw : w < 11) : CT 3 yX7_count cX7_count 4 (some .int) [.ref 50, .int (nI w)] h (some (.int (cntV a z1 z2 z3 w))) (h) := by
  obtain ⟨⟨o0, o1, o2, o3, o4, o5, o6⟩, os⟩ := id hO
  have o64 := hO.in64
  rcases (show w = 0 ∨ w = 1 ∨ w = 2 ∨ w = 3 ∨ w = 4 ∨ w = 5 ∨ w = 6 ∨ w = 7 ∨ w = 8 ∨ w = 9 ∨ w = 10 by omega) with rfl | rfl | rfl | rfl | rfl | rfl | rfl | rfl | rfl | rfl | rfl
  · refine CT.of (own := RX7) rfl (by decide) (ro_i _) [.ref 50, .int (nI 0), .null, .null] rfl (Nat.le_of_ble_eq_true rfl) (fun E hp => ?_)
    refine s_iconst (pc := 0) (k_i0N) dX7_count_0 ?_
    refine s_istore_n (pc := 1) 2 rfl (by decide) rfl dX7_count_1 ?_
    refine s_iload_n (pc := 2) 1 rfl rfl dX7_count_2 ?_
    refine s_tabIn (pc := 3) 60 dX7_count_3 (by decide) (by decide) (off := 57) (by decide) (by decide) ?_
    refine s_aload_n (pc := 60) 0 rfl rfl dX7_count_60 ?_
    refine s_getr (pc := 61) (b := 56) fl_X7_25 rfl rfl rfl dX7_count_61 ?_
    refine s_iconst (pc := 64) (k_i0N) dX7_count_64 ?_
    refine s_ialdN (pc := 65) (_) rfl rfl (by omega) (hA _ (by omega)) dX7_count_65 ?_
    refine s_iret (pc := 66) dX7_count_66 (PostE.of hp ?_ ?_)
    · rfl
    · rfl
  · refine CT.of (own := RX7) rfl (by decide) (ro_i _) [.ref 50, .int (nI 1), .null, .null] rfl (Nat.le_of_ble_eq_true rfl) (fun E hp => ?_)
    refine s_iconst (pc := 0) (k_i0N) dX7_count_0 ?_
    refine s_istore_n (pc := 1) 2 rfl (by decide) rfl dX7_count_1 ?_
    refine s_iload_n (pc := 2) 1 rfl rfl dX7_count_2 ?_
    refine s_tabIn (pc := 3) 67 dX7_count_3 (by decide) (by decide) (off := 64) (by decide) (by decide) ?_
    refine s_aload_n (pc := 67) 0 rfl rfl dX7_count_67 ?_
    refine s_getr (pc := 68) (b := 56) fl_X7_25 rfl rfl rfl dX7_count_68 ?_
    refine s_iconst (pc := 71) (k_i1N) dX7_count_71 ?_
    refine s_ialdN (pc := 72) (_) rfl rfl (by omega) (hA _ (by omega)) dX7_count_72 ?_
    refine s_iret (pc := 73) dX7_count_73 (PostE.of hp ?_ ?_)
    · rfl
    · rfl
  · refine CT.of (own := RX7) rfl (by decide) (ro_i _) [.ref 50, .int (nI 2), .null, .null] rfl (Nat.le_of_ble_eq_true rfl) (fun E hp => ?_)
    refine s_iconst (pc := 0) (k_i0N) dX7_count_0 ?_
    refine s_istore_n (pc := 1) 2 rfl (by decide) rfl dX7_count_1 ?_
    refine s_iload_n (pc := 2) 1 rfl rfl dX7_count_2 ?_
    refine s_tabIn (pc := 3) 74 dX7_count_3 (by decide) (by decide) (off := 71) (by decide) (by decide) ?_
    refine s_aload_n (pc := 74) 0 rfl rfl dX7_count_74 ?_
    refine s_getr (pc := 75) (b := 56) fl_X7_25 rfl rfl rfl dX7_count_75 ?_
    refine s_iconst (pc := 78) (k_i3N) dX7_count_78 ?_
    refine s_ialdN (pc := 79) (_) rfl rfl (by omega) (hA _ (by omega)) dX7_count_79 ?_
    refine s_iret (pc := 80) dX7_count_80 (PostE.of hp ?_ ?_)
    · rfl
    · rfl
  · refine CT.of (own := RX7) rfl (by decide) (ro_i _) [.ref 50, .int (nI 3), .null, .null] rfl (Nat.le_of_ble_eq_true rfl) (fun E hp => ?_)
    refine s_iconst (pc := 0) (k_i0N) dX7_count_0 ?_
    refine s_istore_n (pc := 1) 2 rfl (by decide) rfl dX7_count_1 ?_
    refine s_iload_n (pc := 2) 1 rfl rfl dX7_count_2 ?_
    refine s_tabIn (pc := 3) 81 dX7_count_3 (by decide) (by decide) (off := 78) (by decide) (by decide) ?_
    refine s_aload_n (pc := 81) 0 rfl rfl dX7_count_81 ?_
    refine s_getr (pc := 82) (b := 56) fl_X7_25 rfl rfl rfl dX7_count_82 ?_
    refine s_iconst (pc := 85) (k_i4N) dX7_count_85 ?_
    refine s_ialdN (pc := 86) (_) rfl rfl (by omega) (hA _ (by omega)) dX7_count_86 ?_
    refine s_iret (pc := 87) dX7_count_87 (PostE.of hp ?_ ?_)
    · rfl
    · rfl
  · refine CT.of (own := RX7) rfl (by decide) (ro_i _) [.ref 50, .int (nI 4), .null, .null] rfl (Nat.le_of_ble_eq_true rfl) (fun E hp => ?_)
    refine s_iconst (pc := 0) (k_i0N) dX7_count_0 ?_
    refine s_istore_n (pc := 1) 2 rfl (by decide) rfl dX7_count_1 ?_
    refine s_iload_n (pc := 2) 1 rfl rfl dX7_count_2 ?_
    refine s_tabIn (pc := 3) 88 dX7_count_3 (by decide) (by decide) (off := 85) (by decide) (by decide) ?_
    refine s_aload_n (pc := 88) 0 rfl rfl dX7_count_88 ?_
    refine s_getr (pc := 89) (b := 56) fl_X7_25 rfl rfl rfl dX7_count_89 ?_
    refine s_iconst (pc := 92) (k_i5N) dX7_count_92 ?_
    refine s_ialdN (pc := 93) (_) rfl rfl (by omega) (hA _ (by omega)) dX7_count_93 ?_
    refine s_iret (pc := 94) dX7_count_94 (PostE.of hp ?_ ?_)
    · rfl
    · rfl
  · refine CT.of (own := RX7) rfl (by decide) (ro_i _) [.ref 50, .int (nI 5), .null, .null] rfl (Nat.le_of_ble_eq_true rfl) (fun E hp => ?_)
    refine s_iconst (pc := 0) (k_i0N) dX7_count_0 ?_
    refine s_istore_n (pc := 1) 2 rfl (by decide) rfl dX7_count_1 ?_
    refine s_iload_n (pc := 2) 1 rfl rfl dX7_count_2 ?_
    refine s_tabIn (pc := 3) 95 dX7_count_3 (by decide) (by decide) (off := 92) (by decide) (by decide) ?_
    refine s_aload_n (pc := 95) 0 rfl rfl dX7_count_95 ?_
    refine s_getr (pc := 96) (b := 56) fl_X7_25 rfl rfl rfl dX7_count_96 ?_
    refine s_bipush (pc := 99) (k_b6N) dX7_count_99 ?_
    refine s_ialdN (pc := 101) (_) rfl rfl (by omega) (hA _ (by omega)) dX7_count_101 ?_
    refine s_iret (pc := 102) dX7_count_102 (PostE.of hp ?_ ?_)
    · rfl
    · rfl
  · refine CT.of (own := RX7) rfl (by decide) (ro_i _) [.ref 50, .int (nI 6), .null, .null] rfl (Nat.le_of_ble_eq_true rfl) (fun E hp => ?_)
    refine s_iconst (pc := 0) (k_i0N) dX7_count_0 ?_
    refine s_istore_n (pc := 1) 2 rfl (by decide) rfl dX7_count_1 ?_
    refine s_iload_n (pc := 2) 1 rfl rfl dX7_count_2 ?_
    refine s_tabIn (pc := 3) 103 dX7_count_3 (by decide) (by decide) (off := 100) (by decide) (by decide) ?_
    refine s_iconst (pc := 103) (k_i0N) dX7_count_103 ?_
    refine s_istore_n (pc := 104) 3 rfl (by decide) rfl dX7_count_104 ?_
    suffices lp_105 : ∀ k, k ≤ a 0 → WW E cX7_count RX7 4 _ 105 [.ref 50, .int (nI 6), .int (nI (sumU k (fun i => sh a i 7))), .int (nI k)] (h) [] from lp_105 (0) (by omega)
    refine lpi (a 0) (fun k hk_k ih_105 => ?_)
    refine s_iload_n (pc := 105) 3 rfl rfl dX7_count_105 ?_
    refine s_aload_n (pc := 106) 0 rfl rfl dX7_count_106 ?_
    refine s_getr (pc := 107) (b := 56) fl_X7_25 rfl rfl rfl dX7_count_107 ?_
    refine s_iconst (pc := 110) (k_i0N) dX7_count_110 ?_
    refine s_ialdN (pc := 111) (_) rfl rfl (by omega) (hA _ (by omega)) dX7_count_111 ?_
    refine s_icmp_geN (pc := 112) (by omega) (by omega) 131 dX7_count_112 (by decide) (fun c_112 => ?_) (fun c_112 => ?_)
    · obtain rfl : k = a 0 := by omega
      refine s_iload_n (pc := 131) 2 rfl rfl dX7_count_131 ?_
      refine s_iret (pc := 132) dX7_count_132 (PostE.of hp ?_ ?_)
      · rfl
      · rfl
    · refine s_iload_n (pc := 115) 2 rfl rfl dX7_count_115 ?_
      refine s_aload_n (pc := 116) 0 rfl rfl dX7_count_116 ?_
      refine s_iload_n (pc := 117) 3 rfl rfl dX7_count_117 ?_
      refine s_bipush (pc := 118) (k_b7N) dX7_count_118 ?_
      refine s_cvi2 (pc := 120) (c_X7_of hA (by omega) (by decide)) ml_X7_126 mw_X7_of rfl (by decide) (Nat.le_of_ble_eq_true rfl) dX7_count_120 ?_
      refine s_iaddN (pc := 123) dX7_count_123 ?_
      refine s_istore_n (pc := 124) 2 rfl (by decide) rfl dX7_count_124 ?_
      refine s_iincN (pc := 125) rfl (by decide) rfl dX7_count_125 ?_
      refine s_goto (pc := 128) 105 dX7_count_128 (by decide) ?_
      exact ih_105 (by omega)
  · refine CT.of (own := RX7) rfl (by decide) (ro_i _) [.ref 50, .int (nI 7), .null, .null] rfl (Nat.le_of_ble_eq_true rfl) (fun E hp => ?_)
    refine s_iconst (pc := 0) (k_i0N) dX7_count_0 ?_
    refine s_istore_n (pc := 1) 2 rfl (by decide) rfl dX7_count_1 ?_
    refine s_iload_n (pc := 2) 1 rfl rfl dX7_count_2 ?_
    refine s_tabIn (pc := 3) 133 dX7_count_3 (by decide) (by decide) (off := 130) (by decide) (by decide) ?_
    refine s_iconst (pc := 133) (k_i0N) dX7_count_133 ?_
    refine s_istore_n (pc := 134) 3 rfl (by decide) rfl dX7_count_134 ?_
    suffices lp_135 : ∀ k, k ≤ a 0 → WW E cX7_count RX7 4 _ 135 [.ref 50, .int (nI 7), .int (nI (cnt k ((fun i => decide (sh a i 0 = 1 ∨ sh a i 0 = 4))))), .int (nI k)] (h) [] from lp_135 (0) (by omega)
    refine lpi (a 0) (fun k hk_k ih_135 => ?_)
    refine s_iload_n (pc := 135) 3 rfl rfl dX7_count_135 ?_
    refine s_aload_n (pc := 136) 0 rfl rfl dX7_count_136 ?_
    refine s_getr (pc := 137) (b := 56) fl_X7_25 rfl rfl rfl dX7_count_137 ?_
    refine s_iconst (pc := 140) (k_i0N) dX7_count_140 ?_
    refine s_ialdN (pc := 141) (_) rfl rfl (by omega) (hA _ (by omega)) dX7_count_141 ?_
    refine s_icmp_geN (pc := 142) (by omega) (by omega) 172 dX7_count_142 (by decide) (fun c_142 => ?_) (fun c_142 => ?_)
    · obtain rfl : k = a 0 := by omega
      refine s_iload_n (pc := 172) 2 rfl rfl dX7_count_172 ?_
      refine s_iret (pc := 173) dX7_count_173 (PostE.of hp ?_ ?_)
      · rfl
      · rfl
    · refine s_iload_n (pc := 145) 2 rfl rfl dX7_count_145 ?_
      refine s_aload_n (pc := 146) 0 rfl rfl dX7_count_146 ?_
      refine s_iload_n (pc := 147) 3 rfl rfl dX7_count_147 ?_
      refine s_iconst (pc := 148) (k_i0N) dX7_count_148 ?_
      refine s_cvi2 (pc := 149) (c_X7_of hA (by omega) (by decide)) ml_X7_126 mw_X7_of rfl (by decide) (Nat.le_of_ble_eq_true rfl) dX7_count_149 ?_
      refine s_iconst (pc := 152) (k_i1N) dX7_count_152 ?_
      refine s_csi2 (pc := 153) (c_X7_isOf (os k (by omega)).1 (by decide)) ml_X7_168 ms_X7_isOf (by decide) (Nat.le_of_ble_eq_true rfl) dX7_count_153 ?_
      refine s_if_eqB (pc := 156) 163 dX7_count_156 (by decide) (fun c_156 => ?_) (fun c_156 => ?_)
      · refine s_iconst (pc := 163) (k_i0N) dX7_count_163 ?_
        refine s_iaddN (pc := 164) dX7_count_164 ?_
        first | rw [cnt_t (p := (fun i => decide (sh a i 0 = 1 ∨ sh a i 0 = 4))) (by simp only [decide_eq_true_eq]; omega)] | rw [cnt_f (p := (fun i => decide (sh a i 0 = 1 ∨ sh a i 0 = 4))) (by simp only [decide_eq_true_eq]; omega)]
        refine s_istore_n (pc := 165) 2 rfl (by decide) rfl dX7_count_165 ?_
        refine s_iincN (pc := 166) rfl (by decide) rfl dX7_count_166 ?_
        refine s_goto (pc := 169) 135 dX7_count_169 (by decide) ?_
        exact ih_135 (by omega)
      · refine s_iconst (pc := 159) (k_i1N) dX7_count_159 ?_
        refine s_goto (pc := 160) 164 dX7_count_160 (by decide) ?_
        refine s_iaddN (pc := 164) dX7_count_164 ?_
        first | rw [cnt_t (p := (fun i => decide (sh a i 0 = 1 ∨ sh a i 0 = 4))) (by simp only [decide_eq_true_eq]; omega)] | rw [cnt_f (p := (fun i => decide (sh a i 0 = 1 ∨ sh a i 0 = 4))) (by simp only [decide_eq_true_eq]; omega)]
        refine s_istore_n (pc := 165) 2 rfl (by decide) rfl dX7_count_165 ?_
        refine s_iincN (pc := 166) rfl (by decide) rfl dX7_count_166 ?_
        refine s_goto (pc := 169) 135 dX7_count_169 (by decide) ?_
        exact ih_135 (by omega)
  · refine CT.of (own := RX7) rfl (by decide) (ro_i _) [.ref 50, .int (nI 8), .null, .null] rfl (Nat.le_of_ble_eq_true rfl) (fun E hp => ?_)
    refine s_iconst (pc := 0) (k_i0N) dX7_count_0 ?_
    refine s_istore_n (pc := 1) 2 rfl (by decide) rfl dX7_count_1 ?_
    refine s_iload_n (pc := 2) 1 rfl rfl dX7_count_2 ?_
    refine s_tabIn (pc := 3) 174 dX7_count_3 (by decide) (by decide) (off := 171) (by decide) (by decide) ?_
    refine s_iconst (pc := 174) (k_i0N) dX7_count_174 ?_
    refine s_istore_n (pc := 175) 3 rfl (by decide) rfl dX7_count_175 ?_
    suffices lp_176 : ∀ k, k ≤ 6 → WW E cX7_count RX7 4 _ 176 [.ref 50, .int (nI 8), .int (nI (cnt k (thr z1))), .int (nI k)] (h) [] from lp_176 (0) (by omega)
    refine lpi (6) (fun k hk_k ih_176 => ?_)
    refine s_iload_n (pc := 176) 3 rfl rfl dX7_count_176 ?_
    refine s_bipush (pc := 177) (k_b6N) dX7_count_177 ?_
    refine s_icmp_geN (pc := 179) (by omega) (by omega) 205 dX7_count_179 (by decide) (fun c_179 => ?_) (fun c_179 => ?_)
    · obtain rfl : k = 6 := by omega
      refine s_iload_n (pc := 205) 2 rfl rfl dX7_count_205 ?_
      refine s_iret (pc := 206) dX7_count_206 (PostE.of hp ?_ ?_)
      · rfl
      · rfl
    · refine s_iload_n (pc := 182) 2 rfl rfl dX7_count_182 ?_
      refine s_aload_n (pc := 183) 0 rfl rfl dX7_count_183 ?_
      refine s_getr (pc := 184) (b := 51) fl_X7_7 rfl rfl rfl dX7_count_184 ?_
      refine s_iload_n (pc := 187) 3 rfl rfl dX7_count_187 ?_
      refine s_ialdE (pc := 188) (_) rfl rfl (by omega) (hz1 k (by omega)).1 dX7_count_188 ?_
      refine s_if_ge (pc := 189) 196 dX7_count_189 (by decide) (fun c_189 => ?_) (fun c_189 => ?_)
      · refine s_iconst (pc := 196) (k_i1N) dX7_count_196 ?_
        refine s_iaddN (pc := 197) dX7_count_197 ?_
        obtain ⟨nn, hnn⟩ := (hz1 k (by omega)).2
        first | rw [cnt_t (p := thr z1) (by simp only [thr, decide_eq_true_eq]; exact hnn.ge.mp c_189)] | rw [cnt_f (p := thr z1) (by simp only [thr, decide_eq_true_eq]; exact fun q => c_189 (hnn.ge.mpr q))]
        refine s_istore_n (pc := 198) 2 rfl (by decide) rfl dX7_count_198 ?_
        refine s_iincN (pc := 199) rfl (by decide) rfl dX7_count_199 ?_
        refine s_goto (pc := 202) 176 dX7_count_202 (by decide) ?_
        exact ih_176 (by omega)
      · refine s_iconst (pc := 192) (k_i0N) dX7_count_192 ?_
        refine s_goto (pc := 193) 197 dX7_count_193 (by decide) ?_
        refine s_iaddN (pc := 197) dX7_count_197 ?_
        obtain ⟨nn, hnn⟩ := (hz1 k (by omega)).2
        first | rw [cnt_t (p := thr z1) (by simp only [thr, decide_eq_true_eq]; exact hnn.ge.mp c_189)] | rw [cnt_f (p := thr z1) (by simp only [thr, decide_eq_true_eq]; exact fun q => c_189 (hnn.ge.mpr q))]
        refine s_istore_n (pc := 198) 2 rfl (by decide) rfl dX7_count_198 ?_
        refine s_iincN (pc := 199) rfl (by decide) rfl dX7_count_199 ?_
        refine s_goto (pc := 202) 176 dX7_count_202 (by decide) ?_
        exact ih_176 (by omega)
  · refine CT.of (own := RX7) rfl (by decide) (ro_i _) [.ref 50, .int (nI 9), .null, .null] rfl (Nat.le_of_ble_eq_true rfl) (fun E hp => ?_)
    refine s_iconst (pc := 0) (k_i0N) dX7_count_0 ?_
    refine s_istore_n (pc := 1) 2 rfl (by decide) rfl dX7_count_1 ?_
    refine s_iload_n (pc := 2) 1 rfl rfl dX7_count_2 ?_
    refine s_tabIn (pc := 3) 207 dX7_count_3 (by decide) (by decide) (off := 204) (by decide) (by decide) ?_
    refine s_iconst (pc := 207) (k_i0N) dX7_count_207 ?_
    refine s_istore_n (pc := 208) 3 rfl (by decide) rfl dX7_count_208 ?_
    suffices lp_209 : ∀ k, k ≤ 4 → WW E cX7_count RX7 4 _ 209 [.ref 50, .int (nI 9), .int (nI (cnt k (thr z2))), .int (nI k)] (h) [] from lp_209 (0) (by omega)
    refine lpi (4) (fun k hk_k ih_209 => ?_)
    refine s_iload_n (pc := 209) 3 rfl rfl dX7_count_209 ?_
    refine s_iconst (pc := 210) (k_i4N) dX7_count_210 ?_
    refine s_icmp_geN (pc := 211) (by omega) (by omega) 237 dX7_count_211 (by decide) (fun c_211 => ?_) (fun c_211 => ?_)
    · obtain rfl : k = 4 := by omega
      refine s_iload_n (pc := 237) 2 rfl rfl dX7_count_237 ?_
      refine s_iret (pc := 238) dX7_count_238 (PostE.of hp ?_ ?_)
      · rfl
      · rfl
    · refine s_iload_n (pc := 214) 2 rfl rfl dX7_count_214 ?_
      refine s_aload_n (pc := 215) 0 rfl rfl dX7_count_215 ?_
      refine s_getr (pc := 216) (b := 54) fl_X7_19 rfl rfl rfl dX7_count_216 ?_
      refine s_iload_n (pc := 219) 3 rfl rfl dX7_count_219 ?_
      refine s_ialdE (pc := 220) (_) rfl rfl (by omega) (hz2 k (by omega)).1 dX7_count_220 ?_
      refine s_if_ge (pc := 221) 228 dX7_count_221 (by decide) (fun c_221 => ?_) (fun c_221 => ?_)
      · refine s_iconst (pc := 228) (k_i1N) dX7_count_228 ?_
        refine s_iaddN (pc := 229) dX7_count_229 ?_
        obtain ⟨nn, hnn⟩ := (hz2 k (by omega)).2
        first | rw [cnt_t (p := thr z2) (by simp only [thr, decide_eq_true_eq]; exact hnn.ge.mp c_221)] | rw [cnt_f (p := thr z2) (by simp only [thr, decide_eq_true_eq]; exact fun q => c_221 (hnn.ge.mpr q))]
        refine s_istore_n (pc := 230) 2 rfl (by decide) rfl dX7_count_230 ?_
        refine s_iincN (pc := 231) rfl (by decide) rfl dX7_count_231 ?_
        refine s_goto (pc := 234) 209 dX7_count_234 (by decide) ?_
        exact ih_209 (by omega)
      · refine s_iconst (pc := 224) (k_i0N) dX7_count_224 ?_
        refine s_goto (pc := 225) 229 dX7_count_225 (by decide) ?_
        refine s_iaddN (pc := 229) dX7_count_229 ?_
        obtain ⟨nn, hnn⟩ := (hz2 k (by omega)).2
        first | rw [cnt_t (p := thr z2) (by simp only [thr, decide_eq_true_eq]; exact hnn.ge.mp c_221)] | rw [cnt_f (p := thr z2) (by simp only [thr, decide_eq_true_eq]; exact fun q => c_221 (hnn.ge.mpr q))]
        refine s_istore_n (pc := 230) 2 rfl (by decide) rfl dX7_count_230 ?_
        refine s_iincN (pc := 231) rfl (by decide) rfl dX7_count_231 ?_
        refine s_goto (pc := 234) 209 dX7_count_234 (by decide) ?_
        exact ih_209 (by omega)
  · refine CT.of (own := RX7) rfl (by decide) (ro_i _) [.ref 50, .int (nI 10), .null, .null] rfl (Nat.le_of_ble_eq_true rfl) (fun E hp => ?_)
    refine s_iconst (pc := 0) (k_i0N) dX7_count_0 ?_
    refine s_istore_n (pc := 1) 2 rfl (by decide) rfl dX7_count_1 ?_
    refine s_iload_n (pc := 2) 1 rfl rfl dX7_count_2 ?_
    refine s_tabIn (pc := 3) 239 dX7_count_3 (by decide) (by decide) (off := 236) (by decide) (by decide) ?_
    refine s_iconst (pc := 239) (k_i0N) dX7_count_239 ?_
    refine s_istore_n (pc := 240) 3 rfl (by decide) rfl dX7_count_240 ?_
    suffices lp_241 : ∀ k, k ≤ 3 → WW E cX7_count RX7 4 _ 241 [.ref 50, .int (nI 10), .int (nI (cnt k (thr z3))), .int (nI k)] (h) [] from lp_241 (0) (by omega)
    refine lpi (3) (fun k hk_k ih_241 => ?_)
    refine s_iload_n (pc := 241) 3 rfl rfl dX7_count_241 ?_
    refine s_iconst (pc := 242) (k_i3N) dX7_count_242 ?_
    refine s_icmp_geN (pc := 243) (by omega) (by omega) 269 dX7_count_243 (by decide) (fun c_243 => ?_) (fun c_243 => ?_)
    · obtain rfl : k = 3 := by omega
      refine s_iload_n (pc := 269) 2 rfl rfl dX7_count_269 ?_
      refine s_iret (pc := 270) dX7_count_270 (PostE.of hp ?_ ?_)
      · rfl
      · rfl
    · refine s_iload_n (pc := 246) 2 rfl rfl dX7_count_246 ?_
      refine s_aload_n (pc := 247) 0 rfl rfl dX7_count_247 ?_
      refine s_getr (pc := 248) (b := 59) fl_X7_34 rfl rfl rfl dX7_count_248 ?_
      refine s_iload_n (pc := 251) 3 rfl rfl dX7_count_251 ?_
      refine s_zald (pc := 252) (_) rfl rfl (by omega) dX7_count_252 ?_
      refine s_if_eq (pc := 253) 260 dX7_count_253 (by decide) (fun c_253 => ?_) (fun c_253 => ?_)
      · refine s_iconst (pc := 260) (k_i0N) dX7_count_260 ?_
        refine s_iaddN (pc := 261) dX7_count_261 ?_
        first | rw [cnt_t (p := thr z3) (by simp only [thr, decide_eq_true_eq]; exact (hz3 k (by omega)).elim (fun q => absurd q.1 c_253) (fun q => q.2))] | rw [cnt_f (p := thr z3) (by simp only [thr, decide_eq_true_eq]; exact (hz3 k (by omega)).elim (fun q z => z q.2) (fun q => absurd (q.1.symm.trans c_253) (by decide)))]
        refine s_istore_n (pc := 262) 2 rfl (by decide) rfl dX7_count_262 ?_
        refine s_iincN (pc := 263) rfl (by decide) rfl dX7_count_263 ?_
        refine s_goto (pc := 266) 241 dX7_count_266 (by decide) ?_
        exact ih_241 (by omega)
      · refine s_iconst (pc := 256) (k_i1N) dX7_count_256 ?_
        refine s_goto (pc := 257) 261 dX7_count_257 (by decide) ?_
        refine s_iaddN (pc := 261) dX7_count_261 ?_
        first | rw [cnt_t (p := thr z3) (by simp only [thr, decide_eq_true_eq]; exact (hz3 k (by omega)).elim (fun q => absurd q.1 c_253) (fun q => q.2))] | rw [cnt_f (p := thr z3) (by simp only [thr, decide_eq_true_eq]; exact (hz3 k (by omega)).elim (fun q z => z q.2) (fun q => absurd (q.1.symm.trans c_253) (by decide)))]
        refine s_istore_n (pc := 262) 2 rfl (by decide) rfl dX7_count_262 ?_
        refine s_iincN (pc := 263) rfl (by decide) rfl dX7_count_263 ?_
        refine s_goto (pc := 266) 241 dX7_count_266 (by decide) ?_
        exact ih_241 (by omega)

set_option maxRecDepth 20000 in
theorem c_X6_digest {a : Nat → Nat} {h : Hp} (hR : RC a h) (hO : OkA a) (h3 : h.1 23 6 = nI (a 3)) (hm1 : h.1 1 0 = nI 6) (hm2 : h.1 10 0 = nI 4) (hm3 : h.1 17 0 = nI 3) {n1 n2 : Nat → Nat} (hs1 : ∀ s, s < 6 → Sz (h.1 2 s) (n1 s)) (hn1 : ∀ s, s < 6 → n1 s ≤ 40) (hs2 : ∀ s, s < 4 → Sz (h.1 11 s) (n2 s)) (hn2 : ∀ s, s < 4 → n2 s ≤ 60) : CT 6 yX6_digest cX6_digest 5 (some .long) [.ref 0] h (some (.long (dgS (h.1 11) n2 (fun s => h.1 (12 + 1 + s)) (dgS (h.1 2) n1 (fun s => h.1 (3 + 1 + s)) (dgI (h.1 18) (dgI (fun k => hasN a (k / 9) (k % 9)) (dgI (cntV a (h.1 2) (h.1 11) (h.1 18)) 17 11) (9 * a 0)) 3) 6) 4))) (h) := by
  obtain ⟨⟨o0, o1, o2, o3, o4, o5, o6⟩, os⟩ := id hO
  have o64 := hO.in64
  have hC := hR.1
  obtain ⟨⟨r0, r1, r2, r4, r5, r6⟩, rs, P, rp, rP, rt⟩ := id hC
  have rg := hR.2
  refine CT.of (own := RX6) rfl (by decide) (ro_l _) [.ref 0, .null, .null, .null, .null] rfl (Nat.le_of_ble_eq_true rfl) (fun E hp => ?_)
  refine s_ldc2 (pc := 0) _ lc_X6_297 dX6_digest_0 ?_
  refine s_lstore_n (pc := 3) 1 rfl (by decide) rfl dX6_digest_3 ?_
  refine s_iconst (pc := 4) (k_i0N) dX6_digest_4 ?_
  refine s_istore_n (pc := 5) 3 rfl (by decide) rfl dX6_digest_5 ?_
  suffices lp_6 : ∀ k, k ≤ 11 → ∀ zz, WW E cX6_digest RX6 5 _ 6 [.ref 0, .long (dgI (cntV a (h.1 2) (h.1 11) (h.1 18)) 17 k), .null, .int (nI k), zz] (h) [] from lp_6 0 (by omega) _
  refine lpi (11) (fun k hk_k ih_6 => ?_)
  intro zz
  refine s_iload_n (pc := 6) 3 rfl rfl dX6_digest_6 ?_
  refine s_bipush (pc := 7) (k_b11N) dX6_digest_7 ?_
  refine s_icmp_geN (pc := 9) (by omega) (by omega) 31 dX6_digest_9 (by decide) (fun c_9 => ?_) (fun c_9 => ?_)
  · refine s_iconst (pc := 31) (k_i0N) dX6_digest_31 ?_
    refine s_istore_n (pc := 32) 3 rfl (by decide) rfl dX6_digest_32 ?_
    obtain rfl : k = 11 := by omega
    suffices lp_33 : ∀ i, i ≤ a 0 → ∀ zz, WW E cX6_digest RX6 5 _ 33 [.ref 0, .long (dgI (fun k => hasN a (k / 9) (k % 9)) (dgI (cntV a (h.1 2) (h.1 11) (h.1 18)) 17 11) (9 * i)), .null, .int (nI i), zz] (h) [] from lp_33 0 (by omega) _
    refine lpi (a 0) (fun i hk_i ih_33 => ?_)
    intro zz
    refine s_iload_n (pc := 33) 3 rfl rfl dX6_digest_33 ?_
    refine s_aload_n (pc := 34) 0 rfl rfl dX6_digest_34 ?_
    refine s_getr (pc := 35) (b := 23) fl_X6_27 rfl rfl rfl dX6_digest_35 ?_
    refine s_getr (pc := 38) (b := 24) fl_X6_131 rfl rfl rfl dX6_digest_38 ?_
    refine s_getiE (pc := 41) fl_X6_137 rfl rfl r0 dX6_digest_41 ?_
    refine s_icmp_geN (pc := 44) (by omega) (by omega) 87 dX6_digest_44 (by decide) (fun c_44 => ?_) (fun c_44 => ?_)
    · refine s_iconst (pc := 87) (k_i0N) dX6_digest_87 ?_
      refine s_istore_n (pc := 88) 3 rfl (by decide) rfl dX6_digest_88 ?_
      obtain rfl : i = a 0 := by omega
      suffices lp_89 : ∀ m, m ≤ 3 → WW E cX6_digest RX6 5 _ 89 [.ref 0, .long (dgI (h.1 18) (dgI (fun k => hasN a (k / 9) (k % 9)) (dgI (cntV a (h.1 2) (h.1 11) (h.1 18)) 17 11) (9 * a 0)) m), .null, .int (nI m), zz] (h) [] from lp_89 0 (by omega)
      refine lpi 3 (fun m hk_m ih_89 => ?_)
      refine s_iload_n (pc := 89) 3 rfl rfl dX6_digest_89 ?_
      refine s_iconst (pc := 90) (k_i3N) dX6_digest_90 ?_
      refine s_icmp_geN (pc := 91) (by omega) (by omega) 117 dX6_digest_91 (by decide) (fun c_91 => ?_) (fun c_91 => ?_)
      · obtain rfl : m = 3 := by omega
        refine s_aload_n (pc := 117) 0 rfl rfl dX6_digest_117 ?_
        refine s_getr (pc := 118) (b := 10) fl_X6_18 rfl rfl rfl dX6_digest_118 ?_
        refine s_aload_n (pc := 121) 0 rfl rfl dX6_digest_121 ?_
        refine s_getr (pc := 122) (b := 1) fl_X6_14 rfl rfl rfl dX6_digest_122 ?_
        refine s_lload_n (pc := 125) 1 rfl rfl dX6_digest_125 ?_
        refine s_cvi1 (pc := 126) (c_X5_digestFrom_1 hm1 hs1 hn1) ml_X6_301 mw_X5_digestFrom rfl (by decide) (Nat.le_of_ble_eq_true rfl) dX6_digest_126 ?_
        refine s_cvi1 (pc := 129) (c_X5_digestFrom_10 hm2 hs2 hn2) ml_X6_301 mw_X5_digestFrom rfl (by decide) (Nat.le_of_ble_eq_true rfl) dX6_digest_129 ?_
        refine s_lret (pc := 132) dX6_digest_132 (PostE.of hp ?_ ?_)
        · rfl
        · rfl
      · refine s_ldc2 (pc := 94) _ lc_X6_299 dX6_digest_94 ?_
        refine s_lload_n (pc := 97) 1 rfl rfl dX6_digest_97 ?_
        refine s_lmul (pc := 98) dX6_digest_98 ?_
        refine s_aload_n (pc := 99) 0 rfl rfl dX6_digest_99 ?_
        refine s_getr (pc := 100) (b := 17) fl_X6_21 rfl rfl rfl dX6_digest_100 ?_
        refine s_getr (pc := 103) (b := 18) fl_X6_121 rfl rfl rfl dX6_digest_103 ?_
        refine s_iload_n (pc := 106) 3 rfl rfl dX6_digest_106 ?_
        refine s_iald (pc := 107) (_) rfl rfl (by omega) dX6_digest_107 ?_
        refine s_i2l (pc := 108) dX6_digest_108 ?_
        refine s_ladd (pc := 109) dX6_digest_109 ?_
        refine s_lstore_n (pc := 110) 1 rfl (by decide) rfl dX6_digest_110 ?_
        refine s_iincN (pc := 111) rfl (by decide) rfl dX6_digest_111 ?_
        refine s_goto (pc := 114) 89 dX6_digest_114 (by decide) ?_
        exact ih_89 (by omega)
    · refine s_iconst (pc := 47) (k_i0N) dX6_digest_47 ?_
      refine s_istore (pc := 48) (by decide) rfl dX6_digest_48 ?_
      suffices lp_50 : ∀ j, j ≤ 9 → WW E cX6_digest RX6 5 _ 50 [.ref 0, .long (dgI (fun k => hasN a (k / 9) (k % 9)) (dgI (cntV a (h.1 2) (h.1 11) (h.1 18)) 17 11) (9 * i + j)), .null, .int (nI i), .int (nI j)] (h) [] from lp_50 0 (by omega)
      refine lpi 9 (fun j hk_j ih_50 => ?_)
      refine s_iload (pc := 50) rfl dX6_digest_50 ?_
      refine s_bipush (pc := 52) (k_b9N) dX6_digest_52 ?_
      refine s_icmp_geN (pc := 54) (by omega) (by omega) 81 dX6_digest_54 (by decide) (fun c_54 => ?_) (fun c_54 => ?_)
      · obtain rfl : j = 9 := by omega
        rw [show 9 * i + 9 = 9 * (i + 1) by omega]
        refine s_iincN (pc := 81) rfl (by decide) rfl dX6_digest_81 ?_
        refine s_goto (pc := 84) 33 dX6_digest_84 (by decide) ?_
        exact ih_33 (by omega) _
      · refine s_ldc2 (pc := 57) _ lc_X6_299 dX6_digest_57 ?_
        refine s_lload_n (pc := 60) 1 rfl rfl dX6_digest_60 ?_
        refine s_lmul (pc := 61) dX6_digest_61 ?_
        refine s_aload_n (pc := 62) 0 rfl rfl dX6_digest_62 ?_
        refine s_getr (pc := 63) (b := 23) fl_X6_27 rfl rfl rfl dX6_digest_63 ?_
        refine s_iload_n (pc := 66) 3 rfl rfl dX6_digest_66 ?_
        refine s_iload (pc := 67) rfl dX6_digest_67 ?_
        refine s_cvi2 (pc := 69) (c_X2_fact hR hO (by omega) (by omega)) ml_X6_143 mw_X2_fact rfl (by decide) (Nat.le_of_ble_eq_true rfl) dX6_digest_69 ?_
        refine s_i2l (pc := 72) dX6_digest_72 ?_
        refine s_ladd (pc := 73) dX6_digest_73 ?_
        refine s_lstore_n (pc := 74) 1 rfl (by decide) rfl dX6_digest_74 ?_
        refine s_iincN (pc := 75) rfl (by decide) rfl dX6_digest_75 ?_
        refine s_goto (pc := 78) 50 dX6_digest_78 (by decide) ?_
        have eh : hasN a i j = (fun k => hasN a (k / 9) (k % 9)) (9 * i + j) := by show _ = hasN a ((9 * i + j) / 9) ((9 * i + j) % 9); rw [show (9 * i + j) / 9 = i by omega, show (9 * i + j) % 9 = j by omega]
        rw [eh]
        exact ih_50 (by omega)
  · refine s_ldc2 (pc := 12) _ lc_X6_299 dX6_digest_12 ?_
    refine s_lload_n (pc := 15) 1 rfl rfl dX6_digest_15 ?_
    refine s_lmul (pc := 16) dX6_digest_16 ?_
    refine s_aload_n (pc := 17) 0 rfl rfl dX6_digest_17 ?_
    refine s_iload_n (pc := 18) 3 rfl rfl dX6_digest_18 ?_
    refine s_cvi1 (pc := 19) (c_X6_counted hR hO h3 hm1 hm2 hm3 (by omega)) ml_X6_294 mw_X6_counted rfl (by decide) (Nat.le_of_ble_eq_true rfl) dX6_digest_19 ?_
    refine s_i2l (pc := 22) dX6_digest_22 ?_
    refine s_ladd (pc := 23) dX6_digest_23 ?_
    refine s_lstore_n (pc := 24) 1 rfl (by decide) rfl dX6_digest_24 ?_
    refine s_iincN (pc := 25) rfl (by decide) rfl dX6_digest_25 ?_
    refine s_goto (pc := 28) 6 dX6_digest_28 (by decide) ?_
    exact ih_6 (by omega) _

set_option maxRecDepth 20000 in
theorem c_X7_digest {a : Nat → Nat} {h : Hp} (hA : RM a h) (hO : OkA a) {z1 z2 z3 : Nat → Int32} (hz1 : ∀ s, s < 6 → h.1 51 s = z1 s ∧ ∃ n, Sz (z1 s) n) (hz2 : ∀ s, s < 4 → h.1 54 s = z2 s ∧ ∃ n, Sz (z2 s) n) (hz3 : ∀ k, k < 3 → (h.1 59 k = nI 0 ∧ z3 k = -1) ∨ (h.1 59 k = nI 1 ∧ ¬ z3 k = -1)) {p1 p2 : Nat → Nat → Int32} {n1 n2 : Nat → Nat} (hs1 : ∀ s, s < 6 → Sz (z1 s) (n1 s)) (hn1 : ∀ s, s < 6 → n1 s ≤ 40) (hs2 : ∀ s, s < 4 → Sz (z2 s) (n2 s)) (hn2 : ∀ s, s < 4 → n2 s ≤ 60) (hp1 : ∀ s j, s < 6 → j < 40 → h.1 52 (40 * s + j) = p1 s j) (hp2 : ∀ s j, s < 4 → j < 60 → h.1 55 (60 * s + j) = p2 s j) (hk3 : ∀ k, k < 3 → ¬ z3 k = -1 → h.1 58 (215 * k + 3) = z3 k) : CT 6 yX7_digest cX7_digest 5 (some .long) [.ref 50] h (some (.long (dgS (z2) n2 (p2) (dgS (z1) n1 (p1) (dgI (z3) (dgI (fun k => hasN a (k / 9) (k % 9)) (dgI (cntV a z1 z2 z3) 17 11) (9 * a 0)) 3) 6) 4))) (h) := by
  obtain ⟨⟨o0, o1, o2, o3, o4, o5, o6⟩, os⟩ := id hO
  have o64 := hO.in64
  refine CT.of (own := RX7) rfl (by decide) (ro_l _) [.ref 50, .null, .null, .null, .null] rfl (Nat.le_of_ble_eq_true rfl) (fun E hp => ?_)
  refine s_ldc2 (pc := 0) _ lc_X7_267 dX7_digest_0 ?_
  refine s_lstore_n (pc := 3) 1 rfl (by decide) rfl dX7_digest_3 ?_
  refine s_iconst (pc := 4) (k_i0N) dX7_digest_4 ?_
  refine s_istore_n (pc := 5) 3 rfl (by decide) rfl dX7_digest_5 ?_
  suffices lp_6 : ∀ k, k ≤ 11 → ∀ zz, WW E cX7_digest RX7 5 _ 6 [.ref 50, .long (dgI (cntV a z1 z2 z3) 17 k), .null, .int (nI k), zz] (h) [] from lp_6 0 (by omega) _
  refine lpi (11) (fun k hk_k ih_6 => ?_)
  intro zz
  refine s_iload_n (pc := 6) 3 rfl rfl dX7_digest_6 ?_
  refine s_bipush (pc := 7) (k_b11N) dX7_digest_7 ?_
  refine s_icmp_geN (pc := 9) (by omega) (by omega) 31 dX7_digest_9 (by decide) (fun c_9 => ?_) (fun c_9 => ?_)
  · refine s_iconst (pc := 31) (k_i0N) dX7_digest_31 ?_
    refine s_istore_n (pc := 32) 3 rfl (by decide) rfl dX7_digest_32 ?_
    obtain rfl : k = 11 := by omega
    suffices lp_33 : ∀ i, i ≤ 9 * a 0 → WW E cX7_digest RX7 5 _ 33 [.ref 50, .long (dgI (fun k => hasN a (k / 9) (k % 9)) (dgI (cntV a z1 z2 z3) 17 11) i), .null, .int (nI i), zz] (h) [] from lp_33 0 (by omega)
    refine lpi (9 * a 0) (fun i hk_i ih_33 => ?_)
    refine s_iload_n (pc := 33) 3 rfl rfl dX7_digest_33 ?_
    refine s_bipush (pc := 34) (k_b9N) dX7_digest_34 ?_
    refine s_aload_n (pc := 36) 0 rfl rfl dX7_digest_36 ?_
    refine s_getr (pc := 37) (b := 56) fl_X7_25 rfl rfl rfl dX7_digest_37 ?_
    refine s_iconst (pc := 40) (k_i0N) dX7_digest_40 ?_
    refine s_ialdN (pc := 41) (_) rfl rfl (by omega) (hA _ (by omega)) dX7_digest_41 ?_
    refine s_imulN (pc := 42) dX7_digest_42 ?_
    refine s_icmp_geN (pc := 43) (by omega) (by omega) 72 dX7_digest_43 (by decide) (fun c_43 => ?_) (fun c_43 => ?_)
    · refine s_iconst (pc := 72) (k_i0N) dX7_digest_72 ?_
      refine s_istore_n (pc := 73) 3 rfl (by decide) rfl dX7_digest_73 ?_
      obtain rfl : i = 9 * a 0 := by omega
      suffices lp_74 : ∀ m, m ≤ 3 → WW E cX7_digest RX7 5 _ 74 [.ref 50, .long (dgI z3 (dgI (fun k => hasN a (k / 9) (k % 9)) (dgI (cntV a z1 z2 z3) 17 11) (9 * a 0)) m), .null, .int (nI m), zz] (h) [] from lp_74 0 (by omega)
      refine lpi 3 (fun m hk_m ih_74 => ?_)
      refine s_iload_n (pc := 74) 3 rfl rfl dX7_digest_74 ?_
      refine s_iconst (pc := 75) (k_i3N) dX7_digest_75 ?_
      refine s_icmp_geN (pc := 76) (by omega) (by omega) 118 dX7_digest_76 (by decide) (fun c_76 => ?_) (fun c_76 => ?_)
      · refine s_iconst (pc := 118) (k_i0N) dX7_digest_118 ?_
        refine s_istore_n (pc := 119) 3 rfl (by decide) rfl dX7_digest_119 ?_
        obtain rfl : m = 3 := by omega
        suffices lp_120 : ∀ s, s ≤ 6 → ∀ zz, WW E cX7_digest RX7 5 _ 120 [.ref 50, .long (dgS z1 n1 p1 (dgI (z3) (dgI (fun k => hasN a (k / 9) (k % 9)) (dgI (cntV a z1 z2 z3) 17 11) (9 * a 0)) 3) s), .null, .int (nI s), zz] (h) [] from lp_120 0 (by omega) _
        refine lpi 6 (fun s hk_s ih_120 => ?_)
        intro zz
        refine s_iload_n (pc := 120) 3 rfl rfl dX7_digest_120 ?_
        refine s_bipush (pc := 121) (k_b6N) dX7_digest_121 ?_
        refine s_icmp_geN (pc := 123) (by omega) (by omega) 186 dX7_digest_123 (by decide) (fun c_123 => ?_) (fun c_123 => ?_)
        · refine s_iconst (pc := 186) (k_i0N) dX7_digest_186 ?_
          refine s_istore_n (pc := 187) 3 rfl (by decide) rfl dX7_digest_187 ?_
          obtain rfl : s = 6 := by omega
          suffices lp_188 : ∀ t, t ≤ 4 → ∀ zz, WW E cX7_digest RX7 5 _ 188 [.ref 50, .long (dgS z2 n2 p2 (dgS (z1) n1 (p1) (dgI (z3) (dgI (fun k => hasN a (k / 9) (k % 9)) (dgI (cntV a z1 z2 z3) 17 11) (9 * a 0)) 3) 6) t), .null, .int (nI t), zz] (h) [] from lp_188 0 (by omega) _
          refine lpi 4 (fun t hk_t ih_188 => ?_)
          intro zz
          refine s_iload_n (pc := 188) 3 rfl rfl dX7_digest_188 ?_
          refine s_iconst (pc := 189) (k_i4N) dX7_digest_189 ?_
          refine s_icmp_geN (pc := 190) (by omega) (by omega) 253 dX7_digest_190 (by decide) (fun c_190 => ?_) (fun c_190 => ?_)
          · obtain rfl : t = 4 := by omega
            refine s_lload_n (pc := 253) 1 rfl rfl dX7_digest_253 ?_
            refine s_lret (pc := 254) dX7_digest_254 (PostE.of hp ?_ ?_)
            · rfl
            · rfl
          · refine s_ldc2 (pc := 193) _ lc_X7_269 dX7_digest_193 ?_
            refine s_lload_n (pc := 196) 1 rfl rfl dX7_digest_196 ?_
            refine s_lmul (pc := 197) dX7_digest_197 ?_
            refine s_aload_n (pc := 198) 0 rfl rfl dX7_digest_198 ?_
            refine s_getr (pc := 199) (b := 54) fl_X7_19 rfl rfl rfl dX7_digest_199 ?_
            refine s_iload_n (pc := 202) 3 rfl rfl dX7_digest_202 ?_
            refine s_ialdE (pc := 203) (_) rfl rfl (by omega) (hz2 t (by omega)).1 dX7_digest_203 ?_
            refine s_i2l (pc := 204) dX7_digest_204 ?_
            refine s_ladd (pc := 205) dX7_digest_205 ?_
            refine s_lstore_n (pc := 206) 1 rfl (by decide) rfl dX7_digest_206 ?_
            refine s_iconst (pc := 207) (k_i0N) dX7_digest_207 ?_
            refine s_istore (pc := 208) (by decide) rfl dX7_digest_208 ?_
            have q42 := hn2 t (by omega)
            suffices lp_210 : ∀ j, j ≤ n2 t → WW E cX7_digest RX7 5 _ 210 [.ref 50, .long (dgI (p2 t) (31 * dgS z2 n2 p2 (dgS (z1) n1 (p1) (dgI (z3) (dgI (fun k => hasN a (k / 9) (k % 9)) (dgI (cntV a z1 z2 z3) 17 11) (9 * a 0)) 3) 6) t + (z2 t).toInt64) j), .null, .int (nI t), .int (nI j)] (h) [] from lp_210 0 (by omega)
            refine lpi (n2 t) (fun j hk_j ih_210 => ?_)
            refine s_iload (pc := 210) rfl dX7_digest_210 ?_
            refine s_aload_n (pc := 212) 0 rfl rfl dX7_digest_212 ?_
            refine s_getr (pc := 213) (b := 54) fl_X7_19 rfl rfl rfl dX7_digest_213 ?_
            refine s_iload_n (pc := 216) 3 rfl rfl dX7_digest_216 ?_
            refine s_ialdE (pc := 217) (_) rfl rfl (by omega) (hz2 t (by omega)).1 dX7_digest_217 ?_
            refine s_icmp_ge (pc := 218) 247 dX7_digest_218 (by decide) (fun c_218 => ?_) (fun c_218 => ?_)
            · obtain rfl : j = n2 t := by have := ((hs2 t (by omega)).le (by omega)).mp c_218; omega
              refine s_iincN (pc := 247) rfl (by decide) rfl dX7_digest_247 ?_
              refine s_goto (pc := 250) 188 dX7_digest_250 (by decide) ?_
              exact ih_188 (by omega) _
            · have q41 : j < n2 t := Nat.lt_of_not_le (fun z => c_218 (((hs2 t (by omega)).le (by omega)).mpr z))
              refine s_ldc2 (pc := 221) _ lc_X7_269 dX7_digest_221 ?_
              refine s_lload_n (pc := 224) 1 rfl rfl dX7_digest_224 ?_
              refine s_lmul (pc := 225) dX7_digest_225 ?_
              refine s_aload_n (pc := 226) 0 rfl rfl dX7_digest_226 ?_
              refine s_getr (pc := 227) (b := 55) fl_X7_22 rfl rfl rfl dX7_digest_227 ?_
              refine s_bipush (pc := 230) (k_b60N) dX7_digest_230 ?_
              refine s_iload_n (pc := 232) 3 rfl rfl dX7_digest_232 ?_
              refine s_imulN (pc := 233) dX7_digest_233 ?_
              refine s_iload (pc := 234) rfl dX7_digest_234 ?_
              refine s_iaddN (pc := 236) dX7_digest_236 ?_
              refine s_ialdE (pc := 237) (_) rfl rfl (by omega) (hp2 t j (by omega) (by omega)) dX7_digest_237 ?_
              refine s_i2l (pc := 238) dX7_digest_238 ?_
              refine s_ladd (pc := 239) dX7_digest_239 ?_
              refine s_lstore_n (pc := 240) 1 rfl (by decide) rfl dX7_digest_240 ?_
              refine s_iincN (pc := 241) rfl (by decide) rfl dX7_digest_241 ?_
              refine s_goto (pc := 244) 210 dX7_digest_244 (by decide) ?_
              exact ih_210 (by omega)
        · refine s_ldc2 (pc := 126) _ lc_X7_269 dX7_digest_126 ?_
          refine s_lload_n (pc := 129) 1 rfl rfl dX7_digest_129 ?_
          refine s_lmul (pc := 130) dX7_digest_130 ?_
          refine s_aload_n (pc := 131) 0 rfl rfl dX7_digest_131 ?_
          refine s_getr (pc := 132) (b := 51) fl_X7_7 rfl rfl rfl dX7_digest_132 ?_
          refine s_iload_n (pc := 135) 3 rfl rfl dX7_digest_135 ?_
          refine s_ialdE (pc := 136) (_) rfl rfl (by omega) (hz1 s (by omega)).1 dX7_digest_136 ?_
          refine s_i2l (pc := 137) dX7_digest_137 ?_
          refine s_ladd (pc := 138) dX7_digest_138 ?_
          refine s_lstore_n (pc := 139) 1 rfl (by decide) rfl dX7_digest_139 ?_
          refine s_iconst (pc := 140) (k_i0N) dX7_digest_140 ?_
          refine s_istore (pc := 141) (by decide) rfl dX7_digest_141 ?_
          have q42 := hn1 s (by omega)
          suffices lp_143 : ∀ j, j ≤ n1 s → WW E cX7_digest RX7 5 _ 143 [.ref 50, .long (dgI (p1 s) (31 * dgS z1 n1 p1 (dgI (z3) (dgI (fun k => hasN a (k / 9) (k % 9)) (dgI (cntV a z1 z2 z3) 17 11) (9 * a 0)) 3) s + (z1 s).toInt64) j), .null, .int (nI s), .int (nI j)] (h) [] from lp_143 0 (by omega)
          refine lpi (n1 s) (fun j hk_j ih_143 => ?_)
          refine s_iload (pc := 143) rfl dX7_digest_143 ?_
          refine s_aload_n (pc := 145) 0 rfl rfl dX7_digest_145 ?_
          refine s_getr (pc := 146) (b := 51) fl_X7_7 rfl rfl rfl dX7_digest_146 ?_
          refine s_iload_n (pc := 149) 3 rfl rfl dX7_digest_149 ?_
          refine s_ialdE (pc := 150) (_) rfl rfl (by omega) (hz1 s (by omega)).1 dX7_digest_150 ?_
          refine s_icmp_ge (pc := 151) 180 dX7_digest_151 (by decide) (fun c_151 => ?_) (fun c_151 => ?_)
          · obtain rfl : j = n1 s := by have := ((hs1 s (by omega)).le (by omega)).mp c_151; omega
            refine s_iincN (pc := 180) rfl (by decide) rfl dX7_digest_180 ?_
            refine s_goto (pc := 183) 120 dX7_digest_183 (by decide) ?_
            exact ih_120 (by omega) _
          · have q41 : j < n1 s := Nat.lt_of_not_le (fun z => c_151 (((hs1 s (by omega)).le (by omega)).mpr z))
            refine s_ldc2 (pc := 154) _ lc_X7_269 dX7_digest_154 ?_
            refine s_lload_n (pc := 157) 1 rfl rfl dX7_digest_157 ?_
            refine s_lmul (pc := 158) dX7_digest_158 ?_
            refine s_aload_n (pc := 159) 0 rfl rfl dX7_digest_159 ?_
            refine s_getr (pc := 160) (b := 52) fl_X7_13 rfl rfl rfl dX7_digest_160 ?_
            refine s_bipush (pc := 163) (k_b40N) dX7_digest_163 ?_
            refine s_iload_n (pc := 165) 3 rfl rfl dX7_digest_165 ?_
            refine s_imulN (pc := 166) dX7_digest_166 ?_
            refine s_iload (pc := 167) rfl dX7_digest_167 ?_
            refine s_iaddN (pc := 169) dX7_digest_169 ?_
            refine s_ialdE (pc := 170) (_) rfl rfl (by omega) (hp1 s j (by omega) (by omega)) dX7_digest_170 ?_
            refine s_i2l (pc := 171) dX7_digest_171 ?_
            refine s_ladd (pc := 172) dX7_digest_172 ?_
            refine s_lstore_n (pc := 173) 1 rfl (by decide) rfl dX7_digest_173 ?_
            refine s_iincN (pc := 174) rfl (by decide) rfl dX7_digest_174 ?_
            refine s_goto (pc := 177) 143 dX7_digest_177 (by decide) ?_
            exact ih_143 (by omega)
      · refine s_ldc2 (pc := 79) _ lc_X7_269 dX7_digest_79 ?_
        refine s_lload_n (pc := 82) 1 rfl rfl dX7_digest_82 ?_
        refine s_lmul (pc := 83) dX7_digest_83 ?_
        refine s_aload_n (pc := 84) 0 rfl rfl dX7_digest_84 ?_
        refine s_getr (pc := 85) (b := 59) fl_X7_34 rfl rfl rfl dX7_digest_85 ?_
        refine s_iload_n (pc := 88) 3 rfl rfl dX7_digest_88 ?_
        refine s_zald (pc := 89) (_) rfl rfl (by omega) dX7_digest_89 ?_
        refine s_if_eq (pc := 90) 108 dX7_digest_90 (by decide) (fun c_90 => ?_) (fun c_90 => ?_)
        · have cz : z3 m = -1 := (hz3 m (by omega)).elim (fun q => q.2) (fun q => absurd (q.1.symm.trans c_90) (by decide))
          refine s_iconst (pc := 108) (k_im1) dX7_digest_108 ?_
          refine WW.top cz.symm ?_
          refine s_i2l (pc := 109) dX7_digest_109 ?_
          refine s_ladd (pc := 110) dX7_digest_110 ?_
          refine s_lstore_n (pc := 111) 1 rfl (by decide) rfl dX7_digest_111 ?_
          refine s_iincN (pc := 112) rfl (by decide) rfl dX7_digest_112 ?_
          refine s_goto (pc := 115) 74 dX7_digest_115 (by decide) ?_
          exact ih_74 (by omega)
        · have cz : ¬ z3 m = -1 := (hz3 m (by omega)).elim (fun q => absurd q.1 c_90) (fun q => q.2)
          refine s_aload_n (pc := 93) 0 rfl rfl dX7_digest_93 ?_
          refine s_getr (pc := 94) (b := 58) fl_X7_31 rfl rfl rfl dX7_digest_94 ?_
          refine s_sipush (pc := 97) (k_s215N) dX7_digest_97 ?_
          refine s_iload_n (pc := 100) 3 rfl rfl dX7_digest_100 ?_
          refine s_imulN (pc := 101) dX7_digest_101 ?_
          refine s_iconst (pc := 102) (k_i3N) dX7_digest_102 ?_
          refine s_iaddN (pc := 103) dX7_digest_103 ?_
          refine s_ialdE (pc := 104) (_) rfl rfl (by omega) (hk3 m (by omega) cz) dX7_digest_104 ?_
          refine s_goto (pc := 105) 109 dX7_digest_105 (by decide) ?_
          refine s_i2l (pc := 109) dX7_digest_109 ?_
          refine s_ladd (pc := 110) dX7_digest_110 ?_
          refine s_lstore_n (pc := 111) 1 rfl (by decide) rfl dX7_digest_111 ?_
          refine s_iincN (pc := 112) rfl (by decide) rfl dX7_digest_112 ?_
          refine s_goto (pc := 115) 74 dX7_digest_115 (by decide) ?_
          exact ih_74 (by omega)
    · refine s_ldc2 (pc := 46) _ lc_X7_269 dX7_digest_46 ?_
      refine s_lload_n (pc := 49) 1 rfl rfl dX7_digest_49 ?_
      refine s_lmul (pc := 50) dX7_digest_50 ?_
      refine s_aload_n (pc := 51) 0 rfl rfl dX7_digest_51 ?_
      refine s_iload_n (pc := 52) 3 rfl rfl dX7_digest_52 ?_
      refine s_bipush (pc := 53) (k_b9N) dX7_digest_53 ?_
      refine s_idivN (pc := 55) (by omega) (by omega) (by omega) dX7_digest_55 ?_
      refine s_iload_n (pc := 56) 3 rfl rfl dX7_digest_56 ?_
      refine s_bipush (pc := 57) (k_b9N) dX7_digest_57 ?_
      refine s_iremN (pc := 59) (by omega) (by omega) (by omega) dX7_digest_59 ?_
      refine s_cvi2 (pc := 60) (c_X7_shipHas hA hO (by omega) (by omega)) ml_X7_162 mw_X7_shipHas rfl (by decide) (Nat.le_of_ble_eq_true rfl) dX7_digest_60 ?_
      refine s_i2l (pc := 63) dX7_digest_63 ?_
      refine s_ladd (pc := 64) dX7_digest_64 ?_
      refine s_lstore_n (pc := 65) 1 rfl (by decide) rfl dX7_digest_65 ?_
      refine s_iincN (pc := 66) rfl (by decide) rfl dX7_digest_66 ?_
      refine s_goto (pc := 69) 33 dX7_digest_69 (by decide) ?_
      exact ih_33 (by omega)
  · refine s_ldc2 (pc := 12) _ lc_X7_269 dX7_digest_12 ?_
    refine s_lload_n (pc := 15) 1 rfl rfl dX7_digest_15 ?_
    refine s_lmul (pc := 16) dX7_digest_16 ?_
    refine s_aload_n (pc := 17) 0 rfl rfl dX7_digest_17 ?_
    refine s_iload_n (pc := 18) 3 rfl rfl dX7_digest_18 ?_
    refine s_cvi1 (pc := 19) (c_X7_countO hA hO hz1 hz2 hz3 (by omega)) ml_X7_271 mw_X7_count rfl (by decide) (Nat.le_of_ble_eq_true rfl) dX7_digest_19 ?_
    refine s_i2l (pc := 22) dX7_digest_22 ?_
    refine s_ladd (pc := 23) dX7_digest_23 ?_
    refine s_lstore_n (pc := 24) 1 rfl (by decide) rfl dX7_digest_24 ?_
    refine s_iincN (pc := 25) rfl (by decide) rfl dX7_digest_25 ?_
    refine s_goto (pc := 28) 6 dX7_digest_28 (by decide) ?_
    exact ih_6 (by omega) _
