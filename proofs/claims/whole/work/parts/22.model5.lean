theorem bin_i {p : Prop} [Decidable p] (h : ¬ bi p = nI 0) : p := by
  by_cases q : p
  · exact q
  · rw [bi_f q] at h; exact absurd rfl h
/-! deeds of the reference -/

set_option maxRecDepth 20000 in
theorem c_X7_moves0B {s : Int32} {a : Nat → Nat} {h : Hp} (hB : OkB a) (hb : s < 0 ∨ nI (a 0) ≤ s) : CT 3 yX7_moves cX7_moves 3 (some .int) [.ref 50, .int s, .int (nI 0)] (wN h a) (some (.int (-1))) (wN h a) := by
  have hO := hB.1
  have hA := RMw h a
  obtain ⟨⟨o0, o1, o2, o3, o4, o5, o6⟩, os⟩ := id hO
  have o64 := hO.in64
  refine CT.of (own := RX7) rfl (by decide) (ro_i _) [.ref 50, .int s, .int (nI 0)] rfl (Nat.le_of_ble_eq_true rfl) (fun E hp => ?_)
  refine s_aload_n (pc := 0) 0 rfl rfl dX7_moves_0 ?_
  refine s_iload_n (pc := 1) 1 rfl rfl dX7_moves_1 ?_
  refine s_cvi1 (pc := 2) (c_X7_isShipF (RMw h a) hO.1.1 hb) ml_X7_159 mw_X7_isShip rfl (by decide) (Nat.le_of_ble_eq_true rfl) dX7_moves_2 ?_
  refine s_if_neF (pc := 5) 10 dX7_moves_5 (by decide) ?_
  refine s_iconst (pc := 8) (k_im1) dX7_moves_8 ?_
  refine s_iret (pc := 9) dX7_moves_9 (PostE.of hp ?_ ?_)
  · rfl
  · rfl

set_option maxRecDepth 20000 in
theorem c_X7_moves0S {i : Nat} {a : Nat → Nat} {h : Hp} (hB : OkB a) (hi : i < a 0) (hs : (a 5).testBit i = true) : CT 6 yX7_moves cX7_moves 3 (some .int) [.ref 50, .int (nI i), .int (nI 0)] (wN h a) (some (.int (-4))) (wN h a) := by
  have hO := hB.1
  have hA := RMw h a
  obtain ⟨⟨o0, o1, o2, o3, o4, o5, o6⟩, os⟩ := id hO
  have o64 := hO.in64
  have sl := shift_le a i (a 5)
  refine CT.of (own := RX7) rfl (by decide) (ro_i _) [.ref 50, .int (nI i), .int (nI 0)] rfl (Nat.le_of_ble_eq_true rfl) (fun E hp => ?_)
  refine s_aload_n (pc := 0) 0 rfl rfl dX7_moves_0 ?_
  refine s_iload_n (pc := 1) 1 rfl rfl dX7_moves_1 ?_
  refine s_cvi1 (pc := 2) (c_X7_isShipT (RMw h a) hO.1.1 hi) ml_X7_159 mw_X7_isShip rfl (by decide) (Nat.le_of_ble_eq_true rfl) dX7_moves_2 ?_
  refine s_if_neT (pc := 5) 10 dX7_moves_5 (by decide) ?_
  refine s_aload_n (pc := 10) 0 rfl rfl dX7_moves_10 ?_
  refine s_getr (pc := 11) (b := 56) fl_X7_25 rfl rfl rfl dX7_moves_11 ?_
  refine s_iconst (pc := 14) (k_i5N) dX7_moves_14 ?_
  refine s_ialdN (pc := 15) (_) rfl rfl (by omega) (RMw _ _ _ (by omega)) dX7_moves_15 ?_
  refine s_iload_n (pc := 16) 1 rfl rfl dX7_moves_16 ?_
  refine s_csi2 (pc := 17) (c_X7_has (by omega) (by omega)) ml_X7_146 ms_X7_has (by decide) (Nat.le_of_ble_eq_true rfl) dX7_moves_17 ?_
  refine s_iload_n (pc := 20) 2 rfl rfl dX7_moves_20 ?_
  refine s_icmp_eq (pc := 21) 27 dX7_moves_21 (by decide) (fun c_21 => ?_) (fun c_21 => ?_)
  · exact absurd c_21 (fun q => bi_out q hs)
  · refine s_bipush (pc := 24) (k_bm4) dX7_moves_24 ?_
    refine s_iret (pc := 26) dX7_moves_26 (PostE.of hp ?_ ?_)
    · rfl
    · rfl

set_option maxRecDepth 20000 in
theorem c_X7_moves0P {i : Nat} {a : Nat → Nat} {h : Hp} (hB : OkB a) (hi : i < a 0) (hs : ¬ (a 5).testBit i = true) (hp4 : ¬ 1 + shiftN a i (a 5) ≤ a 4) : CT 6 yX7_moves cX7_moves 3 (some .int) [.ref 50, .int (nI i), .int (nI 0)] (wN h a) (some (.int (-6))) (wN h a) := by
  have hO := hB.1
  have hA := RMw h a
  obtain ⟨⟨o0, o1, o2, o3, o4, o5, o6⟩, os⟩ := id hO
  have o64 := hO.in64
  have sl := shift_le a i (a 5)
  refine CT.of (own := RX7) rfl (by decide) (ro_i _) [.ref 50, .int (nI i), .int (nI 0)] rfl (Nat.le_of_ble_eq_true rfl) (fun E hp => ?_)
  refine s_aload_n (pc := 0) 0 rfl rfl dX7_moves_0 ?_
  refine s_iload_n (pc := 1) 1 rfl rfl dX7_moves_1 ?_
  refine s_cvi1 (pc := 2) (c_X7_isShipT (RMw h a) hO.1.1 hi) ml_X7_159 mw_X7_isShip rfl (by decide) (Nat.le_of_ble_eq_true rfl) dX7_moves_2 ?_
  refine s_if_neT (pc := 5) 10 dX7_moves_5 (by decide) ?_
  refine s_aload_n (pc := 10) 0 rfl rfl dX7_moves_10 ?_
  refine s_getr (pc := 11) (b := 56) fl_X7_25 rfl rfl rfl dX7_moves_11 ?_
  refine s_iconst (pc := 14) (k_i5N) dX7_moves_14 ?_
  refine s_ialdN (pc := 15) (_) rfl rfl (by omega) (RMw _ _ _ (by omega)) dX7_moves_15 ?_
  refine s_iload_n (pc := 16) 1 rfl rfl dX7_moves_16 ?_
  refine s_csi2 (pc := 17) (c_X7_has (by omega) (by omega)) ml_X7_146 ms_X7_has (by decide) (Nat.le_of_ble_eq_true rfl) dX7_moves_17 ?_
  refine s_iload_n (pc := 20) 2 rfl rfl dX7_moves_20 ?_
  refine s_icmp_eq (pc := 21) 27 dX7_moves_21 (by decide) (fun c_21 => ?_) (fun c_21 => ?_)
  · refine s_aload_n (pc := 27) 0 rfl rfl dX7_moves_27 ?_
    refine s_iload_n (pc := 28) 1 rfl rfl dX7_moves_28 ?_
    refine s_aload_n (pc := 29) 0 rfl rfl dX7_moves_29 ?_
    refine s_getr (pc := 30) (b := 56) fl_X7_25 rfl rfl rfl dX7_moves_30 ?_
    refine s_iconst (pc := 33) (k_i5N) dX7_moves_33 ?_
    refine s_ialdN (pc := 34) (_) rfl rfl (by omega) (RMw _ _ _ (by omega)) dX7_moves_34 ?_
    refine s_cvi2 (pc := 35) (c_X7_shiftedBy (RMw h a) hO hi o5 o64) ml_X7_174 mw_X7_shiftedBy rfl (by decide) (Nat.le_of_ble_eq_true rfl) dX7_moves_35 ?_
    refine s_iconst (pc := 38) (k_i1N) dX7_moves_38 ?_
    refine s_iaddN (pc := 39) dX7_moves_39 ?_
    refine s_aload_n (pc := 40) 0 rfl rfl dX7_moves_40 ?_
    refine s_getr (pc := 41) (b := 56) fl_X7_25 rfl rfl rfl dX7_moves_41 ?_
    refine s_iconst (pc := 44) (k_i4N) dX7_moves_44 ?_
    refine s_ialdN (pc := 45) (_) rfl rfl (by omega) (RMw _ _ _ (by omega)) dX7_moves_45 ?_
    refine s_icmp_leN (pc := 46) (by omega) (by omega) 52 dX7_moves_46 (by decide) (fun c_46 => ?_) (fun c_46 => ?_)
    · exfalso; omega
    · refine s_bipush (pc := 49) (k_bm6) dX7_moves_49 ?_
      refine s_iret (pc := 51) dX7_moves_51 (PostE.of hp ?_ ?_)
      · rfl
      · rfl
  · exact absurd (show bi ((a 5).testBit i = true) = nI 0 from bi_f hs) c_21

set_option maxRecDepth 20000 in
theorem c_X7_moves0F {i : Nat} {a : Nat → Nat} {h : Hp} (hB : OkB a) (hi : i < a 0) (hs : ¬ (a 5).testBit i = true) (hp4 : 1 + shiftN a i (a 5) ≤ a 4) (h3 : a 3 = 40) : CT 6 yX7_moves cX7_moves 3 (some .int) [.ref 50, .int (nI i), .int (nI 0)] (wN h a) (some (.int (-2))) (wN h a) := by
  have hO := hB.1
  have hA := RMw h a
  obtain ⟨⟨o0, o1, o2, o3, o4, o5, o6⟩, os⟩ := id hO
  have o64 := hO.in64
  have sl := shift_le a i (a 5)
  refine CT.of (own := RX7) rfl (by decide) (ro_i _) [.ref 50, .int (nI i), .int (nI 0)] rfl (Nat.le_of_ble_eq_true rfl) (fun E hp => ?_)
  refine s_aload_n (pc := 0) 0 rfl rfl dX7_moves_0 ?_
  refine s_iload_n (pc := 1) 1 rfl rfl dX7_moves_1 ?_
  refine s_cvi1 (pc := 2) (c_X7_isShipT (RMw h a) hO.1.1 hi) ml_X7_159 mw_X7_isShip rfl (by decide) (Nat.le_of_ble_eq_true rfl) dX7_moves_2 ?_
  refine s_if_neT (pc := 5) 10 dX7_moves_5 (by decide) ?_
  refine s_aload_n (pc := 10) 0 rfl rfl dX7_moves_10 ?_
  refine s_getr (pc := 11) (b := 56) fl_X7_25 rfl rfl rfl dX7_moves_11 ?_
  refine s_iconst (pc := 14) (k_i5N) dX7_moves_14 ?_
  refine s_ialdN (pc := 15) (_) rfl rfl (by omega) (RMw _ _ _ (by omega)) dX7_moves_15 ?_
  refine s_iload_n (pc := 16) 1 rfl rfl dX7_moves_16 ?_
  refine s_csi2 (pc := 17) (c_X7_has (by omega) (by omega)) ml_X7_146 ms_X7_has (by decide) (Nat.le_of_ble_eq_true rfl) dX7_moves_17 ?_
  refine s_iload_n (pc := 20) 2 rfl rfl dX7_moves_20 ?_
  refine s_icmp_eq (pc := 21) 27 dX7_moves_21 (by decide) (fun c_21 => ?_) (fun c_21 => ?_)
  · refine s_aload_n (pc := 27) 0 rfl rfl dX7_moves_27 ?_
    refine s_iload_n (pc := 28) 1 rfl rfl dX7_moves_28 ?_
    refine s_aload_n (pc := 29) 0 rfl rfl dX7_moves_29 ?_
    refine s_getr (pc := 30) (b := 56) fl_X7_25 rfl rfl rfl dX7_moves_30 ?_
    refine s_iconst (pc := 33) (k_i5N) dX7_moves_33 ?_
    refine s_ialdN (pc := 34) (_) rfl rfl (by omega) (RMw _ _ _ (by omega)) dX7_moves_34 ?_
    refine s_cvi2 (pc := 35) (c_X7_shiftedBy (RMw h a) hO hi o5 o64) ml_X7_174 mw_X7_shiftedBy rfl (by decide) (Nat.le_of_ble_eq_true rfl) dX7_moves_35 ?_
    refine s_iconst (pc := 38) (k_i1N) dX7_moves_38 ?_
    refine s_iaddN (pc := 39) dX7_moves_39 ?_
    refine s_aload_n (pc := 40) 0 rfl rfl dX7_moves_40 ?_
    refine s_getr (pc := 41) (b := 56) fl_X7_25 rfl rfl rfl dX7_moves_41 ?_
    refine s_iconst (pc := 44) (k_i4N) dX7_moves_44 ?_
    refine s_ialdN (pc := 45) (_) rfl rfl (by omega) (RMw _ _ _ (by omega)) dX7_moves_45 ?_
    refine s_icmp_leN (pc := 46) (by omega) (by omega) 52 dX7_moves_46 (by decide) (fun c_46 => ?_) (fun c_46 => ?_)
    · refine s_aload_n (pc := 52) 0 rfl rfl dX7_moves_52 ?_
      refine s_getr (pc := 53) (b := 56) fl_X7_25 rfl rfl rfl dX7_moves_53 ?_
      refine s_iconst (pc := 56) (k_i3N) dX7_moves_56 ?_
      refine s_ialdN (pc := 57) (_) rfl rfl (by omega) (RMw _ _ _ (by omega)) dX7_moves_57 ?_
      refine s_bipush (pc := 58) (k_b40N) dX7_moves_58 ?_
      refine s_icmp_neN (pc := 60) (by omega) (by omega) 68 dX7_moves_60 (by decide) (fun c_60 => ?_) (fun c_60 => ?_)
      · exfalso; omega
      · refine s_bipush (pc := 63) (k_bm2) dX7_moves_63 ?_
        refine s_goto (pc := 65) 73 dX7_moves_65 (by decide) ?_
        refine s_iret (pc := 73) dX7_moves_73 (PostE.of hp ?_ ?_)
        · rfl
        · rfl
    · exfalso; omega
  · exact absurd (show bi ((a 5).testBit i = true) = nI 0 from bi_f hs) c_21

set_option maxRecDepth 20000 in
theorem c_X7_moves0O {i : Nat} {a : Nat → Nat} {h : Hp} (hB : OkB a) (hi : i < a 0) (hs : ¬ (a 5).testBit i = true) (hp4 : 1 + shiftN a i (a 5) ≤ a 4) (h3 : a 3 < 40) : CT 7 yX7_moves cX7_moves 3 (some .int) [.ref 50, .int (nI i), .int (nI 0)] (wN h a) (some (.int (nI (shiftN a i (a 5))))) (wN h (goesN a i)) := by
  have hO := hB.1
  have hA := RMw h a
  obtain ⟨⟨o0, o1, o2, o3, o4, o5, o6⟩, os⟩ := id hO
  have o64 := hO.in64
  have sl := shift_le a i (a 5)
  refine CT.of (own := RX7) rfl (by decide) (ro_i _) [.ref 50, .int (nI i), .int (nI 0)] rfl (Nat.le_of_ble_eq_true rfl) (fun E hp => ?_)
  refine s_aload_n (pc := 0) 0 rfl rfl dX7_moves_0 ?_
  refine s_iload_n (pc := 1) 1 rfl rfl dX7_moves_1 ?_
  refine s_cvi1 (pc := 2) (c_X7_isShipT (RMw h a) hO.1.1 hi) ml_X7_159 mw_X7_isShip rfl (by decide) (Nat.le_of_ble_eq_true rfl) dX7_moves_2 ?_
  refine s_if_neT (pc := 5) 10 dX7_moves_5 (by decide) ?_
  refine s_aload_n (pc := 10) 0 rfl rfl dX7_moves_10 ?_
  refine s_getr (pc := 11) (b := 56) fl_X7_25 rfl rfl rfl dX7_moves_11 ?_
  refine s_iconst (pc := 14) (k_i5N) dX7_moves_14 ?_
  refine s_ialdN (pc := 15) (_) rfl rfl (by omega) (RMw _ _ _ (by omega)) dX7_moves_15 ?_
  refine s_iload_n (pc := 16) 1 rfl rfl dX7_moves_16 ?_
  refine s_csi2 (pc := 17) (c_X7_has (by omega) (by omega)) ml_X7_146 ms_X7_has (by decide) (Nat.le_of_ble_eq_true rfl) dX7_moves_17 ?_
  refine s_iload_n (pc := 20) 2 rfl rfl dX7_moves_20 ?_
  refine s_icmp_eq (pc := 21) 27 dX7_moves_21 (by decide) (fun c_21 => ?_) (fun c_21 => ?_)
  · refine s_aload_n (pc := 27) 0 rfl rfl dX7_moves_27 ?_
    refine s_iload_n (pc := 28) 1 rfl rfl dX7_moves_28 ?_
    refine s_aload_n (pc := 29) 0 rfl rfl dX7_moves_29 ?_
    refine s_getr (pc := 30) (b := 56) fl_X7_25 rfl rfl rfl dX7_moves_30 ?_
    refine s_iconst (pc := 33) (k_i5N) dX7_moves_33 ?_
    refine s_ialdN (pc := 34) (_) rfl rfl (by omega) (RMw _ _ _ (by omega)) dX7_moves_34 ?_
    refine s_cvi2 (pc := 35) (c_X7_shiftedBy (RMw h a) hO hi o5 o64) ml_X7_174 mw_X7_shiftedBy rfl (by decide) (Nat.le_of_ble_eq_true rfl) dX7_moves_35 ?_
    refine s_iconst (pc := 38) (k_i1N) dX7_moves_38 ?_
    refine s_iaddN (pc := 39) dX7_moves_39 ?_
    refine s_aload_n (pc := 40) 0 rfl rfl dX7_moves_40 ?_
    refine s_getr (pc := 41) (b := 56) fl_X7_25 rfl rfl rfl dX7_moves_41 ?_
    refine s_iconst (pc := 44) (k_i4N) dX7_moves_44 ?_
    refine s_ialdN (pc := 45) (_) rfl rfl (by omega) (RMw _ _ _ (by omega)) dX7_moves_45 ?_
    refine s_icmp_leN (pc := 46) (by omega) (by omega) 52 dX7_moves_46 (by decide) (fun c_46 => ?_) (fun c_46 => ?_)
    · refine s_aload_n (pc := 52) 0 rfl rfl dX7_moves_52 ?_
      refine s_getr (pc := 53) (b := 56) fl_X7_25 rfl rfl rfl dX7_moves_53 ?_
      refine s_iconst (pc := 56) (k_i3N) dX7_moves_56 ?_
      refine s_ialdN (pc := 57) (_) rfl rfl (by omega) (RMw _ _ _ (by omega)) dX7_moves_57 ?_
      refine s_bipush (pc := 58) (k_b40N) dX7_moves_58 ?_
      refine s_icmp_neN (pc := 60) (by omega) (by omega) 68 dX7_moves_60 (by decide) (fun c_60 => ?_) (fun c_60 => ?_)
      · refine s_aload_n (pc := 68) 0 rfl rfl dX7_moves_68 ?_
        refine s_iload_n (pc := 69) 1 rfl rfl dX7_moves_69 ?_
        refine s_cvi1 (pc := 70) (c_X7_goes hO hi h3 (by omega)) ml_X7_181 mw_X7_goes rfl (by decide) (Nat.le_of_ble_eq_true rfl) dX7_moves_70 ?_
        refine s_iret (pc := 73) dX7_moves_73 (PostE.of hp ?_ ?_)
        · rfl
        · rfl
      · exfalso; omega
    · exfalso; omega
  · exact absurd (show bi ((a 5).testBit i = true) = nI 0 from bi_f hs) c_21

set_option maxRecDepth 20000 in
theorem c_X7_comeB {s : Int32} {a : Nat → Nat} {h : Hp} (hB : OkB a) (hb : s < 0 ∨ nI (a 0) ≤ s) : CT 4 yX7_come cX7_come 2 (some .int) [.ref 50, .int s] (wN h a) (some (.int (-1))) (wN h a) := by
  refine CT.of (own := RX7) rfl (by decide) (ro_i _) [.ref 50, .int s] rfl (Nat.le_of_ble_eq_true rfl) (fun E hp => ?_)
  refine s_aload_n (pc := 0) 0 rfl rfl dX7_come_0 ?_
  refine s_iload_n (pc := 1) 1 rfl rfl dX7_come_1 ?_
  refine s_iconst (pc := 2) (k_i0N) dX7_come_2 ?_
  refine s_cvi2 (pc := 3) (c_X7_moves0B hB hb) ml_X7_184 mw_X7_moves rfl (by decide) (Nat.le_of_ble_eq_true rfl) dX7_come_3 ?_
  refine s_iret (pc := 6) dX7_come_6 (PostE.of hp ?_ ?_)
  · rfl
  · rfl

set_option maxRecDepth 20000 in
theorem c_X7_comeS {i : Nat} {a : Nat → Nat} {h : Hp} (hB : OkB a) (hi : i < a 0) (hs : (a 5).testBit i = true) : CT 7 yX7_come cX7_come 2 (some .int) [.ref 50, .int (nI i)] (wN h a) (some (.int (-4))) (wN h a) := by
  refine CT.of (own := RX7) rfl (by decide) (ro_i _) [.ref 50, .int (nI i)] rfl (Nat.le_of_ble_eq_true rfl) (fun E hp => ?_)
  refine s_aload_n (pc := 0) 0 rfl rfl dX7_come_0 ?_
  refine s_iload_n (pc := 1) 1 rfl rfl dX7_come_1 ?_
  refine s_iconst (pc := 2) (k_i0N) dX7_come_2 ?_
  refine s_cvi2 (pc := 3) (c_X7_moves0S hB hi hs) ml_X7_184 mw_X7_moves rfl (by decide) (Nat.le_of_ble_eq_true rfl) dX7_come_3 ?_
  refine s_iret (pc := 6) dX7_come_6 (PostE.of hp ?_ ?_)
  · rfl
  · rfl

set_option maxRecDepth 20000 in
theorem c_X7_comeP {i : Nat} {a : Nat → Nat} {h : Hp} (hB : OkB a) (hi : i < a 0) (hs : ¬ (a 5).testBit i = true) (hp4 : ¬ 1 + shiftN a i (a 5) ≤ a 4) : CT 7 yX7_come cX7_come 2 (some .int) [.ref 50, .int (nI i)] (wN h a) (some (.int (-6))) (wN h a) := by
  refine CT.of (own := RX7) rfl (by decide) (ro_i _) [.ref 50, .int (nI i)] rfl (Nat.le_of_ble_eq_true rfl) (fun E hp => ?_)
  refine s_aload_n (pc := 0) 0 rfl rfl dX7_come_0 ?_
  refine s_iload_n (pc := 1) 1 rfl rfl dX7_come_1 ?_
  refine s_iconst (pc := 2) (k_i0N) dX7_come_2 ?_
  refine s_cvi2 (pc := 3) (c_X7_moves0P hB hi hs hp4) ml_X7_184 mw_X7_moves rfl (by decide) (Nat.le_of_ble_eq_true rfl) dX7_come_3 ?_
  refine s_iret (pc := 6) dX7_come_6 (PostE.of hp ?_ ?_)
  · rfl
  · rfl

set_option maxRecDepth 20000 in
theorem c_X7_comeF {i : Nat} {a : Nat → Nat} {h : Hp} (hB : OkB a) (hi : i < a 0) (hs : ¬ (a 5).testBit i = true) (hp4 : 1 + shiftN a i (a 5) ≤ a 4) (h3 : a 3 = 40) : CT 7 yX7_come cX7_come 2 (some .int) [.ref 50, .int (nI i)] (wN h a) (some (.int (-2))) (wN h a) := by
  refine CT.of (own := RX7) rfl (by decide) (ro_i _) [.ref 50, .int (nI i)] rfl (Nat.le_of_ble_eq_true rfl) (fun E hp => ?_)
  refine s_aload_n (pc := 0) 0 rfl rfl dX7_come_0 ?_
  refine s_iload_n (pc := 1) 1 rfl rfl dX7_come_1 ?_
  refine s_iconst (pc := 2) (k_i0N) dX7_come_2 ?_
  refine s_cvi2 (pc := 3) (c_X7_moves0F hB hi hs hp4 h3) ml_X7_184 mw_X7_moves rfl (by decide) (Nat.le_of_ble_eq_true rfl) dX7_come_3 ?_
  refine s_iret (pc := 6) dX7_come_6 (PostE.of hp ?_ ?_)
  · rfl
  · rfl

set_option maxRecDepth 20000 in
theorem c_X7_comeO {i : Nat} {a : Nat → Nat} {h : Hp} (hB : OkB a) (hi : i < a 0) (hs : ¬ (a 5).testBit i = true) (hp4 : 1 + shiftN a i (a 5) ≤ a 4) (h3 : a 3 < 40) : CT 8 yX7_come cX7_come 2 (some .int) [.ref 50, .int (nI i)] (wN h a) (some (.int (nI (shiftN a i (a 5))))) (wN h (goesN a i)) := by
  refine CT.of (own := RX7) rfl (by decide) (ro_i _) [.ref 50, .int (nI i)] rfl (Nat.le_of_ble_eq_true rfl) (fun E hp => ?_)
  refine s_aload_n (pc := 0) 0 rfl rfl dX7_come_0 ?_
  refine s_iload_n (pc := 1) 1 rfl rfl dX7_come_1 ?_
  refine s_iconst (pc := 2) (k_i0N) dX7_come_2 ?_
  refine s_cvi2 (pc := 3) (c_X7_moves0O hB hi hs hp4 h3) ml_X7_184 mw_X7_moves rfl (by decide) (Nat.le_of_ble_eq_true rfl) dX7_come_3 ?_
  refine s_iret (pc := 6) dX7_come_6 (PostE.of hp ?_ ?_)
  · rfl
  · rfl

set_option maxRecDepth 20000 in
theorem c_X7_moves1B {s : Int32} {a : Nat → Nat} {h : Hp} (hB : OkB a) (hb : s < 0 ∨ nI (a 0) ≤ s) : CT 3 yX7_moves cX7_moves 3 (some .int) [.ref 50, .int s, .int (nI 1)] (wN h a) (some (.int (-1))) (wN h a) := by
  have hO := hB.1
  have hA := RMw h a
  obtain ⟨⟨o0, o1, o2, o3, o4, o5, o6⟩, os⟩ := id hO
  have o64 := hO.in64
  refine CT.of (own := RX7) rfl (by decide) (ro_i _) [.ref 50, .int s, .int (nI 1)] rfl (Nat.le_of_ble_eq_true rfl) (fun E hp => ?_)
  refine s_aload_n (pc := 0) 0 rfl rfl dX7_moves_0 ?_
  refine s_iload_n (pc := 1) 1 rfl rfl dX7_moves_1 ?_
  refine s_cvi1 (pc := 2) (c_X7_isShipF (RMw h a) hO.1.1 hb) ml_X7_159 mw_X7_isShip rfl (by decide) (Nat.le_of_ble_eq_true rfl) dX7_moves_2 ?_
  refine s_if_neF (pc := 5) 10 dX7_moves_5 (by decide) ?_
  refine s_iconst (pc := 8) (k_im1) dX7_moves_8 ?_
  refine s_iret (pc := 9) dX7_moves_9 (PostE.of hp ?_ ?_)
  · rfl
  · rfl

set_option maxRecDepth 20000 in
theorem c_X7_moves1S {i : Nat} {a : Nat → Nat} {h : Hp} (hB : OkB a) (hi : i < a 0) (hs : ¬ (a 5).testBit i = true) : CT 6 yX7_moves cX7_moves 3 (some .int) [.ref 50, .int (nI i), .int (nI 1)] (wN h a) (some (.int (-4))) (wN h a) := by
  have hO := hB.1
  have hA := RMw h a
  obtain ⟨⟨o0, o1, o2, o3, o4, o5, o6⟩, os⟩ := id hO
  have o64 := hO.in64
  have sl := shift_le a i (a 5)
  refine CT.of (own := RX7) rfl (by decide) (ro_i _) [.ref 50, .int (nI i), .int (nI 1)] rfl (Nat.le_of_ble_eq_true rfl) (fun E hp => ?_)
  refine s_aload_n (pc := 0) 0 rfl rfl dX7_moves_0 ?_
  refine s_iload_n (pc := 1) 1 rfl rfl dX7_moves_1 ?_
  refine s_cvi1 (pc := 2) (c_X7_isShipT (RMw h a) hO.1.1 hi) ml_X7_159 mw_X7_isShip rfl (by decide) (Nat.le_of_ble_eq_true rfl) dX7_moves_2 ?_
  refine s_if_neT (pc := 5) 10 dX7_moves_5 (by decide) ?_
  refine s_aload_n (pc := 10) 0 rfl rfl dX7_moves_10 ?_
  refine s_getr (pc := 11) (b := 56) fl_X7_25 rfl rfl rfl dX7_moves_11 ?_
  refine s_iconst (pc := 14) (k_i5N) dX7_moves_14 ?_
  refine s_ialdN (pc := 15) (_) rfl rfl (by omega) (RMw _ _ _ (by omega)) dX7_moves_15 ?_
  refine s_iload_n (pc := 16) 1 rfl rfl dX7_moves_16 ?_
  refine s_csi2 (pc := 17) (c_X7_has (by omega) (by omega)) ml_X7_146 ms_X7_has (by decide) (Nat.le_of_ble_eq_true rfl) dX7_moves_17 ?_
  refine s_iload_n (pc := 20) 2 rfl rfl dX7_moves_20 ?_
  refine s_icmp_eq (pc := 21) 27 dX7_moves_21 (by decide) (fun c_21 => ?_) (fun c_21 => ?_)
  · exact absurd c_21 (fun q => hs (bi_in q))
  · refine s_bipush (pc := 24) (k_bm4) dX7_moves_24 ?_
    refine s_iret (pc := 26) dX7_moves_26 (PostE.of hp ?_ ?_)
    · rfl
    · rfl

set_option maxRecDepth 20000 in
theorem c_X7_moves1P {i : Nat} {a : Nat → Nat} {h : Hp} (hB : OkB a) (hi : i < a 0) (hs : (a 5).testBit i = true) (hp4 : ¬ 1 + shiftN a i (a 5) ≤ a 4) : CT 6 yX7_moves cX7_moves 3 (some .int) [.ref 50, .int (nI i), .int (nI 1)] (wN h a) (some (.int (-6))) (wN h a) := by
  have hO := hB.1
  have hA := RMw h a
  obtain ⟨⟨o0, o1, o2, o3, o4, o5, o6⟩, os⟩ := id hO
  have o64 := hO.in64
  have sl := shift_le a i (a 5)
  refine CT.of (own := RX7) rfl (by decide) (ro_i _) [.ref 50, .int (nI i), .int (nI 1)] rfl (Nat.le_of_ble_eq_true rfl) (fun E hp => ?_)
  refine s_aload_n (pc := 0) 0 rfl rfl dX7_moves_0 ?_
  refine s_iload_n (pc := 1) 1 rfl rfl dX7_moves_1 ?_
  refine s_cvi1 (pc := 2) (c_X7_isShipT (RMw h a) hO.1.1 hi) ml_X7_159 mw_X7_isShip rfl (by decide) (Nat.le_of_ble_eq_true rfl) dX7_moves_2 ?_
  refine s_if_neT (pc := 5) 10 dX7_moves_5 (by decide) ?_
  refine s_aload_n (pc := 10) 0 rfl rfl dX7_moves_10 ?_
  refine s_getr (pc := 11) (b := 56) fl_X7_25 rfl rfl rfl dX7_moves_11 ?_
  refine s_iconst (pc := 14) (k_i5N) dX7_moves_14 ?_
  refine s_ialdN (pc := 15) (_) rfl rfl (by omega) (RMw _ _ _ (by omega)) dX7_moves_15 ?_
  refine s_iload_n (pc := 16) 1 rfl rfl dX7_moves_16 ?_
  refine s_csi2 (pc := 17) (c_X7_has (by omega) (by omega)) ml_X7_146 ms_X7_has (by decide) (Nat.le_of_ble_eq_true rfl) dX7_moves_17 ?_
  refine s_iload_n (pc := 20) 2 rfl rfl dX7_moves_20 ?_
  refine s_icmp_eq (pc := 21) 27 dX7_moves_21 (by decide) (fun c_21 => ?_) (fun c_21 => ?_)
  · refine s_aload_n (pc := 27) 0 rfl rfl dX7_moves_27 ?_
    refine s_iload_n (pc := 28) 1 rfl rfl dX7_moves_28 ?_
    refine s_aload_n (pc := 29) 0 rfl rfl dX7_moves_29 ?_
    refine s_getr (pc := 30) (b := 56) fl_X7_25 rfl rfl rfl dX7_moves_30 ?_
    refine s_iconst (pc := 33) (k_i5N) dX7_moves_33 ?_
    refine s_ialdN (pc := 34) (_) rfl rfl (by omega) (RMw _ _ _ (by omega)) dX7_moves_34 ?_
    refine s_cvi2 (pc := 35) (c_X7_shiftedBy (RMw h a) hO hi o5 o64) ml_X7_174 mw_X7_shiftedBy rfl (by decide) (Nat.le_of_ble_eq_true rfl) dX7_moves_35 ?_
    refine s_iconst (pc := 38) (k_i1N) dX7_moves_38 ?_
    refine s_iaddN (pc := 39) dX7_moves_39 ?_
    refine s_aload_n (pc := 40) 0 rfl rfl dX7_moves_40 ?_
    refine s_getr (pc := 41) (b := 56) fl_X7_25 rfl rfl rfl dX7_moves_41 ?_
    refine s_iconst (pc := 44) (k_i4N) dX7_moves_44 ?_
    refine s_ialdN (pc := 45) (_) rfl rfl (by omega) (RMw _ _ _ (by omega)) dX7_moves_45 ?_
    refine s_icmp_leN (pc := 46) (by omega) (by omega) 52 dX7_moves_46 (by decide) (fun c_46 => ?_) (fun c_46 => ?_)
    · exfalso; omega
    · refine s_bipush (pc := 49) (k_bm6) dX7_moves_49 ?_
      refine s_iret (pc := 51) dX7_moves_51 (PostE.of hp ?_ ?_)
      · rfl
      · rfl
  · exact absurd (show bi ((a 5).testBit i = true) = nI 1 from bi_t hs) c_21

set_option maxRecDepth 20000 in
theorem c_X7_moves1F {i : Nat} {a : Nat → Nat} {h : Hp} (hB : OkB a) (hi : i < a 0) (hs : (a 5).testBit i = true) (hp4 : 1 + shiftN a i (a 5) ≤ a 4) (h3 : a 3 = 40) : CT 6 yX7_moves cX7_moves 3 (some .int) [.ref 50, .int (nI i), .int (nI 1)] (wN h a) (some (.int (-2))) (wN h a) := by
  have hO := hB.1
  have hA := RMw h a
  obtain ⟨⟨o0, o1, o2, o3, o4, o5, o6⟩, os⟩ := id hO
  have o64 := hO.in64
  have sl := shift_le a i (a 5)
  refine CT.of (own := RX7) rfl (by decide) (ro_i _) [.ref 50, .int (nI i), .int (nI 1)] rfl (Nat.le_of_ble_eq_true rfl) (fun E hp => ?_)
  refine s_aload_n (pc := 0) 0 rfl rfl dX7_moves_0 ?_
  refine s_iload_n (pc := 1) 1 rfl rfl dX7_moves_1 ?_
  refine s_cvi1 (pc := 2) (c_X7_isShipT (RMw h a) hO.1.1 hi) ml_X7_159 mw_X7_isShip rfl (by decide) (Nat.le_of_ble_eq_true rfl) dX7_moves_2 ?_
  refine s_if_neT (pc := 5) 10 dX7_moves_5 (by decide) ?_
  refine s_aload_n (pc := 10) 0 rfl rfl dX7_moves_10 ?_
  refine s_getr (pc := 11) (b := 56) fl_X7_25 rfl rfl rfl dX7_moves_11 ?_
  refine s_iconst (pc := 14) (k_i5N) dX7_moves_14 ?_
  refine s_ialdN (pc := 15) (_) rfl rfl (by omega) (RMw _ _ _ (by omega)) dX7_moves_15 ?_
  refine s_iload_n (pc := 16) 1 rfl rfl dX7_moves_16 ?_
  refine s_csi2 (pc := 17) (c_X7_has (by omega) (by omega)) ml_X7_146 ms_X7_has (by decide) (Nat.le_of_ble_eq_true rfl) dX7_moves_17 ?_
  refine s_iload_n (pc := 20) 2 rfl rfl dX7_moves_20 ?_
  refine s_icmp_eq (pc := 21) 27 dX7_moves_21 (by decide) (fun c_21 => ?_) (fun c_21 => ?_)
  · refine s_aload_n (pc := 27) 0 rfl rfl dX7_moves_27 ?_
    refine s_iload_n (pc := 28) 1 rfl rfl dX7_moves_28 ?_
    refine s_aload_n (pc := 29) 0 rfl rfl dX7_moves_29 ?_
    refine s_getr (pc := 30) (b := 56) fl_X7_25 rfl rfl rfl dX7_moves_30 ?_
    refine s_iconst (pc := 33) (k_i5N) dX7_moves_33 ?_
    refine s_ialdN (pc := 34) (_) rfl rfl (by omega) (RMw _ _ _ (by omega)) dX7_moves_34 ?_
    refine s_cvi2 (pc := 35) (c_X7_shiftedBy (RMw h a) hO hi o5 o64) ml_X7_174 mw_X7_shiftedBy rfl (by decide) (Nat.le_of_ble_eq_true rfl) dX7_moves_35 ?_
    refine s_iconst (pc := 38) (k_i1N) dX7_moves_38 ?_
    refine s_iaddN (pc := 39) dX7_moves_39 ?_
    refine s_aload_n (pc := 40) 0 rfl rfl dX7_moves_40 ?_
    refine s_getr (pc := 41) (b := 56) fl_X7_25 rfl rfl rfl dX7_moves_41 ?_
    refine s_iconst (pc := 44) (k_i4N) dX7_moves_44 ?_
    refine s_ialdN (pc := 45) (_) rfl rfl (by omega) (RMw _ _ _ (by omega)) dX7_moves_45 ?_
    refine s_icmp_leN (pc := 46) (by omega) (by omega) 52 dX7_moves_46 (by decide) (fun c_46 => ?_) (fun c_46 => ?_)
    · refine s_aload_n (pc := 52) 0 rfl rfl dX7_moves_52 ?_
      refine s_getr (pc := 53) (b := 56) fl_X7_25 rfl rfl rfl dX7_moves_53 ?_
      refine s_iconst (pc := 56) (k_i3N) dX7_moves_56 ?_
      refine s_ialdN (pc := 57) (_) rfl rfl (by omega) (RMw _ _ _ (by omega)) dX7_moves_57 ?_
      refine s_bipush (pc := 58) (k_b40N) dX7_moves_58 ?_
      refine s_icmp_neN (pc := 60) (by omega) (by omega) 68 dX7_moves_60 (by decide) (fun c_60 => ?_) (fun c_60 => ?_)
      · exfalso; omega
      · refine s_bipush (pc := 63) (k_bm2) dX7_moves_63 ?_
        refine s_goto (pc := 65) 73 dX7_moves_65 (by decide) ?_
        refine s_iret (pc := 73) dX7_moves_73 (PostE.of hp ?_ ?_)
        · rfl
        · rfl
    · exfalso; omega
  · exact absurd (show bi ((a 5).testBit i = true) = nI 1 from bi_t hs) c_21

set_option maxRecDepth 20000 in
theorem c_X7_moves1O {i : Nat} {a : Nat → Nat} {h : Hp} (hB : OkB a) (hi : i < a 0) (hs : (a 5).testBit i = true) (hp4 : 1 + shiftN a i (a 5) ≤ a 4) (h3 : a 3 < 40) : CT 7 yX7_moves cX7_moves 3 (some .int) [.ref 50, .int (nI i), .int (nI 1)] (wN h a) (some (.int (nI (shiftN a i (a 5))))) (wN h (goesN a i)) := by
  have hO := hB.1
  have hA := RMw h a
  obtain ⟨⟨o0, o1, o2, o3, o4, o5, o6⟩, os⟩ := id hO
  have o64 := hO.in64
  have sl := shift_le a i (a 5)
  refine CT.of (own := RX7) rfl (by decide) (ro_i _) [.ref 50, .int (nI i), .int (nI 1)] rfl (Nat.le_of_ble_eq_true rfl) (fun E hp => ?_)
  refine s_aload_n (pc := 0) 0 rfl rfl dX7_moves_0 ?_
  refine s_iload_n (pc := 1) 1 rfl rfl dX7_moves_1 ?_
  refine s_cvi1 (pc := 2) (c_X7_isShipT (RMw h a) hO.1.1 hi) ml_X7_159 mw_X7_isShip rfl (by decide) (Nat.le_of_ble_eq_true rfl) dX7_moves_2 ?_
  refine s_if_neT (pc := 5) 10 dX7_moves_5 (by decide) ?_
  refine s_aload_n (pc := 10) 0 rfl rfl dX7_moves_10 ?_
  refine s_getr (pc := 11) (b := 56) fl_X7_25 rfl rfl rfl dX7_moves_11 ?_
  refine s_iconst (pc := 14) (k_i5N) dX7_moves_14 ?_
  refine s_ialdN (pc := 15) (_) rfl rfl (by omega) (RMw _ _ _ (by omega)) dX7_moves_15 ?_
  refine s_iload_n (pc := 16) 1 rfl rfl dX7_moves_16 ?_
  refine s_csi2 (pc := 17) (c_X7_has (by omega) (by omega)) ml_X7_146 ms_X7_has (by decide) (Nat.le_of_ble_eq_true rfl) dX7_moves_17 ?_
  refine s_iload_n (pc := 20) 2 rfl rfl dX7_moves_20 ?_
  refine s_icmp_eq (pc := 21) 27 dX7_moves_21 (by decide) (fun c_21 => ?_) (fun c_21 => ?_)
  · refine s_aload_n (pc := 27) 0 rfl rfl dX7_moves_27 ?_
    refine s_iload_n (pc := 28) 1 rfl rfl dX7_moves_28 ?_
    refine s_aload_n (pc := 29) 0 rfl rfl dX7_moves_29 ?_
    refine s_getr (pc := 30) (b := 56) fl_X7_25 rfl rfl rfl dX7_moves_30 ?_
    refine s_iconst (pc := 33) (k_i5N) dX7_moves_33 ?_
    refine s_ialdN (pc := 34) (_) rfl rfl (by omega) (RMw _ _ _ (by omega)) dX7_moves_34 ?_
    refine s_cvi2 (pc := 35) (c_X7_shiftedBy (RMw h a) hO hi o5 o64) ml_X7_174 mw_X7_shiftedBy rfl (by decide) (Nat.le_of_ble_eq_true rfl) dX7_moves_35 ?_
    refine s_iconst (pc := 38) (k_i1N) dX7_moves_38 ?_
    refine s_iaddN (pc := 39) dX7_moves_39 ?_
    refine s_aload_n (pc := 40) 0 rfl rfl dX7_moves_40 ?_
    refine s_getr (pc := 41) (b := 56) fl_X7_25 rfl rfl rfl dX7_moves_41 ?_
    refine s_iconst (pc := 44) (k_i4N) dX7_moves_44 ?_
    refine s_ialdN (pc := 45) (_) rfl rfl (by omega) (RMw _ _ _ (by omega)) dX7_moves_45 ?_
    refine s_icmp_leN (pc := 46) (by omega) (by omega) 52 dX7_moves_46 (by decide) (fun c_46 => ?_) (fun c_46 => ?_)
    · refine s_aload_n (pc := 52) 0 rfl rfl dX7_moves_52 ?_
      refine s_getr (pc := 53) (b := 56) fl_X7_25 rfl rfl rfl dX7_moves_53 ?_
      refine s_iconst (pc := 56) (k_i3N) dX7_moves_56 ?_
      refine s_ialdN (pc := 57) (_) rfl rfl (by omega) (RMw _ _ _ (by omega)) dX7_moves_57 ?_
      refine s_bipush (pc := 58) (k_b40N) dX7_moves_58 ?_
      refine s_icmp_neN (pc := 60) (by omega) (by omega) 68 dX7_moves_60 (by decide) (fun c_60 => ?_) (fun c_60 => ?_)
      · refine s_aload_n (pc := 68) 0 rfl rfl dX7_moves_68 ?_
        refine s_iload_n (pc := 69) 1 rfl rfl dX7_moves_69 ?_
        refine s_cvi1 (pc := 70) (c_X7_goes hO hi h3 (by omega)) ml_X7_181 mw_X7_goes rfl (by decide) (Nat.le_of_ble_eq_true rfl) dX7_moves_70 ?_
        refine s_iret (pc := 73) dX7_moves_73 (PostE.of hp ?_ ?_)
        · rfl
        · rfl
      · exfalso; omega
    · exfalso; omega
  · exact absurd (show bi ((a 5).testBit i = true) = nI 1 from bi_t hs) c_21

set_option maxRecDepth 20000 in
theorem c_X7_leaveB {s : Int32} {a : Nat → Nat} {h : Hp} (hB : OkB a) (hb : s < 0 ∨ nI (a 0) ≤ s) : CT 4 yX7_leave cX7_leave 2 (some .int) [.ref 50, .int s] (wN h a) (some (.int (-1))) (wN h a) := by
  refine CT.of (own := RX7) rfl (by decide) (ro_i _) [.ref 50, .int s] rfl (Nat.le_of_ble_eq_true rfl) (fun E hp => ?_)
  refine s_aload_n (pc := 0) 0 rfl rfl dX7_leave_0 ?_
  refine s_iload_n (pc := 1) 1 rfl rfl dX7_leave_1 ?_
  refine s_iconst (pc := 2) (k_i1N) dX7_leave_2 ?_
  refine s_cvi2 (pc := 3) (c_X7_moves1B hB hb) ml_X7_184 mw_X7_moves rfl (by decide) (Nat.le_of_ble_eq_true rfl) dX7_leave_3 ?_
  refine s_iret (pc := 6) dX7_leave_6 (PostE.of hp ?_ ?_)
  · rfl
  · rfl

set_option maxRecDepth 20000 in
theorem c_X7_leaveS {i : Nat} {a : Nat → Nat} {h : Hp} (hB : OkB a) (hi : i < a 0) (hs : ¬ (a 5).testBit i = true) : CT 7 yX7_leave cX7_leave 2 (some .int) [.ref 50, .int (nI i)] (wN h a) (some (.int (-4))) (wN h a) := by
  refine CT.of (own := RX7) rfl (by decide) (ro_i _) [.ref 50, .int (nI i)] rfl (Nat.le_of_ble_eq_true rfl) (fun E hp => ?_)
  refine s_aload_n (pc := 0) 0 rfl rfl dX7_leave_0 ?_
  refine s_iload_n (pc := 1) 1 rfl rfl dX7_leave_1 ?_
  refine s_iconst (pc := 2) (k_i1N) dX7_leave_2 ?_
  refine s_cvi2 (pc := 3) (c_X7_moves1S hB hi hs) ml_X7_184 mw_X7_moves rfl (by decide) (Nat.le_of_ble_eq_true rfl) dX7_leave_3 ?_
  refine s_iret (pc := 6) dX7_leave_6 (PostE.of hp ?_ ?_)
  · rfl
  · rfl

set_option maxRecDepth 20000 in
theorem c_X7_leaveP {i : Nat} {a : Nat → Nat} {h : Hp} (hB : OkB a) (hi : i < a 0) (hs : (a 5).testBit i = true) (hp4 : ¬ 1 + shiftN a i (a 5) ≤ a 4) : CT 7 yX7_leave cX7_leave 2 (some .int) [.ref 50, .int (nI i)] (wN h a) (some (.int (-6))) (wN h a) := by
  refine CT.of (own := RX7) rfl (by decide) (ro_i _) [.ref 50, .int (nI i)] rfl (Nat.le_of_ble_eq_true rfl) (fun E hp => ?_)
  refine s_aload_n (pc := 0) 0 rfl rfl dX7_leave_0 ?_
  refine s_iload_n (pc := 1) 1 rfl rfl dX7_leave_1 ?_
  refine s_iconst (pc := 2) (k_i1N) dX7_leave_2 ?_
  refine s_cvi2 (pc := 3) (c_X7_moves1P hB hi hs hp4) ml_X7_184 mw_X7_moves rfl (by decide) (Nat.le_of_ble_eq_true rfl) dX7_leave_3 ?_
  refine s_iret (pc := 6) dX7_leave_6 (PostE.of hp ?_ ?_)
  · rfl
  · rfl

set_option maxRecDepth 20000 in
theorem c_X7_leaveF {i : Nat} {a : Nat → Nat} {h : Hp} (hB : OkB a) (hi : i < a 0) (hs : (a 5).testBit i = true) (hp4 : 1 + shiftN a i (a 5) ≤ a 4) (h3 : a 3 = 40) : CT 7 yX7_leave cX7_leave 2 (some .int) [.ref 50, .int (nI i)] (wN h a) (some (.int (-2))) (wN h a) := by
  refine CT.of (own := RX7) rfl (by decide) (ro_i _) [.ref 50, .int (nI i)] rfl (Nat.le_of_ble_eq_true rfl) (fun E hp => ?_)
  refine s_aload_n (pc := 0) 0 rfl rfl dX7_leave_0 ?_
  refine s_iload_n (pc := 1) 1 rfl rfl dX7_leave_1 ?_
  refine s_iconst (pc := 2) (k_i1N) dX7_leave_2 ?_
  refine s_cvi2 (pc := 3) (c_X7_moves1F hB hi hs hp4 h3) ml_X7_184 mw_X7_moves rfl (by decide) (Nat.le_of_ble_eq_true rfl) dX7_leave_3 ?_
  refine s_iret (pc := 6) dX7_leave_6 (PostE.of hp ?_ ?_)
  · rfl
  · rfl

set_option maxRecDepth 20000 in
theorem c_X7_leaveO {i : Nat} {a : Nat → Nat} {h : Hp} (hB : OkB a) (hi : i < a 0) (hs : (a 5).testBit i = true) (hp4 : 1 + shiftN a i (a 5) ≤ a 4) (h3 : a 3 < 40) : CT 8 yX7_leave cX7_leave 2 (some .int) [.ref 50, .int (nI i)] (wN h a) (some (.int (nI (shiftN a i (a 5))))) (wN h (goesN a i)) := by
  refine CT.of (own := RX7) rfl (by decide) (ro_i _) [.ref 50, .int (nI i)] rfl (Nat.le_of_ble_eq_true rfl) (fun E hp => ?_)
  refine s_aload_n (pc := 0) 0 rfl rfl dX7_leave_0 ?_
  refine s_iload_n (pc := 1) 1 rfl rfl dX7_leave_1 ?_
  refine s_iconst (pc := 2) (k_i1N) dX7_leave_2 ?_
  refine s_cvi2 (pc := 3) (c_X7_moves1O hB hi hs hp4 h3) ml_X7_184 mw_X7_moves rfl (by decide) (Nat.le_of_ble_eq_true rfl) dX7_leave_3 ?_
  refine s_iret (pc := 6) dX7_leave_6 (PostE.of hp ?_ ?_)
  · rfl
  · rfl

set_option maxRecDepth 20000 in
theorem c_X7_payB {s : Int32} {a : Nat → Nat} {h : Hp} (hB : OkB a) (hb : s < 0 ∨ nI (a 0) ≤ s) : CT 3 yX7_pay cX7_pay 2 (some .int) [.ref 50, .int s] (wN h a) (some (.int (-1))) (wN h a) := by
  have hO := hB.1
  have hA := RMw h a
  obtain ⟨⟨o0, o1, o2, o3, o4, o5, o6⟩, os⟩ := id hO
  have o64 := hO.in64
  refine CT.of (own := RX7) rfl (by decide) (ro_i _) [.ref 50, .int s] rfl (Nat.le_of_ble_eq_true rfl) (fun E hp => ?_)
  refine s_aload_n (pc := 0) 0 rfl rfl dX7_pay_0 ?_
  refine s_iload_n (pc := 1) 1 rfl rfl dX7_pay_1 ?_
  refine s_cvi1 (pc := 2) (c_X7_isShipF (RMw h a) hO.1.1 hb) ml_X7_159 mw_X7_isShip rfl (by decide) (Nat.le_of_ble_eq_true rfl) dX7_pay_2 ?_
  refine s_if_neF (pc := 5) 10 dX7_pay_5 (by decide) ?_
  refine s_iconst (pc := 8) (k_im1) dX7_pay_8 ?_
  refine s_iret (pc := 9) dX7_pay_9 (PostE.of hp ?_ ?_)
  · rfl
  · rfl

set_option maxRecDepth 20000 in
theorem c_X7_teaB {s : Int32} {a : Nat → Nat} {h : Hp} (hB : OkB a) (hb : s < 0 ∨ nI (a 0) ≤ s) : CT 3 yX7_tea cX7_tea 2 (some .int) [.ref 50, .int s] (wN h a) (some (.int (-1))) (wN h a) := by
  have hO := hB.1
  have hA := RMw h a
  obtain ⟨⟨o0, o1, o2, o3, o4, o5, o6⟩, os⟩ := id hO
  have o64 := hO.in64
  refine CT.of (own := RX7) rfl (by decide) (ro_i _) [.ref 50, .int s] rfl (Nat.le_of_ble_eq_true rfl) (fun E hp => ?_)
  refine s_aload_n (pc := 0) 0 rfl rfl dX7_tea_0 ?_
  refine s_iload_n (pc := 1) 1 rfl rfl dX7_tea_1 ?_
  refine s_cvi1 (pc := 2) (c_X7_isShipF (RMw h a) hO.1.1 hb) ml_X7_159 mw_X7_isShip rfl (by decide) (Nat.le_of_ble_eq_true rfl) dX7_tea_2 ?_
  refine s_if_neF (pc := 5) 10 dX7_tea_5 (by decide) ?_
  refine s_iconst (pc := 8) (k_im1) dX7_tea_8 ?_
  refine s_iret (pc := 9) dX7_tea_9 (PostE.of hp ?_ ?_)
  · rfl
  · rfl

set_option maxRecDepth 20000 in
theorem c_X7_payU {i : Nat} {a : Nat → Nat} {h : Hp} (hB : OkB a) (hi : i < a 0) (hk : ¬ sh a i 0 = 5) : CT 4 yX7_pay cX7_pay 2 (some .int) [.ref 50, .int (nI i)] (wN h a) (some (.int (-3))) (finM (wN h a) 3) := by
  have hO := hB.1
  have hA := RMw h a
  obtain ⟨⟨o0, o1, o2, o3, o4, o5, o6⟩, os⟩ := id hO
  have o64 := hO.in64
  obtain ⟨s0, s1, s2, s3, s4, s5, s6, s7⟩ := os i hi
  refine CT.of (own := RX7) rfl (by decide) (ro_i _) [.ref 50, .int (nI i)] rfl (Nat.le_of_ble_eq_true rfl) (fun E hp => ?_)
  refine s_aload_n (pc := 0) 0 rfl rfl dX7_pay_0 ?_
  refine s_iload_n (pc := 1) 1 rfl rfl dX7_pay_1 ?_
  refine s_cvi1 (pc := 2) (c_X7_isShipT (RMw h a) hO.1.1 hi) ml_X7_159 mw_X7_isShip rfl (by decide) (Nat.le_of_ble_eq_true rfl) dX7_pay_2 ?_
  refine s_if_neT (pc := 5) 10 dX7_pay_5 (by decide) ?_
  refine s_aload_n (pc := 10) 0 rfl rfl dX7_pay_10 ?_
  refine s_iload_n (pc := 11) 1 rfl rfl dX7_pay_11 ?_
  refine s_iconst (pc := 12) (k_i0N) dX7_pay_12 ?_
  refine s_cvi2 (pc := 13) (c_X7_of (RMw h a) (by omega) (by decide)) ml_X7_126 mw_X7_of rfl (by decide) (Nat.le_of_ble_eq_true rfl) dX7_pay_13 ?_
  refine s_iconst (pc := 16) (k_i5N) dX7_pay_16 ?_
  refine s_icmp_eqN (pc := 17) (by omega) (by omega) 26 dX7_pay_17 (by decide) (fun c_17 => ?_) (fun c_17 => ?_)
  · exfalso; exact hk c_17
  · refine s_aload_n (pc := 20) 0 rfl rfl dX7_pay_20 ?_
    refine s_iconst (pc := 21) (k_i3N) dX7_pay_21 ?_
    refine s_cvi1 (pc := 22) (c_X7_finds (by decide)) ml_X7_72 mw_X7_finds rfl (by decide) (Nat.le_of_ble_eq_true rfl) dX7_pay_22 ?_
    refine s_iret (pc := 25) dX7_pay_25 (PostE.of hp ?_ ?_)
    · rfl
    · rfl

set_option maxRecDepth 20000 in
theorem c_X7_payS {i : Nat} {a : Nat → Nat} {h : Hp} (hB : OkB a) (hi : i < a 0) (hk : sh a i 0 = 5) (hs : sh a i 6 = 1) : CT 4 yX7_pay cX7_pay 2 (some .int) [.ref 50, .int (nI i)] (wN h a) (some (.int (-4))) (wN h a) := by
  have hO := hB.1
  have hA := RMw h a
  obtain ⟨⟨o0, o1, o2, o3, o4, o5, o6⟩, os⟩ := id hO
  have o64 := hO.in64
  obtain ⟨s0, s1, s2, s3, s4, s5, s6, s7⟩ := os i hi
  refine CT.of (own := RX7) rfl (by decide) (ro_i _) [.ref 50, .int (nI i)] rfl (Nat.le_of_ble_eq_true rfl) (fun E hp => ?_)
  refine s_aload_n (pc := 0) 0 rfl rfl dX7_pay_0 ?_
  refine s_iload_n (pc := 1) 1 rfl rfl dX7_pay_1 ?_
  refine s_cvi1 (pc := 2) (c_X7_isShipT (RMw h a) hO.1.1 hi) ml_X7_159 mw_X7_isShip rfl (by decide) (Nat.le_of_ble_eq_true rfl) dX7_pay_2 ?_
  refine s_if_neT (pc := 5) 10 dX7_pay_5 (by decide) ?_
  refine s_aload_n (pc := 10) 0 rfl rfl dX7_pay_10 ?_
  refine s_iload_n (pc := 11) 1 rfl rfl dX7_pay_11 ?_
  refine s_iconst (pc := 12) (k_i0N) dX7_pay_12 ?_
  refine s_cvi2 (pc := 13) (c_X7_of (RMw h a) (by omega) (by decide)) ml_X7_126 mw_X7_of rfl (by decide) (Nat.le_of_ble_eq_true rfl) dX7_pay_13 ?_
  refine s_iconst (pc := 16) (k_i5N) dX7_pay_16 ?_
  refine s_icmp_eqN (pc := 17) (by omega) (by omega) 26 dX7_pay_17 (by decide) (fun c_17 => ?_) (fun c_17 => ?_)
  · refine s_aload_n (pc := 26) 0 rfl rfl dX7_pay_26 ?_
    refine s_iload_n (pc := 27) 1 rfl rfl dX7_pay_27 ?_
    refine s_bipush (pc := 28) (k_b6N) dX7_pay_28 ?_
    refine s_cvi2 (pc := 30) (c_X7_of (RMw h a) (by omega) (by decide)) ml_X7_126 mw_X7_of rfl (by decide) (Nat.le_of_ble_eq_true rfl) dX7_pay_30 ?_
    refine s_iconst (pc := 33) (k_i1N) dX7_pay_33 ?_
    refine s_icmp_neN (pc := 34) (by omega) (by omega) 40 dX7_pay_34 (by decide) (fun c_34 => ?_) (fun c_34 => ?_)
    · exfalso; exact c_34 hs
    · refine s_bipush (pc := 37) (k_bm4) dX7_pay_37 ?_
      refine s_iret (pc := 39) dX7_pay_39 (PostE.of hp ?_ ?_)
      · rfl
      · rfl
  · exfalso; exact c_17 hk

set_option maxRecDepth 20000 in
theorem c_X7_payF {i : Nat} {a : Nat → Nat} {h : Hp} (hB : OkB a) (hi : i < a 0) (hk : sh a i 0 = 5) (hs : ¬ sh a i 6 = 1) (h3 : a 3 = 40) : CT 4 yX7_pay cX7_pay 2 (some .int) [.ref 50, .int (nI i)] (wN h a) (some (.int (-2))) (wN h a) := by
  have hO := hB.1
  have hA := RMw h a
  obtain ⟨⟨o0, o1, o2, o3, o4, o5, o6⟩, os⟩ := id hO
  have o64 := hO.in64
  obtain ⟨s0, s1, s2, s3, s4, s5, s6, s7⟩ := os i hi
  refine CT.of (own := RX7) rfl (by decide) (ro_i _) [.ref 50, .int (nI i)] rfl (Nat.le_of_ble_eq_true rfl) (fun E hp => ?_)
  refine s_aload_n (pc := 0) 0 rfl rfl dX7_pay_0 ?_
  refine s_iload_n (pc := 1) 1 rfl rfl dX7_pay_1 ?_
  refine s_cvi1 (pc := 2) (c_X7_isShipT (RMw h a) hO.1.1 hi) ml_X7_159 mw_X7_isShip rfl (by decide) (Nat.le_of_ble_eq_true rfl) dX7_pay_2 ?_
  refine s_if_neT (pc := 5) 10 dX7_pay_5 (by decide) ?_
  refine s_aload_n (pc := 10) 0 rfl rfl dX7_pay_10 ?_
  refine s_iload_n (pc := 11) 1 rfl rfl dX7_pay_11 ?_
  refine s_iconst (pc := 12) (k_i0N) dX7_pay_12 ?_
  refine s_cvi2 (pc := 13) (c_X7_of (RMw h a) (by omega) (by decide)) ml_X7_126 mw_X7_of rfl (by decide) (Nat.le_of_ble_eq_true rfl) dX7_pay_13 ?_
  refine s_iconst (pc := 16) (k_i5N) dX7_pay_16 ?_
  refine s_icmp_eqN (pc := 17) (by omega) (by omega) 26 dX7_pay_17 (by decide) (fun c_17 => ?_) (fun c_17 => ?_)
  · refine s_aload_n (pc := 26) 0 rfl rfl dX7_pay_26 ?_
    refine s_iload_n (pc := 27) 1 rfl rfl dX7_pay_27 ?_
    refine s_bipush (pc := 28) (k_b6N) dX7_pay_28 ?_
    refine s_cvi2 (pc := 30) (c_X7_of (RMw h a) (by omega) (by decide)) ml_X7_126 mw_X7_of rfl (by decide) (Nat.le_of_ble_eq_true rfl) dX7_pay_30 ?_
    refine s_iconst (pc := 33) (k_i1N) dX7_pay_33 ?_
    refine s_icmp_neN (pc := 34) (by omega) (by omega) 40 dX7_pay_34 (by decide) (fun c_34 => ?_) (fun c_34 => ?_)
    · refine s_aload_n (pc := 40) 0 rfl rfl dX7_pay_40 ?_
      refine s_getr (pc := 41) (b := 56) fl_X7_25 rfl rfl rfl dX7_pay_41 ?_
      refine s_iconst (pc := 44) (k_i3N) dX7_pay_44 ?_
      refine s_ialdN (pc := 45) (_) rfl rfl (by omega) (RMw _ _ _ (by omega)) dX7_pay_45 ?_
      refine s_bipush (pc := 46) (k_b40N) dX7_pay_46 ?_
      refine s_icmp_neN (pc := 48) (by omega) (by omega) 54 dX7_pay_48 (by decide) (fun c_48 => ?_) (fun c_48 => ?_)
      · exfalso; omega
      · refine s_bipush (pc := 51) (k_bm2) dX7_pay_51 ?_
        refine s_iret (pc := 53) dX7_pay_53 (PostE.of hp ?_ ?_)
        · rfl
        · rfl
    · exfalso; exact hs c_34
  · exfalso; exact c_17 hk

set_option maxRecDepth 20000 in
theorem c_X7_payO {i : Nat} {a : Nat → Nat} {h : Hp} (hB : OkB a) (hi : i < a 0) (hk : sh a i 0 = 5) (hs : ¬ sh a i 6 = 1) (h3 : a 3 < 40) : CT 6 yX7_pay cX7_pay 2 (some .int) [.ref 50, .int (nI i)] (wN h a) (some (.int (nI (retN a 1 i)))) (wN h (payN a i)) := by
  have hO := hB.1
  have hA := RMw h a
  obtain ⟨⟨o0, o1, o2, o3, o4, o5, o6⟩, os⟩ := id hO
  have o64 := hO.in64
  obtain ⟨s0, s1, s2, s3, s4, s5, s6, s7⟩ := os i hi
  have ok : okD a 1 i := ⟨h3, by omega, by decide, by omega, fun q => absurd q (by decide), fun _ => ⟨hi, hk, by omega⟩, fun q => absurd q (by decide)⟩
  have hB1 : OkB (payN a i) := hB.step ok
  have e0 : payN a i 0 = a 0 := (pay_v a i).1 0 (by decide) (by decide) (by omega)
  have e1 : payN a i 1 = a 1 := (pay_v a i).1 1 (by decide) (by decide) (by omega)
  refine CT.of (own := RX7) rfl (by decide) (ro_i _) [.ref 50, .int (nI i)] rfl (Nat.le_of_ble_eq_true rfl) (fun E hp => ?_)
  refine s_aload_n (pc := 0) 0 rfl rfl dX7_pay_0 ?_
  refine s_iload_n (pc := 1) 1 rfl rfl dX7_pay_1 ?_
  refine s_cvi1 (pc := 2) (c_X7_isShipT (RMw h a) hO.1.1 hi) ml_X7_159 mw_X7_isShip rfl (by decide) (Nat.le_of_ble_eq_true rfl) dX7_pay_2 ?_
  refine s_if_neT (pc := 5) 10 dX7_pay_5 (by decide) ?_
  refine s_aload_n (pc := 10) 0 rfl rfl dX7_pay_10 ?_
  refine s_iload_n (pc := 11) 1 rfl rfl dX7_pay_11 ?_
  refine s_iconst (pc := 12) (k_i0N) dX7_pay_12 ?_
  refine s_cvi2 (pc := 13) (c_X7_of (RMw h a) (by omega) (by decide)) ml_X7_126 mw_X7_of rfl (by decide) (Nat.le_of_ble_eq_true rfl) dX7_pay_13 ?_
  refine s_iconst (pc := 16) (k_i5N) dX7_pay_16 ?_
  refine s_icmp_eqN (pc := 17) (by omega) (by omega) 26 dX7_pay_17 (by decide) (fun c_17 => ?_) (fun c_17 => ?_)
  · refine s_aload_n (pc := 26) 0 rfl rfl dX7_pay_26 ?_
    refine s_iload_n (pc := 27) 1 rfl rfl dX7_pay_27 ?_
    refine s_bipush (pc := 28) (k_b6N) dX7_pay_28 ?_
    refine s_cvi2 (pc := 30) (c_X7_of (RMw h a) (by omega) (by decide)) ml_X7_126 mw_X7_of rfl (by decide) (Nat.le_of_ble_eq_true rfl) dX7_pay_30 ?_
    refine s_iconst (pc := 33) (k_i1N) dX7_pay_33 ?_
    refine s_icmp_neN (pc := 34) (by omega) (by omega) 40 dX7_pay_34 (by decide) (fun c_34 => ?_) (fun c_34 => ?_)
    · refine s_aload_n (pc := 40) 0 rfl rfl dX7_pay_40 ?_
      refine s_getr (pc := 41) (b := 56) fl_X7_25 rfl rfl rfl dX7_pay_41 ?_
      refine s_iconst (pc := 44) (k_i3N) dX7_pay_44 ?_
      refine s_ialdN (pc := 45) (_) rfl rfl (by omega) (RMw _ _ _ (by omega)) dX7_pay_45 ?_
      refine s_bipush (pc := 46) (k_b40N) dX7_pay_46 ?_
      refine s_icmp_neN (pc := 48) (by omega) (by omega) 54 dX7_pay_48 (by decide) (fun c_48 => ?_) (fun c_48 => ?_)
      · refine s_aload_n (pc := 54) 0 rfl rfl dX7_pay_54 ?_
        refine s_iconst (pc := 55) (k_i1N) dX7_pay_55 ?_
        refine s_iload_n (pc := 56) 1 rfl rfl dX7_pay_56 ?_
        refine s_iconst (pc := 57) (k_i0N) dX7_pay_57 ?_
        refine s_iconst (pc := 58) (k_i0N) dX7_pay_58 ?_
        refine s_cvn4 (pc := 59) (c_X7_notes h3) ml_X7_177 mw_X7_notes rfl (by decide) (Nat.le_of_ble_eq_true rfl) dX7_pay_59 ?_
        refine s_aload_n (pc := 62) 0 rfl rfl dX7_pay_62 ?_
        refine s_getr (pc := 63) (b := 56) fl_X7_25 rfl rfl rfl dX7_pay_63 ?_
        refine s_bipush (pc := 66) (k_b7N) dX7_pay_66 ?_
        refine s_bipush (pc := 68) (k_b8N) dX7_pay_68 ?_
        refine s_iload_n (pc := 70) 1 rfl rfl dX7_pay_70 ?_
        refine s_imulN (pc := 71) dX7_pay_71 ?_
        refine s_iaddN (pc := 72) dX7_pay_72 ?_
        refine s_bipush (pc := 73) (k_b6N) dX7_pay_73 ?_
        refine s_iaddN (pc := 75) dX7_pay_75 ?_
        refine s_iconst (pc := 76) (k_i1N) dX7_pay_76 ?_
        refine s_iast (pc := 77) (_) rfl rfl (by omega) dX7_pay_77 ?_
        rw [wN_ui (by omega)]
        refine s_aload_n (pc := 78) 0 rfl rfl dX7_pay_78 ?_
        refine s_iload_n (pc := 79) 1 rfl rfl dX7_pay_79 ?_
        refine s_cvi1 (pc := 80) (c_X7_ageNow (RMw h (payN a i)) hB1.1 (by rw [e0]; exact hi)) ml_X7_139 mw_X7_ageNow rfl (by decide) (Nat.le_of_ble_eq_true rfl) dX7_pay_80 ?_
        refine s_iret (pc := 83) dX7_pay_83 (PostE.of hp ?_ ?_)
        · rw [e1]; rfl
        · rfl
      · exfalso; omega
    · exfalso; exact hs c_34
  · exfalso; exact c_17 hk

set_option maxRecDepth 20000 in
theorem c_X7_teaS {i : Nat} {a : Nat → Nat} {h : Hp} (hB : OkB a) (hi : i < a 0) (hs : sh a i 5 = 20) : CT 4 yX7_tea cX7_tea 2 (some .int) [.ref 50, .int (nI i)] (wN h a) (some (.int (-4))) (wN h a) := by
  have hO := hB.1
  have hA := RMw h a
  obtain ⟨⟨o0, o1, o2, o3, o4, o5, o6⟩, os⟩ := id hO
  have o64 := hO.in64
  obtain ⟨s0, s1, s2, s3, s4, s5, s6, s7⟩ := os i hi
  refine CT.of (own := RX7) rfl (by decide) (ro_i _) [.ref 50, .int (nI i)] rfl (Nat.le_of_ble_eq_true rfl) (fun E hp => ?_)
  refine s_aload_n (pc := 0) 0 rfl rfl dX7_tea_0 ?_
  refine s_iload_n (pc := 1) 1 rfl rfl dX7_tea_1 ?_
  refine s_cvi1 (pc := 2) (c_X7_isShipT (RMw h a) hO.1.1 hi) ml_X7_159 mw_X7_isShip rfl (by decide) (Nat.le_of_ble_eq_true rfl) dX7_tea_2 ?_
  refine s_if_neT (pc := 5) 10 dX7_tea_5 (by decide) ?_
  refine s_aload_n (pc := 10) 0 rfl rfl dX7_tea_10 ?_
  refine s_iload_n (pc := 11) 1 rfl rfl dX7_tea_11 ?_
  refine s_iconst (pc := 12) (k_i5N) dX7_tea_12 ?_
  refine s_cvi2 (pc := 13) (c_X7_of (RMw h a) (by omega) (by decide)) ml_X7_126 mw_X7_of rfl (by decide) (Nat.le_of_ble_eq_true rfl) dX7_tea_13 ?_
  refine s_bipush (pc := 16) (k_b20N) dX7_tea_16 ?_
  refine s_icmp_neN (pc := 18) (by omega) (by omega) 24 dX7_tea_18 (by decide) (fun c_18 => ?_) (fun c_18 => ?_)
  · exfalso; exact c_18 hs
  · refine s_bipush (pc := 21) (k_bm4) dX7_tea_21 ?_
    refine s_iret (pc := 23) dX7_tea_23 (PostE.of hp ?_ ?_)
    · rfl
    · rfl

set_option maxRecDepth 20000 in
theorem c_X7_teaF {i : Nat} {a : Nat → Nat} {h : Hp} (hB : OkB a) (hi : i < a 0) (hs : sh a i 5 < 20) (h3 : a 3 = 40) : CT 4 yX7_tea cX7_tea 2 (some .int) [.ref 50, .int (nI i)] (wN h a) (some (.int (-2))) (wN h a) := by
  have hO := hB.1
  have hA := RMw h a
  obtain ⟨⟨o0, o1, o2, o3, o4, o5, o6⟩, os⟩ := id hO
  have o64 := hO.in64
  obtain ⟨s0, s1, s2, s3, s4, s5, s6, s7⟩ := os i hi
  refine CT.of (own := RX7) rfl (by decide) (ro_i _) [.ref 50, .int (nI i)] rfl (Nat.le_of_ble_eq_true rfl) (fun E hp => ?_)
  refine s_aload_n (pc := 0) 0 rfl rfl dX7_tea_0 ?_
  refine s_iload_n (pc := 1) 1 rfl rfl dX7_tea_1 ?_
  refine s_cvi1 (pc := 2) (c_X7_isShipT (RMw h a) hO.1.1 hi) ml_X7_159 mw_X7_isShip rfl (by decide) (Nat.le_of_ble_eq_true rfl) dX7_tea_2 ?_
  refine s_if_neT (pc := 5) 10 dX7_tea_5 (by decide) ?_
  refine s_aload_n (pc := 10) 0 rfl rfl dX7_tea_10 ?_
  refine s_iload_n (pc := 11) 1 rfl rfl dX7_tea_11 ?_
  refine s_iconst (pc := 12) (k_i5N) dX7_tea_12 ?_
  refine s_cvi2 (pc := 13) (c_X7_of (RMw h a) (by omega) (by decide)) ml_X7_126 mw_X7_of rfl (by decide) (Nat.le_of_ble_eq_true rfl) dX7_tea_13 ?_
  refine s_bipush (pc := 16) (k_b20N) dX7_tea_16 ?_
  refine s_icmp_neN (pc := 18) (by omega) (by omega) 24 dX7_tea_18 (by decide) (fun c_18 => ?_) (fun c_18 => ?_)
  · refine s_aload_n (pc := 24) 0 rfl rfl dX7_tea_24 ?_
    refine s_getr (pc := 25) (b := 56) fl_X7_25 rfl rfl rfl dX7_tea_25 ?_
    refine s_iconst (pc := 28) (k_i3N) dX7_tea_28 ?_
    refine s_ialdN (pc := 29) (_) rfl rfl (by omega) (RMw _ _ _ (by omega)) dX7_tea_29 ?_
    refine s_bipush (pc := 30) (k_b40N) dX7_tea_30 ?_
    refine s_icmp_neN (pc := 32) (by omega) (by omega) 38 dX7_tea_32 (by decide) (fun c_32 => ?_) (fun c_32 => ?_)
    · exfalso; omega
    · refine s_bipush (pc := 35) (k_bm2) dX7_tea_35 ?_
      refine s_iret (pc := 37) dX7_tea_37 (PostE.of hp ?_ ?_)
      · rfl
      · rfl
  · exfalso; omega

set_option maxRecDepth 20000 in
theorem c_X7_teaO {i : Nat} {a : Nat → Nat} {h : Hp} (hB : OkB a) (hi : i < a 0) (hs : sh a i 5 < 20) (h3 : a 3 < 40) : CT 6 yX7_tea cX7_tea 2 (some .int) [.ref 50, .int (nI i)] (wN h a) (some (.int (nI (retN a 2 i)))) (wN h (teaN a i)) := by
  have hO := hB.1
  have hA := RMw h a
  obtain ⟨⟨o0, o1, o2, o3, o4, o5, o6⟩, os⟩ := id hO
  have o64 := hO.in64
  obtain ⟨s0, s1, s2, s3, s4, s5, s6, s7⟩ := os i hi
  have m5 := (hB.2.2.2 i hi).2
  have ok : okD a 2 i := ⟨h3, by omega, by decide, by omega, fun q => absurd q (by decide), fun q => absurd q (by decide), fun _ => ⟨hi, by omega⟩⟩
  have hB1 : OkB (teaN a i) := hB.step ok
  have e0 : teaN a i 0 = a 0 := (tea_v a i).1 0 (by decide) (by decide) (by omega)
  have e1 : teaN a i 1 = a 1 := (tea_v a i).1 1 (by decide) (by decide) (by omega)
  refine CT.of (own := RX7) rfl (by decide) (ro_i _) [.ref 50, .int (nI i)] rfl (Nat.le_of_ble_eq_true rfl) (fun E hp => ?_)
  refine s_aload_n (pc := 0) 0 rfl rfl dX7_tea_0 ?_
  refine s_iload_n (pc := 1) 1 rfl rfl dX7_tea_1 ?_
  refine s_cvi1 (pc := 2) (c_X7_isShipT (RMw h a) hO.1.1 hi) ml_X7_159 mw_X7_isShip rfl (by decide) (Nat.le_of_ble_eq_true rfl) dX7_tea_2 ?_
  refine s_if_neT (pc := 5) 10 dX7_tea_5 (by decide) ?_
  refine s_aload_n (pc := 10) 0 rfl rfl dX7_tea_10 ?_
  refine s_iload_n (pc := 11) 1 rfl rfl dX7_tea_11 ?_
  refine s_iconst (pc := 12) (k_i5N) dX7_tea_12 ?_
  refine s_cvi2 (pc := 13) (c_X7_of (RMw h a) (by omega) (by decide)) ml_X7_126 mw_X7_of rfl (by decide) (Nat.le_of_ble_eq_true rfl) dX7_tea_13 ?_
  refine s_bipush (pc := 16) (k_b20N) dX7_tea_16 ?_
  refine s_icmp_neN (pc := 18) (by omega) (by omega) 24 dX7_tea_18 (by decide) (fun c_18 => ?_) (fun c_18 => ?_)
  · refine s_aload_n (pc := 24) 0 rfl rfl dX7_tea_24 ?_
    refine s_getr (pc := 25) (b := 56) fl_X7_25 rfl rfl rfl dX7_tea_25 ?_
    refine s_iconst (pc := 28) (k_i3N) dX7_tea_28 ?_
    refine s_ialdN (pc := 29) (_) rfl rfl (by omega) (RMw _ _ _ (by omega)) dX7_tea_29 ?_
    refine s_bipush (pc := 30) (k_b40N) dX7_tea_30 ?_
    refine s_icmp_neN (pc := 32) (by omega) (by omega) 38 dX7_tea_32 (by decide) (fun c_32 => ?_) (fun c_32 => ?_)
    · refine s_aload_n (pc := 38) 0 rfl rfl dX7_tea_38 ?_
      refine s_iconst (pc := 39) (k_i2N) dX7_tea_39 ?_
      refine s_iload_n (pc := 40) 1 rfl rfl dX7_tea_40 ?_
      refine s_iconst (pc := 41) (k_i0N) dX7_tea_41 ?_
      refine s_iconst (pc := 42) (k_i0N) dX7_tea_42 ?_
      refine s_cvn4 (pc := 43) (c_X7_notes h3) ml_X7_177 mw_X7_notes rfl (by decide) (Nat.le_of_ble_eq_true rfl) dX7_tea_43 ?_
      refine s_aload_n (pc := 46) 0 rfl rfl dX7_tea_46 ?_
      refine s_getr (pc := 47) (b := 56) fl_X7_25 rfl rfl rfl dX7_tea_47 ?_
      refine s_bipush (pc := 50) (k_b7N) dX7_tea_50 ?_
      refine s_bipush (pc := 52) (k_b8N) dX7_tea_52 ?_
      refine s_iload_n (pc := 54) 1 rfl rfl dX7_tea_54 ?_
      refine s_imulN (pc := 55) dX7_tea_55 ?_
      refine s_iaddN (pc := 56) dX7_tea_56 ?_
      refine s_iconst (pc := 57) (k_i5N) dX7_tea_57 ?_
      refine s_iaddN (pc := 58) dX7_tea_58 ?_
      refine s_dup2 (pc := 59) rfl rfl dX7_tea_59 ?_
      refine s_ialdN (pc := 60) (v := sh a i 5) (_) rfl rfl (by omega) (by rw [RMw _ _ _ (by omega)]; exact congrArg nI (noteN_lo (by omega) (by omega))) dX7_tea_60 ?_
      refine s_iconst (pc := 61) (k_i5N) dX7_tea_61 ?_
      refine s_iaddN (pc := 62) dX7_tea_62 ?_
      refine s_iast (pc := 63) (_) rfl rfl (by omega) dX7_tea_63 ?_
      rw [wN_ui (by omega)]
      refine s_aload_n (pc := 64) 0 rfl rfl dX7_tea_64 ?_
      refine s_iload_n (pc := 65) 1 rfl rfl dX7_tea_65 ?_
      refine s_cvi1 (pc := 66) (c_X7_ageNow (RMw h (teaN a i)) hB1.1 (by rw [e0]; exact hi)) ml_X7_139 mw_X7_ageNow rfl (by decide) (Nat.le_of_ble_eq_true rfl) dX7_tea_66 ?_
      refine s_iret (pc := 69) dX7_tea_69 (PostE.of hp ?_ ?_)
      · rw [e1]; rfl
      · rfl
    · exfalso; omega
  · exfalso; omega

set_option maxRecDepth 20000 in
theorem c_X7_tideE {a : Nat → Nat} {h : Hp} (hB : OkB a) (h0 : a 0 = 0) : CT 4 yX7_tide cX7_tide 1 (some .int) [.ref 50] (wN h a) (some (.int (-4))) (wN h a) := by
  have hO := hB.1
  have hA := RMw h a
  obtain ⟨⟨o0, o1, o2, o3, o4, o5, o6⟩, os⟩ := id hO
  have o64 := hO.in64
  refine CT.of (own := RX7) rfl (by decide) (ro_i _) [.ref 50] rfl (Nat.le_of_ble_eq_true rfl) (fun E hp => ?_)
  refine s_aload_n (pc := 0) 0 rfl rfl dX7_tide_0 ?_
  refine s_cvi0 (pc := 1) (c_X7_are (RMw h a) hO.1.1) ml_X7_198 mw_X7_are rfl (by decide) (Nat.le_of_ble_eq_true rfl) dX7_tide_1 ?_
  refine s_if_neB (pc := 4) 10 dX7_tide_4 (by decide) (fun c_4 => ?_) (fun c_4 => ?_)
  · exfalso; omega
  · refine s_bipush (pc := 7) (k_bm4) dX7_tide_7 ?_
    refine s_iret (pc := 9) dX7_tide_9 (PostE.of hp ?_ ?_)
    · rfl
    · rfl

set_option maxRecDepth 20000 in
theorem c_X7_tideF {a : Nat → Nat} {h : Hp} (hB : OkB a) (h0 : 0 < a 0) (h3 : a 3 = 40) : CT 4 yX7_tide cX7_tide 1 (some .int) [.ref 50] (wN h a) (some (.int (-2))) (wN h a) := by
  have hO := hB.1
  have hA := RMw h a
  obtain ⟨⟨o0, o1, o2, o3, o4, o5, o6⟩, os⟩ := id hO
  have o64 := hO.in64
  refine CT.of (own := RX7) rfl (by decide) (ro_i _) [.ref 50] rfl (Nat.le_of_ble_eq_true rfl) (fun E hp => ?_)
  refine s_aload_n (pc := 0) 0 rfl rfl dX7_tide_0 ?_
  refine s_cvi0 (pc := 1) (c_X7_are (RMw h a) hO.1.1) ml_X7_198 mw_X7_are rfl (by decide) (Nat.le_of_ble_eq_true rfl) dX7_tide_1 ?_
  refine s_if_neB (pc := 4) 10 dX7_tide_4 (by decide) (fun c_4 => ?_) (fun c_4 => ?_)
  · refine s_aload_n (pc := 10) 0 rfl rfl dX7_tide_10 ?_
    refine s_getr (pc := 11) (b := 56) fl_X7_25 rfl rfl rfl dX7_tide_11 ?_
    refine s_iconst (pc := 14) (k_i3N) dX7_tide_14 ?_
    refine s_ialdN (pc := 15) (_) rfl rfl (by omega) (RMw _ _ _ (by omega)) dX7_tide_15 ?_
    refine s_bipush (pc := 16) (k_b40N) dX7_tide_16 ?_
    refine s_icmp_neN (pc := 18) (by omega) (by omega) 26 dX7_tide_18 (by decide) (fun c_18 => ?_) (fun c_18 => ?_)
    · exfalso; omega
    · refine s_bipush (pc := 21) (k_bm2) dX7_tide_21 ?_
      refine s_goto (pc := 23) 30 dX7_tide_23 (by decide) ?_
      refine s_iret (pc := 30) dX7_tide_30 (PostE.of hp ?_ ?_)
      · rfl
      · rfl
  · exfalso; omega

set_option maxRecDepth 20000 in
theorem c_X7_tideO {a : Nat → Nat} {h : Hp} (hB : OkB a) (h0 : 0 < a 0) (h3 : a 3 < 40) : CT 8 yX7_tide cX7_tide 1 (some .int) [.ref 50] (wN h a) (some (.int (nI (grdN a)))) (wN h (ebbsN a)) := by
  have hO := hB.1
  have hA := RMw h a
  obtain ⟨⟨o0, o1, o2, o3, o4, o5, o6⟩, os⟩ := id hO
  have o64 := hO.in64
  refine CT.of (own := RX7) rfl (by decide) (ro_i _) [.ref 50] rfl (Nat.le_of_ble_eq_true rfl) (fun E hp => ?_)
  refine s_aload_n (pc := 0) 0 rfl rfl dX7_tide_0 ?_
  refine s_cvi0 (pc := 1) (c_X7_are (RMw h a) hO.1.1) ml_X7_198 mw_X7_are rfl (by decide) (Nat.le_of_ble_eq_true rfl) dX7_tide_1 ?_
  refine s_if_neB (pc := 4) 10 dX7_tide_4 (by decide) (fun c_4 => ?_) (fun c_4 => ?_)
  · refine s_aload_n (pc := 10) 0 rfl rfl dX7_tide_10 ?_
    refine s_getr (pc := 11) (b := 56) fl_X7_25 rfl rfl rfl dX7_tide_11 ?_
    refine s_iconst (pc := 14) (k_i3N) dX7_tide_14 ?_
    refine s_ialdN (pc := 15) (_) rfl rfl (by omega) (RMw _ _ _ (by omega)) dX7_tide_15 ?_
    refine s_bipush (pc := 16) (k_b40N) dX7_tide_16 ?_
    refine s_icmp_neN (pc := 18) (by omega) (by omega) 26 dX7_tide_18 (by decide) (fun c_18 => ?_) (fun c_18 => ?_)
    · refine s_aload_n (pc := 26) 0 rfl rfl dX7_tide_26 ?_
      refine s_cvi0 (pc := 27) (c_X7_ebbs hO h3) ml_X7_202 mw_X7_ebbs rfl (by decide) (Nat.le_of_ble_eq_true rfl) dX7_tide_27 ?_
      refine s_iret (pc := 30) dX7_tide_30 (PostE.of hp ?_ ?_)
      · rfl
      · rfl
    · exfalso; omega
  · exfalso; omega

set_option maxRecDepth 20000 in
theorem c_X7_yearE {a : Nat → Nat} {h : Hp} (hB : OkB a) (h0 : a 0 = 0) : CT 4 yX7_year cX7_year 1 (some .int) [.ref 50] (wN h a) (some (.int (-4))) (wN h a) := by
  have hO := hB.1
  have hA := RMw h a
  obtain ⟨⟨o0, o1, o2, o3, o4, o5, o6⟩, os⟩ := id hO
  have o64 := hO.in64
  refine CT.of (own := RX7) rfl (by decide) (ro_i _) [.ref 50] rfl (Nat.le_of_ble_eq_true rfl) (fun E hp => ?_)
  refine s_aload_n (pc := 0) 0 rfl rfl dX7_year_0 ?_
  refine s_cvi0 (pc := 1) (c_X7_are (RMw h a) hO.1.1) ml_X7_198 mw_X7_are rfl (by decide) (Nat.le_of_ble_eq_true rfl) dX7_year_1 ?_
  refine s_if_eqB (pc := 4) 19 dX7_year_4 (by decide) (fun c_4 => ?_) (fun c_4 => ?_)
  · refine s_bipush (pc := 19) (k_bm4) dX7_year_19 ?_
    refine s_iret (pc := 21) dX7_year_21 (PostE.of hp ?_ ?_)
    · rfl
    · rfl
  · exfalso; omega

set_option maxRecDepth 20000 in
theorem c_X7_yearF {a : Nat → Nat} {h : Hp} (hB : OkB a) (h0 : 0 < a 0) (h3 : a 3 = 40) : CT 4 yX7_year cX7_year 1 (some .int) [.ref 50] (wN h a) (some (.int (-2))) (wN h a) := by
  have hO := hB.1
  have hA := RMw h a
  obtain ⟨⟨o0, o1, o2, o3, o4, o5, o6⟩, os⟩ := id hO
  have o64 := hO.in64
  refine CT.of (own := RX7) rfl (by decide) (ro_i _) [.ref 50] rfl (Nat.le_of_ble_eq_true rfl) (fun E hp => ?_)
  refine s_aload_n (pc := 0) 0 rfl rfl dX7_year_0 ?_
  refine s_cvi0 (pc := 1) (c_X7_are (RMw h a) hO.1.1) ml_X7_198 mw_X7_are rfl (by decide) (Nat.le_of_ble_eq_true rfl) dX7_year_1 ?_
  refine s_if_eqB (pc := 4) 19 dX7_year_4 (by decide) (fun c_4 => ?_) (fun c_4 => ?_)
  · exfalso; omega
  · refine s_aload_n (pc := 7) 0 rfl rfl dX7_year_7 ?_
    refine s_getr (pc := 8) (b := 56) fl_X7_25 rfl rfl rfl dX7_year_8 ?_
    refine s_iconst (pc := 11) (k_i1N) dX7_year_11 ?_
    refine s_ialdN (pc := 12) (_) rfl rfl (by omega) (RMw _ _ _ (by omega)) dX7_year_12 ?_
    refine s_sipush (pc := 13) (k_s999N) dX7_year_13 ?_
    refine s_icmp_neN (pc := 16) (by omega) (by omega) 22 dX7_year_16 (by decide) (fun c_16 => ?_) (fun c_16 => ?_)
    · refine s_aload_n (pc := 22) 0 rfl rfl dX7_year_22 ?_
      refine s_getr (pc := 23) (b := 56) fl_X7_25 rfl rfl rfl dX7_year_23 ?_
      refine s_iconst (pc := 26) (k_i3N) dX7_year_26 ?_
      refine s_ialdN (pc := 27) (_) rfl rfl (by omega) (RMw _ _ _ (by omega)) dX7_year_27 ?_
      refine s_bipush (pc := 28) (k_b40N) dX7_year_28 ?_
      refine s_icmp_neN (pc := 30) (by omega) (by omega) 36 dX7_year_30 (by decide) (fun c_30 => ?_) (fun c_30 => ?_)
      · exfalso; omega
      · refine s_bipush (pc := 33) (k_bm2) dX7_year_33 ?_
        refine s_iret (pc := 35) dX7_year_35 (PostE.of hp ?_ ?_)
        · rfl
        · rfl
    · exfalso; omega

set_option maxRecDepth 20000 in
theorem c_X7_yearO {a : Nat → Nat} {h : Hp} (hB : OkB a) (h0 : 0 < a 0) (h3 : a 3 < 40) : CT 4 yX7_year cX7_year 1 (some .int) [.ref 50] (wN h a) (some (.int (nI (a 1 + 1)))) (wN h (yearN a)) := by
  have hO := hB.1
  have hA := RMw h a
  obtain ⟨⟨o0, o1, o2, o3, o4, o5, o6⟩, os⟩ := id hO
  have o64 := hO.in64
  refine CT.of (own := RX7) rfl (by decide) (ro_i _) [.ref 50] rfl (Nat.le_of_ble_eq_true rfl) (fun E hp => ?_)
  refine s_aload_n (pc := 0) 0 rfl rfl dX7_year_0 ?_
  refine s_cvi0 (pc := 1) (c_X7_are (RMw h a) hO.1.1) ml_X7_198 mw_X7_are rfl (by decide) (Nat.le_of_ble_eq_true rfl) dX7_year_1 ?_
  refine s_if_eqB (pc := 4) 19 dX7_year_4 (by decide) (fun c_4 => ?_) (fun c_4 => ?_)
  · exfalso; omega
  · refine s_aload_n (pc := 7) 0 rfl rfl dX7_year_7 ?_
    refine s_getr (pc := 8) (b := 56) fl_X7_25 rfl rfl rfl dX7_year_8 ?_
    refine s_iconst (pc := 11) (k_i1N) dX7_year_11 ?_
    refine s_ialdN (pc := 12) (_) rfl rfl (by omega) (RMw _ _ _ (by omega)) dX7_year_12 ?_
    refine s_sipush (pc := 13) (k_s999N) dX7_year_13 ?_
    refine s_icmp_neN (pc := 16) (by omega) (by omega) 22 dX7_year_16 (by decide) (fun c_16 => ?_) (fun c_16 => ?_)
    · refine s_aload_n (pc := 22) 0 rfl rfl dX7_year_22 ?_
      refine s_getr (pc := 23) (b := 56) fl_X7_25 rfl rfl rfl dX7_year_23 ?_
      refine s_iconst (pc := 26) (k_i3N) dX7_year_26 ?_
      refine s_ialdN (pc := 27) (_) rfl rfl (by omega) (RMw _ _ _ (by omega)) dX7_year_27 ?_
      refine s_bipush (pc := 28) (k_b40N) dX7_year_28 ?_
      refine s_icmp_neN (pc := 30) (by omega) (by omega) 36 dX7_year_30 (by decide) (fun c_30 => ?_) (fun c_30 => ?_)
      · refine s_aload_n (pc := 36) 0 rfl rfl dX7_year_36 ?_
        refine s_iconst (pc := 37) (k_i4N) dX7_year_37 ?_
        refine s_iconst (pc := 38) (k_i0N) dX7_year_38 ?_
        refine s_iconst (pc := 39) (k_i0N) dX7_year_39 ?_
        refine s_iconst (pc := 40) (k_i0N) dX7_year_40 ?_
        refine s_cvn4 (pc := 41) (c_X7_notes h3) ml_X7_177 mw_X7_notes rfl (by decide) (Nat.le_of_ble_eq_true rfl) dX7_year_41 ?_
        refine s_aload_n (pc := 44) 0 rfl rfl dX7_year_44 ?_
        refine s_getr (pc := 45) (b := 56) fl_X7_25 rfl rfl rfl dX7_year_45 ?_
        refine s_iconst (pc := 48) (k_i1N) dX7_year_48 ?_
        refine s_dup2 (pc := 49) rfl rfl dX7_year_49 ?_
        refine s_ialdN (pc := 50) (v := a 1) (_) rfl rfl (by omega) (by rw [RMw _ _ _ (by omega)]; exact congrArg nI (noteN_lo (by omega) (by omega))) dX7_year_50 ?_
        refine s_iconst (pc := 51) (k_i1N) dX7_year_51 ?_
        refine s_iaddN (pc := 52) dX7_year_52 ?_
        refine s_iast (pc := 53) (_) rfl rfl (by omega) dX7_year_53 ?_
        rw [wN_ui (by omega)]
        refine s_aload_n (pc := 54) 0 rfl rfl dX7_year_54 ?_
        refine s_getr (pc := 55) (b := 56) fl_X7_25 rfl rfl rfl dX7_year_55 ?_
        refine s_iconst (pc := 58) (k_i1N) dX7_year_58 ?_
        refine s_ialdN (pc := 59) (v := a 1 + 1) (_) rfl rfl (by omega) (by rw [RMw _ _ _ (by omega)]; exact congrArg nI (year_v a).2) dX7_year_59 ?_
        refine s_iret (pc := 60) dX7_year_60 (PostE.of hp ?_ ?_)
        · rfl
        · rfl
      · exfalso; omega
    · exfalso; omega

def ugN (a : Nat → Nat) (s k : Nat) : Nat → Nat := fun j => if 14 ≤ j ∧ (j - 14) % 8 = 0 ∧ (j - 14) / 8 < k ∧ s.testBit ((j - 14) / 8) = true then a j - 1 else a j
theorem ugN_0 (a : Nat → Nat) (s : Nat) : ugN a s 0 = a := by funext j; simp only [ugN]; rw [if_neg (by omega)]
theorem ugN_s (a : Nat → Nat) (s k v : Nat) (hv : v = a (7 + 8 * k + 7) - (if s.testBit k = true then 1 else 0)) : au (ugN a s k) (7 + 8 * k + 7) v = ugN a s (k + 1) := by
  funext j
  simp only [au, ugN]
  by_cases hj : j = 7 + 8 * k + 7
  · subst hj
    rw [if_pos rfl, hv, show (7 + 8 * k + 7 - 14) / 8 = k by omega]
    by_cases hb : s.testBit k = true
    · rw [if_pos hb, if_pos ⟨by omega, by omega, by omega, hb⟩]
    · rw [if_neg hb, if_neg (fun q => hb q.2.2.2)]; rfl
  · rw [if_neg hj]
    by_cases hc : 14 ≤ j ∧ (j - 14) % 8 = 0 ∧ (j - 14) / 8 < k ∧ s.testBit ((j - 14) / 8) = true
    · rw [if_pos hc, if_pos ⟨hc.1, hc.2.1, by omega, hc.2.2.2⟩]
    · rw [if_neg hc, if_neg (fun q => hc ⟨q.1, q.2.1, by omega, q.2.2.2⟩)]
theorem ugN_k (a : Nat → Nat) (s k : Nat) : ugN a s k (7 + 8 * k + 7) = a (7 + 8 * k + 7) := by simp only [ugN]; rw [if_neg (by omega)]
theorem ugN_lo (a : Nat → Nat) (s k j : Nat) (h : j < 14) : ugN a s k j = a j := by simp only [ugN]; rw [if_neg (by omega)]
theorem nI_dec {v : Nat} (h : 1 ≤ v) : nI v + (-1) = nI (v - 1) := by
  obtain ⟨u, rfl⟩ : ∃ u, v = u + 1 := ⟨v - 1, by omega⟩
  exact pk_m1 u
/-- the deed noted at k, taken back -/
def tbN (a : Nat → Nat) (k : Nat) : Nat → Nat := if a k = 0 then au (au (au a 5 (a 5 ^^^ 2 ^ a (k + 1))) 6 (a 6 - a (k + 2))) 4 (a 4 + (1 + a (k + 2))) else if a k = 1 then au a (7 + 8 * a (k + 1) + 6) 0 else if a k = 2 then au a (7 + 8 * a (k + 1) + 5) (a (7 + 8 * a (k + 1) + 5) - 5) else if a k = 3 then ugN (au a 4 (a (k + 1))) (a (k + 2)) (a 0) else au a 1 (a 1 - 1)
def tbOk (a : Nat → Nat) (k : Nat) : Prop := a k < 5 ∧ a 0 ≤ 6 ∧ (a k ≤ 2 → a (k + 1) < 6) ∧ (a k = 0 → a 5 < 64 ∧ a (k + 2) ≤ a 6) ∧ (a k = 2 → 5 ≤ a (7 + 8 * a (k + 1) + 5)) ∧ (a k = 3 → a (k + 2) < 64 ∧ ∀ i, i < a 0 → (a (k + 2)).testBit i = true → 1 ≤ a (7 + 8 * i + 7)) ∧ (a k = 4 → 1 ≤ a 1)

set_option maxRecDepth 20000 in
theorem c_X7_groundsM {s : Nat} {a : Nat → Nat} {h : Hp} (hn : a 0 ≤ 6) (hs : s < 64) (hp1 : ∀ i, i < a 0 → s.testBit i = true → 1 ≤ a (7 + 8 * i + 7)) : CT 2 yX7_grounds cX7_grounds 4 none [.ref 50, .int (nI s), .int (-1)] (wN h a) (none) (wN h (ugN a s (a 0))) := by
  refine CT.of (own := RX7) rfl (by decide) ro_v [.ref 50, .int (nI s), .int (-1), .null] rfl (Nat.le_of_ble_eq_true rfl) (fun E hp => ?_)
  refine s_iconst (pc := 0) (k_i0N) dX7_grounds_0 ?_
  refine s_istore_n (pc := 1) 3 rfl (by decide) rfl dX7_grounds_1 ?_
  rw [show wN h a = wN h (ugN a s 0) by rw [ugN_0]]
  suffices lp_2 : ∀ k, k ≤ a 0 → WW E cX7_grounds RX7 4 _ 2 [.ref 50, .int (nI s), .int (-1), .int (nI k)] (wN h (ugN a s k)) [] from lp_2 0 (by omega)
  refine lpi (a 0) (fun k hk_k ih_2 => ?_)
  refine s_iload_n (pc := 2) 3 rfl rfl dX7_grounds_2 ?_
  refine s_aload_n (pc := 3) 0 rfl rfl dX7_grounds_3 ?_
  refine s_getr (pc := 4) (b := 56) fl_X7_25 rfl rfl rfl dX7_grounds_4 ?_
  refine s_iconst (pc := 7) (k_i0N) dX7_grounds_7 ?_
  refine s_ialdN (pc := 8) (v := a 0) (_) rfl rfl (by omega) (by rw [RMw _ _ _ (by omega)]; exact congrArg nI (ugN_lo _ _ _ _ (by omega))) dX7_grounds_8 ?_
  refine s_icmp_geN (pc := 9) (by omega) (by omega) 49 dX7_grounds_9 (by decide) (fun c_9 => ?_) (fun c_9 => ?_)
  · obtain rfl : k = a 0 := by omega
    refine s_vret (pc := 49) dX7_grounds_49 (PostE.of hp ?_ ?_)
    · rfl
    · rfl
  · refine s_aload_n (pc := 12) 0 rfl rfl dX7_grounds_12 ?_
    refine s_getr (pc := 13) (b := 56) fl_X7_25 rfl rfl rfl dX7_grounds_13 ?_
    refine s_bipush (pc := 16) (k_b7N) dX7_grounds_16 ?_
    refine s_bipush (pc := 18) (k_b8N) dX7_grounds_18 ?_
    refine s_iload_n (pc := 20) 3 rfl rfl dX7_grounds_20 ?_
    refine s_imulN (pc := 21) dX7_grounds_21 ?_
    refine s_iaddN (pc := 22) dX7_grounds_22 ?_
    refine s_bipush (pc := 23) (k_b7N) dX7_grounds_23 ?_
    refine s_iaddN (pc := 25) dX7_grounds_25 ?_
    refine s_dup2 (pc := 26) rfl rfl dX7_grounds_26 ?_
    refine s_ialdN (pc := 27) (v := a (7 + 8 * k + 7)) (_) rfl rfl (by omega) (by rw [RMw _ _ _ (by omega)]; exact congrArg nI (ugN_k _ _ _)) dX7_grounds_27 ?_
    refine s_iload_n (pc := 28) 1 rfl rfl dX7_grounds_28 ?_
    refine s_iload_n (pc := 29) 3 rfl rfl dX7_grounds_29 ?_
    refine s_csi2 (pc := 30) (c_X7_has (by omega) (by omega)) ml_X7_146 ms_X7_has (by decide) (Nat.le_of_ble_eq_true rfl) dX7_grounds_30 ?_
    refine s_if_eqB (pc := 33) 40 dX7_grounds_33 (by decide) (fun c_33 => ?_) (fun c_33 => ?_)
    · refine s_iconst (pc := 40) (k_i0N) dX7_grounds_40 ?_
      refine s_iaddN (pc := 41) dX7_grounds_41 ?_
      try rw [nI_dec p1]
      refine s_iast (pc := 42) (_) rfl rfl (by omega) dX7_grounds_42 ?_
      rw [wN_ui (by omega)]
      refine s_iincN (pc := 43) rfl (by decide) rfl dX7_grounds_43 ?_
      refine s_goto (pc := 46) 2 dX7_grounds_46 (by decide) ?_
      first | rw [ugN_s a s k _ (by rw [if_pos c_33])] | rw [ugN_s a s k _ (by rw [if_neg c_33]; rfl)]
      exact ih_2 (by omega)
    · have p1 := hp1 k (by omega) c_33
      refine s_iload_n (pc := 36) 2 rfl rfl dX7_grounds_36 ?_
      refine s_goto (pc := 37) 41 dX7_grounds_37 (by decide) ?_
      refine s_iadd (pc := 41) dX7_grounds_41 ?_
      try rw [nI_dec p1]
      refine s_iast (pc := 42) (_) rfl rfl (by omega) dX7_grounds_42 ?_
      rw [wN_ui (by omega)]
      refine s_iincN (pc := 43) rfl (by decide) rfl dX7_grounds_43 ?_
      refine s_goto (pc := 46) 2 dX7_grounds_46 (by decide) ?_
      first | rw [ugN_s a s k _ (by rw [if_pos c_33])] | rw [ugN_s a s k _ (by rw [if_neg c_33]; rfl)]
      exact ih_2 (by omega)


set_option maxRecDepth 20000 in
theorem c_X7_takesBack_0 {k : Nat} {a : Nat → Nat} {h : Hp} (hk : 55 ≤ k) (hk2 : k + 3 < 215) (hd : a k = 0) (ok : tbOk a k) : CT 3 yX7_takesBack cX7_takesBack 3 none [.ref 50, .int (nI k)] (wN h a) (none) (wN h (tbN a k)) := by
  obtain ⟨k5, n0, x6, d0, d2, d3, d4⟩ := ok
  obtain ⟨e5, e6⟩ := d0 hd
  have x7 := x6 (by omega)
  have pl := pow_lt31 (k := a (k + 1)) (by omega)
  refine CT.of (own := RX7) rfl (by decide) ro_v [.ref 50, .int (nI k), .null] rfl (Nat.le_of_ble_eq_true rfl) (fun E hp => ?_)
  refine s_aload_n (pc := 0) 0 rfl rfl dX7_takesBack_0 ?_
  refine s_getr (pc := 1) (b := 56) fl_X7_25 rfl rfl rfl dX7_takesBack_1 ?_
  refine s_iload_n (pc := 4) 1 rfl rfl dX7_takesBack_4 ?_
  refine s_iconst (pc := 5) (k_i1N) dX7_takesBack_5 ?_
  refine s_iaddN (pc := 6) dX7_takesBack_6 ?_
  refine s_ialdN (pc := 7) (_) rfl rfl (by omega) (RMw _ _ _ (by omega)) dX7_takesBack_7 ?_
  refine s_istore_n (pc := 8) 2 rfl (by decide) rfl dX7_takesBack_8 ?_
  refine s_aload_n (pc := 9) 0 rfl rfl dX7_takesBack_9 ?_
  refine s_getr (pc := 10) (b := 56) fl_X7_25 rfl rfl rfl dX7_takesBack_10 ?_
  refine s_iload_n (pc := 13) 1 rfl rfl dX7_takesBack_13 ?_
  refine s_ialdN (pc := 14) (v := 0) (_) rfl rfl (by omega) (by rw [RMw _ _ _ (by omega), hd]) dX7_takesBack_14 ?_
  refine s_tabIn (pc := 15) 44 dX7_takesBack_15 (by decide) (by decide) (off := 29) (by decide) (by decide) ?_
  refine s_aload_n (pc := 44) 0 rfl rfl dX7_takesBack_44 ?_
  refine s_getr (pc := 45) (b := 56) fl_X7_25 rfl rfl rfl dX7_takesBack_45 ?_
  refine s_iconst (pc := 48) (k_i5N) dX7_takesBack_48 ?_
  refine s_dup2 (pc := 49) rfl rfl dX7_takesBack_49 ?_
  refine s_ialdN (pc := 50) (_) rfl rfl (by omega) (RMw _ _ _ (by omega)) dX7_takesBack_50 ?_
  refine s_iconst (pc := 51) (k_i1N) dX7_takesBack_51 ?_
  refine s_iload_n (pc := 52) 2 rfl rfl dX7_takesBack_52 ?_
  refine s_ishl1N (pc := 53) (by omega) dX7_takesBack_53 ?_
  refine s_ixorN (pc := 54) (by omega) (by omega) dX7_takesBack_54 ?_
  refine s_iast (pc := 55) (_) rfl rfl (by omega) dX7_takesBack_55 ?_
  rw [wN_ui (by omega)]
  refine s_aload_n (pc := 56) 0 rfl rfl dX7_takesBack_56 ?_
  refine s_getr (pc := 57) (b := 56) fl_X7_25 rfl rfl rfl dX7_takesBack_57 ?_
  refine s_bipush (pc := 60) (k_b6N) dX7_takesBack_60 ?_
  refine s_dup2 (pc := 62) rfl rfl dX7_takesBack_62 ?_
  refine s_ialdN (pc := 63) (v := a 6) (_) rfl rfl (by omega) (by rw [RMw _ _ _ (by omega)]; first | rfl | (congr 1; simp only [au]; repeat rw [if_neg (by omega)])) dX7_takesBack_63 ?_
  refine s_aload_n (pc := 64) 0 rfl rfl dX7_takesBack_64 ?_
  refine s_getr (pc := 65) (b := 56) fl_X7_25 rfl rfl rfl dX7_takesBack_65 ?_
  refine s_iload_n (pc := 68) 1 rfl rfl dX7_takesBack_68 ?_
  refine s_iconst (pc := 69) (k_i2N) dX7_takesBack_69 ?_
  refine s_iaddN (pc := 70) dX7_takesBack_70 ?_
  refine s_ialdN (pc := 71) (v := a (k + 2)) (_) rfl rfl (by omega) (by rw [RMw _ _ _ (by omega)]; first | rfl | (congr 1; simp only [au]; repeat rw [if_neg (by omega)])) dX7_takesBack_71 ?_
  refine s_isubN (pc := 72) (by omega) dX7_takesBack_72 ?_
  refine s_iast (pc := 73) (_) rfl rfl (by omega) dX7_takesBack_73 ?_
  rw [wN_ui (by omega)]
  refine s_aload_n (pc := 74) 0 rfl rfl dX7_takesBack_74 ?_
  refine s_getr (pc := 75) (b := 56) fl_X7_25 rfl rfl rfl dX7_takesBack_75 ?_
  refine s_iconst (pc := 78) (k_i4N) dX7_takesBack_78 ?_
  refine s_dup2 (pc := 79) rfl rfl dX7_takesBack_79 ?_
  refine s_ialdN (pc := 80) (v := a 4) (_) rfl rfl (by omega) (by rw [RMw _ _ _ (by omega)]; first | rfl | (congr 1; simp only [au]; repeat rw [if_neg (by omega)])) dX7_takesBack_80 ?_
  refine s_iconst (pc := 81) (k_i1N) dX7_takesBack_81 ?_
  refine s_aload_n (pc := 82) 0 rfl rfl dX7_takesBack_82 ?_
  refine s_getr (pc := 83) (b := 56) fl_X7_25 rfl rfl rfl dX7_takesBack_83 ?_
  refine s_iload_n (pc := 86) 1 rfl rfl dX7_takesBack_86 ?_
  refine s_iconst (pc := 87) (k_i2N) dX7_takesBack_87 ?_
  refine s_iaddN (pc := 88) dX7_takesBack_88 ?_
  refine s_ialdN (pc := 89) (v := a (k + 2)) (_) rfl rfl (by omega) (by rw [RMw _ _ _ (by omega)]; first | rfl | (congr 1; simp only [au]; repeat rw [if_neg (by omega)])) dX7_takesBack_89 ?_
  refine s_iaddN (pc := 90) dX7_takesBack_90 ?_
  refine s_iaddN (pc := 91) dX7_takesBack_91 ?_
  refine s_iast (pc := 92) (_) rfl rfl (by omega) dX7_takesBack_92 ?_
  rw [wN_ui (by omega)]
  refine s_goto (pc := 93) 169 dX7_takesBack_93 (by decide) ?_
  refine s_vret (pc := 169) dX7_takesBack_169 (PostE.of hp ?_ ?_)
  · rfl
  · simp only [tbN, hd]; rfl

set_option maxRecDepth 20000 in
theorem c_X7_takesBack_1 {k : Nat} {a : Nat → Nat} {h : Hp} (hk : 55 ≤ k) (hk2 : k + 3 < 215) (hd : a k = 1) (ok : tbOk a k) : CT 3 yX7_takesBack cX7_takesBack 3 none [.ref 50, .int (nI k)] (wN h a) (none) (wN h (tbN a k)) := by
  obtain ⟨k5, n0, x6, d0, d2, d3, d4⟩ := ok
  have x7 := x6 (by omega)
  refine CT.of (own := RX7) rfl (by decide) ro_v [.ref 50, .int (nI k), .null] rfl (Nat.le_of_ble_eq_true rfl) (fun E hp => ?_)
  refine s_aload_n (pc := 0) 0 rfl rfl dX7_takesBack_0 ?_
  refine s_getr (pc := 1) (b := 56) fl_X7_25 rfl rfl rfl dX7_takesBack_1 ?_
  refine s_iload_n (pc := 4) 1 rfl rfl dX7_takesBack_4 ?_
  refine s_iconst (pc := 5) (k_i1N) dX7_takesBack_5 ?_
  refine s_iaddN (pc := 6) dX7_takesBack_6 ?_
  refine s_ialdN (pc := 7) (_) rfl rfl (by omega) (RMw _ _ _ (by omega)) dX7_takesBack_7 ?_
  refine s_istore_n (pc := 8) 2 rfl (by decide) rfl dX7_takesBack_8 ?_
  refine s_aload_n (pc := 9) 0 rfl rfl dX7_takesBack_9 ?_
  refine s_getr (pc := 10) (b := 56) fl_X7_25 rfl rfl rfl dX7_takesBack_10 ?_
  refine s_iload_n (pc := 13) 1 rfl rfl dX7_takesBack_13 ?_
  refine s_ialdN (pc := 14) (v := 1) (_) rfl rfl (by omega) (by rw [RMw _ _ _ (by omega), hd]) dX7_takesBack_14 ?_
  refine s_tabIn (pc := 15) 96 dX7_takesBack_15 (by decide) (by decide) (off := 81) (by decide) (by decide) ?_
  refine s_aload_n (pc := 96) 0 rfl rfl dX7_takesBack_96 ?_
  refine s_getr (pc := 97) (b := 56) fl_X7_25 rfl rfl rfl dX7_takesBack_97 ?_
  refine s_bipush (pc := 100) (k_b7N) dX7_takesBack_100 ?_
  refine s_bipush (pc := 102) (k_b8N) dX7_takesBack_102 ?_
  refine s_iload_n (pc := 104) 2 rfl rfl dX7_takesBack_104 ?_
  refine s_imulN (pc := 105) dX7_takesBack_105 ?_
  refine s_iaddN (pc := 106) dX7_takesBack_106 ?_
  refine s_bipush (pc := 107) (k_b6N) dX7_takesBack_107 ?_
  refine s_iaddN (pc := 109) dX7_takesBack_109 ?_
  refine s_iconst (pc := 110) (k_i0N) dX7_takesBack_110 ?_
  refine s_iast (pc := 111) (_) rfl rfl (by omega) dX7_takesBack_111 ?_
  rw [wN_ui (by omega)]
  refine s_goto (pc := 112) 169 dX7_takesBack_112 (by decide) ?_
  refine s_vret (pc := 169) dX7_takesBack_169 (PostE.of hp ?_ ?_)
  · rfl
  · simp only [tbN, hd]; rfl

set_option maxRecDepth 20000 in
theorem c_X7_takesBack_2 {k : Nat} {a : Nat → Nat} {h : Hp} (hk : 55 ≤ k) (hk2 : k + 3 < 215) (hd : a k = 2) (ok : tbOk a k) : CT 3 yX7_takesBack cX7_takesBack 3 none [.ref 50, .int (nI k)] (wN h a) (none) (wN h (tbN a k)) := by
  obtain ⟨k5, n0, x6, d0, d2, d3, d4⟩ := ok
  have x7 := x6 (by omega)
  have e5 := d2 hd
  refine CT.of (own := RX7) rfl (by decide) ro_v [.ref 50, .int (nI k), .null] rfl (Nat.le_of_ble_eq_true rfl) (fun E hp => ?_)
  refine s_aload_n (pc := 0) 0 rfl rfl dX7_takesBack_0 ?_
  refine s_getr (pc := 1) (b := 56) fl_X7_25 rfl rfl rfl dX7_takesBack_1 ?_
  refine s_iload_n (pc := 4) 1 rfl rfl dX7_takesBack_4 ?_
  refine s_iconst (pc := 5) (k_i1N) dX7_takesBack_5 ?_
  refine s_iaddN (pc := 6) dX7_takesBack_6 ?_
  refine s_ialdN (pc := 7) (_) rfl rfl (by omega) (RMw _ _ _ (by omega)) dX7_takesBack_7 ?_
  refine s_istore_n (pc := 8) 2 rfl (by decide) rfl dX7_takesBack_8 ?_
  refine s_aload_n (pc := 9) 0 rfl rfl dX7_takesBack_9 ?_
  refine s_getr (pc := 10) (b := 56) fl_X7_25 rfl rfl rfl dX7_takesBack_10 ?_
  refine s_iload_n (pc := 13) 1 rfl rfl dX7_takesBack_13 ?_
  refine s_ialdN (pc := 14) (v := 2) (_) rfl rfl (by omega) (by rw [RMw _ _ _ (by omega), hd]) dX7_takesBack_14 ?_
  refine s_tabIn (pc := 15) 115 dX7_takesBack_15 (by decide) (by decide) (off := 100) (by decide) (by decide) ?_
  refine s_aload_n (pc := 115) 0 rfl rfl dX7_takesBack_115 ?_
  refine s_getr (pc := 116) (b := 56) fl_X7_25 rfl rfl rfl dX7_takesBack_116 ?_
  refine s_bipush (pc := 119) (k_b7N) dX7_takesBack_119 ?_
  refine s_bipush (pc := 121) (k_b8N) dX7_takesBack_121 ?_
  refine s_iload_n (pc := 123) 2 rfl rfl dX7_takesBack_123 ?_
  refine s_imulN (pc := 124) dX7_takesBack_124 ?_
  refine s_iaddN (pc := 125) dX7_takesBack_125 ?_
  refine s_iconst (pc := 126) (k_i5N) dX7_takesBack_126 ?_
  refine s_iaddN (pc := 127) dX7_takesBack_127 ?_
  refine s_dup2 (pc := 128) rfl rfl dX7_takesBack_128 ?_
  refine s_ialdN (pc := 129) (_) rfl rfl (by omega) (RMw _ _ _ (by omega)) dX7_takesBack_129 ?_
  refine s_iconst (pc := 130) (k_i5N) dX7_takesBack_130 ?_
  refine s_isubN (pc := 131) (by omega) dX7_takesBack_131 ?_
  refine s_iast (pc := 132) (_) rfl rfl (by omega) dX7_takesBack_132 ?_
  rw [wN_ui (by omega)]
  refine s_goto (pc := 133) 169 dX7_takesBack_133 (by decide) ?_
  refine s_vret (pc := 169) dX7_takesBack_169 (PostE.of hp ?_ ?_)
  · rfl
  · simp only [tbN, hd]; rfl

set_option maxRecDepth 20000 in
theorem c_X7_takesBack_3 {k : Nat} {a : Nat → Nat} {h : Hp} (hk : 55 ≤ k) (hk2 : k + 3 < 215) (hd : a k = 3) (ok : tbOk a k) : CT 3 yX7_takesBack cX7_takesBack 3 none [.ref 50, .int (nI k)] (wN h a) (none) (wN h (tbN a k)) := by
  obtain ⟨k5, n0, x6, d0, d2, d3, d4⟩ := ok
  obtain ⟨e5, e6⟩ := d3 hd
  refine CT.of (own := RX7) rfl (by decide) ro_v [.ref 50, .int (nI k), .null] rfl (Nat.le_of_ble_eq_true rfl) (fun E hp => ?_)
  refine s_aload_n (pc := 0) 0 rfl rfl dX7_takesBack_0 ?_
  refine s_getr (pc := 1) (b := 56) fl_X7_25 rfl rfl rfl dX7_takesBack_1 ?_
  refine s_iload_n (pc := 4) 1 rfl rfl dX7_takesBack_4 ?_
  refine s_iconst (pc := 5) (k_i1N) dX7_takesBack_5 ?_
  refine s_iaddN (pc := 6) dX7_takesBack_6 ?_
  refine s_ialdN (pc := 7) (_) rfl rfl (by omega) (RMw _ _ _ (by omega)) dX7_takesBack_7 ?_
  refine s_istore_n (pc := 8) 2 rfl (by decide) rfl dX7_takesBack_8 ?_
  refine s_aload_n (pc := 9) 0 rfl rfl dX7_takesBack_9 ?_
  refine s_getr (pc := 10) (b := 56) fl_X7_25 rfl rfl rfl dX7_takesBack_10 ?_
  refine s_iload_n (pc := 13) 1 rfl rfl dX7_takesBack_13 ?_
  refine s_ialdN (pc := 14) (v := 3) (_) rfl rfl (by omega) (by rw [RMw _ _ _ (by omega), hd]) dX7_takesBack_14 ?_
  refine s_tabIn (pc := 15) 136 dX7_takesBack_15 (by decide) (by decide) (off := 121) (by decide) (by decide) ?_
  refine s_aload_n (pc := 136) 0 rfl rfl dX7_takesBack_136 ?_
  refine s_getr (pc := 137) (b := 56) fl_X7_25 rfl rfl rfl dX7_takesBack_137 ?_
  refine s_iconst (pc := 140) (k_i4N) dX7_takesBack_140 ?_
  refine s_iload_n (pc := 141) 2 rfl rfl dX7_takesBack_141 ?_
  refine s_iast (pc := 142) (_) rfl rfl (by omega) dX7_takesBack_142 ?_
  rw [wN_ui (by omega)]
  refine s_aload_n (pc := 143) 0 rfl rfl dX7_takesBack_143 ?_
  refine s_aload_n (pc := 144) 0 rfl rfl dX7_takesBack_144 ?_
  refine s_getr (pc := 145) (b := 56) fl_X7_25 rfl rfl rfl dX7_takesBack_145 ?_
  refine s_iload_n (pc := 148) 1 rfl rfl dX7_takesBack_148 ?_
  refine s_iconst (pc := 149) (k_i2N) dX7_takesBack_149 ?_
  refine s_iaddN (pc := 150) dX7_takesBack_150 ?_
  refine s_ialdN (pc := 151) (v := a (k + 2)) (_) rfl rfl (by omega) (by rw [RMw _ _ _ (by omega)]; first | rfl | (congr 1; simp only [au]; repeat rw [if_neg (by omega)])) dX7_takesBack_151 ?_
  refine s_iconst (pc := 152) (k_im1) dX7_takesBack_152 ?_
  refine s_cvn2 (pc := 153) (c_X7_groundsM (a := au a 4 (a (k + 1))) (by show au a 4 _ 0 ≤ 6; exact n0) e5 (fun i hi hb => by show 1 ≤ au a 4 _ (7 + 8 * i + 7); simp only [au]; rw [if_neg (by omega)]; exact e6 i hi hb)) ml_X7_195 mw_X7_grounds rfl (by decide) (Nat.le_of_ble_eq_true rfl) dX7_takesBack_153 ?_
  refine s_goto (pc := 156) 169 dX7_takesBack_156 (by decide) ?_
  refine s_vret (pc := 169) dX7_takesBack_169 (PostE.of hp ?_ ?_)
  · rfl
  · simp only [tbN, hd]; rfl

set_option maxRecDepth 20000 in
theorem c_X7_takesBack_4 {k : Nat} {a : Nat → Nat} {h : Hp} (hk : 55 ≤ k) (hk2 : k + 3 < 215) (hd : a k = 4) (ok : tbOk a k) : CT 3 yX7_takesBack cX7_takesBack 3 none [.ref 50, .int (nI k)] (wN h a) (none) (wN h (tbN a k)) := by
  obtain ⟨k5, n0, x6, d0, d2, d3, d4⟩ := ok
  have e5 := d4 hd
  refine CT.of (own := RX7) rfl (by decide) ro_v [.ref 50, .int (nI k), .null] rfl (Nat.le_of_ble_eq_true rfl) (fun E hp => ?_)
  refine s_aload_n (pc := 0) 0 rfl rfl dX7_takesBack_0 ?_
  refine s_getr (pc := 1) (b := 56) fl_X7_25 rfl rfl rfl dX7_takesBack_1 ?_
  refine s_iload_n (pc := 4) 1 rfl rfl dX7_takesBack_4 ?_
  refine s_iconst (pc := 5) (k_i1N) dX7_takesBack_5 ?_
  refine s_iaddN (pc := 6) dX7_takesBack_6 ?_
  refine s_ialdN (pc := 7) (_) rfl rfl (by omega) (RMw _ _ _ (by omega)) dX7_takesBack_7 ?_
  refine s_istore_n (pc := 8) 2 rfl (by decide) rfl dX7_takesBack_8 ?_
  refine s_aload_n (pc := 9) 0 rfl rfl dX7_takesBack_9 ?_
  refine s_getr (pc := 10) (b := 56) fl_X7_25 rfl rfl rfl dX7_takesBack_10 ?_
  refine s_iload_n (pc := 13) 1 rfl rfl dX7_takesBack_13 ?_
  refine s_ialdN (pc := 14) (v := 4) (_) rfl rfl (by omega) (by rw [RMw _ _ _ (by omega), hd]) dX7_takesBack_14 ?_
  refine s_tabOut (pc := 15) 159 dX7_takesBack_15 (by decide) (by decide) ?_
  refine s_aload_n (pc := 159) 0 rfl rfl dX7_takesBack_159 ?_
  refine s_getr (pc := 160) (b := 56) fl_X7_25 rfl rfl rfl dX7_takesBack_160 ?_
  refine s_iconst (pc := 163) (k_i1N) dX7_takesBack_163 ?_
  refine s_dup2 (pc := 164) rfl rfl dX7_takesBack_164 ?_
  refine s_ialdN (pc := 165) (_) rfl rfl (by omega) (RMw _ _ _ (by omega)) dX7_takesBack_165 ?_
  refine s_iconst (pc := 166) (k_i1N) dX7_takesBack_166 ?_
  refine s_isubN (pc := 167) (by omega) dX7_takesBack_167 ?_
  refine s_iast (pc := 168) (_) rfl rfl (by omega) dX7_takesBack_168 ?_
  rw [wN_ui (by omega)]
  refine s_vret (pc := 169) dX7_takesBack_169 (PostE.of hp ?_ ?_)
  · rfl
  · simp only [tbN, hd]; rfl
