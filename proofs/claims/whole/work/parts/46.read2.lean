set_option maxRecDepth 20000 in
theorem c_X1_readHeadF0_35 {t m q : Nat} {f : Nat → Int32} {h : Hp} (ht : t < 4) (hf : ∀ j, j < 60 → h.1 (12 + 1 + t) j = f j) (hm : m ≤ 60) (hq : h.1 35 8 = nI q) (hqm : q ≤ m) (h0 : ¬ (q < m ∧ f q = nI 104)) : CT 4 yX1_readHead cX1_readHead 3 (some .boolean) [.ref 35, .ref (12 + 1 + t), .int (nI m)] h (some (.int (bi False))) (h) := by
  refine CT.of (own := RX1) rfl (by decide) (ro_z _) [.ref 35, .ref (12 + 1 + t), .int (nI m)] rfl (Nat.le_of_ble_eq_true rfl) (fun E hp => ?_)
  refine s_aload_n (pc := 0) 0 rfl rfl dX1_readHead_0 ?_
  refine s_aload_n (pc := 1) 1 rfl rfl dX1_readHead_1 ?_
  refine s_iload_n (pc := 2) 2 rfl rfl dX1_readHead_2 ?_
  refine s_cvi2 (pc := 3) (c_X1_signHere_35 ht hf hm hq hqm) ml_X1_51 mw_X1_signHere rfl (by decide) (Nat.le_of_ble_eq_true rfl) dX1_readHead_3 ?_
  refine s_bipush (pc := 6) (k_b104N) dX1_readHead_6 ?_
  refine s_icmp_eq (pc := 8) 13 dX1_readHead_8 (by decide) (fun c_8 => ?_) (fun c_8 => ?_)
  · exfalso; exact h0 ((lk_eq (by decide)).mp c_8)
  · refine s_iconst (pc := 11) (k_i0N) dX1_readHead_11 ?_
    refine s_iret (pc := 12) dX1_readHead_12 (PostE.of hp ?_ ?_)
    · rfl
    · rfl

set_option maxRecDepth 20000 in
theorem c_X1_readHeadF1_35 {t m q : Nat} {f : Nat → Int32} {h : Hp} (ht : t < 4) (hf : ∀ j, j < 60 → h.1 (12 + 1 + t) j = f j) (hm : m ≤ 60) (hq : h.1 35 8 = nI q) (hqm : q ≤ m) (h0 : q < m ∧ f q = nI 104) (h1 : ¬ dgB f m 0 (q + 1) = true) : CT 4 yX1_readHead cX1_readHead 3 (some .boolean) [.ref 35, .ref (12 + 1 + t), .int (nI m)] h (some (.int (bi False))) (ui (ui (h) 35 8 (nI (q + 1))) 35 6 (-1)) := by
  refine CT.of (own := RX1) rfl (by decide) (ro_z _) [.ref 35, .ref (12 + 1 + t), .int (nI m)] rfl (Nat.le_of_ble_eq_true rfl) (fun E hp => ?_)
  refine s_aload_n (pc := 0) 0 rfl rfl dX1_readHead_0 ?_
  refine s_aload_n (pc := 1) 1 rfl rfl dX1_readHead_1 ?_
  refine s_iload_n (pc := 2) 2 rfl rfl dX1_readHead_2 ?_
  refine s_cvi2 (pc := 3) (c_X1_signHere_35 ht hf hm hq hqm) ml_X1_51 mw_X1_signHere rfl (by decide) (Nat.le_of_ble_eq_true rfl) dX1_readHead_3 ?_
  refine s_bipush (pc := 6) (k_b104N) dX1_readHead_6 ?_
  refine s_icmp_eq (pc := 8) 13 dX1_readHead_8 (by decide) (fun c_8 => ?_) (fun c_8 => ?_)
  · refine s_aload_n (pc := 13) 0 rfl rfl dX1_readHead_13 ?_
    refine s_dup (pc := 14) rfl dX1_readHead_14 ?_
    refine s_getiE (pc := 15) fl_X1_37 rfl rfl hq dX1_readHead_15 ?_
    refine s_iconst (pc := 18) (k_i1N) dX1_readHead_18 ?_
    refine s_iaddN (pc := 19) dX1_readHead_19 ?_
    refine s_puti (pc := 20) fl_X1_37 fw_1_8 rfl rfl dX1_readHead_20 ?_
    refine s_aload_n (pc := 23) 0 rfl rfl dX1_readHead_23 ?_
    refine s_aload_n (pc := 24) 0 rfl rfl dX1_readHead_24 ?_
    refine s_aload_n (pc := 25) 1 rfl rfl dX1_readHead_25 ?_
    refine s_iload_n (pc := 26) 2 rfl rfl dX1_readHead_26 ?_
    refine s_cvi2 (pc := 27) (c_X1_readTwoFiguresF1_35 (f := f) (h := ui (h) 35 8 (nI (q + 1))) (q := q + 1) ht (fun j hj => by (repeat rw [ui_ne (by omega)]); exact hf j hj) hm (by simp [ui]) (by omega) h1) ml_X1_55 mw_X1_readTwoFigures rfl (by decide) (Nat.le_of_ble_eq_true rfl) dX1_readHead_27 ?_
    refine s_puti (pc := 30) fl_X1_31 fw_1_6 rfl rfl dX1_readHead_30 ?_
    refine s_aload_n (pc := 33) 0 rfl rfl dX1_readHead_33 ?_
    refine s_getiE (pc := 34) fl_X1_31 rfl rfl (show _ = (-1 : Int32) by simp [ui]) dX1_readHead_34 ?_
    refine s_if_ge (pc := 37) 42 dX1_readHead_37 (by decide) (fun c_37 => ?_) (fun c_37 => ?_)
    · exfalso; exact absurd c_37 (by decide)
    · refine s_iconst (pc := 40) (k_i0N) dX1_readHead_40 ?_
      refine s_iret (pc := 41) dX1_readHead_41 (PostE.of hp ?_ ?_)
      · rfl
      · rfl
  · exfalso; exact c_8 ((lk_eq (by decide)).mpr h0)

set_option maxRecDepth 20000 in
theorem c_X1_readHeadF2_35 {t m q : Nat} {f : Nat → Int32} {h : Hp} (ht : t < 4) (hf : ∀ j, j < 60 → h.1 (12 + 1 + t) j = f j) (hm : m ≤ 60) (hq : h.1 35 8 = nI q) (hqm : q ≤ m) (h0 : q < m ∧ f q = nI 104) (h1 : dgB f m 0 (q + 1) = true) (h2 : ¬ dgB f m 0 (q + 2) = true) : CT 4 yX1_readHead cX1_readHead 3 (some .boolean) [.ref 35, .ref (12 + 1 + t), .int (nI m)] h (some (.int (bi False))) (ui (ui (ui (h) 35 8 (nI (q + 1))) 35 8 (nI (q + 1 + 1))) 35 6 (-1)) := by
  refine CT.of (own := RX1) rfl (by decide) (ro_z _) [.ref 35, .ref (12 + 1 + t), .int (nI m)] rfl (Nat.le_of_ble_eq_true rfl) (fun E hp => ?_)
  refine s_aload_n (pc := 0) 0 rfl rfl dX1_readHead_0 ?_
  refine s_aload_n (pc := 1) 1 rfl rfl dX1_readHead_1 ?_
  refine s_iload_n (pc := 2) 2 rfl rfl dX1_readHead_2 ?_
  refine s_cvi2 (pc := 3) (c_X1_signHere_35 ht hf hm hq hqm) ml_X1_51 mw_X1_signHere rfl (by decide) (Nat.le_of_ble_eq_true rfl) dX1_readHead_3 ?_
  refine s_bipush (pc := 6) (k_b104N) dX1_readHead_6 ?_
  refine s_icmp_eq (pc := 8) 13 dX1_readHead_8 (by decide) (fun c_8 => ?_) (fun c_8 => ?_)
  · refine s_aload_n (pc := 13) 0 rfl rfl dX1_readHead_13 ?_
    refine s_dup (pc := 14) rfl dX1_readHead_14 ?_
    refine s_getiE (pc := 15) fl_X1_37 rfl rfl hq dX1_readHead_15 ?_
    refine s_iconst (pc := 18) (k_i1N) dX1_readHead_18 ?_
    refine s_iaddN (pc := 19) dX1_readHead_19 ?_
    refine s_puti (pc := 20) fl_X1_37 fw_1_8 rfl rfl dX1_readHead_20 ?_
    refine s_aload_n (pc := 23) 0 rfl rfl dX1_readHead_23 ?_
    refine s_aload_n (pc := 24) 0 rfl rfl dX1_readHead_24 ?_
    refine s_aload_n (pc := 25) 1 rfl rfl dX1_readHead_25 ?_
    refine s_iload_n (pc := 26) 2 rfl rfl dX1_readHead_26 ?_
    refine s_cvi2 (pc := 27) (c_X1_readTwoFiguresF2_35 (f := f) (h := ui (h) 35 8 (nI (q + 1))) (q := q + 1) ht (fun j hj => by (repeat rw [ui_ne (by omega)]); exact hf j hj) hm (by simp [ui]) (by omega) h1 h2) ml_X1_55 mw_X1_readTwoFigures rfl (by decide) (Nat.le_of_ble_eq_true rfl) dX1_readHead_27 ?_
    refine s_puti (pc := 30) fl_X1_31 fw_1_6 rfl rfl dX1_readHead_30 ?_
    refine s_aload_n (pc := 33) 0 rfl rfl dX1_readHead_33 ?_
    refine s_getiE (pc := 34) fl_X1_31 rfl rfl (show _ = (-1 : Int32) by simp [ui]) dX1_readHead_34 ?_
    refine s_if_ge (pc := 37) 42 dX1_readHead_37 (by decide) (fun c_37 => ?_) (fun c_37 => ?_)
    · exfalso; exact absurd c_37 (by decide)
    · refine s_iconst (pc := 40) (k_i0N) dX1_readHead_40 ?_
      refine s_iret (pc := 41) dX1_readHead_41 (PostE.of hp ?_ ?_)
      · rfl
      · rfl
  · exfalso; exact c_8 ((lk_eq (by decide)).mpr h0)

set_option maxRecDepth 20000 in
theorem c_X1_readHeadF3_35 {t m q : Nat} {f : Nat → Int32} {h : Hp} (ht : t < 4) (hf : ∀ j, j < 60 → h.1 (12 + 1 + t) j = f j) (hm : m ≤ 60) (hq : h.1 35 8 = nI q) (hqm : q ≤ m) (h0 : q < m ∧ f q = nI 104) (h1 : dgB f m 0 (q + 1) = true) (h2 : dgB f m 0 (q + 2) = true) (h3 : ¬ dgB f m 1 (q + 3) = true) : CT 4 yX1_readHead cX1_readHead 3 (some .boolean) [.ref 35, .ref (12 + 1 + t), .int (nI m)] h (some (.int (bi False))) (ui (ui (ui (ui (h) 35 8 (nI (q + 1))) 35 8 (nI (q + 1 + 2))) 35 6 (nI (10 * dvN f (q + 1) + dvN f (q + 2)))) 35 7 (-1)) := by
  have l2 := dg_lt h2
  have b1 := dg_v (Nat.zero_le _) h1
  have b2 := dg_v (Nat.zero_le _) h2
  refine CT.of (own := RX1) rfl (by decide) (ro_z _) [.ref 35, .ref (12 + 1 + t), .int (nI m)] rfl (Nat.le_of_ble_eq_true rfl) (fun E hp => ?_)
  refine s_aload_n (pc := 0) 0 rfl rfl dX1_readHead_0 ?_
  refine s_aload_n (pc := 1) 1 rfl rfl dX1_readHead_1 ?_
  refine s_iload_n (pc := 2) 2 rfl rfl dX1_readHead_2 ?_
  refine s_cvi2 (pc := 3) (c_X1_signHere_35 ht hf hm hq hqm) ml_X1_51 mw_X1_signHere rfl (by decide) (Nat.le_of_ble_eq_true rfl) dX1_readHead_3 ?_
  refine s_bipush (pc := 6) (k_b104N) dX1_readHead_6 ?_
  refine s_icmp_eq (pc := 8) 13 dX1_readHead_8 (by decide) (fun c_8 => ?_) (fun c_8 => ?_)
  · refine s_aload_n (pc := 13) 0 rfl rfl dX1_readHead_13 ?_
    refine s_dup (pc := 14) rfl dX1_readHead_14 ?_
    refine s_getiE (pc := 15) fl_X1_37 rfl rfl hq dX1_readHead_15 ?_
    refine s_iconst (pc := 18) (k_i1N) dX1_readHead_18 ?_
    refine s_iaddN (pc := 19) dX1_readHead_19 ?_
    refine s_puti (pc := 20) fl_X1_37 fw_1_8 rfl rfl dX1_readHead_20 ?_
    refine s_aload_n (pc := 23) 0 rfl rfl dX1_readHead_23 ?_
    refine s_aload_n (pc := 24) 0 rfl rfl dX1_readHead_24 ?_
    refine s_aload_n (pc := 25) 1 rfl rfl dX1_readHead_25 ?_
    refine s_iload_n (pc := 26) 2 rfl rfl dX1_readHead_26 ?_
    refine s_cvi2 (pc := 27) (c_X1_readTwoFiguresT_35 (f := f) (h := ui (h) 35 8 (nI (q + 1))) (q := q + 1) ht (fun j hj => by (repeat rw [ui_ne (by omega)]); exact hf j hj) hm (by simp [ui]) (by omega) h1 h2) ml_X1_55 mw_X1_readTwoFigures rfl (by decide) (Nat.le_of_ble_eq_true rfl) dX1_readHead_27 ?_
    refine s_puti (pc := 30) fl_X1_31 fw_1_6 rfl rfl dX1_readHead_30 ?_
    refine s_aload_n (pc := 33) 0 rfl rfl dX1_readHead_33 ?_
    refine s_getiE (pc := 34) fl_X1_31 rfl rfl (show _ = nI (10 * dvN f (q + 1) + dvN f (q + 2)) by simp [ui]) dX1_readHead_34 ?_
    refine s_if_geN (pc := 37) (by omega) 42 dX1_readHead_37 (by decide) ?_
    refine s_aload_n (pc := 42) 0 rfl rfl dX1_readHead_42 ?_
    refine s_aload_n (pc := 43) 0 rfl rfl dX1_readHead_43 ?_
    refine s_aload_n (pc := 44) 1 rfl rfl dX1_readHead_44 ?_
    refine s_iload_n (pc := 45) 2 rfl rfl dX1_readHead_45 ?_
    refine s_iconst (pc := 46) (k_i1N) dX1_readHead_46 ?_
    refine s_cvi3 (pc := 47) (c_X1_readFigureF_35 (f := f) (h := ui (ui (ui (h) 35 8 (nI (q + 1))) 35 8 (nI (q + 1 + 2))) 35 6 (nI (10 * dvN f (q + 1) + dvN f (q + 2)))) (q := q + 3) ht (fun j hj => by (repeat rw [ui_ne (by omega)]); exact hf j hj) hm (by simp [ui]) (by omega) (by decide) h3) ml_X1_58 mw_X1_readFigure rfl (by decide) (Nat.le_of_ble_eq_true rfl) dX1_readHead_47 ?_
    refine s_puti (pc := 50) fl_X1_34 fw_1_7 rfl rfl dX1_readHead_50 ?_
    refine s_aload_n (pc := 53) 0 rfl rfl dX1_readHead_53 ?_
    refine s_getiE (pc := 54) fl_X1_34 rfl rfl (show _ = (-1 : Int32) by simp [ui]) dX1_readHead_54 ?_
    refine s_if_le (pc := 57) 64 dX1_readHead_57 (by decide) (fun c_57 => ?_) (fun c_57 => ?_)
    · refine s_iconst (pc := 64) (k_i0N) dX1_readHead_64 ?_
      refine s_iret (pc := 65) dX1_readHead_65 (PostE.of hp ?_ ?_)
      · rfl
      · rfl
    · exfalso; exact c_57 (by decide)
  · exfalso; exact c_8 ((lk_eq (by decide)).mpr h0)

set_option maxRecDepth 20000 in
theorem c_X1_readHeadT_35 {t m q : Nat} {f : Nat → Int32} {h : Hp} (ht : t < 4) (hf : ∀ j, j < 60 → h.1 (12 + 1 + t) j = f j) (hm : m ≤ 60) (hq : h.1 35 8 = nI q) (hqm : q ≤ m) (h0 : q < m ∧ f q = nI 104) (h1 : dgB f m 0 (q + 1) = true) (h2 : dgB f m 0 (q + 2) = true) (h3 : dgB f m 1 (q + 3) = true) : CT 4 yX1_readHead cX1_readHead 3 (some .boolean) [.ref 35, .ref (12 + 1 + t), .int (nI m)] h (some (.int (bi True))) (ui (ui (ui (ui (ui (h) 35 8 (nI (q + 1))) 35 8 (nI (q + 1 + 2))) 35 6 (nI (10 * dvN f (q + 1) + dvN f (q + 2)))) 35 8 (nI (q + 1 + 2 + 1))) 35 7 (nI (dvN f (q + 3)))) := by
  have l2 := dg_lt h2
  have l3 := dg_lt h3
  have b1 := dg_v (Nat.zero_le _) h1
  have b2 := dg_v (Nat.zero_le _) h2
  have b3 := dg_v (by decide) h3
  refine CT.of (own := RX1) rfl (by decide) (ro_z _) [.ref 35, .ref (12 + 1 + t), .int (nI m)] rfl (Nat.le_of_ble_eq_true rfl) (fun E hp => ?_)
  refine s_aload_n (pc := 0) 0 rfl rfl dX1_readHead_0 ?_
  refine s_aload_n (pc := 1) 1 rfl rfl dX1_readHead_1 ?_
  refine s_iload_n (pc := 2) 2 rfl rfl dX1_readHead_2 ?_
  refine s_cvi2 (pc := 3) (c_X1_signHere_35 ht hf hm hq hqm) ml_X1_51 mw_X1_signHere rfl (by decide) (Nat.le_of_ble_eq_true rfl) dX1_readHead_3 ?_
  refine s_bipush (pc := 6) (k_b104N) dX1_readHead_6 ?_
  refine s_icmp_eq (pc := 8) 13 dX1_readHead_8 (by decide) (fun c_8 => ?_) (fun c_8 => ?_)
  · refine s_aload_n (pc := 13) 0 rfl rfl dX1_readHead_13 ?_
    refine s_dup (pc := 14) rfl dX1_readHead_14 ?_
    refine s_getiE (pc := 15) fl_X1_37 rfl rfl hq dX1_readHead_15 ?_
    refine s_iconst (pc := 18) (k_i1N) dX1_readHead_18 ?_
    refine s_iaddN (pc := 19) dX1_readHead_19 ?_
    refine s_puti (pc := 20) fl_X1_37 fw_1_8 rfl rfl dX1_readHead_20 ?_
    refine s_aload_n (pc := 23) 0 rfl rfl dX1_readHead_23 ?_
    refine s_aload_n (pc := 24) 0 rfl rfl dX1_readHead_24 ?_
    refine s_aload_n (pc := 25) 1 rfl rfl dX1_readHead_25 ?_
    refine s_iload_n (pc := 26) 2 rfl rfl dX1_readHead_26 ?_
    refine s_cvi2 (pc := 27) (c_X1_readTwoFiguresT_35 (f := f) (h := ui (h) 35 8 (nI (q + 1))) (q := q + 1) ht (fun j hj => by (repeat rw [ui_ne (by omega)]); exact hf j hj) hm (by simp [ui]) (by omega) h1 h2) ml_X1_55 mw_X1_readTwoFigures rfl (by decide) (Nat.le_of_ble_eq_true rfl) dX1_readHead_27 ?_
    refine s_puti (pc := 30) fl_X1_31 fw_1_6 rfl rfl dX1_readHead_30 ?_
    refine s_aload_n (pc := 33) 0 rfl rfl dX1_readHead_33 ?_
    refine s_getiE (pc := 34) fl_X1_31 rfl rfl (show _ = nI (10 * dvN f (q + 1) + dvN f (q + 2)) by simp [ui]) dX1_readHead_34 ?_
    refine s_if_geN (pc := 37) (by omega) 42 dX1_readHead_37 (by decide) ?_
    refine s_aload_n (pc := 42) 0 rfl rfl dX1_readHead_42 ?_
    refine s_aload_n (pc := 43) 0 rfl rfl dX1_readHead_43 ?_
    refine s_aload_n (pc := 44) 1 rfl rfl dX1_readHead_44 ?_
    refine s_iload_n (pc := 45) 2 rfl rfl dX1_readHead_45 ?_
    refine s_iconst (pc := 46) (k_i1N) dX1_readHead_46 ?_
    refine s_cvi3 (pc := 47) (c_X1_readFigureT_35 (f := f) (h := ui (ui (ui (h) 35 8 (nI (q + 1))) 35 8 (nI (q + 1 + 2))) 35 6 (nI (10 * dvN f (q + 1) + dvN f (q + 2)))) (q := q + 3) ht (fun j hj => by (repeat rw [ui_ne (by omega)]); exact hf j hj) hm (by simp [ui]) (by omega) (by decide) h3) ml_X1_58 mw_X1_readFigure rfl (by decide) (Nat.le_of_ble_eq_true rfl) dX1_readHead_47 ?_
    refine s_puti (pc := 50) fl_X1_34 fw_1_7 rfl rfl dX1_readHead_50 ?_
    refine s_aload_n (pc := 53) 0 rfl rfl dX1_readHead_53 ?_
    refine s_getiE (pc := 54) fl_X1_34 rfl rfl (show _ = nI (dvN f (q + 3)) by simp [ui]) dX1_readHead_54 ?_
    refine s_if_leN (pc := 57) (by omega) 64 dX1_readHead_57 (by decide) (fun c_57 => ?_) (fun c_57 => ?_)
    · exfalso; omega
    · refine s_iconst (pc := 60) (k_i1N) dX1_readHead_60 ?_
      refine s_goto (pc := 61) 65 dX1_readHead_61 (by decide) ?_
      refine s_iret (pc := 65) dX1_readHead_65 (PostE.of hp ?_ ?_)
      · rfl
      · rfl
  · exfalso; exact c_8 ((lk_eq (by decide)).mpr h0)

set_option maxRecDepth 20000 in
theorem c_X1_readShipF0a_35 {n : Nat} {t m q : Nat} {f : Nat → Int32} {h : Hp} (ht : t < 4) (hf : ∀ j, j < 60 → h.1 (12 + 1 + t) j = f j) (hm : m ≤ 60) (hq : h.1 35 8 = nI q) (hqm : q ≤ m) (hn : h.1 35 5 = nI n) (hn7 : n ≤ 7) (h0 : ¬ (q < m ∧ kdN (f q) < 6)) : CT 4 yX1_readShip cX1_readShip 4 (some .boolean) [.ref 35, .ref (12 + 1 + t), .int (nI m)] h (some (.int (bi False))) (h) := by
  refine CT.of (own := RX1) rfl (by decide) (ro_z _) [.ref 35, .ref (12 + 1 + t), .int (nI m), .null] rfl (Nat.le_of_ble_eq_true rfl) (fun E hp => ?_)
  refine s_aload_n (pc := 0) 0 rfl rfl dX1_readShip_0 ?_
  refine s_aload_n (pc := 1) 1 rfl rfl dX1_readShip_1 ?_
  refine s_iload_n (pc := 2) 2 rfl rfl dX1_readShip_2 ?_
  refine s_cvi2 (pc := 3) (c_X1_signHere_35 ht hf hm hq hqm) ml_X1_51 mw_X1_signHere rfl (by decide) (Nat.le_of_ble_eq_true rfl) dX1_readShip_3 ?_
  refine s_csi1 (pc := 6) (c_X1_kindOfF (fun z => h0 ((lk_kd kd_z.1).mp z))) ml_X1_62 ms_X1_kindOf (by decide) (Nat.le_of_ble_eq_true rfl) dX1_readShip_6 ?_
  refine s_istore_n (pc := 9) 3 rfl (by decide) rfl dX1_readShip_9 ?_
  refine s_iload_n (pc := 10) 3 rfl rfl dX1_readShip_10 ?_
  refine s_if_lt (pc := 11) 30 dX1_readShip_11 (by decide) (fun c_11 => ?_) (fun c_11 => ?_)
  · refine s_iconst (pc := 30) (k_i0N) dX1_readShip_30 ?_
    refine s_iret (pc := 31) dX1_readShip_31 (PostE.of hp ?_ ?_)
    · rfl
    · rfl
  · exfalso; exact c_11 (by decide)

set_option maxRecDepth 20000 in
theorem c_X1_readShipF0b_35 {n : Nat} {t m q : Nat} {f : Nat → Int32} {h : Hp} (ht : t < 4) (hf : ∀ j, j < 60 → h.1 (12 + 1 + t) j = f j) (hm : m ≤ 60) (hq : h.1 35 8 = nI q) (hqm : q ≤ m) (hn : h.1 35 5 = nI n) (hn7 : n ≤ 7) (h0 : q < m ∧ kdN (f q) < 6) (h6 : ¬ n < 6) : CT 4 yX1_readShip cX1_readShip 4 (some .boolean) [.ref 35, .ref (12 + 1 + t), .int (nI m)] h (some (.int (bi False))) (h) := by
  have k6 := kd_le (lkN f m q (nI 1000))
  refine CT.of (own := RX1) rfl (by decide) (ro_z _) [.ref 35, .ref (12 + 1 + t), .int (nI m), .null] rfl (Nat.le_of_ble_eq_true rfl) (fun E hp => ?_)
  refine s_aload_n (pc := 0) 0 rfl rfl dX1_readShip_0 ?_
  refine s_aload_n (pc := 1) 1 rfl rfl dX1_readShip_1 ?_
  refine s_iload_n (pc := 2) 2 rfl rfl dX1_readShip_2 ?_
  refine s_cvi2 (pc := 3) (c_X1_signHere_35 ht hf hm hq hqm) ml_X1_51 mw_X1_signHere rfl (by decide) (Nat.le_of_ble_eq_true rfl) dX1_readShip_3 ?_
  refine s_csi1 (pc := 6) (c_X1_kindOfT ((lk_kd kd_z.1).mpr h0)) ml_X1_62 ms_X1_kindOf (by decide) (Nat.le_of_ble_eq_true rfl) dX1_readShip_6 ?_
  refine s_istore_n (pc := 9) 3 rfl (by decide) rfl dX1_readShip_9 ?_
  refine s_iload_n (pc := 10) 3 rfl rfl dX1_readShip_10 ?_
  refine s_if_ltN (pc := 11) (by omega) 30 dX1_readShip_11 (by decide) ?_
  refine s_aload_n (pc := 14) 0 rfl rfl dX1_readShip_14 ?_
  refine s_getiE (pc := 15) fl_X1_27 rfl rfl hn dX1_readShip_15 ?_
  refine s_if_ltN (pc := 18) (by omega) 30 dX1_readShip_18 (by decide) ?_
  refine s_aload_n (pc := 21) 0 rfl rfl dX1_readShip_21 ?_
  refine s_getiE (pc := 22) fl_X1_27 rfl rfl hn dX1_readShip_22 ?_
  refine s_bipush (pc := 25) (k_b6N) dX1_readShip_25 ?_
  refine s_icmp_ltN (pc := 27) (by omega) (by omega) 32 dX1_readShip_27 (by decide) (fun c_27 => ?_) (fun c_27 => ?_)
  · exfalso; omega
  · refine s_iconst (pc := 30) (k_i0N) dX1_readShip_30 ?_
    refine s_iret (pc := 31) dX1_readShip_31 (PostE.of hp ?_ ?_)
    · rfl
    · rfl

set_option maxRecDepth 20000 in
theorem c_X1_readShipF1_35 {n : Nat} {t m q : Nat} {f : Nat → Int32} {h : Hp} (ht : t < 4) (hf : ∀ j, j < 60 → h.1 (12 + 1 + t) j = f j) (hm : m ≤ 60) (hq : h.1 35 8 = nI q) (hqm : q ≤ m) (hn : h.1 35 5 = nI n) (hn7 : n ≤ 7) (h0 : q < m ∧ kdN (f q) < 6 ∧ n < 6) (h1 : ¬ dgB f m 0 (q + 1) = true) : CT 4 yX1_readShip cX1_readShip 4 (some .boolean) [.ref 35, .ref (12 + 1 + t), .int (nI m)] h (some (.int (bi False))) (ui (ui (ui (h) 35 8 (nI (q + 1))) 36 n (nI (kdN (f q)))) 37 n (-1)) := by
  obtain ⟨k0, k1, n6⟩ := h0
  have ek : lkN f m q (nI 1000) = f q := if_pos k0
  refine CT.of (own := RX1) rfl (by decide) (ro_z _) [.ref 35, .ref (12 + 1 + t), .int (nI m), .null] rfl (Nat.le_of_ble_eq_true rfl) (fun E hp => ?_)
  refine s_aload_n (pc := 0) 0 rfl rfl dX1_readShip_0 ?_
  refine s_aload_n (pc := 1) 1 rfl rfl dX1_readShip_1 ?_
  refine s_iload_n (pc := 2) 2 rfl rfl dX1_readShip_2 ?_
  refine s_cvi2 (pc := 3) (c_X1_signHere_35 ht hf hm hq hqm) ml_X1_51 mw_X1_signHere rfl (by decide) (Nat.le_of_ble_eq_true rfl) dX1_readShip_3 ?_
  refine WW.top ek ?_
  refine s_csi1 (pc := 6) (c_X1_kindOfT k1) ml_X1_62 ms_X1_kindOf (by decide) (Nat.le_of_ble_eq_true rfl) dX1_readShip_6 ?_
  refine s_istore_n (pc := 9) 3 rfl (by decide) rfl dX1_readShip_9 ?_
  refine s_iload_n (pc := 10) 3 rfl rfl dX1_readShip_10 ?_
  refine s_if_ltN (pc := 11) (by omega) 30 dX1_readShip_11 (by decide) ?_
  refine s_aload_n (pc := 14) 0 rfl rfl dX1_readShip_14 ?_
  refine s_getiE (pc := 15) fl_X1_27 rfl rfl hn dX1_readShip_15 ?_
  refine s_if_ltN (pc := 18) (by omega) 30 dX1_readShip_18 (by decide) ?_
  refine s_aload_n (pc := 21) 0 rfl rfl dX1_readShip_21 ?_
  refine s_getiE (pc := 22) fl_X1_27 rfl rfl hn dX1_readShip_22 ?_
  refine s_bipush (pc := 25) (k_b6N) dX1_readShip_25 ?_
  refine s_icmp_ltN (pc := 27) (by omega) (by omega) 32 dX1_readShip_27 (by decide) (fun c_27 => ?_) (fun c_27 => ?_)
  · refine s_aload_n (pc := 32) 0 rfl rfl dX1_readShip_32 ?_
    refine s_dup (pc := 33) rfl dX1_readShip_33 ?_
    refine s_getiE (pc := 34) fl_X1_37 rfl rfl hq dX1_readShip_34 ?_
    refine s_iconst (pc := 37) (k_i1N) dX1_readShip_37 ?_
    refine s_iaddN (pc := 38) dX1_readShip_38 ?_
    refine s_puti (pc := 39) fl_X1_37 fw_1_8 rfl rfl dX1_readShip_39 ?_
    refine s_aload_n (pc := 42) 0 rfl rfl dX1_readShip_42 ?_
    refine s_getr (pc := 43) (b := 36) fl_X1_9 rfl rfl rfl dX1_readShip_43 ?_
    refine s_aload_n (pc := 46) 0 rfl rfl dX1_readShip_46 ?_
    refine s_getiE (pc := 47) fl_X1_27 rfl rfl (show _ = nI n by simp [ui, hn]) dX1_readShip_47 ?_
    refine s_iload_n (pc := 50) 3 rfl rfl dX1_readShip_50 ?_
    refine s_iast (pc := 51) (_) rfl rfl (by omega) dX1_readShip_51 ?_
    refine s_aload_n (pc := 52) 0 rfl rfl dX1_readShip_52 ?_
    refine s_getr (pc := 53) (b := 37) fl_X1_15 rfl rfl rfl dX1_readShip_53 ?_
    refine s_aload_n (pc := 56) 0 rfl rfl dX1_readShip_56 ?_
    refine s_getiE (pc := 57) fl_X1_27 rfl rfl (show _ = nI n by simp [ui, hn]) dX1_readShip_57 ?_
    refine s_aload_n (pc := 60) 0 rfl rfl dX1_readShip_60 ?_
    refine s_aload_n (pc := 61) 1 rfl rfl dX1_readShip_61 ?_
    refine s_iload_n (pc := 62) 2 rfl rfl dX1_readShip_62 ?_
    refine s_cvi2 (pc := 63) (c_X1_readTwoFiguresF1_35 (f := f) (h := ui (ui (h) 35 8 (nI (q + 1))) 36 n (nI (kdN (f q)))) (q := q + 1) ht (fun j hj => by (repeat rw [ui_ne (by omega)]); exact hf j hj) hm (by simp [ui]) (by omega) h1) ml_X1_55 mw_X1_readTwoFigures rfl (by decide) (Nat.le_of_ble_eq_true rfl) dX1_readShip_63 ?_
    refine s_iast (pc := 66) (_) rfl rfl (by omega) dX1_readShip_66 ?_
    refine s_aload_n (pc := 67) 0 rfl rfl dX1_readShip_67 ?_
    refine s_getr (pc := 68) (b := 37) fl_X1_15 rfl rfl rfl dX1_readShip_68 ?_
    refine s_aload_n (pc := 71) 0 rfl rfl dX1_readShip_71 ?_
    refine s_getiE (pc := 72) fl_X1_27 rfl rfl (show _ = nI n by simp [ui, hn]) dX1_readShip_72 ?_
    refine s_ialdE (pc := 75) (_) rfl rfl (by omega) (show _ = (-1 : Int32) by simp [ui]) dX1_readShip_75 ?_
    refine s_if_ge (pc := 76) 81 dX1_readShip_76 (by decide) (fun c_76 => ?_) (fun c_76 => ?_)
    · exfalso; exact absurd c_76 (by decide)
    · refine s_iconst (pc := 79) (k_i0N) dX1_readShip_79 ?_
      refine s_iret (pc := 80) dX1_readShip_80 (PostE.of hp ?_ ?_)
      · rfl
      · rfl
  · exfalso; omega

set_option maxRecDepth 20000 in
theorem c_X1_readShipF2_35 {n : Nat} {t m q : Nat} {f : Nat → Int32} {h : Hp} (ht : t < 4) (hf : ∀ j, j < 60 → h.1 (12 + 1 + t) j = f j) (hm : m ≤ 60) (hq : h.1 35 8 = nI q) (hqm : q ≤ m) (hn : h.1 35 5 = nI n) (hn7 : n ≤ 7) (h0 : q < m ∧ kdN (f q) < 6 ∧ n < 6) (h1 : dgB f m 0 (q + 1) = true) (h2 : ¬ dgB f m 0 (q + 2) = true) : CT 4 yX1_readShip cX1_readShip 4 (some .boolean) [.ref 35, .ref (12 + 1 + t), .int (nI m)] h (some (.int (bi False))) (ui (ui (ui (ui (h) 35 8 (nI (q + 1))) 36 n (nI (kdN (f q)))) 35 8 (nI (q + 1 + 1))) 37 n (-1)) := by
  obtain ⟨k0, k1, n6⟩ := h0
  have ek : lkN f m q (nI 1000) = f q := if_pos k0
  refine CT.of (own := RX1) rfl (by decide) (ro_z _) [.ref 35, .ref (12 + 1 + t), .int (nI m), .null] rfl (Nat.le_of_ble_eq_true rfl) (fun E hp => ?_)
  refine s_aload_n (pc := 0) 0 rfl rfl dX1_readShip_0 ?_
  refine s_aload_n (pc := 1) 1 rfl rfl dX1_readShip_1 ?_
  refine s_iload_n (pc := 2) 2 rfl rfl dX1_readShip_2 ?_
  refine s_cvi2 (pc := 3) (c_X1_signHere_35 ht hf hm hq hqm) ml_X1_51 mw_X1_signHere rfl (by decide) (Nat.le_of_ble_eq_true rfl) dX1_readShip_3 ?_
  refine WW.top ek ?_
  refine s_csi1 (pc := 6) (c_X1_kindOfT k1) ml_X1_62 ms_X1_kindOf (by decide) (Nat.le_of_ble_eq_true rfl) dX1_readShip_6 ?_
  refine s_istore_n (pc := 9) 3 rfl (by decide) rfl dX1_readShip_9 ?_
  refine s_iload_n (pc := 10) 3 rfl rfl dX1_readShip_10 ?_
  refine s_if_ltN (pc := 11) (by omega) 30 dX1_readShip_11 (by decide) ?_
  refine s_aload_n (pc := 14) 0 rfl rfl dX1_readShip_14 ?_
  refine s_getiE (pc := 15) fl_X1_27 rfl rfl hn dX1_readShip_15 ?_
  refine s_if_ltN (pc := 18) (by omega) 30 dX1_readShip_18 (by decide) ?_
  refine s_aload_n (pc := 21) 0 rfl rfl dX1_readShip_21 ?_
  refine s_getiE (pc := 22) fl_X1_27 rfl rfl hn dX1_readShip_22 ?_
  refine s_bipush (pc := 25) (k_b6N) dX1_readShip_25 ?_
  refine s_icmp_ltN (pc := 27) (by omega) (by omega) 32 dX1_readShip_27 (by decide) (fun c_27 => ?_) (fun c_27 => ?_)
  · refine s_aload_n (pc := 32) 0 rfl rfl dX1_readShip_32 ?_
    refine s_dup (pc := 33) rfl dX1_readShip_33 ?_
    refine s_getiE (pc := 34) fl_X1_37 rfl rfl hq dX1_readShip_34 ?_
    refine s_iconst (pc := 37) (k_i1N) dX1_readShip_37 ?_
    refine s_iaddN (pc := 38) dX1_readShip_38 ?_
    refine s_puti (pc := 39) fl_X1_37 fw_1_8 rfl rfl dX1_readShip_39 ?_
    refine s_aload_n (pc := 42) 0 rfl rfl dX1_readShip_42 ?_
    refine s_getr (pc := 43) (b := 36) fl_X1_9 rfl rfl rfl dX1_readShip_43 ?_
    refine s_aload_n (pc := 46) 0 rfl rfl dX1_readShip_46 ?_
    refine s_getiE (pc := 47) fl_X1_27 rfl rfl (show _ = nI n by simp [ui, hn]) dX1_readShip_47 ?_
    refine s_iload_n (pc := 50) 3 rfl rfl dX1_readShip_50 ?_
    refine s_iast (pc := 51) (_) rfl rfl (by omega) dX1_readShip_51 ?_
    refine s_aload_n (pc := 52) 0 rfl rfl dX1_readShip_52 ?_
    refine s_getr (pc := 53) (b := 37) fl_X1_15 rfl rfl rfl dX1_readShip_53 ?_
    refine s_aload_n (pc := 56) 0 rfl rfl dX1_readShip_56 ?_
    refine s_getiE (pc := 57) fl_X1_27 rfl rfl (show _ = nI n by simp [ui, hn]) dX1_readShip_57 ?_
    refine s_aload_n (pc := 60) 0 rfl rfl dX1_readShip_60 ?_
    refine s_aload_n (pc := 61) 1 rfl rfl dX1_readShip_61 ?_
    refine s_iload_n (pc := 62) 2 rfl rfl dX1_readShip_62 ?_
    refine s_cvi2 (pc := 63) (c_X1_readTwoFiguresF2_35 (f := f) (h := ui (ui (h) 35 8 (nI (q + 1))) 36 n (nI (kdN (f q)))) (q := q + 1) ht (fun j hj => by (repeat rw [ui_ne (by omega)]); exact hf j hj) hm (by simp [ui]) (by omega) h1 h2) ml_X1_55 mw_X1_readTwoFigures rfl (by decide) (Nat.le_of_ble_eq_true rfl) dX1_readShip_63 ?_
    refine s_iast (pc := 66) (_) rfl rfl (by omega) dX1_readShip_66 ?_
    refine s_aload_n (pc := 67) 0 rfl rfl dX1_readShip_67 ?_
    refine s_getr (pc := 68) (b := 37) fl_X1_15 rfl rfl rfl dX1_readShip_68 ?_
    refine s_aload_n (pc := 71) 0 rfl rfl dX1_readShip_71 ?_
    refine s_getiE (pc := 72) fl_X1_27 rfl rfl (show _ = nI n by simp [ui, hn]) dX1_readShip_72 ?_
    refine s_ialdE (pc := 75) (_) rfl rfl (by omega) (show _ = (-1 : Int32) by simp [ui]) dX1_readShip_75 ?_
    refine s_if_ge (pc := 76) 81 dX1_readShip_76 (by decide) (fun c_76 => ?_) (fun c_76 => ?_)
    · exfalso; exact absurd c_76 (by decide)
    · refine s_iconst (pc := 79) (k_i0N) dX1_readShip_79 ?_
      refine s_iret (pc := 80) dX1_readShip_80 (PostE.of hp ?_ ?_)
      · rfl
      · rfl
  · exfalso; omega

set_option maxRecDepth 20000 in
theorem c_X1_readShipF3_35 {n : Nat} {t m q : Nat} {f : Nat → Int32} {h : Hp} (ht : t < 4) (hf : ∀ j, j < 60 → h.1 (12 + 1 + t) j = f j) (hm : m ≤ 60) (hq : h.1 35 8 = nI q) (hqm : q ≤ m) (hn : h.1 35 5 = nI n) (hn7 : n ≤ 7) (h0 : q < m ∧ kdN (f q) < 6 ∧ n < 6) (h1 : dgB f m 0 (q + 1) = true) (h2 : dgB f m 0 (q + 2) = true) (h3 : ¬ dgB f m 0 (q + 3) = true) : CT 4 yX1_readShip cX1_readShip 4 (some .boolean) [.ref 35, .ref (12 + 1 + t), .int (nI m)] h (some (.int (bi False))) (ui (ui (ui (ui (ui (h) 35 8 (nI (q + 1))) 36 n (nI (kdN (f q)))) 35 8 (nI (q + 1 + 2))) 37 n (nI (10 * dvN f (q + 1) + dvN f (q + 2)))) 38 n (-1)) := by
  obtain ⟨k0, k1, n6⟩ := h0
  have ek : lkN f m q (nI 1000) = f q := if_pos k0
  have b1 := dg_v (Nat.zero_le _) h1
  have b2 := dg_v (Nat.zero_le _) h2
  refine CT.of (own := RX1) rfl (by decide) (ro_z _) [.ref 35, .ref (12 + 1 + t), .int (nI m), .null] rfl (Nat.le_of_ble_eq_true rfl) (fun E hp => ?_)
  refine s_aload_n (pc := 0) 0 rfl rfl dX1_readShip_0 ?_
  refine s_aload_n (pc := 1) 1 rfl rfl dX1_readShip_1 ?_
  refine s_iload_n (pc := 2) 2 rfl rfl dX1_readShip_2 ?_
  refine s_cvi2 (pc := 3) (c_X1_signHere_35 ht hf hm hq hqm) ml_X1_51 mw_X1_signHere rfl (by decide) (Nat.le_of_ble_eq_true rfl) dX1_readShip_3 ?_
  refine WW.top ek ?_
  refine s_csi1 (pc := 6) (c_X1_kindOfT k1) ml_X1_62 ms_X1_kindOf (by decide) (Nat.le_of_ble_eq_true rfl) dX1_readShip_6 ?_
  refine s_istore_n (pc := 9) 3 rfl (by decide) rfl dX1_readShip_9 ?_
  refine s_iload_n (pc := 10) 3 rfl rfl dX1_readShip_10 ?_
  refine s_if_ltN (pc := 11) (by omega) 30 dX1_readShip_11 (by decide) ?_
  refine s_aload_n (pc := 14) 0 rfl rfl dX1_readShip_14 ?_
  refine s_getiE (pc := 15) fl_X1_27 rfl rfl hn dX1_readShip_15 ?_
  refine s_if_ltN (pc := 18) (by omega) 30 dX1_readShip_18 (by decide) ?_
  refine s_aload_n (pc := 21) 0 rfl rfl dX1_readShip_21 ?_
  refine s_getiE (pc := 22) fl_X1_27 rfl rfl hn dX1_readShip_22 ?_
  refine s_bipush (pc := 25) (k_b6N) dX1_readShip_25 ?_
  refine s_icmp_ltN (pc := 27) (by omega) (by omega) 32 dX1_readShip_27 (by decide) (fun c_27 => ?_) (fun c_27 => ?_)
  · refine s_aload_n (pc := 32) 0 rfl rfl dX1_readShip_32 ?_
    refine s_dup (pc := 33) rfl dX1_readShip_33 ?_
    refine s_getiE (pc := 34) fl_X1_37 rfl rfl hq dX1_readShip_34 ?_
    refine s_iconst (pc := 37) (k_i1N) dX1_readShip_37 ?_
    refine s_iaddN (pc := 38) dX1_readShip_38 ?_
    refine s_puti (pc := 39) fl_X1_37 fw_1_8 rfl rfl dX1_readShip_39 ?_
    refine s_aload_n (pc := 42) 0 rfl rfl dX1_readShip_42 ?_
    refine s_getr (pc := 43) (b := 36) fl_X1_9 rfl rfl rfl dX1_readShip_43 ?_
    refine s_aload_n (pc := 46) 0 rfl rfl dX1_readShip_46 ?_
    refine s_getiE (pc := 47) fl_X1_27 rfl rfl (show _ = nI n by simp [ui, hn]) dX1_readShip_47 ?_
    refine s_iload_n (pc := 50) 3 rfl rfl dX1_readShip_50 ?_
    refine s_iast (pc := 51) (_) rfl rfl (by omega) dX1_readShip_51 ?_
    refine s_aload_n (pc := 52) 0 rfl rfl dX1_readShip_52 ?_
    refine s_getr (pc := 53) (b := 37) fl_X1_15 rfl rfl rfl dX1_readShip_53 ?_
    refine s_aload_n (pc := 56) 0 rfl rfl dX1_readShip_56 ?_
    refine s_getiE (pc := 57) fl_X1_27 rfl rfl (show _ = nI n by simp [ui, hn]) dX1_readShip_57 ?_
    refine s_aload_n (pc := 60) 0 rfl rfl dX1_readShip_60 ?_
    refine s_aload_n (pc := 61) 1 rfl rfl dX1_readShip_61 ?_
    refine s_iload_n (pc := 62) 2 rfl rfl dX1_readShip_62 ?_
    refine s_cvi2 (pc := 63) (c_X1_readTwoFiguresT_35 (f := f) (h := ui (ui (h) 35 8 (nI (q + 1))) 36 n (nI (kdN (f q)))) (q := q + 1) ht (fun j hj => by (repeat rw [ui_ne (by omega)]); exact hf j hj) hm (by simp [ui]) (by omega) h1 h2) ml_X1_55 mw_X1_readTwoFigures rfl (by decide) (Nat.le_of_ble_eq_true rfl) dX1_readShip_63 ?_
    refine s_iast (pc := 66) (_) rfl rfl (by omega) dX1_readShip_66 ?_
    refine s_aload_n (pc := 67) 0 rfl rfl dX1_readShip_67 ?_
    refine s_getr (pc := 68) (b := 37) fl_X1_15 rfl rfl rfl dX1_readShip_68 ?_
    refine s_aload_n (pc := 71) 0 rfl rfl dX1_readShip_71 ?_
    refine s_getiE (pc := 72) fl_X1_27 rfl rfl (show _ = nI n by simp [ui, hn]) dX1_readShip_72 ?_
    refine s_ialdN (pc := 75) (v := 10 * dvN f (q + 1) + dvN f (q + 2)) (_) rfl rfl (by omega) (by simp [ui]) dX1_readShip_75 ?_
    refine s_if_geN (pc := 76) (by omega) 81 dX1_readShip_76 (by decide) ?_
    refine s_aload_n (pc := 81) 0 rfl rfl dX1_readShip_81 ?_
    refine s_getr (pc := 82) (b := 38) fl_X1_18 rfl rfl rfl dX1_readShip_82 ?_
    refine s_aload_n (pc := 85) 0 rfl rfl dX1_readShip_85 ?_
    refine s_getiE (pc := 86) fl_X1_27 rfl rfl (show _ = nI n by simp [ui, hn]) dX1_readShip_86 ?_
    refine s_aload_n (pc := 89) 0 rfl rfl dX1_readShip_89 ?_
    refine s_aload_n (pc := 90) 1 rfl rfl dX1_readShip_90 ?_
    refine s_iload_n (pc := 91) 2 rfl rfl dX1_readShip_91 ?_
    refine s_iconst (pc := 92) (k_i0N) dX1_readShip_92 ?_
    refine s_cvi3 (pc := 93) (c_X1_readFigureF_35 (f := f) (h := ui (ui (ui (ui (h) 35 8 (nI (q + 1))) 36 n (nI (kdN (f q)))) 35 8 (nI (q + 1 + 2))) 37 n (nI (10 * dvN f (q + 1) + dvN f (q + 2)))) (q := q + 3) ht (fun j hj => by (repeat rw [ui_ne (by omega)]); exact hf j hj) hm (by simp [ui]) (by omega) (Nat.zero_le _) h3) ml_X1_58 mw_X1_readFigure rfl (by decide) (Nat.le_of_ble_eq_true rfl) dX1_readShip_93 ?_
    refine s_iast (pc := 96) (_) rfl rfl (by omega) dX1_readShip_96 ?_
    refine s_aload_n (pc := 97) 0 rfl rfl dX1_readShip_97 ?_
    refine s_getr (pc := 98) (b := 38) fl_X1_18 rfl rfl rfl dX1_readShip_98 ?_
    refine s_aload_n (pc := 101) 0 rfl rfl dX1_readShip_101 ?_
    refine s_getiE (pc := 102) fl_X1_27 rfl rfl (show _ = nI n by simp [ui, hn]) dX1_readShip_102 ?_
    refine s_ialdE (pc := 105) (_) rfl rfl (by omega) (show _ = (-1 : Int32) by simp [ui]) dX1_readShip_105 ?_
    refine s_if_ge (pc := 106) 111 dX1_readShip_106 (by decide) (fun c_106 => ?_) (fun c_106 => ?_)
    · exfalso; exact absurd c_106 (by decide)
    · refine s_iconst (pc := 109) (k_i0N) dX1_readShip_109 ?_
      refine s_iret (pc := 110) dX1_readShip_110 (PostE.of hp ?_ ?_)
      · rfl
      · rfl
  · exfalso; omega

set_option maxRecDepth 20000 in
theorem c_X1_readShipF4_35 {n : Nat} {t m q : Nat} {f : Nat → Int32} {h : Hp} (ht : t < 4) (hf : ∀ j, j < 60 → h.1 (12 + 1 + t) j = f j) (hm : m ≤ 60) (hq : h.1 35 8 = nI q) (hqm : q ≤ m) (hn : h.1 35 5 = nI n) (hn7 : n ≤ 7) (h0 : q < m ∧ kdN (f q) < 6 ∧ n < 6) (h1 : dgB f m 0 (q + 1) = true) (h2 : dgB f m 0 (q + 2) = true) (h3 : dgB f m 0 (q + 3) = true) (h4 : ¬ dgB f m 0 (q + 4) = true) : CT 4 yX1_readShip cX1_readShip 4 (some .boolean) [.ref 35, .ref (12 + 1 + t), .int (nI m)] h (some (.int (bi False))) (ui (ui (ui (ui (ui (ui (ui (h) 35 8 (nI (q + 1))) 36 n (nI (kdN (f q)))) 35 8 (nI (q + 1 + 2))) 37 n (nI (10 * dvN f (q + 1) + dvN f (q + 2)))) 35 8 (nI (q + 3 + 1))) 38 n (nI (dvN f (q + 3)))) 39 n (-1)) := by
  obtain ⟨k0, k1, n6⟩ := h0
  have ek : lkN f m q (nI 1000) = f q := if_pos k0
  have b1 := dg_v (Nat.zero_le _) h1
  have b2 := dg_v (Nat.zero_le _) h2
  have b3 := dg_v (Nat.zero_le _) h3
  refine CT.of (own := RX1) rfl (by decide) (ro_z _) [.ref 35, .ref (12 + 1 + t), .int (nI m), .null] rfl (Nat.le_of_ble_eq_true rfl) (fun E hp => ?_)
  refine s_aload_n (pc := 0) 0 rfl rfl dX1_readShip_0 ?_
  refine s_aload_n (pc := 1) 1 rfl rfl dX1_readShip_1 ?_
  refine s_iload_n (pc := 2) 2 rfl rfl dX1_readShip_2 ?_
  refine s_cvi2 (pc := 3) (c_X1_signHere_35 ht hf hm hq hqm) ml_X1_51 mw_X1_signHere rfl (by decide) (Nat.le_of_ble_eq_true rfl) dX1_readShip_3 ?_
  refine WW.top ek ?_
  refine s_csi1 (pc := 6) (c_X1_kindOfT k1) ml_X1_62 ms_X1_kindOf (by decide) (Nat.le_of_ble_eq_true rfl) dX1_readShip_6 ?_
  refine s_istore_n (pc := 9) 3 rfl (by decide) rfl dX1_readShip_9 ?_
  refine s_iload_n (pc := 10) 3 rfl rfl dX1_readShip_10 ?_
  refine s_if_ltN (pc := 11) (by omega) 30 dX1_readShip_11 (by decide) ?_
  refine s_aload_n (pc := 14) 0 rfl rfl dX1_readShip_14 ?_
  refine s_getiE (pc := 15) fl_X1_27 rfl rfl hn dX1_readShip_15 ?_
  refine s_if_ltN (pc := 18) (by omega) 30 dX1_readShip_18 (by decide) ?_
  refine s_aload_n (pc := 21) 0 rfl rfl dX1_readShip_21 ?_
  refine s_getiE (pc := 22) fl_X1_27 rfl rfl hn dX1_readShip_22 ?_
  refine s_bipush (pc := 25) (k_b6N) dX1_readShip_25 ?_
  refine s_icmp_ltN (pc := 27) (by omega) (by omega) 32 dX1_readShip_27 (by decide) (fun c_27 => ?_) (fun c_27 => ?_)
  · refine s_aload_n (pc := 32) 0 rfl rfl dX1_readShip_32 ?_
    refine s_dup (pc := 33) rfl dX1_readShip_33 ?_
    refine s_getiE (pc := 34) fl_X1_37 rfl rfl hq dX1_readShip_34 ?_
    refine s_iconst (pc := 37) (k_i1N) dX1_readShip_37 ?_
    refine s_iaddN (pc := 38) dX1_readShip_38 ?_
    refine s_puti (pc := 39) fl_X1_37 fw_1_8 rfl rfl dX1_readShip_39 ?_
    refine s_aload_n (pc := 42) 0 rfl rfl dX1_readShip_42 ?_
    refine s_getr (pc := 43) (b := 36) fl_X1_9 rfl rfl rfl dX1_readShip_43 ?_
    refine s_aload_n (pc := 46) 0 rfl rfl dX1_readShip_46 ?_
    refine s_getiE (pc := 47) fl_X1_27 rfl rfl (show _ = nI n by simp [ui, hn]) dX1_readShip_47 ?_
    refine s_iload_n (pc := 50) 3 rfl rfl dX1_readShip_50 ?_
    refine s_iast (pc := 51) (_) rfl rfl (by omega) dX1_readShip_51 ?_
    refine s_aload_n (pc := 52) 0 rfl rfl dX1_readShip_52 ?_
    refine s_getr (pc := 53) (b := 37) fl_X1_15 rfl rfl rfl dX1_readShip_53 ?_
    refine s_aload_n (pc := 56) 0 rfl rfl dX1_readShip_56 ?_
    refine s_getiE (pc := 57) fl_X1_27 rfl rfl (show _ = nI n by simp [ui, hn]) dX1_readShip_57 ?_
    refine s_aload_n (pc := 60) 0 rfl rfl dX1_readShip_60 ?_
    refine s_aload_n (pc := 61) 1 rfl rfl dX1_readShip_61 ?_
    refine s_iload_n (pc := 62) 2 rfl rfl dX1_readShip_62 ?_
    refine s_cvi2 (pc := 63) (c_X1_readTwoFiguresT_35 (f := f) (h := ui (ui (h) 35 8 (nI (q + 1))) 36 n (nI (kdN (f q)))) (q := q + 1) ht (fun j hj => by (repeat rw [ui_ne (by omega)]); exact hf j hj) hm (by simp [ui]) (by omega) h1 h2) ml_X1_55 mw_X1_readTwoFigures rfl (by decide) (Nat.le_of_ble_eq_true rfl) dX1_readShip_63 ?_
    refine s_iast (pc := 66) (_) rfl rfl (by omega) dX1_readShip_66 ?_
    refine s_aload_n (pc := 67) 0 rfl rfl dX1_readShip_67 ?_
    refine s_getr (pc := 68) (b := 37) fl_X1_15 rfl rfl rfl dX1_readShip_68 ?_
    refine s_aload_n (pc := 71) 0 rfl rfl dX1_readShip_71 ?_
    refine s_getiE (pc := 72) fl_X1_27 rfl rfl (show _ = nI n by simp [ui, hn]) dX1_readShip_72 ?_
    refine s_ialdN (pc := 75) (v := 10 * dvN f (q + 1) + dvN f (q + 2)) (_) rfl rfl (by omega) (by simp [ui]) dX1_readShip_75 ?_
    refine s_if_geN (pc := 76) (by omega) 81 dX1_readShip_76 (by decide) ?_
    refine s_aload_n (pc := 81) 0 rfl rfl dX1_readShip_81 ?_
    refine s_getr (pc := 82) (b := 38) fl_X1_18 rfl rfl rfl dX1_readShip_82 ?_
    refine s_aload_n (pc := 85) 0 rfl rfl dX1_readShip_85 ?_
    refine s_getiE (pc := 86) fl_X1_27 rfl rfl (show _ = nI n by simp [ui, hn]) dX1_readShip_86 ?_
    refine s_aload_n (pc := 89) 0 rfl rfl dX1_readShip_89 ?_
    refine s_aload_n (pc := 90) 1 rfl rfl dX1_readShip_90 ?_
    refine s_iload_n (pc := 91) 2 rfl rfl dX1_readShip_91 ?_
    refine s_iconst (pc := 92) (k_i0N) dX1_readShip_92 ?_
    refine s_cvi3 (pc := 93) (c_X1_readFigureT_35 (f := f) (h := ui (ui (ui (ui (h) 35 8 (nI (q + 1))) 36 n (nI (kdN (f q)))) 35 8 (nI (q + 1 + 2))) 37 n (nI (10 * dvN f (q + 1) + dvN f (q + 2)))) (q := q + 3) ht (fun j hj => by (repeat rw [ui_ne (by omega)]); exact hf j hj) hm (by simp [ui]) (by omega) (Nat.zero_le _) h3) ml_X1_58 mw_X1_readFigure rfl (by decide) (Nat.le_of_ble_eq_true rfl) dX1_readShip_93 ?_
    refine s_iast (pc := 96) (_) rfl rfl (by omega) dX1_readShip_96 ?_
    refine s_aload_n (pc := 97) 0 rfl rfl dX1_readShip_97 ?_
    refine s_getr (pc := 98) (b := 38) fl_X1_18 rfl rfl rfl dX1_readShip_98 ?_
    refine s_aload_n (pc := 101) 0 rfl rfl dX1_readShip_101 ?_
    refine s_getiE (pc := 102) fl_X1_27 rfl rfl (show _ = nI n by simp [ui, hn]) dX1_readShip_102 ?_
    refine s_ialdN (pc := 105) (v := dvN f (q + 3)) (_) rfl rfl (by omega) (by simp [ui]) dX1_readShip_105 ?_
    refine s_if_geN (pc := 106) (by omega) 111 dX1_readShip_106 (by decide) ?_
    refine s_aload_n (pc := 111) 0 rfl rfl dX1_readShip_111 ?_
    refine s_getr (pc := 112) (b := 39) fl_X1_21 rfl rfl rfl dX1_readShip_112 ?_
    refine s_aload_n (pc := 115) 0 rfl rfl dX1_readShip_115 ?_
    refine s_getiE (pc := 116) fl_X1_27 rfl rfl (show _ = nI n by simp [ui, hn]) dX1_readShip_116 ?_
    refine s_aload_n (pc := 119) 0 rfl rfl dX1_readShip_119 ?_
    refine s_aload_n (pc := 120) 1 rfl rfl dX1_readShip_120 ?_
    refine s_iload_n (pc := 121) 2 rfl rfl dX1_readShip_121 ?_
    refine s_iconst (pc := 122) (k_i0N) dX1_readShip_122 ?_
    refine s_cvi3 (pc := 123) (c_X1_readFigureF_35 (f := f) (h := ui (ui (ui (ui (ui (ui (h) 35 8 (nI (q + 1))) 36 n (nI (kdN (f q)))) 35 8 (nI (q + 1 + 2))) 37 n (nI (10 * dvN f (q + 1) + dvN f (q + 2)))) 35 8 (nI (q + 3 + 1))) 38 n (nI (dvN f (q + 3)))) (q := q + 4) ht (fun j hj => by (repeat rw [ui_ne (by omega)]); exact hf j hj) hm (by simp [ui]) (by omega) (Nat.zero_le _) h4) ml_X1_58 mw_X1_readFigure rfl (by decide) (Nat.le_of_ble_eq_true rfl) dX1_readShip_123 ?_
    refine s_iast (pc := 126) (_) rfl rfl (by omega) dX1_readShip_126 ?_
    refine s_aload_n (pc := 127) 0 rfl rfl dX1_readShip_127 ?_
    refine s_getr (pc := 128) (b := 39) fl_X1_21 rfl rfl rfl dX1_readShip_128 ?_
    refine s_aload_n (pc := 131) 0 rfl rfl dX1_readShip_131 ?_
    refine s_getiE (pc := 132) fl_X1_27 rfl rfl (show _ = nI n by simp [ui, hn]) dX1_readShip_132 ?_
    refine s_ialdE (pc := 135) (_) rfl rfl (by omega) (show _ = (-1 : Int32) by simp [ui]) dX1_readShip_135 ?_
    refine s_if_ge (pc := 136) 141 dX1_readShip_136 (by decide) (fun c_136 => ?_) (fun c_136 => ?_)
    · exfalso; exact absurd c_136 (by decide)
    · refine s_iconst (pc := 139) (k_i0N) dX1_readShip_139 ?_
      refine s_iret (pc := 140) dX1_readShip_140 (PostE.of hp ?_ ?_)
      · rfl
      · rfl
  · exfalso; omega

set_option maxRecDepth 20000 in
theorem c_X1_readShipF5_35 {n : Nat} {t m q : Nat} {f : Nat → Int32} {h : Hp} (ht : t < 4) (hf : ∀ j, j < 60 → h.1 (12 + 1 + t) j = f j) (hm : m ≤ 60) (hq : h.1 35 8 = nI q) (hqm : q ≤ m) (hn : h.1 35 5 = nI n) (hn7 : n ≤ 7) (h0 : q < m ∧ kdN (f q) < 6 ∧ n < 6) (h1 : dgB f m 0 (q + 1) = true) (h2 : dgB f m 0 (q + 2) = true) (h3 : dgB f m 0 (q + 3) = true) (h4 : dgB f m 0 (q + 4) = true) (h5 : ¬ dgB f m 0 (q + 5) = true) : CT 4 yX1_readShip cX1_readShip 4 (some .boolean) [.ref 35, .ref (12 + 1 + t), .int (nI m)] h (some (.int (bi False))) (ui (ui (ui (ui (ui (ui (ui (ui (ui (h) 35 8 (nI (q + 1))) 36 n (nI (kdN (f q)))) 35 8 (nI (q + 1 + 2))) 37 n (nI (10 * dvN f (q + 1) + dvN f (q + 2)))) 35 8 (nI (q + 3 + 1))) 38 n (nI (dvN f (q + 3)))) 35 8 (nI (q + 4 + 1))) 39 n (nI (dvN f (q + 4)))) 40 n (-1)) := by
  obtain ⟨k0, k1, n6⟩ := h0
  have ek : lkN f m q (nI 1000) = f q := if_pos k0
  have b1 := dg_v (Nat.zero_le _) h1
  have b2 := dg_v (Nat.zero_le _) h2
  have b3 := dg_v (Nat.zero_le _) h3
  have b4 := dg_v (Nat.zero_le _) h4
  refine CT.of (own := RX1) rfl (by decide) (ro_z _) [.ref 35, .ref (12 + 1 + t), .int (nI m), .null] rfl (Nat.le_of_ble_eq_true rfl) (fun E hp => ?_)
  refine s_aload_n (pc := 0) 0 rfl rfl dX1_readShip_0 ?_
  refine s_aload_n (pc := 1) 1 rfl rfl dX1_readShip_1 ?_
  refine s_iload_n (pc := 2) 2 rfl rfl dX1_readShip_2 ?_
  refine s_cvi2 (pc := 3) (c_X1_signHere_35 ht hf hm hq hqm) ml_X1_51 mw_X1_signHere rfl (by decide) (Nat.le_of_ble_eq_true rfl) dX1_readShip_3 ?_
  refine WW.top ek ?_
  refine s_csi1 (pc := 6) (c_X1_kindOfT k1) ml_X1_62 ms_X1_kindOf (by decide) (Nat.le_of_ble_eq_true rfl) dX1_readShip_6 ?_
  refine s_istore_n (pc := 9) 3 rfl (by decide) rfl dX1_readShip_9 ?_
  refine s_iload_n (pc := 10) 3 rfl rfl dX1_readShip_10 ?_
  refine s_if_ltN (pc := 11) (by omega) 30 dX1_readShip_11 (by decide) ?_
  refine s_aload_n (pc := 14) 0 rfl rfl dX1_readShip_14 ?_
  refine s_getiE (pc := 15) fl_X1_27 rfl rfl hn dX1_readShip_15 ?_
  refine s_if_ltN (pc := 18) (by omega) 30 dX1_readShip_18 (by decide) ?_
  refine s_aload_n (pc := 21) 0 rfl rfl dX1_readShip_21 ?_
  refine s_getiE (pc := 22) fl_X1_27 rfl rfl hn dX1_readShip_22 ?_
  refine s_bipush (pc := 25) (k_b6N) dX1_readShip_25 ?_
  refine s_icmp_ltN (pc := 27) (by omega) (by omega) 32 dX1_readShip_27 (by decide) (fun c_27 => ?_) (fun c_27 => ?_)
  · refine s_aload_n (pc := 32) 0 rfl rfl dX1_readShip_32 ?_
    refine s_dup (pc := 33) rfl dX1_readShip_33 ?_
    refine s_getiE (pc := 34) fl_X1_37 rfl rfl hq dX1_readShip_34 ?_
    refine s_iconst (pc := 37) (k_i1N) dX1_readShip_37 ?_
    refine s_iaddN (pc := 38) dX1_readShip_38 ?_
    refine s_puti (pc := 39) fl_X1_37 fw_1_8 rfl rfl dX1_readShip_39 ?_
    refine s_aload_n (pc := 42) 0 rfl rfl dX1_readShip_42 ?_
    refine s_getr (pc := 43) (b := 36) fl_X1_9 rfl rfl rfl dX1_readShip_43 ?_
    refine s_aload_n (pc := 46) 0 rfl rfl dX1_readShip_46 ?_
    refine s_getiE (pc := 47) fl_X1_27 rfl rfl (show _ = nI n by simp [ui, hn]) dX1_readShip_47 ?_
    refine s_iload_n (pc := 50) 3 rfl rfl dX1_readShip_50 ?_
    refine s_iast (pc := 51) (_) rfl rfl (by omega) dX1_readShip_51 ?_
    refine s_aload_n (pc := 52) 0 rfl rfl dX1_readShip_52 ?_
    refine s_getr (pc := 53) (b := 37) fl_X1_15 rfl rfl rfl dX1_readShip_53 ?_
    refine s_aload_n (pc := 56) 0 rfl rfl dX1_readShip_56 ?_
    refine s_getiE (pc := 57) fl_X1_27 rfl rfl (show _ = nI n by simp [ui, hn]) dX1_readShip_57 ?_
    refine s_aload_n (pc := 60) 0 rfl rfl dX1_readShip_60 ?_
    refine s_aload_n (pc := 61) 1 rfl rfl dX1_readShip_61 ?_
    refine s_iload_n (pc := 62) 2 rfl rfl dX1_readShip_62 ?_
    refine s_cvi2 (pc := 63) (c_X1_readTwoFiguresT_35 (f := f) (h := ui (ui (h) 35 8 (nI (q + 1))) 36 n (nI (kdN (f q)))) (q := q + 1) ht (fun j hj => by (repeat rw [ui_ne (by omega)]); exact hf j hj) hm (by simp [ui]) (by omega) h1 h2) ml_X1_55 mw_X1_readTwoFigures rfl (by decide) (Nat.le_of_ble_eq_true rfl) dX1_readShip_63 ?_
    refine s_iast (pc := 66) (_) rfl rfl (by omega) dX1_readShip_66 ?_
    refine s_aload_n (pc := 67) 0 rfl rfl dX1_readShip_67 ?_
    refine s_getr (pc := 68) (b := 37) fl_X1_15 rfl rfl rfl dX1_readShip_68 ?_
    refine s_aload_n (pc := 71) 0 rfl rfl dX1_readShip_71 ?_
    refine s_getiE (pc := 72) fl_X1_27 rfl rfl (show _ = nI n by simp [ui, hn]) dX1_readShip_72 ?_
    refine s_ialdN (pc := 75) (v := 10 * dvN f (q + 1) + dvN f (q + 2)) (_) rfl rfl (by omega) (by simp [ui]) dX1_readShip_75 ?_
    refine s_if_geN (pc := 76) (by omega) 81 dX1_readShip_76 (by decide) ?_
    refine s_aload_n (pc := 81) 0 rfl rfl dX1_readShip_81 ?_
    refine s_getr (pc := 82) (b := 38) fl_X1_18 rfl rfl rfl dX1_readShip_82 ?_
    refine s_aload_n (pc := 85) 0 rfl rfl dX1_readShip_85 ?_
    refine s_getiE (pc := 86) fl_X1_27 rfl rfl (show _ = nI n by simp [ui, hn]) dX1_readShip_86 ?_
    refine s_aload_n (pc := 89) 0 rfl rfl dX1_readShip_89 ?_
    refine s_aload_n (pc := 90) 1 rfl rfl dX1_readShip_90 ?_
    refine s_iload_n (pc := 91) 2 rfl rfl dX1_readShip_91 ?_
    refine s_iconst (pc := 92) (k_i0N) dX1_readShip_92 ?_
    refine s_cvi3 (pc := 93) (c_X1_readFigureT_35 (f := f) (h := ui (ui (ui (ui (h) 35 8 (nI (q + 1))) 36 n (nI (kdN (f q)))) 35 8 (nI (q + 1 + 2))) 37 n (nI (10 * dvN f (q + 1) + dvN f (q + 2)))) (q := q + 3) ht (fun j hj => by (repeat rw [ui_ne (by omega)]); exact hf j hj) hm (by simp [ui]) (by omega) (Nat.zero_le _) h3) ml_X1_58 mw_X1_readFigure rfl (by decide) (Nat.le_of_ble_eq_true rfl) dX1_readShip_93 ?_
    refine s_iast (pc := 96) (_) rfl rfl (by omega) dX1_readShip_96 ?_
    refine s_aload_n (pc := 97) 0 rfl rfl dX1_readShip_97 ?_
    refine s_getr (pc := 98) (b := 38) fl_X1_18 rfl rfl rfl dX1_readShip_98 ?_
    refine s_aload_n (pc := 101) 0 rfl rfl dX1_readShip_101 ?_
    refine s_getiE (pc := 102) fl_X1_27 rfl rfl (show _ = nI n by simp [ui, hn]) dX1_readShip_102 ?_
    refine s_ialdN (pc := 105) (v := dvN f (q + 3)) (_) rfl rfl (by omega) (by simp [ui]) dX1_readShip_105 ?_
    refine s_if_geN (pc := 106) (by omega) 111 dX1_readShip_106 (by decide) ?_
    refine s_aload_n (pc := 111) 0 rfl rfl dX1_readShip_111 ?_
    refine s_getr (pc := 112) (b := 39) fl_X1_21 rfl rfl rfl dX1_readShip_112 ?_
    refine s_aload_n (pc := 115) 0 rfl rfl dX1_readShip_115 ?_
    refine s_getiE (pc := 116) fl_X1_27 rfl rfl (show _ = nI n by simp [ui, hn]) dX1_readShip_116 ?_
    refine s_aload_n (pc := 119) 0 rfl rfl dX1_readShip_119 ?_
    refine s_aload_n (pc := 120) 1 rfl rfl dX1_readShip_120 ?_
    refine s_iload_n (pc := 121) 2 rfl rfl dX1_readShip_121 ?_
    refine s_iconst (pc := 122) (k_i0N) dX1_readShip_122 ?_
    refine s_cvi3 (pc := 123) (c_X1_readFigureT_35 (f := f) (h := ui (ui (ui (ui (ui (ui (h) 35 8 (nI (q + 1))) 36 n (nI (kdN (f q)))) 35 8 (nI (q + 1 + 2))) 37 n (nI (10 * dvN f (q + 1) + dvN f (q + 2)))) 35 8 (nI (q + 3 + 1))) 38 n (nI (dvN f (q + 3)))) (q := q + 4) ht (fun j hj => by (repeat rw [ui_ne (by omega)]); exact hf j hj) hm (by simp [ui]) (by omega) (Nat.zero_le _) h4) ml_X1_58 mw_X1_readFigure rfl (by decide) (Nat.le_of_ble_eq_true rfl) dX1_readShip_123 ?_
    refine s_iast (pc := 126) (_) rfl rfl (by omega) dX1_readShip_126 ?_
    refine s_aload_n (pc := 127) 0 rfl rfl dX1_readShip_127 ?_
    refine s_getr (pc := 128) (b := 39) fl_X1_21 rfl rfl rfl dX1_readShip_128 ?_
    refine s_aload_n (pc := 131) 0 rfl rfl dX1_readShip_131 ?_
    refine s_getiE (pc := 132) fl_X1_27 rfl rfl (show _ = nI n by simp [ui, hn]) dX1_readShip_132 ?_
    refine s_ialdN (pc := 135) (v := dvN f (q + 4)) (_) rfl rfl (by omega) (by simp [ui]) dX1_readShip_135 ?_
    refine s_if_geN (pc := 136) (by omega) 141 dX1_readShip_136 (by decide) ?_
    refine s_aload_n (pc := 141) 0 rfl rfl dX1_readShip_141 ?_
    refine s_getr (pc := 142) (b := 40) fl_X1_24 rfl rfl rfl dX1_readShip_142 ?_
    refine s_aload_n (pc := 145) 0 rfl rfl dX1_readShip_145 ?_
    refine s_getiE (pc := 146) fl_X1_27 rfl rfl (show _ = nI n by simp [ui, hn]) dX1_readShip_146 ?_
    refine s_aload_n (pc := 149) 0 rfl rfl dX1_readShip_149 ?_
    refine s_aload_n (pc := 150) 1 rfl rfl dX1_readShip_150 ?_
    refine s_iload_n (pc := 151) 2 rfl rfl dX1_readShip_151 ?_
    refine s_iconst (pc := 152) (k_i0N) dX1_readShip_152 ?_
    refine s_cvi3 (pc := 153) (c_X1_readFigureF_35 (f := f) (h := ui (ui (ui (ui (ui (ui (ui (ui (h) 35 8 (nI (q + 1))) 36 n (nI (kdN (f q)))) 35 8 (nI (q + 1 + 2))) 37 n (nI (10 * dvN f (q + 1) + dvN f (q + 2)))) 35 8 (nI (q + 3 + 1))) 38 n (nI (dvN f (q + 3)))) 35 8 (nI (q + 4 + 1))) 39 n (nI (dvN f (q + 4)))) (q := q + 5) ht (fun j hj => by (repeat rw [ui_ne (by omega)]); exact hf j hj) hm (by simp [ui]) (by omega) (Nat.zero_le _) h5) ml_X1_58 mw_X1_readFigure rfl (by decide) (Nat.le_of_ble_eq_true rfl) dX1_readShip_153 ?_
    refine s_iast (pc := 156) (_) rfl rfl (by omega) dX1_readShip_156 ?_
    refine s_aload_n (pc := 157) 0 rfl rfl dX1_readShip_157 ?_
    refine s_getr (pc := 158) (b := 40) fl_X1_24 rfl rfl rfl dX1_readShip_158 ?_
    refine s_aload_n (pc := 161) 0 rfl rfl dX1_readShip_161 ?_
    refine s_getiE (pc := 162) fl_X1_27 rfl rfl (show _ = nI n by simp [ui, hn]) dX1_readShip_162 ?_
    refine s_ialdE (pc := 165) (_) rfl rfl (by omega) (show _ = (-1 : Int32) by simp [ui]) dX1_readShip_165 ?_
    refine s_if_ge (pc := 166) 171 dX1_readShip_166 (by decide) (fun c_166 => ?_) (fun c_166 => ?_)
    · exfalso; exact absurd c_166 (by decide)
    · refine s_iconst (pc := 169) (k_i0N) dX1_readShip_169 ?_
      refine s_iret (pc := 170) dX1_readShip_170 (PostE.of hp ?_ ?_)
      · rfl
      · rfl
  · exfalso; omega

set_option maxRecDepth 20000 in
theorem c_X1_readShipT_35 {n : Nat} {t m q : Nat} {f : Nat → Int32} {h : Hp} (ht : t < 4) (hf : ∀ j, j < 60 → h.1 (12 + 1 + t) j = f j) (hm : m ≤ 60) (hq : h.1 35 8 = nI q) (hqm : q ≤ m) (hn : h.1 35 5 = nI n) (hn7 : n ≤ 7) (h0 : q < m ∧ kdN (f q) < 6 ∧ n < 6) (h1 : dgB f m 0 (q + 1) = true) (h2 : dgB f m 0 (q + 2) = true) (h3 : dgB f m 0 (q + 3) = true) (h4 : dgB f m 0 (q + 4) = true) (h5 : dgB f m 0 (q + 5) = true) : CT 4 yX1_readShip cX1_readShip 4 (some .boolean) [.ref 35, .ref (12 + 1 + t), .int (nI m)] h (some (.int (bi True))) (ui (ui (ui (ui (ui (ui (ui (ui (ui (ui (ui (h) 35 8 (nI (q + 1))) 36 n (nI (kdN (f q)))) 35 8 (nI (q + 1 + 2))) 37 n (nI (10 * dvN f (q + 1) + dvN f (q + 2)))) 35 8 (nI (q + 3 + 1))) 38 n (nI (dvN f (q + 3)))) 35 8 (nI (q + 4 + 1))) 39 n (nI (dvN f (q + 4)))) 35 8 (nI (q + 5 + 1))) 40 n (nI (dvN f (q + 5)))) 35 5 (nI (n + 1))) := by
  obtain ⟨k0, k1, n6⟩ := h0
  have ek : lkN f m q (nI 1000) = f q := if_pos k0
  have b1 := dg_v (Nat.zero_le _) h1
  have b2 := dg_v (Nat.zero_le _) h2
  have b3 := dg_v (Nat.zero_le _) h3
  have b4 := dg_v (Nat.zero_le _) h4
  have b5 := dg_v (Nat.zero_le _) h5
  refine CT.of (own := RX1) rfl (by decide) (ro_z _) [.ref 35, .ref (12 + 1 + t), .int (nI m), .null] rfl (Nat.le_of_ble_eq_true rfl) (fun E hp => ?_)
  refine s_aload_n (pc := 0) 0 rfl rfl dX1_readShip_0 ?_
  refine s_aload_n (pc := 1) 1 rfl rfl dX1_readShip_1 ?_
  refine s_iload_n (pc := 2) 2 rfl rfl dX1_readShip_2 ?_
  refine s_cvi2 (pc := 3) (c_X1_signHere_35 ht hf hm hq hqm) ml_X1_51 mw_X1_signHere rfl (by decide) (Nat.le_of_ble_eq_true rfl) dX1_readShip_3 ?_
  refine WW.top ek ?_
  refine s_csi1 (pc := 6) (c_X1_kindOfT k1) ml_X1_62 ms_X1_kindOf (by decide) (Nat.le_of_ble_eq_true rfl) dX1_readShip_6 ?_
  refine s_istore_n (pc := 9) 3 rfl (by decide) rfl dX1_readShip_9 ?_
  refine s_iload_n (pc := 10) 3 rfl rfl dX1_readShip_10 ?_
  refine s_if_ltN (pc := 11) (by omega) 30 dX1_readShip_11 (by decide) ?_
  refine s_aload_n (pc := 14) 0 rfl rfl dX1_readShip_14 ?_
  refine s_getiE (pc := 15) fl_X1_27 rfl rfl hn dX1_readShip_15 ?_
  refine s_if_ltN (pc := 18) (by omega) 30 dX1_readShip_18 (by decide) ?_
  refine s_aload_n (pc := 21) 0 rfl rfl dX1_readShip_21 ?_
  refine s_getiE (pc := 22) fl_X1_27 rfl rfl hn dX1_readShip_22 ?_
  refine s_bipush (pc := 25) (k_b6N) dX1_readShip_25 ?_
  refine s_icmp_ltN (pc := 27) (by omega) (by omega) 32 dX1_readShip_27 (by decide) (fun c_27 => ?_) (fun c_27 => ?_)
  · refine s_aload_n (pc := 32) 0 rfl rfl dX1_readShip_32 ?_
    refine s_dup (pc := 33) rfl dX1_readShip_33 ?_
    refine s_getiE (pc := 34) fl_X1_37 rfl rfl hq dX1_readShip_34 ?_
    refine s_iconst (pc := 37) (k_i1N) dX1_readShip_37 ?_
    refine s_iaddN (pc := 38) dX1_readShip_38 ?_
    refine s_puti (pc := 39) fl_X1_37 fw_1_8 rfl rfl dX1_readShip_39 ?_
    refine s_aload_n (pc := 42) 0 rfl rfl dX1_readShip_42 ?_
    refine s_getr (pc := 43) (b := 36) fl_X1_9 rfl rfl rfl dX1_readShip_43 ?_
    refine s_aload_n (pc := 46) 0 rfl rfl dX1_readShip_46 ?_
    refine s_getiE (pc := 47) fl_X1_27 rfl rfl (show _ = nI n by simp [ui, hn]) dX1_readShip_47 ?_
    refine s_iload_n (pc := 50) 3 rfl rfl dX1_readShip_50 ?_
    refine s_iast (pc := 51) (_) rfl rfl (by omega) dX1_readShip_51 ?_
    refine s_aload_n (pc := 52) 0 rfl rfl dX1_readShip_52 ?_
    refine s_getr (pc := 53) (b := 37) fl_X1_15 rfl rfl rfl dX1_readShip_53 ?_
    refine s_aload_n (pc := 56) 0 rfl rfl dX1_readShip_56 ?_
    refine s_getiE (pc := 57) fl_X1_27 rfl rfl (show _ = nI n by simp [ui, hn]) dX1_readShip_57 ?_
    refine s_aload_n (pc := 60) 0 rfl rfl dX1_readShip_60 ?_
    refine s_aload_n (pc := 61) 1 rfl rfl dX1_readShip_61 ?_
    refine s_iload_n (pc := 62) 2 rfl rfl dX1_readShip_62 ?_
    refine s_cvi2 (pc := 63) (c_X1_readTwoFiguresT_35 (f := f) (h := ui (ui (h) 35 8 (nI (q + 1))) 36 n (nI (kdN (f q)))) (q := q + 1) ht (fun j hj => by (repeat rw [ui_ne (by omega)]); exact hf j hj) hm (by simp [ui]) (by omega) h1 h2) ml_X1_55 mw_X1_readTwoFigures rfl (by decide) (Nat.le_of_ble_eq_true rfl) dX1_readShip_63 ?_
    refine s_iast (pc := 66) (_) rfl rfl (by omega) dX1_readShip_66 ?_
    refine s_aload_n (pc := 67) 0 rfl rfl dX1_readShip_67 ?_
    refine s_getr (pc := 68) (b := 37) fl_X1_15 rfl rfl rfl dX1_readShip_68 ?_
    refine s_aload_n (pc := 71) 0 rfl rfl dX1_readShip_71 ?_
    refine s_getiE (pc := 72) fl_X1_27 rfl rfl (show _ = nI n by simp [ui, hn]) dX1_readShip_72 ?_
    refine s_ialdN (pc := 75) (v := 10 * dvN f (q + 1) + dvN f (q + 2)) (_) rfl rfl (by omega) (by simp [ui]) dX1_readShip_75 ?_
    refine s_if_geN (pc := 76) (by omega) 81 dX1_readShip_76 (by decide) ?_
    refine s_aload_n (pc := 81) 0 rfl rfl dX1_readShip_81 ?_
    refine s_getr (pc := 82) (b := 38) fl_X1_18 rfl rfl rfl dX1_readShip_82 ?_
    refine s_aload_n (pc := 85) 0 rfl rfl dX1_readShip_85 ?_
    refine s_getiE (pc := 86) fl_X1_27 rfl rfl (show _ = nI n by simp [ui, hn]) dX1_readShip_86 ?_
    refine s_aload_n (pc := 89) 0 rfl rfl dX1_readShip_89 ?_
    refine s_aload_n (pc := 90) 1 rfl rfl dX1_readShip_90 ?_
    refine s_iload_n (pc := 91) 2 rfl rfl dX1_readShip_91 ?_
    refine s_iconst (pc := 92) (k_i0N) dX1_readShip_92 ?_
    refine s_cvi3 (pc := 93) (c_X1_readFigureT_35 (f := f) (h := ui (ui (ui (ui (h) 35 8 (nI (q + 1))) 36 n (nI (kdN (f q)))) 35 8 (nI (q + 1 + 2))) 37 n (nI (10 * dvN f (q + 1) + dvN f (q + 2)))) (q := q + 3) ht (fun j hj => by (repeat rw [ui_ne (by omega)]); exact hf j hj) hm (by simp [ui]) (by omega) (Nat.zero_le _) h3) ml_X1_58 mw_X1_readFigure rfl (by decide) (Nat.le_of_ble_eq_true rfl) dX1_readShip_93 ?_
    refine s_iast (pc := 96) (_) rfl rfl (by omega) dX1_readShip_96 ?_
    refine s_aload_n (pc := 97) 0 rfl rfl dX1_readShip_97 ?_
    refine s_getr (pc := 98) (b := 38) fl_X1_18 rfl rfl rfl dX1_readShip_98 ?_
    refine s_aload_n (pc := 101) 0 rfl rfl dX1_readShip_101 ?_
    refine s_getiE (pc := 102) fl_X1_27 rfl rfl (show _ = nI n by simp [ui, hn]) dX1_readShip_102 ?_
    refine s_ialdN (pc := 105) (v := dvN f (q + 3)) (_) rfl rfl (by omega) (by simp [ui]) dX1_readShip_105 ?_
    refine s_if_geN (pc := 106) (by omega) 111 dX1_readShip_106 (by decide) ?_
    refine s_aload_n (pc := 111) 0 rfl rfl dX1_readShip_111 ?_
    refine s_getr (pc := 112) (b := 39) fl_X1_21 rfl rfl rfl dX1_readShip_112 ?_
    refine s_aload_n (pc := 115) 0 rfl rfl dX1_readShip_115 ?_
    refine s_getiE (pc := 116) fl_X1_27 rfl rfl (show _ = nI n by simp [ui, hn]) dX1_readShip_116 ?_
    refine s_aload_n (pc := 119) 0 rfl rfl dX1_readShip_119 ?_
    refine s_aload_n (pc := 120) 1 rfl rfl dX1_readShip_120 ?_
    refine s_iload_n (pc := 121) 2 rfl rfl dX1_readShip_121 ?_
    refine s_iconst (pc := 122) (k_i0N) dX1_readShip_122 ?_
    refine s_cvi3 (pc := 123) (c_X1_readFigureT_35 (f := f) (h := ui (ui (ui (ui (ui (ui (h) 35 8 (nI (q + 1))) 36 n (nI (kdN (f q)))) 35 8 (nI (q + 1 + 2))) 37 n (nI (10 * dvN f (q + 1) + dvN f (q + 2)))) 35 8 (nI (q + 3 + 1))) 38 n (nI (dvN f (q + 3)))) (q := q + 4) ht (fun j hj => by (repeat rw [ui_ne (by omega)]); exact hf j hj) hm (by simp [ui]) (by omega) (Nat.zero_le _) h4) ml_X1_58 mw_X1_readFigure rfl (by decide) (Nat.le_of_ble_eq_true rfl) dX1_readShip_123 ?_
    refine s_iast (pc := 126) (_) rfl rfl (by omega) dX1_readShip_126 ?_
    refine s_aload_n (pc := 127) 0 rfl rfl dX1_readShip_127 ?_
    refine s_getr (pc := 128) (b := 39) fl_X1_21 rfl rfl rfl dX1_readShip_128 ?_
    refine s_aload_n (pc := 131) 0 rfl rfl dX1_readShip_131 ?_
    refine s_getiE (pc := 132) fl_X1_27 rfl rfl (show _ = nI n by simp [ui, hn]) dX1_readShip_132 ?_
    refine s_ialdN (pc := 135) (v := dvN f (q + 4)) (_) rfl rfl (by omega) (by simp [ui]) dX1_readShip_135 ?_
    refine s_if_geN (pc := 136) (by omega) 141 dX1_readShip_136 (by decide) ?_
    refine s_aload_n (pc := 141) 0 rfl rfl dX1_readShip_141 ?_
    refine s_getr (pc := 142) (b := 40) fl_X1_24 rfl rfl rfl dX1_readShip_142 ?_
    refine s_aload_n (pc := 145) 0 rfl rfl dX1_readShip_145 ?_
    refine s_getiE (pc := 146) fl_X1_27 rfl rfl (show _ = nI n by simp [ui, hn]) dX1_readShip_146 ?_
    refine s_aload_n (pc := 149) 0 rfl rfl dX1_readShip_149 ?_
    refine s_aload_n (pc := 150) 1 rfl rfl dX1_readShip_150 ?_
    refine s_iload_n (pc := 151) 2 rfl rfl dX1_readShip_151 ?_
    refine s_iconst (pc := 152) (k_i0N) dX1_readShip_152 ?_
    refine s_cvi3 (pc := 153) (c_X1_readFigureT_35 (f := f) (h := ui (ui (ui (ui (ui (ui (ui (ui (h) 35 8 (nI (q + 1))) 36 n (nI (kdN (f q)))) 35 8 (nI (q + 1 + 2))) 37 n (nI (10 * dvN f (q + 1) + dvN f (q + 2)))) 35 8 (nI (q + 3 + 1))) 38 n (nI (dvN f (q + 3)))) 35 8 (nI (q + 4 + 1))) 39 n (nI (dvN f (q + 4)))) (q := q + 5) ht (fun j hj => by (repeat rw [ui_ne (by omega)]); exact hf j hj) hm (by simp [ui]) (by omega) (Nat.zero_le _) h5) ml_X1_58 mw_X1_readFigure rfl (by decide) (Nat.le_of_ble_eq_true rfl) dX1_readShip_153 ?_
    refine s_iast (pc := 156) (_) rfl rfl (by omega) dX1_readShip_156 ?_
    refine s_aload_n (pc := 157) 0 rfl rfl dX1_readShip_157 ?_
    refine s_getr (pc := 158) (b := 40) fl_X1_24 rfl rfl rfl dX1_readShip_158 ?_
    refine s_aload_n (pc := 161) 0 rfl rfl dX1_readShip_161 ?_
    refine s_getiE (pc := 162) fl_X1_27 rfl rfl (show _ = nI n by simp [ui, hn]) dX1_readShip_162 ?_
    refine s_ialdN (pc := 165) (v := dvN f (q + 5)) (_) rfl rfl (by omega) (by simp [ui]) dX1_readShip_165 ?_
    refine s_if_geN (pc := 166) (by omega) 171 dX1_readShip_166 (by decide) ?_
    refine s_aload_n (pc := 171) 0 rfl rfl dX1_readShip_171 ?_
    refine s_dup (pc := 172) rfl dX1_readShip_172 ?_
    refine s_getiE (pc := 173) fl_X1_27 rfl rfl (show _ = nI n by simp [ui, hn]) dX1_readShip_173 ?_
    refine s_iconst (pc := 176) (k_i1N) dX1_readShip_176 ?_
    refine s_iaddN (pc := 177) dX1_readShip_177 ?_
    refine s_puti (pc := 178) fl_X1_27 fw_1_5 rfl rfl dX1_readShip_178 ?_
    refine s_iconst (pc := 181) (k_i1N) dX1_readShip_181 ?_
    refine s_iret (pc := 182) dX1_readShip_182 (PostE.of hp ?_ ?_)
    · rfl
    · rfl
  · exfalso; omega

def hsC_35 (f : Nat → Int32) (n q : Nat) (h : Hp) : Hp := ui (ui (ui (ui (ui (ui (ui (ui (ui (ui (ui (h) 35 8 (nI (q + 1))) 36 n (nI (kdN (f q)))) 35 8 (nI (q + 1 + 2))) 37 n (nI (10 * dvN f (q + 1) + dvN f (q + 2)))) 35 8 (nI (q + 3 + 1))) 38 n (nI (dvN f (q + 3)))) 35 8 (nI (q + 4 + 1))) 39 n (nI (dvN f (q + 4)))) 35 8 (nI (q + 5 + 1))) 40 n (nI (dvN f (q + 5)))) 35 5 (nI (n + 1))

def hhC_35 (f : Nat → Int32) (q : Nat) (h : Hp) : Hp := ui (ui (ui (ui (ui (h) 35 8 (nI (q + 1))) 35 8 (nI (q + 1 + 2))) 35 6 (nI (10 * dvN f (q + 1) + dvN f (q + 2)))) 35 8 (nI (q + 1 + 2 + 1))) 35 7 (nI (dvN f (q + 3)))

theorem rsF_35 {n : Nat} {t m q : Nat} {f : Nat → Int32} {h : Hp} (ht : t < 4) (hf : ∀ j, j < 60 → h.1 (12 + 1 + t) j = f j) (hm : m ≤ 60) (hq : h.1 35 8 = nI q) (hqm : q ≤ m) (hn : h.1 35 5 = nI n) (hn7 : n ≤ 7) (hs : ¬ (shS f m n q).2 = true) : ∃ h1, CT 4 yX1_readShip cX1_readShip 4 (some .boolean) [.ref 35, .ref (12 + 1 + t), .int (nI m)] h (some (.int (bi False))) h1 ∧ FF 35 h h1 ∧ h1.1 35 8 = nI (shS f m n q).1 := by
  rcases sh_cs f m n q with ⟨h0, e⟩ | ⟨h0, h⟩
  · rw [e]
    by_cases h6 : q < m ∧ kdN (f q) < 6
    · exact ⟨_, c_X1_readShipF0b_35 ht hf hm hq hqm hn hn7 h6 (fun z => h0 ⟨h6.1, h6.2, z⟩), FF.rf _ _, hq⟩
    · exact ⟨_, c_X1_readShipF0a_35 ht hf hm hq hqm hn hn7 h6, FF.rf _ _, hq⟩
  rcases h with ⟨h1, e⟩ | ⟨h1, h⟩
  · rw [e]; exact ⟨_, c_X1_readShipF1_35 ht hf hm hq hqm hn hn7 h0 h1, (by repeat (first | exact FF.rf _ _ | refine FF.ui ?_ ⟨by decide, by decide⟩)), by simp [ui]⟩
  rcases h with ⟨h2, e⟩ | ⟨h2, h⟩
  · rw [e]; exact ⟨_, c_X1_readShipF2_35 ht hf hm hq hqm hn hn7 h0 h1 h2, (by repeat (first | exact FF.rf _ _ | refine FF.ui ?_ ⟨by decide, by decide⟩)), by simp [ui]⟩
  rcases h with ⟨h3, e⟩ | ⟨h3, h⟩
  · rw [e]; exact ⟨_, c_X1_readShipF3_35 ht hf hm hq hqm hn hn7 h0 h1 h2 h3, (by repeat (first | exact FF.rf _ _ | refine FF.ui ?_ ⟨by decide, by decide⟩)), by simp [ui]⟩
  rcases h with ⟨h4, e⟩ | ⟨h4, h⟩
  · rw [e]; exact ⟨_, c_X1_readShipF4_35 ht hf hm hq hqm hn hn7 h0 h1 h2 h3 h4, (by repeat (first | exact FF.rf _ _ | refine FF.ui ?_ ⟨by decide, by decide⟩)), by simp [ui]⟩
  rcases h with ⟨h5, e⟩ | ⟨h5, e⟩
  · rw [e]; exact ⟨_, c_X1_readShipF5_35 ht hf hm hq hqm hn hn7 h0 h1 h2 h3 h4 h5, (by repeat (first | exact FF.rf _ _ | refine FF.ui ?_ ⟨by decide, by decide⟩)), by simp [ui]⟩
  · rw [e] at hs; exact absurd rfl hs

theorem rhF_35 {t m : Nat} {f : Nat → Int32} {h : Hp} (ht : t < 4) (hf : ∀ j, j < 60 → h.1 (12 + 1 + t) j = f j) (hm : m ≤ 60) (hq : h.1 35 8 = nI (sk f m 0)) (hqm : sk f m 0 ≤ m) (hs : ¬ (hdS f m).2 = true) : ∃ h1, CT 4 yX1_readHead cX1_readHead 3 (some .boolean) [.ref 35, .ref (12 + 1 + t), .int (nI m)] h (some (.int (bi False))) h1 ∧ FF 35 h h1 ∧ h1.1 35 8 = nI (hdS f m).1 := by
  rcases hd_cs f m with ⟨h0, e⟩ | ⟨h0, h⟩
  · rw [e]; exact ⟨_, c_X1_readHeadF0_35 ht hf hm hq hqm h0, FF.rf _ _, hq⟩
  rcases h with ⟨h1, e⟩ | ⟨h1, h⟩
  · rw [e]; exact ⟨_, c_X1_readHeadF1_35 ht hf hm hq hqm h0 h1, (by repeat (first | exact FF.rf _ _ | refine FF.ui ?_ ⟨by decide, by decide⟩)), by simp [ui]⟩
  rcases h with ⟨h2, e⟩ | ⟨h2, h⟩
  · rw [e]; exact ⟨_, c_X1_readHeadF2_35 ht hf hm hq hqm h0 h1 h2, (by repeat (first | exact FF.rf _ _ | refine FF.ui ?_ ⟨by decide, by decide⟩)), by simp [ui]⟩
  rcases h with ⟨h3, e⟩ | ⟨h3, e⟩
  · rw [e]; exact ⟨_, c_X1_readHeadF3_35 ht hf hm hq hqm h0 h1 h2 h3, (by repeat (first | exact FF.rf _ _ | refine FF.ui ?_ ⟨by decide, by decide⟩)), by simp [ui]⟩
  · rw [e] at hs; exact absurd rfl hs

theorem rsT_35 {n : Nat} {t m q : Nat} {f : Nat → Int32} {h : Hp} (ht : t < 4) (hf : ∀ j, j < 60 → h.1 (12 + 1 + t) j = f j) (hm : m ≤ 60) (hq : h.1 35 8 = nI q) (hqm : q ≤ m) (hn : h.1 35 5 = nI n) (hn7 : n ≤ 7) (hs : (shS f m n q).2 = true) : CT 4 yX1_readShip cX1_readShip 4 (some .boolean) [.ref 35, .ref (12 + 1 + t), .int (nI m)] h (some (.int (bi True))) (hsC_35 f n q h) ∧ q + 6 ≤ m ∧ n < 6 := by
  rcases sh_cs f m n q with ⟨h0, e⟩ | ⟨h0, h⟩
  · rw [e] at hs; exact absurd hs (by simp)
  rcases h with ⟨h1, e⟩ | ⟨h1, h⟩
  · rw [e] at hs; exact absurd hs (by simp)
  rcases h with ⟨h2, e⟩ | ⟨h2, h⟩
  · rw [e] at hs; exact absurd hs (by simp)
  rcases h with ⟨h3, e⟩ | ⟨h3, h⟩
  · rw [e] at hs; exact absurd hs (by simp)
  rcases h with ⟨h4, e⟩ | ⟨h4, h⟩
  · rw [e] at hs; exact absurd hs (by simp)
  rcases h with ⟨h5, e⟩ | ⟨h5, e⟩
  · rw [e] at hs; exact absurd hs (by simp)
  · exact ⟨c_X1_readShipT_35 ht hf hm hq hqm hn hn7 h0 h1 h2 h3 h4 h5, by have := dg_lt h5; omega, h0.2.2⟩

theorem rhT_35 {t m : Nat} {f : Nat → Int32} {h : Hp} (ht : t < 4) (hf : ∀ j, j < 60 → h.1 (12 + 1 + t) j = f j) (hm : m ≤ 60) (hq : h.1 35 8 = nI (sk f m 0)) (hqm : sk f m 0 ≤ m) (hs : (hdS f m).2 = true) : CT 4 yX1_readHead cX1_readHead 3 (some .boolean) [.ref 35, .ref (12 + 1 + t), .int (nI m)] h (some (.int (bi True))) (hhC_35 f (sk f m 0) h) ∧ sk f m 0 + 4 ≤ m := by
  rcases hd_cs f m with ⟨h0, e⟩ | ⟨h0, h⟩
  · rw [e] at hs; exact absurd hs (by simp)
  rcases h with ⟨h1, e⟩ | ⟨h1, h⟩
  · rw [e] at hs; exact absurd hs (by simp)
  rcases h with ⟨h2, e⟩ | ⟨h2, h⟩
  · rw [e] at hs; exact absurd hs (by simp)
  rcases h with ⟨h3, e⟩ | ⟨h3, e⟩
  · rw [e] at hs; exact absurd hs (by simp)
  · exact ⟨c_X1_readHeadT_35 ht hf hm hq hqm h0 h1 h2 h3, by have := dg_lt h3; omega⟩

set_option maxRecDepth 20000 in
theorem c_X1_readHeadT_24 {t m q : Nat} {f : Nat → Int32} {h : Hp} (ht : t < 4) (hf : ∀ j, j < 60 → h.1 (12 + 1 + t) j = f j) (hm : m ≤ 60) (hq : h.1 24 8 = nI q) (hqm : q ≤ m) (h0 : q < m ∧ f q = nI 104) (h1 : dgB f m 0 (q + 1) = true) (h2 : dgB f m 0 (q + 2) = true) (h3 : dgB f m 1 (q + 3) = true) : CT 4 yX1_readHead cX1_readHead 3 (some .boolean) [.ref 24, .ref (12 + 1 + t), .int (nI m)] h (some (.int (bi True))) (ui (ui (ui (ui (ui (h) 24 8 (nI (q + 1))) 24 8 (nI (q + 1 + 2))) 24 6 (nI (10 * dvN f (q + 1) + dvN f (q + 2)))) 24 8 (nI (q + 1 + 2 + 1))) 24 7 (nI (dvN f (q + 3)))) := by
  have l2 := dg_lt h2
  have l3 := dg_lt h3
  have b1 := dg_v (Nat.zero_le _) h1
  have b2 := dg_v (Nat.zero_le _) h2
  have b3 := dg_v (by decide) h3
  refine CT.of (own := RX1) rfl (by decide) (ro_z _) [.ref 24, .ref (12 + 1 + t), .int (nI m)] rfl (Nat.le_of_ble_eq_true rfl) (fun E hp => ?_)
  refine s_aload_n (pc := 0) 0 rfl rfl dX1_readHead_0 ?_
  refine s_aload_n (pc := 1) 1 rfl rfl dX1_readHead_1 ?_
  refine s_iload_n (pc := 2) 2 rfl rfl dX1_readHead_2 ?_
  refine s_cvi2 (pc := 3) (c_X1_signHere_24 ht hf hm hq hqm) ml_X1_51 mw_X1_signHere rfl (by decide) (Nat.le_of_ble_eq_true rfl) dX1_readHead_3 ?_
  refine s_bipush (pc := 6) (k_b104N) dX1_readHead_6 ?_
  refine s_icmp_eq (pc := 8) 13 dX1_readHead_8 (by decide) (fun c_8 => ?_) (fun c_8 => ?_)
  · refine s_aload_n (pc := 13) 0 rfl rfl dX1_readHead_13 ?_
    refine s_dup (pc := 14) rfl dX1_readHead_14 ?_
    refine s_getiE (pc := 15) fl_X1_37 rfl rfl hq dX1_readHead_15 ?_
    refine s_iconst (pc := 18) (k_i1N) dX1_readHead_18 ?_
    refine s_iaddN (pc := 19) dX1_readHead_19 ?_
    refine s_puti (pc := 20) fl_X1_37 fw_1_8 rfl rfl dX1_readHead_20 ?_
    refine s_aload_n (pc := 23) 0 rfl rfl dX1_readHead_23 ?_
    refine s_aload_n (pc := 24) 0 rfl rfl dX1_readHead_24 ?_
    refine s_aload_n (pc := 25) 1 rfl rfl dX1_readHead_25 ?_
    refine s_iload_n (pc := 26) 2 rfl rfl dX1_readHead_26 ?_
    refine s_cvi2 (pc := 27) (c_X1_readTwoFiguresT_24 (f := f) (h := ui (h) 24 8 (nI (q + 1))) (q := q + 1) ht (fun j hj => by (repeat rw [ui_ne (by omega)]); exact hf j hj) hm (by simp [ui]) (by omega) h1 h2) ml_X1_55 mw_X1_readTwoFigures rfl (by decide) (Nat.le_of_ble_eq_true rfl) dX1_readHead_27 ?_
    refine s_puti (pc := 30) fl_X1_31 fw_1_6 rfl rfl dX1_readHead_30 ?_
    refine s_aload_n (pc := 33) 0 rfl rfl dX1_readHead_33 ?_
    refine s_getiE (pc := 34) fl_X1_31 rfl rfl (show _ = nI (10 * dvN f (q + 1) + dvN f (q + 2)) by simp [ui]) dX1_readHead_34 ?_
    refine s_if_geN (pc := 37) (by omega) 42 dX1_readHead_37 (by decide) ?_
    refine s_aload_n (pc := 42) 0 rfl rfl dX1_readHead_42 ?_
    refine s_aload_n (pc := 43) 0 rfl rfl dX1_readHead_43 ?_
    refine s_aload_n (pc := 44) 1 rfl rfl dX1_readHead_44 ?_
    refine s_iload_n (pc := 45) 2 rfl rfl dX1_readHead_45 ?_
    refine s_iconst (pc := 46) (k_i1N) dX1_readHead_46 ?_
    refine s_cvi3 (pc := 47) (c_X1_readFigureT_24 (f := f) (h := ui (ui (ui (h) 24 8 (nI (q + 1))) 24 8 (nI (q + 1 + 2))) 24 6 (nI (10 * dvN f (q + 1) + dvN f (q + 2)))) (q := q + 3) ht (fun j hj => by (repeat rw [ui_ne (by omega)]); exact hf j hj) hm (by simp [ui]) (by omega) (by decide) h3) ml_X1_58 mw_X1_readFigure rfl (by decide) (Nat.le_of_ble_eq_true rfl) dX1_readHead_47 ?_
    refine s_puti (pc := 50) fl_X1_34 fw_1_7 rfl rfl dX1_readHead_50 ?_
    refine s_aload_n (pc := 53) 0 rfl rfl dX1_readHead_53 ?_
    refine s_getiE (pc := 54) fl_X1_34 rfl rfl (show _ = nI (dvN f (q + 3)) by simp [ui]) dX1_readHead_54 ?_
    refine s_if_leN (pc := 57) (by omega) 64 dX1_readHead_57 (by decide) (fun c_57 => ?_) (fun c_57 => ?_)
    · exfalso; omega
    · refine s_iconst (pc := 60) (k_i1N) dX1_readHead_60 ?_
      refine s_goto (pc := 61) 65 dX1_readHead_61 (by decide) ?_
      refine s_iret (pc := 65) dX1_readHead_65 (PostE.of hp ?_ ?_)
      · rfl
      · rfl
  · exfalso; exact c_8 ((lk_eq (by decide)).mpr h0)

set_option maxRecDepth 20000 in
theorem c_X1_readShipT_24 {n : Nat} {t m q : Nat} {f : Nat → Int32} {h : Hp} (ht : t < 4) (hf : ∀ j, j < 60 → h.1 (12 + 1 + t) j = f j) (hm : m ≤ 60) (hq : h.1 24 8 = nI q) (hqm : q ≤ m) (hn : h.1 24 5 = nI n) (hn7 : n ≤ 7) (h0 : q < m ∧ kdN (f q) < 6 ∧ n < 6) (h1 : dgB f m 0 (q + 1) = true) (h2 : dgB f m 0 (q + 2) = true) (h3 : dgB f m 0 (q + 3) = true) (h4 : dgB f m 0 (q + 4) = true) (h5 : dgB f m 0 (q + 5) = true) : CT 4 yX1_readShip cX1_readShip 4 (some .boolean) [.ref 24, .ref (12 + 1 + t), .int (nI m)] h (some (.int (bi True))) (ui (ui (ui (ui (ui (ui (ui (ui (ui (ui (ui (h) 24 8 (nI (q + 1))) 25 n (nI (kdN (f q)))) 24 8 (nI (q + 1 + 2))) 26 n (nI (10 * dvN f (q + 1) + dvN f (q + 2)))) 24 8 (nI (q + 3 + 1))) 27 n (nI (dvN f (q + 3)))) 24 8 (nI (q + 4 + 1))) 28 n (nI (dvN f (q + 4)))) 24 8 (nI (q + 5 + 1))) 29 n (nI (dvN f (q + 5)))) 24 5 (nI (n + 1))) := by
  obtain ⟨k0, k1, n6⟩ := h0
  have ek : lkN f m q (nI 1000) = f q := if_pos k0
  have b1 := dg_v (Nat.zero_le _) h1
  have b2 := dg_v (Nat.zero_le _) h2
  have b3 := dg_v (Nat.zero_le _) h3
  have b4 := dg_v (Nat.zero_le _) h4
  have b5 := dg_v (Nat.zero_le _) h5
  refine CT.of (own := RX1) rfl (by decide) (ro_z _) [.ref 24, .ref (12 + 1 + t), .int (nI m), .null] rfl (Nat.le_of_ble_eq_true rfl) (fun E hp => ?_)
  refine s_aload_n (pc := 0) 0 rfl rfl dX1_readShip_0 ?_
  refine s_aload_n (pc := 1) 1 rfl rfl dX1_readShip_1 ?_
  refine s_iload_n (pc := 2) 2 rfl rfl dX1_readShip_2 ?_
  refine s_cvi2 (pc := 3) (c_X1_signHere_24 ht hf hm hq hqm) ml_X1_51 mw_X1_signHere rfl (by decide) (Nat.le_of_ble_eq_true rfl) dX1_readShip_3 ?_
  refine WW.top ek ?_
  refine s_csi1 (pc := 6) (c_X1_kindOfT k1) ml_X1_62 ms_X1_kindOf (by decide) (Nat.le_of_ble_eq_true rfl) dX1_readShip_6 ?_
  refine s_istore_n (pc := 9) 3 rfl (by decide) rfl dX1_readShip_9 ?_
  refine s_iload_n (pc := 10) 3 rfl rfl dX1_readShip_10 ?_
  refine s_if_ltN (pc := 11) (by omega) 30 dX1_readShip_11 (by decide) ?_
  refine s_aload_n (pc := 14) 0 rfl rfl dX1_readShip_14 ?_
  refine s_getiE (pc := 15) fl_X1_27 rfl rfl hn dX1_readShip_15 ?_
  refine s_if_ltN (pc := 18) (by omega) 30 dX1_readShip_18 (by decide) ?_
  refine s_aload_n (pc := 21) 0 rfl rfl dX1_readShip_21 ?_
  refine s_getiE (pc := 22) fl_X1_27 rfl rfl hn dX1_readShip_22 ?_
  refine s_bipush (pc := 25) (k_b6N) dX1_readShip_25 ?_
  refine s_icmp_ltN (pc := 27) (by omega) (by omega) 32 dX1_readShip_27 (by decide) (fun c_27 => ?_) (fun c_27 => ?_)
  · refine s_aload_n (pc := 32) 0 rfl rfl dX1_readShip_32 ?_
    refine s_dup (pc := 33) rfl dX1_readShip_33 ?_
    refine s_getiE (pc := 34) fl_X1_37 rfl rfl hq dX1_readShip_34 ?_
    refine s_iconst (pc := 37) (k_i1N) dX1_readShip_37 ?_
    refine s_iaddN (pc := 38) dX1_readShip_38 ?_
    refine s_puti (pc := 39) fl_X1_37 fw_1_8 rfl rfl dX1_readShip_39 ?_
    refine s_aload_n (pc := 42) 0 rfl rfl dX1_readShip_42 ?_
    refine s_getr (pc := 43) (b := 25) fl_X1_9 rfl rfl rfl dX1_readShip_43 ?_
    refine s_aload_n (pc := 46) 0 rfl rfl dX1_readShip_46 ?_
    refine s_getiE (pc := 47) fl_X1_27 rfl rfl (show _ = nI n by simp [ui, hn]) dX1_readShip_47 ?_
    refine s_iload_n (pc := 50) 3 rfl rfl dX1_readShip_50 ?_
    refine s_iast (pc := 51) (_) rfl rfl (by omega) dX1_readShip_51 ?_
    refine s_aload_n (pc := 52) 0 rfl rfl dX1_readShip_52 ?_
    refine s_getr (pc := 53) (b := 26) fl_X1_15 rfl rfl rfl dX1_readShip_53 ?_
    refine s_aload_n (pc := 56) 0 rfl rfl dX1_readShip_56 ?_
    refine s_getiE (pc := 57) fl_X1_27 rfl rfl (show _ = nI n by simp [ui, hn]) dX1_readShip_57 ?_
    refine s_aload_n (pc := 60) 0 rfl rfl dX1_readShip_60 ?_
    refine s_aload_n (pc := 61) 1 rfl rfl dX1_readShip_61 ?_
    refine s_iload_n (pc := 62) 2 rfl rfl dX1_readShip_62 ?_
    refine s_cvi2 (pc := 63) (c_X1_readTwoFiguresT_24 (f := f) (h := ui (ui (h) 24 8 (nI (q + 1))) 25 n (nI (kdN (f q)))) (q := q + 1) ht (fun j hj => by (repeat rw [ui_ne (by omega)]); exact hf j hj) hm (by simp [ui]) (by omega) h1 h2) ml_X1_55 mw_X1_readTwoFigures rfl (by decide) (Nat.le_of_ble_eq_true rfl) dX1_readShip_63 ?_
    refine s_iast (pc := 66) (_) rfl rfl (by omega) dX1_readShip_66 ?_
    refine s_aload_n (pc := 67) 0 rfl rfl dX1_readShip_67 ?_
    refine s_getr (pc := 68) (b := 26) fl_X1_15 rfl rfl rfl dX1_readShip_68 ?_
    refine s_aload_n (pc := 71) 0 rfl rfl dX1_readShip_71 ?_
    refine s_getiE (pc := 72) fl_X1_27 rfl rfl (show _ = nI n by simp [ui, hn]) dX1_readShip_72 ?_
    refine s_ialdN (pc := 75) (v := 10 * dvN f (q + 1) + dvN f (q + 2)) (_) rfl rfl (by omega) (by simp [ui]) dX1_readShip_75 ?_
    refine s_if_geN (pc := 76) (by omega) 81 dX1_readShip_76 (by decide) ?_
    refine s_aload_n (pc := 81) 0 rfl rfl dX1_readShip_81 ?_
    refine s_getr (pc := 82) (b := 27) fl_X1_18 rfl rfl rfl dX1_readShip_82 ?_
    refine s_aload_n (pc := 85) 0 rfl rfl dX1_readShip_85 ?_
    refine s_getiE (pc := 86) fl_X1_27 rfl rfl (show _ = nI n by simp [ui, hn]) dX1_readShip_86 ?_
    refine s_aload_n (pc := 89) 0 rfl rfl dX1_readShip_89 ?_
    refine s_aload_n (pc := 90) 1 rfl rfl dX1_readShip_90 ?_
    refine s_iload_n (pc := 91) 2 rfl rfl dX1_readShip_91 ?_
    refine s_iconst (pc := 92) (k_i0N) dX1_readShip_92 ?_
    refine s_cvi3 (pc := 93) (c_X1_readFigureT_24 (f := f) (h := ui (ui (ui (ui (h) 24 8 (nI (q + 1))) 25 n (nI (kdN (f q)))) 24 8 (nI (q + 1 + 2))) 26 n (nI (10 * dvN f (q + 1) + dvN f (q + 2)))) (q := q + 3) ht (fun j hj => by (repeat rw [ui_ne (by omega)]); exact hf j hj) hm (by simp [ui]) (by omega) (Nat.zero_le _) h3) ml_X1_58 mw_X1_readFigure rfl (by decide) (Nat.le_of_ble_eq_true rfl) dX1_readShip_93 ?_
    refine s_iast (pc := 96) (_) rfl rfl (by omega) dX1_readShip_96 ?_
    refine s_aload_n (pc := 97) 0 rfl rfl dX1_readShip_97 ?_
    refine s_getr (pc := 98) (b := 27) fl_X1_18 rfl rfl rfl dX1_readShip_98 ?_
    refine s_aload_n (pc := 101) 0 rfl rfl dX1_readShip_101 ?_
    refine s_getiE (pc := 102) fl_X1_27 rfl rfl (show _ = nI n by simp [ui, hn]) dX1_readShip_102 ?_
    refine s_ialdN (pc := 105) (v := dvN f (q + 3)) (_) rfl rfl (by omega) (by simp [ui]) dX1_readShip_105 ?_
    refine s_if_geN (pc := 106) (by omega) 111 dX1_readShip_106 (by decide) ?_
    refine s_aload_n (pc := 111) 0 rfl rfl dX1_readShip_111 ?_
    refine s_getr (pc := 112) (b := 28) fl_X1_21 rfl rfl rfl dX1_readShip_112 ?_
    refine s_aload_n (pc := 115) 0 rfl rfl dX1_readShip_115 ?_
    refine s_getiE (pc := 116) fl_X1_27 rfl rfl (show _ = nI n by simp [ui, hn]) dX1_readShip_116 ?_
    refine s_aload_n (pc := 119) 0 rfl rfl dX1_readShip_119 ?_
    refine s_aload_n (pc := 120) 1 rfl rfl dX1_readShip_120 ?_
    refine s_iload_n (pc := 121) 2 rfl rfl dX1_readShip_121 ?_
    refine s_iconst (pc := 122) (k_i0N) dX1_readShip_122 ?_
    refine s_cvi3 (pc := 123) (c_X1_readFigureT_24 (f := f) (h := ui (ui (ui (ui (ui (ui (h) 24 8 (nI (q + 1))) 25 n (nI (kdN (f q)))) 24 8 (nI (q + 1 + 2))) 26 n (nI (10 * dvN f (q + 1) + dvN f (q + 2)))) 24 8 (nI (q + 3 + 1))) 27 n (nI (dvN f (q + 3)))) (q := q + 4) ht (fun j hj => by (repeat rw [ui_ne (by omega)]); exact hf j hj) hm (by simp [ui]) (by omega) (Nat.zero_le _) h4) ml_X1_58 mw_X1_readFigure rfl (by decide) (Nat.le_of_ble_eq_true rfl) dX1_readShip_123 ?_
    refine s_iast (pc := 126) (_) rfl rfl (by omega) dX1_readShip_126 ?_
    refine s_aload_n (pc := 127) 0 rfl rfl dX1_readShip_127 ?_
    refine s_getr (pc := 128) (b := 28) fl_X1_21 rfl rfl rfl dX1_readShip_128 ?_
    refine s_aload_n (pc := 131) 0 rfl rfl dX1_readShip_131 ?_
    refine s_getiE (pc := 132) fl_X1_27 rfl rfl (show _ = nI n by simp [ui, hn]) dX1_readShip_132 ?_
    refine s_ialdN (pc := 135) (v := dvN f (q + 4)) (_) rfl rfl (by omega) (by simp [ui]) dX1_readShip_135 ?_
    refine s_if_geN (pc := 136) (by omega) 141 dX1_readShip_136 (by decide) ?_
    refine s_aload_n (pc := 141) 0 rfl rfl dX1_readShip_141 ?_
    refine s_getr (pc := 142) (b := 29) fl_X1_24 rfl rfl rfl dX1_readShip_142 ?_
    refine s_aload_n (pc := 145) 0 rfl rfl dX1_readShip_145 ?_
    refine s_getiE (pc := 146) fl_X1_27 rfl rfl (show _ = nI n by simp [ui, hn]) dX1_readShip_146 ?_
    refine s_aload_n (pc := 149) 0 rfl rfl dX1_readShip_149 ?_
    refine s_aload_n (pc := 150) 1 rfl rfl dX1_readShip_150 ?_
    refine s_iload_n (pc := 151) 2 rfl rfl dX1_readShip_151 ?_
    refine s_iconst (pc := 152) (k_i0N) dX1_readShip_152 ?_
    refine s_cvi3 (pc := 153) (c_X1_readFigureT_24 (f := f) (h := ui (ui (ui (ui (ui (ui (ui (ui (h) 24 8 (nI (q + 1))) 25 n (nI (kdN (f q)))) 24 8 (nI (q + 1 + 2))) 26 n (nI (10 * dvN f (q + 1) + dvN f (q + 2)))) 24 8 (nI (q + 3 + 1))) 27 n (nI (dvN f (q + 3)))) 24 8 (nI (q + 4 + 1))) 28 n (nI (dvN f (q + 4)))) (q := q + 5) ht (fun j hj => by (repeat rw [ui_ne (by omega)]); exact hf j hj) hm (by simp [ui]) (by omega) (Nat.zero_le _) h5) ml_X1_58 mw_X1_readFigure rfl (by decide) (Nat.le_of_ble_eq_true rfl) dX1_readShip_153 ?_
    refine s_iast (pc := 156) (_) rfl rfl (by omega) dX1_readShip_156 ?_
    refine s_aload_n (pc := 157) 0 rfl rfl dX1_readShip_157 ?_
    refine s_getr (pc := 158) (b := 29) fl_X1_24 rfl rfl rfl dX1_readShip_158 ?_
    refine s_aload_n (pc := 161) 0 rfl rfl dX1_readShip_161 ?_
    refine s_getiE (pc := 162) fl_X1_27 rfl rfl (show _ = nI n by simp [ui, hn]) dX1_readShip_162 ?_
    refine s_ialdN (pc := 165) (v := dvN f (q + 5)) (_) rfl rfl (by omega) (by simp [ui]) dX1_readShip_165 ?_
    refine s_if_geN (pc := 166) (by omega) 171 dX1_readShip_166 (by decide) ?_
    refine s_aload_n (pc := 171) 0 rfl rfl dX1_readShip_171 ?_
    refine s_dup (pc := 172) rfl dX1_readShip_172 ?_
    refine s_getiE (pc := 173) fl_X1_27 rfl rfl (show _ = nI n by simp [ui, hn]) dX1_readShip_173 ?_
    refine s_iconst (pc := 176) (k_i1N) dX1_readShip_176 ?_
    refine s_iaddN (pc := 177) dX1_readShip_177 ?_
    refine s_puti (pc := 178) fl_X1_27 fw_1_5 rfl rfl dX1_readShip_178 ?_
    refine s_iconst (pc := 181) (k_i1N) dX1_readShip_181 ?_
    refine s_iret (pc := 182) dX1_readShip_182 (PostE.of hp ?_ ?_)
    · rfl
    · rfl
  · exfalso; omega

def hsC_24 (f : Nat → Int32) (n q : Nat) (h : Hp) : Hp := ui (ui (ui (ui (ui (ui (ui (ui (ui (ui (ui (h) 24 8 (nI (q + 1))) 25 n (nI (kdN (f q)))) 24 8 (nI (q + 1 + 2))) 26 n (nI (10 * dvN f (q + 1) + dvN f (q + 2)))) 24 8 (nI (q + 3 + 1))) 27 n (nI (dvN f (q + 3)))) 24 8 (nI (q + 4 + 1))) 28 n (nI (dvN f (q + 4)))) 24 8 (nI (q + 5 + 1))) 29 n (nI (dvN f (q + 5)))) 24 5 (nI (n + 1))

def hhC_24 (f : Nat → Int32) (q : Nat) (h : Hp) : Hp := ui (ui (ui (ui (ui (h) 24 8 (nI (q + 1))) 24 8 (nI (q + 1 + 2))) 24 6 (nI (10 * dvN f (q + 1) + dvN f (q + 2)))) 24 8 (nI (q + 1 + 2 + 1))) 24 7 (nI (dvN f (q + 3)))

theorem rsT_24 {n : Nat} {t m q : Nat} {f : Nat → Int32} {h : Hp} (ht : t < 4) (hf : ∀ j, j < 60 → h.1 (12 + 1 + t) j = f j) (hm : m ≤ 60) (hq : h.1 24 8 = nI q) (hqm : q ≤ m) (hn : h.1 24 5 = nI n) (hn7 : n ≤ 7) (hs : (shS f m n q).2 = true) : CT 4 yX1_readShip cX1_readShip 4 (some .boolean) [.ref 24, .ref (12 + 1 + t), .int (nI m)] h (some (.int (bi True))) (hsC_24 f n q h) ∧ q + 6 ≤ m ∧ n < 6 := by
  rcases sh_cs f m n q with ⟨h0, e⟩ | ⟨h0, h⟩
  · rw [e] at hs; exact absurd hs (by simp)
  rcases h with ⟨h1, e⟩ | ⟨h1, h⟩
  · rw [e] at hs; exact absurd hs (by simp)
  rcases h with ⟨h2, e⟩ | ⟨h2, h⟩
  · rw [e] at hs; exact absurd hs (by simp)
  rcases h with ⟨h3, e⟩ | ⟨h3, h⟩
  · rw [e] at hs; exact absurd hs (by simp)
  rcases h with ⟨h4, e⟩ | ⟨h4, h⟩
  · rw [e] at hs; exact absurd hs (by simp)
  rcases h with ⟨h5, e⟩ | ⟨h5, e⟩
  · rw [e] at hs; exact absurd hs (by simp)
  · exact ⟨c_X1_readShipT_24 ht hf hm hq hqm hn hn7 h0 h1 h2 h3 h4 h5, by have := dg_lt h5; omega, h0.2.2⟩

theorem rhT_24 {t m : Nat} {f : Nat → Int32} {h : Hp} (ht : t < 4) (hf : ∀ j, j < 60 → h.1 (12 + 1 + t) j = f j) (hm : m ≤ 60) (hq : h.1 24 8 = nI (sk f m 0)) (hqm : sk f m 0 ≤ m) (hs : (hdS f m).2 = true) : CT 4 yX1_readHead cX1_readHead 3 (some .boolean) [.ref 24, .ref (12 + 1 + t), .int (nI m)] h (some (.int (bi True))) (hhC_24 f (sk f m 0) h) ∧ sk f m 0 + 4 ≤ m := by
  rcases hd_cs f m with ⟨h0, e⟩ | ⟨h0, h⟩
  · rw [e] at hs; exact absurd hs (by simp)
  rcases h with ⟨h1, e⟩ | ⟨h1, h⟩
  · rw [e] at hs; exact absurd hs (by simp)
  rcases h with ⟨h2, e⟩ | ⟨h2, h⟩
  · rw [e] at hs; exact absurd hs (by simp)
  rcases h with ⟨h3, e⟩ | ⟨h3, e⟩
  · rw [e] at hs; exact absurd hs (by simp)
  · exact ⟨c_X1_readHeadT_24 ht hf hm hq hqm h0 h1 h2 h3, by have := dg_lt h3; omega⟩
