set_option maxRecDepth 20000 in
theorem c_X7_ageIn {i y : Nat} {a : Nat → Nat} {h : Hp} (hA : RM a h) (hO : OkA a) (hi : i < a 0) (hy : y ≤ 1000) : CT 2 yX7_ageIn cX7_ageIn 3 (some .int) [.ref 50, .int (nI i), .int (nI y)] h (some (.int (nI (ageN a i y)))) (h) := by
  obtain ⟨⟨o0, o1, o2, o3, o4, o5, o6⟩, os⟩ := id hO
  have o64 := hO.in64
  obtain ⟨s0, s1, s2, s3, s4, s5, s6, s7⟩ := os i hi
  refine CT.of (own := RX7) rfl (by decide) (ro_i _) [.ref 50, .int (nI i), .int (nI y)] rfl (Nat.le_of_ble_eq_true rfl) (fun E hp => ?_)
  refine s_aload_n (pc := 0) 0 rfl rfl dX7_ageIn_0 ?_
  refine s_iload_n (pc := 1) 1 rfl rfl dX7_ageIn_1 ?_
  refine s_iconst (pc := 2) (k_i0N) dX7_ageIn_2 ?_
  refine s_cvi2 (pc := 3) (c_X7_of hA (by omega) (by decide)) ml_X7_126 mw_X7_of rfl (by decide) (Nat.le_of_ble_eq_true rfl) dX7_ageIn_3 ?_
  refine s_iload_n (pc := 6) 2 rfl rfl dX7_ageIn_6 ?_
  refine s_aload_n (pc := 7) 0 rfl rfl dX7_ageIn_7 ?_
  refine s_iload_n (pc := 8) 1 rfl rfl dX7_ageIn_8 ?_
  refine s_iconst (pc := 9) (k_i1N) dX7_ageIn_9 ?_
  refine s_cvi2 (pc := 10) (c_X7_of hA (by omega) (by decide)) ml_X7_126 mw_X7_of rfl (by decide) (Nat.le_of_ble_eq_true rfl) dX7_ageIn_10 ?_
  refine s_csi2 (pc := 13) (c_X7_oldIn (by omega) (by omega)) ml_X7_129 ms_X7_oldIn (by decide) (Nat.le_of_ble_eq_true rfl) dX7_ageIn_13 ?_
  refine s_aload_n (pc := 16) 0 rfl rfl dX7_ageIn_16 ?_
  refine s_iload_n (pc := 17) 1 rfl rfl dX7_ageIn_17 ?_
  refine s_iconst (pc := 18) (k_i5N) dX7_ageIn_18 ?_
  refine s_cvi2 (pc := 19) (c_X7_of hA (by omega) (by decide)) ml_X7_126 mw_X7_of rfl (by decide) (Nat.le_of_ble_eq_true rfl) dX7_ageIn_19 ?_
  refine s_aload_n (pc := 22) 0 rfl rfl dX7_ageIn_22 ?_
  refine s_iload_n (pc := 23) 1 rfl rfl dX7_ageIn_23 ?_
  refine s_bipush (pc := 24) (k_b6N) dX7_ageIn_24 ?_
  refine s_cvi2 (pc := 26) (c_X7_of hA (by omega) (by decide)) ml_X7_126 mw_X7_of rfl (by decide) (Nat.le_of_ble_eq_true rfl) dX7_ageIn_26 ?_
  refine s_csi4 (pc := 29) (c_X7_aged (by omega) (by omega) (by omega) (by omega)) ml_X7_132 ms_X7_aged (by decide) (Nat.le_of_ble_eq_true rfl) dX7_ageIn_29 ?_
  refine s_iret (pc := 32) dX7_ageIn_32 (PostE.of hp ?_ ?_)
  · rfl
  · rfl

set_option maxRecDepth 20000 in
theorem c_X7_ageNow {i : Nat} {a : Nat → Nat} {h : Hp} (hA : RM a h) (hO : OkA a) (hi : i < a 0) : CT 3 yX7_ageNow cX7_ageNow 2 (some .int) [.ref 50, .int (nI i)] h (some (.int (nI (ageN a i (a 1))))) (h) := by
  obtain ⟨⟨o0, o1, o2, o3, o4, o5, o6⟩, os⟩ := id hO
  have o64 := hO.in64
  refine CT.of (own := RX7) rfl (by decide) (ro_i _) [.ref 50, .int (nI i)] rfl (Nat.le_of_ble_eq_true rfl) (fun E hp => ?_)
  refine s_aload_n (pc := 0) 0 rfl rfl dX7_ageNow_0 ?_
  refine s_iload_n (pc := 1) 1 rfl rfl dX7_ageNow_1 ?_
  refine s_aload_n (pc := 2) 0 rfl rfl dX7_ageNow_2 ?_
  refine s_getr (pc := 3) (b := 56) fl_X7_25 rfl rfl rfl dX7_ageNow_3 ?_
  refine s_iconst (pc := 6) (k_i1N) dX7_ageNow_6 ?_
  refine s_ialdN (pc := 7) (_) rfl rfl (by omega) (hA _ (by omega)) dX7_ageNow_7 ?_
  refine s_cvi2 (pc := 8) (c_X7_ageIn hA hO hi (by omega)) ml_X7_136 mw_X7_ageIn rfl (by decide) (Nat.le_of_ble_eq_true rfl) dX7_ageNow_8 ?_
  refine s_iret (pc := 11) dX7_ageNow_11 (PostE.of hp ?_ ?_)
  · rfl
  · rfl

theorem ah_t {a : Nat → Nat} {i u j v : Nat} (h : (u = v ∧ sh a i 2 = sh a j 2 ∧ sh a i 3 = sh a j 3 ∧ i < j) ∨ (u = v ∧ sh a i 2 = sh a j 2 ∧ ¬ sh a i 3 = sh a j 3 ∧ sh a j 3 < sh a i 3) ∨ (u = v ∧ ¬ sh a i 2 = sh a j 2 ∧ sh a j 2 < sh a i 2) ∨ (¬ u = v ∧ v < u)) : aheadN a i u j v = true := by
  unfold aheadN
  repeat' split
  all_goals (rw [decide_eq_true_eq]; omega)
theorem ah_f {a : Nat → Nat} {i u j v : Nat} (h : (u = v ∧ sh a i 2 = sh a j 2 ∧ sh a i 3 = sh a j 3 ∧ ¬ i < j) ∨ (u = v ∧ sh a i 2 = sh a j 2 ∧ ¬ sh a i 3 = sh a j 3 ∧ ¬ sh a j 3 < sh a i 3) ∨ (u = v ∧ ¬ sh a i 2 = sh a j 2 ∧ ¬ sh a j 2 < sh a i 2) ∨ (¬ u = v ∧ ¬ v < u)) : ¬ aheadN a i u j v = true := by
  unfold aheadN
  repeat' split
  all_goals (rw [decide_eq_true_eq]; omega)

set_option maxRecDepth 20000 in
theorem c_X7_isAheadBy {i u j v : Nat} {a : Nat → Nat} {h : Hp} (hA : RM a h) (hO : OkA a) (hi : i < a 0) (hj : j < a 0) (hu : u < 2 ^ 31) (hv : v < 2 ^ 31) : CT 2 yX7_isAheadBy cX7_isAheadBy 7 (some .boolean) [.ref 50, .int (nI i), .int (nI u), .int (nI j), .int (nI v)] h (some (.int (bi (aheadN a i u j v = true)))) (h) := by
  obtain ⟨⟨o0, o1, o2, o3, o4, o5, o6⟩, os⟩ := id hO
  have o64 := hO.in64
  obtain ⟨s0, s1, s2, s3, s4, s5, s6, s7⟩ := os i hi
  obtain ⟨t0, t1, t2, t3, t4, t5, t6, t7⟩ := os j hj
  have e2 := sub0 (x := sh a i 2) (y := sh a j 2) (by omega) (by omega)
  have e3 := sub0 (x := sh a i 3) (y := sh a j 3) (by omega) (by omega)
  have l2 := subp (x := sh a i 2) (y := sh a j 2) (by omega) (by omega)
  have l3 := subp (x := sh a i 3) (y := sh a j 3) (by omega) (by omega)
  refine CT.of (own := RX7) rfl (by decide) (ro_z _) [.ref 50, .int (nI i), .int (nI u), .int (nI j), .int (nI v), .null, .null] rfl (Nat.le_of_ble_eq_true rfl) (fun E hp => ?_)
  refine s_iload_n (pc := 0) 2 rfl rfl dX7_isAheadBy_0 ?_
  refine s_iload (pc := 1) rfl dX7_isAheadBy_1 ?_
  refine s_icmp_eqN (pc := 3) (by omega) (by omega) 18 dX7_isAheadBy_3 (by decide) (fun c_3 => ?_) (fun c_3 => ?_)
  · refine s_aload_n (pc := 18) 0 rfl rfl dX7_isAheadBy_18 ?_
    refine s_iload_n (pc := 19) 1 rfl rfl dX7_isAheadBy_19 ?_
    refine s_iconst (pc := 20) (k_i2N) dX7_isAheadBy_20 ?_
    refine s_cvi2 (pc := 21) (c_X7_of hA (by omega) (by decide)) ml_X7_126 mw_X7_of rfl (by decide) (Nat.le_of_ble_eq_true rfl) dX7_isAheadBy_21 ?_
    refine s_aload_n (pc := 24) 0 rfl rfl dX7_isAheadBy_24 ?_
    refine s_iload_n (pc := 25) 3 rfl rfl dX7_isAheadBy_25 ?_
    refine s_iconst (pc := 26) (k_i2N) dX7_isAheadBy_26 ?_
    refine s_cvi2 (pc := 27) (c_X7_of hA (by omega) (by decide)) ml_X7_126 mw_X7_of rfl (by decide) (Nat.le_of_ble_eq_true rfl) dX7_isAheadBy_27 ?_
    refine s_isub (pc := 30) dX7_isAheadBy_30 ?_
    refine s_istore (pc := 31) (by decide) rfl dX7_isAheadBy_31 ?_
    refine s_aload_n (pc := 33) 0 rfl rfl dX7_isAheadBy_33 ?_
    refine s_iload_n (pc := 34) 1 rfl rfl dX7_isAheadBy_34 ?_
    refine s_iconst (pc := 35) (k_i3N) dX7_isAheadBy_35 ?_
    refine s_cvi2 (pc := 36) (c_X7_of hA (by omega) (by decide)) ml_X7_126 mw_X7_of rfl (by decide) (Nat.le_of_ble_eq_true rfl) dX7_isAheadBy_36 ?_
    refine s_aload_n (pc := 39) 0 rfl rfl dX7_isAheadBy_39 ?_
    refine s_iload_n (pc := 40) 3 rfl rfl dX7_isAheadBy_40 ?_
    refine s_iconst (pc := 41) (k_i3N) dX7_isAheadBy_41 ?_
    refine s_cvi2 (pc := 42) (c_X7_of hA (by omega) (by decide)) ml_X7_126 mw_X7_of rfl (by decide) (Nat.le_of_ble_eq_true rfl) dX7_isAheadBy_42 ?_
    refine s_isub (pc := 45) dX7_isAheadBy_45 ?_
    refine s_istore (pc := 46) (by decide) rfl dX7_isAheadBy_46 ?_
    refine s_iload (pc := 48) rfl dX7_isAheadBy_48 ?_
    refine s_if_eq (pc := 50) 66 dX7_isAheadBy_50 (by decide) (fun c_50 => ?_) (fun c_50 => ?_)
    · have d_50 := e2.mp c_50
      refine s_iload (pc := 66) rfl dX7_isAheadBy_66 ?_
      refine s_if_eq (pc := 68) 84 dX7_isAheadBy_68 (by decide) (fun c_68 => ?_) (fun c_68 => ?_)
      · have d_68 := e3.mp c_68
        refine s_iload_n (pc := 84) 1 rfl rfl dX7_isAheadBy_84 ?_
        refine s_iload_n (pc := 85) 3 rfl rfl dX7_isAheadBy_85 ?_
        refine s_icmp_geN (pc := 86) (by omega) (by omega) 93 dX7_isAheadBy_86 (by decide) (fun c_86 => ?_) (fun c_86 => ?_)
        · refine s_iconst (pc := 93) (k_i0N) dX7_isAheadBy_93 ?_
          refine s_iret (pc := 94) dX7_isAheadBy_94 (PostE.of hp ?_ ?_)
          · first | exact ret_t rfl (ah_t (by omega)) | exact ret_f rfl (ah_f (by omega))
          · rfl
        · refine s_iconst (pc := 89) (k_i1N) dX7_isAheadBy_89 ?_
          refine s_goto (pc := 90) 94 dX7_isAheadBy_90 (by decide) ?_
          refine s_iret (pc := 94) dX7_isAheadBy_94 (PostE.of hp ?_ ?_)
          · first | exact ret_t rfl (ah_t (by omega)) | exact ret_f rfl (ah_f (by omega))
          · rfl
      · have d_68 : ¬ _ := fun z => c_68 (e3.mpr z)
        refine s_iload (pc := 71) rfl dX7_isAheadBy_71 ?_
        refine s_if_le (pc := 73) 80 dX7_isAheadBy_73 (by decide) (fun c_73 => ?_) (fun c_73 => ?_)
        · have d_73 := l3.mp c_73
          refine s_iconst (pc := 80) (k_i0N) dX7_isAheadBy_80 ?_
          refine s_goto (pc := 81) 94 dX7_isAheadBy_81 (by decide) ?_
          refine s_iret (pc := 94) dX7_isAheadBy_94 (PostE.of hp ?_ ?_)
          · first | exact ret_t rfl (ah_t (by omega)) | exact ret_f rfl (ah_f (by omega))
          · rfl
        · have d_73 : ¬ _ := fun z => c_73 (l3.mpr z)
          refine s_iconst (pc := 76) (k_i1N) dX7_isAheadBy_76 ?_
          refine s_goto (pc := 77) 94 dX7_isAheadBy_77 (by decide) ?_
          refine s_iret (pc := 94) dX7_isAheadBy_94 (PostE.of hp ?_ ?_)
          · first | exact ret_t rfl (ah_t (by omega)) | exact ret_f rfl (ah_f (by omega))
          · rfl
    · have d_50 : ¬ _ := fun z => c_50 (e2.mpr z)
      refine s_iload (pc := 53) rfl dX7_isAheadBy_53 ?_
      refine s_if_le (pc := 55) 62 dX7_isAheadBy_55 (by decide) (fun c_55 => ?_) (fun c_55 => ?_)
      · have d_55 := l2.mp c_55
        refine s_iconst (pc := 62) (k_i0N) dX7_isAheadBy_62 ?_
        refine s_goto (pc := 63) 94 dX7_isAheadBy_63 (by decide) ?_
        refine s_iret (pc := 94) dX7_isAheadBy_94 (PostE.of hp ?_ ?_)
        · first | exact ret_t rfl (ah_t (by omega)) | exact ret_f rfl (ah_f (by omega))
        · rfl
      · have d_55 : ¬ _ := fun z => c_55 (l2.mpr z)
        refine s_iconst (pc := 58) (k_i1N) dX7_isAheadBy_58 ?_
        refine s_goto (pc := 59) 94 dX7_isAheadBy_59 (by decide) ?_
        refine s_iret (pc := 94) dX7_isAheadBy_94 (PostE.of hp ?_ ?_)
        · first | exact ret_t rfl (ah_t (by omega)) | exact ret_f rfl (ah_f (by omega))
        · rfl
  · refine s_iload_n (pc := 6) 2 rfl rfl dX7_isAheadBy_6 ?_
    refine s_iload (pc := 7) rfl dX7_isAheadBy_7 ?_
    refine s_icmp_leN (pc := 9) (by omega) (by omega) 16 dX7_isAheadBy_9 (by decide) (fun c_9 => ?_) (fun c_9 => ?_)
    · refine s_iconst (pc := 16) (k_i0N) dX7_isAheadBy_16 ?_
      refine s_iret (pc := 17) dX7_isAheadBy_17 (PostE.of hp ?_ ?_)
      · first | exact ret_t rfl (ah_t (by omega)) | exact ret_f rfl (ah_f (by omega))
      · rfl
    · refine s_iconst (pc := 12) (k_i1N) dX7_isAheadBy_12 ?_
      refine s_goto (pc := 13) 17 dX7_isAheadBy_13 (by decide) ?_
      refine s_iret (pc := 17) dX7_isAheadBy_17 (PostE.of hp ?_ ?_)
      · first | exact ret_t rfl (ah_t (by omega)) | exact ret_f rfl (ah_f (by omega))
      · rfl

theorem age_lt {a : Nat → Nat} (hO : OkA a) {i y : Nat} (hi : i < a 0) (hy : y ≤ 1000) : ageN a i y < 2000 := by
  have h1 := agedN_le (k := sh a i 0) (o := y - sh a i 1) (t := sh a i 5) (p := sh a i 6)
  have h2 := (hO.2 i hi).2.2.2.2.2.1
  unfold ageN
  omega

set_option maxRecDepth 20000 in
theorem c_X7_isAhead {i j : Nat} {a : Nat → Nat} {h : Hp} (hA : RM a h) (hO : OkA a) (hi : i < a 0) (hj : j < a 0) : CT 4 yX7_isAhead cX7_isAhead 3 (some .boolean) [.ref 50, .int (nI i), .int (nI j)] h (some (.int (bi (aheadNow a i j = true)))) (h) := by
  obtain ⟨⟨o0, o1, o2, o3, o4, o5, o6⟩, os⟩ := id hO
  have o64 := hO.in64
  have g1 := age_lt hO hi (y := a 1) (by omega)
  have g2 := age_lt hO hj (y := a 1) (by omega)
  refine CT.of (own := RX7) rfl (by decide) (ro_z _) [.ref 50, .int (nI i), .int (nI j)] rfl (Nat.le_of_ble_eq_true rfl) (fun E hp => ?_)
  refine s_aload_n (pc := 0) 0 rfl rfl dX7_isAhead_0 ?_
  refine s_iload_n (pc := 1) 1 rfl rfl dX7_isAhead_1 ?_
  refine s_aload_n (pc := 2) 0 rfl rfl dX7_isAhead_2 ?_
  refine s_iload_n (pc := 3) 1 rfl rfl dX7_isAhead_3 ?_
  refine s_cvi1 (pc := 4) (c_X7_ageNow hA hO hi) ml_X7_139 mw_X7_ageNow rfl (by decide) (Nat.le_of_ble_eq_true rfl) dX7_isAhead_4 ?_
  refine s_iload_n (pc := 7) 2 rfl rfl dX7_isAhead_7 ?_
  refine s_aload_n (pc := 8) 0 rfl rfl dX7_isAhead_8 ?_
  refine s_iload_n (pc := 9) 2 rfl rfl dX7_isAhead_9 ?_
  refine s_cvi1 (pc := 10) (c_X7_ageNow hA hO hj) ml_X7_139 mw_X7_ageNow rfl (by decide) (Nat.le_of_ble_eq_true rfl) dX7_isAhead_10 ?_
  refine s_cvi4 (pc := 13) (c_X7_isAheadBy hA hO hi hj (by omega) (by omega)) ml_X7_142 mw_X7_isAheadBy rfl (by decide) (Nat.le_of_ble_eq_true rfl) dX7_isAhead_13 ?_
  refine s_iret (pc := 16) dX7_isAhead_16 (PostE.of hp ?_ ?_)
  · rfl
  · rfl

set_option maxRecDepth 20000 in
theorem c_X7_berthBy {i g s y : Nat} {a : Nat → Nat} {h : Hp} (hA : RM a h) (hO : OkA a) (hi : i < a 0) (hg : g < 2 ^ 31) (hs : s < 2 ^ 31) (hy : y ≤ 1000) : CT 3 yX7_berthBy cX7_berthBy 7 (some .int) [.ref 50, .int (nI i), .int (nI g), .int (nI s), .int (nI y)] h (some (.int (nI (berthN a i g s y)))) (h) := by
  obtain ⟨⟨o0, o1, o2, o3, o4, o5, o6⟩, os⟩ := id hO
  have o64 := hO.in64
  refine CT.of (own := RX7) rfl (by decide) (ro_i _) [.ref 50, .int (nI i), .int (nI g), .int (nI s), .int (nI y), .null, .null] rfl (Nat.le_of_ble_eq_true rfl) (fun E hp => ?_)
  refine s_iconst (pc := 0) (k_i0N) dX7_berthBy_0 ?_
  refine s_istore (pc := 1) (by decide) rfl dX7_berthBy_1 ?_
  refine s_iconst (pc := 3) (k_i0N) dX7_berthBy_3 ?_
  refine s_istore (pc := 4) (by decide) rfl dX7_berthBy_4 ?_
  suffices lp_6 : ∀ k, k ≤ a 0 → WW E cX7_berthBy RX7 7 _ 6 [.ref 50, .int (nI i), .int (nI g), .int (nI s), .int (nI y), .int (nI (cnt k (berthP a i g s y))), .int (nI k)] (h) [] from lp_6 (0) (by omega)
  refine lpi (a 0) (fun k hk_k ih_6 => ?_)
  refine s_iload (pc := 6) rfl dX7_berthBy_6 ?_
  refine s_aload_n (pc := 8) 0 rfl rfl dX7_berthBy_8 ?_
  refine s_getr (pc := 9) (b := 56) fl_X7_25 rfl rfl rfl dX7_berthBy_9 ?_
  refine s_iconst (pc := 12) (k_i0N) dX7_berthBy_12 ?_
  refine s_ialdN (pc := 13) (_) rfl rfl (by omega) (hA _ (by omega)) dX7_berthBy_13 ?_
  refine s_icmp_geN (pc := 14) (by omega) (by omega) 67 dX7_berthBy_14 (by decide) (fun c_14 => ?_) (fun c_14 => ?_)
  · obtain rfl : k = a 0 := by omega
    refine s_iload (pc := 67) rfl dX7_berthBy_67 ?_
    refine s_iret (pc := 69) dX7_berthBy_69 (PostE.of hp ?_ ?_)
    · rfl
    · rfl
  · refine s_iload (pc := 17) rfl dX7_berthBy_17 ?_
    refine s_iload (pc := 19) rfl dX7_berthBy_19 ?_
    refine s_iload_n (pc := 21) 1 rfl rfl dX7_berthBy_21 ?_
    refine s_icmp_eqN (pc := 22) (by omega) (by omega) 57 dX7_berthBy_22 (by decide) (fun c_22 => ?_) (fun c_22 => ?_)
    · refine s_iconst (pc := 57) (k_i0N) dX7_berthBy_57 ?_
      refine s_iaddN (pc := 58) dX7_berthBy_58 ?_
      first | rw [cnt_t (p := berthP a i g s y) (by simp only [berthP, Bool.and_eq_true, decide_eq_true_eq]; exact ⟨⟨c_22, c_31⟩, c_50⟩)] | rw [cnt_f (p := berthP a i g s y) (by simp only [berthP, Bool.and_eq_true, decide_eq_true_eq]; exact fun q => c_50 q.2)] | rw [cnt_f (p := berthP a i g s y) (by simp only [berthP, Bool.and_eq_true, decide_eq_true_eq]; exact fun q => c_31 q.1.2)] | rw [cnt_f (p := berthP a i g s y) (by simp only [berthP, Bool.and_eq_true, decide_eq_true_eq]; exact fun q => q.1.1 c_22)]
      refine s_istore (pc := 59) (by decide) rfl dX7_berthBy_59 ?_
      refine s_iincN (pc := 61) rfl (by decide) rfl dX7_berthBy_61 ?_
      refine s_goto (pc := 64) 6 dX7_berthBy_64 (by decide) ?_
      exact ih_6 (by omega)
    · refine s_iload_n (pc := 25) 3 rfl rfl dX7_berthBy_25 ?_
      refine s_iload (pc := 26) rfl dX7_berthBy_26 ?_
      refine s_csi2 (pc := 28) (c_X7_has hs (by omega)) ml_X7_146 ms_X7_has (by decide) (Nat.le_of_ble_eq_true rfl) dX7_berthBy_28 ?_
      refine s_if_eqB (pc := 31) 57 dX7_berthBy_31 (by decide) (fun c_31 => ?_) (fun c_31 => ?_)
      · refine s_iconst (pc := 57) (k_i0N) dX7_berthBy_57 ?_
        refine s_iaddN (pc := 58) dX7_berthBy_58 ?_
        first | rw [cnt_t (p := berthP a i g s y) (by simp only [berthP, Bool.and_eq_true, decide_eq_true_eq]; exact ⟨⟨c_22, c_31⟩, c_50⟩)] | rw [cnt_f (p := berthP a i g s y) (by simp only [berthP, Bool.and_eq_true, decide_eq_true_eq]; exact fun q => c_50 q.2)] | rw [cnt_f (p := berthP a i g s y) (by simp only [berthP, Bool.and_eq_true, decide_eq_true_eq]; exact fun q => c_31 q.1.2)] | rw [cnt_f (p := berthP a i g s y) (by simp only [berthP, Bool.and_eq_true, decide_eq_true_eq]; exact fun q => q.1.1 c_22)]
        refine s_istore (pc := 59) (by decide) rfl dX7_berthBy_59 ?_
        refine s_iincN (pc := 61) rfl (by decide) rfl dX7_berthBy_61 ?_
        refine s_goto (pc := 64) 6 dX7_berthBy_64 (by decide) ?_
        exact ih_6 (by omega)
      · refine s_aload_n (pc := 34) 0 rfl rfl dX7_berthBy_34 ?_
        refine s_iload (pc := 35) rfl dX7_berthBy_35 ?_
        refine s_aload_n (pc := 37) 0 rfl rfl dX7_berthBy_37 ?_
        refine s_iload (pc := 38) rfl dX7_berthBy_38 ?_
        refine s_iload (pc := 40) rfl dX7_berthBy_40 ?_
        refine s_cvi2 (pc := 42) (c_X7_ageIn hA hO (by omega) hy) ml_X7_136 mw_X7_ageIn rfl (by decide) (Nat.le_of_ble_eq_true rfl) dX7_berthBy_42 ?_
        refine s_iload_n (pc := 45) 1 rfl rfl dX7_berthBy_45 ?_
        refine s_iload_n (pc := 46) 2 rfl rfl dX7_berthBy_46 ?_
        refine s_cvi4 (pc := 47) (c_X7_isAheadBy hA hO (by omega) hi (Nat.lt_trans (age_lt hO (by omega) hy) (by decide)) hg) ml_X7_142 mw_X7_isAheadBy rfl (by decide) (Nat.le_of_ble_eq_true rfl) dX7_berthBy_47 ?_
        refine s_if_eqB (pc := 50) 57 dX7_berthBy_50 (by decide) (fun c_50 => ?_) (fun c_50 => ?_)
        · refine s_iconst (pc := 57) (k_i0N) dX7_berthBy_57 ?_
          refine s_iaddN (pc := 58) dX7_berthBy_58 ?_
          first | rw [cnt_t (p := berthP a i g s y) (by simp only [berthP, Bool.and_eq_true, decide_eq_true_eq]; exact ⟨⟨c_22, c_31⟩, c_50⟩)] | rw [cnt_f (p := berthP a i g s y) (by simp only [berthP, Bool.and_eq_true, decide_eq_true_eq]; exact fun q => c_50 q.2)] | rw [cnt_f (p := berthP a i g s y) (by simp only [berthP, Bool.and_eq_true, decide_eq_true_eq]; exact fun q => c_31 q.1.2)] | rw [cnt_f (p := berthP a i g s y) (by simp only [berthP, Bool.and_eq_true, decide_eq_true_eq]; exact fun q => q.1.1 c_22)]
          refine s_istore (pc := 59) (by decide) rfl dX7_berthBy_59 ?_
          refine s_iincN (pc := 61) rfl (by decide) rfl dX7_berthBy_61 ?_
          refine s_goto (pc := 64) 6 dX7_berthBy_64 (by decide) ?_
          exact ih_6 (by omega)
        · refine s_iconst (pc := 53) (k_i1N) dX7_berthBy_53 ?_
          refine s_goto (pc := 54) 58 dX7_berthBy_54 (by decide) ?_
          refine s_iaddN (pc := 58) dX7_berthBy_58 ?_
          first | rw [cnt_t (p := berthP a i g s y) (by simp only [berthP, Bool.and_eq_true, decide_eq_true_eq]; exact ⟨⟨c_22, c_31⟩, c_50⟩)] | rw [cnt_f (p := berthP a i g s y) (by simp only [berthP, Bool.and_eq_true, decide_eq_true_eq]; exact fun q => c_50 q.2)] | rw [cnt_f (p := berthP a i g s y) (by simp only [berthP, Bool.and_eq_true, decide_eq_true_eq]; exact fun q => c_31 q.1.2)] | rw [cnt_f (p := berthP a i g s y) (by simp only [berthP, Bool.and_eq_true, decide_eq_true_eq]; exact fun q => q.1.1 c_22)]
          refine s_istore (pc := 59) (by decide) rfl dX7_berthBy_59 ?_
          refine s_iincN (pc := 61) rfl (by decide) rfl dX7_berthBy_61 ?_
          refine s_goto (pc := 64) 6 dX7_berthBy_64 (by decide) ?_
          exact ih_6 (by omega)

set_option maxRecDepth 20000 in
theorem c_X7_berthIn {i s : Nat} {a : Nat → Nat} {h : Hp} (hA : RM a h) (hO : OkA a) (hi : i < a 0) (hs : s < 2 ^ 31) : CT 4 yX7_berthIn cX7_berthIn 3 (some .int) [.ref 50, .int (nI i), .int (nI s)] h (some (.int (nI (berthI a i s)))) (h) := by
  obtain ⟨⟨o0, o1, o2, o3, o4, o5, o6⟩, os⟩ := id hO
  have o64 := hO.in64
  have g1 := age_lt hO hi (y := a 1) (by omega)
  refine CT.of (own := RX7) rfl (by decide) (ro_i _) [.ref 50, .int (nI i), .int (nI s)] rfl (Nat.le_of_ble_eq_true rfl) (fun E hp => ?_)
  refine s_aload_n (pc := 0) 0 rfl rfl dX7_berthIn_0 ?_
  refine s_iload_n (pc := 1) 1 rfl rfl dX7_berthIn_1 ?_
  refine s_aload_n (pc := 2) 0 rfl rfl dX7_berthIn_2 ?_
  refine s_iload_n (pc := 3) 1 rfl rfl dX7_berthIn_3 ?_
  refine s_cvi1 (pc := 4) (c_X7_ageNow hA hO hi) ml_X7_139 mw_X7_ageNow rfl (by decide) (Nat.le_of_ble_eq_true rfl) dX7_berthIn_4 ?_
  refine s_iload_n (pc := 7) 2 rfl rfl dX7_berthIn_7 ?_
  refine s_aload_n (pc := 8) 0 rfl rfl dX7_berthIn_8 ?_
  refine s_getr (pc := 9) (b := 56) fl_X7_25 rfl rfl rfl dX7_berthIn_9 ?_
  refine s_iconst (pc := 12) (k_i1N) dX7_berthIn_12 ?_
  refine s_ialdN (pc := 13) (_) rfl rfl (by omega) (hA _ (by omega)) dX7_berthIn_13 ?_
  refine s_cvi4 (pc := 14) (c_X7_berthBy hA hO hi (by omega) hs (by omega)) ml_X7_150 mw_X7_berthBy rfl (by decide) (Nat.le_of_ble_eq_true rfl) dX7_berthIn_14 ?_
  refine s_iret (pc := 17) dX7_berthIn_17 (PostE.of hp ?_ ?_)
  · rfl
  · rfl

set_option maxRecDepth 20000 in
theorem c_X7_shiftedBy {i s : Nat} {a : Nat → Nat} {h : Hp} (hA : RM a h) (hO : OkA a) (hi : i < a 0) (hs : s < 2 ^ a 0) (hs6 : s < 64) : CT 5 yX7_shiftedBy cX7_shiftedBy 3 (some .int) [.ref 50, .int (nI i), .int (nI s)] h (some (.int (nI (shiftN a i s)))) (h) := by
  obtain ⟨⟨o0, o1, o2, o3, o4, o5, o6⟩, os⟩ := id hO
  have o64 := hO.in64
  have e := shift_eq (a := a) (i := i) (s := s) o0 (by omega) hs hs6
  refine CT.of (own := RX7) rfl (by decide) (ro_i _) [.ref 50, .int (nI i), .int (nI s)] rfl (Nat.le_of_ble_eq_true rfl) (fun E hp => ?_)
  refine s_iload_n (pc := 0) 2 rfl rfl dX7_shiftedBy_0 ?_
  refine s_iconst (pc := 1) (k_i1N) dX7_shiftedBy_1 ?_
  refine s_iload_n (pc := 2) 1 rfl rfl dX7_shiftedBy_2 ?_
  refine s_ishl1N (pc := 3) (by omega) dX7_shiftedBy_3 ?_
  refine s_iconst (pc := 4) (k_im1) dX7_shiftedBy_4 ?_
  refine s_ixor (pc := 5) dX7_shiftedBy_5 ?_
  refine s_iand (pc := 6) dX7_shiftedBy_6 ?_
  refine WW.top (clr_and s hs6 i (by omega)) ?_
  refine s_csi1 (pc := 7) (c_X7_ones (Nat.lt_trans (clr_lt hs6) (by decide))) ml_X7_153 ms_X7_ones (by decide) (Nat.le_of_ble_eq_true rfl) dX7_shiftedBy_7 ?_
  refine s_aload_n (pc := 10) 0 rfl rfl dX7_shiftedBy_10 ?_
  refine s_iload_n (pc := 11) 1 rfl rfl dX7_shiftedBy_11 ?_
  refine s_iload_n (pc := 12) 2 rfl rfl dX7_shiftedBy_12 ?_
  refine s_cvi2 (pc := 13) (c_X7_berthIn hA hO hi (by omega)) ml_X7_156 mw_X7_berthIn rfl (by decide) (Nat.le_of_ble_eq_true rfl) dX7_shiftedBy_13 ?_
  refine s_isubN (pc := 16) (by omega) dX7_shiftedBy_16 ?_
  refine s_iret (pc := 17) dX7_shiftedBy_17 (PostE.of hp ?_ ?_)
  · exact retn (by omega)
  · rfl

def hasN (a : Nat → Nat) (i w : Nat) : Int32 := if w < 6 then nI (sh a i w) else if w = 6 then nI (ageN a i (a 1)) else if w = 7 then (if (a 5).testBit i = true then nI (berthI a i (a 5)) else -9) else nI (sh a i 7)

set_option maxRecDepth 20000 in
theorem c_X7_shipHas {i w : Nat} {a : Nat → Nat} {h : Hp} (hA : RM a h) (hO : OkA a) (hi : i < a 0) (hw : w < 9) : CT 5 yX7_shipHas cX7_shipHas 3 (some .int) [.ref 50, .int (nI i), .int (nI w)] h (some (.int (hasN a i w))) (h) := by
  obtain ⟨⟨o0, o1, o2, o3, o4, o5, o6⟩, os⟩ := id hO
  have o64 := hO.in64
  refine CT.of (own := RX7) rfl (by decide) (ro_i _) [.ref 50, .int (nI i), .int (nI w)] rfl (Nat.le_of_ble_eq_true rfl) (fun E hp => ?_)
  refine s_iload_n (pc := 0) 2 rfl rfl dX7_shipHas_0 ?_
  refine s_bipush (pc := 1) (k_b6N) dX7_shipHas_1 ?_
  refine s_icmp_geN (pc := 3) (by omega) (by omega) 13 dX7_shipHas_3 (by decide) (fun c_3 => ?_) (fun c_3 => ?_)
  · refine s_iload_n (pc := 13) 2 rfl rfl dX7_shipHas_13 ?_
    refine s_bipush (pc := 14) (k_b6N) dX7_shipHas_14 ?_
    refine s_icmp_neN (pc := 16) (by omega) (by omega) 27 dX7_shipHas_16 (by decide) (fun c_16 => ?_) (fun c_16 => ?_)
    · refine s_iload_n (pc := 27) 2 rfl rfl dX7_shipHas_27 ?_
      refine s_bipush (pc := 28) (k_b7N) dX7_shipHas_28 ?_
      refine s_icmp_neN (pc := 30) (by omega) (by omega) 65 dX7_shipHas_30 (by decide) (fun c_30 => ?_) (fun c_30 => ?_)
      · refine s_aload_n (pc := 65) 0 rfl rfl dX7_shipHas_65 ?_
        refine s_iload_n (pc := 66) 1 rfl rfl dX7_shipHas_66 ?_
        refine s_bipush (pc := 67) (k_b7N) dX7_shipHas_67 ?_
        refine s_cvi2 (pc := 69) (c_X7_of hA (by omega) (by omega)) ml_X7_126 mw_X7_of rfl (by decide) (Nat.le_of_ble_eq_true rfl) dX7_shipHas_69 ?_
        refine s_iret (pc := 72) dX7_shipHas_72 (PostE.of hp ?_ ?_)
        · simp only [hasN]; (repeat' split) <;> first | rfl | omega | (exfalso; simp_all; done)
        · rfl
      · refine s_aload_n (pc := 33) 0 rfl rfl dX7_shipHas_33 ?_
        refine s_getr (pc := 34) (b := 56) fl_X7_25 rfl rfl rfl dX7_shipHas_34 ?_
        refine s_iconst (pc := 37) (k_i5N) dX7_shipHas_37 ?_
        refine s_ialdN (pc := 38) (_) rfl rfl (by omega) (hA _ (by omega)) dX7_shipHas_38 ?_
        refine s_iload_n (pc := 39) 1 rfl rfl dX7_shipHas_39 ?_
        refine s_csi2 (pc := 40) (c_X7_has (by omega) (by omega)) ml_X7_146 ms_X7_has (by decide) (Nat.le_of_ble_eq_true rfl) dX7_shipHas_40 ?_
        refine s_if_eqB (pc := 43) 60 dX7_shipHas_43 (by decide) (fun c_43 => ?_) (fun c_43 => ?_)
        · refine s_bipush (pc := 60) (k_bm9) dX7_shipHas_60 ?_
          refine s_goto (pc := 62) 72 dX7_shipHas_62 (by decide) ?_
          refine s_iret (pc := 72) dX7_shipHas_72 (PostE.of hp ?_ ?_)
          · simp only [hasN]; (repeat' split) <;> first | rfl | omega | (exfalso; simp_all; done)
          · rfl
        · refine s_aload_n (pc := 46) 0 rfl rfl dX7_shipHas_46 ?_
          refine s_iload_n (pc := 47) 1 rfl rfl dX7_shipHas_47 ?_
          refine s_aload_n (pc := 48) 0 rfl rfl dX7_shipHas_48 ?_
          refine s_getr (pc := 49) (b := 56) fl_X7_25 rfl rfl rfl dX7_shipHas_49 ?_
          refine s_iconst (pc := 52) (k_i5N) dX7_shipHas_52 ?_
          refine s_ialdN (pc := 53) (_) rfl rfl (by omega) (hA _ (by omega)) dX7_shipHas_53 ?_
          refine s_cvi2 (pc := 54) (c_X7_berthIn hA hO hi (by omega)) ml_X7_156 mw_X7_berthIn rfl (by decide) (Nat.le_of_ble_eq_true rfl) dX7_shipHas_54 ?_
          refine s_goto (pc := 57) 72 dX7_shipHas_57 (by decide) ?_
          refine s_iret (pc := 72) dX7_shipHas_72 (PostE.of hp ?_ ?_)
          · simp only [hasN]; (repeat' split) <;> first | rfl | omega | (exfalso; simp_all; done)
          · rfl
    · refine s_aload_n (pc := 19) 0 rfl rfl dX7_shipHas_19 ?_
      refine s_iload_n (pc := 20) 1 rfl rfl dX7_shipHas_20 ?_
      refine s_cvi1 (pc := 21) (c_X7_ageNow hA hO hi) ml_X7_139 mw_X7_ageNow rfl (by decide) (Nat.le_of_ble_eq_true rfl) dX7_shipHas_21 ?_
      refine s_goto (pc := 24) 72 dX7_shipHas_24 (by decide) ?_
      refine s_iret (pc := 72) dX7_shipHas_72 (PostE.of hp ?_ ?_)
      · simp only [hasN]; (repeat' split) <;> first | rfl | omega | (exfalso; simp_all; done)
      · rfl
  · refine s_aload_n (pc := 6) 0 rfl rfl dX7_shipHas_6 ?_
    refine s_iload_n (pc := 7) 1 rfl rfl dX7_shipHas_7 ?_
    refine s_iload_n (pc := 8) 2 rfl rfl dX7_shipHas_8 ?_
    refine s_cvi2 (pc := 9) (c_X7_of hA (by omega) (by omega)) ml_X7_126 mw_X7_of rfl (by decide) (Nat.le_of_ble_eq_true rfl) dX7_shipHas_9 ?_
    refine s_iret (pc := 12) dX7_shipHas_12 (PostE.of hp ?_ ?_)
    · simp only [hasN]; (repeat' split) <;> first | rfl | omega | (exfalso; simp_all; done)
    · rfl

set_option maxRecDepth 20000 in
theorem c_X7_isOf {k m : Nat} {h : Hp} (hk : k < 6) (hm : m < 6) : CT 1 yX7_isOf cX7_isOf 2 (some .boolean) [.int (nI k), .int (nI m)] h (some (.int (bi (k = m ∨ (k = 4 ∧ m = 1) ∨ (k = 5 ∧ m = 3))))) (h) := by
  refine CT.of (own := RX7) rfl (by decide) (ro_z _) [.int (nI k), .int (nI m)] rfl (Nat.le_of_ble_eq_true rfl) (fun E hp => ?_)
  refine s_iload_n (pc := 0) 0 rfl rfl dX7_isOf_0 ?_
  refine s_iload_n (pc := 1) 1 rfl rfl dX7_isOf_1 ?_
  refine s_icmp_eqN (pc := 2) (by omega) (by omega) 25 dX7_isOf_2 (by decide) (fun c_2 => ?_) (fun c_2 => ?_)
  · refine s_iconst (pc := 25) (k_i1N) dX7_isOf_25 ?_
    refine s_goto (pc := 26) 30 dX7_isOf_26 (by decide) ?_
    refine s_iret (pc := 30) dX7_isOf_30 (PostE.of hp ?_ ?_)
    · first | exact ret_t rfl (by omega) | exact ret_f rfl (by omega)
    · rfl
  · refine s_iload_n (pc := 5) 0 rfl rfl dX7_isOf_5 ?_
    refine s_iconst (pc := 6) (k_i4N) dX7_isOf_6 ?_
    refine s_icmp_neN (pc := 7) (by omega) (by omega) 15 dX7_isOf_7 (by decide) (fun c_7 => ?_) (fun c_7 => ?_)
    · refine s_iload_n (pc := 15) 0 rfl rfl dX7_isOf_15 ?_
      refine s_iconst (pc := 16) (k_i5N) dX7_isOf_16 ?_
      refine s_icmp_neN (pc := 17) (by omega) (by omega) 29 dX7_isOf_17 (by decide) (fun c_17 => ?_) (fun c_17 => ?_)
      · refine s_iconst (pc := 29) (k_i0N) dX7_isOf_29 ?_
        refine s_iret (pc := 30) dX7_isOf_30 (PostE.of hp ?_ ?_)
        · first | exact ret_t rfl (by omega) | exact ret_f rfl (by omega)
        · rfl
      · refine s_iload_n (pc := 20) 1 rfl rfl dX7_isOf_20 ?_
        refine s_iconst (pc := 21) (k_i3N) dX7_isOf_21 ?_
        refine s_icmp_neN (pc := 22) (by omega) (by omega) 29 dX7_isOf_22 (by decide) (fun c_22 => ?_) (fun c_22 => ?_)
        · refine s_iconst (pc := 29) (k_i0N) dX7_isOf_29 ?_
          refine s_iret (pc := 30) dX7_isOf_30 (PostE.of hp ?_ ?_)
          · first | exact ret_t rfl (by omega) | exact ret_f rfl (by omega)
          · rfl
        · refine s_iconst (pc := 25) (k_i1N) dX7_isOf_25 ?_
          refine s_goto (pc := 26) 30 dX7_isOf_26 (by decide) ?_
          refine s_iret (pc := 30) dX7_isOf_30 (PostE.of hp ?_ ?_)
          · first | exact ret_t rfl (by omega) | exact ret_f rfl (by omega)
          · rfl
    · refine s_iload_n (pc := 10) 1 rfl rfl dX7_isOf_10 ?_
      refine s_iconst (pc := 11) (k_i1N) dX7_isOf_11 ?_
      refine s_icmp_eqN (pc := 12) (by omega) (by omega) 25 dX7_isOf_12 (by decide) (fun c_12 => ?_) (fun c_12 => ?_)
      · refine s_iconst (pc := 25) (k_i1N) dX7_isOf_25 ?_
        refine s_goto (pc := 26) 30 dX7_isOf_26 (by decide) ?_
        refine s_iret (pc := 30) dX7_isOf_30 (PostE.of hp ?_ ?_)
        · first | exact ret_t rfl (by omega) | exact ret_f rfl (by omega)
        · rfl
      · refine s_iload_n (pc := 15) 0 rfl rfl dX7_isOf_15 ?_
        refine s_iconst (pc := 16) (k_i5N) dX7_isOf_16 ?_
        refine s_icmp_neN (pc := 17) (by omega) (by omega) 29 dX7_isOf_17 (by decide) (fun c_17 => ?_) (fun c_17 => ?_)
        · refine s_iconst (pc := 29) (k_i0N) dX7_isOf_29 ?_
          refine s_iret (pc := 30) dX7_isOf_30 (PostE.of hp ?_ ?_)
          · first | exact ret_t rfl (by omega) | exact ret_f rfl (by omega)
          · rfl
        · refine s_iload_n (pc := 20) 1 rfl rfl dX7_isOf_20 ?_
          refine s_iconst (pc := 21) (k_i3N) dX7_isOf_21 ?_
          refine s_icmp_neN (pc := 22) (by omega) (by omega) 29 dX7_isOf_22 (by decide) (fun c_22 => ?_) (fun c_22 => ?_)
          · refine s_iconst (pc := 29) (k_i0N) dX7_isOf_29 ?_
            refine s_iret (pc := 30) dX7_isOf_30 (PostE.of hp ?_ ?_)
            · first | exact ret_t rfl (by omega) | exact ret_f rfl (by omega)
            · rfl
          · refine s_iconst (pc := 25) (k_i1N) dX7_isOf_25 ?_
            refine s_goto (pc := 26) 30 dX7_isOf_26 (by decide) ?_
            refine s_iret (pc := 30) dX7_isOf_30 (PostE.of hp ?_ ?_)
            · first | exact ret_t rfl (by omega) | exact ret_f rfl (by omega)
            · rfl

set_option maxRecDepth 20000 in
theorem c_X7_notes {dd x y z : Nat} {a : Nat → Nat} {h : Hp} (h3 : a 3 < 40) : CT 1 yX7_notes cX7_notes 6 none [.ref 50, .int (nI dd), .int (nI x), .int (nI y), .int (nI z)] (wN h a) (none) (wN h (noteN a dd x y z)) := by
  refine CT.of (own := RX7) rfl (by decide) ro_v [.ref 50, .int (nI dd), .int (nI x), .int (nI y), .int (nI z), .null] rfl (Nat.le_of_ble_eq_true rfl) (fun E hp => ?_)
  refine s_bipush (pc := 0) (k_b55N) dX7_notes_0 ?_
  refine s_iconst (pc := 2) (k_i4N) dX7_notes_2 ?_
  refine s_aload_n (pc := 3) 0 rfl rfl dX7_notes_3 ?_
  refine s_getr (pc := 4) (b := 56) fl_X7_25 rfl rfl rfl dX7_notes_4 ?_
  refine s_iconst (pc := 7) (k_i3N) dX7_notes_7 ?_
  refine s_ialdN (pc := 8) (_) rfl rfl (by omega) (RMw _ _ _ (by omega)) dX7_notes_8 ?_
  refine s_imulN (pc := 9) dX7_notes_9 ?_
  refine s_iaddN (pc := 10) dX7_notes_10 ?_
  refine s_istore (pc := 11) (by decide) rfl dX7_notes_11 ?_
  refine s_aload_n (pc := 13) 0 rfl rfl dX7_notes_13 ?_
  refine s_getr (pc := 14) (b := 56) fl_X7_25 rfl rfl rfl dX7_notes_14 ?_
  refine s_iload (pc := 17) rfl dX7_notes_17 ?_
  refine s_iload_n (pc := 19) 1 rfl rfl dX7_notes_19 ?_
  refine s_iast (pc := 20) (_) rfl rfl (by omega) dX7_notes_20 ?_
  rw [wN_ui (by omega)]
  refine s_aload_n (pc := 21) 0 rfl rfl dX7_notes_21 ?_
  refine s_getr (pc := 22) (b := 56) fl_X7_25 rfl rfl rfl dX7_notes_22 ?_
  refine s_iload (pc := 25) rfl dX7_notes_25 ?_
  refine s_iconst (pc := 27) (k_i1N) dX7_notes_27 ?_
  refine s_iaddN (pc := 28) dX7_notes_28 ?_
  refine s_iload_n (pc := 29) 2 rfl rfl dX7_notes_29 ?_
  refine s_iast (pc := 30) (_) rfl rfl (by omega) dX7_notes_30 ?_
  rw [wN_ui (by omega)]
  refine s_aload_n (pc := 31) 0 rfl rfl dX7_notes_31 ?_
  refine s_getr (pc := 32) (b := 56) fl_X7_25 rfl rfl rfl dX7_notes_32 ?_
  refine s_iload (pc := 35) rfl dX7_notes_35 ?_
  refine s_iconst (pc := 37) (k_i2N) dX7_notes_37 ?_
  refine s_iaddN (pc := 38) dX7_notes_38 ?_
  refine s_iload_n (pc := 39) 3 rfl rfl dX7_notes_39 ?_
  refine s_iast (pc := 40) (_) rfl rfl (by omega) dX7_notes_40 ?_
  rw [wN_ui (by omega)]
  refine s_aload_n (pc := 41) 0 rfl rfl dX7_notes_41 ?_
  refine s_getr (pc := 42) (b := 56) fl_X7_25 rfl rfl rfl dX7_notes_42 ?_
  refine s_iload (pc := 45) rfl dX7_notes_45 ?_
  refine s_iconst (pc := 47) (k_i3N) dX7_notes_47 ?_
  refine s_iaddN (pc := 48) dX7_notes_48 ?_
  refine s_iload (pc := 49) rfl dX7_notes_49 ?_
  refine s_iast (pc := 51) (_) rfl rfl (by omega) dX7_notes_51 ?_
  rw [wN_ui (by omega)]
  refine s_aload_n (pc := 52) 0 rfl rfl dX7_notes_52 ?_
  refine s_getr (pc := 53) (b := 56) fl_X7_25 rfl rfl rfl dX7_notes_53 ?_
  refine s_iconst (pc := 56) (k_i3N) dX7_notes_56 ?_
  refine s_dup2 (pc := 57) rfl rfl dX7_notes_57 ?_
  refine s_ialdN (pc := 58) (v := a 3) (_) rfl rfl (by omega) (by rw [RMw _ _ _ (by omega)]; congr 1; simp only [noteN, au]; repeat rw [if_neg (by omega)]) dX7_notes_58 ?_
  refine s_iconst (pc := 59) (k_i1N) dX7_notes_59 ?_
  refine s_iaddN (pc := 60) dX7_notes_60 ?_
  refine s_iast (pc := 61) (_) rfl rfl (by omega) dX7_notes_61 ?_
  rw [wN_ui (by omega)]
  refine s_vret (pc := 62) dX7_notes_62 (PostE.of hp ?_ ?_)
  · rfl
  · rfl

set_option maxRecDepth 20000 in
theorem c_X7_goes {i : Nat} {a : Nat → Nat} {h : Hp} (hO : OkA a) (hi : i < a 0) (h3 : a 3 < 40) (h4 : shiftN a i (a 5) + 1 ≤ a 4) : CT 6 yX7_goes cX7_goes 3 (some .int) [.ref 50, .int (nI i)] (wN h a) (some (.int (nI (shiftN a i (a 5))))) (wN h (goesN a i)) := by
  obtain ⟨⟨o0, o1, o2, o3, o4, o5, o6⟩, os⟩ := id hO
  have o64 := hO.in64
  have hp2 : 2 ^ i ≤ 2 ^ 5 := Nat.pow_le_pow_right (by decide) (by omega)
  refine CT.of (own := RX7) rfl (by decide) (ro_i _) [.ref 50, .int (nI i), .null] rfl (Nat.le_of_ble_eq_true rfl) (fun E hp => ?_)
  refine s_aload_n (pc := 0) 0 rfl rfl dX7_goes_0 ?_
  refine s_iload_n (pc := 1) 1 rfl rfl dX7_goes_1 ?_
  refine s_aload_n (pc := 2) 0 rfl rfl dX7_goes_2 ?_
  refine s_getr (pc := 3) (b := 56) fl_X7_25 rfl rfl rfl dX7_goes_3 ?_
  refine s_iconst (pc := 6) (k_i5N) dX7_goes_6 ?_
  refine s_ialdN (pc := 7) (_) rfl rfl (by omega) (RMw _ _ _ (by omega)) dX7_goes_7 ?_
  refine s_cvi2 (pc := 8) (c_X7_shiftedBy (RMw h a) hO hi o5 o64) ml_X7_174 mw_X7_shiftedBy rfl (by decide) (Nat.le_of_ble_eq_true rfl) dX7_goes_8 ?_
  refine s_istore_n (pc := 11) 2 rfl (by decide) rfl dX7_goes_11 ?_
  refine s_aload_n (pc := 12) 0 rfl rfl dX7_goes_12 ?_
  refine s_iconst (pc := 13) (k_i0N) dX7_goes_13 ?_
  refine s_iload_n (pc := 14) 1 rfl rfl dX7_goes_14 ?_
  refine s_iload_n (pc := 15) 2 rfl rfl dX7_goes_15 ?_
  refine s_iconst (pc := 16) (k_i0N) dX7_goes_16 ?_
  refine s_cvn4 (pc := 17) (c_X7_notes h3) ml_X7_177 mw_X7_notes rfl (by decide) (Nat.le_of_ble_eq_true rfl) dX7_goes_17 ?_
  refine s_aload_n (pc := 20) 0 rfl rfl dX7_goes_20 ?_
  refine s_getr (pc := 21) (b := 56) fl_X7_25 rfl rfl rfl dX7_goes_21 ?_
  refine s_iconst (pc := 24) (k_i5N) dX7_goes_24 ?_
  refine s_dup2 (pc := 25) rfl rfl dX7_goes_25 ?_
  refine s_ialdN (pc := 26) (v := a 5) (_) rfl rfl (by omega) (by rw [RMw _ _ _ (by omega)]; congr 1; (try simp only [au]); (repeat rw [if_neg (by omega)]); exact noteN_lo (by omega) (by omega)) dX7_goes_26 ?_
  refine s_iconst (pc := 27) (k_i1N) dX7_goes_27 ?_
  refine s_iload_n (pc := 28) 1 rfl rfl dX7_goes_28 ?_
  refine s_ishl1N (pc := 29) (by omega) dX7_goes_29 ?_
  refine s_ixorN (pc := 30) (by omega) (by omega) dX7_goes_30 ?_
  refine s_iast (pc := 31) (_) rfl rfl (by omega) dX7_goes_31 ?_
  rw [wN_ui (by omega)]
  refine s_aload_n (pc := 32) 0 rfl rfl dX7_goes_32 ?_
  refine s_getr (pc := 33) (b := 56) fl_X7_25 rfl rfl rfl dX7_goes_33 ?_
  refine s_bipush (pc := 36) (k_b6N) dX7_goes_36 ?_
  refine s_dup2 (pc := 38) rfl rfl dX7_goes_38 ?_
  refine s_ialdN (pc := 39) (v := a 6) (_) rfl rfl (by omega) (by rw [RMw _ _ _ (by omega)]; congr 1; (try simp only [au]); (repeat rw [if_neg (by omega)]); exact noteN_lo (by omega) (by omega)) dX7_goes_39 ?_
  refine s_iload_n (pc := 40) 2 rfl rfl dX7_goes_40 ?_
  refine s_iaddN (pc := 41) dX7_goes_41 ?_
  refine s_iast (pc := 42) (_) rfl rfl (by omega) dX7_goes_42 ?_
  rw [wN_ui (by omega)]
  refine s_aload_n (pc := 43) 0 rfl rfl dX7_goes_43 ?_
  refine s_getr (pc := 44) (b := 56) fl_X7_25 rfl rfl rfl dX7_goes_44 ?_
  refine s_iconst (pc := 47) (k_i4N) dX7_goes_47 ?_
  refine s_dup2 (pc := 48) rfl rfl dX7_goes_48 ?_
  refine s_ialdN (pc := 49) (v := a 4) (_) rfl rfl (by omega) (by rw [RMw _ _ _ (by omega)]; congr 1; (try simp only [au]); (repeat rw [if_neg (by omega)]); exact noteN_lo (by omega) (by omega)) dX7_goes_49 ?_
  refine s_iconst (pc := 50) (k_i1N) dX7_goes_50 ?_
  refine s_iload_n (pc := 51) 2 rfl rfl dX7_goes_51 ?_
  refine s_iaddN (pc := 52) dX7_goes_52 ?_
  refine s_isubN (pc := 53) (by omega) dX7_goes_53 ?_
  refine s_iast (pc := 54) (_) rfl rfl (by omega) dX7_goes_54 ?_
  rw [wN_ui (by omega)]
  refine s_iload_n (pc := 55) 2 rfl rfl dX7_goes_55 ?_
  refine s_iret (pc := 56) dX7_goes_56 (PostE.of hp ?_ ?_)
  · rfl
  · rfl
