theorem shA_0 (f : Nat → Int32) (a : Nat → Nat) (q : Nat) : shA f a q 0 = a 0 + 1 := by simp only [shA, au]; rw [if_pos trivial]
theorem shA_lo {f : Nat → Int32} {a : Nat → Nat} {q j : Nat} (h1 : j ≠ 0) (h2 : j < 7 + 8 * a 0 ∨ 7 + 8 * a 0 + 4 < j) : shA f a q j = a j := by
  simp only [shA, au]
  repeat rw [if_neg (by omega)]
theorem shA_n (f : Nat → Int32) (a : Nat → Nat) (q : Nat) : sh (shA f a q) (a 0) 0 = kdN (f q) ∧ sh (shA f a q) (a 0) 1 = 10 * dvN f (q + 1) + dvN f (q + 2) ∧ sh (shA f a q) (a 0) 2 = dvN f (q + 3) ∧ sh (shA f a q) (a 0) 3 = dvN f (q + 4) ∧ sh (shA f a q) (a 0) 4 = dvN f (q + 5) := by
  refine ⟨?_, ?_, ?_, ?_, ?_⟩
  · show shA f a q (7 + 8 * a 0 + 0) = _
    simp only [shA, au]
    repeat rw [if_neg (by omega)]
    rw [if_pos (by omega)]
  · show shA f a q (7 + 8 * a 0 + 1) = _
    simp only [shA, au]
    rw [if_neg (by omega), if_neg (by omega), if_neg (by omega), if_neg (by omega), if_pos trivial]
  · show shA f a q (7 + 8 * a 0 + 2) = _
    simp only [shA, au]
    rw [if_neg (by omega), if_neg (by omega), if_neg (by omega), if_pos trivial]
  · show shA f a q (7 + 8 * a 0 + 3) = _
    simp only [shA, au]
    rw [if_neg (by omega), if_neg (by omega), if_pos trivial]
  · show shA f a q (7 + 8 * a 0 + 4) = _
    simp only [shA, au]
    rw [if_neg (by omega), if_pos trivial]
theorem ans_t {q : Nat} {a : Nat → Nat} : ansN ((q, true), a) = if 0 < a 0 then -9 else nI q := by
  unfold ansN
  by_cases h : 0 < a 0
  · rw [if_pos h, if_pos ⟨rfl, h⟩]
  · rw [if_neg h, if_neg (fun z => h z.2)]
theorem ans_f {q : Nat} {a : Nat → Nat} : ansN ((q, false), a) = nI q := if_neg (fun z => absurd z.1 (by simp))

set_option maxRecDepth 20000 in
theorem rd_st_35 {E : Cx} {t m n q : Nat} {h h1 h2 : Hp} (hm : m ≤ 60) (hq : h.1 35 8 = nI q) (hn6 : n ≤ 6) (hqm : q < m) (crs : CT 4 yX1_readShip cX1_readShip 4 (some .boolean) [.ref 35, .ref (12 + 1 + t), .int (nI m)] h (some (.int (bi True))) h1) (csk : CT 2 yX1_skipBlanks cX1_skipBlanks 4 none [.ref 35, .ref (12 + 1 + t), .int (nI m)] h1 none h2) (k : WW E cX1_read RX1 4 5 38 [.ref 35, .ref (12 + 1 + t), .int (nI m), .int (nI (n + 1))] (h2) []) : WW E cX1_read RX1 4 5 38 [.ref 35, .ref (12 + 1 + t), .int (nI m), .int (nI n)] (h) [] := by
  refine s_iload_n (pc := 38) 3 rfl rfl dX1_read_38 ?_
  refine s_bipush (pc := 39) (k_b6N) dX1_read_39 ?_
  refine s_icmp_gtN (pc := 41) (by omega) (by omega) 78 dX1_read_41 (by decide) (fun c_41 => ?_) (fun c_41 => ?_)
  · exfalso; omega
  · refine s_aload_n (pc := 44) 0 rfl rfl dX1_read_44 ?_
    refine s_getiE (pc := 45) fl_X1_37 rfl rfl hq dX1_read_45 ?_
    refine s_iload_n (pc := 48) 2 rfl rfl dX1_read_48 ?_
    refine s_icmp_geN (pc := 49) (by omega) (by omega) 78 dX1_read_49 (by decide) (fun c_49 => ?_) (fun c_49 => ?_)
    · exfalso; omega
    · refine s_aload_n (pc := 52) 0 rfl rfl dX1_read_52 ?_
      refine s_aload_n (pc := 53) 1 rfl rfl dX1_read_53 ?_
      refine s_iload_n (pc := 54) 2 rfl rfl dX1_read_54 ?_
      refine s_cvi2 (pc := 55) (crs) ml_X1_48 mw_X1_readShip rfl (by decide) (Nat.le_of_ble_eq_true rfl) dX1_read_55 ?_
      refine s_if_neT (pc := 58) 66 dX1_read_58 (by decide) ?_
      refine s_aload_n (pc := 66) 0 rfl rfl dX1_read_66 ?_
      refine s_aload_n (pc := 67) 1 rfl rfl dX1_read_67 ?_
      refine s_iload_n (pc := 68) 2 rfl rfl dX1_read_68 ?_
      refine s_cvn2 (pc := 69) (csk) ml_X1_40 mw_X1_skipBlanks rfl (by decide) (Nat.le_of_ble_eq_true rfl) dX1_read_69 ?_
      refine s_iincN (pc := 72) rfl (by decide) rfl dX1_read_72 ?_
      refine s_goto (pc := 75) 38 dX1_read_75 (by decide) ?_
      exact k

set_option maxRecDepth 20000 in
theorem rd_bad_35 {E : Cx} {t m n q : Nat} {h h1 : Hp} {q1 : Nat} (hm : m ≤ 60) (hq : h.1 35 8 = nI q) (hn6 : n ≤ 6) (hqm : q < m) (crs : CT 4 yX1_readShip cX1_readShip 4 (some .boolean) [.ref 35, .ref (12 + 1 + t), .int (nI m)] h (some (.int (bi False))) h1) (h18 : h1.1 35 8 = nI q1) (hp : PostE E (some (.int (nI q1))) h1) : WW E cX1_read RX1 4 5 38 [.ref 35, .ref (12 + 1 + t), .int (nI m), .int (nI n)] (h) [] := by
  refine s_iload_n (pc := 38) 3 rfl rfl dX1_read_38 ?_
  refine s_bipush (pc := 39) (k_b6N) dX1_read_39 ?_
  refine s_icmp_gtN (pc := 41) (by omega) (by omega) 78 dX1_read_41 (by decide) (fun c_41 => ?_) (fun c_41 => ?_)
  · exfalso; omega
  · refine s_aload_n (pc := 44) 0 rfl rfl dX1_read_44 ?_
    refine s_getiE (pc := 45) fl_X1_37 rfl rfl hq dX1_read_45 ?_
    refine s_iload_n (pc := 48) 2 rfl rfl dX1_read_48 ?_
    refine s_icmp_geN (pc := 49) (by omega) (by omega) 78 dX1_read_49 (by decide) (fun c_49 => ?_) (fun c_49 => ?_)
    · exfalso; omega
    · refine s_aload_n (pc := 52) 0 rfl rfl dX1_read_52 ?_
      refine s_aload_n (pc := 53) 1 rfl rfl dX1_read_53 ?_
      refine s_iload_n (pc := 54) 2 rfl rfl dX1_read_54 ?_
      refine s_cvi2 (pc := 55) (crs) ml_X1_48 mw_X1_readShip rfl (by decide) (Nat.le_of_ble_eq_true rfl) dX1_read_55 ?_
      refine s_if_neF (pc := 58) 66 dX1_read_58 (by decide) ?_
      refine s_aload_n (pc := 61) 0 rfl rfl dX1_read_61 ?_
      refine s_getiE (pc := 62) fl_X1_37 rfl rfl h18 dX1_read_62 ?_
      refine s_iret (pc := 65) dX1_read_65 (PostE.of hp ?_ ?_)
      · rfl
      · rfl

set_option maxRecDepth 20000 in
theorem rd_end_35 {E : Cx} {t m n q : Nat} {h : Hp} (hm : m ≤ 60) (hq : h.1 35 8 = nI q) (hn : h.1 35 5 = nI n) (hn7 : n ≤ 7) (hx : 6 < n ∨ m ≤ q) (hqm : q ≤ m) (hp : PostE E (some (.int (if 0 < n then -9 else nI q))) h) : WW E cX1_read RX1 4 5 38 [.ref 35, .ref (12 + 1 + t), .int (nI m), .int (nI n)] (h) [] := by
  refine s_iload_n (pc := 38) 3 rfl rfl dX1_read_38 ?_
  refine s_bipush (pc := 39) (k_b6N) dX1_read_39 ?_
  refine s_icmp_gtN (pc := 41) (by omega) (by omega) 78 dX1_read_41 (by decide) (fun c_41 => ?_) (fun c_41 => ?_)
  · refine s_aload_n (pc := 78) 0 rfl rfl dX1_read_78 ?_
    refine s_getiE (pc := 79) fl_X1_27 rfl rfl hn dX1_read_79 ?_
    refine s_if_neN (pc := 82) (by omega) 92 dX1_read_82 (by decide) (fun c_82 => ?_) (fun c_82 => ?_)
    · refine s_bipush (pc := 92) (k_bm9) dX1_read_92 ?_
      refine s_iret (pc := 94) dX1_read_94 (PostE.of hp ?_ ?_)
      · rw [if_pos (by omega)]
      · rfl
    · refine s_aload_n (pc := 85) 0 rfl rfl dX1_read_85 ?_
      refine s_getiE (pc := 86) fl_X1_37 rfl rfl hq dX1_read_86 ?_
      refine s_goto (pc := 89) 94 dX1_read_89 (by decide) ?_
      refine s_iret (pc := 94) dX1_read_94 (PostE.of hp ?_ ?_)
      · rw [if_neg (by omega)]
      · rfl
  · refine s_aload_n (pc := 44) 0 rfl rfl dX1_read_44 ?_
    refine s_getiE (pc := 45) fl_X1_37 rfl rfl hq dX1_read_45 ?_
    refine s_iload_n (pc := 48) 2 rfl rfl dX1_read_48 ?_
    refine s_icmp_geN (pc := 49) (by omega) (by omega) 78 dX1_read_49 (by decide) (fun c_49 => ?_) (fun c_49 => ?_)
    · refine s_aload_n (pc := 78) 0 rfl rfl dX1_read_78 ?_
      refine s_getiE (pc := 79) fl_X1_27 rfl rfl hn dX1_read_79 ?_
      refine s_if_neN (pc := 82) (by omega) 92 dX1_read_82 (by decide) (fun c_82 => ?_) (fun c_82 => ?_)
      · refine s_bipush (pc := 92) (k_bm9) dX1_read_92 ?_
        refine s_iret (pc := 94) dX1_read_94 (PostE.of hp ?_ ?_)
        · rw [if_pos (by omega)]
        · rfl
      · refine s_aload_n (pc := 85) 0 rfl rfl dX1_read_85 ?_
        refine s_getiE (pc := 86) fl_X1_37 rfl rfl hq dX1_read_86 ?_
        refine s_goto (pc := 89) 94 dX1_read_89 (by decide) ?_
        refine s_iret (pc := 94) dX1_read_94 (PostE.of hp ?_ ?_)
        · rw [if_neg (by omega)]
        · rfl
    · exfalso; omega

theorem rd_lp_35 {t m : Nat} {f : Nat → Int32} (ht : t < 4) (hm : m ≤ 60) : ∀ k q (a : Nat → Nat) (h : Hp), a 0 + k = 7 → q ≤ m → (∀ j, j < 60 → h.1 (12 + 1 + t) j = f j) → h.1 35 8 = nI q → h.1 35 5 = nI (a 0) → 
    ∃ h', FF 35 h h' ∧ ∀ E : Cx, PostE E (some (.int (ansN (rdS f m k q a)))) h' → WW E cX1_read RX1 4 5 38 [.ref 35, .ref (12 + 1 + t), .int (nI m), .int (nI (a 0))] (h) [] := by
  intro k
  induction k with
  | zero =>
    intro q a h hk hqm hf hq hn
    refine ⟨h, FF.rf _ _, fun E hp => rd_end_35 hm hq hn (by omega) (Or.inl (by omega)) hqm ?_⟩
    rw [show rdS f m 0 q a = ((q, true), a) from rfl, ans_t] at hp
    exact hp
  | succ k ih =>
    intro q a h hk hqm hf hq hn
    by_cases h1 : q < m
    · by_cases h2 : (shS f m (a 0) q).2 = true
      · have e : rdS f m (k + 1) q a = rdS f m k (sk f m (q + 6)) (shA f a q) := by simp only [rdS]; rw [if_pos h1, if_pos h2]
        rw [e]
        obtain ⟨crs, q6, n6⟩ := rsT_35 ht hf hm hq hqm hn (by omega) h2
        have f1 : FF 35 h (hsC_35 f (a 0) q h) := by unfold hsC_35; repeat (first | exact FF.rf _ _ | refine FF.ui ?_ ⟨by decide, by decide⟩)
        have hf1 : ∀ j, j < 60 → (hsC_35 f (a 0) q h).1 (12 + 1 + t) j = f j := fun j hj => (f1.2 _ _ (by omega)).trans (hf j hj)
        have hq1 : (hsC_35 f (a 0) q h).1 35 8 = nI (q + 6) := by simp [hsC_35, ui]
        have hn1 : (hsC_35 f (a 0) q h).1 35 5 = nI (a 0 + 1) := by simp [hsC_35, ui]
        have csk := c_X1_skipBlanks_35 ht hf1 hm hq1 q6
        have sl := sk_le (f := f) q6
        obtain ⟨h', g1, g2⟩ := ih (sk f m (q + 6)) (shA f a q) (ui (hsC_35 f (a 0) q h) 35 8 (nI (sk f m (q + 6)))) (by rw [shA_0]; omega) sl.2 (fun j hj => (ui_ne (by omega)).trans (hf1 j hj)) ui_eq (by rw [shA_0]; simpa [ui] using hn1)
        refine ⟨h', (f1.ui ⟨by decide, by decide⟩).tr g1, fun E hp => rd_st_35 hm hq (by omega) h1 crs csk ?_⟩
        have g3 := g2 E hp
        rw [shA_0] at g3
        exact g3
      · have e : rdS f m (k + 1) q a = (((shS f m (a 0) q).1, false), a) := by simp only [rdS]; rw [if_pos h1, if_neg h2]
        rw [e, ans_f]
        obtain ⟨h1', crs, f1, hq1⟩ := rsF_35 ht hf hm hq hqm hn (by omega) h2
        exact ⟨h1', f1, fun E hp => rd_bad_35 hm hq (by omega) h1 crs hq1 hp⟩
    · have e : rdS f m (k + 1) q a = ((q, true), a) := by simp only [rdS]; rw [if_neg h1]
      rw [e, ans_t]
      exact ⟨h, FF.rf _ _, fun E hp => rd_end_35 hm hq hn (by omega) (Or.inr (by omega)) hqm hp⟩

set_option maxRecDepth 20000 in
theorem read_35 {t m : Nat} {f : Nat → Int32} {h : Hp} (ht : t < 4) (hf : ∀ j, j < 60 → h.1 (12 + 1 + t) j = f j) (hm : m ≤ 60) : ∃ h', CT 5 yX1_read cX1_read 4 (some .int) [.ref 35, .ref (12 + 1 + t), .int (nI m)] h (some (.int (ansN (prs f m)))) h' ∧ FF 35 h h' := by
  have hf1 : ∀ j, j < 60 → (ui (ui h 35 8 (nI 0)) 35 5 (nI 0)).1 (12 + 1 + t) j = f j := fun j hj => by (repeat rw [ui_ne (by omega)]); exact hf j hj
  have csk := c_X1_skipBlanks_35 (f := f) (h := ui (ui h 35 8 (nI 0)) 35 5 (nI 0)) (q := 0) ht hf1 hm (by simp [ui]) (Nat.zero_le _)
  have sl0 := sk_le (f := f) (Nat.zero_le m)
  have hf2 : ∀ j, j < 60 → (ui (ui (ui h 35 8 (nI 0)) 35 5 (nI 0)) 35 8 (nI (sk f m 0))).1 (12 + 1 + t) j = f j := fun j hj => (ui_ne (by omega)).trans (hf1 j hj)
  have hq2 : (ui (ui (ui h 35 8 (nI 0)) 35 5 (nI 0)) 35 8 (nI (sk f m 0))).1 35 8 = nI (sk f m 0) := ui_eq
  have f0 : FF 35 h (ui (ui (ui h 35 8 (nI 0)) 35 5 (nI 0)) 35 8 (nI (sk f m 0))) := (((FF.rf 35 h).ui ⟨by decide, by decide⟩).ui ⟨by decide, by decide⟩).ui ⟨by decide, by decide⟩
  by_cases hh : (hdS f m).2 = true
  · obtain ⟨crh, l4⟩ := rhT_35 ht hf2 hm hq2 sl0.2 hh
    have f1 : FF 35 h (hhC_35 f (sk f m 0) (ui (ui (ui h 35 8 (nI 0)) 35 5 (nI 0)) 35 8 (nI (sk f m 0)))) := by unfold hhC_35; repeat (first | exact f0 | refine FF.ui ?_ ⟨by decide, by decide⟩)
    have hf3 : ∀ j, j < 60 → (hhC_35 f (sk f m 0) (ui (ui (ui h 35 8 (nI 0)) 35 5 (nI 0)) 35 8 (nI (sk f m 0)))).1 (12 + 1 + t) j = f j := fun j hj => (f1.2 _ _ (by omega)).trans (hf j hj)
    have csk2 := c_X1_skipBlanks_35 (f := f) (h := hhC_35 f (sk f m 0) (ui (ui (ui h 35 8 (nI 0)) 35 5 (nI 0)) 35 8 (nI (sk f m 0)))) (q := sk f m 0 + 4) ht hf3 hm (by simp [hhC_35, ui]) l4
    have sl4 := sk_le (f := f) l4
    have hp0 : prs f m = rdS f m 7 (sk f m (sk f m 0 + 4)) (hdA f (sk f m 0)) := if_pos hh
    obtain ⟨h', g1, g2⟩ := rd_lp_35 ht hm 7 (sk f m (sk f m 0 + 4)) (hdA f (sk f m 0)) (ui (hhC_35 f (sk f m 0) (ui (ui (ui h 35 8 (nI 0)) 35 5 (nI 0)) 35 8 (nI (sk f m 0)))) 35 8 (nI (sk f m (sk f m 0 + 4)))) rfl sl4.2 (fun j hj => (ui_ne (by omega)).trans (hf3 j hj)) ui_eq (by simp [hhC_35, ui]; rfl)
    refine ⟨h', ?_, (f1.ui ⟨by decide, by decide⟩).tr g1⟩
    rw [hp0]
    refine CT.of (own := RX1) rfl (by decide) (ro_i _) [.ref 35, .ref (12 + 1 + t), .int (nI m), .null] rfl (Nat.le_of_ble_eq_true rfl) (fun E hp => ?_)
    refine s_aload_n (pc := 0) 0 rfl rfl dX1_read_0 ?_
    refine s_iconst (pc := 1) (k_i0N) dX1_read_1 ?_
    refine s_puti (pc := 2) fl_X1_37 fw_1_8 rfl rfl dX1_read_2 ?_
    refine s_aload_n (pc := 5) 0 rfl rfl dX1_read_5 ?_
    refine s_iconst (pc := 6) (k_i0N) dX1_read_6 ?_
    refine s_puti (pc := 7) fl_X1_27 fw_1_5 rfl rfl dX1_read_7 ?_
    refine s_aload_n (pc := 10) 0 rfl rfl dX1_read_10 ?_
    refine s_aload_n (pc := 11) 1 rfl rfl dX1_read_11 ?_
    refine s_iload_n (pc := 12) 2 rfl rfl dX1_read_12 ?_
    refine s_cvn2 (pc := 13) (csk) ml_X1_40 mw_X1_skipBlanks rfl (by decide) (Nat.le_of_ble_eq_true rfl) dX1_read_13 ?_
    refine s_aload_n (pc := 16) 0 rfl rfl dX1_read_16 ?_
    refine s_aload_n (pc := 17) 1 rfl rfl dX1_read_17 ?_
    refine s_iload_n (pc := 18) 2 rfl rfl dX1_read_18 ?_
    refine s_cvi2 (pc := 19) (crh) ml_X1_44 mw_X1_readHead rfl (by decide) (Nat.le_of_ble_eq_true rfl) dX1_read_19 ?_
    refine s_if_neT (pc := 22) 30 dX1_read_22 (by decide) ?_
    refine s_aload_n (pc := 30) 0 rfl rfl dX1_read_30 ?_
    refine s_aload_n (pc := 31) 1 rfl rfl dX1_read_31 ?_
    refine s_iload_n (pc := 32) 2 rfl rfl dX1_read_32 ?_
    refine s_cvn2 (pc := 33) (csk2) ml_X1_40 mw_X1_skipBlanks rfl (by decide) (Nat.le_of_ble_eq_true rfl) dX1_read_33 ?_
    refine s_iconst (pc := 36) (k_i0N) dX1_read_36 ?_
    refine s_istore_n (pc := 37) 3 rfl (by decide) rfl dX1_read_37 ?_
    exact g2 E hp
  · have hp0 : prs f m = (((hdS f m).1, false), fun _ => 0) := if_neg hh
    obtain ⟨h1, crh, f1, hq1⟩ := rhF_35 ht hf2 hm hq2 sl0.2 hh
    refine ⟨h1, ?_, f0.tr f1⟩
    rw [hp0, ans_f]
    refine CT.of (own := RX1) rfl (by decide) (ro_i _) [.ref 35, .ref (12 + 1 + t), .int (nI m), .null] rfl (Nat.le_of_ble_eq_true rfl) (fun E hp => ?_)
    refine s_aload_n (pc := 0) 0 rfl rfl dX1_read_0 ?_
    refine s_iconst (pc := 1) (k_i0N) dX1_read_1 ?_
    refine s_puti (pc := 2) fl_X1_37 fw_1_8 rfl rfl dX1_read_2 ?_
    refine s_aload_n (pc := 5) 0 rfl rfl dX1_read_5 ?_
    refine s_iconst (pc := 6) (k_i0N) dX1_read_6 ?_
    refine s_puti (pc := 7) fl_X1_27 fw_1_5 rfl rfl dX1_read_7 ?_
    refine s_aload_n (pc := 10) 0 rfl rfl dX1_read_10 ?_
    refine s_aload_n (pc := 11) 1 rfl rfl dX1_read_11 ?_
    refine s_iload_n (pc := 12) 2 rfl rfl dX1_read_12 ?_
    refine s_cvn2 (pc := 13) (csk) ml_X1_40 mw_X1_skipBlanks rfl (by decide) (Nat.le_of_ble_eq_true rfl) dX1_read_13 ?_
    refine s_aload_n (pc := 16) 0 rfl rfl dX1_read_16 ?_
    refine s_aload_n (pc := 17) 1 rfl rfl dX1_read_17 ?_
    refine s_iload_n (pc := 18) 2 rfl rfl dX1_read_18 ?_
    refine s_cvi2 (pc := 19) (crh) ml_X1_44 mw_X1_readHead rfl (by decide) (Nat.le_of_ble_eq_true rfl) dX1_read_19 ?_
    refine s_if_neF (pc := 22) 30 dX1_read_22 (by decide) ?_
    refine s_aload_n (pc := 25) 0 rfl rfl dX1_read_25 ?_
    refine s_getiE (pc := 26) fl_X1_37 rfl rfl hq1 dX1_read_26 ?_
    refine s_iret (pc := 29) dX1_read_29 (PostE.of hp ?_ ?_)
    · rfl
    · rfl

set_option maxRecDepth 20000 in
theorem rd_st_24 {E : Cx} {t m n q : Nat} {h h1 h2 : Hp} (hm : m ≤ 60) (hq : h.1 24 8 = nI q) (hn6 : n ≤ 6) (hqm : q < m) (crs : CT 4 yX1_readShip cX1_readShip 4 (some .boolean) [.ref 24, .ref (12 + 1 + t), .int (nI m)] h (some (.int (bi True))) h1) (csk : CT 2 yX1_skipBlanks cX1_skipBlanks 4 none [.ref 24, .ref (12 + 1 + t), .int (nI m)] h1 none h2) (k : WW E cX1_read RX1 4 5 38 [.ref 24, .ref (12 + 1 + t), .int (nI m), .int (nI (n + 1))] (h2) []) : WW E cX1_read RX1 4 5 38 [.ref 24, .ref (12 + 1 + t), .int (nI m), .int (nI n)] (h) [] := by
  refine s_iload_n (pc := 38) 3 rfl rfl dX1_read_38 ?_
  refine s_bipush (pc := 39) (k_b6N) dX1_read_39 ?_
  refine s_icmp_gtN (pc := 41) (by omega) (by omega) 78 dX1_read_41 (by decide) (fun c_41 => ?_) (fun c_41 => ?_)
  · exfalso; omega
  · refine s_aload_n (pc := 44) 0 rfl rfl dX1_read_44 ?_
    refine s_getiE (pc := 45) fl_X1_37 rfl rfl hq dX1_read_45 ?_
    refine s_iload_n (pc := 48) 2 rfl rfl dX1_read_48 ?_
    refine s_icmp_geN (pc := 49) (by omega) (by omega) 78 dX1_read_49 (by decide) (fun c_49 => ?_) (fun c_49 => ?_)
    · exfalso; omega
    · refine s_aload_n (pc := 52) 0 rfl rfl dX1_read_52 ?_
      refine s_aload_n (pc := 53) 1 rfl rfl dX1_read_53 ?_
      refine s_iload_n (pc := 54) 2 rfl rfl dX1_read_54 ?_
      refine s_cvi2 (pc := 55) (crs) ml_X1_48 mw_X1_readShip rfl (by decide) (Nat.le_of_ble_eq_true rfl) dX1_read_55 ?_
      refine s_if_neT (pc := 58) 66 dX1_read_58 (by decide) ?_
      refine s_aload_n (pc := 66) 0 rfl rfl dX1_read_66 ?_
      refine s_aload_n (pc := 67) 1 rfl rfl dX1_read_67 ?_
      refine s_iload_n (pc := 68) 2 rfl rfl dX1_read_68 ?_
      refine s_cvn2 (pc := 69) (csk) ml_X1_40 mw_X1_skipBlanks rfl (by decide) (Nat.le_of_ble_eq_true rfl) dX1_read_69 ?_
      refine s_iincN (pc := 72) rfl (by decide) rfl dX1_read_72 ?_
      refine s_goto (pc := 75) 38 dX1_read_75 (by decide) ?_
      exact k

set_option maxRecDepth 20000 in
theorem rd_end_24 {E : Cx} {t m n q : Nat} {h : Hp} (hm : m ≤ 60) (hq : h.1 24 8 = nI q) (hn : h.1 24 5 = nI n) (hn7 : n ≤ 7) (hx : 6 < n ∨ m ≤ q) (hqm : q ≤ m) (hp : PostE E (some (.int (if 0 < n then -9 else nI q))) h) : WW E cX1_read RX1 4 5 38 [.ref 24, .ref (12 + 1 + t), .int (nI m), .int (nI n)] (h) [] := by
  refine s_iload_n (pc := 38) 3 rfl rfl dX1_read_38 ?_
  refine s_bipush (pc := 39) (k_b6N) dX1_read_39 ?_
  refine s_icmp_gtN (pc := 41) (by omega) (by omega) 78 dX1_read_41 (by decide) (fun c_41 => ?_) (fun c_41 => ?_)
  · refine s_aload_n (pc := 78) 0 rfl rfl dX1_read_78 ?_
    refine s_getiE (pc := 79) fl_X1_27 rfl rfl hn dX1_read_79 ?_
    refine s_if_neN (pc := 82) (by omega) 92 dX1_read_82 (by decide) (fun c_82 => ?_) (fun c_82 => ?_)
    · refine s_bipush (pc := 92) (k_bm9) dX1_read_92 ?_
      refine s_iret (pc := 94) dX1_read_94 (PostE.of hp ?_ ?_)
      · rw [if_pos (by omega)]
      · rfl
    · refine s_aload_n (pc := 85) 0 rfl rfl dX1_read_85 ?_
      refine s_getiE (pc := 86) fl_X1_37 rfl rfl hq dX1_read_86 ?_
      refine s_goto (pc := 89) 94 dX1_read_89 (by decide) ?_
      refine s_iret (pc := 94) dX1_read_94 (PostE.of hp ?_ ?_)
      · rw [if_neg (by omega)]
      · rfl
  · refine s_aload_n (pc := 44) 0 rfl rfl dX1_read_44 ?_
    refine s_getiE (pc := 45) fl_X1_37 rfl rfl hq dX1_read_45 ?_
    refine s_iload_n (pc := 48) 2 rfl rfl dX1_read_48 ?_
    refine s_icmp_geN (pc := 49) (by omega) (by omega) 78 dX1_read_49 (by decide) (fun c_49 => ?_) (fun c_49 => ?_)
    · refine s_aload_n (pc := 78) 0 rfl rfl dX1_read_78 ?_
      refine s_getiE (pc := 79) fl_X1_27 rfl rfl hn dX1_read_79 ?_
      refine s_if_neN (pc := 82) (by omega) 92 dX1_read_82 (by decide) (fun c_82 => ?_) (fun c_82 => ?_)
      · refine s_bipush (pc := 92) (k_bm9) dX1_read_92 ?_
        refine s_iret (pc := 94) dX1_read_94 (PostE.of hp ?_ ?_)
        · rw [if_pos (by omega)]
        · rfl
      · refine s_aload_n (pc := 85) 0 rfl rfl dX1_read_85 ?_
        refine s_getiE (pc := 86) fl_X1_37 rfl rfl hq dX1_read_86 ?_
        refine s_goto (pc := 89) 94 dX1_read_89 (by decide) ?_
        refine s_iret (pc := 94) dX1_read_94 (PostE.of hp ?_ ?_)
        · rw [if_neg (by omega)]
        · rfl
    · exfalso; omega

theorem RB_sh {f : Nat → Int32} {a : Nat → Nat} {q : Nat} {h : Hp} (hB : RB a h) (n6 : a 0 < 6) (v : Int32) : RB (shA f a q) (ui (hsC_24 f (a 0) q h) 24 8 v) := by
  obtain ⟨b0, b1, b2, bs⟩ := hB
  obtain ⟨n0, n1, n2, n3, n4⟩ := shA_n f a q
  refine ⟨?_, ?_, ?_, fun i hi => ?_⟩
  · rw [shA_0]; simp [hsC_24, ui]
  · rw [shA_lo (by omega) (by omega), ← b1]; simp [hsC_24, ui]
  · rw [shA_lo (by omega) (by omega), ← b2]; simp [hsC_24, ui]
  · rw [shA_0] at hi
    by_cases e : i = a 0
    · subst e
      rw [n0, n1, n2, n3, n4]
      refine ⟨?_, ?_, ?_, ?_, ?_⟩ <;> simp [hsC_24, ui]
    · obtain ⟨c0, c1, c2, c3, c4⟩ := bs i (by omega)
      have g : ∀ w, w < 8 → sh (shA f a q) i w = sh a i w := fun w hw => shA_lo (by omega) (by omega)
      rw [g 0 (by decide), g 1 (by decide), g 2 (by decide), g 3 (by decide), g 4 (by decide), ← c0, ← c1, ← c2, ← c3, ← c4]
      refine ⟨?_, ?_, ?_, ?_, ?_⟩ <;> simp [hsC_24, ui, e]
theorem rd_lp_24 {t m : Nat} {f : Nat → Int32} (ht : t < 4) (hm : m ≤ 60) : ∀ k q (a : Nat → Nat) (h : Hp), a 0 + k = 7 → q ≤ m → (∀ j, j < 60 → h.1 (12 + 1 + t) j = f j) → h.1 24 8 = nI q → RB a h → (rdS f m k q a).1.2 = true →
    ∃ h', FF 24 h h' ∧ RB (rdS f m k q a).2 h' ∧ ∀ E : Cx, PostE E (some (.int (ansN (rdS f m k q a)))) h' → WW E cX1_read RX1 4 5 38 [.ref 24, .ref (12 + 1 + t), .int (nI m), .int (nI (a 0))] (h) [] := by
  intro k
  induction k with
  | zero =>
    intro q a h hk hqm hf hq hB hw
    refine ⟨h, FF.rf _ _, hB, fun E hp => rd_end_24 hm hq hB.1 (by omega) (Or.inl (by omega)) hqm ?_⟩
    rw [show rdS f m 0 q a = ((q, true), a) from rfl, ans_t] at hp
    exact hp
  | succ k ih =>
    intro q a h hk hqm hf hq hB hw
    have hn := hB.1
    by_cases h1 : q < m
    · by_cases h2 : (shS f m (a 0) q).2 = true
      · have e : rdS f m (k + 1) q a = rdS f m k (sk f m (q + 6)) (shA f a q) := by simp only [rdS]; rw [if_pos h1, if_pos h2]
        rw [e] at hw ⊢
        obtain ⟨crs, q6, n6⟩ := rsT_24 ht hf hm hq hqm hn (by omega) h2
        have f1 : FF 24 h (hsC_24 f (a 0) q h) := by unfold hsC_24; repeat (first | exact FF.rf _ _ | refine FF.ui ?_ ⟨by decide, by decide⟩)
        have hf1 : ∀ j, j < 60 → (hsC_24 f (a 0) q h).1 (12 + 1 + t) j = f j := fun j hj => (f1.2 _ _ (by omega)).trans (hf j hj)
        have hq1 : (hsC_24 f (a 0) q h).1 24 8 = nI (q + 6) := by simp [hsC_24, ui]
        have csk := c_X1_skipBlanks_24 ht hf1 hm hq1 q6
        have sl := sk_le (f := f) q6
        obtain ⟨h', g1, g0, g2⟩ := ih (sk f m (q + 6)) (shA f a q) (ui (hsC_24 f (a 0) q h) 24 8 (nI (sk f m (q + 6)))) (by rw [shA_0]; omega) sl.2 (fun j hj => (ui_ne (by omega)).trans (hf1 j hj)) ui_eq (RB_sh hB n6 _) hw
        refine ⟨h', (f1.ui ⟨by decide, by decide⟩).tr g1, g0, fun E hp => rd_st_24 hm hq (by omega) h1 crs csk ?_⟩
        have g3 := g2 E hp
        rw [shA_0] at g3
        exact g3
      · exfalso
        have e : rdS f m (k + 1) q a = (((shS f m (a 0) q).1, false), a) := by simp only [rdS]; rw [if_pos h1, if_neg h2]
        rw [e] at hw
        exact absurd hw (by simp)
    · have e : rdS f m (k + 1) q a = ((q, true), a) := by simp only [rdS]; rw [if_neg h1]
      rw [e, ans_t]
      exact ⟨h, FF.rf _ _, hB, fun E hp => rd_end_24 hm hq hn (by omega) (Or.inr (by omega)) hqm hp⟩

set_option maxRecDepth 20000 in
theorem read_24 {t m : Nat} {f : Nat → Int32} {h : Hp} (ht : t < 4) (hf : ∀ j, j < 60 → h.1 (12 + 1 + t) j = f j) (hm : m ≤ 60) (hw : (prs f m).1.2 = true) : ∃ h', CT 5 yX1_read cX1_read 4 (some .int) [.ref 24, .ref (12 + 1 + t), .int (nI m)] h (some (.int (ansN (prs f m)))) h' ∧ FF 24 h h' ∧ RB (prs f m).2 h' := by
  have hh : (hdS f m).2 = true := by
    by_cases hh : (hdS f m).2 = true
    · exact hh
    · have e : prs f m = (((hdS f m).1, false), fun _ => 0) := if_neg hh
      rw [e] at hw; exact absurd hw (by simp)
  have hf1 : ∀ j, j < 60 → (ui (ui h 24 8 (nI 0)) 24 5 (nI 0)).1 (12 + 1 + t) j = f j := fun j hj => by (repeat rw [ui_ne (by omega)]); exact hf j hj
  have csk := c_X1_skipBlanks_24 (f := f) (h := ui (ui h 24 8 (nI 0)) 24 5 (nI 0)) (q := 0) ht hf1 hm (by simp [ui]) (Nat.zero_le _)
  have sl0 := sk_le (f := f) (Nat.zero_le m)
  have hf2 : ∀ j, j < 60 → (ui (ui (ui h 24 8 (nI 0)) 24 5 (nI 0)) 24 8 (nI (sk f m 0))).1 (12 + 1 + t) j = f j := fun j hj => (ui_ne (by omega)).trans (hf1 j hj)
  have hq2 : (ui (ui (ui h 24 8 (nI 0)) 24 5 (nI 0)) 24 8 (nI (sk f m 0))).1 24 8 = nI (sk f m 0) := ui_eq
  have f0 : FF 24 h (ui (ui (ui h 24 8 (nI 0)) 24 5 (nI 0)) 24 8 (nI (sk f m 0))) := (((FF.rf 24 h).ui ⟨by decide, by decide⟩).ui ⟨by decide, by decide⟩).ui ⟨by decide, by decide⟩
  obtain ⟨crh, l4⟩ := rhT_24 ht hf2 hm hq2 sl0.2 hh
  have f1 : FF 24 h (hhC_24 f (sk f m 0) (ui (ui (ui h 24 8 (nI 0)) 24 5 (nI 0)) 24 8 (nI (sk f m 0)))) := by unfold hhC_24; repeat (first | exact f0 | refine FF.ui ?_ ⟨by decide, by decide⟩)
  have hf3 : ∀ j, j < 60 → (hhC_24 f (sk f m 0) (ui (ui (ui h 24 8 (nI 0)) 24 5 (nI 0)) 24 8 (nI (sk f m 0)))).1 (12 + 1 + t) j = f j := fun j hj => (f1.2 _ _ (by omega)).trans (hf j hj)
  have csk2 := c_X1_skipBlanks_24 (f := f) (h := hhC_24 f (sk f m 0) (ui (ui (ui h 24 8 (nI 0)) 24 5 (nI 0)) 24 8 (nI (sk f m 0)))) (q := sk f m 0 + 4) ht hf3 hm (by simp [hhC_24, ui]) l4
  have sl4 := sk_le (f := f) l4
  have hp0 : prs f m = rdS f m 7 (sk f m (sk f m 0 + 4)) (hdA f (sk f m 0)) := if_pos hh
  have hB2 : RB (hdA f (sk f m 0)) (ui (hhC_24 f (sk f m 0) (ui (ui (ui h 24 8 (nI 0)) 24 5 (nI 0)) 24 8 (nI (sk f m 0)))) 24 8 (nI (sk f m (sk f m 0 + 4)))) := by
    refine ⟨?_, ?_, ?_, fun i hi => absurd hi (by simp [hdA, au])⟩
    · simp [hhC_24, ui, hdA, au]
    · simp [hhC_24, ui, hdA, au]
    · simp [hhC_24, ui, hdA, au]
  rw [hp0] at hw
  obtain ⟨h', g1, g0, g2⟩ := rd_lp_24 ht hm 7 (sk f m (sk f m 0 + 4)) (hdA f (sk f m 0)) (ui (hhC_24 f (sk f m 0) (ui (ui (ui h 24 8 (nI 0)) 24 5 (nI 0)) 24 8 (nI (sk f m 0)))) 24 8 (nI (sk f m (sk f m 0 + 4)))) rfl sl4.2 (fun j hj => (ui_ne (by omega)).trans (hf3 j hj)) ui_eq hB2 hw
  refine ⟨h', ?_, (f1.ui ⟨by decide, by decide⟩).tr g1, by rw [hp0]; exact g0⟩
  rw [hp0]
  refine CT.of (own := RX1) rfl (by decide) (ro_i _) [.ref 24, .ref (12 + 1 + t), .int (nI m), .null] rfl (Nat.le_of_ble_eq_true rfl) (fun E hp => ?_)
  refine s_aload_n (pc := 0) 0 rfl rfl dX1_read_0 ?_
  refine s_iconst (pc := 1) (k_i0N) dX1_read_1 ?_
  refine s_puti (pc := 2) fl_X1_37 fw_1_8 rfl rfl dX1_read_2 ?_
  refine s_aload_n (pc := 5) 0 rfl rfl dX1_read_5 ?_
  refine s_iconst (pc := 6) (k_i0N) dX1_read_6 ?_
  refine s_puti (pc := 7) fl_X1_27 fw_1_5 rfl rfl dX1_read_7 ?_
  refine s_aload_n (pc := 10) 0 rfl rfl dX1_read_10 ?_
  refine s_aload_n (pc := 11) 1 rfl rfl dX1_read_11 ?_
  refine s_iload_n (pc := 12) 2 rfl rfl dX1_read_12 ?_
  refine s_cvn2 (pc := 13) (csk) ml_X1_40 mw_X1_skipBlanks rfl (by decide) (Nat.le_of_ble_eq_true rfl) dX1_read_13 ?_
  refine s_aload_n (pc := 16) 0 rfl rfl dX1_read_16 ?_
  refine s_aload_n (pc := 17) 1 rfl rfl dX1_read_17 ?_
  refine s_iload_n (pc := 18) 2 rfl rfl dX1_read_18 ?_
  refine s_cvi2 (pc := 19) (crh) ml_X1_44 mw_X1_readHead rfl (by decide) (Nat.le_of_ble_eq_true rfl) dX1_read_19 ?_
  refine s_if_neT (pc := 22) 30 dX1_read_22 (by decide) ?_
  refine s_aload_n (pc := 30) 0 rfl rfl dX1_read_30 ?_
  refine s_aload_n (pc := 31) 1 rfl rfl dX1_read_31 ?_
  refine s_iload_n (pc := 32) 2 rfl rfl dX1_read_32 ?_
  refine s_cvn2 (pc := 33) (csk2) ml_X1_40 mw_X1_skipBlanks rfl (by decide) (Nat.le_of_ble_eq_true rfl) dX1_read_33 ?_
  refine s_iconst (pc := 36) (k_i0N) dX1_read_36 ?_
  refine s_istore_n (pc := 37) 3 rfl (by decide) rfl dX1_read_37 ?_
  exact g2 E hp
