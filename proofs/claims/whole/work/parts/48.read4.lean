/-! the reference's reading: draft d, place and isWell s -/
def rdH (h : Hp) (d : Nat → Int32) (s : Nat × Bool) : Hp := (fun x y => if x = 57 ∧ y < 215 then d y else if x = 50 ∧ y = 19 then nI s.1 else if x = 50 ∧ y = 20 then bi (s.2 = true) else h.1 x y, h.2)
def ud (d : Nat → Int32) (j : Nat) (v : Int32) : Nat → Int32 := fun x => if x = j then v else d x
section RDH
variable {h : Hp} {d : Nat → Int32} {s : Nat × Bool}
theorem rdH_d {j : Nat} (hj : j < 215) : (rdH h d s).1 57 j = d j := if_pos ⟨rfl, hj⟩
theorem rdH_q : (rdH h d s).1 50 19 = nI s.1 := by simp [rdH]
theorem rdH_w : (rdH h d s).1 50 20 = bi (s.2 = true) := by simp [rdH]
theorem rdH_Tt (h5 : s.2 = true) : (rdH h d s).1 50 20 = bi True := rdH_w.trans (bi_cg (by simp [h5]))
theorem rdH_Ff (h5 : s.2 = false) : (rdH h d s).1 50 20 = bi False := rdH_w.trans (bi_cg (by simp [h5]))
theorem rdH_T {q : Nat} : (rdH h d (q, true)).1 50 20 = bi True := rdH_w.trans rfl
theorem rdH_F {q : Nat} : (rdH h d (q, false)).1 50 20 = bi False := rdH_w.trans rfl
theorem rdH_o {x y : Nat} (h1 : x ≠ 57) (h2 : x ≠ 50) : (rdH h d s).1 x y = h.1 x y := (if_neg (fun q => h1 q.1)).trans ((if_neg (fun q => h2 q.1)).trans (if_neg (fun q => h2 q.1)))
theorem rdH_50 {y : Nat} (h1 : y ≠ 19) (h2 : y ≠ 20) : (rdH h d s).1 50 y = h.1 50 y := by simp [rdH, h1, h2]
theorem rdH_ud {j : Nat} {v : Int32} (hj : j < 215) : ui (rdH h d s) 57 j v = rdH h (ud d j v) s := hp_ext (fun x y => by
  simp only [rdH, ui, ud]
  by_cases q : x = 57 ∧ y = j
  · rw [if_pos q, if_pos (by omega), if_pos q.2]
  · rw [if_neg q]
    by_cases q2 : x = 57 ∧ y < 215
    · rw [if_pos q2, if_pos q2, if_neg (fun e => q ⟨q2.1, e⟩)]
    · rw [if_neg q2, if_neg q2]) (fun _ _ => rfl)
theorem rdH_uq {q : Nat} : ui (rdH h d s) 50 19 (nI q) = rdH h d (q, s.2) := hp_ext (fun x y => by
  simp only [rdH, ui]
  by_cases q1 : x = 50 ∧ y = 19
  · rw [if_pos q1, if_neg (by omega), if_pos q1]
  · simp only [if_neg q1]) (fun _ _ => rfl)
theorem rdH_uw {v : Int32} {b : Bool} (hv : v = bi (b = true)) : ui (rdH h d s) 50 20 v = rdH h d (s.1, b) := hp_ext (fun x y => by
  simp only [rdH, ui]
  by_cases q1 : x = 50 ∧ y = 20
  · rw [if_pos q1, if_neg (by omega), if_neg (by omega), if_pos q1, hv]
  · simp only [if_neg q1]) (fun _ _ => rfl)
theorem rdH_w1 : ui (rdH h d s) 50 20 (nI 1) = rdH h d (s.1, true) := rdH_uw rfl
theorem rdH_w0 : ui (rdH h d s) 50 20 (nI 0) = rdH h d (s.1, false) := rdH_uw rfl
end RDH
def skS (f : Nat → Int32) (m : Nat) (s : Nat × Bool) : Nat × Bool := (if s.2 = true then sk f m s.1 else s.1, s.2)
def fvM (f : Nat → Int32) (m : Nat) (s : Nat × Bool) : Int32 := lkN f m s.1 (-1000) - nI 48

set_option maxRecDepth 20000 in
theorem c_X7_look {s : Nat × Bool} {t m : Nat} {d : Nat → Int32} {f : Nat → Int32} {h : Hp} (ht : t < 4) (hz : h.1 54 t = nI m) (hm : m ≤ 60) (hf : ∀ j, j < 60 → h.1 55 (60 * t + j) = f j) (hs : s.1 ≤ m) : CT 1 yX7_look cX7_look 2 (some .int) [.ref 50, .int (nI t)] (rdH h d s) (some (.int (lkN f m s.1 (-1000)))) (rdH h d s) := by
  refine CT.of (own := RX7) rfl (by decide) (ro_i _) [.ref 50, .int (nI t)] rfl (Nat.le_of_ble_eq_true rfl) (fun E hp => ?_)
  refine s_aload_n (pc := 0) 0 rfl rfl dX7_look_0 ?_
  refine s_getiE (pc := 1) fl_X7_90 rfl rfl (show _ = nI (s.1) from rdH_q) dX7_look_1 ?_
  refine s_aload_n (pc := 4) 0 rfl rfl dX7_look_4 ?_
  refine s_getr (pc := 5) (b := 54) fl_X7_19 rfl rfl rfl dX7_look_5 ?_
  refine s_iload_n (pc := 8) 1 rfl rfl dX7_look_8 ?_
  refine s_ialdN (pc := 9) (_) rfl rfl (by omega) ((rdH_o (by decide) (by decide)).trans hz) dX7_look_9 ?_
  refine s_icmp_geN (pc := 10) (by omega) (by omega) 30 dX7_look_10 (by decide) (fun c_10 => ?_) (fun c_10 => ?_)
  · refine s_sipush (pc := 30) (k_sm1000) dX7_look_30 ?_
    refine s_iret (pc := 33) dX7_look_33 (PostE.of hp ?_ ?_)
    · unfold lkN; first | (rw [if_pos (by omega)]; done) | (rw [if_neg (by omega)]; done)
    · rfl
  · refine s_aload_n (pc := 13) 0 rfl rfl dX7_look_13 ?_
    refine s_getr (pc := 14) (b := 55) fl_X7_22 rfl rfl rfl dX7_look_14 ?_
    refine s_bipush (pc := 17) (k_b60N) dX7_look_17 ?_
    refine s_iload_n (pc := 19) 1 rfl rfl dX7_look_19 ?_
    refine s_imulN (pc := 20) dX7_look_20 ?_
    refine s_aload_n (pc := 21) 0 rfl rfl dX7_look_21 ?_
    refine s_getiE (pc := 22) fl_X7_90 rfl rfl (show _ = nI (s.1) from rdH_q) dX7_look_22 ?_
    refine s_iaddN (pc := 25) dX7_look_25 ?_
    refine s_ialdE (pc := 26) (_) rfl rfl (by omega) ((rdH_o (by decide) (by decide)).trans (hf _ (by omega))) dX7_look_26 ?_
    refine s_goto (pc := 27) 33 dX7_look_27 (by decide) ?_
    refine s_iret (pc := 33) dX7_look_33 (PostE.of hp ?_ ?_)
    · unfold lkN; first | (rw [if_pos (by omega)]; done) | (rw [if_neg (by omega)]; done)
    · rfl

set_option maxRecDepth 20000 in
theorem c_X7_skips {s : Nat × Bool} {t m : Nat} {d : Nat → Int32} {f : Nat → Int32} {h : Hp} (ht : t < 4) (hz : h.1 54 t = nI m) (hm : m ≤ 60) (hf : ∀ j, j < 60 → h.1 55 (60 * t + j) = f j) (hs : s.1 ≤ m) : CT 2 yX7_skips cX7_skips 2 none [.ref 50, .int (nI t)] (rdH h d s) (none) (rdH h d (skS f m s)) := by
  refine CT.of (own := RX7) rfl (by decide) ro_v [.ref 50, .int (nI t)] rfl (Nat.le_of_ble_eq_true rfl) (fun E hp => ?_)
  suffices lp_0 : ∀ u, u ≤ m → skS f m (u, s.2) = skS f m s → WW E cX7_skips RX7 2 _ 0 [.ref 50, .int (nI t)] (rdH h d (u, s.2)) [] from lp_0 s.1 hs rfl
  refine lpi m (fun u hk_u ih_0 => ?_)
  intro hu
  refine s_aload_n (pc := 0) 0 rfl rfl dX7_skips_0 ?_
  refine s_getzE (pc := 1) fl_X7_93 rfl rfl (show _ = bi (s.2 = true) from rdH_w) dX7_skips_1 ?_
  refine s_if_eqB (pc := 4) 30 dX7_skips_4 (by decide) (fun c_4 => ?_) (fun c_4 => ?_)
  · refine s_vret (pc := 30) dX7_skips_30 (PostE.of hp ?_ ?_)
    · rfl
    · rw [← hu]; simp [skS, c_4]
  · refine s_aload_n (pc := 7) 0 rfl rfl dX7_skips_7 ?_
    refine s_iload_n (pc := 8) 1 rfl rfl dX7_skips_8 ?_
    refine s_cvi1 (pc := 9) (c_X7_look (s := (u, s.2)) ht hz hm hf hk_u) ml_X7_97 mw_X7_look rfl (by decide) (Nat.le_of_ble_eq_true rfl) dX7_skips_9 ?_
    refine s_bipush (pc := 12) (k_b32N) dX7_skips_12 ?_
    refine s_icmp_ne (pc := 14) 30 dX7_skips_14 (by decide) (fun c_14 => ?_) (fun c_14 => ?_)
    · refine s_vret (pc := 30) dX7_skips_30 (PostE.of hp ?_ ?_)
      · rfl
      · rw [← hu]; simp only [skS, c_4, if_true]; rw [sk_f (fun z => c_14 ((lk_32 (by decide)).mpr z))]
    · refine s_aload_n (pc := 17) 0 rfl rfl dX7_skips_17 ?_
      refine s_dup (pc := 18) rfl dX7_skips_18 ?_
      refine s_getiE (pc := 19) fl_X7_90 rfl rfl (show _ = nI (u) from rdH_q) dX7_skips_19 ?_
      refine s_iconst (pc := 22) (k_i1N) dX7_skips_22 ?_
      refine s_iaddN (pc := 23) dX7_skips_23 ?_
      refine s_puti (pc := 24) fl_X7_90 fw_7_19 rfl rfl dX7_skips_24 ?_
      refine s_goto (pc := 27) 0 dX7_skips_27 (by decide) ?_
      have c2 : u < m ∧ f u = nI 32 := (lk_32 (by decide)).mp c_14
      rw [rdH_uq]
      exact ih_0 c2.1 (by rw [← hu]; simp only [skS, c_4, if_true]; rw [sk_t c2])

theorem dg_out {a b x : Int32} (h : ¬ (a ≤ x ∧ x ≤ b)) : x < a ∨ b < x := by
  by_cases z : a ≤ x
  · exact Or.inr (Int32.not_le.mp (fun y => h ⟨z, y⟩))
  · exact Or.inl (Int32.not_le.mp z)

set_option maxRecDepth 20000 in
theorem c_X7_figT {low : Nat} {q : Nat} {t m : Nat} {d : Nat → Int32} {f : Nat → Int32} {h : Hp} (ht : t < 4) (hz : h.1 54 t = nI m) (hm : m ≤ 60) (hf : ∀ j, j < 60 → h.1 55 (60 * t + j) = f j) (hs : q ≤ m) (hl : low ≤ 9) (hd : dgB f m low q = true) : CT 2 yX7_figure cX7_figure 4 (some .int) [.ref 50, .int (nI t), .int (nI low)] (rdH h d (q, true)) (some (.int (lkN f m q (-1000) - nI 48))) (rdH h d (q + 1, true)) := by
  refine CT.of (own := RX7) rfl (by decide) (ro_i _) [.ref 50, .int (nI t), .int (nI low), .null] rfl (Nat.le_of_ble_eq_true rfl) (fun E hp => ?_)
  refine s_aload_n (pc := 0) 0 rfl rfl dX7_figure_0 ?_
  refine s_iload_n (pc := 1) 1 rfl rfl dX7_figure_1 ?_
  refine s_cvi1 (pc := 2) (c_X7_look (s := (q, true)) ht hz hm hf hs) ml_X7_97 mw_X7_look rfl (by decide) (Nat.le_of_ble_eq_true rfl) dX7_figure_2 ?_
  refine s_bipush (pc := 5) (k_b48N) dX7_figure_5 ?_
  refine s_isub (pc := 7) dX7_figure_7 ?_
  refine s_istore_n (pc := 8) 3 rfl (by decide) rfl dX7_figure_8 ?_
  refine s_aload_n (pc := 9) 0 rfl rfl dX7_figure_9 ?_
  refine s_aload_n (pc := 10) 0 rfl rfl dX7_figure_10 ?_
  refine s_getzE (pc := 11) fl_X7_93 rfl rfl rdH_T dX7_figure_11 ?_
  refine s_if_eqT (pc := 14) 31 dX7_figure_14 (by decide) ?_
  refine s_iload_n (pc := 17) 3 rfl rfl dX7_figure_17 ?_
  refine s_iload_n (pc := 18) 2 rfl rfl dX7_figure_18 ?_
  refine s_bipush (pc := 19) (k_b9N) dX7_figure_19 ?_
  refine s_csi3 (pc := 21) (c_X7_inT ((dg_in hl).mpr hd)) ml_X7_64 ms_X7_in (by decide) (Nat.le_of_ble_eq_true rfl) dX7_figure_21 ?_
  refine s_if_eqT (pc := 24) 31 dX7_figure_24 (by decide) ?_
  refine s_iconst (pc := 27) (k_i1N) dX7_figure_27 ?_
  refine s_goto (pc := 28) 32 dX7_figure_28 (by decide) ?_
  refine s_putz (pc := 32) ⟨by rfl, by rfl⟩ fl_X7_93 fw_7_20 rfl rfl dX7_figure_32 ?_
  rw [rdH_w1]
  refine s_aload_n (pc := 35) 0 rfl rfl dX7_figure_35 ?_
  refine s_dup (pc := 36) rfl dX7_figure_36 ?_
  refine s_getiE (pc := 37) fl_X7_90 rfl rfl (show _ = nI (q) from rdH_q) dX7_figure_37 ?_
  refine s_aload_n (pc := 40) 0 rfl rfl dX7_figure_40 ?_
  refine s_getzE (pc := 41) fl_X7_93 rfl rfl rdH_T dX7_figure_41 ?_
  refine s_if_eqT (pc := 44) 51 dX7_figure_44 (by decide) ?_
  refine s_iconst (pc := 47) (k_i1N) dX7_figure_47 ?_
  refine s_goto (pc := 48) 52 dX7_figure_48 (by decide) ?_
  refine s_iaddN (pc := 52) dX7_figure_52 ?_
  refine s_puti (pc := 53) fl_X7_90 fw_7_19 rfl rfl dX7_figure_53 ?_
  rw [rdH_uq]
  refine s_iload_n (pc := 56) 3 rfl rfl dX7_figure_56 ?_
  refine s_iret (pc := 57) dX7_figure_57 (PostE.of hp ?_ ?_)
  · rfl
  · rfl

set_option maxRecDepth 20000 in
theorem c_X7_figF {low : Nat} {q : Nat} {t m : Nat} {d : Nat → Int32} {f : Nat → Int32} {h : Hp} (ht : t < 4) (hz : h.1 54 t = nI m) (hm : m ≤ 60) (hf : ∀ j, j < 60 → h.1 55 (60 * t + j) = f j) (hs : q ≤ m) (hl : low ≤ 9) (hd : ¬ dgB f m low q = true) : CT 2 yX7_figure cX7_figure 4 (some .int) [.ref 50, .int (nI t), .int (nI low)] (rdH h d (q, true)) (some (.int (lkN f m q (-1000) - nI 48))) (rdH h d (q, false)) := by
  refine CT.of (own := RX7) rfl (by decide) (ro_i _) [.ref 50, .int (nI t), .int (nI low), .null] rfl (Nat.le_of_ble_eq_true rfl) (fun E hp => ?_)
  refine s_aload_n (pc := 0) 0 rfl rfl dX7_figure_0 ?_
  refine s_iload_n (pc := 1) 1 rfl rfl dX7_figure_1 ?_
  refine s_cvi1 (pc := 2) (c_X7_look (s := (q, true)) ht hz hm hf hs) ml_X7_97 mw_X7_look rfl (by decide) (Nat.le_of_ble_eq_true rfl) dX7_figure_2 ?_
  refine s_bipush (pc := 5) (k_b48N) dX7_figure_5 ?_
  refine s_isub (pc := 7) dX7_figure_7 ?_
  refine s_istore_n (pc := 8) 3 rfl (by decide) rfl dX7_figure_8 ?_
  refine s_aload_n (pc := 9) 0 rfl rfl dX7_figure_9 ?_
  refine s_aload_n (pc := 10) 0 rfl rfl dX7_figure_10 ?_
  refine s_getzE (pc := 11) fl_X7_93 rfl rfl rdH_T dX7_figure_11 ?_
  refine s_if_eqT (pc := 14) 31 dX7_figure_14 (by decide) ?_
  refine s_iload_n (pc := 17) 3 rfl rfl dX7_figure_17 ?_
  refine s_iload_n (pc := 18) 2 rfl rfl dX7_figure_18 ?_
  refine s_bipush (pc := 19) (k_b9N) dX7_figure_19 ?_
  refine s_csi3 (pc := 21) (c_X7_inF (dg_out (fun z => hd ((dg_in hl).mp z)))) ml_X7_64 ms_X7_in (by decide) (Nat.le_of_ble_eq_true rfl) dX7_figure_21 ?_
  refine s_if_eqF (pc := 24) 31 dX7_figure_24 (by decide) ?_
  refine s_iconst (pc := 31) (k_i0N) dX7_figure_31 ?_
  refine s_putz (pc := 32) ⟨by rfl, by rfl⟩ fl_X7_93 fw_7_20 rfl rfl dX7_figure_32 ?_
  rw [rdH_w0]
  refine s_aload_n (pc := 35) 0 rfl rfl dX7_figure_35 ?_
  refine s_dup (pc := 36) rfl dX7_figure_36 ?_
  refine s_getiE (pc := 37) fl_X7_90 rfl rfl (show _ = nI (q) from rdH_q) dX7_figure_37 ?_
  refine s_aload_n (pc := 40) 0 rfl rfl dX7_figure_40 ?_
  refine s_getzE (pc := 41) fl_X7_93 rfl rfl rdH_F dX7_figure_41 ?_
  refine s_if_eqF (pc := 44) 51 dX7_figure_44 (by decide) ?_
  refine s_iconst (pc := 51) (k_i0N) dX7_figure_51 ?_
  refine s_iaddN (pc := 52) dX7_figure_52 ?_
  refine s_puti (pc := 53) fl_X7_90 fw_7_19 rfl rfl dX7_figure_53 ?_
  rw [rdH_uq]
  refine s_iload_n (pc := 56) 3 rfl rfl dX7_figure_56 ?_
  refine s_iret (pc := 57) dX7_figure_57 (PostE.of hp ?_ ?_)
  · rfl
  · rfl

set_option maxRecDepth 20000 in
theorem c_X7_figN {low : Nat} {q : Nat} {t m : Nat} {d : Nat → Int32} {f : Nat → Int32} {h : Hp} (ht : t < 4) (hz : h.1 54 t = nI m) (hm : m ≤ 60) (hf : ∀ j, j < 60 → h.1 55 (60 * t + j) = f j) (hs : q ≤ m) : CT 2 yX7_figure cX7_figure 4 (some .int) [.ref 50, .int (nI t), .int (nI low)] (rdH h d (q, false)) (some (.int (lkN f m q (-1000) - nI 48))) (rdH h d (q, false)) := by
  refine CT.of (own := RX7) rfl (by decide) (ro_i _) [.ref 50, .int (nI t), .int (nI low), .null] rfl (Nat.le_of_ble_eq_true rfl) (fun E hp => ?_)
  refine s_aload_n (pc := 0) 0 rfl rfl dX7_figure_0 ?_
  refine s_iload_n (pc := 1) 1 rfl rfl dX7_figure_1 ?_
  refine s_cvi1 (pc := 2) (c_X7_look (s := (q, false)) ht hz hm hf hs) ml_X7_97 mw_X7_look rfl (by decide) (Nat.le_of_ble_eq_true rfl) dX7_figure_2 ?_
  refine s_bipush (pc := 5) (k_b48N) dX7_figure_5 ?_
  refine s_isub (pc := 7) dX7_figure_7 ?_
  refine s_istore_n (pc := 8) 3 rfl (by decide) rfl dX7_figure_8 ?_
  refine s_aload_n (pc := 9) 0 rfl rfl dX7_figure_9 ?_
  refine s_aload_n (pc := 10) 0 rfl rfl dX7_figure_10 ?_
  refine s_getzE (pc := 11) fl_X7_93 rfl rfl rdH_F dX7_figure_11 ?_
  refine s_if_eqF (pc := 14) 31 dX7_figure_14 (by decide) ?_
  refine s_iconst (pc := 31) (k_i0N) dX7_figure_31 ?_
  refine s_putz (pc := 32) ⟨by rfl, by rfl⟩ fl_X7_93 fw_7_20 rfl rfl dX7_figure_32 ?_
  rw [rdH_w0]
  refine s_aload_n (pc := 35) 0 rfl rfl dX7_figure_35 ?_
  refine s_dup (pc := 36) rfl dX7_figure_36 ?_
  refine s_getiE (pc := 37) fl_X7_90 rfl rfl (show _ = nI (q) from rdH_q) dX7_figure_37 ?_
  refine s_aload_n (pc := 40) 0 rfl rfl dX7_figure_40 ?_
  refine s_getzE (pc := 41) fl_X7_93 rfl rfl rdH_F dX7_figure_41 ?_
  refine s_if_eqF (pc := 44) 51 dX7_figure_44 (by decide) ?_
  refine s_iconst (pc := 51) (k_i0N) dX7_figure_51 ?_
  refine s_iaddN (pc := 52) dX7_figure_52 ?_
  refine s_puti (pc := 53) fl_X7_90 fw_7_19 rfl rfl dX7_figure_53 ?_
  rw [rdH_uq]
  refine s_iload_n (pc := 56) 3 rfl rfl dX7_figure_56 ?_
  refine s_iret (pc := 57) dX7_figure_57 (PostE.of hp ?_ ?_)
  · rfl
  · rfl

theorem c_X7_figure {low : Nat} {s : Nat × Bool} {t m : Nat} {d : Nat → Int32} {f : Nat → Int32} {h : Hp} (ht : t < 4) (hz : h.1 54 t = nI m) (hm : m ≤ 60) (hf : ∀ j, j < 60 → h.1 55 (60 * t + j) = f j) (hs : s.1 ≤ m) (hl : low ≤ 9) : CT 2 yX7_figure cX7_figure 4 (some .int) [.ref 50, .int (nI t), .int (nI low)] (rdH h d s) (some (.int (fvM f m s))) (rdH h d (fgS f m low s)) := by
  obtain ⟨q, b⟩ := s
  cases b with
  | false => rw [fg_n]; exact c_X7_figN ht hz hm hf hs
  | true =>
    by_cases hd : dgB f m low q = true
    · rw [fg_t hd]; exact c_X7_figT ht hz hm hf hs hl hd
    · rw [fg_f hd]; exact c_X7_figF ht hz hm hf hs hl hd

set_option maxRecDepth 20000 in
theorem c_X7_years {s : Nat × Bool} {t m : Nat} {d : Nat → Int32} {f : Nat → Int32} {h : Hp} (ht : t < 4) (hz : h.1 54 t = nI m) (hm : m ≤ 60) (hf : ∀ j, j < 60 → h.1 55 (60 * t + j) = f j) (hs : s.1 ≤ m) : CT 3 yX7_years cX7_years 3 (some .int) [.ref 50, .int (nI t)] (rdH h d s) (some (.int (nI 10 * fvM f m s + fvM f m (fgS f m 0 s)))) (rdH h d (fgS f m 0 (fgS f m 0 s))) := by
  refine CT.of (own := RX7) rfl (by decide) (ro_i _) [.ref 50, .int (nI t), .null] rfl (Nat.le_of_ble_eq_true rfl) (fun E hp => ?_)
  refine s_aload_n (pc := 0) 0 rfl rfl dX7_years_0 ?_
  refine s_iload_n (pc := 1) 1 rfl rfl dX7_years_1 ?_
  refine s_iconst (pc := 2) (k_i0N) dX7_years_2 ?_
  refine s_cvi2 (pc := 3) (c_X7_figure (s := s) ht hz hm hf hs (Nat.zero_le _)) ml_X7_100 mw_X7_figure rfl (by decide) (Nat.le_of_ble_eq_true rfl) dX7_years_3 ?_
  refine s_istore_n (pc := 6) 2 rfl (by decide) rfl dX7_years_6 ?_
  refine s_bipush (pc := 7) (k_b10N) dX7_years_7 ?_
  refine s_iload_n (pc := 9) 2 rfl rfl dX7_years_9 ?_
  refine s_imul (pc := 10) dX7_years_10 ?_
  refine s_aload_n (pc := 11) 0 rfl rfl dX7_years_11 ?_
  refine s_iload_n (pc := 12) 1 rfl rfl dX7_years_12 ?_
  refine s_iconst (pc := 13) (k_i0N) dX7_years_13 ?_
  refine s_cvi2 (pc := 14) (c_X7_figure (s := fgS f m 0 s) ht hz hm hf (fg_le hs) (Nat.zero_le _)) ml_X7_100 mw_X7_figure rfl (by decide) (Nat.le_of_ble_eq_true rfl) dX7_years_14 ?_
  refine s_iadd (pc := 17) dX7_years_17 ?_
  refine s_iret (pc := 18) dX7_years_18 (PostE.of hp ?_ ?_)
  · rfl
  · rfl

set_option maxRecDepth 20000 in
theorem c_X7_kindOfT {x : Int32} {h : Hp} (hx : kdN x < 6) : CT 1 yX7_kindOf cX7_kindOf 1 (some .int) [.int x] h (some (.int (nI (kdN x)))) (h) := by
  refine CT.of (own := RX7) rfl (by decide) (ro_i _) [.int x] rfl (Nat.le_of_ble_eq_true rfl) (fun E hp => ?_)
  refine s_iload_n (pc := 0) 0 rfl rfl dX7_kindOf_0 ?_
  refine s_bipush (pc := 1) (k_b115N) dX7_kindOf_1 ?_
  refine s_icmp_ne (pc := 3) 10 dX7_kindOf_3 (by decide) (fun c_3 => ?_) (fun c_3 => ?_)
  · refine s_iload_n (pc := 10) 0 rfl rfl dX7_kindOf_10 ?_
    refine s_bipush (pc := 11) (k_b98N) dX7_kindOf_11 ?_
    refine s_icmp_ne (pc := 13) 20 dX7_kindOf_13 (by decide) (fun c_13 => ?_) (fun c_13 => ?_)
    · refine s_iload_n (pc := 20) 0 rfl rfl dX7_kindOf_20 ?_
      refine s_bipush (pc := 21) (k_b112N) dX7_kindOf_21 ?_
      refine s_icmp_ne (pc := 23) 30 dX7_kindOf_23 (by decide) (fun c_23 => ?_) (fun c_23 => ?_)
      · refine s_iload_n (pc := 30) 0 rfl rfl dX7_kindOf_30 ?_
        refine s_bipush (pc := 31) (k_b114N) dX7_kindOf_31 ?_
        refine s_icmp_ne (pc := 33) 40 dX7_kindOf_33 (by decide) (fun c_33 => ?_) (fun c_33 => ?_)
        · refine s_iload_n (pc := 40) 0 rfl rfl dX7_kindOf_40 ?_
          refine s_bipush (pc := 41) (k_b102N) dX7_kindOf_41 ?_
          refine s_icmp_ne (pc := 43) 50 dX7_kindOf_43 (by decide) (fun c_43 => ?_) (fun c_43 => ?_)
          · refine s_iload_n (pc := 50) 0 rfl rfl dX7_kindOf_50 ?_
            refine s_bipush (pc := 51) (k_b103N) dX7_kindOf_51 ?_
            refine s_icmp_ne (pc := 53) 60 dX7_kindOf_53 (by decide) (fun c_53 => ?_) (fun c_53 => ?_)
            · exfalso; exact absurd hx (by unfold kdN; rw [if_neg c_3, if_neg c_13, if_neg c_23, if_neg c_33, if_neg c_43, if_neg c_53]; decide)
            · refine s_iconst (pc := 56) (k_i5N) dX7_kindOf_56 ?_
              refine s_goto (pc := 57) 62 dX7_kindOf_57 (by decide) ?_
              refine s_iret (pc := 62) dX7_kindOf_62 (PostE.of hp ?_ ?_)
              · exact retn (by unfold kdN; rw [if_neg c_3, if_neg c_13, if_neg c_23, if_neg c_33, if_neg c_43, if_pos c_53])
              · rfl
          · refine s_iconst (pc := 46) (k_i4N) dX7_kindOf_46 ?_
            refine s_goto (pc := 47) 62 dX7_kindOf_47 (by decide) ?_
            refine s_iret (pc := 62) dX7_kindOf_62 (PostE.of hp ?_ ?_)
            · exact retn (by unfold kdN; rw [if_neg c_3, if_neg c_13, if_neg c_23, if_neg c_33, if_pos c_43])
            · rfl
        · refine s_iconst (pc := 36) (k_i3N) dX7_kindOf_36 ?_
          refine s_goto (pc := 37) 62 dX7_kindOf_37 (by decide) ?_
          refine s_iret (pc := 62) dX7_kindOf_62 (PostE.of hp ?_ ?_)
          · exact retn (by unfold kdN; rw [if_neg c_3, if_neg c_13, if_neg c_23, if_pos c_33])
          · rfl
      · refine s_iconst (pc := 26) (k_i2N) dX7_kindOf_26 ?_
        refine s_goto (pc := 27) 62 dX7_kindOf_27 (by decide) ?_
        refine s_iret (pc := 62) dX7_kindOf_62 (PostE.of hp ?_ ?_)
        · exact retn (by unfold kdN; rw [if_neg c_3, if_neg c_13, if_pos c_23])
        · rfl
    · refine s_iconst (pc := 16) (k_i1N) dX7_kindOf_16 ?_
      refine s_goto (pc := 17) 62 dX7_kindOf_17 (by decide) ?_
      refine s_iret (pc := 62) dX7_kindOf_62 (PostE.of hp ?_ ?_)
      · exact retn (by unfold kdN; rw [if_neg c_3, if_pos c_13])
      · rfl
  · refine s_iconst (pc := 6) (k_i0N) dX7_kindOf_6 ?_
    refine s_goto (pc := 7) 62 dX7_kindOf_7 (by decide) ?_
    refine s_iret (pc := 62) dX7_kindOf_62 (PostE.of hp ?_ ?_)
    · exact retn (by unfold kdN; rw [if_pos c_3])
    · rfl

set_option maxRecDepth 20000 in
theorem c_X7_kindOfF {x : Int32} {h : Hp} (hx : ¬ kdN x < 6) : CT 1 yX7_kindOf cX7_kindOf 1 (some .int) [.int x] h (some (.int (-9))) (h) := by
  refine CT.of (own := RX7) rfl (by decide) (ro_i _) [.int x] rfl (Nat.le_of_ble_eq_true rfl) (fun E hp => ?_)
  refine s_iload_n (pc := 0) 0 rfl rfl dX7_kindOf_0 ?_
  refine s_bipush (pc := 1) (k_b115N) dX7_kindOf_1 ?_
  refine s_icmp_ne (pc := 3) 10 dX7_kindOf_3 (by decide) (fun c_3 => ?_) (fun c_3 => ?_)
  · refine s_iload_n (pc := 10) 0 rfl rfl dX7_kindOf_10 ?_
    refine s_bipush (pc := 11) (k_b98N) dX7_kindOf_11 ?_
    refine s_icmp_ne (pc := 13) 20 dX7_kindOf_13 (by decide) (fun c_13 => ?_) (fun c_13 => ?_)
    · refine s_iload_n (pc := 20) 0 rfl rfl dX7_kindOf_20 ?_
      refine s_bipush (pc := 21) (k_b112N) dX7_kindOf_21 ?_
      refine s_icmp_ne (pc := 23) 30 dX7_kindOf_23 (by decide) (fun c_23 => ?_) (fun c_23 => ?_)
      · refine s_iload_n (pc := 30) 0 rfl rfl dX7_kindOf_30 ?_
        refine s_bipush (pc := 31) (k_b114N) dX7_kindOf_31 ?_
        refine s_icmp_ne (pc := 33) 40 dX7_kindOf_33 (by decide) (fun c_33 => ?_) (fun c_33 => ?_)
        · refine s_iload_n (pc := 40) 0 rfl rfl dX7_kindOf_40 ?_
          refine s_bipush (pc := 41) (k_b102N) dX7_kindOf_41 ?_
          refine s_icmp_ne (pc := 43) 50 dX7_kindOf_43 (by decide) (fun c_43 => ?_) (fun c_43 => ?_)
          · refine s_iload_n (pc := 50) 0 rfl rfl dX7_kindOf_50 ?_
            refine s_bipush (pc := 51) (k_b103N) dX7_kindOf_51 ?_
            refine s_icmp_ne (pc := 53) 60 dX7_kindOf_53 (by decide) (fun c_53 => ?_) (fun c_53 => ?_)
            · refine s_bipush (pc := 60) (k_bm9) dX7_kindOf_60 ?_
              refine s_iret (pc := 62) dX7_kindOf_62 (PostE.of hp ?_ ?_)
              · rfl
              · rfl
            · exfalso; exact hx (by unfold kdN; rw [if_neg c_3, if_neg c_13, if_neg c_23, if_neg c_33, if_neg c_43, if_pos c_53]; decide)
          · exfalso; exact hx (by unfold kdN; rw [if_neg c_3, if_neg c_13, if_neg c_23, if_neg c_33, if_pos c_43]; decide)
        · exfalso; exact hx (by unfold kdN; rw [if_neg c_3, if_neg c_13, if_neg c_23, if_pos c_33]; decide)
      · exfalso; exact hx (by unfold kdN; rw [if_neg c_3, if_neg c_13, if_pos c_23]; decide)
    · exfalso; exact hx (by unfold kdN; rw [if_neg c_3, if_pos c_13]; decide)
  · exfalso; exact hx (by unfold kdN; rw [if_pos c_3]; decide)

set_option maxRecDepth 20000 in
theorem c_X7_rhT {t m : Nat} {d : Nat → Int32} {f : Nat → Int32} {h : Hp} (ht : t < 4) (hz : h.1 54 t = nI m) (hm : m ≤ 60) (hf : ∀ j, j < 60 → h.1 55 (60 * t + j) = f j)  (h0 : (sk f m 0 < m ∧ f (sk f m 0) = nI 104)) : CT 4 yX7_readsHead cX7_readsHead 2 none [.ref 50, .int (nI t)] (rdH h d (0, true)) (none) (rdH h (ud (ud (ud d 1 (nI 10 * fvM f m (sk f m 0 + 1, true) + fvM f m (fgS f m 0 (sk f m 0 + 1, true)))) 2 (fvM f m (fgS f m 0 (fgS f m 0 (sk f m 0 + 1, true))))) 4 (fvM f m (fgS f m 0 (fgS f m 0 (sk f m 0 + 1, true))))) (skS f m (fgS f m 1 (fgS f m 0 (fgS f m 0 (sk f m 0 + 1, true)))))) := by
  have sl := sk_le (f := f) (Nat.zero_le m)
  have l0 : (sk f m 0 + 1, true).1 ≤ m := by show sk f m 0 + 1 ≤ m; omega
  have l2 : (fgS f m 0 (fgS f m 0 (sk f m 0 + 1, true))).1 ≤ m := fg_le (fg_le l0)
  have l3 : (fgS f m 1 (fgS f m 0 (fgS f m 0 (sk f m 0 + 1, true)))).1 ≤ m := fg_le l2
  refine CT.of (own := RX7) rfl (by decide) ro_v [.ref 50, .int (nI t)] rfl (Nat.le_of_ble_eq_true rfl) (fun E hp => ?_)
  refine s_aload_n (pc := 0) 0 rfl rfl dX7_readsHead_0 ?_
  refine s_iload_n (pc := 1) 1 rfl rfl dX7_readsHead_1 ?_
  refine s_cvn1 (pc := 2) (c_X7_skips (s := (0, true)) ht hz hm hf (Nat.zero_le _)) ml_X7_103 mw_X7_skips rfl (by decide) (Nat.le_of_ble_eq_true rfl) dX7_readsHead_2 ?_
  rw [show skS f m (0, true) = (sk f m 0, true) from rfl]
  refine s_aload_n (pc := 5) 0 rfl rfl dX7_readsHead_5 ?_
  refine s_aload_n (pc := 6) 0 rfl rfl dX7_readsHead_6 ?_
  refine s_iload_n (pc := 7) 1 rfl rfl dX7_readsHead_7 ?_
  refine s_cvi1 (pc := 8) (c_X7_look (s := (sk f m 0, true)) ht hz hm hf sl.2) ml_X7_97 mw_X7_look rfl (by decide) (Nat.le_of_ble_eq_true rfl) dX7_readsHead_8 ?_
  refine s_bipush (pc := 11) (k_b104N) dX7_readsHead_11 ?_
  refine s_icmp_ne (pc := 13) 20 dX7_readsHead_13 (by decide) (fun c_13 => ?_) (fun c_13 => ?_)
  · exfalso; exact c_13 ((lk_eq (by decide)).mpr h0)
  · refine s_iconst (pc := 16) (k_i1N) dX7_readsHead_16 ?_
    refine s_goto (pc := 17) 21 dX7_readsHead_17 (by decide) ?_
    refine s_putz (pc := 21) ⟨by rfl, by rfl⟩ fl_X7_93 fw_7_20 rfl rfl dX7_readsHead_21 ?_
    rw [rdH_w1]
    refine s_aload_n (pc := 24) 0 rfl rfl dX7_readsHead_24 ?_
    refine s_dup (pc := 25) rfl dX7_readsHead_25 ?_
    refine s_getiE (pc := 26) fl_X7_90 rfl rfl (show _ = nI (sk f m 0) from rdH_q) dX7_readsHead_26 ?_
    refine s_aload_n (pc := 29) 0 rfl rfl dX7_readsHead_29 ?_
    refine s_getzE (pc := 30) fl_X7_93 rfl rfl rdH_T dX7_readsHead_30 ?_
    refine s_if_eqT (pc := 33) 40 dX7_readsHead_33 (by decide) ?_
    refine s_iconst (pc := 36) (k_i1N) dX7_readsHead_36 ?_
    refine s_goto (pc := 37) 41 dX7_readsHead_37 (by decide) ?_
    refine s_iaddN (pc := 41) dX7_readsHead_41 ?_
    refine s_puti (pc := 42) fl_X7_90 fw_7_19 rfl rfl dX7_readsHead_42 ?_
    rw [rdH_uq]
    refine s_aload_n (pc := 45) 0 rfl rfl dX7_readsHead_45 ?_
    refine s_getr (pc := 46) (b := 57) fl_X7_28 rfl rfl rfl dX7_readsHead_46 ?_
    refine s_iconst (pc := 49) (k_i1N) dX7_readsHead_49 ?_
    refine s_aload_n (pc := 50) 0 rfl rfl dX7_readsHead_50 ?_
    refine s_iload_n (pc := 51) 1 rfl rfl dX7_readsHead_51 ?_
    refine s_cvi1 (pc := 52) (c_X7_years (s := (sk f m 0 + 1, true)) ht hz hm hf l0) ml_X7_107 mw_X7_years rfl (by decide) (Nat.le_of_ble_eq_true rfl) dX7_readsHead_52 ?_
    refine s_iast (pc := 55) (_) rfl rfl (by omega) dX7_readsHead_55 ?_
    rw [rdH_ud (by decide)]
    refine s_aload_n (pc := 56) 0 rfl rfl dX7_readsHead_56 ?_
    refine s_getr (pc := 57) (b := 57) fl_X7_28 rfl rfl rfl dX7_readsHead_57 ?_
    refine s_iconst (pc := 60) (k_i2N) dX7_readsHead_60 ?_
    refine s_aload_n (pc := 61) 0 rfl rfl dX7_readsHead_61 ?_
    refine s_iload_n (pc := 62) 1 rfl rfl dX7_readsHead_62 ?_
    refine s_iconst (pc := 63) (k_i1N) dX7_readsHead_63 ?_
    refine s_cvi2 (pc := 64) (c_X7_figure (s := (fgS f m 0 (fgS f m 0 (sk f m 0 + 1, true)))) ht hz hm hf l2 (by decide)) ml_X7_100 mw_X7_figure rfl (by decide) (Nat.le_of_ble_eq_true rfl) dX7_readsHead_64 ?_
    refine s_iast (pc := 67) (_) rfl rfl (by omega) dX7_readsHead_67 ?_
    rw [rdH_ud (by decide)]
    refine s_aload_n (pc := 68) 0 rfl rfl dX7_readsHead_68 ?_
    refine s_getr (pc := 69) (b := 57) fl_X7_28 rfl rfl rfl dX7_readsHead_69 ?_
    refine s_iconst (pc := 72) (k_i4N) dX7_readsHead_72 ?_
    refine s_aload_n (pc := 73) 0 rfl rfl dX7_readsHead_73 ?_
    refine s_getr (pc := 74) (b := 57) fl_X7_28 rfl rfl rfl dX7_readsHead_74 ?_
    refine s_iconst (pc := 77) (k_i2N) dX7_readsHead_77 ?_
    refine s_ialdE (pc := 78) (_) rfl rfl (by omega) (show _ = (fvM f m (fgS f m 0 (fgS f m 0 (sk f m 0 + 1, true)))) from rdH_d (by decide)) dX7_readsHead_78 ?_
    refine s_iast (pc := 79) (_) rfl rfl (by omega) dX7_readsHead_79 ?_
    rw [rdH_ud (by decide)]
    refine s_aload_n (pc := 80) 0 rfl rfl dX7_readsHead_80 ?_
    refine s_iload_n (pc := 81) 1 rfl rfl dX7_readsHead_81 ?_
    refine s_cvn1 (pc := 82) (c_X7_skips (s := (fgS f m 1 (fgS f m 0 (fgS f m 0 (sk f m 0 + 1, true))))) ht hz hm hf l3) ml_X7_103 mw_X7_skips rfl (by decide) (Nat.le_of_ble_eq_true rfl) dX7_readsHead_82 ?_
    refine s_vret (pc := 85) dX7_readsHead_85 (PostE.of hp ?_ ?_)
    · rfl
    · rfl

set_option maxRecDepth 20000 in
theorem c_X7_rhF {t m : Nat} {d : Nat → Int32} {f : Nat → Int32} {h : Hp} (ht : t < 4) (hz : h.1 54 t = nI m) (hm : m ≤ 60) (hf : ∀ j, j < 60 → h.1 55 (60 * t + j) = f j)  (h0 : ¬ (sk f m 0 < m ∧ f (sk f m 0) = nI 104)) : CT 4 yX7_readsHead cX7_readsHead 2 none [.ref 50, .int (nI t)] (rdH h d (0, true)) (none) (rdH h (ud (ud (ud d 1 (nI 10 * fvM f m (sk f m 0, false) + fvM f m (fgS f m 0 (sk f m 0, false)))) 2 (fvM f m (fgS f m 0 (fgS f m 0 (sk f m 0, false))))) 4 (fvM f m (fgS f m 0 (fgS f m 0 (sk f m 0, false))))) (skS f m (fgS f m 1 (fgS f m 0 (fgS f m 0 (sk f m 0, false)))))) := by
  have sl := sk_le (f := f) (Nat.zero_le m)
  have l0 : (sk f m 0, false).1 ≤ m := by show sk f m 0 ≤ m; omega
  have l2 : (fgS f m 0 (fgS f m 0 (sk f m 0, false))).1 ≤ m := fg_le (fg_le l0)
  have l3 : (fgS f m 1 (fgS f m 0 (fgS f m 0 (sk f m 0, false)))).1 ≤ m := fg_le l2
  refine CT.of (own := RX7) rfl (by decide) ro_v [.ref 50, .int (nI t)] rfl (Nat.le_of_ble_eq_true rfl) (fun E hp => ?_)
  refine s_aload_n (pc := 0) 0 rfl rfl dX7_readsHead_0 ?_
  refine s_iload_n (pc := 1) 1 rfl rfl dX7_readsHead_1 ?_
  refine s_cvn1 (pc := 2) (c_X7_skips (s := (0, true)) ht hz hm hf (Nat.zero_le _)) ml_X7_103 mw_X7_skips rfl (by decide) (Nat.le_of_ble_eq_true rfl) dX7_readsHead_2 ?_
  rw [show skS f m (0, true) = (sk f m 0, true) from rfl]
  refine s_aload_n (pc := 5) 0 rfl rfl dX7_readsHead_5 ?_
  refine s_aload_n (pc := 6) 0 rfl rfl dX7_readsHead_6 ?_
  refine s_iload_n (pc := 7) 1 rfl rfl dX7_readsHead_7 ?_
  refine s_cvi1 (pc := 8) (c_X7_look (s := (sk f m 0, true)) ht hz hm hf sl.2) ml_X7_97 mw_X7_look rfl (by decide) (Nat.le_of_ble_eq_true rfl) dX7_readsHead_8 ?_
  refine s_bipush (pc := 11) (k_b104N) dX7_readsHead_11 ?_
  refine s_icmp_ne (pc := 13) 20 dX7_readsHead_13 (by decide) (fun c_13 => ?_) (fun c_13 => ?_)
  · refine s_iconst (pc := 20) (k_i0N) dX7_readsHead_20 ?_
    refine s_putz (pc := 21) ⟨by rfl, by rfl⟩ fl_X7_93 fw_7_20 rfl rfl dX7_readsHead_21 ?_
    rw [rdH_w0]
    refine s_aload_n (pc := 24) 0 rfl rfl dX7_readsHead_24 ?_
    refine s_dup (pc := 25) rfl dX7_readsHead_25 ?_
    refine s_getiE (pc := 26) fl_X7_90 rfl rfl (show _ = nI (sk f m 0) from rdH_q) dX7_readsHead_26 ?_
    refine s_aload_n (pc := 29) 0 rfl rfl dX7_readsHead_29 ?_
    refine s_getzE (pc := 30) fl_X7_93 rfl rfl rdH_F dX7_readsHead_30 ?_
    refine s_if_eqF (pc := 33) 40 dX7_readsHead_33 (by decide) ?_
    refine s_iconst (pc := 40) (k_i0N) dX7_readsHead_40 ?_
    refine s_iaddN (pc := 41) dX7_readsHead_41 ?_
    refine s_puti (pc := 42) fl_X7_90 fw_7_19 rfl rfl dX7_readsHead_42 ?_
    rw [rdH_uq]
    refine s_aload_n (pc := 45) 0 rfl rfl dX7_readsHead_45 ?_
    refine s_getr (pc := 46) (b := 57) fl_X7_28 rfl rfl rfl dX7_readsHead_46 ?_
    refine s_iconst (pc := 49) (k_i1N) dX7_readsHead_49 ?_
    refine s_aload_n (pc := 50) 0 rfl rfl dX7_readsHead_50 ?_
    refine s_iload_n (pc := 51) 1 rfl rfl dX7_readsHead_51 ?_
    refine s_cvi1 (pc := 52) (c_X7_years (s := (sk f m 0, false)) ht hz hm hf l0) ml_X7_107 mw_X7_years rfl (by decide) (Nat.le_of_ble_eq_true rfl) dX7_readsHead_52 ?_
    refine s_iast (pc := 55) (_) rfl rfl (by omega) dX7_readsHead_55 ?_
    rw [rdH_ud (by decide)]
    refine s_aload_n (pc := 56) 0 rfl rfl dX7_readsHead_56 ?_
    refine s_getr (pc := 57) (b := 57) fl_X7_28 rfl rfl rfl dX7_readsHead_57 ?_
    refine s_iconst (pc := 60) (k_i2N) dX7_readsHead_60 ?_
    refine s_aload_n (pc := 61) 0 rfl rfl dX7_readsHead_61 ?_
    refine s_iload_n (pc := 62) 1 rfl rfl dX7_readsHead_62 ?_
    refine s_iconst (pc := 63) (k_i1N) dX7_readsHead_63 ?_
    refine s_cvi2 (pc := 64) (c_X7_figure (s := (fgS f m 0 (fgS f m 0 (sk f m 0, false)))) ht hz hm hf l2 (by decide)) ml_X7_100 mw_X7_figure rfl (by decide) (Nat.le_of_ble_eq_true rfl) dX7_readsHead_64 ?_
    refine s_iast (pc := 67) (_) rfl rfl (by omega) dX7_readsHead_67 ?_
    rw [rdH_ud (by decide)]
    refine s_aload_n (pc := 68) 0 rfl rfl dX7_readsHead_68 ?_
    refine s_getr (pc := 69) (b := 57) fl_X7_28 rfl rfl rfl dX7_readsHead_69 ?_
    refine s_iconst (pc := 72) (k_i4N) dX7_readsHead_72 ?_
    refine s_aload_n (pc := 73) 0 rfl rfl dX7_readsHead_73 ?_
    refine s_getr (pc := 74) (b := 57) fl_X7_28 rfl rfl rfl dX7_readsHead_74 ?_
    refine s_iconst (pc := 77) (k_i2N) dX7_readsHead_77 ?_
    refine s_ialdE (pc := 78) (_) rfl rfl (by omega) (show _ = (fvM f m (fgS f m 0 (fgS f m 0 (sk f m 0, false)))) from rdH_d (by decide)) dX7_readsHead_78 ?_
    refine s_iast (pc := 79) (_) rfl rfl (by omega) dX7_readsHead_79 ?_
    rw [rdH_ud (by decide)]
    refine s_aload_n (pc := 80) 0 rfl rfl dX7_readsHead_80 ?_
    refine s_iload_n (pc := 81) 1 rfl rfl dX7_readsHead_81 ?_
    refine s_cvn1 (pc := 82) (c_X7_skips (s := (fgS f m 1 (fgS f m 0 (fgS f m 0 (sk f m 0, false))))) ht hz hm hf l3) ml_X7_103 mw_X7_skips rfl (by decide) (Nat.le_of_ble_eq_true rfl) dX7_readsHead_82 ?_
    refine s_vret (pc := 85) dX7_readsHead_85 (PostE.of hp ?_ ?_)
    · rfl
    · rfl
  · exfalso; exact h0 ((lk_eq (by decide)).mp c_13)

def hd0 (f : Nat → Int32) (m : Nat) : Nat × Bool := if sk f m 0 < m ∧ f (sk f m 0) = nI 104 then (sk f m 0 + 1, true) else (sk f m 0, false)
def hdD (f : Nat → Int32) (m : Nat) (d : Nat → Int32) : Nat → Int32 := ud (ud (ud d 1 (nI 10 * fvM f m (hd0 f m) + fvM f m (fgS f m 0 (hd0 f m)))) 2 (fvM f m (fgS f m 0 (fgS f m 0 (hd0 f m))))) 4 (fvM f m (fgS f m 0 (fgS f m 0 (hd0 f m))))
theorem c_X7_readsHead {t m : Nat} {d : Nat → Int32} {f : Nat → Int32} {h : Hp} (ht : t < 4) (hz : h.1 54 t = nI m) (hm : m ≤ 60) (hf : ∀ j, j < 60 → h.1 55 (60 * t + j) = f j) : CT 4 yX7_readsHead cX7_readsHead 2 none [.ref 50, .int (nI t)] (rdH h d (0, true)) none (rdH h (hdD f m d) (skS f m (hdS f m))) := by
  unfold hdD hdS hd0
  by_cases h0 : sk f m 0 < m ∧ f (sk f m 0) = nI 104
  · rw [if_pos h0]; exact c_X7_rhT ht hz hm hf h0
  · rw [if_neg h0]; exact c_X7_rhF ht hz hm hf h0

set_option maxRecDepth 20000 in
theorem c_X7_rsA {n q : Nat} {t m : Nat} {d : Nat → Int32} {f : Nat → Int32} {h : Hp} (ht : t < 4) (hz : h.1 54 t = nI m) (hm : m ≤ 60) (hf : ∀ j, j < 60 → h.1 55 (60 * t + j) = f j) (hs : q ≤ m) (hn : d 0 = nI n) (hn7 : n ≤ 7) (h0 : ¬ (q < m ∧ kdN (f q) < 6)) : CT 4 yX7_readsShip cX7_readsShip 4 none [.ref 50, .int (nI t)] (rdH h d (q, true)) (none) (rdH h d (q, false)) := by
  refine CT.of (own := RX7) rfl (by decide) ro_v [.ref 50, .int (nI t), .null, .null] rfl (Nat.le_of_ble_eq_true rfl) (fun E hp => ?_)
  refine s_aload_n (pc := 0) 0 rfl rfl dX7_readsShip_0 ?_
  refine s_iload_n (pc := 1) 1 rfl rfl dX7_readsShip_1 ?_
  refine s_cvi1 (pc := 2) (c_X7_look (s := (q, true)) ht hz hm hf hs) ml_X7_97 mw_X7_look rfl (by decide) (Nat.le_of_ble_eq_true rfl) dX7_readsShip_2 ?_
  refine s_csi1 (pc := 5) (c_X7_kindOfF (fun z => h0 ((lk_kd kd_z.2).mp z))) ml_X7_110 ms_X7_kindOf (by decide) (Nat.le_of_ble_eq_true rfl) dX7_readsShip_5 ?_
  refine s_istore_n (pc := 8) 2 rfl (by decide) rfl dX7_readsShip_8 ?_
  refine s_aload_n (pc := 9) 0 rfl rfl dX7_readsShip_9 ?_
  refine s_iload_n (pc := 10) 2 rfl rfl dX7_readsShip_10 ?_
  refine s_bipush (pc := 11) (k_bm9) dX7_readsShip_11 ?_
  refine s_icmp_eq (pc := 13) 31 dX7_readsShip_13 (by decide) (fun c_13 => ?_) (fun c_13 => ?_)
  · refine s_iconst (pc := 31) (k_i0N) dX7_readsShip_31 ?_
    refine s_putz (pc := 32) ⟨by rfl, by rfl⟩ fl_X7_93 fw_7_20 rfl rfl dX7_readsShip_32 ?_
    rw [rdH_w0]
    refine s_aload_n (pc := 35) 0 rfl rfl dX7_readsShip_35 ?_
    refine s_dup (pc := 36) rfl dX7_readsShip_36 ?_
    refine s_getiE (pc := 37) fl_X7_90 rfl rfl (show _ = nI (q) from rdH_q) dX7_readsShip_37 ?_
    refine s_aload_n (pc := 40) 0 rfl rfl dX7_readsShip_40 ?_
    refine s_getzE (pc := 41) fl_X7_93 rfl rfl rdH_F dX7_readsShip_41 ?_
    refine s_if_eqF (pc := 44) 51 dX7_readsShip_44 (by decide) ?_
    refine s_iconst (pc := 51) (k_i0N) dX7_readsShip_51 ?_
    refine s_iaddN (pc := 52) dX7_readsShip_52 ?_
    refine s_puti (pc := 53) fl_X7_90 fw_7_19 rfl rfl dX7_readsShip_53 ?_
    rw [rdH_uq]
    refine s_bipush (pc := 56) (k_b7N) dX7_readsShip_56 ?_
    refine s_bipush (pc := 58) (k_b8N) dX7_readsShip_58 ?_
    refine s_aload_n (pc := 60) 0 rfl rfl dX7_readsShip_60 ?_
    refine s_getr (pc := 61) (b := 57) fl_X7_28 rfl rfl rfl dX7_readsShip_61 ?_
    refine s_iconst (pc := 64) (k_i0N) dX7_readsShip_64 ?_
    refine s_ialdN (pc := 65) (_) rfl rfl (by omega) ((rdH_d (by decide)).trans hn) dX7_readsShip_65 ?_
    refine s_bipush (pc := 66) (k_b6N) dX7_readsShip_66 ?_
    refine s_icmp_geN (pc := 68) (by omega) (by omega) 80 dX7_readsShip_68 (by decide) (fun c_68 => ?_) (fun c_68 => ?_)
    · refine s_iconst (pc := 80) (k_i0N) dX7_readsShip_80 ?_
      refine s_imulN (pc := 81) dX7_readsShip_81 ?_
      refine s_iaddN (pc := 82) dX7_readsShip_82 ?_
      refine s_istore_n (pc := 83) 3 rfl (by decide) rfl dX7_readsShip_83 ?_
      refine s_aload_n (pc := 84) 0 rfl rfl dX7_readsShip_84 ?_
      refine s_getzE (pc := 85) fl_X7_93 rfl rfl rdH_F dX7_readsShip_85 ?_
      refine s_if_eqF (pc := 88) 174 dX7_readsShip_88 (by decide) ?_
      refine s_aload_n (pc := 174) 0 rfl rfl dX7_readsShip_174 ?_
      refine s_iload_n (pc := 175) 1 rfl rfl dX7_readsShip_175 ?_
      refine s_cvn1 (pc := 176) (c_X7_skips (s := (q, false)) ht hz hm hf hs) ml_X7_103 mw_X7_skips rfl (by decide) (Nat.le_of_ble_eq_true rfl) dX7_readsShip_176 ?_
      refine s_vret (pc := 179) dX7_readsShip_179 (PostE.of hp ?_ ?_)
      · rfl
      · rfl
    · refine s_aload_n (pc := 71) 0 rfl rfl dX7_readsShip_71 ?_
      refine s_getr (pc := 72) (b := 57) fl_X7_28 rfl rfl rfl dX7_readsShip_72 ?_
      refine s_iconst (pc := 75) (k_i0N) dX7_readsShip_75 ?_
      refine s_ialdN (pc := 76) (_) rfl rfl (by omega) ((rdH_d (by decide)).trans hn) dX7_readsShip_76 ?_
      refine s_goto (pc := 77) 81 dX7_readsShip_77 (by decide) ?_
      refine s_imulN (pc := 81) dX7_readsShip_81 ?_
      refine s_iaddN (pc := 82) dX7_readsShip_82 ?_
      refine s_istore_n (pc := 83) 3 rfl (by decide) rfl dX7_readsShip_83 ?_
      refine s_aload_n (pc := 84) 0 rfl rfl dX7_readsShip_84 ?_
      refine s_getzE (pc := 85) fl_X7_93 rfl rfl rdH_F dX7_readsShip_85 ?_
      refine s_if_eqF (pc := 88) 174 dX7_readsShip_88 (by decide) ?_
      refine s_aload_n (pc := 174) 0 rfl rfl dX7_readsShip_174 ?_
      refine s_iload_n (pc := 175) 1 rfl rfl dX7_readsShip_175 ?_
      refine s_cvn1 (pc := 176) (c_X7_skips (s := (q, false)) ht hz hm hf hs) ml_X7_103 mw_X7_skips rfl (by decide) (Nat.le_of_ble_eq_true rfl) dX7_readsShip_176 ?_
      refine s_vret (pc := 179) dX7_readsShip_179 (PostE.of hp ?_ ?_)
      · rfl
      · rfl
  · exfalso; exact c_13 rfl

set_option maxRecDepth 20000 in
theorem c_X7_rsB {n q : Nat} {t m : Nat} {d : Nat → Int32} {f : Nat → Int32} {h : Hp} (ht : t < 4) (hz : h.1 54 t = nI m) (hm : m ≤ 60) (hf : ∀ j, j < 60 → h.1 55 (60 * t + j) = f j) (hs : q ≤ m) (hn : d 0 = nI n) (hn7 : n ≤ 7) (h0 : q < m ∧ kdN (f q) < 6) (h6 : ¬ n < 6) : CT 4 yX7_readsShip cX7_readsShip 4 none [.ref 50, .int (nI t)] (rdH h d (q, true)) (none) (rdH h d (q, false)) := by
  refine CT.of (own := RX7) rfl (by decide) ro_v [.ref 50, .int (nI t), .null, .null] rfl (Nat.le_of_ble_eq_true rfl) (fun E hp => ?_)
  refine s_aload_n (pc := 0) 0 rfl rfl dX7_readsShip_0 ?_
  refine s_iload_n (pc := 1) 1 rfl rfl dX7_readsShip_1 ?_
  refine s_cvi1 (pc := 2) (c_X7_look (s := (q, true)) ht hz hm hf hs) ml_X7_97 mw_X7_look rfl (by decide) (Nat.le_of_ble_eq_true rfl) dX7_readsShip_2 ?_
  refine s_csi1 (pc := 5) (c_X7_kindOfT ((lk_kd kd_z.2).mpr h0)) ml_X7_110 ms_X7_kindOf (by decide) (Nat.le_of_ble_eq_true rfl) dX7_readsShip_5 ?_
  refine s_istore_n (pc := 8) 2 rfl (by decide) rfl dX7_readsShip_8 ?_
  refine s_aload_n (pc := 9) 0 rfl rfl dX7_readsShip_9 ?_
  refine s_iload_n (pc := 10) 2 rfl rfl dX7_readsShip_10 ?_
  refine s_bipush (pc := 11) (k_bm9) dX7_readsShip_11 ?_
  refine s_icmp_eq (pc := 13) 31 dX7_readsShip_13 (by decide) (fun c_13 => ?_) (fun c_13 => ?_)
  · exfalso; exact nI_n9 (kd_le _) c_13
  · refine s_aload_n (pc := 16) 0 rfl rfl dX7_readsShip_16 ?_
    refine s_getr (pc := 17) (b := 57) fl_X7_28 rfl rfl rfl dX7_readsShip_17 ?_
    refine s_iconst (pc := 20) (k_i0N) dX7_readsShip_20 ?_
    refine s_ialdN (pc := 21) (_) rfl rfl (by omega) ((rdH_d (by decide)).trans hn) dX7_readsShip_21 ?_
    refine s_bipush (pc := 22) (k_b6N) dX7_readsShip_22 ?_
    refine s_icmp_geN (pc := 24) (by omega) (by omega) 31 dX7_readsShip_24 (by decide) (fun c_24 => ?_) (fun c_24 => ?_)
    · refine s_iconst (pc := 31) (k_i0N) dX7_readsShip_31 ?_
      refine s_putz (pc := 32) ⟨by rfl, by rfl⟩ fl_X7_93 fw_7_20 rfl rfl dX7_readsShip_32 ?_
      rw [rdH_w0]
      refine s_aload_n (pc := 35) 0 rfl rfl dX7_readsShip_35 ?_
      refine s_dup (pc := 36) rfl dX7_readsShip_36 ?_
      refine s_getiE (pc := 37) fl_X7_90 rfl rfl (show _ = nI (q) from rdH_q) dX7_readsShip_37 ?_
      refine s_aload_n (pc := 40) 0 rfl rfl dX7_readsShip_40 ?_
      refine s_getzE (pc := 41) fl_X7_93 rfl rfl rdH_F dX7_readsShip_41 ?_
      refine s_if_eqF (pc := 44) 51 dX7_readsShip_44 (by decide) ?_
      refine s_iconst (pc := 51) (k_i0N) dX7_readsShip_51 ?_
      refine s_iaddN (pc := 52) dX7_readsShip_52 ?_
      refine s_puti (pc := 53) fl_X7_90 fw_7_19 rfl rfl dX7_readsShip_53 ?_
      rw [rdH_uq]
      refine s_bipush (pc := 56) (k_b7N) dX7_readsShip_56 ?_
      refine s_bipush (pc := 58) (k_b8N) dX7_readsShip_58 ?_
      refine s_aload_n (pc := 60) 0 rfl rfl dX7_readsShip_60 ?_
      refine s_getr (pc := 61) (b := 57) fl_X7_28 rfl rfl rfl dX7_readsShip_61 ?_
      refine s_iconst (pc := 64) (k_i0N) dX7_readsShip_64 ?_
      refine s_ialdN (pc := 65) (_) rfl rfl (by omega) ((rdH_d (by decide)).trans hn) dX7_readsShip_65 ?_
      refine s_bipush (pc := 66) (k_b6N) dX7_readsShip_66 ?_
      refine s_icmp_geN (pc := 68) (by omega) (by omega) 80 dX7_readsShip_68 (by decide) (fun c_68 => ?_) (fun c_68 => ?_)
      · refine s_iconst (pc := 80) (k_i0N) dX7_readsShip_80 ?_
        refine s_imulN (pc := 81) dX7_readsShip_81 ?_
        refine s_iaddN (pc := 82) dX7_readsShip_82 ?_
        refine s_istore_n (pc := 83) 3 rfl (by decide) rfl dX7_readsShip_83 ?_
        refine s_aload_n (pc := 84) 0 rfl rfl dX7_readsShip_84 ?_
        refine s_getzE (pc := 85) fl_X7_93 rfl rfl rdH_F dX7_readsShip_85 ?_
        refine s_if_eqF (pc := 88) 174 dX7_readsShip_88 (by decide) ?_
        refine s_aload_n (pc := 174) 0 rfl rfl dX7_readsShip_174 ?_
        refine s_iload_n (pc := 175) 1 rfl rfl dX7_readsShip_175 ?_
        refine s_cvn1 (pc := 176) (c_X7_skips (s := (q, false)) ht hz hm hf hs) ml_X7_103 mw_X7_skips rfl (by decide) (Nat.le_of_ble_eq_true rfl) dX7_readsShip_176 ?_
        refine s_vret (pc := 179) dX7_readsShip_179 (PostE.of hp ?_ ?_)
        · rfl
        · rfl
      · exfalso; omega
    · exfalso; omega

set_option maxRecDepth 20000 in
theorem c_X7_rsT {n q : Nat} {t m : Nat} {d : Nat → Int32} {f : Nat → Int32} {h : Hp} (ht : t < 4) (hz : h.1 54 t = nI m) (hm : m ≤ 60) (hf : ∀ j, j < 60 → h.1 55 (60 * t + j) = f j) (hs : q ≤ m) (hn : d 0 = nI n) (hn7 : n ≤ 7) (h0 : q < m ∧ kdN (f q) < 6 ∧ n < 6) (h5 : (fgS f m 0 (fgS f m 0 (fgS f m 0 (fgS f m 0 (fgS f m 0 (q + 1, true)))))).2 = true) : CT 4 yX7_readsShip cX7_readsShip 4 none [.ref 50, .int (nI t)] (rdH h d (q, true)) (none) (rdH h (ud (ud (ud (ud (ud (ud d (7 + 8 * n) (nI (kdN (f q)))) (7 + 8 * n + 1) (nI 10 * fvM f m (q + 1, true) + fvM f m (fgS f m 0 (q + 1, true)))) (7 + 8 * n + 2) (fvM f m (fgS f m 0 (fgS f m 0 (q + 1, true))))) (7 + 8 * n + 3) (fvM f m (fgS f m 0 (fgS f m 0 (fgS f m 0 (q + 1, true)))))) (7 + 8 * n + 4) (fvM f m (fgS f m 0 (fgS f m 0 (fgS f m 0 (fgS f m 0 (q + 1, true))))))) 0 (nI (n + 1))) (skS f m (fgS f m 0 (fgS f m 0 (fgS f m 0 (fgS f m 0 (fgS f m 0 (q + 1, true)))))))) := by
  obtain ⟨k0, k1, n6⟩ := h0
  have ek : lkN f m q (-1000) = f q := if_pos k0
  have l0 : (q + 1, true).1 ≤ m := k0
  have l1 : (fgS f m 0 (q + 1, true)).1 ≤ m := fg_le l0
  have l2 : (fgS f m 0 (fgS f m 0 (q + 1, true))).1 ≤ m := fg_le l1
  have l3 : (fgS f m 0 (fgS f m 0 (fgS f m 0 (q + 1, true)))).1 ≤ m := fg_le l2
  have l4 : (fgS f m 0 (fgS f m 0 (fgS f m 0 (fgS f m 0 (q + 1, true))))).1 ≤ m := fg_le l3
  have l5 : (fgS f m 0 (fgS f m 0 (fgS f m 0 (fgS f m 0 (fgS f m 0 (q + 1, true)))))).1 ≤ m := fg_le l4
  refine CT.of (own := RX7) rfl (by decide) ro_v [.ref 50, .int (nI t), .null, .null] rfl (Nat.le_of_ble_eq_true rfl) (fun E hp => ?_)
  refine s_aload_n (pc := 0) 0 rfl rfl dX7_readsShip_0 ?_
  refine s_iload_n (pc := 1) 1 rfl rfl dX7_readsShip_1 ?_
  refine s_cvi1 (pc := 2) (c_X7_look (s := (q, true)) ht hz hm hf hs) ml_X7_97 mw_X7_look rfl (by decide) (Nat.le_of_ble_eq_true rfl) dX7_readsShip_2 ?_
  refine WW.top ek ?_
  refine s_csi1 (pc := 5) (c_X7_kindOfT k1) ml_X7_110 ms_X7_kindOf (by decide) (Nat.le_of_ble_eq_true rfl) dX7_readsShip_5 ?_
  refine s_istore_n (pc := 8) 2 rfl (by decide) rfl dX7_readsShip_8 ?_
  refine s_aload_n (pc := 9) 0 rfl rfl dX7_readsShip_9 ?_
  refine s_iload_n (pc := 10) 2 rfl rfl dX7_readsShip_10 ?_
  refine s_bipush (pc := 11) (k_bm9) dX7_readsShip_11 ?_
  refine s_icmp_eq (pc := 13) 31 dX7_readsShip_13 (by decide) (fun c_13 => ?_) (fun c_13 => ?_)
  · exfalso; exact nI_n9 (kd_le _) c_13
  · refine s_aload_n (pc := 16) 0 rfl rfl dX7_readsShip_16 ?_
    refine s_getr (pc := 17) (b := 57) fl_X7_28 rfl rfl rfl dX7_readsShip_17 ?_
    refine s_iconst (pc := 20) (k_i0N) dX7_readsShip_20 ?_
    refine s_ialdN (pc := 21) (_) rfl rfl (by omega) ((rdH_d (by decide)).trans hn) dX7_readsShip_21 ?_
    refine s_bipush (pc := 22) (k_b6N) dX7_readsShip_22 ?_
    refine s_icmp_geN (pc := 24) (by omega) (by omega) 31 dX7_readsShip_24 (by decide) (fun c_24 => ?_) (fun c_24 => ?_)
    · exfalso; omega
    · refine s_iconst (pc := 27) (k_i1N) dX7_readsShip_27 ?_
      refine s_goto (pc := 28) 32 dX7_readsShip_28 (by decide) ?_
      refine s_putz (pc := 32) ⟨by rfl, by rfl⟩ fl_X7_93 fw_7_20 rfl rfl dX7_readsShip_32 ?_
      rw [rdH_w1]
      refine s_aload_n (pc := 35) 0 rfl rfl dX7_readsShip_35 ?_
      refine s_dup (pc := 36) rfl dX7_readsShip_36 ?_
      refine s_getiE (pc := 37) fl_X7_90 rfl rfl (show _ = nI (q) from rdH_q) dX7_readsShip_37 ?_
      refine s_aload_n (pc := 40) 0 rfl rfl dX7_readsShip_40 ?_
      refine s_getzE (pc := 41) fl_X7_93 rfl rfl rdH_T dX7_readsShip_41 ?_
      refine s_if_eqT (pc := 44) 51 dX7_readsShip_44 (by decide) ?_
      refine s_iconst (pc := 47) (k_i1N) dX7_readsShip_47 ?_
      refine s_goto (pc := 48) 52 dX7_readsShip_48 (by decide) ?_
      refine s_iaddN (pc := 52) dX7_readsShip_52 ?_
      refine s_puti (pc := 53) fl_X7_90 fw_7_19 rfl rfl dX7_readsShip_53 ?_
      rw [rdH_uq]
      refine s_bipush (pc := 56) (k_b7N) dX7_readsShip_56 ?_
      refine s_bipush (pc := 58) (k_b8N) dX7_readsShip_58 ?_
      refine s_aload_n (pc := 60) 0 rfl rfl dX7_readsShip_60 ?_
      refine s_getr (pc := 61) (b := 57) fl_X7_28 rfl rfl rfl dX7_readsShip_61 ?_
      refine s_iconst (pc := 64) (k_i0N) dX7_readsShip_64 ?_
      refine s_ialdN (pc := 65) (_) rfl rfl (by omega) ((rdH_d (by decide)).trans hn) dX7_readsShip_65 ?_
      refine s_bipush (pc := 66) (k_b6N) dX7_readsShip_66 ?_
      refine s_icmp_geN (pc := 68) (by omega) (by omega) 80 dX7_readsShip_68 (by decide) (fun c_68 => ?_) (fun c_68 => ?_)
      · exfalso; omega
      · refine s_aload_n (pc := 71) 0 rfl rfl dX7_readsShip_71 ?_
        refine s_getr (pc := 72) (b := 57) fl_X7_28 rfl rfl rfl dX7_readsShip_72 ?_
        refine s_iconst (pc := 75) (k_i0N) dX7_readsShip_75 ?_
        refine s_ialdN (pc := 76) (_) rfl rfl (by omega) ((rdH_d (by decide)).trans hn) dX7_readsShip_76 ?_
        refine s_goto (pc := 77) 81 dX7_readsShip_77 (by decide) ?_
        refine s_imulN (pc := 81) dX7_readsShip_81 ?_
        refine s_iaddN (pc := 82) dX7_readsShip_82 ?_
        refine s_istore_n (pc := 83) 3 rfl (by decide) rfl dX7_readsShip_83 ?_
        refine s_aload_n (pc := 84) 0 rfl rfl dX7_readsShip_84 ?_
        refine s_getzE (pc := 85) fl_X7_93 rfl rfl rdH_T dX7_readsShip_85 ?_
        refine s_if_eqT (pc := 88) 174 dX7_readsShip_88 (by decide) ?_
        refine s_aload_n (pc := 91) 0 rfl rfl dX7_readsShip_91 ?_
        refine s_getr (pc := 92) (b := 57) fl_X7_28 rfl rfl rfl dX7_readsShip_92 ?_
        refine s_iload_n (pc := 95) 3 rfl rfl dX7_readsShip_95 ?_
        refine s_iload_n (pc := 96) 2 rfl rfl dX7_readsShip_96 ?_
        refine s_iast (pc := 97) (_) rfl rfl (by omega) dX7_readsShip_97 ?_
        rw [rdH_ud (by omega)]
        refine s_aload_n (pc := 98) 0 rfl rfl dX7_readsShip_98 ?_
        refine s_getr (pc := 99) (b := 57) fl_X7_28 rfl rfl rfl dX7_readsShip_99 ?_
        refine s_iload_n (pc := 102) 3 rfl rfl dX7_readsShip_102 ?_
        refine s_iconst (pc := 103) (k_i1N) dX7_readsShip_103 ?_
        refine s_iaddN (pc := 104) dX7_readsShip_104 ?_
        refine s_aload_n (pc := 105) 0 rfl rfl dX7_readsShip_105 ?_
        refine s_iload_n (pc := 106) 1 rfl rfl dX7_readsShip_106 ?_
        refine s_cvi1 (pc := 107) (c_X7_years (s := (q + 1, true)) ht hz hm hf l0) ml_X7_107 mw_X7_years rfl (by decide) (Nat.le_of_ble_eq_true rfl) dX7_readsShip_107 ?_
        refine s_iast (pc := 110) (_) rfl rfl (by omega) dX7_readsShip_110 ?_
        rw [rdH_ud (by omega)]
        refine s_aload_n (pc := 111) 0 rfl rfl dX7_readsShip_111 ?_
        refine s_getr (pc := 112) (b := 57) fl_X7_28 rfl rfl rfl dX7_readsShip_112 ?_
        refine s_iload_n (pc := 115) 3 rfl rfl dX7_readsShip_115 ?_
        refine s_iconst (pc := 116) (k_i2N) dX7_readsShip_116 ?_
        refine s_iaddN (pc := 117) dX7_readsShip_117 ?_
        refine s_aload_n (pc := 118) 0 rfl rfl dX7_readsShip_118 ?_
        refine s_iload_n (pc := 119) 1 rfl rfl dX7_readsShip_119 ?_
        refine s_iconst (pc := 120) (k_i0N) dX7_readsShip_120 ?_
        refine s_cvi2 (pc := 121) (c_X7_figure (s := (fgS f m 0 (fgS f m 0 (q + 1, true)))) ht hz hm hf l2 (Nat.zero_le _)) ml_X7_100 mw_X7_figure rfl (by decide) (Nat.le_of_ble_eq_true rfl) dX7_readsShip_121 ?_
        refine s_iast (pc := 124) (_) rfl rfl (by omega) dX7_readsShip_124 ?_
        rw [rdH_ud (by omega)]
        refine s_aload_n (pc := 125) 0 rfl rfl dX7_readsShip_125 ?_
        refine s_getr (pc := 126) (b := 57) fl_X7_28 rfl rfl rfl dX7_readsShip_126 ?_
        refine s_iload_n (pc := 129) 3 rfl rfl dX7_readsShip_129 ?_
        refine s_iconst (pc := 130) (k_i3N) dX7_readsShip_130 ?_
        refine s_iaddN (pc := 131) dX7_readsShip_131 ?_
        refine s_aload_n (pc := 132) 0 rfl rfl dX7_readsShip_132 ?_
        refine s_iload_n (pc := 133) 1 rfl rfl dX7_readsShip_133 ?_
        refine s_iconst (pc := 134) (k_i0N) dX7_readsShip_134 ?_
        refine s_cvi2 (pc := 135) (c_X7_figure (s := (fgS f m 0 (fgS f m 0 (fgS f m 0 (q + 1, true))))) ht hz hm hf l3 (Nat.zero_le _)) ml_X7_100 mw_X7_figure rfl (by decide) (Nat.le_of_ble_eq_true rfl) dX7_readsShip_135 ?_
        refine s_iast (pc := 138) (_) rfl rfl (by omega) dX7_readsShip_138 ?_
        rw [rdH_ud (by omega)]
        refine s_aload_n (pc := 139) 0 rfl rfl dX7_readsShip_139 ?_
        refine s_getr (pc := 140) (b := 57) fl_X7_28 rfl rfl rfl dX7_readsShip_140 ?_
        refine s_iload_n (pc := 143) 3 rfl rfl dX7_readsShip_143 ?_
        refine s_iconst (pc := 144) (k_i4N) dX7_readsShip_144 ?_
        refine s_iaddN (pc := 145) dX7_readsShip_145 ?_
        refine s_aload_n (pc := 146) 0 rfl rfl dX7_readsShip_146 ?_
        refine s_iload_n (pc := 147) 1 rfl rfl dX7_readsShip_147 ?_
        refine s_iconst (pc := 148) (k_i0N) dX7_readsShip_148 ?_
        refine s_cvi2 (pc := 149) (c_X7_figure (s := (fgS f m 0 (fgS f m 0 (fgS f m 0 (fgS f m 0 (q + 1, true)))))) ht hz hm hf l4 (Nat.zero_le _)) ml_X7_100 mw_X7_figure rfl (by decide) (Nat.le_of_ble_eq_true rfl) dX7_readsShip_149 ?_
        refine s_iast (pc := 152) (_) rfl rfl (by omega) dX7_readsShip_152 ?_
        rw [rdH_ud (by omega)]
        refine s_aload_n (pc := 153) 0 rfl rfl dX7_readsShip_153 ?_
        refine s_getr (pc := 154) (b := 57) fl_X7_28 rfl rfl rfl dX7_readsShip_154 ?_
        refine s_iconst (pc := 157) (k_i0N) dX7_readsShip_157 ?_
        refine s_dup2 (pc := 158) rfl rfl dX7_readsShip_158 ?_
        refine s_ialdN (pc := 159) (_) rfl rfl (by omega) (show _ = nI n from by rw [rdH_d (by decide)]; simp only [ud]; (repeat rw [if_neg (by omega)]); exact hn) dX7_readsShip_159 ?_
        refine s_aload_n (pc := 160) 0 rfl rfl dX7_readsShip_160 ?_
        refine s_getzE (pc := 161) fl_X7_93 rfl rfl (rdH_Tt h5) dX7_readsShip_161 ?_
        refine s_if_eqT (pc := 164) 171 dX7_readsShip_164 (by decide) ?_
        refine s_iconst (pc := 167) (k_i1N) dX7_readsShip_167 ?_
        refine s_goto (pc := 168) 172 dX7_readsShip_168 (by decide) ?_
        refine s_iaddN (pc := 172) dX7_readsShip_172 ?_
        refine s_iast (pc := 173) (_) rfl rfl (by omega) dX7_readsShip_173 ?_
        rw [rdH_ud (by omega)]
        refine s_aload_n (pc := 174) 0 rfl rfl dX7_readsShip_174 ?_
        refine s_iload_n (pc := 175) 1 rfl rfl dX7_readsShip_175 ?_
        refine s_cvn1 (pc := 176) (c_X7_skips (s := (fgS f m 0 (fgS f m 0 (fgS f m 0 (fgS f m 0 (fgS f m 0 (q + 1, true))))))) ht hz hm hf l5) ml_X7_103 mw_X7_skips rfl (by decide) (Nat.le_of_ble_eq_true rfl) dX7_readsShip_176 ?_
        refine s_vret (pc := 179) dX7_readsShip_179 (PostE.of hp ?_ ?_)
        · rfl
        · rfl

set_option maxRecDepth 20000 in
theorem c_X7_rsF {n q : Nat} {t m : Nat} {d : Nat → Int32} {f : Nat → Int32} {h : Hp} (ht : t < 4) (hz : h.1 54 t = nI m) (hm : m ≤ 60) (hf : ∀ j, j < 60 → h.1 55 (60 * t + j) = f j) (hs : q ≤ m) (hn : d 0 = nI n) (hn7 : n ≤ 7) (h0 : q < m ∧ kdN (f q) < 6 ∧ n < 6) (h5 : (fgS f m 0 (fgS f m 0 (fgS f m 0 (fgS f m 0 (fgS f m 0 (q + 1, true)))))).2 = false) : CT 4 yX7_readsShip cX7_readsShip 4 none [.ref 50, .int (nI t)] (rdH h d (q, true)) (none) (rdH h (ud (ud (ud (ud (ud (ud d (7 + 8 * n) (nI (kdN (f q)))) (7 + 8 * n + 1) (nI 10 * fvM f m (q + 1, true) + fvM f m (fgS f m 0 (q + 1, true)))) (7 + 8 * n + 2) (fvM f m (fgS f m 0 (fgS f m 0 (q + 1, true))))) (7 + 8 * n + 3) (fvM f m (fgS f m 0 (fgS f m 0 (fgS f m 0 (q + 1, true)))))) (7 + 8 * n + 4) (fvM f m (fgS f m 0 (fgS f m 0 (fgS f m 0 (fgS f m 0 (q + 1, true))))))) 0 (nI (n + 0))) (skS f m (fgS f m 0 (fgS f m 0 (fgS f m 0 (fgS f m 0 (fgS f m 0 (q + 1, true)))))))) := by
  obtain ⟨k0, k1, n6⟩ := h0
  have ek : lkN f m q (-1000) = f q := if_pos k0
  have l0 : (q + 1, true).1 ≤ m := k0
  have l1 : (fgS f m 0 (q + 1, true)).1 ≤ m := fg_le l0
  have l2 : (fgS f m 0 (fgS f m 0 (q + 1, true))).1 ≤ m := fg_le l1
  have l3 : (fgS f m 0 (fgS f m 0 (fgS f m 0 (q + 1, true)))).1 ≤ m := fg_le l2
  have l4 : (fgS f m 0 (fgS f m 0 (fgS f m 0 (fgS f m 0 (q + 1, true))))).1 ≤ m := fg_le l3
  have l5 : (fgS f m 0 (fgS f m 0 (fgS f m 0 (fgS f m 0 (fgS f m 0 (q + 1, true)))))).1 ≤ m := fg_le l4
  refine CT.of (own := RX7) rfl (by decide) ro_v [.ref 50, .int (nI t), .null, .null] rfl (Nat.le_of_ble_eq_true rfl) (fun E hp => ?_)
  refine s_aload_n (pc := 0) 0 rfl rfl dX7_readsShip_0 ?_
  refine s_iload_n (pc := 1) 1 rfl rfl dX7_readsShip_1 ?_
  refine s_cvi1 (pc := 2) (c_X7_look (s := (q, true)) ht hz hm hf hs) ml_X7_97 mw_X7_look rfl (by decide) (Nat.le_of_ble_eq_true rfl) dX7_readsShip_2 ?_
  refine WW.top ek ?_
  refine s_csi1 (pc := 5) (c_X7_kindOfT k1) ml_X7_110 ms_X7_kindOf (by decide) (Nat.le_of_ble_eq_true rfl) dX7_readsShip_5 ?_
  refine s_istore_n (pc := 8) 2 rfl (by decide) rfl dX7_readsShip_8 ?_
  refine s_aload_n (pc := 9) 0 rfl rfl dX7_readsShip_9 ?_
  refine s_iload_n (pc := 10) 2 rfl rfl dX7_readsShip_10 ?_
  refine s_bipush (pc := 11) (k_bm9) dX7_readsShip_11 ?_
  refine s_icmp_eq (pc := 13) 31 dX7_readsShip_13 (by decide) (fun c_13 => ?_) (fun c_13 => ?_)
  · exfalso; exact nI_n9 (kd_le _) c_13
  · refine s_aload_n (pc := 16) 0 rfl rfl dX7_readsShip_16 ?_
    refine s_getr (pc := 17) (b := 57) fl_X7_28 rfl rfl rfl dX7_readsShip_17 ?_
    refine s_iconst (pc := 20) (k_i0N) dX7_readsShip_20 ?_
    refine s_ialdN (pc := 21) (_) rfl rfl (by omega) ((rdH_d (by decide)).trans hn) dX7_readsShip_21 ?_
    refine s_bipush (pc := 22) (k_b6N) dX7_readsShip_22 ?_
    refine s_icmp_geN (pc := 24) (by omega) (by omega) 31 dX7_readsShip_24 (by decide) (fun c_24 => ?_) (fun c_24 => ?_)
    · exfalso; omega
    · refine s_iconst (pc := 27) (k_i1N) dX7_readsShip_27 ?_
      refine s_goto (pc := 28) 32 dX7_readsShip_28 (by decide) ?_
      refine s_putz (pc := 32) ⟨by rfl, by rfl⟩ fl_X7_93 fw_7_20 rfl rfl dX7_readsShip_32 ?_
      rw [rdH_w1]
      refine s_aload_n (pc := 35) 0 rfl rfl dX7_readsShip_35 ?_
      refine s_dup (pc := 36) rfl dX7_readsShip_36 ?_
      refine s_getiE (pc := 37) fl_X7_90 rfl rfl (show _ = nI (q) from rdH_q) dX7_readsShip_37 ?_
      refine s_aload_n (pc := 40) 0 rfl rfl dX7_readsShip_40 ?_
      refine s_getzE (pc := 41) fl_X7_93 rfl rfl rdH_T dX7_readsShip_41 ?_
      refine s_if_eqT (pc := 44) 51 dX7_readsShip_44 (by decide) ?_
      refine s_iconst (pc := 47) (k_i1N) dX7_readsShip_47 ?_
      refine s_goto (pc := 48) 52 dX7_readsShip_48 (by decide) ?_
      refine s_iaddN (pc := 52) dX7_readsShip_52 ?_
      refine s_puti (pc := 53) fl_X7_90 fw_7_19 rfl rfl dX7_readsShip_53 ?_
      rw [rdH_uq]
      refine s_bipush (pc := 56) (k_b7N) dX7_readsShip_56 ?_
      refine s_bipush (pc := 58) (k_b8N) dX7_readsShip_58 ?_
      refine s_aload_n (pc := 60) 0 rfl rfl dX7_readsShip_60 ?_
      refine s_getr (pc := 61) (b := 57) fl_X7_28 rfl rfl rfl dX7_readsShip_61 ?_
      refine s_iconst (pc := 64) (k_i0N) dX7_readsShip_64 ?_
      refine s_ialdN (pc := 65) (_) rfl rfl (by omega) ((rdH_d (by decide)).trans hn) dX7_readsShip_65 ?_
      refine s_bipush (pc := 66) (k_b6N) dX7_readsShip_66 ?_
      refine s_icmp_geN (pc := 68) (by omega) (by omega) 80 dX7_readsShip_68 (by decide) (fun c_68 => ?_) (fun c_68 => ?_)
      · exfalso; omega
      · refine s_aload_n (pc := 71) 0 rfl rfl dX7_readsShip_71 ?_
        refine s_getr (pc := 72) (b := 57) fl_X7_28 rfl rfl rfl dX7_readsShip_72 ?_
        refine s_iconst (pc := 75) (k_i0N) dX7_readsShip_75 ?_
        refine s_ialdN (pc := 76) (_) rfl rfl (by omega) ((rdH_d (by decide)).trans hn) dX7_readsShip_76 ?_
        refine s_goto (pc := 77) 81 dX7_readsShip_77 (by decide) ?_
        refine s_imulN (pc := 81) dX7_readsShip_81 ?_
        refine s_iaddN (pc := 82) dX7_readsShip_82 ?_
        refine s_istore_n (pc := 83) 3 rfl (by decide) rfl dX7_readsShip_83 ?_
        refine s_aload_n (pc := 84) 0 rfl rfl dX7_readsShip_84 ?_
        refine s_getzE (pc := 85) fl_X7_93 rfl rfl rdH_T dX7_readsShip_85 ?_
        refine s_if_eqT (pc := 88) 174 dX7_readsShip_88 (by decide) ?_
        refine s_aload_n (pc := 91) 0 rfl rfl dX7_readsShip_91 ?_
        refine s_getr (pc := 92) (b := 57) fl_X7_28 rfl rfl rfl dX7_readsShip_92 ?_
        refine s_iload_n (pc := 95) 3 rfl rfl dX7_readsShip_95 ?_
        refine s_iload_n (pc := 96) 2 rfl rfl dX7_readsShip_96 ?_
        refine s_iast (pc := 97) (_) rfl rfl (by omega) dX7_readsShip_97 ?_
        rw [rdH_ud (by omega)]
        refine s_aload_n (pc := 98) 0 rfl rfl dX7_readsShip_98 ?_
        refine s_getr (pc := 99) (b := 57) fl_X7_28 rfl rfl rfl dX7_readsShip_99 ?_
        refine s_iload_n (pc := 102) 3 rfl rfl dX7_readsShip_102 ?_
        refine s_iconst (pc := 103) (k_i1N) dX7_readsShip_103 ?_
        refine s_iaddN (pc := 104) dX7_readsShip_104 ?_
        refine s_aload_n (pc := 105) 0 rfl rfl dX7_readsShip_105 ?_
        refine s_iload_n (pc := 106) 1 rfl rfl dX7_readsShip_106 ?_
        refine s_cvi1 (pc := 107) (c_X7_years (s := (q + 1, true)) ht hz hm hf l0) ml_X7_107 mw_X7_years rfl (by decide) (Nat.le_of_ble_eq_true rfl) dX7_readsShip_107 ?_
        refine s_iast (pc := 110) (_) rfl rfl (by omega) dX7_readsShip_110 ?_
        rw [rdH_ud (by omega)]
        refine s_aload_n (pc := 111) 0 rfl rfl dX7_readsShip_111 ?_
        refine s_getr (pc := 112) (b := 57) fl_X7_28 rfl rfl rfl dX7_readsShip_112 ?_
        refine s_iload_n (pc := 115) 3 rfl rfl dX7_readsShip_115 ?_
        refine s_iconst (pc := 116) (k_i2N) dX7_readsShip_116 ?_
        refine s_iaddN (pc := 117) dX7_readsShip_117 ?_
        refine s_aload_n (pc := 118) 0 rfl rfl dX7_readsShip_118 ?_
        refine s_iload_n (pc := 119) 1 rfl rfl dX7_readsShip_119 ?_
        refine s_iconst (pc := 120) (k_i0N) dX7_readsShip_120 ?_
        refine s_cvi2 (pc := 121) (c_X7_figure (s := (fgS f m 0 (fgS f m 0 (q + 1, true)))) ht hz hm hf l2 (Nat.zero_le _)) ml_X7_100 mw_X7_figure rfl (by decide) (Nat.le_of_ble_eq_true rfl) dX7_readsShip_121 ?_
        refine s_iast (pc := 124) (_) rfl rfl (by omega) dX7_readsShip_124 ?_
        rw [rdH_ud (by omega)]
        refine s_aload_n (pc := 125) 0 rfl rfl dX7_readsShip_125 ?_
        refine s_getr (pc := 126) (b := 57) fl_X7_28 rfl rfl rfl dX7_readsShip_126 ?_
        refine s_iload_n (pc := 129) 3 rfl rfl dX7_readsShip_129 ?_
        refine s_iconst (pc := 130) (k_i3N) dX7_readsShip_130 ?_
        refine s_iaddN (pc := 131) dX7_readsShip_131 ?_
        refine s_aload_n (pc := 132) 0 rfl rfl dX7_readsShip_132 ?_
        refine s_iload_n (pc := 133) 1 rfl rfl dX7_readsShip_133 ?_
        refine s_iconst (pc := 134) (k_i0N) dX7_readsShip_134 ?_
        refine s_cvi2 (pc := 135) (c_X7_figure (s := (fgS f m 0 (fgS f m 0 (fgS f m 0 (q + 1, true))))) ht hz hm hf l3 (Nat.zero_le _)) ml_X7_100 mw_X7_figure rfl (by decide) (Nat.le_of_ble_eq_true rfl) dX7_readsShip_135 ?_
        refine s_iast (pc := 138) (_) rfl rfl (by omega) dX7_readsShip_138 ?_
        rw [rdH_ud (by omega)]
        refine s_aload_n (pc := 139) 0 rfl rfl dX7_readsShip_139 ?_
        refine s_getr (pc := 140) (b := 57) fl_X7_28 rfl rfl rfl dX7_readsShip_140 ?_
        refine s_iload_n (pc := 143) 3 rfl rfl dX7_readsShip_143 ?_
        refine s_iconst (pc := 144) (k_i4N) dX7_readsShip_144 ?_
        refine s_iaddN (pc := 145) dX7_readsShip_145 ?_
        refine s_aload_n (pc := 146) 0 rfl rfl dX7_readsShip_146 ?_
        refine s_iload_n (pc := 147) 1 rfl rfl dX7_readsShip_147 ?_
        refine s_iconst (pc := 148) (k_i0N) dX7_readsShip_148 ?_
        refine s_cvi2 (pc := 149) (c_X7_figure (s := (fgS f m 0 (fgS f m 0 (fgS f m 0 (fgS f m 0 (q + 1, true)))))) ht hz hm hf l4 (Nat.zero_le _)) ml_X7_100 mw_X7_figure rfl (by decide) (Nat.le_of_ble_eq_true rfl) dX7_readsShip_149 ?_
        refine s_iast (pc := 152) (_) rfl rfl (by omega) dX7_readsShip_152 ?_
        rw [rdH_ud (by omega)]
        refine s_aload_n (pc := 153) 0 rfl rfl dX7_readsShip_153 ?_
        refine s_getr (pc := 154) (b := 57) fl_X7_28 rfl rfl rfl dX7_readsShip_154 ?_
        refine s_iconst (pc := 157) (k_i0N) dX7_readsShip_157 ?_
        refine s_dup2 (pc := 158) rfl rfl dX7_readsShip_158 ?_
        refine s_ialdN (pc := 159) (_) rfl rfl (by omega) (show _ = nI n from by rw [rdH_d (by decide)]; simp only [ud]; (repeat rw [if_neg (by omega)]); exact hn) dX7_readsShip_159 ?_
        refine s_aload_n (pc := 160) 0 rfl rfl dX7_readsShip_160 ?_
        refine s_getzE (pc := 161) fl_X7_93 rfl rfl (rdH_Ff h5) dX7_readsShip_161 ?_
        refine s_if_eqF (pc := 164) 171 dX7_readsShip_164 (by decide) ?_
        refine s_iconst (pc := 171) (k_i0N) dX7_readsShip_171 ?_
        refine s_iaddN (pc := 172) dX7_readsShip_172 ?_
        refine s_iast (pc := 173) (_) rfl rfl (by omega) dX7_readsShip_173 ?_
        rw [rdH_ud (by omega)]
        refine s_aload_n (pc := 174) 0 rfl rfl dX7_readsShip_174 ?_
        refine s_iload_n (pc := 175) 1 rfl rfl dX7_readsShip_175 ?_
        refine s_cvn1 (pc := 176) (c_X7_skips (s := (fgS f m 0 (fgS f m 0 (fgS f m 0 (fgS f m 0 (fgS f m 0 (q + 1, true))))))) ht hz hm hf l5) ml_X7_103 mw_X7_skips rfl (by decide) (Nat.le_of_ble_eq_true rfl) dX7_readsShip_176 ?_
        refine s_vret (pc := 179) dX7_readsShip_179 (PostE.of hp ?_ ?_)
        · rfl
        · rfl

def shD (f : Nat → Int32) (m : Nat) (d : Nat → Int32) (n q : Nat) : Nat → Int32 := if q < m ∧ kdN (f q) < 6 ∧ n < 6 then ud (ud (ud (ud (ud (ud d (7 + 8 * n) (nI (kdN (f q)))) (7 + 8 * n + 1) (nI 10 * fvM f m (q + 1, true) + fvM f m (fgS f m 0 (q + 1, true)))) (7 + 8 * n + 2) (fvM f m (fgS f m 0 (fgS f m 0 (q + 1, true))))) (7 + 8 * n + 3) (fvM f m (fgS f m 0 (fgS f m 0 (fgS f m 0 (q + 1, true)))))) (7 + 8 * n + 4) (fvM f m (fgS f m 0 (fgS f m 0 (fgS f m 0 (fgS f m 0 (q + 1, true))))))) 0 (nI (n + (if ((fgS f m 0 (fgS f m 0 (fgS f m 0 (fgS f m 0 (fgS f m 0 (q + 1, true))))))).2 = true then 1 else 0))) else d
theorem c_X7_readsShip {n q : Nat} {t m : Nat} {d : Nat → Int32} {f : Nat → Int32} {h : Hp} (ht : t < 4) (hz : h.1 54 t = nI m) (hm : m ≤ 60) (hf : ∀ j, j < 60 → h.1 55 (60 * t + j) = f j) (hs : q ≤ m) (hn : d 0 = nI n) (hn7 : n ≤ 7) : CT 4 yX7_readsShip cX7_readsShip 4 none [.ref 50, .int (nI t)] (rdH h d (q, true)) none (rdH h (shD f m d n q) (skS f m (shS f m n q))) := by
  unfold shD shS
  by_cases h0 : q < m ∧ kdN (f q) < 6 ∧ n < 6
  · rw [if_pos h0, if_pos h0]
    cases h5 : ((fgS f m 0 (fgS f m 0 (fgS f m 0 (fgS f m 0 (fgS f m 0 (q + 1, true))))))).2 with
    | true => rw [if_pos rfl]; exact c_X7_rsT ht hz hm hf hs hn hn7 h0 h5
    | false => rw [if_neg (by decide)]; exact c_X7_rsF ht hz hm hf hs hn hn7 h0 h5
  · rw [if_neg h0, if_neg h0, fg_n, fg_n, fg_n, fg_n, fg_n]
    by_cases h6 : q < m ∧ kdN (f q) < 6
    · exact c_X7_rsB ht hz hm hf hs hn hn7 h6 (fun z => h0 ⟨h6.1, h6.2, z⟩)
    · exact c_X7_rsA ht hz hm hf hs hn hn7 h6

theorem fv_v {f : Nat → Int32} {m low q : Nat} {b : Bool} (hl : low ≤ 9) (h : dgB f m low q = true) : fvM f m (q, b) = nI (dvN f q) := by
  obtain ⟨g0, g1, g2, g3⟩ := dg_v hl h
  show lkN f m q (-1000) - nI 48 = _
  unfold lkN
  rw [if_pos g0, g1, pk_sub (by omega), Nat.add_sub_cancel_left]
theorem hdD_v {f : Nat → Int32} {m : Nat} (hs : (hdS f m).2 = true) : hdS f m = (sk f m 0 + 4, true) ∧ sk f m 0 + 4 ≤ m ∧ ∀ j, hdD f m (fun _ => nI 0) j = nI (hdA f (sk f m 0) j) := by
  rcases hd_cs f m with ⟨h0, e⟩ | ⟨h0, h⟩
  · rw [e] at hs; exact absurd hs (by simp)
  rcases h with ⟨h1, e⟩ | ⟨h1, h⟩
  · rw [e] at hs; exact absurd hs (by simp)
  rcases h with ⟨h2, e⟩ | ⟨h2, h⟩
  · rw [e] at hs; exact absurd hs (by simp)
  rcases h with ⟨h3, e⟩ | ⟨h3, e⟩
  · rw [e] at hs; exact absurd hs (by simp)
  refine ⟨e, by have := dg_lt h3; omega, fun j => ?_⟩
  have e0 : hd0 f m = (sk f m 0 + 1, true) := if_pos h0
  unfold hdD hdA
  rw [e0, fg_t h1, fg_t h2, fv_v (Nat.zero_le _) h1, fv_v (Nat.zero_le _) h2, fv_v (by decide) h3, pk_mul, nI_add]
  simp only [ud, au]
  split
  · rfl
  · split
    · rfl
    · split <;> rfl
theorem shD_v {f : Nat → Int32} {m : Nat} {d : Nat → Int32} {a : Nat → Nat} {q : Nat} (hd : ∀ j, j < 215 → d j = nI (a j)) (hs : (shS f m (a 0) q).2 = true) : shS f m (a 0) q = (q + 6, true) ∧ q + 6 ≤ m ∧ a 0 < 6 ∧ ∀ j, j < 215 → shD f m d (a 0) q j = nI (shA f a q j) := by
  rcases sh_cs f m (a 0) q with ⟨h0, e⟩ | ⟨h0, h⟩
  · rw [e] at hs; exact absurd hs (by simp)
  rcases h with ⟨h1, e⟩ | ⟨h1, h⟩
  · rw [e] at hs; exact absurd hs (by simp)
  rcases h with ⟨h2, e⟩ | ⟨h2, h⟩
  · rw [e] at hs; exact absurd hs (by simp)
  rcases h with ⟨h3, e⟩ | ⟨h3, h⟩
  · rw [e] at hs; exact absurd hs (by simp)
  rcases h with ⟨h4, e⟩ | ⟨h4, h⟩
  · rw [e] at hs; exact absurd hs (by simp)
  rcases h with ⟨h5, e⟩ | ⟨h5, e⟩
  · rw [e] at hs; exact absurd hs (by simp)
  refine ⟨e, by have := dg_lt h5; omega, h0.2.2, fun j hj => ?_⟩
  unfold shD shA
  rw [if_pos h0, fg_t h1, fg_t h2, fg_t h3, fg_t h4, fg_t h5, if_pos rfl, fv_v (Nat.zero_le _) h1, fv_v (Nat.zero_le _) h2, fv_v (Nat.zero_le _) h3, fv_v (Nat.zero_le _) h4, fv_v (Nat.zero_le _) h5, pk_mul, nI_add]
  simp only [ud, au]
  repeat' split
  all_goals first | rfl | exact hd j hj

set_option maxRecDepth 20000 in
theorem rm_st {E : Cx} {z1 : Value} {q : Nat} {h2 : Hp} {t m : Nat} {d : Nat → Int32} {f : Nat → Int32} {h : Hp} (ht : t < 4) (hz : h.1 54 t = nI m) (hm : m ≤ 60) (hf : ∀ j, j < 60 → h.1 55 (60 * t + j) = f j) (hq : q < m) (crs : CT 4 yX7_readsShip cX7_readsShip 4 none [.ref 50, .int (nI t)] (rdH h d (q, true)) none h2) (k : WW E cX7_reads RX7 3 5 37 [.ref 50, .int (nI t), z1] (h2) []) : WW E cX7_reads RX7 3 5 37 [.ref 50, .int (nI t), z1] (rdH h d (q, true)) [] := by
  refine s_aload_n (pc := 37) 0 rfl rfl dX7_reads_37 ?_
  refine s_getzE (pc := 38) fl_X7_93 rfl rfl rdH_T dX7_reads_38 ?_
  refine s_if_eqT (pc := 41) 65 dX7_reads_41 (by decide) ?_
  refine s_aload_n (pc := 44) 0 rfl rfl dX7_reads_44 ?_
  refine s_getiE (pc := 45) fl_X7_90 rfl rfl (show _ = nI (q) from rdH_q) dX7_reads_45 ?_
  refine s_aload_n (pc := 48) 0 rfl rfl dX7_reads_48 ?_
  refine s_getr (pc := 49) (b := 54) fl_X7_19 rfl rfl rfl dX7_reads_49 ?_
  refine s_iload_n (pc := 52) 1 rfl rfl dX7_reads_52 ?_
  refine s_ialdN (pc := 53) (_) rfl rfl (by omega) ((rdH_o (by decide) (by decide)).trans hz) dX7_reads_53 ?_
  refine s_icmp_geN (pc := 54) (by omega) (by omega) 65 dX7_reads_54 (by decide) (fun c_54 => ?_) (fun c_54 => ?_)
  · exfalso; omega
  · refine s_aload_n (pc := 57) 0 rfl rfl dX7_reads_57 ?_
    refine s_iload_n (pc := 58) 1 rfl rfl dX7_reads_58 ?_
    refine s_cvn1 (pc := 59) (crs) ml_X7_116 mw_X7_readsShip rfl (by decide) (Nat.le_of_ble_eq_true rfl) dX7_reads_59 ?_
    refine s_goto (pc := 62) 37 dX7_reads_62 (by decide) ?_
    exact k

set_option maxRecDepth 20000 in
theorem rm_bad {E : Cx} {z1 : Value} {q : Nat} {t m : Nat} {d : Nat → Int32} {f : Nat → Int32} {h : Hp} (ht : t < 4) (hz : h.1 54 t = nI m) (hm : m ≤ 60) (hf : ∀ j, j < 60 → h.1 55 (60 * t + j) = f j) (hq : q ≤ m) (hp : PostE E (some (.int (nI q))) (rdH h d (q, false))) : WW E cX7_reads RX7 3 5 37 [.ref 50, .int (nI t), z1] (rdH h d (q, false)) [] := by
  refine s_aload_n (pc := 37) 0 rfl rfl dX7_reads_37 ?_
  refine s_getzE (pc := 38) fl_X7_93 rfl rfl rdH_F dX7_reads_38 ?_
  refine s_if_eqF (pc := 41) 65 dX7_reads_41 (by decide) ?_
  refine s_aload_n (pc := 65) 0 rfl rfl dX7_reads_65 ?_
  refine s_getzE (pc := 66) fl_X7_93 rfl rfl rdH_F dX7_reads_66 ?_
  refine s_if_eqF (pc := 69) 86 dX7_reads_69 (by decide) ?_
  refine s_aload_n (pc := 86) 0 rfl rfl dX7_reads_86 ?_
  refine s_getiE (pc := 87) fl_X7_90 rfl rfl (show _ = nI (q) from rdH_q) dX7_reads_87 ?_
  refine s_iret (pc := 90) dX7_reads_90 (PostE.of hp ?_ ?_)
  · rfl
  · rfl

set_option maxRecDepth 20000 in
theorem rm_end {E : Cx} {z1 : Value} {n q : Nat} {t m : Nat} {d : Nat → Int32} {f : Nat → Int32} {h : Hp} (ht : t < 4) (hz : h.1 54 t = nI m) (hm : m ≤ 60) (hf : ∀ j, j < 60 → h.1 55 (60 * t + j) = f j) (hq : q = m) (hn : d 0 = nI n) (hn7 : n ≤ 7) (hp : PostE E (some (.int (if 0 < n then -9 else nI q))) (rdH h d (q, true))) : WW E cX7_reads RX7 3 5 37 [.ref 50, .int (nI t), z1] (rdH h d (q, true)) [] := by
  refine s_aload_n (pc := 37) 0 rfl rfl dX7_reads_37 ?_
  refine s_getzE (pc := 38) fl_X7_93 rfl rfl rdH_T dX7_reads_38 ?_
  refine s_if_eqT (pc := 41) 65 dX7_reads_41 (by decide) ?_
  refine s_aload_n (pc := 44) 0 rfl rfl dX7_reads_44 ?_
  refine s_getiE (pc := 45) fl_X7_90 rfl rfl (show _ = nI (q) from rdH_q) dX7_reads_45 ?_
  refine s_aload_n (pc := 48) 0 rfl rfl dX7_reads_48 ?_
  refine s_getr (pc := 49) (b := 54) fl_X7_19 rfl rfl rfl dX7_reads_49 ?_
  refine s_iload_n (pc := 52) 1 rfl rfl dX7_reads_52 ?_
  refine s_ialdN (pc := 53) (_) rfl rfl (by omega) ((rdH_o (by decide) (by decide)).trans hz) dX7_reads_53 ?_
  refine s_icmp_geN (pc := 54) (by omega) (by omega) 65 dX7_reads_54 (by decide) (fun c_54 => ?_) (fun c_54 => ?_)
  · refine s_aload_n (pc := 65) 0 rfl rfl dX7_reads_65 ?_
    refine s_getzE (pc := 66) fl_X7_93 rfl rfl rdH_T dX7_reads_66 ?_
    refine s_if_eqT (pc := 69) 86 dX7_reads_69 (by decide) ?_
    refine s_aload_n (pc := 72) 0 rfl rfl dX7_reads_72 ?_
    refine s_getr (pc := 73) (b := 57) fl_X7_28 rfl rfl rfl dX7_reads_73 ?_
    refine s_iconst (pc := 76) (k_i0N) dX7_reads_76 ?_
    refine s_ialdN (pc := 77) (_) rfl rfl (by omega) ((rdH_d (by decide)).trans hn) dX7_reads_77 ?_
    refine s_if_leN (pc := 78) (by omega) 86 dX7_reads_78 (by decide) (fun c_78 => ?_) (fun c_78 => ?_)
    · refine s_aload_n (pc := 86) 0 rfl rfl dX7_reads_86 ?_
      refine s_getiE (pc := 87) fl_X7_90 rfl rfl (show _ = nI (q) from rdH_q) dX7_reads_87 ?_
      refine s_iret (pc := 90) dX7_reads_90 (PostE.of hp ?_ ?_)
      · rw [if_neg (by omega)]
      · rfl
    · refine s_bipush (pc := 81) (k_bm9) dX7_reads_81 ?_
      refine s_goto (pc := 83) 90 dX7_reads_83 (by decide) ?_
      refine s_iret (pc := 90) dX7_reads_90 (PostE.of hp ?_ ?_)
      · rw [if_pos (by omega)]
      · rfl
  · exfalso; omega

theorem rm_lp {t m : Nat} {f : Nat → Int32} {h : Hp} (ht : t < 4) (hz : h.1 54 t = nI m) (hm : m ≤ 60) (hf : ∀ j, j < 60 → h.1 55 (60 * t + j) = f j) : ∀ k q (a : Nat → Nat) (d : Nat → Int32), a 0 + k = 7 → a 0 ≤ 6 → q ≤ m → (∀ j, j < 215 → d j = nI (a j)) →
    ∃ d', ((rdS f m k q a).1.2 = true → ∀ j, j < 215 → d' j = nI ((rdS f m k q a).2 j)) ∧ ∀ (E : Cx) (z1 : Value), PostE E (some (.int (ansN (rdS f m k q a)))) (rdH h d' (rdS f m k q a).1) → WW E cX7_reads RX7 3 5 37 [.ref 50, .int (nI t), z1] (rdH h d (q, true)) [] := by
  intro k
  induction k with
  | zero => intro q a d hk h6; omega
  | succ k ih =>
    intro q a d hk h6 hqm hd
    by_cases h1 : q < m
    · have crs := c_X7_readsShip ht hz hm hf (n := a 0) hqm (hd 0 (by decide)) (by omega)
      by_cases h2 : (shS f m (a 0) q).2 = true
      · have e : rdS f m (k + 1) q a = rdS f m k (sk f m (q + 6)) (shA f a q) := by simp only [rdS]; rw [if_pos h1, if_pos h2]
        rw [e]
        obtain ⟨g1, g2, g3, g4⟩ := shD_v hd h2
        have sl := sk_le (f := f) g2
        obtain ⟨d', i1, i2⟩ := ih (sk f m (q + 6)) (shA f a q) (shD f m d (a 0) q) (by rw [shA_0]; omega) (by rw [shA_0]; omega) sl.2 g4
        refine ⟨d', i1, fun E z1 hp => rm_st ht hz hm hf h1 crs ?_⟩
        rw [g1]
        exact i2 E z1 hp
      · have e : rdS f m (k + 1) q a = (((shS f m (a 0) q).1, false), a) := by simp only [rdS]; rw [if_pos h1, if_neg h2]
        rw [e, ans_f]
        refine ⟨shD f m d (a 0) q, fun z => absurd z (by simp), fun E z1 hp => rm_st ht hz hm hf h1 crs ?_⟩
        have e2 : skS f m (shS f m (a 0) q) = ((shS f m (a 0) q).1, false) := by
          unfold skS; rw [if_neg h2, Bool.eq_false_iff.mpr h2]
        rw [e2]
        refine rm_bad ht hz hm hf ?_ hp
        unfold shS
        refine fg_le (fg_le (fg_le (fg_le (fg_le ?_))))
        split
        · rename_i z; exact z.1
        · exact hqm
    · have e : rdS f m (k + 1) q a = ((q, true), a) := by simp only [rdS]; rw [if_neg h1]
      rw [e, ans_t]
      exact ⟨d, fun _ => hd, fun E z1 hp => rm_end ht hz hm hf (by omega) (hd 0 (by decide)) (by omega) hp⟩

theorem rd_0 {h : Hp} : ui (ui (fil h 57 0 215 (nI 0)) 50 19 (nI 0)) 50 20 (nI 1) = rdH h (fun _ => nI 0) (0, true) := hp_ext (fun x y => by
  simp only [rdH, ui, fil]
  by_cases q1 : x = 50 ∧ y = 20
  · rw [if_pos q1, if_neg (by omega), if_neg (by omega), if_pos q1]; rfl
  · rw [if_neg q1]
    by_cases q2 : x = 50 ∧ y = 19
    · rw [if_pos q2, if_neg (by omega), if_pos q2]
    · rw [if_neg q2]
      by_cases q3 : x = 57 ∧ y < 215
      · rw [if_pos (by omega), if_pos q3]
      · rw [if_neg (by omega), if_neg q3, if_neg q2, if_neg q1]) (fun _ _ => rfl)

set_option maxRecDepth 20000 in
theorem reads_ok {t m : Nat} {f : Nat → Int32} {h : Hp} (ht : t < 4) (hz : h.1 54 t = nI m) (hm : m ≤ 60) (hf : ∀ j, j < 60 → h.1 55 (60 * t + j) = f j) : ∃ d', ((prs f m).1.2 = true → ∀ j, j < 215 → d' j = nI ((prs f m).2 j)) ∧ CT 5 yX7_reads cX7_reads 3 (some .int) [.ref 50, .int (nI t)] h (some (.int (ansN (prs f m)))) (rdH h d' (prs f m).1) := by
  by_cases hh : (hdS f m).2 = true
  · have hp0 : prs f m = rdS f m 7 (sk f m (sk f m 0 + 4)) (hdA f (sk f m 0)) := if_pos hh
    obtain ⟨g1, g2, g3⟩ := hdD_v hh
    have sl := sk_le (f := f) g2
    obtain ⟨d', i1, i2⟩ := rm_lp ht hz hm hf 7 (sk f m (sk f m 0 + 4)) (hdA f (sk f m 0)) (hdD f m (fun _ => nI 0)) rfl (by show 0 ≤ 6; omega) sl.2 (fun j _ => g3 j)
    rw [hp0]
    refine ⟨d', i1, ?_⟩
    refine CT.of (own := RX7) rfl (by decide) (ro_i _) [.ref 50, .int (nI t), .null] rfl (Nat.le_of_ble_eq_true rfl) (fun E hp => ?_)
    refine s_iconst (pc := 0) (k_i0N) dX7_reads_0 ?_
    refine s_istore_n (pc := 1) 2 rfl (by decide) rfl dX7_reads_1 ?_
    rw [show h = fil h 57 0 0 (nI 0) from (fil_0 _ _ _ _).symm]
    suffices lp_2 : ∀ k, k ≤ 215 → WW E cX7_reads RX7 3 _ 2 [.ref 50, .int (nI t), .int (nI k)] (fil h 57 0 k (nI 0)) [] from lp_2 0 (by omega)
    refine lpi 215 (fun k hk_k ih_2 => ?_)
    refine s_iload_n (pc := 2) 2 rfl rfl dX7_reads_2 ?_
    refine s_sipush (pc := 3) (k_s215N) dX7_reads_3 ?_
    refine s_icmp_geN (pc := 6) (by omega) (by omega) 22 dX7_reads_6 (by decide) (fun c_6 => ?_) (fun c_6 => ?_)
    · obtain rfl : k = 215 := by omega
      refine s_aload_n (pc := 22) 0 rfl rfl dX7_reads_22 ?_
      refine s_iconst (pc := 23) (k_i0N) dX7_reads_23 ?_
      refine s_puti (pc := 24) fl_X7_90 fw_7_19 rfl rfl dX7_reads_24 ?_
      refine s_aload_n (pc := 27) 0 rfl rfl dX7_reads_27 ?_
      refine s_iconst (pc := 28) (k_i1N) dX7_reads_28 ?_
      refine s_putz (pc := 29) ⟨by rfl, by rfl⟩ fl_X7_93 fw_7_20 rfl rfl dX7_reads_29 ?_
      rw [rd_0]
      refine s_aload_n (pc := 32) 0 rfl rfl dX7_reads_32 ?_
      refine s_iload_n (pc := 33) 1 rfl rfl dX7_reads_33 ?_
      refine s_cvn1 (pc := 34) (c_X7_readsHead ht hz hm hf) ml_X7_113 mw_X7_readsHead rfl (by decide) (Nat.le_of_ble_eq_true rfl) dX7_reads_34 ?_
      (rw [g1]; exact i2 E _ hp)
    · refine s_aload_n (pc := 9) 0 rfl rfl dX7_reads_9 ?_
      refine s_getr (pc := 10) (b := 57) fl_X7_28 rfl rfl rfl dX7_reads_10 ?_
      refine s_iload_n (pc := 13) 2 rfl rfl dX7_reads_13 ?_
      refine s_iconst (pc := 14) (k_i0N) dX7_reads_14 ?_
      refine s_iast (pc := 15) (_) rfl rfl (by omega) dX7_reads_15 ?_
      refine s_iincN (pc := 16) rfl (by decide) rfl dX7_reads_16 ?_
      refine s_goto (pc := 19) 2 dX7_reads_19 (by decide) ?_
      have e5 := fil_s h 57 0 k (nI 0)
      rw [Nat.zero_add] at e5
      rw [e5]
      exact ih_2 (by omega)
  · have hp0 : prs f m = (((hdS f m).1, false), fun _ => 0) := if_neg hh
    have l1 : (hdS f m).1 ≤ m := by
      have sl := sk_le (f := f) (Nat.zero_le m)
      unfold hdS
      refine fg_le (fg_le (fg_le ?_))
      split
      · rename_i z; exact z.1
      · exact sl.2
    have e2 : skS f m (hdS f m) = ((hdS f m).1, false) := by
      unfold skS; rw [if_neg hh, Bool.eq_false_iff.mpr hh]
    rw [hp0, ans_f]
    refine ⟨hdD f m (fun _ => nI 0), fun z => absurd z (by simp), ?_⟩
    refine CT.of (own := RX7) rfl (by decide) (ro_i _) [.ref 50, .int (nI t), .null] rfl (Nat.le_of_ble_eq_true rfl) (fun E hp => ?_)
    refine s_iconst (pc := 0) (k_i0N) dX7_reads_0 ?_
    refine s_istore_n (pc := 1) 2 rfl (by decide) rfl dX7_reads_1 ?_
    rw [show h = fil h 57 0 0 (nI 0) from (fil_0 _ _ _ _).symm]
    suffices lp_2 : ∀ k, k ≤ 215 → WW E cX7_reads RX7 3 _ 2 [.ref 50, .int (nI t), .int (nI k)] (fil h 57 0 k (nI 0)) [] from lp_2 0 (by omega)
    refine lpi 215 (fun k hk_k ih_2 => ?_)
    refine s_iload_n (pc := 2) 2 rfl rfl dX7_reads_2 ?_
    refine s_sipush (pc := 3) (k_s215N) dX7_reads_3 ?_
    refine s_icmp_geN (pc := 6) (by omega) (by omega) 22 dX7_reads_6 (by decide) (fun c_6 => ?_) (fun c_6 => ?_)
    · obtain rfl : k = 215 := by omega
      refine s_aload_n (pc := 22) 0 rfl rfl dX7_reads_22 ?_
      refine s_iconst (pc := 23) (k_i0N) dX7_reads_23 ?_
      refine s_puti (pc := 24) fl_X7_90 fw_7_19 rfl rfl dX7_reads_24 ?_
      refine s_aload_n (pc := 27) 0 rfl rfl dX7_reads_27 ?_
      refine s_iconst (pc := 28) (k_i1N) dX7_reads_28 ?_
      refine s_putz (pc := 29) ⟨by rfl, by rfl⟩ fl_X7_93 fw_7_20 rfl rfl dX7_reads_29 ?_
      rw [rd_0]
      refine s_aload_n (pc := 32) 0 rfl rfl dX7_reads_32 ?_
      refine s_iload_n (pc := 33) 1 rfl rfl dX7_reads_33 ?_
      refine s_cvn1 (pc := 34) (c_X7_readsHead ht hz hm hf) ml_X7_113 mw_X7_readsHead rfl (by decide) (Nat.le_of_ble_eq_true rfl) dX7_reads_34 ?_
      (rw [e2]; exact rm_bad ht hz hm hf l1 hp)
    · refine s_aload_n (pc := 9) 0 rfl rfl dX7_reads_9 ?_
      refine s_getr (pc := 10) (b := 57) fl_X7_28 rfl rfl rfl dX7_reads_10 ?_
      refine s_iload_n (pc := 13) 2 rfl rfl dX7_reads_13 ?_
      refine s_iconst (pc := 14) (k_i0N) dX7_reads_14 ?_
      refine s_iast (pc := 15) (_) rfl rfl (by omega) dX7_reads_15 ?_
      refine s_iincN (pc := 16) rfl (by decide) rfl dX7_reads_16 ?_
      refine s_goto (pc := 19) 2 dX7_reads_19 (by decide) ?_
      have e5 := fil_s h 57 0 k (nI 0)
      rw [Nat.zero_add] at e5
      rw [e5]
      exact ih_2 (by omega)
