theorem au_eq {L : Nat → Nat} {j v : Nat} : au L j v j = v := if_pos rfl
theorem au_ne {L : Nat → Nat} {j v y : Nat} (h : y ≠ j) : au L j v y = L y := if_neg h
def obI : Option Nat → Int32
  | none => -9
  | some v => nI v
def cmv (t1 : Nat) : Option Nat → Nat → Nat
  | none, v => v
  | some b, v => opN t1 b v
def ub (B : Nat → Option Nat) (j : Nat) (b : Option Nat) : Nat → Option Nat := fun y => if y = j then b else B y
/-- the stack of turns: who is next (by one more), the best so far, who is in -/
def SH (h : Hp) (L : Nat → Nat) (B : Nat → Option Nat) (I : Nat → Nat) : Hp := fup (fup (fup h 61 7 (fun y => nI (L y) - nI 1)) 62 7 (fun y => obI (B y))) 63 7 (fun y => nI (I y))
theorem SH_61 {h : Hp} {L : Nat → Nat} {B : Nat → Option Nat} {I : Nat → Nat} {y : Nat} (hy : y < 7) : (SH h L B I).1 61 y = nI (L y) - nI 1 := by
  rw [SH, fup_ne (by decide), fup_ne (by decide), fup_lt hy]
theorem SH_62 {h : Hp} {L : Nat → Nat} {B : Nat → Option Nat} {I : Nat → Nat} {y : Nat} (hy : y < 7) : (SH h L B I).1 62 y = obI (B y) := by
  rw [SH, fup_ne (by decide), fup_lt hy]
theorem SH_63 {h : Hp} {L : Nat → Nat} {B : Nat → Option Nat} {I : Nat → Nat} {y : Nat} (hy : y < 7) : (SH h L B I).1 63 y = nI (I y) := by
  rw [SH, fup_lt hy]
theorem SH_ne {h : Hp} {L : Nat → Nat} {B : Nat → Option Nat} {I : Nat → Nat} {x y : Nat} (hx : ¬ (61 ≤ x ∧ x ≤ 63)) : (SH h L B I).1 x y = h.1 x y := by
  rw [SH, fup_ne (by omega), fup_ne (by omega), fup_ne (by omega)]
theorem fup_ui {h : Hp} {r n j : Nat} {f : Nat → Int32} {v : Int32} (hj : j < n) : ui (fup h r n f) r j v = fup h r n (fun y => if y = j then v else f y) := hp_ext (fun x y => by
  simp only [fup, ui]
  by_cases q : x = r ∧ y = j
  · rw [if_pos q, if_pos (by omega), if_pos q.2]
  · rw [if_neg q]
    by_cases q2 : x = r ∧ y < n
    · rw [if_pos q2, if_pos q2, if_neg (fun e => q ⟨q2.1, e⟩)]
    · rw [if_neg q2, if_neg q2]) (fun _ _ => rfl)
theorem ui_fup {h : Hp} {r s n j : Nat} {f : Nat → Int32} {v : Int32} (hr : r ≠ s) : ui (fup h s n f) r j v = fup (ui h r j v) s n f := hp_ext (fun x y => by
  simp only [fup, ui]
  by_cases q : x = r ∧ y = j
  · rw [if_pos q, if_neg (by omega), if_pos q]
  · rw [if_neg q, if_neg q]) (fun _ _ => rfl)
theorem fup_cg {h : Hp} {r n : Nat} {f g : Nat → Int32} (e : ∀ y, f y = g y) : fup h r n f = fup h r n g := by rw [show f = g from funext e]
theorem SH_l {h : Hp} {L : Nat → Nat} {B : Nat → Option Nat} {I : Nat → Nat} {j v : Nat} (hj : j < 7) : ui (SH h L B I) 61 j (nI v - nI 1) = SH h (au L j v) B I := by
  unfold SH
  rw [ui_fup (by decide), ui_fup (by decide), fup_ui hj, show (fun y => if y = j then nI v - nI 1 else nI (L y) - nI 1) = (fun y => nI (au L j v y) - nI 1) from funext fun y => by simp only [au]; split <;> rfl]
theorem SH_b {h : Hp} {L : Nat → Nat} {B : Nat → Option Nat} {I : Nat → Nat} {j : Nat} {b : Option Nat} (hj : j < 7) : ui (SH h L B I) 62 j (obI b) = SH h L (ub B j b) I := by
  unfold SH
  rw [ui_fup (by decide), fup_ui hj, show (fun y => if y = j then obI b else obI (B y)) = (fun y => obI (ub B j b y)) from funext fun y => by simp only [ub]; split <;> rfl]
theorem SH_bs {h : Hp} {L : Nat → Nat} {B : Nat → Option Nat} {I : Nat → Nat} {j v : Nat} (hj : j < 7) : ui (SH h L B I) 62 j (nI v) = SH h L (ub B j (some v)) I := SH_b (b := some v) hj
theorem SH_bn {h : Hp} {L : Nat → Nat} {B : Nat → Option Nat} {I : Nat → Nat} {j : Nat} (hj : j < 7) : ui (SH h L B I) 62 j (-9) = SH h L (ub B j none) I := SH_b (b := none) hj
theorem SH_i {h : Hp} {L : Nat → Nat} {B : Nat → Option Nat} {I : Nat → Nat} {j v : Nat} (hj : j < 7) : ui (SH h L B I) 63 j (nI v) = SH h L B (au I j v) := by
  unfold SH
  rw [fup_ui hj, show (fun y => if y = j then nI v else nI (I y)) = (fun y => nI (au I j v y)) from funext fun y => by simp only [au]; split <;> rfl]
theorem SH_cg {h : Hp} {L L2 : Nat → Nat} {B B2 : Nat → Option Nat} {I : Nat → Nat} (e1 : ∀ y, L y = L2 y) (e2 : ∀ y, B y = B2 y) : SH h L B I = SH h L2 B2 I := by
  rw [show L = L2 from funext e1, show B = B2 from funext e2]
theorem RM.SH {a : Nat → Nat} {h : Hp} (hA : RM a h) (L : Nat → Nat) (B : Nat → Option Nat) (I : Nat → Nat) : RM a (SH h L B I) := fun j hj => (SH_ne (by decide)).trans (hA j hj)
theorem m1_0 : (-1 : Int32) = nI 0 - nI 1 := by decide
theorem m1_s (v : Nat) : nI v = nI (v + 1) - nI 1 := by rw [pk_sub (by omega), Nat.add_sub_cancel]
theorem m1_p (v : Nat) : nI v - nI 1 + nI 1 = nI v := Int32.sub_add_cancel _ _
theorem m1_6 {v : Nat} (hv : v < 100) : nI v - nI 1 = nI 6 ↔ v = 7 := by
  constructor
  · intro e
    have := congrArg Int32.toInt e
    rw [pk_sub_toInt (by omega) (by decide), nI_toInt (by decide)] at this
    omega
  · intro e; rw [e]; decide

set_option maxRecDepth 20000 in
theorem c_X7_valueOf {s : Nat} {a : Nat → Nat} {h : Hp} (hA : RM a h) (hO : OkA a) (hs : s < 2 ^ 31) : CT 5 yX7_valueOf cX7_valueOf 4 (some .int) [.ref 50, .int (nI s)] h (some (.int (nI (vlU a s (a 0))))) (h) := by
  obtain ⟨⟨o0, o1, o2, o3, o4, o5, o6⟩, os⟩ := id hO
  have o64 := hO.in64
  refine CT.of (own := RX7) rfl (by decide) (ro_i _) [.ref 50, .int (nI s), .null, .null] rfl (Nat.le_of_ble_eq_true rfl) (fun E hp => ?_)
  refine s_bipush (pc := 0) (k_b100N) dX7_valueOf_0 ?_
  refine s_istore_n (pc := 2) 2 rfl (by decide) rfl dX7_valueOf_2 ?_
  refine s_iconst (pc := 3) (k_i0N) dX7_valueOf_3 ?_
  refine s_istore_n (pc := 4) 3 rfl (by decide) rfl dX7_valueOf_4 ?_
  suffices lp_5 : ∀ k1, k1 ≤ a 0 → WW E cX7_valueOf RX7 4 _ 5 [.ref 50, .int (nI s), .int (nI (vlU a s k1)), .int (nI k1)] (h) [] from lp_5 0 (by omega)
  refine lpi (a 0) (fun k1 hk_k1 ih_5 => ?_)
  have vb := vl_b o0 s k1
  have bb : berthI a k1 s ≤ a 0 := berth_le a k1 (ageN a k1 (a 1)) s (a 1)
  refine s_iload_n (pc := 5) 3 rfl rfl dX7_valueOf_5 ?_
  refine s_aload_n (pc := 6) 0 rfl rfl dX7_valueOf_6 ?_
  refine s_getr (pc := 7) (b := 56) fl_X7_25 rfl rfl rfl dX7_valueOf_7 ?_
  refine s_iconst (pc := 10) (k_i0N) dX7_valueOf_10 ?_
  refine s_ialdN (pc := 11) (_) rfl rfl (by omega) (hA _ (by omega)) dX7_valueOf_11 ?_
  refine s_icmp_geN (pc := 12) (by omega) (by omega) 59 dX7_valueOf_12 (by decide) (fun c_12 => ?_) (fun c_12 => ?_)
  · obtain rfl : k1 = a 0 := by omega
    refine s_iload_n (pc := 59) 2 rfl rfl dX7_valueOf_59 ?_
    refine s_iret (pc := 60) dX7_valueOf_60 (PostE.of hp ?_ ?_)
    · rfl
    · rfl
  · refine s_iload_n (pc := 15) 2 rfl rfl dX7_valueOf_15 ?_
    refine s_iload_n (pc := 16) 1 rfl rfl dX7_valueOf_16 ?_
    refine s_iload_n (pc := 17) 3 rfl rfl dX7_valueOf_17 ?_
    refine s_csi2 (pc := 18) (c_X7_has (by omega) (by omega)) ml_X7_146 ms_X7_has (by decide) (Nat.le_of_ble_eq_true rfl) dX7_valueOf_18 ?_
    refine s_if_neB (pc := 21) 28 dX7_valueOf_21 (by decide) (fun c_21 => ?_) (fun c_21 => ?_)
    · refine s_iload_n (pc := 28) 3 rfl rfl dX7_valueOf_28 ?_
      refine s_iconst (pc := 29) (k_i2N) dX7_valueOf_29 ?_
      refine s_iremN (pc := 30) (by omega) (by omega) (by omega) dX7_valueOf_30 ?_
      refine s_iconst (pc := 31) (k_i1N) dX7_valueOf_31 ?_
      refine s_icmp_neN (pc := 32) (by omega) (by omega) 44 dX7_valueOf_32 (by decide) (fun c_32 => ?_) (fun c_32 => ?_)
      · refine s_aload_n (pc := 44) 0 rfl rfl dX7_valueOf_44 ?_
        refine s_iload_n (pc := 45) 3 rfl rfl dX7_valueOf_45 ?_
        refine s_iload_n (pc := 46) 1 rfl rfl dX7_valueOf_46 ?_
        refine s_cvi2 (pc := 47) (c_X7_berthIn hA hO (by omega) hs) ml_X7_156 mw_X7_berthIn rfl (by decide) (Nat.le_of_ble_eq_true rfl) dX7_valueOf_47 ?_
        refine s_ineg (pc := 50) dX7_valueOf_50 ?_
        refine s_iadd (pc := 51) dX7_valueOf_51 ?_
        refine WW.top (nI_negadd (by omega)) ?_
        refine s_istore_n (pc := 52) 2 rfl (by decide) rfl dX7_valueOf_52 ?_
        refine s_iincN (pc := 53) rfl (by decide) rfl dX7_valueOf_53 ?_
        refine s_goto (pc := 56) 5 dX7_valueOf_56 (by decide) ?_
        have ih := ih_5 (by omega)
        simp only [vlU] at ih
        rw [if_pos c_21, if_neg c_32] at ih
        exact ih
      · refine s_aload_n (pc := 35) 0 rfl rfl dX7_valueOf_35 ?_
        refine s_iload_n (pc := 36) 3 rfl rfl dX7_valueOf_36 ?_
        refine s_iload_n (pc := 37) 1 rfl rfl dX7_valueOf_37 ?_
        refine s_cvi2 (pc := 38) (c_X7_berthIn hA hO (by omega) hs) ml_X7_156 mw_X7_berthIn rfl (by decide) (Nat.le_of_ble_eq_true rfl) dX7_valueOf_38 ?_
        refine s_goto (pc := 41) 51 dX7_valueOf_41 (by decide) ?_
        refine s_iaddN (pc := 51) dX7_valueOf_51 ?_
        skip
        refine s_istore_n (pc := 52) 2 rfl (by decide) rfl dX7_valueOf_52 ?_
        refine s_iincN (pc := 53) rfl (by decide) rfl dX7_valueOf_53 ?_
        refine s_goto (pc := 56) 5 dX7_valueOf_56 (by decide) ?_
        have ih := ih_5 (by omega)
        simp only [vlU] at ih
        rw [if_pos c_21, if_pos c_32] at ih
        exact ih
    · refine s_iconst (pc := 24) (k_i0N) dX7_valueOf_24 ?_
      refine s_goto (pc := 25) 51 dX7_valueOf_25 (by decide) ?_
      refine s_iaddN (pc := 51) dX7_valueOf_51 ?_
      skip
      refine s_istore_n (pc := 52) 2 rfl (by decide) rfl dX7_valueOf_52 ?_
      refine s_iincN (pc := 53) rfl (by decide) rfl dX7_valueOf_53 ?_
      refine s_goto (pc := 56) 5 dX7_valueOf_56 (by decide) ?_
      have ih := ih_5 (by omega)
      simp only [vlU] at ih
      rw [if_neg c_21] at ih
      exact ih

set_option maxRecDepth 20000 in
theorem c_X7_cm0 {t1 v : Nat} {L : Nat → Nat} {B : Nat → Option Nat} {I : Nat → Nat} {h : Hp} (ht : t1 < 7) (hv : v < 1000) (hb : B t1 = none) : CT 1 yX7_comes cX7_comes 4 none [.ref 50, .int (nI t1), .int (nI v)] (SH h L B I) (none) (SH h L (ub B t1 (some (cmv t1 (B t1) v))) I) := by
  refine CT.of (own := RX7) rfl (by decide) ro_v [.ref 50, .int (nI t1), .int (nI v), .null] rfl (Nat.le_of_ble_eq_true rfl) (fun E hp => ?_)
  refine s_aload_n (pc := 0) 0 rfl rfl dX7_comes_0 ?_
  refine s_getr (pc := 1) (b := 62) fl_X7_44 rfl rfl rfl dX7_comes_1 ?_
  refine s_iload_n (pc := 4) 1 rfl rfl dX7_comes_4 ?_
  refine s_ialdE (pc := 5) (_) rfl rfl (by omega) ((SH_62 ht).trans (congrArg obI hb)) dX7_comes_5 ?_
  refine s_bipush (pc := 6) (k_bm9) dX7_comes_6 ?_
  refine s_icmp_eq (pc := 8) 40 dX7_comes_8 (by decide) (fun c_8 => ?_) (fun c_8 => ?_)
  · refine s_iconst (pc := 40) (k_i1N) dX7_comes_40 ?_
    refine s_goto (pc := 41) 45 dX7_comes_41 (by decide) ?_
    refine s_istore_n (pc := 45) 3 rfl (by decide) rfl dX7_comes_45 ?_
    refine s_aload_n (pc := 46) 0 rfl rfl dX7_comes_46 ?_
    refine s_getr (pc := 47) (b := 62) fl_X7_44 rfl rfl rfl dX7_comes_47 ?_
    refine s_iload_n (pc := 50) 1 rfl rfl dX7_comes_50 ?_
    refine s_iload_n (pc := 51) 3 rfl rfl dX7_comes_51 ?_
    refine s_if_eqN (pc := 52) (by omega) 59 dX7_comes_52 (by decide) (fun c_52 => ?_) (fun c_52 => ?_)
    · exfalso; omega
    · refine s_iload_n (pc := 55) 2 rfl rfl dX7_comes_55 ?_
      refine s_goto (pc := 56) 65 dX7_comes_56 (by decide) ?_
      refine s_iast (pc := 65) (_) rfl rfl (by omega) dX7_comes_65 ?_
      refine WW.hp (show _ = SH h L (ub B t1 (some v)) I from SH_bs ht) ?_
      refine s_vret (pc := 66) dX7_comes_66 (PostE.of hp ?_ ?_)
      · rfl
      · rw [hb]; rfl
  · exfalso; exact c_8 rfl

set_option maxRecDepth 20000 in
theorem c_X7_cm1 {t1 v : Nat} {L : Nat → Nat} {B : Nat → Option Nat} {I : Nat → Nat} {h : Hp} (ht : t1 < 7) (hv : v < 1000) {b1 : Nat} (hb : B t1 = some b1) (hb1 : b1 < 1000) : CT 1 yX7_comes cX7_comes 4 none [.ref 50, .int (nI t1), .int (nI v)] (SH h L B I) (none) (SH h L (ub B t1 (some (cmv t1 (B t1) v))) I) := by
  refine CT.of (own := RX7) rfl (by decide) ro_v [.ref 50, .int (nI t1), .int (nI v), .null] rfl (Nat.le_of_ble_eq_true rfl) (fun E hp => ?_)
  refine s_aload_n (pc := 0) 0 rfl rfl dX7_comes_0 ?_
  refine s_getr (pc := 1) (b := 62) fl_X7_44 rfl rfl rfl dX7_comes_1 ?_
  refine s_iload_n (pc := 4) 1 rfl rfl dX7_comes_4 ?_
  refine s_ialdN (pc := 5) (v := b1) (_) rfl rfl (by omega) ((SH_62 ht).trans (congrArg obI hb)) dX7_comes_5 ?_
  refine s_bipush (pc := 6) (k_bm9) dX7_comes_6 ?_
  refine s_icmp_eq (pc := 8) 40 dX7_comes_8 (by decide) (fun c_8 => ?_) (fun c_8 => ?_)
  · exfalso; exact m9_ne (by omega) c_8
  · refine s_iload_n (pc := 11) 1 rfl rfl dX7_comes_11 ?_
    refine s_iconst (pc := 12) (k_i2N) dX7_comes_12 ?_
    refine s_iremN (pc := 13) (by omega) (by omega) (by omega) dX7_comes_13 ?_
    refine s_if_neN (pc := 14) (by omega) 30 dX7_comes_14 (by decide) (fun c_14 => ?_) (fun c_14 => ?_)
    · refine s_iload_n (pc := 30) 2 rfl rfl dX7_comes_30 ?_
      refine s_aload_n (pc := 31) 0 rfl rfl dX7_comes_31 ?_
      refine s_getr (pc := 32) (b := 62) fl_X7_44 rfl rfl rfl dX7_comes_32 ?_
      refine s_iload_n (pc := 35) 1 rfl rfl dX7_comes_35 ?_
      refine s_ialdN (pc := 36) (v := b1) (_) rfl rfl (by omega) ((SH_62 ht).trans (congrArg obI hb)) dX7_comes_36 ?_
      refine s_icmp_geN (pc := 37) (by omega) (by omega) 44 dX7_comes_37 (by decide) (fun c_37 => ?_) (fun c_37 => ?_)
      · refine s_iconst (pc := 44) (k_i0N) dX7_comes_44 ?_
        refine s_istore_n (pc := 45) 3 rfl (by decide) rfl dX7_comes_45 ?_
        refine s_aload_n (pc := 46) 0 rfl rfl dX7_comes_46 ?_
        refine s_getr (pc := 47) (b := 62) fl_X7_44 rfl rfl rfl dX7_comes_47 ?_
        refine s_iload_n (pc := 50) 1 rfl rfl dX7_comes_50 ?_
        refine s_iload_n (pc := 51) 3 rfl rfl dX7_comes_51 ?_
        refine s_if_eqN (pc := 52) (by omega) 59 dX7_comes_52 (by decide) (fun c_52 => ?_) (fun c_52 => ?_)
        · refine s_aload_n (pc := 59) 0 rfl rfl dX7_comes_59 ?_
          refine s_getr (pc := 60) (b := 62) fl_X7_44 rfl rfl rfl dX7_comes_60 ?_
          refine s_iload_n (pc := 63) 1 rfl rfl dX7_comes_63 ?_
          refine s_ialdN (pc := 64) (v := b1) (_) rfl rfl (by omega) ((SH_62 ht).trans (congrArg obI hb)) dX7_comes_64 ?_
          refine s_iast (pc := 65) (_) rfl rfl (by omega) dX7_comes_65 ?_
          refine WW.hp (show _ = SH h L (ub B t1 (some b1)) I from SH_bs ht) ?_
          refine s_vret (pc := 66) dX7_comes_66 (PostE.of hp ?_ ?_)
          · rfl
          · rw [hb]; simp only [cmv, opN]; rw [if_neg c_14, if_neg (by omega)]
        · exfalso; omega
      · refine s_iconst (pc := 40) (k_i1N) dX7_comes_40 ?_
        refine s_goto (pc := 41) 45 dX7_comes_41 (by decide) ?_
        refine s_istore_n (pc := 45) 3 rfl (by decide) rfl dX7_comes_45 ?_
        refine s_aload_n (pc := 46) 0 rfl rfl dX7_comes_46 ?_
        refine s_getr (pc := 47) (b := 62) fl_X7_44 rfl rfl rfl dX7_comes_47 ?_
        refine s_iload_n (pc := 50) 1 rfl rfl dX7_comes_50 ?_
        refine s_iload_n (pc := 51) 3 rfl rfl dX7_comes_51 ?_
        refine s_if_eqN (pc := 52) (by omega) 59 dX7_comes_52 (by decide) (fun c_52 => ?_) (fun c_52 => ?_)
        · exfalso; omega
        · refine s_iload_n (pc := 55) 2 rfl rfl dX7_comes_55 ?_
          refine s_goto (pc := 56) 65 dX7_comes_56 (by decide) ?_
          refine s_iast (pc := 65) (_) rfl rfl (by omega) dX7_comes_65 ?_
          refine WW.hp (show _ = SH h L (ub B t1 (some v)) I from SH_bs ht) ?_
          refine s_vret (pc := 66) dX7_comes_66 (PostE.of hp ?_ ?_)
          · rfl
          · rw [hb]; simp only [cmv, opN]; rw [if_neg c_14, if_pos (by omega)]
    · refine s_iload_n (pc := 17) 2 rfl rfl dX7_comes_17 ?_
      refine s_aload_n (pc := 18) 0 rfl rfl dX7_comes_18 ?_
      refine s_getr (pc := 19) (b := 62) fl_X7_44 rfl rfl rfl dX7_comes_19 ?_
      refine s_iload_n (pc := 22) 1 rfl rfl dX7_comes_22 ?_
      refine s_ialdN (pc := 23) (v := b1) (_) rfl rfl (by omega) ((SH_62 ht).trans (congrArg obI hb)) dX7_comes_23 ?_
      refine s_icmp_leN (pc := 24) (by omega) (by omega) 44 dX7_comes_24 (by decide) (fun c_24 => ?_) (fun c_24 => ?_)
      · refine s_iconst (pc := 44) (k_i0N) dX7_comes_44 ?_
        refine s_istore_n (pc := 45) 3 rfl (by decide) rfl dX7_comes_45 ?_
        refine s_aload_n (pc := 46) 0 rfl rfl dX7_comes_46 ?_
        refine s_getr (pc := 47) (b := 62) fl_X7_44 rfl rfl rfl dX7_comes_47 ?_
        refine s_iload_n (pc := 50) 1 rfl rfl dX7_comes_50 ?_
        refine s_iload_n (pc := 51) 3 rfl rfl dX7_comes_51 ?_
        refine s_if_eqN (pc := 52) (by omega) 59 dX7_comes_52 (by decide) (fun c_52 => ?_) (fun c_52 => ?_)
        · refine s_aload_n (pc := 59) 0 rfl rfl dX7_comes_59 ?_
          refine s_getr (pc := 60) (b := 62) fl_X7_44 rfl rfl rfl dX7_comes_60 ?_
          refine s_iload_n (pc := 63) 1 rfl rfl dX7_comes_63 ?_
          refine s_ialdN (pc := 64) (v := b1) (_) rfl rfl (by omega) ((SH_62 ht).trans (congrArg obI hb)) dX7_comes_64 ?_
          refine s_iast (pc := 65) (_) rfl rfl (by omega) dX7_comes_65 ?_
          refine WW.hp (show _ = SH h L (ub B t1 (some b1)) I from SH_bs ht) ?_
          refine s_vret (pc := 66) dX7_comes_66 (PostE.of hp ?_ ?_)
          · rfl
          · rw [hb]; simp only [cmv, opN]; rw [if_pos c_14, if_neg (by omega)]
        · exfalso; omega
      · refine s_goto (pc := 27) 40 dX7_comes_27 (by decide) ?_
        refine s_iconst (pc := 40) (k_i1N) dX7_comes_40 ?_
        refine s_goto (pc := 41) 45 dX7_comes_41 (by decide) ?_
        refine s_istore_n (pc := 45) 3 rfl (by decide) rfl dX7_comes_45 ?_
        refine s_aload_n (pc := 46) 0 rfl rfl dX7_comes_46 ?_
        refine s_getr (pc := 47) (b := 62) fl_X7_44 rfl rfl rfl dX7_comes_47 ?_
        refine s_iload_n (pc := 50) 1 rfl rfl dX7_comes_50 ?_
        refine s_iload_n (pc := 51) 3 rfl rfl dX7_comes_51 ?_
        refine s_if_eqN (pc := 52) (by omega) 59 dX7_comes_52 (by decide) (fun c_52 => ?_) (fun c_52 => ?_)
        · exfalso; omega
        · refine s_iload_n (pc := 55) 2 rfl rfl dX7_comes_55 ?_
          refine s_goto (pc := 56) 65 dX7_comes_56 (by decide) ?_
          refine s_iast (pc := 65) (_) rfl rfl (by omega) dX7_comes_65 ?_
          refine WW.hp (show _ = SH h L (ub B t1 (some v)) I from SH_bs ht) ?_
          refine s_vret (pc := 66) dX7_comes_66 (PostE.of hp ?_ ?_)
          · rfl
          · rw [hb]; simp only [cmv, opN]; rw [if_pos c_14, if_pos (by omega)]

theorem c_X7_comes {t1 v : Nat} {L : Nat → Nat} {B : Nat → Option Nat} {I : Nat → Nat} {h : Hp} (ht : t1 < 7) (hv : v < 1000) (hb : ∀ b1, B t1 = some b1 → b1 < 1000) : CT 1 yX7_comes cX7_comes 4 none [.ref 50, .int (nI t1), .int (nI v)] (SH h L B I) none (SH h L (ub B t1 (some (cmv t1 (B t1) v))) I) := by
  cases e : B t1 with
  | none => have c := c_X7_cm0 (L := L) (I := I) (h := h) ht hv e; rw [e] at c; exact c
  | some b1 => have c := c_X7_cm1 (L := L) (I := I) (h := h) ht hv e (hb b1 e); rw [e] at c; exact c

set_option maxRecDepth 20000 in
theorem du_leaf {E : Cx} {n : Nat} {L : Nat → Nat} {B : Nat → Option Nat} {I : Nat → Nat} {z3 : Value} {a : Nat → Nat} {h : Hp} (hA : RM a h) (hO : OkA a) (hn : n ≤ 5) (hI : I n < 2 ^ 31) (k : WW E cX7_duel RX7 4 6 108 [.ref 50, .int (nI n), .int (nI n), z3] (SH h (au L n 7) (ub B n (some (vlU a (I n) (a 0)))) I) []) : WW E cX7_duel RX7 4 6 64 [.ref 50, .int (nI n), .int (nI n), z3] (SH h L B I) [] := by
  obtain ⟨⟨o0, o1, o2, o3, o4, o5, o6⟩, os⟩ := id hO
  have o64 := hO.in64
  have hA2 := hA.SH L B I
  refine s_iload_n (pc := 64) 2 rfl rfl dX7_duel_64 ?_
  refine s_if_ltN (pc := 65) (by omega) 229 dX7_duel_65 (by decide) ?_
  refine s_iload_n (pc := 68) 2 rfl rfl dX7_duel_68 ?_
  refine s_iload_n (pc := 69) 1 rfl rfl dX7_duel_69 ?_
  refine s_icmp_neN (pc := 70) (by omega) (by omega) 97 dX7_duel_70 (by decide) (fun c_70 => ?_) (fun c_70 => ?_)
  · exfalso; omega
  · refine s_aload_n (pc := 73) 0 rfl rfl dX7_duel_73 ?_
    refine s_getr (pc := 74) (b := 62) fl_X7_44 rfl rfl rfl dX7_duel_74 ?_
    refine s_iload_n (pc := 77) 2 rfl rfl dX7_duel_77 ?_
    refine s_aload_n (pc := 78) 0 rfl rfl dX7_duel_78 ?_
    refine s_aload_n (pc := 79) 0 rfl rfl dX7_duel_79 ?_
    refine s_getr (pc := 80) (b := 63) fl_X7_47 rfl rfl rfl dX7_duel_80 ?_
    refine s_iload_n (pc := 83) 2 rfl rfl dX7_duel_83 ?_
    refine s_ialdN (pc := 84) (_) rfl rfl (by omega) (SH_63 (by omega)) dX7_duel_84 ?_
    refine s_cvi1 (pc := 85) (c_X7_valueOf hA2 hO hI) ml_X7_245 mw_X7_valueOf rfl (by decide) (Nat.le_of_ble_eq_true rfl) dX7_duel_85 ?_
    refine s_iast (pc := 88) (_) rfl rfl (by omega) dX7_duel_88 ?_
    refine WW.hp (show _ = SH h L (ub B n (some (vlU a (I n) (a 0)))) I from SH_bs (j := n) (by omega)) ?_
    refine s_aload_n (pc := 89) 0 rfl rfl dX7_duel_89 ?_
    refine s_getr (pc := 90) (b := 61) fl_X7_41 rfl rfl rfl dX7_duel_90 ?_
    refine s_iload_n (pc := 93) 2 rfl rfl dX7_duel_93 ?_
    refine s_bipush (pc := 94) (k_b6N) dX7_duel_94 ?_
    refine s_iast (pc := 96) (_) rfl rfl (by omega) dX7_duel_96 ?_
    refine WW.hp (show _ = SH h (au L n 7) (ub B n (some (vlU a (I n) (a 0)))) I from (congrArg (ui _ 61 n) (m1_s 6)).trans (SH_l (j := n) (by omega))) ?_
    refine s_aload_n (pc := 97) 0 rfl rfl dX7_duel_97 ?_
    refine s_getr (pc := 98) (b := 61) fl_X7_41 rfl rfl rfl dX7_duel_98 ?_
    refine s_iload_n (pc := 101) 2 rfl rfl dX7_duel_101 ?_
    refine s_ialdN (pc := 102) (_) rfl rfl (by omega) ((SH_61 (by omega)).trans (show _ = nI 6 from by rw [au_eq]; decide)) dX7_duel_102 ?_
    refine s_bipush (pc := 103) (k_b6N) dX7_duel_103 ?_
    refine s_icmp_neN (pc := 105) (by omega) (by omega) 148 dX7_duel_105 (by decide) (fun c_105 => ?_) (fun c_105 => ?_)
    · exfalso; omega
    · exact k

set_option maxRecDepth 20000 in
theorem du_pop {E : Cx} {n t1 : Nat} {L : Nat → Nat} {B : Nat → Option Nat} {I : Nat → Nat} {z3 : Value} {a : Nat → Nat} {h : Hp} (hA : RM a h) (hO : OkA a) (hn : n ≤ 5) {v : Nat} (ht : t1 < n) (hv : v < 1000) (hb : ∀ b1, B t1 = some b1 → b1 < 1000) (hB : B (t1 + 1) = some v) (k : ∀ z3, WW E cX7_duel RX7 4 6 64 [.ref 50, .int (nI n), .int (nI t1), z3] (SH h (au L (t1 + 1) 0) (ub (ub B (t1 + 1) none) t1 (some (cmv t1 (B t1) v))) I) []) : WW E cX7_duel RX7 4 6 108 [.ref 50, .int (nI n), .int (nI (t1 + 1)), z3] (SH h L B I) [] := by
  refine s_aload_n (pc := 108) 0 rfl rfl dX7_duel_108 ?_
  refine s_getr (pc := 109) (b := 62) fl_X7_44 rfl rfl rfl dX7_duel_109 ?_
  refine s_iload_n (pc := 112) 2 rfl rfl dX7_duel_112 ?_
  refine s_ialdN (pc := 113) (v := v) (_) rfl rfl (by omega) ((SH_62 (by omega)).trans (congrArg obI hB)) dX7_duel_113 ?_
  refine s_istore_n (pc := 114) 3 rfl (by decide) rfl dX7_duel_114 ?_
  refine s_aload_n (pc := 115) 0 rfl rfl dX7_duel_115 ?_
  refine s_getr (pc := 116) (b := 61) fl_X7_41 rfl rfl rfl dX7_duel_116 ?_
  refine s_iload_n (pc := 119) 2 rfl rfl dX7_duel_119 ?_
  refine s_iconst (pc := 120) (k_im1) dX7_duel_120 ?_
  refine s_iast (pc := 121) (_) rfl rfl (by omega) dX7_duel_121 ?_
  refine WW.hp (show _ = SH h (au L (t1 + 1) 0) B I from (congrArg (ui _ 61 (t1 + 1)) m1_0).trans (SH_l (j := t1 + 1) (by omega))) ?_
  refine s_aload_n (pc := 122) 0 rfl rfl dX7_duel_122 ?_
  refine s_getr (pc := 123) (b := 62) fl_X7_44 rfl rfl rfl dX7_duel_123 ?_
  refine s_iload_n (pc := 126) 2 rfl rfl dX7_duel_126 ?_
  refine s_bipush (pc := 127) (k_bm9) dX7_duel_127 ?_
  refine s_iast (pc := 129) (_) rfl rfl (by omega) dX7_duel_129 ?_
  refine WW.hp (show _ = SH h (au L (t1 + 1) 0) (ub B (t1 + 1) none) I from SH_bn (j := t1 + 1) (by omega)) ?_
  have eb : ub B (t1 + 1) none t1 = B t1 := by simp only [ub]; rw [if_neg (by omega)]
  have cc := c_X7_comes (L := au L (t1 + 1) 0) (B := ub B (t1 + 1) none) (I := I) (h := h) (t1 := t1) (v := v) (by omega) hv (fun b1 e => hb b1 (by rw [eb] at e; exact e))
  rw [eb] at cc
  refine s_iincM (pc := 130) rfl (by decide) rfl dX7_duel_130 ?_
  refine s_iload_n (pc := 133) 2 rfl rfl dX7_duel_133 ?_
  refine s_if_geN (pc := 134) (by omega) 139 dX7_duel_134 (by decide) ?_
  refine s_aload_n (pc := 139) 0 rfl rfl dX7_duel_139 ?_
  refine s_iload_n (pc := 140) 2 rfl rfl dX7_duel_140 ?_
  refine s_iload_n (pc := 141) 3 rfl rfl dX7_duel_141 ?_
  refine s_cvn2 (pc := 142) (cc) ml_X7_248 mw_X7_comes rfl (by decide) (Nat.le_of_ble_eq_true rfl) dX7_duel_142 ?_
  refine s_goto (pc := 145) 64 dX7_duel_145 (by decide) ?_
  exact k _

set_option maxRecDepth 20000 in
theorem du_end {E : Cx} {n : Nat} {L : Nat → Nat} {B : Nat → Option Nat} {I : Nat → Nat} {z3 : Value} {a : Nat → Nat} {h : Hp} (hA : RM a h) (hO : OkA a) (hn : n ≤ 5) {v : Nat} (hB : B 0 = some v) (hp : PostE E (some (.int (nI v))) (SH h (au L 0 0) (ub B 0 none) I)) : WW E cX7_duel RX7 4 6 108 [.ref 50, .int (nI n), .int (nI 0), z3] (SH h L B I) [] := by
  refine s_aload_n (pc := 108) 0 rfl rfl dX7_duel_108 ?_
  refine s_getr (pc := 109) (b := 62) fl_X7_44 rfl rfl rfl dX7_duel_109 ?_
  refine s_iload_n (pc := 112) 2 rfl rfl dX7_duel_112 ?_
  refine s_ialdN (pc := 113) (v := v) (_) rfl rfl (by omega) ((SH_62 (by omega)).trans (congrArg obI hB)) dX7_duel_113 ?_
  refine s_istore_n (pc := 114) 3 rfl (by decide) rfl dX7_duel_114 ?_
  refine s_aload_n (pc := 115) 0 rfl rfl dX7_duel_115 ?_
  refine s_getr (pc := 116) (b := 61) fl_X7_41 rfl rfl rfl dX7_duel_116 ?_
  refine s_iload_n (pc := 119) 2 rfl rfl dX7_duel_119 ?_
  refine s_iconst (pc := 120) (k_im1) dX7_duel_120 ?_
  refine s_iast (pc := 121) (_) rfl rfl (by omega) dX7_duel_121 ?_
  refine WW.hp (show _ = SH h (au L 0 0) B I from (congrArg (ui _ 61 0) m1_0).trans (SH_l (j := 0) (by omega))) ?_
  refine s_aload_n (pc := 122) 0 rfl rfl dX7_duel_122 ?_
  refine s_getr (pc := 123) (b := 62) fl_X7_44 rfl rfl rfl dX7_duel_123 ?_
  refine s_iload_n (pc := 126) 2 rfl rfl dX7_duel_126 ?_
  refine s_bipush (pc := 127) (k_bm9) dX7_duel_127 ?_
  refine s_iast (pc := 129) (_) rfl rfl (by omega) dX7_duel_129 ?_
  refine WW.hp (show _ = SH h (au L 0 0) (ub B 0 none) I from SH_bn (j := 0) (by omega)) ?_
  refine s_iinc (pc := 130) _ rfl rfl (by decide) rfl dX7_duel_130 ?_
  refine s_iload_n (pc := 133) 2 rfl rfl dX7_duel_133 ?_
  refine s_if_ge (pc := 134) 139 dX7_duel_134 (by decide) (fun c_134 => ?_) (fun c_134 => ?_)
  · exfalso; exact absurd c_134 (by decide)
  · refine s_iload_n (pc := 137) 3 rfl rfl dX7_duel_137 ?_
    refine s_iret (pc := 138) dX7_duel_138 (PostE.of hp ?_ ?_)
    · rfl
    · rfl

set_option maxRecDepth 20000 in
theorem du_done {E : Cx} {n t1 : Nat} {L : Nat → Nat} {B : Nat → Option Nat} {I : Nat → Nat} {z3 : Value} {a : Nat → Nat} {h : Hp} (hA : RM a h) (hO : OkA a) (hn : n ≤ 5) (ht : t1 < n) (hL : L t1 = 7) (k : WW E cX7_duel RX7 4 6 108 [.ref 50, .int (nI n), .int (nI t1), z3] (SH h L B I) []) : WW E cX7_duel RX7 4 6 64 [.ref 50, .int (nI n), .int (nI t1), z3] (SH h L B I) [] := by
  refine s_iload_n (pc := 64) 2 rfl rfl dX7_duel_64 ?_
  refine s_if_ltN (pc := 65) (by omega) 229 dX7_duel_65 (by decide) ?_
  refine s_iload_n (pc := 68) 2 rfl rfl dX7_duel_68 ?_
  refine s_iload_n (pc := 69) 1 rfl rfl dX7_duel_69 ?_
  refine s_icmp_neN (pc := 70) (by omega) (by omega) 97 dX7_duel_70 (by decide) (fun c_70 => ?_) (fun c_70 => ?_)
  · refine s_aload_n (pc := 97) 0 rfl rfl dX7_duel_97 ?_
    refine s_getr (pc := 98) (b := 61) fl_X7_41 rfl rfl rfl dX7_duel_98 ?_
    refine s_iload_n (pc := 101) 2 rfl rfl dX7_duel_101 ?_
    refine s_ialdN (pc := 102) (_) rfl rfl (by omega) ((SH_61 (by omega)).trans (show _ = nI 6 from by rw [hL]; decide)) dX7_duel_102 ?_
    refine s_bipush (pc := 103) (k_b6N) dX7_duel_103 ?_
    refine s_icmp_neN (pc := 105) (by omega) (by omega) 148 dX7_duel_105 (by decide) (fun c_105 => ?_) (fun c_105 => ?_)
    · exfalso; omega
    · exact k
  · exfalso; omega

set_option maxRecDepth 20000 in
theorem du_skip {E : Cx} {n t1 : Nat} {L : Nat → Nat} {B : Nat → Option Nat} {I : Nat → Nat} {z3 : Value} {a : Nat → Nat} {h : Hp} (hA : RM a h) (hO : OkA a) (hn : n ≤ 5) {w1 : Nat} (ht : t1 < n) (hL : L t1 = w1) (hw : w1 < 6) (hs : ¬ (w1 < a 0 ∧ w1 % 2 = t1 % 2)) (k : ∀ z3, WW E cX7_duel RX7 4 6 64 [.ref 50, .int (nI n), .int (nI t1), z3] (SH h (au L t1 (w1 + 1)) B I) []) : WW E cX7_duel RX7 4 6 64 [.ref 50, .int (nI n), .int (nI t1), z3] (SH h L B I) [] := by
  obtain ⟨⟨o0, o1, o2, o3, o4, o5, o6⟩, os⟩ := id hO
  have o64 := hO.in64
  have hA2 := hA.SH (au L t1 (w1 + 1)) B I
  refine s_iload_n (pc := 64) 2 rfl rfl dX7_duel_64 ?_
  refine s_if_ltN (pc := 65) (by omega) 229 dX7_duel_65 (by decide) ?_
  refine s_iload_n (pc := 68) 2 rfl rfl dX7_duel_68 ?_
  refine s_iload_n (pc := 69) 1 rfl rfl dX7_duel_69 ?_
  refine s_icmp_neN (pc := 70) (by omega) (by omega) 97 dX7_duel_70 (by decide) (fun c_70 => ?_) (fun c_70 => ?_)
  · refine s_aload_n (pc := 97) 0 rfl rfl dX7_duel_97 ?_
    refine s_getr (pc := 98) (b := 61) fl_X7_41 rfl rfl rfl dX7_duel_98 ?_
    refine s_iload_n (pc := 101) 2 rfl rfl dX7_duel_101 ?_
    refine s_ialdE (pc := 102) (_) rfl rfl (by omega) ((SH_61 (by omega)).trans (show _ = nI w1 - nI 1 by rw [hL])) dX7_duel_102 ?_
    refine s_bipush (pc := 103) (k_b6N) dX7_duel_103 ?_
    refine s_icmp_ne (pc := 105) 148 dX7_duel_105 (by decide) (fun c_105 => ?_) (fun c_105 => ?_)
    · refine s_aload_n (pc := 148) 0 rfl rfl dX7_duel_148 ?_
      refine s_getr (pc := 149) (b := 61) fl_X7_41 rfl rfl rfl dX7_duel_149 ?_
      refine s_iload_n (pc := 152) 2 rfl rfl dX7_duel_152 ?_
      refine s_dup2 (pc := 153) rfl rfl dX7_duel_153 ?_
      refine s_ialdE (pc := 154) (_) rfl rfl (by omega) ((SH_61 (by omega)).trans (show _ = nI w1 - nI 1 by rw [hL])) dX7_duel_154 ?_
      refine s_iconst (pc := 155) (k_i1N) dX7_duel_155 ?_
      refine s_iadd (pc := 156) dX7_duel_156 ?_
      refine WW.top (m1_p w1) ?_
      refine s_iast (pc := 157) (_) rfl rfl (by omega) dX7_duel_157 ?_
      refine WW.hp (show _ = SH h (au L t1 (w1 + 1)) B I from (congrArg (ui _ 61 t1) (m1_s w1)).trans (SH_l (j := t1) (by omega))) ?_
      refine s_aload_n (pc := 158) 0 rfl rfl dX7_duel_158 ?_
      refine s_getr (pc := 159) (b := 61) fl_X7_41 rfl rfl rfl dX7_duel_159 ?_
      refine s_iload_n (pc := 162) 2 rfl rfl dX7_duel_162 ?_
      refine s_ialdN (pc := 163) (_) rfl rfl (by omega) ((SH_61 (by omega)).trans (show _ = nI w1 by rw [au_eq]; exact (m1_s w1).symm)) dX7_duel_163 ?_
      refine s_istore_n (pc := 164) 3 rfl (by decide) rfl dX7_duel_164 ?_
      refine s_iload_n (pc := 165) 3 rfl rfl dX7_duel_165 ?_
      refine s_bipush (pc := 166) (k_b6N) dX7_duel_166 ?_
      refine s_icmp_eqN (pc := 168) (by omega) (by omega) 190 dX7_duel_168 (by decide) (fun c_168 => ?_) (fun c_168 => ?_)
      · exfalso; omega
      · refine s_iload_n (pc := 171) 3 rfl rfl dX7_duel_171 ?_
        refine s_aload_n (pc := 172) 0 rfl rfl dX7_duel_172 ?_
        refine s_getr (pc := 173) (b := 56) fl_X7_25 rfl rfl rfl dX7_duel_173 ?_
        refine s_iconst (pc := 176) (k_i0N) dX7_duel_176 ?_
        refine s_ialdN (pc := 177) (_) rfl rfl (by omega) (hA2 _ (by omega)) dX7_duel_177 ?_
        refine s_icmp_geN (pc := 178) (by omega) (by omega) 226 dX7_duel_178 (by decide) (fun c_178 => ?_) (fun c_178 => ?_)
        · refine s_goto (pc := 226) 64 dX7_duel_226 (by decide) ?_
          exact k _
        · refine s_iload_n (pc := 181) 3 rfl rfl dX7_duel_181 ?_
          refine s_iconst (pc := 182) (k_i2N) dX7_duel_182 ?_
          refine s_iremN (pc := 183) (by omega) (by omega) (by omega) dX7_duel_183 ?_
          refine s_iload_n (pc := 184) 2 rfl rfl dX7_duel_184 ?_
          refine s_iconst (pc := 185) (k_i2N) dX7_duel_185 ?_
          refine s_iremN (pc := 186) (by omega) (by omega) (by omega) dX7_duel_186 ?_
          refine s_icmp_neN (pc := 187) (by omega) (by omega) 226 dX7_duel_187 (by decide) (fun c_187 => ?_) (fun c_187 => ?_)
          · refine s_goto (pc := 226) 64 dX7_duel_226 (by decide) ?_
            exact k _
          · exfalso; omega
    · exfalso; have := (m1_6 (by omega)).mp c_105; omega
  · exfalso; omega

set_option maxRecDepth 20000 in
theorem du_push {E : Cx} {n t1 : Nat} {L : Nat → Nat} {B : Nat → Option Nat} {I : Nat → Nat} {z3 : Value} {a : Nat → Nat} {h : Hp} (hA : RM a h) (hO : OkA a) (hn : n ≤ 5) {w1 : Nat} (ht : t1 < n) (hL : L t1 = w1) (hw : w1 < a 0) (hI : I t1 < 2 ^ 31) (hs : w1 % 2 = t1 % 2) (k : ∀ z3, WW E cX7_duel RX7 4 6 64 [.ref 50, .int (nI n), .int (nI (t1 + 1)), z3] (SH h (au L t1 (w1 + 1)) B (au I (t1 + 1) (I t1 ^^^ 2 ^ w1))) []) : WW E cX7_duel RX7 4 6 64 [.ref 50, .int (nI n), .int (nI t1), z3] (SH h L B I) [] := by
  obtain ⟨⟨o0, o1, o2, o3, o4, o5, o6⟩, os⟩ := id hO
  have o64 := hO.in64
  have hA2 := hA.SH (au L t1 (w1 + 1)) B I
  have pl : 2 ^ w1 < 64 := Nat.pow_lt_pow_right (n := 6) (by decide) (by omega)
  refine s_iload_n (pc := 64) 2 rfl rfl dX7_duel_64 ?_
  refine s_if_ltN (pc := 65) (by omega) 229 dX7_duel_65 (by decide) ?_
  refine s_iload_n (pc := 68) 2 rfl rfl dX7_duel_68 ?_
  refine s_iload_n (pc := 69) 1 rfl rfl dX7_duel_69 ?_
  refine s_icmp_neN (pc := 70) (by omega) (by omega) 97 dX7_duel_70 (by decide) (fun c_70 => ?_) (fun c_70 => ?_)
  · refine s_aload_n (pc := 97) 0 rfl rfl dX7_duel_97 ?_
    refine s_getr (pc := 98) (b := 61) fl_X7_41 rfl rfl rfl dX7_duel_98 ?_
    refine s_iload_n (pc := 101) 2 rfl rfl dX7_duel_101 ?_
    refine s_ialdE (pc := 102) (_) rfl rfl (by omega) ((SH_61 (by omega)).trans (show _ = nI w1 - nI 1 by rw [hL])) dX7_duel_102 ?_
    refine s_bipush (pc := 103) (k_b6N) dX7_duel_103 ?_
    refine s_icmp_ne (pc := 105) 148 dX7_duel_105 (by decide) (fun c_105 => ?_) (fun c_105 => ?_)
    · refine s_aload_n (pc := 148) 0 rfl rfl dX7_duel_148 ?_
      refine s_getr (pc := 149) (b := 61) fl_X7_41 rfl rfl rfl dX7_duel_149 ?_
      refine s_iload_n (pc := 152) 2 rfl rfl dX7_duel_152 ?_
      refine s_dup2 (pc := 153) rfl rfl dX7_duel_153 ?_
      refine s_ialdE (pc := 154) (_) rfl rfl (by omega) ((SH_61 (by omega)).trans (show _ = nI w1 - nI 1 by rw [hL])) dX7_duel_154 ?_
      refine s_iconst (pc := 155) (k_i1N) dX7_duel_155 ?_
      refine s_iadd (pc := 156) dX7_duel_156 ?_
      refine WW.top (m1_p w1) ?_
      refine s_iast (pc := 157) (_) rfl rfl (by omega) dX7_duel_157 ?_
      refine WW.hp (show _ = SH h (au L t1 (w1 + 1)) B I from (congrArg (ui _ 61 t1) (m1_s w1)).trans (SH_l (j := t1) (by omega))) ?_
      refine s_aload_n (pc := 158) 0 rfl rfl dX7_duel_158 ?_
      refine s_getr (pc := 159) (b := 61) fl_X7_41 rfl rfl rfl dX7_duel_159 ?_
      refine s_iload_n (pc := 162) 2 rfl rfl dX7_duel_162 ?_
      refine s_ialdN (pc := 163) (_) rfl rfl (by omega) ((SH_61 (by omega)).trans (show _ = nI w1 by rw [au_eq]; exact (m1_s w1).symm)) dX7_duel_163 ?_
      refine s_istore_n (pc := 164) 3 rfl (by decide) rfl dX7_duel_164 ?_
      refine s_iload_n (pc := 165) 3 rfl rfl dX7_duel_165 ?_
      refine s_bipush (pc := 166) (k_b6N) dX7_duel_166 ?_
      refine s_icmp_eqN (pc := 168) (by omega) (by omega) 190 dX7_duel_168 (by decide) (fun c_168 => ?_) (fun c_168 => ?_)
      · exfalso; omega
      · refine s_iload_n (pc := 171) 3 rfl rfl dX7_duel_171 ?_
        refine s_aload_n (pc := 172) 0 rfl rfl dX7_duel_172 ?_
        refine s_getr (pc := 173) (b := 56) fl_X7_25 rfl rfl rfl dX7_duel_173 ?_
        refine s_iconst (pc := 176) (k_i0N) dX7_duel_176 ?_
        refine s_ialdN (pc := 177) (_) rfl rfl (by omega) (hA2 _ (by omega)) dX7_duel_177 ?_
        refine s_icmp_geN (pc := 178) (by omega) (by omega) 226 dX7_duel_178 (by decide) (fun c_178 => ?_) (fun c_178 => ?_)
        · exfalso; omega
        · refine s_iload_n (pc := 181) 3 rfl rfl dX7_duel_181 ?_
          refine s_iconst (pc := 182) (k_i2N) dX7_duel_182 ?_
          refine s_iremN (pc := 183) (by omega) (by omega) (by omega) dX7_duel_183 ?_
          refine s_iload_n (pc := 184) 2 rfl rfl dX7_duel_184 ?_
          refine s_iconst (pc := 185) (k_i2N) dX7_duel_185 ?_
          refine s_iremN (pc := 186) (by omega) (by omega) (by omega) dX7_duel_186 ?_
          refine s_icmp_neN (pc := 187) (by omega) (by omega) 226 dX7_duel_187 (by decide) (fun c_187 => ?_) (fun c_187 => ?_)
          · exfalso; omega
          · refine s_aload_n (pc := 190) 0 rfl rfl dX7_duel_190 ?_
            refine s_getr (pc := 191) (b := 63) fl_X7_47 rfl rfl rfl dX7_duel_191 ?_
            refine s_iload_n (pc := 194) 2 rfl rfl dX7_duel_194 ?_
            refine s_iconst (pc := 195) (k_i1N) dX7_duel_195 ?_
            refine s_iaddN (pc := 196) dX7_duel_196 ?_
            refine s_iload_n (pc := 197) 3 rfl rfl dX7_duel_197 ?_
            refine s_bipush (pc := 198) (k_b6N) dX7_duel_198 ?_
            refine s_icmp_neN (pc := 200) (by omega) (by omega) 212 dX7_duel_200 (by decide) (fun c_200 => ?_) (fun c_200 => ?_)
            · refine s_aload_n (pc := 212) 0 rfl rfl dX7_duel_212 ?_
              refine s_getr (pc := 213) (b := 63) fl_X7_47 rfl rfl rfl dX7_duel_213 ?_
              refine s_iload_n (pc := 216) 2 rfl rfl dX7_duel_216 ?_
              refine s_ialdN (pc := 217) (_) rfl rfl (by omega) (SH_63 (by omega)) dX7_duel_217 ?_
              refine s_iconst (pc := 218) (k_i1N) dX7_duel_218 ?_
              refine s_iload_n (pc := 219) 3 rfl rfl dX7_duel_219 ?_
              refine s_ishl1N (pc := 220) (by omega) dX7_duel_220 ?_
              refine s_ixorN (pc := 221) (by omega) (by omega) dX7_duel_221 ?_
              refine s_iast (pc := 222) (_) rfl rfl (by omega) dX7_duel_222 ?_
              rw [SH_i (j := t1 + 1) (by omega)]
              refine s_iincN (pc := 223) rfl (by decide) rfl dX7_duel_223 ?_
              refine s_goto (pc := 226) 64 dX7_duel_226 (by decide) ?_
              exact k _
            · exfalso; omega
    · exfalso; have := (m1_6 (by omega)).mp c_105; omega
  · exfalso; omega

set_option maxRecDepth 20000 in
theorem du_pass {E : Cx} {n t1 : Nat} {L : Nat → Nat} {B : Nat → Option Nat} {I : Nat → Nat} {z3 : Value} {a : Nat → Nat} {h : Hp} (hA : RM a h) (hO : OkA a) (hn : n ≤ 5) (ht : t1 < n) (hL : L t1 = 6) (k : ∀ z3, WW E cX7_duel RX7 4 6 64 [.ref 50, .int (nI n), .int (nI (t1 + 1)), z3] (SH h (au L t1 7) B (au I (t1 + 1) (I t1))) []) : WW E cX7_duel RX7 4 6 64 [.ref 50, .int (nI n), .int (nI t1), z3] (SH h L B I) [] := by
  obtain ⟨⟨o0, o1, o2, o3, o4, o5, o6⟩, os⟩ := id hO
  have o64 := hO.in64
  have hA2 := hA.SH (au L t1 (7)) B I
  refine s_iload_n (pc := 64) 2 rfl rfl dX7_duel_64 ?_
  refine s_if_ltN (pc := 65) (by omega) 229 dX7_duel_65 (by decide) ?_
  refine s_iload_n (pc := 68) 2 rfl rfl dX7_duel_68 ?_
  refine s_iload_n (pc := 69) 1 rfl rfl dX7_duel_69 ?_
  refine s_icmp_neN (pc := 70) (by omega) (by omega) 97 dX7_duel_70 (by decide) (fun c_70 => ?_) (fun c_70 => ?_)
  · refine s_aload_n (pc := 97) 0 rfl rfl dX7_duel_97 ?_
    refine s_getr (pc := 98) (b := 61) fl_X7_41 rfl rfl rfl dX7_duel_98 ?_
    refine s_iload_n (pc := 101) 2 rfl rfl dX7_duel_101 ?_
    refine s_ialdE (pc := 102) (_) rfl rfl (by omega) ((SH_61 (by omega)).trans (show _ = nI 6 - nI 1 by rw [hL])) dX7_duel_102 ?_
    refine s_bipush (pc := 103) (k_b6N) dX7_duel_103 ?_
    refine s_icmp_ne (pc := 105) 148 dX7_duel_105 (by decide) (fun c_105 => ?_) (fun c_105 => ?_)
    · refine s_aload_n (pc := 148) 0 rfl rfl dX7_duel_148 ?_
      refine s_getr (pc := 149) (b := 61) fl_X7_41 rfl rfl rfl dX7_duel_149 ?_
      refine s_iload_n (pc := 152) 2 rfl rfl dX7_duel_152 ?_
      refine s_dup2 (pc := 153) rfl rfl dX7_duel_153 ?_
      refine s_ialdE (pc := 154) (_) rfl rfl (by omega) ((SH_61 (by omega)).trans (show _ = nI 6 - nI 1 by rw [hL])) dX7_duel_154 ?_
      refine s_iconst (pc := 155) (k_i1N) dX7_duel_155 ?_
      refine s_iadd (pc := 156) dX7_duel_156 ?_
      refine WW.top (m1_p 6) ?_
      refine s_iast (pc := 157) (_) rfl rfl (by omega) dX7_duel_157 ?_
      refine WW.hp (show _ = SH h (au L t1 7) B I from (congrArg (ui _ 61 t1) (m1_s 6)).trans (SH_l (j := t1) (by omega))) ?_
      refine s_aload_n (pc := 158) 0 rfl rfl dX7_duel_158 ?_
      refine s_getr (pc := 159) (b := 61) fl_X7_41 rfl rfl rfl dX7_duel_159 ?_
      refine s_iload_n (pc := 162) 2 rfl rfl dX7_duel_162 ?_
      refine s_ialdN (pc := 163) (_) rfl rfl (by omega) ((SH_61 (by omega)).trans (show _ = nI 6 by rw [au_eq]; exact (m1_s 6).symm)) dX7_duel_163 ?_
      refine s_istore_n (pc := 164) 3 rfl (by decide) rfl dX7_duel_164 ?_
      refine s_iload_n (pc := 165) 3 rfl rfl dX7_duel_165 ?_
      refine s_bipush (pc := 166) (k_b6N) dX7_duel_166 ?_
      refine s_icmp_eqN (pc := 168) (by omega) (by omega) 190 dX7_duel_168 (by decide) (fun c_168 => ?_) (fun c_168 => ?_)
      · refine s_aload_n (pc := 190) 0 rfl rfl dX7_duel_190 ?_
        refine s_getr (pc := 191) (b := 63) fl_X7_47 rfl rfl rfl dX7_duel_191 ?_
        refine s_iload_n (pc := 194) 2 rfl rfl dX7_duel_194 ?_
        refine s_iconst (pc := 195) (k_i1N) dX7_duel_195 ?_
        refine s_iaddN (pc := 196) dX7_duel_196 ?_
        refine s_iload_n (pc := 197) 3 rfl rfl dX7_duel_197 ?_
        refine s_bipush (pc := 198) (k_b6N) dX7_duel_198 ?_
        refine s_icmp_neN (pc := 200) (by omega) (by omega) 212 dX7_duel_200 (by decide) (fun c_200 => ?_) (fun c_200 => ?_)
        · exfalso; omega
        · refine s_aload_n (pc := 203) 0 rfl rfl dX7_duel_203 ?_
          refine s_getr (pc := 204) (b := 63) fl_X7_47 rfl rfl rfl dX7_duel_204 ?_
          refine s_iload_n (pc := 207) 2 rfl rfl dX7_duel_207 ?_
          refine s_ialdN (pc := 208) (_) rfl rfl (by omega) (SH_63 (by omega)) dX7_duel_208 ?_
          refine s_goto (pc := 209) 222 dX7_duel_209 (by decide) ?_
          refine s_iast (pc := 222) (_) rfl rfl (by omega) dX7_duel_222 ?_
          rw [SH_i (j := t1 + 1) (by omega)]
          refine s_iincN (pc := 223) rfl (by decide) rfl dX7_duel_223 ?_
          refine s_goto (pc := 226) 64 dX7_duel_226 (by decide) ?_
          exact k _
      · exfalso; omega
    · exfalso; exact absurd c_105 (by decide)
  · exfalso; omega
