def allU (p : Nat → Bool) : Nat → Bool
  | 0 => true
  | n + 1 => allU p n && p n
theorem allU_iff {p : Nat → Bool} {n : Nat} : allU p n = true ↔ ∀ j, j < n → p j = true := by
  induction n with
  | zero => exact ⟨fun _ j hj => absurd hj (Nat.not_lt_zero _), fun _ => rfl⟩
  | succ n ih =>
    simp only [allU, Bool.and_eq_true]
    rw [ih]
    exact ⟨fun q j hj => (Nat.lt_or_eq_of_le (Nat.le_of_lt_succ hj)).elim (q.1 j) (fun e => e ▸ q.2), fun q => ⟨fun j hj => q j (by omega), q n (by omega)⟩⟩
/-- place j of a row of pairs (a year, an age) -/
def pok (f : Nat → Int32) (j : Nat) : Bool := decide (nI 0 ≤ f j ∧ f j ≤ (if j % 2 = 0 then nI 999 else nI 2000))
def yN (f : Nat → Int32) (j : Nat) : Nat := (f j).toNatClampNeg
theorem pok_v {f : Nat → Int32} {j : Nat} (h : pok f j = true) : f j = nI (yN f j) ∧ yN f j ≤ 2000 ∧ (j % 2 = 0 → yN f j ≤ 999) := by
  simp only [pok, decide_eq_true_eq] at h
  obtain ⟨h1, h2⟩ := h
  have h3 : ¬ f j < 0 := Int32.not_lt.mpr h1
  obtain ⟨k, hk, e⟩ := nI_of h3
  have ey : yN f j = k := by unfold yN; rw [e, nI_clamp hk]
  rw [ey]
  refine ⟨e, ?_, fun hj => ?_⟩
  · by_cases hj : j % 2 = 0
    · rw [if_pos hj, e, nI_leI hk (by decide)] at h2; omega
    · rw [if_neg hj, e, nI_leI hk (by decide)] at h2; omega
  · rw [if_pos hj, e, nI_leI hk (by decide)] at h2; omega
def fitU (a : Nat → Nat) (i k : Nat) (f : Nat → Int32) : Nat → Bool
  | 0 => true
  | t + 1 => fitU a i k f t && decide (kageN a i k (yN f (2 * t)) = yN f (2 * t + 1))
def kndN (a : Nat → Nat) (i : Nat) (f : Nat → Int32) (u : Nat) : Nat := bitsU 6 (fun k => fitU a i k f u)
def tsN (p : Nat → Nat) : Nat → Nat × Nat
  | 0 => (0, 7)
  | n + 1 => if p n < (tsN p n).2 then (n, p n) else tsN p n
theorem ts_le (p : Nat → Nat) (n : Nat) : (tsN p n).2 ≤ 7 := by
  induction n with
  | zero => exact Nat.le_refl _
  | succ n ih =>
    simp only [tsN]
    split
    · show p n ≤ 7
      omega
    · exact ih
theorem fit_f {a : Nat → Nat} {i k : Nat} {f : Nat → Int32} {t u : Nat} (ht : t ≤ u) (h : ¬ fitU a i k f t = true) : ¬ fitU a i k f u = true := by
  induction u with
  | zero => rw [show t = 0 by omega] at h; exact h
  | succ u ih =>
    by_cases e : t = u + 1
    · rw [← e]; exact h
    · simp only [fitU, Bool.and_eq_true]
      exact fun q => ih (by omega) q.1

set_option maxRecDepth 20000 in
theorem c_X6_rpB1 {s x : Int32} {a : Nat → Nat} {h : Hp} (hR : RC a h) (hO : OkA a) (hb : s < 0 ∨ nI (a 0) ≤ s) : CT 5 yX6_refusalOfPairs cX6_refusalOfPairs 7 (some .int) [.ref 0, .int s, .int x] h (some (.int (-1))) (h) := by
  refine CT.of (own := RX6) rfl (by decide) (ro_i _) [.ref 0, .int s, .int x, .null, .null, .null, .null] rfl (Nat.le_of_ble_eq_true rfl) (fun E hp => ?_)
  refine s_aload_n (pc := 0) 0 rfl rfl dX6_refusalOfPairs_0 ?_
  refine s_getr (pc := 1) (b := 23) fl_X6_27 rfl rfl rfl dX6_refusalOfPairs_1 ?_
  refine s_iload_n (pc := 4) 1 rfl rfl dX6_refusalOfPairs_4 ?_
  refine s_cvi1 (pc := 5) (c_X2_isShipB hR.1 hO.1.1 hb) ml_X6_140 mw_X2_isShip rfl (by decide) (Nat.le_of_ble_eq_true rfl) dX6_refusalOfPairs_5 ?_
  refine s_if_neF (pc := 8) 13 dX6_refusalOfPairs_8 (by decide) ?_
  refine s_iconst (pc := 11) (k_im1) dX6_refusalOfPairs_11 ?_
  refine s_iret (pc := 12) dX6_refusalOfPairs_12 (PostE.of hp ?_ ?_)
  · rfl
  · rfl

set_option maxRecDepth 20000 in
theorem c_X6_rpB2 {i : Nat} {s : Int32} {a : Nat → Nat} {h : Hp} (hR : RC a h) (hO : OkA a) (hm : h.1 1 0 = nI 6) (hi : i < a 0) (hb : s < 0 ∨ nI 6 ≤ s) : CT 5 yX6_refusalOfPairs cX6_refusalOfPairs 7 (some .int) [.ref 0, .int (nI i), .int s] h (some (.int (-1))) (h) := by
  refine CT.of (own := RX6) rfl (by decide) (ro_i _) [.ref 0, .int (nI i), .int s, .null, .null, .null, .null] rfl (Nat.le_of_ble_eq_true rfl) (fun E hp => ?_)
  refine s_aload_n (pc := 0) 0 rfl rfl dX6_refusalOfPairs_0 ?_
  refine s_getr (pc := 1) (b := 23) fl_X6_27 rfl rfl rfl dX6_refusalOfPairs_1 ?_
  refine s_iload_n (pc := 4) 1 rfl rfl dX6_refusalOfPairs_4 ?_
  refine s_cvi1 (pc := 5) (c_X2_isShipN hR.1 hO.1.1 hi) ml_X6_140 mw_X2_isShip rfl (by decide) (Nat.le_of_ble_eq_true rfl) dX6_refusalOfPairs_5 ?_
  refine s_if_neT (pc := 8) 13 dX6_refusalOfPairs_8 (by decide) ?_
  refine s_aload_n (pc := 13) 0 rfl rfl dX6_refusalOfPairs_13 ?_
  refine s_aload_n (pc := 14) 0 rfl rfl dX6_refusalOfPairs_14 ?_
  refine s_getr (pc := 15) (b := 1) fl_X6_14 rfl rfl rfl dX6_refusalOfPairs_15 ?_
  refine s_iload_n (pc := 18) 2 rfl rfl dX6_refusalOfPairs_18 ?_
  refine s_cvi2 (pc := 19) (c_X6_refusalOfSheet_1B hm hb) ml_X6_88 mw_X6_refusalOfSheet rfl (by decide) (Nat.le_of_ble_eq_true rfl) dX6_refusalOfPairs_19 ?_
  refine s_istore_n (pc := 22) 3 rfl (by decide) rfl dX6_refusalOfPairs_22 ?_
  refine s_iload_n (pc := 23) 3 rfl rfl dX6_refusalOfPairs_23 ?_
  refine s_if_eq (pc := 24) 29 dX6_refusalOfPairs_24 (by decide) (fun c_24 => ?_) (fun c_24 => ?_)
  · exfalso; exact absurd c_24 (by decide)
  · refine s_iload_n (pc := 27) 3 rfl rfl dX6_refusalOfPairs_27 ?_
    refine s_iret (pc := 28) dX6_refusalOfPairs_28 (PostE.of hp ?_ ?_)
    · rfl
    · rfl

set_option maxRecDepth 20000 in
theorem c_X6_rpM {i q : Nat} {a : Nat → Nat} {h : Hp} (hR : RC a h) (hO : OkA a) (hm : h.1 1 0 = nI 6) (hi : i < a 0) (hk : q < 6) (hz : h.1 2 q = -1) : CT 5 yX6_refusalOfPairs cX6_refusalOfPairs 7 (some .int) [.ref 0, .int (nI i), .int (nI q)] h (some (.int (-3))) (finC h 1) := by
  refine CT.of (own := RX6) rfl (by decide) (ro_i _) [.ref 0, .int (nI i), .int (nI q), .null, .null, .null, .null] rfl (Nat.le_of_ble_eq_true rfl) (fun E hp => ?_)
  refine s_aload_n (pc := 0) 0 rfl rfl dX6_refusalOfPairs_0 ?_
  refine s_getr (pc := 1) (b := 23) fl_X6_27 rfl rfl rfl dX6_refusalOfPairs_1 ?_
  refine s_iload_n (pc := 4) 1 rfl rfl dX6_refusalOfPairs_4 ?_
  refine s_cvi1 (pc := 5) (c_X2_isShipN hR.1 hO.1.1 hi) ml_X6_140 mw_X2_isShip rfl (by decide) (Nat.le_of_ble_eq_true rfl) dX6_refusalOfPairs_5 ?_
  refine s_if_neT (pc := 8) 13 dX6_refusalOfPairs_8 (by decide) ?_
  refine s_aload_n (pc := 13) 0 rfl rfl dX6_refusalOfPairs_13 ?_
  refine s_aload_n (pc := 14) 0 rfl rfl dX6_refusalOfPairs_14 ?_
  refine s_getr (pc := 15) (b := 1) fl_X6_14 rfl rfl rfl dX6_refusalOfPairs_15 ?_
  refine s_iload_n (pc := 18) 2 rfl rfl dX6_refusalOfPairs_18 ?_
  refine s_cvi2 (pc := 19) (c_X6_refusalOfSheet_1M hm hk hz) ml_X6_88 mw_X6_refusalOfSheet rfl (by decide) (Nat.le_of_ble_eq_true rfl) dX6_refusalOfPairs_19 ?_
  refine s_istore_n (pc := 22) 3 rfl (by decide) rfl dX6_refusalOfPairs_22 ?_
  refine s_iload_n (pc := 23) 3 rfl rfl dX6_refusalOfPairs_23 ?_
  refine s_if_eq (pc := 24) 29 dX6_refusalOfPairs_24 (by decide) (fun c_24 => ?_) (fun c_24 => ?_)
  · exfalso; exact absurd c_24 (by decide)
  · refine s_iload_n (pc := 27) 3 rfl rfl dX6_refusalOfPairs_27 ?_
    refine s_iret (pc := 28) dX6_refusalOfPairs_28 (PostE.of hp ?_ ?_)
    · rfl
    · rfl

set_option maxRecDepth 20000 in
theorem c_X6_rpS {i q m : Nat} {a : Nat → Nat} {h : Hp} (hR : RC a h) (hO : OkA a) (hm : h.1 1 0 = nI 6) (hi : i < a 0) (hk : q < 6) (hz : h.1 2 q = nI m) (hz6 : m ≤ 40) (ho : ¬ m % 2 = 0) : CT 5 yX6_refusalOfPairs cX6_refusalOfPairs 7 (some .int) [.ref 0, .int (nI i), .int (nI q)] h (some (.int (-3))) (finC h 5) := by
  refine CT.of (own := RX6) rfl (by decide) (ro_i _) [.ref 0, .int (nI i), .int (nI q), .null, .null, .null, .null] rfl (Nat.le_of_ble_eq_true rfl) (fun E hp => ?_)
  refine s_aload_n (pc := 0) 0 rfl rfl dX6_refusalOfPairs_0 ?_
  refine s_getr (pc := 1) (b := 23) fl_X6_27 rfl rfl rfl dX6_refusalOfPairs_1 ?_
  refine s_iload_n (pc := 4) 1 rfl rfl dX6_refusalOfPairs_4 ?_
  refine s_cvi1 (pc := 5) (c_X2_isShipN hR.1 hO.1.1 hi) ml_X6_140 mw_X2_isShip rfl (by decide) (Nat.le_of_ble_eq_true rfl) dX6_refusalOfPairs_5 ?_
  refine s_if_neT (pc := 8) 13 dX6_refusalOfPairs_8 (by decide) ?_
  refine s_aload_n (pc := 13) 0 rfl rfl dX6_refusalOfPairs_13 ?_
  refine s_aload_n (pc := 14) 0 rfl rfl dX6_refusalOfPairs_14 ?_
  refine s_getr (pc := 15) (b := 1) fl_X6_14 rfl rfl rfl dX6_refusalOfPairs_15 ?_
  refine s_iload_n (pc := 18) 2 rfl rfl dX6_refusalOfPairs_18 ?_
  refine s_cvi2 (pc := 19) (c_X6_refusalOfSheet_1O hm hk hz hz6) ml_X6_88 mw_X6_refusalOfSheet rfl (by decide) (Nat.le_of_ble_eq_true rfl) dX6_refusalOfPairs_19 ?_
  refine s_istore_n (pc := 22) 3 rfl (by decide) rfl dX6_refusalOfPairs_22 ?_
  refine s_iload_n (pc := 23) 3 rfl rfl dX6_refusalOfPairs_23 ?_
  refine s_if_eqN (pc := 24) (by omega) 29 dX6_refusalOfPairs_24 (by decide) (fun c_24 => ?_) (fun c_24 => ?_)
  · refine s_aload_n (pc := 29) 0 rfl rfl dX6_refusalOfPairs_29 ?_
    refine s_getr (pc := 30) (b := 1) fl_X6_14 rfl rfl rfl dX6_refusalOfPairs_30 ?_
    refine s_getr (pc := 33) (b := 2) fl_X6_121 rfl rfl rfl dX6_refusalOfPairs_33 ?_
    refine s_iload_n (pc := 36) 2 rfl rfl dX6_refusalOfPairs_36 ?_
    refine s_ialdN (pc := 37) (_) rfl rfl (by omega) hz dX6_refusalOfPairs_37 ?_
    refine s_istore (pc := 38) (by decide) rfl dX6_refusalOfPairs_38 ?_
    refine s_iload (pc := 40) rfl dX6_refusalOfPairs_40 ?_
    refine s_iconst (pc := 42) (k_i2N) dX6_refusalOfPairs_42 ?_
    refine s_iremN (pc := 43) (by omega) (by omega) (by omega) dX6_refusalOfPairs_43 ?_
    refine s_if_eqN (pc := 44) (by omega) 53 dX6_refusalOfPairs_44 (by decide) (fun c_44 => ?_) (fun c_44 => ?_)
    · exfalso; omega
    · refine s_aload_n (pc := 47) 0 rfl rfl dX6_refusalOfPairs_47 ?_
      refine s_iconst (pc := 48) (k_i5N) dX6_refusalOfPairs_48 ?_
      refine s_cvi1 (pc := 49) (c_X6_refuse (by decide) (by decide)) ml_X6_100 mw_X6_refuse rfl (by decide) (Nat.le_of_ble_eq_true rfl) dX6_refusalOfPairs_49 ?_
      refine s_iret (pc := 52) dX6_refusalOfPairs_52 (PostE.of hp ?_ ?_)
      · rfl
      · rfl
  · exfalso; omega

set_option maxRecDepth 20000 in
theorem c_X6_rpO {i q m : Nat} {a : Nat → Nat} {h : Hp} (hR : RC a h) (hO : OkA a) (hm : h.1 1 0 = nI 6) (hi : i < a 0) (hk : q < 6) (hz : h.1 2 q = nI m) (hz6 : m ≤ 40) (ho : m % 2 = 0) (hu : ∀ j, j < m → pok (h.1 (3 + 1 + q)) j = true) : CT 5 yX6_refusalOfPairs cX6_refusalOfPairs 7 (some .int) [.ref 0, .int (nI i), .int (nI q)] h (some (.int (nI 0))) (h) := by
  refine CT.of (own := RX6) rfl (by decide) (ro_i _) [.ref 0, .int (nI i), .int (nI q), .null, .null, .null, .null] rfl (Nat.le_of_ble_eq_true rfl) (fun E hp => ?_)
  refine s_aload_n (pc := 0) 0 rfl rfl dX6_refusalOfPairs_0 ?_
  refine s_getr (pc := 1) (b := 23) fl_X6_27 rfl rfl rfl dX6_refusalOfPairs_1 ?_
  refine s_iload_n (pc := 4) 1 rfl rfl dX6_refusalOfPairs_4 ?_
  refine s_cvi1 (pc := 5) (c_X2_isShipN hR.1 hO.1.1 hi) ml_X6_140 mw_X2_isShip rfl (by decide) (Nat.le_of_ble_eq_true rfl) dX6_refusalOfPairs_5 ?_
  refine s_if_neT (pc := 8) 13 dX6_refusalOfPairs_8 (by decide) ?_
  refine s_aload_n (pc := 13) 0 rfl rfl dX6_refusalOfPairs_13 ?_
  refine s_aload_n (pc := 14) 0 rfl rfl dX6_refusalOfPairs_14 ?_
  refine s_getr (pc := 15) (b := 1) fl_X6_14 rfl rfl rfl dX6_refusalOfPairs_15 ?_
  refine s_iload_n (pc := 18) 2 rfl rfl dX6_refusalOfPairs_18 ?_
  refine s_cvi2 (pc := 19) (c_X6_refusalOfSheet_1O hm hk hz hz6) ml_X6_88 mw_X6_refusalOfSheet rfl (by decide) (Nat.le_of_ble_eq_true rfl) dX6_refusalOfPairs_19 ?_
  refine s_istore_n (pc := 22) 3 rfl (by decide) rfl dX6_refusalOfPairs_22 ?_
  refine s_iload_n (pc := 23) 3 rfl rfl dX6_refusalOfPairs_23 ?_
  refine s_if_eqN (pc := 24) (by omega) 29 dX6_refusalOfPairs_24 (by decide) (fun c_24 => ?_) (fun c_24 => ?_)
  · refine s_aload_n (pc := 29) 0 rfl rfl dX6_refusalOfPairs_29 ?_
    refine s_getr (pc := 30) (b := 1) fl_X6_14 rfl rfl rfl dX6_refusalOfPairs_30 ?_
    refine s_getr (pc := 33) (b := 2) fl_X6_121 rfl rfl rfl dX6_refusalOfPairs_33 ?_
    refine s_iload_n (pc := 36) 2 rfl rfl dX6_refusalOfPairs_36 ?_
    refine s_ialdN (pc := 37) (_) rfl rfl (by omega) hz dX6_refusalOfPairs_37 ?_
    refine s_istore (pc := 38) (by decide) rfl dX6_refusalOfPairs_38 ?_
    refine s_iload (pc := 40) rfl dX6_refusalOfPairs_40 ?_
    refine s_iconst (pc := 42) (k_i2N) dX6_refusalOfPairs_42 ?_
    refine s_iremN (pc := 43) (by omega) (by omega) (by omega) dX6_refusalOfPairs_43 ?_
    refine s_if_eqN (pc := 44) (by omega) 53 dX6_refusalOfPairs_44 (by decide) (fun c_44 => ?_) (fun c_44 => ?_)
    · refine s_iconst (pc := 53) (k_i0N) dX6_refusalOfPairs_53 ?_
      refine s_istore (pc := 54) (by decide) rfl dX6_refusalOfPairs_54 ?_
      suffices lp_56 : ∀ t, t ≤ m → ∀ zz, (∀ j, j < t → pok (h.1 (3 + 1 + q)) j = true) → WW E cX6_refusalOfPairs RX6 7 _ 56 [.ref 0, .int (nI i), .int (nI q), .int (nI 0), .int (nI m), .int (nI t), zz] (h) [] from lp_56 0 (by omega) _ (fun j hj => absurd hj (Nat.not_lt_zero _))
      refine lpi m (fun t hk_t ih_56 => ?_)
      intro zz hok
      refine s_iload (pc := 56) rfl dX6_refusalOfPairs_56 ?_
      refine s_iload (pc := 58) rfl dX6_refusalOfPairs_58 ?_
      refine s_icmp_geN (pc := 60) (by omega) (by omega) 115 dX6_refusalOfPairs_60 (by decide) (fun c_60 => ?_) (fun c_60 => ?_)
      · refine s_iconst (pc := 115) (k_i0N) dX6_refusalOfPairs_115 ?_
        refine s_iret (pc := 116) dX6_refusalOfPairs_116 (PostE.of hp ?_ ?_)
        · rfl
        · rfl
      · refine s_aload_n (pc := 63) 0 rfl rfl dX6_refusalOfPairs_63 ?_
        refine s_getr (pc := 64) (b := 1) fl_X6_14 rfl rfl rfl dX6_refusalOfPairs_64 ?_
        refine s_getr (pc := 67) (b := 3) fl_X6_111 rfl rfl rfl dX6_refusalOfPairs_67 ?_
        refine s_iload_n (pc := 70) 2 rfl rfl dX6_refusalOfPairs_70 ?_
        refine s_aald (pc := 71) (b := 3 + 1 + q) (_) rfl rfl (by omega) rfl dX6_refusalOfPairs_71 ?_
        refine s_iload (pc := 72) rfl dX6_refusalOfPairs_72 ?_
        refine s_iald (pc := 74) (_) (ly_1 q hk) rfl (by omega) dX6_refusalOfPairs_74 ?_
        refine s_istore (pc := 75) (by decide) rfl dX6_refusalOfPairs_75 ?_
        refine s_iload (pc := 77) rfl dX6_refusalOfPairs_77 ?_
        refine s_if_lt (pc := 79) 103 dX6_refusalOfPairs_79 (by decide) (fun c_79 => ?_) (fun c_79 => ?_)
        · exfalso; have := (of_decide_eq_true (hu t (by omega))).1; exact absurd c_79 (Int32.not_lt.mpr this)
        · refine s_iload (pc := 82) rfl dX6_refusalOfPairs_82 ?_
          refine s_iload (pc := 84) rfl dX6_refusalOfPairs_84 ?_
          refine s_iconst (pc := 86) (k_i2N) dX6_refusalOfPairs_86 ?_
          refine s_iremN (pc := 87) (by omega) (by omega) (by omega) dX6_refusalOfPairs_87 ?_
          refine s_if_neN (pc := 88) (by omega) 97 dX6_refusalOfPairs_88 (by decide) (fun c_88 => ?_) (fun c_88 => ?_)
          · refine s_sipush (pc := 97) (k_s2000N) dX6_refusalOfPairs_97 ?_
            refine s_icmp_le (pc := 100) 109 dX6_refusalOfPairs_100 (by decide) (fun c_100 => ?_) (fun c_100 => ?_)
            · refine s_iincN (pc := 109) rfl (by decide) rfl dX6_refusalOfPairs_109 ?_
              refine s_goto (pc := 112) 56 dX6_refusalOfPairs_112 (by decide) ?_
              refine ih_56 (by omega) _ (fun j hj => ?_)
              rcases Nat.lt_or_eq_of_le (Nat.le_of_lt_succ hj) with e | e
              · exact hok j e
              · rw [e]; simp only [pok, decide_eq_true_eq]; first | (rw [if_pos c_88]; exact ⟨Int32.not_lt.mp c_79, c_100⟩) | (rw [if_neg c_88]; exact ⟨Int32.not_lt.mp c_79, c_100⟩)
            · exfalso; have hx := (of_decide_eq_true (hu t (by omega))).2; first | (rw [if_pos c_88] at hx; exact c_100 hx) | (rw [if_neg c_88] at hx; exact c_100 hx)
          · refine s_sipush (pc := 91) (k_s999N) dX6_refusalOfPairs_91 ?_
            refine s_goto (pc := 94) 100 dX6_refusalOfPairs_94 (by decide) ?_
            refine s_icmp_le (pc := 100) 109 dX6_refusalOfPairs_100 (by decide) (fun c_100 => ?_) (fun c_100 => ?_)
            · refine s_iincN (pc := 109) rfl (by decide) rfl dX6_refusalOfPairs_109 ?_
              refine s_goto (pc := 112) 56 dX6_refusalOfPairs_112 (by decide) ?_
              refine ih_56 (by omega) _ (fun j hj => ?_)
              rcases Nat.lt_or_eq_of_le (Nat.le_of_lt_succ hj) with e | e
              · exact hok j e
              · rw [e]; simp only [pok, decide_eq_true_eq]; first | (rw [if_pos c_88]; exact ⟨Int32.not_lt.mp c_79, c_100⟩) | (rw [if_neg c_88]; exact ⟨Int32.not_lt.mp c_79, c_100⟩)
            · exfalso; have hx := (of_decide_eq_true (hu t (by omega))).2; first | (rw [if_pos c_88] at hx; exact c_100 hx) | (rw [if_neg c_88] at hx; exact c_100 hx)
    · exfalso; omega
  · exfalso; omega

set_option maxRecDepth 20000 in
theorem c_X6_rpU {i q m : Nat} {a : Nat → Nat} {h : Hp} (hR : RC a h) (hO : OkA a) (hm : h.1 1 0 = nI 6) (hi : i < a 0) (hk : q < 6) (hz : h.1 2 q = nI m) (hz6 : m ≤ 40) (ho : m % 2 = 0) (hu : ¬ ∀ j, j < m → pok (h.1 (3 + 1 + q)) j = true) : CT 5 yX6_refusalOfPairs cX6_refusalOfPairs 7 (some .int) [.ref 0, .int (nI i), .int (nI q)] h (some (.int (-3))) (finC h 3) := by
  refine CT.of (own := RX6) rfl (by decide) (ro_i _) [.ref 0, .int (nI i), .int (nI q), .null, .null, .null, .null] rfl (Nat.le_of_ble_eq_true rfl) (fun E hp => ?_)
  refine s_aload_n (pc := 0) 0 rfl rfl dX6_refusalOfPairs_0 ?_
  refine s_getr (pc := 1) (b := 23) fl_X6_27 rfl rfl rfl dX6_refusalOfPairs_1 ?_
  refine s_iload_n (pc := 4) 1 rfl rfl dX6_refusalOfPairs_4 ?_
  refine s_cvi1 (pc := 5) (c_X2_isShipN hR.1 hO.1.1 hi) ml_X6_140 mw_X2_isShip rfl (by decide) (Nat.le_of_ble_eq_true rfl) dX6_refusalOfPairs_5 ?_
  refine s_if_neT (pc := 8) 13 dX6_refusalOfPairs_8 (by decide) ?_
  refine s_aload_n (pc := 13) 0 rfl rfl dX6_refusalOfPairs_13 ?_
  refine s_aload_n (pc := 14) 0 rfl rfl dX6_refusalOfPairs_14 ?_
  refine s_getr (pc := 15) (b := 1) fl_X6_14 rfl rfl rfl dX6_refusalOfPairs_15 ?_
  refine s_iload_n (pc := 18) 2 rfl rfl dX6_refusalOfPairs_18 ?_
  refine s_cvi2 (pc := 19) (c_X6_refusalOfSheet_1O hm hk hz hz6) ml_X6_88 mw_X6_refusalOfSheet rfl (by decide) (Nat.le_of_ble_eq_true rfl) dX6_refusalOfPairs_19 ?_
  refine s_istore_n (pc := 22) 3 rfl (by decide) rfl dX6_refusalOfPairs_22 ?_
  refine s_iload_n (pc := 23) 3 rfl rfl dX6_refusalOfPairs_23 ?_
  refine s_if_eqN (pc := 24) (by omega) 29 dX6_refusalOfPairs_24 (by decide) (fun c_24 => ?_) (fun c_24 => ?_)
  · refine s_aload_n (pc := 29) 0 rfl rfl dX6_refusalOfPairs_29 ?_
    refine s_getr (pc := 30) (b := 1) fl_X6_14 rfl rfl rfl dX6_refusalOfPairs_30 ?_
    refine s_getr (pc := 33) (b := 2) fl_X6_121 rfl rfl rfl dX6_refusalOfPairs_33 ?_
    refine s_iload_n (pc := 36) 2 rfl rfl dX6_refusalOfPairs_36 ?_
    refine s_ialdN (pc := 37) (_) rfl rfl (by omega) hz dX6_refusalOfPairs_37 ?_
    refine s_istore (pc := 38) (by decide) rfl dX6_refusalOfPairs_38 ?_
    refine s_iload (pc := 40) rfl dX6_refusalOfPairs_40 ?_
    refine s_iconst (pc := 42) (k_i2N) dX6_refusalOfPairs_42 ?_
    refine s_iremN (pc := 43) (by omega) (by omega) (by omega) dX6_refusalOfPairs_43 ?_
    refine s_if_eqN (pc := 44) (by omega) 53 dX6_refusalOfPairs_44 (by decide) (fun c_44 => ?_) (fun c_44 => ?_)
    · refine s_iconst (pc := 53) (k_i0N) dX6_refusalOfPairs_53 ?_
      refine s_istore (pc := 54) (by decide) rfl dX6_refusalOfPairs_54 ?_
      suffices lp_56 : ∀ t, t ≤ m → ∀ zz, (∀ j, j < t → pok (h.1 (3 + 1 + q)) j = true) → WW E cX6_refusalOfPairs RX6 7 _ 56 [.ref 0, .int (nI i), .int (nI q), .int (nI 0), .int (nI m), .int (nI t), zz] (h) [] from lp_56 0 (by omega) _ (fun j hj => absurd hj (Nat.not_lt_zero _))
      refine lpi m (fun t hk_t ih_56 => ?_)
      intro zz hok
      refine s_iload (pc := 56) rfl dX6_refusalOfPairs_56 ?_
      refine s_iload (pc := 58) rfl dX6_refusalOfPairs_58 ?_
      refine s_icmp_geN (pc := 60) (by omega) (by omega) 115 dX6_refusalOfPairs_60 (by decide) (fun c_60 => ?_) (fun c_60 => ?_)
      · exfalso; exact hu (fun j hj => hok j (by omega))
      · refine s_aload_n (pc := 63) 0 rfl rfl dX6_refusalOfPairs_63 ?_
        refine s_getr (pc := 64) (b := 1) fl_X6_14 rfl rfl rfl dX6_refusalOfPairs_64 ?_
        refine s_getr (pc := 67) (b := 3) fl_X6_111 rfl rfl rfl dX6_refusalOfPairs_67 ?_
        refine s_iload_n (pc := 70) 2 rfl rfl dX6_refusalOfPairs_70 ?_
        refine s_aald (pc := 71) (b := 3 + 1 + q) (_) rfl rfl (by omega) rfl dX6_refusalOfPairs_71 ?_
        refine s_iload (pc := 72) rfl dX6_refusalOfPairs_72 ?_
        refine s_iald (pc := 74) (_) (ly_1 q hk) rfl (by omega) dX6_refusalOfPairs_74 ?_
        refine s_istore (pc := 75) (by decide) rfl dX6_refusalOfPairs_75 ?_
        refine s_iload (pc := 77) rfl dX6_refusalOfPairs_77 ?_
        refine s_if_lt (pc := 79) 103 dX6_refusalOfPairs_79 (by decide) (fun c_79 => ?_) (fun c_79 => ?_)
        · refine s_aload_n (pc := 103) 0 rfl rfl dX6_refusalOfPairs_103 ?_
          refine s_iconst (pc := 104) (k_i3N) dX6_refusalOfPairs_104 ?_
          refine s_cvi1 (pc := 105) (c_X6_refuse (by decide) (by decide)) ml_X6_100 mw_X6_refuse rfl (by decide) (Nat.le_of_ble_eq_true rfl) dX6_refusalOfPairs_105 ?_
          refine s_iret (pc := 108) dX6_refusalOfPairs_108 (PostE.of hp ?_ ?_)
          · rfl
          · rfl
        · refine s_iload (pc := 82) rfl dX6_refusalOfPairs_82 ?_
          refine s_iload (pc := 84) rfl dX6_refusalOfPairs_84 ?_
          refine s_iconst (pc := 86) (k_i2N) dX6_refusalOfPairs_86 ?_
          refine s_iremN (pc := 87) (by omega) (by omega) (by omega) dX6_refusalOfPairs_87 ?_
          refine s_if_neN (pc := 88) (by omega) 97 dX6_refusalOfPairs_88 (by decide) (fun c_88 => ?_) (fun c_88 => ?_)
          · refine s_sipush (pc := 97) (k_s2000N) dX6_refusalOfPairs_97 ?_
            refine s_icmp_le (pc := 100) 109 dX6_refusalOfPairs_100 (by decide) (fun c_100 => ?_) (fun c_100 => ?_)
            · refine s_iincN (pc := 109) rfl (by decide) rfl dX6_refusalOfPairs_109 ?_
              refine s_goto (pc := 112) 56 dX6_refusalOfPairs_112 (by decide) ?_
              refine ih_56 (by omega) _ (fun j hj => ?_)
              rcases Nat.lt_or_eq_of_le (Nat.le_of_lt_succ hj) with e | e
              · exact hok j e
              · rw [e]; simp only [pok, decide_eq_true_eq]; first | (rw [if_pos c_88]; exact ⟨Int32.not_lt.mp c_79, c_100⟩) | (rw [if_neg c_88]; exact ⟨Int32.not_lt.mp c_79, c_100⟩)
            · refine s_aload_n (pc := 103) 0 rfl rfl dX6_refusalOfPairs_103 ?_
              refine s_iconst (pc := 104) (k_i3N) dX6_refusalOfPairs_104 ?_
              refine s_cvi1 (pc := 105) (c_X6_refuse (by decide) (by decide)) ml_X6_100 mw_X6_refuse rfl (by decide) (Nat.le_of_ble_eq_true rfl) dX6_refusalOfPairs_105 ?_
              refine s_iret (pc := 108) dX6_refusalOfPairs_108 (PostE.of hp ?_ ?_)
              · rfl
              · rfl
          · refine s_sipush (pc := 91) (k_s999N) dX6_refusalOfPairs_91 ?_
            refine s_goto (pc := 94) 100 dX6_refusalOfPairs_94 (by decide) ?_
            refine s_icmp_le (pc := 100) 109 dX6_refusalOfPairs_100 (by decide) (fun c_100 => ?_) (fun c_100 => ?_)
            · refine s_iincN (pc := 109) rfl (by decide) rfl dX6_refusalOfPairs_109 ?_
              refine s_goto (pc := 112) 56 dX6_refusalOfPairs_112 (by decide) ?_
              refine ih_56 (by omega) _ (fun j hj => ?_)
              rcases Nat.lt_or_eq_of_le (Nat.le_of_lt_succ hj) with e | e
              · exact hok j e
              · rw [e]; simp only [pok, decide_eq_true_eq]; first | (rw [if_pos c_88]; exact ⟨Int32.not_lt.mp c_79, c_100⟩) | (rw [if_neg c_88]; exact ⟨Int32.not_lt.mp c_79, c_100⟩)
            · refine s_aload_n (pc := 103) 0 rfl rfl dX6_refusalOfPairs_103 ?_
              refine s_iconst (pc := 104) (k_i3N) dX6_refusalOfPairs_104 ?_
              refine s_cvi1 (pc := 105) (c_X6_refuse (by decide) (by decide)) ml_X6_100 mw_X6_refuse rfl (by decide) (Nat.le_of_ble_eq_true rfl) dX6_refusalOfPairs_105 ?_
              refine s_iret (pc := 108) dX6_refusalOfPairs_108 (PostE.of hp ?_ ?_)
              · rfl
              · rfl
    · exfalso; omega
  · exfalso; omega

set_option maxRecDepth 20000 in
theorem c_X6_fitsPairs {i k q u : Nat} {a : Nat → Nat} {h : Hp} (hR : RC a h) (hO : OkA a) (hi : i < a 0) (hk6 : k < 6) (hk : q < 6) (hz : h.1 2 q = nI (2 * u)) (hz6 : 2 * u ≤ 40) (hu : ∀ j, j < 2 * u → pok (h.1 (3 + 1 + q)) j = true) : CT 4 yX6_fitsPairs cX6_fitsPairs 5 (some .boolean) [.ref 0, .int (nI i), .int (nI k), .int (nI q)] h (some (.int (bi (fitU a i k (h.1 (3 + 1 + q)) u = true)))) (h) := by
  obtain ⟨⟨o0, o1, o2, o3, o4, o5, o6⟩, os⟩ := id hO
  have o64 := hO.in64
  have hC := hR.1
  obtain ⟨⟨r0, r1, r2, r4, r5, r6⟩, rs, P, rp, rP, rt⟩ := id hC
  have rg := hR.2
  refine CT.of (own := RX6) rfl (by decide) (ro_z _) [.ref 0, .int (nI i), .int (nI k), .int (nI q), .null] rfl (Nat.le_of_ble_eq_true rfl) (fun E hp => ?_)
  refine s_iconst (pc := 0) (k_i0N) dX6_fitsPairs_0 ?_
  refine s_istore (pc := 1) (by decide) rfl dX6_fitsPairs_1 ?_
  suffices lp_3 : ∀ t, t ≤ u → fitU a i k (h.1 (3 + 1 + q)) t = true → WW E cX6_fitsPairs RX6 5 _ 3 [.ref 0, .int (nI i), .int (nI k), .int (nI q), .int (nI (2 * t))] (h) [] from lp_3 0 (by omega) rfl
  refine lpi u (fun t hk_t ih_3 => ?_)
  intro hf
  refine s_iload (pc := 3) rfl dX6_fitsPairs_3 ?_
  refine s_iconst (pc := 5) (k_i1N) dX6_fitsPairs_5 ?_
  refine s_iaddN (pc := 6) dX6_fitsPairs_6 ?_
  refine s_aload_n (pc := 7) 0 rfl rfl dX6_fitsPairs_7 ?_
  refine s_getr (pc := 8) (b := 1) fl_X6_14 rfl rfl rfl dX6_fitsPairs_8 ?_
  refine s_getr (pc := 11) (b := 2) fl_X6_121 rfl rfl rfl dX6_fitsPairs_11 ?_
  refine s_iload_n (pc := 14) 3 rfl rfl dX6_fitsPairs_14 ?_
  refine s_ialdN (pc := 15) (_) rfl rfl (by omega) hz dX6_fitsPairs_15 ?_
  refine s_icmp_geN (pc := 16) (by omega) (by omega) 65 dX6_fitsPairs_16 (by decide) (fun c_16 => ?_) (fun c_16 => ?_)
  · refine s_iconst (pc := 65) (k_i1N) dX6_fitsPairs_65 ?_
    refine s_iret (pc := 66) dX6_fitsPairs_66 (PostE.of hp ?_ ?_)
    · obtain rfl : t = u := by omega
      exact ret_t rfl hf
    · rfl
  · have p0 := pok_v (hu (2 * t) (by omega))
    have p1 := pok_v (hu (2 * t + 1) (by omega))
    have p2 := p0.2.2 (by omega)
    refine s_aload_n (pc := 19) 0 rfl rfl dX6_fitsPairs_19 ?_
    refine s_getr (pc := 20) (b := 23) fl_X6_27 rfl rfl rfl dX6_fitsPairs_20 ?_
    refine s_iload_n (pc := 23) 1 rfl rfl dX6_fitsPairs_23 ?_
    refine s_iload_n (pc := 24) 2 rfl rfl dX6_fitsPairs_24 ?_
    refine s_aload_n (pc := 25) 0 rfl rfl dX6_fitsPairs_25 ?_
    refine s_getr (pc := 26) (b := 1) fl_X6_14 rfl rfl rfl dX6_fitsPairs_26 ?_
    refine s_getr (pc := 29) (b := 3) fl_X6_111 rfl rfl rfl dX6_fitsPairs_29 ?_
    refine s_iload_n (pc := 32) 3 rfl rfl dX6_fitsPairs_32 ?_
    refine s_aald (pc := 33) (b := 3 + 1 + q) (_) rfl rfl (by omega) rfl dX6_fitsPairs_33 ?_
    refine s_iload (pc := 34) rfl dX6_fitsPairs_34 ?_
    refine s_ialdN (pc := 36) (_) (ly_1 q hk) rfl (by omega) p0.1 dX6_fitsPairs_36 ?_
    refine s_cvi3 (pc := 37) (c_X2_ageAs hC hO hi hk6 (by omega)) ml_X6_314 mw_X2_ageAs rfl (by decide) (Nat.le_of_ble_eq_true rfl) dX6_fitsPairs_37 ?_
    refine s_aload_n (pc := 40) 0 rfl rfl dX6_fitsPairs_40 ?_
    refine s_getr (pc := 41) (b := 1) fl_X6_14 rfl rfl rfl dX6_fitsPairs_41 ?_
    refine s_getr (pc := 44) (b := 3) fl_X6_111 rfl rfl rfl dX6_fitsPairs_44 ?_
    refine s_iload_n (pc := 47) 3 rfl rfl dX6_fitsPairs_47 ?_
    refine s_aald (pc := 48) (b := 3 + 1 + q) (_) rfl rfl (by omega) rfl dX6_fitsPairs_48 ?_
    refine s_iload (pc := 49) rfl dX6_fitsPairs_49 ?_
    refine s_iconst (pc := 51) (k_i1N) dX6_fitsPairs_51 ?_
    refine s_iaddN (pc := 52) dX6_fitsPairs_52 ?_
    refine s_ialdN (pc := 53) (_) (ly_1 q hk) rfl (by omega) p1.1 dX6_fitsPairs_53 ?_
    refine s_icmp_eqN (pc := 54) (Nat.lt_of_le_of_lt agedN_le (by have := (os i hi).2.2.2.2.2.1; omega)) (by omega) 59 dX6_fitsPairs_54 (by decide) (fun c_54 => ?_) (fun c_54 => ?_)
    · refine s_iinc2N (pc := 59) rfl (by decide) rfl dX6_fitsPairs_59 ?_
      refine s_goto (pc := 62) 3 dX6_fitsPairs_62 (by decide) ?_
      rw [show 2 * t + 2 = 2 * (t + 1) by omega]
      exact ih_3 (by omega) (by simp only [fitU, Bool.and_eq_true, decide_eq_true_eq]; exact ⟨hf, c_54⟩)
    · refine s_iconst (pc := 57) (k_i0N) dX6_fitsPairs_57 ?_
      refine s_iret (pc := 58) dX6_fitsPairs_58 (PostE.of hp ?_ ?_)
      · exact ret_f rfl (fit_f (t := t + 1) (by omega) (by simp only [fitU, Bool.and_eq_true, decide_eq_true_eq]; exact fun z => c_54 z.2))
      · rfl

set_option maxRecDepth 20000 in
theorem c_X6_possibleKinds {i q u : Nat} {a : Nat → Nat} {h : Hp} (hR : RC a h) (hO : OkA a) (hi : i < a 0) (hk : q < 6) (hz : h.1 2 q = nI (2 * u)) (hz6 : 2 * u ≤ 40) (hu : ∀ j, j < 2 * u → pok (h.1 (3 + 1 + q)) j = true) : CT 5 yX6_possibleKinds cX6_possibleKinds 5 (some .int) [.ref 0, .int (nI i), .int (nI q)] h (some (.int (nI (kndN a i (h.1 (3 + 1 + q)) u)))) (h) := by
  obtain ⟨⟨o0, o1, o2, o3, o4, o5, o6⟩, os⟩ := id hO
  have o64 := hO.in64
  have hC := hR.1
  obtain ⟨⟨r0, r1, r2, r4, r5, r6⟩, rs, P, rp, rP, rt⟩ := id hC
  have rg := hR.2
  refine CT.of (own := RX6) rfl (by decide) (ro_i _) [.ref 0, .int (nI i), .int (nI q), .null, .null] rfl (Nat.le_of_ble_eq_true rfl) (fun E hp => ?_)
  refine s_iconst (pc := 0) (k_i0N) dX6_possibleKinds_0 ?_
  refine s_istore_n (pc := 1) 3 rfl (by decide) rfl dX6_possibleKinds_1 ?_
  refine s_iconst (pc := 2) (k_i0N) dX6_possibleKinds_2 ?_
  refine s_istore (pc := 3) (by decide) rfl dX6_possibleKinds_3 ?_
  suffices lp_5 : ∀ k, k ≤ 6 → WW E cX6_possibleKinds RX6 5 _ 5 [.ref 0, .int (nI i), .int (nI q), .int (nI (bitsU k (fun k => fitU a i k (h.1 (3 + 1 + q)) u))), .int (nI k)] (h) [] from lp_5 (0) (by omega)
  refine lpi (6) (fun k hk_k ih_5 => ?_)
  refine s_iload (pc := 5) rfl dX6_possibleKinds_5 ?_
  refine s_bipush (pc := 7) (k_b6N) dX6_possibleKinds_7 ?_
  refine s_icmp_geN (pc := 9) (by omega) (by omega) 36 dX6_possibleKinds_9 (by decide) (fun c_9 => ?_) (fun c_9 => ?_)
  · obtain rfl : k = 6 := by omega
    refine s_iload_n (pc := 36) 3 rfl rfl dX6_possibleKinds_36 ?_
    refine s_iret (pc := 37) dX6_possibleKinds_37 (PostE.of hp ?_ ?_)
    · rfl
    · rfl
  · refine s_aload_n (pc := 12) 0 rfl rfl dX6_possibleKinds_12 ?_
    refine s_iload_n (pc := 13) 1 rfl rfl dX6_possibleKinds_13 ?_
    refine s_iload (pc := 14) rfl dX6_possibleKinds_14 ?_
    refine s_iload_n (pc := 16) 2 rfl rfl dX6_possibleKinds_16 ?_
    refine s_cvi3 (pc := 17) (c_X6_fitsPairs hR hO hi (by omega) hk hz hz6 hu) ml_X6_311 mw_X6_fitsPairs rfl (by decide) (Nat.le_of_ble_eq_true rfl) dX6_possibleKinds_17 ?_
    refine s_if_eqB (pc := 20) 30 dX6_possibleKinds_20 (by decide) (fun c_20 => ?_) (fun c_20 => ?_)
    · refine s_iincN (pc := 30) rfl (by decide) rfl dX6_possibleKinds_30 ?_
      refine s_goto (pc := 33) 5 dX6_possibleKinds_33 (by decide) ?_
      first | exact ih_5 (by omega) | (have hf := bitsU_f (n := k) (p := (fun k => fitU a i k (h.1 (3 + 1 + q)) u)) (by exact c_20); rw [Nat.or_zero] at hf; rw [hf]; exact ih_5 (by omega))
    · have bl := bitsU_lt64 (n := k) (fun k => fitU a i k (h.1 (3 + 1 + q)) u) (by omega)
      have pl := pow_lt31 (k := k) (by omega)
      refine s_iload_n (pc := 23) 3 rfl rfl dX6_possibleKinds_23 ?_
      refine s_iconst (pc := 24) (k_i1N) dX6_possibleKinds_24 ?_
      refine s_iload (pc := 25) rfl dX6_possibleKinds_25 ?_
      refine s_ishl1N (pc := 27) (by omega) dX6_possibleKinds_27 ?_
      refine s_iorN (pc := 28) (by omega) (by omega) dX6_possibleKinds_28 ?_
      rw [bitsU_t (p := (fun k => fitU a i k (h.1 (3 + 1 + q)) u)) (by exact c_20)]
      refine s_istore_n (pc := 29) 3 rfl (by decide) rfl dX6_possibleKinds_29 ?_
      refine s_iincN (pc := 30) rfl (by decide) rfl dX6_possibleKinds_30 ?_
      refine s_goto (pc := 33) 5 dX6_possibleKinds_33 (by decide) ?_
      first | exact ih_5 (by omega) | (have hf := bitsU_f (n := k) (p := (fun k => fitU a i k (h.1 (3 + 1 + q)) u)) (by exact c_20); rw [Nat.or_zero] at hf; rw [hf]; exact ih_5 (by omega))

set_option maxRecDepth 20000 in
theorem c_X6_kindsB1 {s x : Int32} {a : Nat → Nat} {h : Hp} (hR : RC a h) (hO : OkA a) (hb : s < 0 ∨ nI (a 0) ≤ s) : CT 6 yX6_kinds cX6_kinds 4 (some .int) [.ref 0, .int s, .int x] h (some (.int (-1))) (h) := by
  refine CT.of (own := RX6) rfl (by decide) (ro_i _) [.ref 0, .int s, .int x, .null] rfl (Nat.le_of_ble_eq_true rfl) (fun E hp => ?_)
  refine s_aload_n (pc := 0) 0 rfl rfl dX6_kinds_0 ?_
  refine s_iload_n (pc := 1) 1 rfl rfl dX6_kinds_1 ?_
  refine s_iload_n (pc := 2) 2 rfl rfl dX6_kinds_2 ?_
  refine s_cvi2 (pc := 3) (c_X6_rpB1 hR hO hb) ml_X6_257 mw_X6_refusalOfPairs rfl (by decide) (Nat.le_of_ble_eq_true rfl) dX6_kinds_3 ?_
  refine s_istore_n (pc := 6) 3 rfl (by decide) rfl dX6_kinds_6 ?_
  refine s_iload_n (pc := 7) 3 rfl rfl dX6_kinds_7 ?_
  refine s_if_eq (pc := 8) 15 dX6_kinds_8 (by decide) (fun c_8 => ?_) (fun c_8 => ?_)
  · exfalso; exact absurd c_8 (by decide)
  · refine s_iload_n (pc := 11) 3 rfl rfl dX6_kinds_11 ?_
    refine s_goto (pc := 12) 21 dX6_kinds_12 (by decide) ?_
    refine s_iret (pc := 21) dX6_kinds_21 (PostE.of hp ?_ ?_)
    · rfl
    · rfl

set_option maxRecDepth 20000 in
theorem c_X6_kindsB2 {i : Nat} {s : Int32} {a : Nat → Nat} {h : Hp} (hR : RC a h) (hO : OkA a) (hm : h.1 1 0 = nI 6) (hi : i < a 0) (hb : s < 0 ∨ nI 6 ≤ s) : CT 6 yX6_kinds cX6_kinds 4 (some .int) [.ref 0, .int (nI i), .int s] h (some (.int (-1))) (h) := by
  refine CT.of (own := RX6) rfl (by decide) (ro_i _) [.ref 0, .int (nI i), .int s, .null] rfl (Nat.le_of_ble_eq_true rfl) (fun E hp => ?_)
  refine s_aload_n (pc := 0) 0 rfl rfl dX6_kinds_0 ?_
  refine s_iload_n (pc := 1) 1 rfl rfl dX6_kinds_1 ?_
  refine s_iload_n (pc := 2) 2 rfl rfl dX6_kinds_2 ?_
  refine s_cvi2 (pc := 3) (c_X6_rpB2 hR hO hm hi hb) ml_X6_257 mw_X6_refusalOfPairs rfl (by decide) (Nat.le_of_ble_eq_true rfl) dX6_kinds_3 ?_
  refine s_istore_n (pc := 6) 3 rfl (by decide) rfl dX6_kinds_6 ?_
  refine s_iload_n (pc := 7) 3 rfl rfl dX6_kinds_7 ?_
  refine s_if_eq (pc := 8) 15 dX6_kinds_8 (by decide) (fun c_8 => ?_) (fun c_8 => ?_)
  · exfalso; exact absurd c_8 (by decide)
  · refine s_iload_n (pc := 11) 3 rfl rfl dX6_kinds_11 ?_
    refine s_goto (pc := 12) 21 dX6_kinds_12 (by decide) ?_
    refine s_iret (pc := 21) dX6_kinds_21 (PostE.of hp ?_ ?_)
    · rfl
    · rfl

set_option maxRecDepth 20000 in
theorem c_X6_kindsM {i q : Nat} {a : Nat → Nat} {h : Hp} (hR : RC a h) (hO : OkA a) (hm : h.1 1 0 = nI 6) (hi : i < a 0) (hk : q < 6) (hz : h.1 2 q = -1) : CT 6 yX6_kinds cX6_kinds 4 (some .int) [.ref 0, .int (nI i), .int (nI q)] h (some (.int (-3))) (finC h 1) := by
  refine CT.of (own := RX6) rfl (by decide) (ro_i _) [.ref 0, .int (nI i), .int (nI q), .null] rfl (Nat.le_of_ble_eq_true rfl) (fun E hp => ?_)
  refine s_aload_n (pc := 0) 0 rfl rfl dX6_kinds_0 ?_
  refine s_iload_n (pc := 1) 1 rfl rfl dX6_kinds_1 ?_
  refine s_iload_n (pc := 2) 2 rfl rfl dX6_kinds_2 ?_
  refine s_cvi2 (pc := 3) (c_X6_rpM hR hO hm hi hk hz) ml_X6_257 mw_X6_refusalOfPairs rfl (by decide) (Nat.le_of_ble_eq_true rfl) dX6_kinds_3 ?_
  refine s_istore_n (pc := 6) 3 rfl (by decide) rfl dX6_kinds_6 ?_
  refine s_iload_n (pc := 7) 3 rfl rfl dX6_kinds_7 ?_
  refine s_if_eq (pc := 8) 15 dX6_kinds_8 (by decide) (fun c_8 => ?_) (fun c_8 => ?_)
  · exfalso; exact absurd c_8 (by decide)
  · refine s_iload_n (pc := 11) 3 rfl rfl dX6_kinds_11 ?_
    refine s_goto (pc := 12) 21 dX6_kinds_12 (by decide) ?_
    refine s_iret (pc := 21) dX6_kinds_21 (PostE.of hp ?_ ?_)
    · rfl
    · rfl

set_option maxRecDepth 20000 in
theorem c_X6_kindsS {i q m : Nat} {a : Nat → Nat} {h : Hp} (hR : RC a h) (hO : OkA a) (hm : h.1 1 0 = nI 6) (hi : i < a 0) (hk : q < 6) (hz : h.1 2 q = nI m) (hz6 : m ≤ 40) (ho : ¬ m % 2 = 0) : CT 6 yX6_kinds cX6_kinds 4 (some .int) [.ref 0, .int (nI i), .int (nI q)] h (some (.int (-3))) (finC h 5) := by
  refine CT.of (own := RX6) rfl (by decide) (ro_i _) [.ref 0, .int (nI i), .int (nI q), .null] rfl (Nat.le_of_ble_eq_true rfl) (fun E hp => ?_)
  refine s_aload_n (pc := 0) 0 rfl rfl dX6_kinds_0 ?_
  refine s_iload_n (pc := 1) 1 rfl rfl dX6_kinds_1 ?_
  refine s_iload_n (pc := 2) 2 rfl rfl dX6_kinds_2 ?_
  refine s_cvi2 (pc := 3) (c_X6_rpS hR hO hm hi hk hz hz6 ho) ml_X6_257 mw_X6_refusalOfPairs rfl (by decide) (Nat.le_of_ble_eq_true rfl) dX6_kinds_3 ?_
  refine s_istore_n (pc := 6) 3 rfl (by decide) rfl dX6_kinds_6 ?_
  refine s_iload_n (pc := 7) 3 rfl rfl dX6_kinds_7 ?_
  refine s_if_eq (pc := 8) 15 dX6_kinds_8 (by decide) (fun c_8 => ?_) (fun c_8 => ?_)
  · exfalso; exact absurd c_8 (by decide)
  · refine s_iload_n (pc := 11) 3 rfl rfl dX6_kinds_11 ?_
    refine s_goto (pc := 12) 21 dX6_kinds_12 (by decide) ?_
    refine s_iret (pc := 21) dX6_kinds_21 (PostE.of hp ?_ ?_)
    · rfl
    · rfl

set_option maxRecDepth 20000 in
theorem c_X6_kindsU {i q m : Nat} {a : Nat → Nat} {h : Hp} (hR : RC a h) (hO : OkA a) (hm : h.1 1 0 = nI 6) (hi : i < a 0) (hk : q < 6) (hz : h.1 2 q = nI m) (hz6 : m ≤ 40) (ho : m % 2 = 0) (hu : ¬ ∀ j, j < m → pok (h.1 (3 + 1 + q)) j = true) : CT 6 yX6_kinds cX6_kinds 4 (some .int) [.ref 0, .int (nI i), .int (nI q)] h (some (.int (-3))) (finC h 3) := by
  refine CT.of (own := RX6) rfl (by decide) (ro_i _) [.ref 0, .int (nI i), .int (nI q), .null] rfl (Nat.le_of_ble_eq_true rfl) (fun E hp => ?_)
  refine s_aload_n (pc := 0) 0 rfl rfl dX6_kinds_0 ?_
  refine s_iload_n (pc := 1) 1 rfl rfl dX6_kinds_1 ?_
  refine s_iload_n (pc := 2) 2 rfl rfl dX6_kinds_2 ?_
  refine s_cvi2 (pc := 3) (c_X6_rpU hR hO hm hi hk hz hz6 ho hu) ml_X6_257 mw_X6_refusalOfPairs rfl (by decide) (Nat.le_of_ble_eq_true rfl) dX6_kinds_3 ?_
  refine s_istore_n (pc := 6) 3 rfl (by decide) rfl dX6_kinds_6 ?_
  refine s_iload_n (pc := 7) 3 rfl rfl dX6_kinds_7 ?_
  refine s_if_eq (pc := 8) 15 dX6_kinds_8 (by decide) (fun c_8 => ?_) (fun c_8 => ?_)
  · exfalso; exact absurd c_8 (by decide)
  · refine s_iload_n (pc := 11) 3 rfl rfl dX6_kinds_11 ?_
    refine s_goto (pc := 12) 21 dX6_kinds_12 (by decide) ?_
    refine s_iret (pc := 21) dX6_kinds_21 (PostE.of hp ?_ ?_)
    · rfl
    · rfl

set_option maxRecDepth 20000 in
theorem c_X6_testB1 {s x : Int32} {a : Nat → Nat} {h : Hp} (hR : RC a h) (hO : OkA a) (hb : s < 0 ∨ nI (a 0) ≤ s) : CT 6 yX6_test cX6_test 9 (some .int) [.ref 0, .int s, .int x] h (some (.int (-1))) (h) := by
  refine CT.of (own := RX6) rfl (by decide) (ro_i _) [.ref 0, .int s, .int x, .null, .null, .null, .null, .null, .null] rfl (Nat.le_of_ble_eq_true rfl) (fun E hp => ?_)
  refine s_aload_n (pc := 0) 0 rfl rfl dX6_test_0 ?_
  refine s_iload_n (pc := 1) 1 rfl rfl dX6_test_1 ?_
  refine s_iload_n (pc := 2) 2 rfl rfl dX6_test_2 ?_
  refine s_cvi2 (pc := 3) (c_X6_rpB1 hR hO hb) ml_X6_257 mw_X6_refusalOfPairs rfl (by decide) (Nat.le_of_ble_eq_true rfl) dX6_test_3 ?_
  refine s_istore_n (pc := 6) 3 rfl (by decide) rfl dX6_test_6 ?_
  refine s_iload_n (pc := 7) 3 rfl rfl dX6_test_7 ?_
  refine s_if_eq (pc := 8) 13 dX6_test_8 (by decide) (fun c_8 => ?_) (fun c_8 => ?_)
  · exfalso; exact absurd c_8 (by decide)
  · refine s_iload_n (pc := 11) 3 rfl rfl dX6_test_11 ?_
    refine s_iret (pc := 12) dX6_test_12 (PostE.of hp ?_ ?_)
    · rfl
    · rfl

set_option maxRecDepth 20000 in
theorem c_X6_testB2 {i : Nat} {s : Int32} {a : Nat → Nat} {h : Hp} (hR : RC a h) (hO : OkA a) (hm : h.1 1 0 = nI 6) (hi : i < a 0) (hb : s < 0 ∨ nI 6 ≤ s) : CT 6 yX6_test cX6_test 9 (some .int) [.ref 0, .int (nI i), .int s] h (some (.int (-1))) (h) := by
  refine CT.of (own := RX6) rfl (by decide) (ro_i _) [.ref 0, .int (nI i), .int s, .null, .null, .null, .null, .null, .null] rfl (Nat.le_of_ble_eq_true rfl) (fun E hp => ?_)
  refine s_aload_n (pc := 0) 0 rfl rfl dX6_test_0 ?_
  refine s_iload_n (pc := 1) 1 rfl rfl dX6_test_1 ?_
  refine s_iload_n (pc := 2) 2 rfl rfl dX6_test_2 ?_
  refine s_cvi2 (pc := 3) (c_X6_rpB2 hR hO hm hi hb) ml_X6_257 mw_X6_refusalOfPairs rfl (by decide) (Nat.le_of_ble_eq_true rfl) dX6_test_3 ?_
  refine s_istore_n (pc := 6) 3 rfl (by decide) rfl dX6_test_6 ?_
  refine s_iload_n (pc := 7) 3 rfl rfl dX6_test_7 ?_
  refine s_if_eq (pc := 8) 13 dX6_test_8 (by decide) (fun c_8 => ?_) (fun c_8 => ?_)
  · exfalso; exact absurd c_8 (by decide)
  · refine s_iload_n (pc := 11) 3 rfl rfl dX6_test_11 ?_
    refine s_iret (pc := 12) dX6_test_12 (PostE.of hp ?_ ?_)
    · rfl
    · rfl

set_option maxRecDepth 20000 in
theorem c_X6_testM {i q : Nat} {a : Nat → Nat} {h : Hp} (hR : RC a h) (hO : OkA a) (hm : h.1 1 0 = nI 6) (hi : i < a 0) (hk : q < 6) (hz : h.1 2 q = -1) : CT 6 yX6_test cX6_test 9 (some .int) [.ref 0, .int (nI i), .int (nI q)] h (some (.int (-3))) (finC h 1) := by
  refine CT.of (own := RX6) rfl (by decide) (ro_i _) [.ref 0, .int (nI i), .int (nI q), .null, .null, .null, .null, .null, .null] rfl (Nat.le_of_ble_eq_true rfl) (fun E hp => ?_)
  refine s_aload_n (pc := 0) 0 rfl rfl dX6_test_0 ?_
  refine s_iload_n (pc := 1) 1 rfl rfl dX6_test_1 ?_
  refine s_iload_n (pc := 2) 2 rfl rfl dX6_test_2 ?_
  refine s_cvi2 (pc := 3) (c_X6_rpM hR hO hm hi hk hz) ml_X6_257 mw_X6_refusalOfPairs rfl (by decide) (Nat.le_of_ble_eq_true rfl) dX6_test_3 ?_
  refine s_istore_n (pc := 6) 3 rfl (by decide) rfl dX6_test_6 ?_
  refine s_iload_n (pc := 7) 3 rfl rfl dX6_test_7 ?_
  refine s_if_eq (pc := 8) 13 dX6_test_8 (by decide) (fun c_8 => ?_) (fun c_8 => ?_)
  · exfalso; exact absurd c_8 (by decide)
  · refine s_iload_n (pc := 11) 3 rfl rfl dX6_test_11 ?_
    refine s_iret (pc := 12) dX6_test_12 (PostE.of hp ?_ ?_)
    · rfl
    · rfl

set_option maxRecDepth 20000 in
theorem c_X6_testS {i q m : Nat} {a : Nat → Nat} {h : Hp} (hR : RC a h) (hO : OkA a) (hm : h.1 1 0 = nI 6) (hi : i < a 0) (hk : q < 6) (hz : h.1 2 q = nI m) (hz6 : m ≤ 40) (ho : ¬ m % 2 = 0) : CT 6 yX6_test cX6_test 9 (some .int) [.ref 0, .int (nI i), .int (nI q)] h (some (.int (-3))) (finC h 5) := by
  refine CT.of (own := RX6) rfl (by decide) (ro_i _) [.ref 0, .int (nI i), .int (nI q), .null, .null, .null, .null, .null, .null] rfl (Nat.le_of_ble_eq_true rfl) (fun E hp => ?_)
  refine s_aload_n (pc := 0) 0 rfl rfl dX6_test_0 ?_
  refine s_iload_n (pc := 1) 1 rfl rfl dX6_test_1 ?_
  refine s_iload_n (pc := 2) 2 rfl rfl dX6_test_2 ?_
  refine s_cvi2 (pc := 3) (c_X6_rpS hR hO hm hi hk hz hz6 ho) ml_X6_257 mw_X6_refusalOfPairs rfl (by decide) (Nat.le_of_ble_eq_true rfl) dX6_test_3 ?_
  refine s_istore_n (pc := 6) 3 rfl (by decide) rfl dX6_test_6 ?_
  refine s_iload_n (pc := 7) 3 rfl rfl dX6_test_7 ?_
  refine s_if_eq (pc := 8) 13 dX6_test_8 (by decide) (fun c_8 => ?_) (fun c_8 => ?_)
  · exfalso; exact absurd c_8 (by decide)
  · refine s_iload_n (pc := 11) 3 rfl rfl dX6_test_11 ?_
    refine s_iret (pc := 12) dX6_test_12 (PostE.of hp ?_ ?_)
    · rfl
    · rfl

set_option maxRecDepth 20000 in
theorem c_X6_testU {i q m : Nat} {a : Nat → Nat} {h : Hp} (hR : RC a h) (hO : OkA a) (hm : h.1 1 0 = nI 6) (hi : i < a 0) (hk : q < 6) (hz : h.1 2 q = nI m) (hz6 : m ≤ 40) (ho : m % 2 = 0) (hu : ¬ ∀ j, j < m → pok (h.1 (3 + 1 + q)) j = true) : CT 6 yX6_test cX6_test 9 (some .int) [.ref 0, .int (nI i), .int (nI q)] h (some (.int (-3))) (finC h 3) := by
  refine CT.of (own := RX6) rfl (by decide) (ro_i _) [.ref 0, .int (nI i), .int (nI q), .null, .null, .null, .null, .null, .null] rfl (Nat.le_of_ble_eq_true rfl) (fun E hp => ?_)
  refine s_aload_n (pc := 0) 0 rfl rfl dX6_test_0 ?_
  refine s_iload_n (pc := 1) 1 rfl rfl dX6_test_1 ?_
  refine s_iload_n (pc := 2) 2 rfl rfl dX6_test_2 ?_
  refine s_cvi2 (pc := 3) (c_X6_rpU hR hO hm hi hk hz hz6 ho hu) ml_X6_257 mw_X6_refusalOfPairs rfl (by decide) (Nat.le_of_ble_eq_true rfl) dX6_test_3 ?_
  refine s_istore_n (pc := 6) 3 rfl (by decide) rfl dX6_test_6 ?_
  refine s_iload_n (pc := 7) 3 rfl rfl dX6_test_7 ?_
  refine s_if_eq (pc := 8) 13 dX6_test_8 (by decide) (fun c_8 => ?_) (fun c_8 => ?_)
  · exfalso; exact absurd c_8 (by decide)
  · refine s_iload_n (pc := 11) 3 rfl rfl dX6_test_11 ?_
    refine s_iret (pc := 12) dX6_test_12 (PostE.of hp ?_ ?_)
    · rfl
    · rfl

set_option maxRecDepth 20000 in
theorem c_X6_kindsO {i q u : Nat} {a : Nat → Nat} {h : Hp} (hR : RC a h) (hO : OkA a) (hm : h.1 1 0 = nI 6) (hi : i < a 0) (hk : q < 6) (hz : h.1 2 q = nI (2 * u)) (hz6 : 2 * u ≤ 40) (hu : ∀ j, j < 2 * u → pok (h.1 (3 + 1 + q)) j = true) : CT 6 yX6_kinds cX6_kinds 4 (some .int) [.ref 0, .int (nI i), .int (nI q)] h (some (.int (nI (kndN a i (h.1 (3 + 1 + q)) u)))) (h) := by
  refine CT.of (own := RX6) rfl (by decide) (ro_i _) [.ref 0, .int (nI i), .int (nI q), .null] rfl (Nat.le_of_ble_eq_true rfl) (fun E hp => ?_)
  refine s_aload_n (pc := 0) 0 rfl rfl dX6_kinds_0 ?_
  refine s_iload_n (pc := 1) 1 rfl rfl dX6_kinds_1 ?_
  refine s_iload_n (pc := 2) 2 rfl rfl dX6_kinds_2 ?_
  refine s_cvi2 (pc := 3) (c_X6_rpO hR hO hm hi hk hz hz6 (by omega) hu) ml_X6_257 mw_X6_refusalOfPairs rfl (by decide) (Nat.le_of_ble_eq_true rfl) dX6_kinds_3 ?_
  refine s_istore_n (pc := 6) 3 rfl (by decide) rfl dX6_kinds_6 ?_
  refine s_iload_n (pc := 7) 3 rfl rfl dX6_kinds_7 ?_
  refine s_if_eqN (pc := 8) (by omega) 15 dX6_kinds_8 (by decide) (fun c_8 => ?_) (fun c_8 => ?_)
  · refine s_aload_n (pc := 15) 0 rfl rfl dX6_kinds_15 ?_
    refine s_iload_n (pc := 16) 1 rfl rfl dX6_kinds_16 ?_
    refine s_iload_n (pc := 17) 2 rfl rfl dX6_kinds_17 ?_
    refine s_cvi2 (pc := 18) (c_X6_possibleKinds hR hO hi hk hz hz6 hu) ml_X6_260 mw_X6_possibleKinds rfl (by decide) (Nat.le_of_ble_eq_true rfl) dX6_kinds_18 ?_
    refine s_iret (pc := 21) dX6_kinds_21 (PostE.of hp ?_ ?_)
    · rfl
    · rfl
  · exfalso; omega

set_option maxRecDepth 20000 in
theorem c_X6_testN {i q u : Nat} {a : Nat → Nat} {h : Hp} (hR : RC a h) (hO : OkA a) (hm : h.1 1 0 = nI 6) (hi : i < a 0) (hk : q < 6) (hz : h.1 2 q = nI (2 * u)) (hz6 : 2 * u ≤ 40) (hu : ∀ j, j < 2 * u → pok (h.1 (3 + 1 + q)) j = true) (h0 : kndN a i (h.1 (3 + 1 + q)) u = 0) : CT 6 yX6_test cX6_test 9 (some .int) [.ref 0, .int (nI i), .int (nI q)] h (some (.int (-9))) (h) := by
  have kl : kndN a i (h.1 (3 + 1 + q)) u < 64 := bitsU_lt64 _ (by decide)
  refine CT.of (own := RX6) rfl (by decide) (ro_i _) [.ref 0, .int (nI i), .int (nI q), .null, .null, .null, .null, .null, .null] rfl (Nat.le_of_ble_eq_true rfl) (fun E hp => ?_)
  refine s_aload_n (pc := 0) 0 rfl rfl dX6_test_0 ?_
  refine s_iload_n (pc := 1) 1 rfl rfl dX6_test_1 ?_
  refine s_iload_n (pc := 2) 2 rfl rfl dX6_test_2 ?_
  refine s_cvi2 (pc := 3) (c_X6_rpO hR hO hm hi hk hz hz6 (by omega) hu) ml_X6_257 mw_X6_refusalOfPairs rfl (by decide) (Nat.le_of_ble_eq_true rfl) dX6_test_3 ?_
  refine s_istore_n (pc := 6) 3 rfl (by decide) rfl dX6_test_6 ?_
  refine s_iload_n (pc := 7) 3 rfl rfl dX6_test_7 ?_
  refine s_if_eqN (pc := 8) (by omega) 13 dX6_test_8 (by decide) (fun c_8 => ?_) (fun c_8 => ?_)
  · refine s_aload_n (pc := 13) 0 rfl rfl dX6_test_13 ?_
    refine s_iload_n (pc := 14) 1 rfl rfl dX6_test_14 ?_
    refine s_iload_n (pc := 15) 2 rfl rfl dX6_test_15 ?_
    refine s_cvi2 (pc := 16) (c_X6_possibleKinds hR hO hi hk hz hz6 hu) ml_X6_260 mw_X6_possibleKinds rfl (by decide) (Nat.le_of_ble_eq_true rfl) dX6_test_16 ?_
    refine s_istore (pc := 19) (by decide) rfl dX6_test_19 ?_
    refine s_iload (pc := 21) rfl dX6_test_21 ?_
    refine s_if_neN (pc := 23) (by omega) 29 dX6_test_23 (by decide) (fun c_23 => ?_) (fun c_23 => ?_)
    · exfalso; omega
    · refine s_bipush (pc := 26) (k_bm9) dX6_test_26 ?_
      refine s_iret (pc := 28) dX6_test_28 (PostE.of hp ?_ ?_)
      · rfl
      · rfl
  · exfalso; omega

set_option maxRecDepth 20000 in
theorem c_X6_testO {i q u : Nat} {a : Nat → Nat} {h : Hp} (hR : RC a h) (hO : OkA a) (hm : h.1 1 0 = nI 6) (hi : i < a 0) (hk : q < 6) (hz : h.1 2 q = nI (2 * u)) (hz6 : 2 * u ≤ 40) (hu : ∀ j, j < 2 * u → pok (h.1 (3 + 1 + q)) j = true) (h0 : ¬ kndN a i (h.1 (3 + 1 + q)) u = 0) : CT 7 yX6_test cX6_test 9 (some .int) [.ref 0, .int (nI i), .int (nI q)] h (some (.int (nI (tsN (fun n => gpN a i (kndN a i (h.1 (3 + 1 + q)) u) (a 1 + n) 6) 100).1))) (ui h 0 10 (nI (tsN (fun n => gpN a i (kndN a i (h.1 (3 + 1 + q)) u) (a 1 + n) 6) 100).2)) := by
  obtain ⟨⟨o0, o1, o2, o3, o4, o5, o6⟩, os⟩ := id hO
  have o64 := hO.in64
  have hC := hR.1
  obtain ⟨⟨r0, r1, r2, r4, r5, r6⟩, rs, P, rp, rP, rt⟩ := id hC
  have rg := hR.2
  have kl : kndN a i (h.1 (3 + 1 + q)) u < 64 := bitsU_lt64 _ (by decide)
  refine CT.of (own := RX6) rfl (by decide) (ro_i _) [.ref 0, .int (nI i), .int (nI q), .null, .null, .null, .null, .null, .null] rfl (Nat.le_of_ble_eq_true rfl) (fun E hp => ?_)
  refine s_aload_n (pc := 0) 0 rfl rfl dX6_test_0 ?_
  refine s_iload_n (pc := 1) 1 rfl rfl dX6_test_1 ?_
  refine s_iload_n (pc := 2) 2 rfl rfl dX6_test_2 ?_
  refine s_cvi2 (pc := 3) (c_X6_rpO hR hO hm hi hk hz hz6 (by omega) hu) ml_X6_257 mw_X6_refusalOfPairs rfl (by decide) (Nat.le_of_ble_eq_true rfl) dX6_test_3 ?_
  refine s_istore_n (pc := 6) 3 rfl (by decide) rfl dX6_test_6 ?_
  refine s_iload_n (pc := 7) 3 rfl rfl dX6_test_7 ?_
  refine s_if_eqN (pc := 8) (by omega) 13 dX6_test_8 (by decide) (fun c_8 => ?_) (fun c_8 => ?_)
  · refine s_aload_n (pc := 13) 0 rfl rfl dX6_test_13 ?_
    refine s_iload_n (pc := 14) 1 rfl rfl dX6_test_14 ?_
    refine s_iload_n (pc := 15) 2 rfl rfl dX6_test_15 ?_
    refine s_cvi2 (pc := 16) (c_X6_possibleKinds hR hO hi hk hz hz6 hu) ml_X6_260 mw_X6_possibleKinds rfl (by decide) (Nat.le_of_ble_eq_true rfl) dX6_test_16 ?_
    refine s_istore (pc := 19) (by decide) rfl dX6_test_19 ?_
    refine s_iload (pc := 21) rfl dX6_test_21 ?_
    refine s_if_neN (pc := 23) (by omega) 29 dX6_test_23 (by decide) (fun c_23 => ?_) (fun c_23 => ?_)
    · refine s_iconst (pc := 29) (k_i0N) dX6_test_29 ?_
      refine s_istore (pc := 30) (by decide) rfl dX6_test_30 ?_
      refine s_bipush (pc := 32) (k_b7N) dX6_test_32 ?_
      refine s_istore (pc := 34) (by decide) rfl dX6_test_34 ?_
      refine s_iconst (pc := 36) (k_i0N) dX6_test_36 ?_
      refine s_istore (pc := 37) (by decide) rfl dX6_test_37 ?_
      suffices lp_39 : ∀ n, n ≤ 100 → ∀ zz, WW E cX6_test RX6 9 _ 39 [.ref 0, .int (nI i), .int (nI q), .int (nI 0), .int (nI (kndN a i (h.1 (3 + 1 + q)) u)), .int (nI (tsN (fun n => gpN a i (kndN a i (h.1 (3 + 1 + q)) u) (a 1 + n) 6) n).1), .int (nI (tsN (fun n => gpN a i (kndN a i (h.1 (3 + 1 + q)) u) (a 1 + n) 6) n).2), .int (nI n), zz] (h) [] from lp_39 0 (by omega) _
      refine lpi 100 (fun n hk_n ih_39 => ?_)
      intro zz
      refine s_iload (pc := 39) rfl dX6_test_39 ?_
      refine s_bipush (pc := 41) (k_b99N) dX6_test_41 ?_
      refine s_icmp_gtN (pc := 43) (by omega) (by omega) 89 dX6_test_43 (by decide) (fun c_43 => ?_) (fun c_43 => ?_)
      · obtain rfl : n = 100 := by omega
        refine s_aload_n (pc := 89) 0 rfl rfl dX6_test_89 ?_
        refine s_iload (pc := 90) rfl dX6_test_90 ?_
        refine s_puti (pc := 92) fl_X6_69 fw_6_10 rfl rfl dX6_test_92 ?_
        refine s_iload (pc := 95) rfl dX6_test_95 ?_
        refine s_iret (pc := 97) dX6_test_97 (PostE.of hp ?_ ?_)
        · rfl
        · rfl
      · refine s_aload_n (pc := 46) 0 rfl rfl dX6_test_46 ?_
        refine s_getr (pc := 47) (b := 23) fl_X6_27 rfl rfl rfl dX6_test_47 ?_
        refine s_iload_n (pc := 50) 1 rfl rfl dX6_test_50 ?_
        refine s_iload (pc := 51) rfl dX6_test_51 ?_
        refine s_aload_n (pc := 53) 0 rfl rfl dX6_test_53 ?_
        refine s_getr (pc := 54) (b := 23) fl_X6_27 rfl rfl rfl dX6_test_54 ?_
        refine s_getiE (pc := 57) fl_X6_174 rfl rfl r1 dX6_test_57 ?_
        refine s_iload (pc := 60) rfl dX6_test_60 ?_
        refine s_iaddN (pc := 62) dX6_test_62 ?_
        refine s_cvi3 (pc := 63) (c_X2_greatestPart hC hO hi kl (by omega)) ml_X6_263 mw_X2_greatestPart rfl (by decide) (Nat.le_of_ble_eq_true rfl) dX6_test_63 ?_
        refine s_istore (pc := 66) (by decide) rfl dX6_test_66 ?_
        have gl := gp_le a i (kndN a i (h.1 (3 + 1 + q)) u) (a 1 + n) 6
        have tl := ts_le (fun n => gpN a i (kndN a i (h.1 (3 + 1 + q)) u) (a 1 + n) 6) n
        refine s_iload (pc := 68) rfl dX6_test_68 ?_
        refine s_iload (pc := 70) rfl dX6_test_70 ?_
        refine s_icmp_geN (pc := 72) (by omega) (by omega) 83 dX6_test_72 (by decide) (fun c_72 => ?_) (fun c_72 => ?_)
        · refine s_iincN (pc := 83) rfl (by decide) rfl dX6_test_83 ?_
          refine s_goto (pc := 86) 39 dX6_test_86 (by decide) ?_
          have gl := gp_le a i (kndN a i (h.1 (3 + 1 + q)) u) (a 1 + n) 6
          first | (have e1 : n = (tsN (fun n => gpN a i (kndN a i (h.1 (3 + 1 + q)) u) (a 1 + n) 6) (n + 1)).1 := (by simp only [tsN]; rw [if_pos (show gpN a i (kndN a i (h.1 (3 + 1 + q)) u) (a 1 + n) 6 < (tsN (fun n => gpN a i (kndN a i (h.1 (3 + 1 + q)) u) (a 1 + n) 6) n).2 by omega)]); have e2 : gpN a i (kndN a i (h.1 (3 + 1 + q)) u) (a 1 + n) 6 = (tsN (fun n => gpN a i (kndN a i (h.1 (3 + 1 + q)) u) (a 1 + n) 6) (n + 1)).2 := (by simp only [tsN]; rw [if_pos (show gpN a i (kndN a i (h.1 (3 + 1 + q)) u) (a 1 + n) 6 < (tsN (fun n => gpN a i (kndN a i (h.1 (3 + 1 + q)) u) (a 1 + n) 6) n).2 by omega)]); have ih := ih_39 (by omega); rw [← e1, ← e2] at ih; exact ih _) | (have e1 : tsN (fun n => gpN a i (kndN a i (h.1 (3 + 1 + q)) u) (a 1 + n) 6) (n + 1) = tsN (fun n => gpN a i (kndN a i (h.1 (3 + 1 + q)) u) (a 1 + n) 6) n := (by simp only [tsN]; rw [if_neg (show ¬ gpN a i (kndN a i (h.1 (3 + 1 + q)) u) (a 1 + n) 6 < (tsN (fun n => gpN a i (kndN a i (h.1 (3 + 1 + q)) u) (a 1 + n) 6) n).2 by omega)]); have ih := ih_39 (by omega); rw [e1] at ih; exact ih _)
        · refine s_iload (pc := 75) rfl dX6_test_75 ?_
          refine s_istore (pc := 77) (by decide) rfl dX6_test_77 ?_
          refine s_iload (pc := 79) rfl dX6_test_79 ?_
          refine s_istore (pc := 81) (by decide) rfl dX6_test_81 ?_
          refine s_iincN (pc := 83) rfl (by decide) rfl dX6_test_83 ?_
          refine s_goto (pc := 86) 39 dX6_test_86 (by decide) ?_
          have gl := gp_le a i (kndN a i (h.1 (3 + 1 + q)) u) (a 1 + n) 6
          first | (have e1 : n = (tsN (fun n => gpN a i (kndN a i (h.1 (3 + 1 + q)) u) (a 1 + n) 6) (n + 1)).1 := (by simp only [tsN]; rw [if_pos (show gpN a i (kndN a i (h.1 (3 + 1 + q)) u) (a 1 + n) 6 < (tsN (fun n => gpN a i (kndN a i (h.1 (3 + 1 + q)) u) (a 1 + n) 6) n).2 by omega)]); have e2 : gpN a i (kndN a i (h.1 (3 + 1 + q)) u) (a 1 + n) 6 = (tsN (fun n => gpN a i (kndN a i (h.1 (3 + 1 + q)) u) (a 1 + n) 6) (n + 1)).2 := (by simp only [tsN]; rw [if_pos (show gpN a i (kndN a i (h.1 (3 + 1 + q)) u) (a 1 + n) 6 < (tsN (fun n => gpN a i (kndN a i (h.1 (3 + 1 + q)) u) (a 1 + n) 6) n).2 by omega)]); have ih := ih_39 (by omega); rw [← e1, ← e2] at ih; exact ih _) | (have e1 : tsN (fun n => gpN a i (kndN a i (h.1 (3 + 1 + q)) u) (a 1 + n) 6) (n + 1) = tsN (fun n => gpN a i (kndN a i (h.1 (3 + 1 + q)) u) (a 1 + n) 6) n := (by simp only [tsN]; rw [if_neg (show ¬ gpN a i (kndN a i (h.1 (3 + 1 + q)) u) (a 1 + n) 6 < (tsN (fun n => gpN a i (kndN a i (h.1 (3 + 1 + q)) u) (a 1 + n) 6) n).2 by omega)]); have ih := ih_39 (by omega); rw [e1] at ih; exact ih _)
    · exfalso; omega
  · exfalso; omega
