theorem cpl_tb : ∀ s, s < 64 → ∀ i, i < 6 → (63 - s).testBit i = !s.testBit i := by decide +kernel
theorem opC_in {s : Nat} (h : s < 64) : nI s ^^^ (-1) = opC true (63 - s) := by
  unfold opC
  rw [if_pos rfl, show 63 - (63 - s) = s by omega]
theorem q_out {a : Nat → Nat} {f : Nat → Int32} {m k x : Nat} (hO : OkA a) (hu : (onc (a 0) (63 - a 5) f m).1 = true) (hk : k ≤ m) (hx : x < 6) (hb : (onc (a 0) (63 - a 5) f k).2.testBit x = true) : ¬ (qst a (yN f) k).1.testBit x = true := by
  have o64 := hO.in64
  have o0 := hO.1.1
  induction k with
  | zero =>
    have hb2 : (63 - a 5).testBit x = true := hb
    rw [cpl_tb _ o64 _ hx] at hb2
    exact fun z => by
      have z2 : (a 5).testBit x = true := z
      rw [z2] at hb2
      exact absurd hb2 Bool.false_ne_true
  | succ k ih =>
    obtain ⟨h1, h2, h3⟩ := onc_1 (onc_le hu hk)
    have e2 := (shp_v o0 h2).2
    rw [onc_t h1 h2 h3] at hb
    have hb2 : (clrN (onc (a 0) (63 - a 5) f k).2 (yN f k)).testBit x = true := hb
    rw [clr_tb _ (onc_lt (by omega) k) _ (by omega) _ hx, Bool.and_eq_true, decide_eq_true_eq] at hb2
    intro z
    have z2 : ((qst a (yN f) k).1 ||| 2 ^ yN f k).testBit x = true := z
    rw [Nat.testBit_or, Bool.or_eq_true, Nat.testBit_two_pow, decide_eq_true_eq] at z2
    rcases z2 with z2 | z2
    · exact ih (by omega) hb2.2 z2
    · exact hb2.1 z2.symm
theorem c_X4_takesG {q : Qs} {i : Nat} {a : Nat → Nat} {h : Hp} (hR : RC a h) (hO : OkA a) (hi : i < a 0) (hq : OkQ a q) (hb : ¬ q.1.testBit i = true) : CT 2 yX4_takes cX4_takes 4 (some .boolean) [.ref 41, .int (nI i)] (setQ h q) (some (.int (bi (qcan a q i = true)))) (if qcan a q i = true then setQ h (qtk a q i) else setQ h q) := by
  by_cases e : qcan a q i = true
  · rw [if_pos e]
    exact (c_X4_takesT hR hO hi hq hb e).ret (bi_cg ⟨fun _ => e, fun _ => trivial⟩)
  · rw [if_neg e]
    exact (c_X4_takesF hR hO hi hq hb e).ret (bi_cg ⟨fun z => z.elim, fun z => e z⟩)
theorem ucp_s0 {h : Hp} {r x s k : Nat} {v : Int32} (hv : v = h.1 r (x + k)) : ui (ucp h r x s 0 k) s k v = ucp h r x s 0 (k + 1) := by
  have e := ucp_s h r x s 0 k hv
  rw [Nat.zero_add] at e
  exact e
def eH (h : Hp) (t d : Nat) : Hp := ui (ui h 50 17 (nI t)) 50 18 (nI d)
theorem eH_17 (h : Hp) (t d v : Nat) : ui (eH h t d) 50 17 (nI v) = eH h v d := hp_ext (fun x y => by
  by_cases e : x = 50
  · subst e
    by_cases e3 : y = 17
    · subst e3; rfl
    · by_cases e4 : y = 18
      · subst e4; rfl
      · simp [eH, ui, e3, e4]
  · simp [eH, ui, e]) (fun _ _ => rfl)
theorem eH_18 (h : Hp) (t d v : Nat) : ui (eH h t d) 50 18 (nI v) = eH h t v := ui_ui _ _ _ _ _
theorem eH_ne {h : Hp} {t d x y : Nat} (hx : x ≠ 50) : (eH h t d).1 x y = h.1 x y := by rw [eH, ui_ne hx, ui_ne hx]
theorem eH_g17 (h : Hp) (t d : Nat) : (eH h t d).1 50 17 = nI t := rfl
theorem eH_g18 (h : Hp) (t d : Nat) : (eH h t d).1 50 18 = nI d := rfl
theorem RM.eH {a : Nat → Nat} {h : Hp} (hA : RM a h) (t d : Nat) : RM a (eH h t d) := fun j hj => (eH_ne (by decide)).trans (hA j hj)
theorem and_all : ∀ n, n ≤ 6 → ∀ s, s < 64 → nI (2 ^ n - 1) &&& (nI s ^^^ (-1)) = nI ((2 ^ n - 1) ^^^ ((2 ^ n - 1) &&& s)) := by decide +kernel
theorem all_lt : ∀ n, n ≤ 6 → ∀ s, s < 64 → (2 ^ n - 1) ^^^ ((2 ^ n - 1) &&& s) < 64 := by decide +kernel
theorem all_tb : ∀ n, n ≤ 6 → ∀ s, s < 64 → ∀ i, i < n → (63 - s).testBit i = ((2 ^ n - 1) ^^^ ((2 ^ n - 1) &&& s)).testBit i := by decide +kernel

set_option maxRecDepth 20000 in
theorem c_X6_orderB {s : Int32} {a : Nat → Nat} {h : Hp} (hR : RC a h) (hO : OkA a) (hm : h.1 1 0 = nI 6) (hb : s < 0 ∨ nI 6 ≤ s) : CT 5 yX6_order cX6_order 4 (some .int) [.ref 0, .int s] h (some (.int (-1))) (h) := by
  obtain ⟨⟨o0, o1, o2, o3, o4, o5, o6⟩, os⟩ := id hO
  have o64 := hO.in64
  have hC := hR.1
  obtain ⟨⟨r0, r1, r2, r4, r5, r6⟩, rs, P, rp, rP, rt⟩ := id hC
  have rg := hR.2
  refine CT.of (own := RX6) rfl (by decide) (ro_i _) [.ref 0, .int s, .null, .null] rfl (Nat.le_of_ble_eq_true rfl) (fun E hp => ?_)
  refine s_aload_n (pc := 0) 0 rfl rfl dX6_order_0 ?_
  refine s_iload_n (pc := 1) 1 rfl rfl dX6_order_1 ?_
  refine s_aload_n (pc := 2) 0 rfl rfl dX6_order_2 ?_
  refine s_getr (pc := 3) (b := 23) fl_X6_27 rfl rfl rfl dX6_order_3 ?_
  refine s_getiE (pc := 6) fl_X6_190 rfl rfl r5 dX6_order_6 ?_
  refine s_iconst (pc := 9) (k_im1) dX6_order_9 ?_
  refine s_ixor (pc := 10) dX6_order_10 ?_
  refine s_cvi2 (pc := 11) (c_X6_rsB hm hb) ml_X6_229 mw_X6_refusalOfShips rfl (by decide) (Nat.le_of_ble_eq_true rfl) dX6_order_11 ?_
  refine s_istore_n (pc := 14) 2 rfl (by decide) rfl dX6_order_14 ?_
  refine s_iload_n (pc := 15) 2 rfl rfl dX6_order_15 ?_
  refine s_if_eq (pc := 16) 21 dX6_order_16 (by decide) (fun c_16 => ?_) (fun c_16 => ?_)
  · exfalso; exact absurd c_16 (by decide)
  · refine s_iload_n (pc := 19) 2 rfl rfl dX6_order_19 ?_
    refine s_iret (pc := 20) dX6_order_20 (PostE.of hp ?_ ?_)
    · rfl
    · rfl

set_option maxRecDepth 20000 in
theorem c_X6_orderE {q : Nat} {a : Nat → Nat} {h : Hp} (hR : RC a h) (hO : OkA a) (hm : h.1 1 0 = nI 6) (hk : q < 6) (h0 : a 0 = 0) : CT 5 yX6_order cX6_order 4 (some .int) [.ref 0, .int (nI q)] h (some (.int (-4))) (h) := by
  obtain ⟨⟨o0, o1, o2, o3, o4, o5, o6⟩, os⟩ := id hO
  have o64 := hO.in64
  have hC := hR.1
  obtain ⟨⟨r0, r1, r2, r4, r5, r6⟩, rs, P, rp, rP, rt⟩ := id hC
  have rg := hR.2
  refine CT.of (own := RX6) rfl (by decide) (ro_i _) [.ref 0, .int (nI q), .null, .null] rfl (Nat.le_of_ble_eq_true rfl) (fun E hp => ?_)
  refine s_aload_n (pc := 0) 0 rfl rfl dX6_order_0 ?_
  refine s_iload_n (pc := 1) 1 rfl rfl dX6_order_1 ?_
  refine s_aload_n (pc := 2) 0 rfl rfl dX6_order_2 ?_
  refine s_getr (pc := 3) (b := 23) fl_X6_27 rfl rfl rfl dX6_order_3 ?_
  refine s_getiE (pc := 6) fl_X6_190 rfl rfl r5 dX6_order_6 ?_
  refine s_iconst (pc := 9) (k_im1) dX6_order_9 ?_
  refine s_ixor (pc := 10) dX6_order_10 ?_
  refine s_cvi2 (pc := 11) (c_X6_rsE hR hO hm hk h0) ml_X6_229 mw_X6_refusalOfShips rfl (by decide) (Nat.le_of_ble_eq_true rfl) dX6_order_11 ?_
  refine s_istore_n (pc := 14) 2 rfl (by decide) rfl dX6_order_14 ?_
  refine s_iload_n (pc := 15) 2 rfl rfl dX6_order_15 ?_
  refine s_if_eq (pc := 16) 21 dX6_order_16 (by decide) (fun c_16 => ?_) (fun c_16 => ?_)
  · exfalso; exact absurd c_16 (by decide)
  · refine s_iload_n (pc := 19) 2 rfl rfl dX6_order_19 ?_
    refine s_iret (pc := 20) dX6_order_20 (PostE.of hp ?_ ?_)
    · rfl
    · rfl

set_option maxRecDepth 20000 in
theorem c_X6_orderM {q : Nat} {a : Nat → Nat} {h : Hp} (hR : RC a h) (hO : OkA a) (hm : h.1 1 0 = nI 6) (hk : q < 6) (h0 : 0 < a 0) (hz : h.1 2 q = -1) : CT 5 yX6_order cX6_order 4 (some .int) [.ref 0, .int (nI q)] h (some (.int (-3))) (finC h 1) := by
  obtain ⟨⟨o0, o1, o2, o3, o4, o5, o6⟩, os⟩ := id hO
  have o64 := hO.in64
  have hC := hR.1
  obtain ⟨⟨r0, r1, r2, r4, r5, r6⟩, rs, P, rp, rP, rt⟩ := id hC
  have rg := hR.2
  refine CT.of (own := RX6) rfl (by decide) (ro_i _) [.ref 0, .int (nI q), .null, .null] rfl (Nat.le_of_ble_eq_true rfl) (fun E hp => ?_)
  refine s_aload_n (pc := 0) 0 rfl rfl dX6_order_0 ?_
  refine s_iload_n (pc := 1) 1 rfl rfl dX6_order_1 ?_
  refine s_aload_n (pc := 2) 0 rfl rfl dX6_order_2 ?_
  refine s_getr (pc := 3) (b := 23) fl_X6_27 rfl rfl rfl dX6_order_3 ?_
  refine s_getiE (pc := 6) fl_X6_190 rfl rfl r5 dX6_order_6 ?_
  refine s_iconst (pc := 9) (k_im1) dX6_order_9 ?_
  refine s_ixor (pc := 10) dX6_order_10 ?_
  refine s_cvi2 (pc := 11) (c_X6_rsM hR hO hm hk h0 hz) ml_X6_229 mw_X6_refusalOfShips rfl (by decide) (Nat.le_of_ble_eq_true rfl) dX6_order_11 ?_
  refine s_istore_n (pc := 14) 2 rfl (by decide) rfl dX6_order_14 ?_
  refine s_iload_n (pc := 15) 2 rfl rfl dX6_order_15 ?_
  refine s_if_eq (pc := 16) 21 dX6_order_16 (by decide) (fun c_16 => ?_) (fun c_16 => ?_)
  · exfalso; exact absurd c_16 (by decide)
  · refine s_iload_n (pc := 19) 2 rfl rfl dX6_order_19 ?_
    refine s_iret (pc := 20) dX6_order_20 (PostE.of hp ?_ ?_)
    · rfl
    · rfl

set_option maxRecDepth 20000 in
theorem c_X6_orderU {q m : Nat} {a : Nat → Nat} {h : Hp} (hR : RC a h) (hO : OkA a) (hm : h.1 1 0 = nI 6) (h0 : 0 < a 0) (hk : q < 6) (hz : h.1 2 q = nI m) (hz6 : m ≤ 40) {f : Nat → Int32} (hf : ∀ j, j < 40 → h.1 (3 + 1 + q) j = f j) (hu : ¬ (onc (a 0) (63 - a 5) f m).1 = true) : CT 5 yX6_order cX6_order 4 (some .int) [.ref 0, .int (nI q)] h (some (.int (-3))) (finC h 3) := by
  obtain ⟨⟨o0, o1, o2, o3, o4, o5, o6⟩, os⟩ := id hO
  have o64 := hO.in64
  have hC := hR.1
  obtain ⟨⟨r0, r1, r2, r4, r5, r6⟩, rs, P, rp, rP, rt⟩ := id hC
  have rg := hR.2
  refine CT.of (own := RX6) rfl (by decide) (ro_i _) [.ref 0, .int (nI q), .null, .null] rfl (Nat.le_of_ble_eq_true rfl) (fun E hp => ?_)
  refine s_aload_n (pc := 0) 0 rfl rfl dX6_order_0 ?_
  refine s_iload_n (pc := 1) 1 rfl rfl dX6_order_1 ?_
  refine s_aload_n (pc := 2) 0 rfl rfl dX6_order_2 ?_
  refine s_getr (pc := 3) (b := 23) fl_X6_27 rfl rfl rfl dX6_order_3 ?_
  refine s_getiE (pc := 6) fl_X6_190 rfl rfl r5 dX6_order_6 ?_
  refine s_iconst (pc := 9) (k_im1) dX6_order_9 ?_
  refine s_ixor (pc := 10) dX6_order_10 ?_
  refine WW.top (opC_in o64) ?_
  refine s_cvi2 (pc := 11) (c_X6_rsU (b := true) (s := 63 - a 5) hR hO hm h0 hk hz hz6 hf (by omega) hu) ml_X6_229 mw_X6_refusalOfShips rfl (by decide) (Nat.le_of_ble_eq_true rfl) dX6_order_11 ?_
  refine s_istore_n (pc := 14) 2 rfl (by decide) rfl dX6_order_14 ?_
  refine s_iload_n (pc := 15) 2 rfl rfl dX6_order_15 ?_
  refine s_if_eq (pc := 16) 21 dX6_order_16 (by decide) (fun c_16 => ?_) (fun c_16 => ?_)
  · exfalso; exact absurd c_16 (by decide)
  · refine s_iload_n (pc := 19) 2 rfl rfl dX6_order_19 ?_
    refine s_iret (pc := 20) dX6_order_20 (PostE.of hp ?_ ?_)
    · rfl
    · rfl

set_option maxRecDepth 20000 in
theorem c_X6_orderO {q m : Nat} {a : Nat → Nat} {h : Hp} (hR : RC a h) (hO : OkA a) (hm : h.1 1 0 = nI 6) (h0 : 0 < a 0) (hk : q < 6) (hz : h.1 2 q = nI m) (hz6 : m ≤ 40) {f : Nat → Int32} (hf : ∀ j, j < 40 → h.1 (3 + 1 + q) j = f j) (hu : (onc (a 0) (63 - a 5) f m).1 = true) (hc : ∀ k, k < m → qcan a (qst a (yN f) k) (yN f k) = true) : CT 5 yX6_order cX6_order 4 (some .int) [.ref 0, .int (nI q)] h (some (.int (nI (qst a (yN f) m).2.2.1))) (ui (setQ h (qst a (yN f) m)) 0 10 (nI (qst a (yN f) m).2.2.2)) := by
  obtain ⟨⟨o0, o1, o2, o3, o4, o5, o6⟩, os⟩ := id hO
  have o64 := hO.in64
  have hC := hR.1
  obtain ⟨⟨r0, r1, r2, r4, r5, r6⟩, rs, P, rp, rP, rt⟩ := id hC
  have rg := hR.2
  have al := fun (b : Nat) (hb : b < m) => onc_all o0 (by omega) hu hb
  refine CT.of (own := RX6) rfl (by decide) (ro_i _) [.ref 0, .int (nI q), .null, .null] rfl (Nat.le_of_ble_eq_true rfl) (fun E hp => ?_)
  refine s_aload_n (pc := 0) 0 rfl rfl dX6_order_0 ?_
  refine s_iload_n (pc := 1) 1 rfl rfl dX6_order_1 ?_
  refine s_aload_n (pc := 2) 0 rfl rfl dX6_order_2 ?_
  refine s_getr (pc := 3) (b := 23) fl_X6_27 rfl rfl rfl dX6_order_3 ?_
  refine s_getiE (pc := 6) fl_X6_190 rfl rfl r5 dX6_order_6 ?_
  refine s_iconst (pc := 9) (k_im1) dX6_order_9 ?_
  refine s_ixor (pc := 10) dX6_order_10 ?_
  refine WW.top (opC_in o64) ?_
  refine s_cvi2 (pc := 11) (c_X6_rsO (b := true) (s := 63 - a 5) hR hO hm h0 hk hz hz6 hf (by omega) hu) ml_X6_229 mw_X6_refusalOfShips rfl (by decide) (Nat.le_of_ble_eq_true rfl) dX6_order_11 ?_
  refine s_istore_n (pc := 14) 2 rfl (by decide) rfl dX6_order_14 ?_
  refine s_iload_n (pc := 15) 2 rfl rfl dX6_order_15 ?_
  refine s_if_eqN (pc := 16) (by omega) 21 dX6_order_16 (by decide) (fun c_16 => ?_) (fun c_16 => ?_)
  · refine s_aload_n (pc := 21) 0 rfl rfl dX6_order_21 ?_
    refine s_getr (pc := 22) (b := 41) fl_X6_43 rfl rfl rfl dX6_order_22 ?_
    refine s_cvn0 (pc := 25) (c_X4_begin hR hO) ml_X6_232 mw_X4_begin rfl (by decide) (Nat.le_of_ble_eq_true rfl) dX6_order_25 ?_
    refine s_iconst (pc := 28) (k_i0N) dX6_order_28 ?_
    refine s_istore_n (pc := 29) 3 rfl (by decide) rfl dX6_order_29 ?_
    suffices lp_30 : ∀ t, t ≤ m → WW E cX6_order RX6 4 _ 30 [.ref 0, .int (nI q), .int (nI 0), .int (nI t)] (setQ h (qst a (yN f) t)) [] from lp_30 0 (by omega)
    refine lpi m (fun t hk_t ih_30 => ?_)
    refine s_iload_n (pc := 30) 3 rfl rfl dX6_order_30 ?_
    refine s_aload_n (pc := 31) 0 rfl rfl dX6_order_31 ?_
    refine s_getr (pc := 32) (b := 1) fl_X6_14 rfl rfl rfl dX6_order_32 ?_
    refine s_getr (pc := 35) (b := 2) fl_X6_121 rfl rfl rfl dX6_order_35 ?_
    refine s_iload_n (pc := 38) 1 rfl rfl dX6_order_38 ?_
    refine s_ialdN (pc := 39) (_) rfl rfl (by omega) ((sQ_ne (by decide)).trans hz) dX6_order_39 ?_
    refine s_icmp_geN (pc := 40) (by omega) (by omega) 73 dX6_order_40 (by decide) (fun c_40 => ?_) (fun c_40 => ?_)
    · obtain rfl : t = m := by omega
      refine s_aload_n (pc := 73) 0 rfl rfl dX6_order_73 ?_
      refine s_aload_n (pc := 74) 0 rfl rfl dX6_order_74 ?_
      refine s_getr (pc := 75) (b := 41) fl_X6_43 rfl rfl rfl dX6_order_75 ?_
      refine s_getiE (pc := 78) fl_X6_236 rfl rfl (show _ = nI (qst a (yN f) t).2.2.2 from rfl) dX6_order_78 ?_
      refine s_puti (pc := 81) fl_X6_69 fw_6_10 rfl rfl dX6_order_81 ?_
      refine s_aload_n (pc := 84) 0 rfl rfl dX6_order_84 ?_
      refine s_getr (pc := 85) (b := 41) fl_X6_43 rfl rfl rfl dX6_order_85 ?_
      refine s_getiE (pc := 88) fl_X6_239 rfl rfl (show _ = nI (qst a (yN f) t).2.2.1 from rfl) dX6_order_88 ?_
      refine s_iret (pc := 91) dX6_order_91 (PostE.of hp ?_ ?_)
      · rfl
      · rfl
    · have al1 := al t (by omega)
      have oq := OkQ.st (g := yN f) (k := t) hO (fun j hj => (al j (by omega)).2.1)
      have nb := q_out hO hu (k := t) (by omega) (show yN f t < 6 by omega) al1.2.2.2.2
      refine s_aload_n (pc := 43) 0 rfl rfl dX6_order_43 ?_
      refine s_getr (pc := 44) (b := 41) fl_X6_43 rfl rfl rfl dX6_order_44 ?_
      refine s_aload_n (pc := 47) 0 rfl rfl dX6_order_47 ?_
      refine s_getr (pc := 48) (b := 1) fl_X6_14 rfl rfl rfl dX6_order_48 ?_
      refine s_getr (pc := 51) (b := 3) fl_X6_111 rfl rfl rfl dX6_order_51 ?_
      refine s_iload_n (pc := 54) 1 rfl rfl dX6_order_54 ?_
      refine s_aald (pc := 55) (b := 3 + 1 + q) (_) rfl rfl (by omega) rfl dX6_order_55 ?_
      refine s_iload_n (pc := 56) 3 rfl rfl dX6_order_56 ?_
      refine s_ialdN (pc := 57) (_) (ly_1 q hk) rfl (by omega) ((sQ_ne (by omega)).trans ((hf _ (by omega)).trans al1.1)) dX6_order_57 ?_
      refine s_cvi1 (pc := 58) (c_X4_takesG hR hO al1.2.1 oq nb) ml_X6_233 mw_X4_takes rfl (by decide) (Nat.le_of_ble_eq_true rfl) dX6_order_58 ?_
      refine s_if_neB (pc := 61) 67 dX6_order_61 (by decide) (fun c_61 => ?_) (fun c_61 => ?_)
      · rw [if_pos c_61]
        refine s_iincN (pc := 67) rfl (by decide) rfl dX6_order_67 ?_
        refine s_goto (pc := 70) 30 dX6_order_70 (by decide) ?_
        exact ih_30 (by omega)
      · exfalso; exact c_61 (hc t (by omega))
  · exfalso; exact absurd c_16 (by decide)

set_option maxRecDepth 20000 in
theorem c_X6_orderN {q m k0 : Nat} {a : Nat → Nat} {h : Hp} (hR : RC a h) (hO : OkA a) (hm : h.1 1 0 = nI 6) (h0 : 0 < a 0) (hk : q < 6) (hz : h.1 2 q = nI m) (hz6 : m ≤ 40) {f : Nat → Int32} (hf : ∀ j, j < 40 → h.1 (3 + 1 + q) j = f j) (hu : (onc (a 0) (63 - a 5) f m).1 = true) (h0m : k0 < m) (hc : ∀ k, k < k0 → qcan a (qst a (yN f) k) (yN f k) = true) (hN : ¬ qcan a (qst a (yN f) k0) (yN f k0) = true) : CT 5 yX6_order cX6_order 4 (some .int) [.ref 0, .int (nI q)] h (some (.int (-9))) (setQ h (qst a (yN f) k0)) := by
  obtain ⟨⟨o0, o1, o2, o3, o4, o5, o6⟩, os⟩ := id hO
  have o64 := hO.in64
  have hC := hR.1
  obtain ⟨⟨r0, r1, r2, r4, r5, r6⟩, rs, P, rp, rP, rt⟩ := id hC
  have rg := hR.2
  have al := fun (b : Nat) (hb : b < m) => onc_all o0 (by omega) hu hb
  refine CT.of (own := RX6) rfl (by decide) (ro_i _) [.ref 0, .int (nI q), .null, .null] rfl (Nat.le_of_ble_eq_true rfl) (fun E hp => ?_)
  refine s_aload_n (pc := 0) 0 rfl rfl dX6_order_0 ?_
  refine s_iload_n (pc := 1) 1 rfl rfl dX6_order_1 ?_
  refine s_aload_n (pc := 2) 0 rfl rfl dX6_order_2 ?_
  refine s_getr (pc := 3) (b := 23) fl_X6_27 rfl rfl rfl dX6_order_3 ?_
  refine s_getiE (pc := 6) fl_X6_190 rfl rfl r5 dX6_order_6 ?_
  refine s_iconst (pc := 9) (k_im1) dX6_order_9 ?_
  refine s_ixor (pc := 10) dX6_order_10 ?_
  refine WW.top (opC_in o64) ?_
  refine s_cvi2 (pc := 11) (c_X6_rsO (b := true) (s := 63 - a 5) hR hO hm h0 hk hz hz6 hf (by omega) hu) ml_X6_229 mw_X6_refusalOfShips rfl (by decide) (Nat.le_of_ble_eq_true rfl) dX6_order_11 ?_
  refine s_istore_n (pc := 14) 2 rfl (by decide) rfl dX6_order_14 ?_
  refine s_iload_n (pc := 15) 2 rfl rfl dX6_order_15 ?_
  refine s_if_eqN (pc := 16) (by omega) 21 dX6_order_16 (by decide) (fun c_16 => ?_) (fun c_16 => ?_)
  · refine s_aload_n (pc := 21) 0 rfl rfl dX6_order_21 ?_
    refine s_getr (pc := 22) (b := 41) fl_X6_43 rfl rfl rfl dX6_order_22 ?_
    refine s_cvn0 (pc := 25) (c_X4_begin hR hO) ml_X6_232 mw_X4_begin rfl (by decide) (Nat.le_of_ble_eq_true rfl) dX6_order_25 ?_
    refine s_iconst (pc := 28) (k_i0N) dX6_order_28 ?_
    refine s_istore_n (pc := 29) 3 rfl (by decide) rfl dX6_order_29 ?_
    suffices lp_30 : ∀ t, t ≤ k0 → WW E cX6_order RX6 4 _ 30 [.ref 0, .int (nI q), .int (nI 0), .int (nI t)] (setQ h (qst a (yN f) t)) [] from lp_30 0 (by omega)
    refine lpi k0 (fun t hk_t ih_30 => ?_)
    refine s_iload_n (pc := 30) 3 rfl rfl dX6_order_30 ?_
    refine s_aload_n (pc := 31) 0 rfl rfl dX6_order_31 ?_
    refine s_getr (pc := 32) (b := 1) fl_X6_14 rfl rfl rfl dX6_order_32 ?_
    refine s_getr (pc := 35) (b := 2) fl_X6_121 rfl rfl rfl dX6_order_35 ?_
    refine s_iload_n (pc := 38) 1 rfl rfl dX6_order_38 ?_
    refine s_ialdN (pc := 39) (_) rfl rfl (by omega) ((sQ_ne (by decide)).trans hz) dX6_order_39 ?_
    refine s_icmp_geN (pc := 40) (by omega) (by omega) 73 dX6_order_40 (by decide) (fun c_40 => ?_) (fun c_40 => ?_)
    · exfalso; omega
    · have al1 := al t (by omega)
      have oq := OkQ.st (g := yN f) (k := t) hO (fun j hj => (al j (by omega)).2.1)
      have nb := q_out hO hu (k := t) (by omega) (show yN f t < 6 by omega) al1.2.2.2.2
      refine s_aload_n (pc := 43) 0 rfl rfl dX6_order_43 ?_
      refine s_getr (pc := 44) (b := 41) fl_X6_43 rfl rfl rfl dX6_order_44 ?_
      refine s_aload_n (pc := 47) 0 rfl rfl dX6_order_47 ?_
      refine s_getr (pc := 48) (b := 1) fl_X6_14 rfl rfl rfl dX6_order_48 ?_
      refine s_getr (pc := 51) (b := 3) fl_X6_111 rfl rfl rfl dX6_order_51 ?_
      refine s_iload_n (pc := 54) 1 rfl rfl dX6_order_54 ?_
      refine s_aald (pc := 55) (b := 3 + 1 + q) (_) rfl rfl (by omega) rfl dX6_order_55 ?_
      refine s_iload_n (pc := 56) 3 rfl rfl dX6_order_56 ?_
      refine s_ialdN (pc := 57) (_) (ly_1 q hk) rfl (by omega) ((sQ_ne (by omega)).trans ((hf _ (by omega)).trans al1.1)) dX6_order_57 ?_
      refine s_cvi1 (pc := 58) (c_X4_takesG hR hO al1.2.1 oq nb) ml_X6_233 mw_X4_takes rfl (by decide) (Nat.le_of_ble_eq_true rfl) dX6_order_58 ?_
      refine s_if_neB (pc := 61) 67 dX6_order_61 (by decide) (fun c_61 => ?_) (fun c_61 => ?_)
      · rw [if_pos c_61]
        refine s_iincN (pc := 67) rfl (by decide) rfl dX6_order_67 ?_
        refine s_goto (pc := 70) 30 dX6_order_70 (by decide) ?_
        refine ih_30 ?_
        rcases Nat.lt_or_eq_of_le hk_t with e | e
        · exact e
        · rw [e] at c_61; exact absurd c_61 hN
      · rw [if_neg c_61]
        refine s_bipush (pc := 64) (k_bm9) dX6_order_64 ?_
        refine s_iret (pc := 66) dX6_order_66 (PostE.of hp ?_ ?_)
        · rfl
        · rw [show t = k0 from Classical.byContradiction fun z => c_61 (hc t (by omega))]
  · exfalso; exact absurd c_16 (by decide)

set_option maxRecDepth 20000 in
theorem c_X7_all {a : Nat → Nat} {h : Hp} (hA : RM a h) (hO : OkA a) : CT 1 yX7_all cX7_all 1 (some .int) [.ref 50] h (some (.int (nI (2 ^ a 0 - 1)))) (h) := by
  obtain ⟨⟨o0, o1, o2, o3, o4, o5, o6⟩, os⟩ := id hO
  have o64 := hO.in64
  have p1 : 1 ≤ 2 ^ a 0 := Nat.one_le_two_pow
  refine CT.of (own := RX7) rfl (by decide) (ro_i _) [.ref 50] rfl (Nat.le_of_ble_eq_true rfl) (fun E hp => ?_)
  refine s_iconst (pc := 0) (k_i1N) dX7_all_0 ?_
  refine s_aload_n (pc := 1) 0 rfl rfl dX7_all_1 ?_
  refine s_getr (pc := 2) (b := 56) fl_X7_25 rfl rfl rfl dX7_all_2 ?_
  refine s_iconst (pc := 5) (k_i0N) dX7_all_5 ?_
  refine s_ialdN (pc := 6) (_) rfl rfl (by omega) (hA _ (by omega)) dX7_all_6 ?_
  refine s_ishl1N (pc := 7) (by omega) dX7_all_7 ?_
  refine s_iconst (pc := 8) (k_i1N) dX7_all_8 ?_
  refine s_isubN (pc := 9) (by omega) dX7_all_9 ?_
  refine s_iret (pc := 10) dX7_all_10 (PostE.of hp ?_ ?_)
  · rfl
  · rfl

set_option maxRecDepth 20000 in
theorem ent_exit {E : Cx} {n t : Nat} {v2 v3 v6 : Value} {h : Hp} (hn : n < 2 ^ 31) (ht : t < 2 ^ 31) (hp : PostE E (some (.int (bi False))) h) : WW E cX7_enters RX7 7 6 30 [.ref 50, .int (nI n), v2, v3, .int (nI 0), .int (nI t), v6] (h) [] := by
  refine s_iload (pc := 30) rfl dX7_enters_30 ?_
  refine s_iload_n (pc := 32) 1 rfl rfl dX7_enters_32 ?_
  refine s_icmp_geN (pc := 33) (by omega) (by omega) 136 dX7_enters_33 (by decide) (fun c_33 => ?_) (fun c_33 => ?_)
  · refine s_iload (pc := 136) rfl dX7_enters_136 ?_
    refine s_iret (pc := 138) dX7_enters_138 (PostE.of hp ?_ ?_)
    · rfl
    · rfl
  · refine s_iload (pc := 36) rfl dX7_enters_36 ?_
    refine s_if_eqN (pc := 38) (by omega) 136 dX7_enters_38 (by decide) (fun c_38 => ?_) (fun c_38 => ?_)
    · refine s_iload (pc := 136) rfl dX7_enters_136 ?_
      refine s_iret (pc := 138) dX7_enters_138 (PostE.of hp ?_ ?_)
      · rfl
      · rfl
    · exfalso; omega

set_option maxRecDepth 20000 in
theorem c_X7_entT {n : Nat} {g : Nat → Nat} {a : Nat → Nat} {h : Hp} (hA : RM a h) (hO : OkA a) (hg : ∀ j, j < n → h.1 61 j = nI (g j) ∧ g j < a 0) (hn7 : n ≤ 6) (hc : ∀ k, k < n → qcan a (qst a g k) (g k) = true) : CT 6 yX7_enters cX7_enters 7 (some .boolean) [.ref 50, .int (nI n)] h (some (.int (bi True))) (eH h (qst a g n).2.2.1 (qst a g n).2.2.2) := by
  obtain ⟨⟨o0, o1, o2, o3, o4, o5, o6⟩, os⟩ := id hO
  have o64 := hO.in64
  refine CT.of (own := RX7) rfl (by decide) (ro_z _) [.ref 50, .int (nI n), .null, .null, .null, .null, .null] rfl (Nat.le_of_ble_eq_true rfl) (fun E hp => ?_)
  refine s_aload_n (pc := 0) 0 rfl rfl dX7_enters_0 ?_
  refine s_getr (pc := 1) (b := 56) fl_X7_25 rfl rfl rfl dX7_enters_1 ?_
  refine s_iconst (pc := 4) (k_i5N) dX7_enters_4 ?_
  refine s_ialdN (pc := 5) (_) rfl rfl (by omega) (hA _ (by omega)) dX7_enters_5 ?_
  refine s_istore_n (pc := 6) 2 rfl (by decide) rfl dX7_enters_6 ?_
  refine s_aload_n (pc := 7) 0 rfl rfl dX7_enters_7 ?_
  refine s_getr (pc := 8) (b := 56) fl_X7_25 rfl rfl rfl dX7_enters_8 ?_
  refine s_iconst (pc := 11) (k_i4N) dX7_enters_11 ?_
  refine s_ialdN (pc := 12) (_) rfl rfl (by omega) (hA _ (by omega)) dX7_enters_12 ?_
  refine s_istore_n (pc := 13) 3 rfl (by decide) rfl dX7_enters_13 ?_
  refine s_iconst (pc := 14) (k_i1N) dX7_enters_14 ?_
  refine s_istore (pc := 15) (by decide) rfl dX7_enters_15 ?_
  refine s_aload_n (pc := 17) 0 rfl rfl dX7_enters_17 ?_
  refine s_iconst (pc := 18) (k_i0N) dX7_enters_18 ?_
  refine s_puti (pc := 19) fl_X7_208 fw_7_17 rfl rfl dX7_enters_19 ?_
  refine s_aload_n (pc := 22) 0 rfl rfl dX7_enters_22 ?_
  refine s_iconst (pc := 23) (k_i0N) dX7_enters_23 ?_
  refine s_puti (pc := 24) fl_X7_211 fw_7_18 rfl rfl dX7_enters_24 ?_
  refine WW.hp (show _ = eH h 0 0 from rfl) ?_
  refine s_iconst (pc := 27) (k_i0N) dX7_enters_27 ?_
  refine s_istore (pc := 28) (by decide) rfl dX7_enters_28 ?_
  suffices lp_30 : ∀ t, t ≤ n → ∀ qs ql qt qd zz, qst a g t = (qs, ql, qt, qd) → WW E cX7_enters RX7 7 _ 30 [.ref 50, .int (nI n), .int (nI qs), .int (nI ql), .int (nI 1), .int (nI t), zz] (eH h qt qd) [] from lp_30 0 (by omega) _ _ _ _ _ rfl
  refine lpi n (fun t hk_t ih_30 => ?_)
  intro qs ql qt qd zz hq
  have hA2 := hA.eH qt qd
  refine s_iload (pc := 30) rfl dX7_enters_30 ?_
  refine s_iload_n (pc := 32) 1 rfl rfl dX7_enters_32 ?_
  refine s_icmp_geN (pc := 33) (by omega) (by omega) 136 dX7_enters_33 (by decide) (fun c_33 => ?_) (fun c_33 => ?_)
  · obtain rfl : t = n := by omega
    rw [hq] at hp
    refine s_iload (pc := 136) rfl dX7_enters_136 ?_
    refine s_iret (pc := 138) dX7_enters_138 (PostE.of hp ?_ ?_)
    · rfl
    · rfl
  · refine s_iload (pc := 36) rfl dX7_enters_36 ?_
    refine s_if_eqN (pc := 38) (by omega) 136 dX7_enters_38 (by decide) (fun c_38 => ?_) (fun c_38 => ?_)
    · exfalso; omega
    · have gt := (hg t (by omega)).2
      have oq := OkQ.st (g := g) (k := t) hO (fun j hj => (hg j (by omega)).2)
      rw [hq] at oq
      have oq1 := oq.2.1
      have oq2 := oq.2.2
      dsimp only at oq1 oq2
      have sl := shift_le a (g t) qs
      have pl : 2 ^ g t < 64 := Nat.pow_lt_pow_right (n := 6) (by decide) (by omega)
      refine s_aload_n (pc := 41) 0 rfl rfl dX7_enters_41 ?_
      refine s_aload_n (pc := 42) 0 rfl rfl dX7_enters_42 ?_
      refine s_getr (pc := 43) (b := 61) fl_X7_41 rfl rfl rfl dX7_enters_43 ?_
      refine s_iload (pc := 46) rfl dX7_enters_46 ?_
      refine s_ialdN (pc := 48) (_) rfl rfl (by omega) ((eH_ne (by decide)).trans (hg _ (by omega)).1) dX7_enters_48 ?_
      refine s_iload_n (pc := 49) 2 rfl rfl dX7_enters_49 ?_
      refine s_cvi2 (pc := 50) (c_X7_shiftedBy hA2 hO gt oq.1 oq.2.1) ml_X7_174 mw_X7_shiftedBy rfl (by decide) (Nat.le_of_ble_eq_true rfl) dX7_enters_50 ?_
      refine s_istore (pc := 53) (by decide) rfl dX7_enters_53 ?_
      have hct := hc t (by omega)
      rw [hq] at hct
      simp only [qcan, decide_eq_true_eq] at hct
      refine s_iload (pc := 55) rfl dX7_enters_55 ?_
      refine s_iconst (pc := 57) (k_i1N) dX7_enters_57 ?_
      refine s_iaddN (pc := 58) dX7_enters_58 ?_
      refine s_aload_n (pc := 59) 0 rfl rfl dX7_enters_59 ?_
      refine s_getr (pc := 60) (b := 56) fl_X7_25 rfl rfl rfl dX7_enters_60 ?_
      refine s_iconst (pc := 63) (k_i2N) dX7_enters_63 ?_
      refine s_ialdN (pc := 64) (_) rfl rfl (by omega) (hA2 _ (by omega)) dX7_enters_64 ?_
      refine s_icmp_gtN (pc := 65) (by omega) (by omega) 72 dX7_enters_65 (by decide) (fun c_65 => ?_) (fun c_65 => ?_)
      · exfalso; omega
      · refine s_iconst (pc := 68) (k_i1N) dX7_enters_68 ?_
        refine s_goto (pc := 69) 73 dX7_enters_69 (by decide) ?_
        refine s_istore (pc := 73) (by decide) rfl dX7_enters_73 ?_
        refine s_iload (pc := 75) rfl dX7_enters_75 ?_
        refine s_iconst (pc := 77) (k_i1N) dX7_enters_77 ?_
        refine s_iaddN (pc := 78) dX7_enters_78 ?_
        refine s_iload_n (pc := 79) 3 rfl rfl dX7_enters_79 ?_
        refine s_icmp_leN (pc := 80) (by omega) (by omega) 100 dX7_enters_80 (by decide) (fun c_80 => ?_) (fun c_80 => ?_)
        · refine s_iload_n (pc := 100) 3 rfl rfl dX7_enters_100 ?_
          refine s_iload (pc := 101) rfl dX7_enters_101 ?_
          refine s_iconst (pc := 103) (k_i1N) dX7_enters_103 ?_
          refine s_iaddN (pc := 104) dX7_enters_104 ?_
          refine s_isubN (pc := 105) (by omega) dX7_enters_105 ?_
          refine s_istore_n (pc := 106) 3 rfl (by decide) rfl dX7_enters_106 ?_
          refine s_aload_n (pc := 107) 0 rfl rfl dX7_enters_107 ?_
          refine s_dup (pc := 108) rfl dX7_enters_108 ?_
          refine s_getiE (pc := 109) fl_X7_211 rfl rfl (eH_g18 _ _ _) dX7_enters_109 ?_
          refine s_iload (pc := 112) rfl dX7_enters_112 ?_
          refine s_iaddN (pc := 114) dX7_enters_114 ?_
          refine s_puti (pc := 115) fl_X7_211 fw_7_18 rfl rfl dX7_enters_115 ?_
          rw [eH_18]
          refine s_iload_n (pc := 118) 2 rfl rfl dX7_enters_118 ?_
          refine s_iconst (pc := 119) (k_i1N) dX7_enters_119 ?_
          refine s_aload_n (pc := 120) 0 rfl rfl dX7_enters_120 ?_
          refine s_getr (pc := 121) (b := 61) fl_X7_41 rfl rfl rfl dX7_enters_121 ?_
          refine s_iload (pc := 124) rfl dX7_enters_124 ?_
          refine s_ialdN (pc := 126) (_) rfl rfl (by omega) ((eH_ne (by decide)).trans (hg _ (by omega)).1) dX7_enters_126 ?_
          refine s_ishl1N (pc := 127) (by omega) dX7_enters_127 ?_
          refine s_iorN (pc := 128) (by omega) (by omega) dX7_enters_128 ?_
          refine s_istore_n (pc := 129) 2 rfl (by decide) rfl dX7_enters_129 ?_
          refine s_iincN (pc := 130) rfl (by decide) rfl dX7_enters_130 ?_
          refine s_goto (pc := 133) 30 dX7_enters_133 (by decide) ?_
          have e : qst a g (t + 1) = (qs ||| 2 ^ g t, ql - (shiftN a (g t) qs + 1), qt, qd + shiftN a (g t) qs) := by
            simp only [qst, hq, qtk]
            rw [if_neg (by omega), if_neg (by omega)]
          exact ih_30 (by omega) _ _ _ _ _ e
        · refine s_aload_n (pc := 83) 0 rfl rfl dX7_enters_83 ?_
          refine s_dup (pc := 84) rfl dX7_enters_84 ?_
          refine s_getiE (pc := 85) fl_X7_208 rfl rfl (eH_g17 _ _ _) dX7_enters_85 ?_
          refine s_iconst (pc := 88) (k_i1N) dX7_enters_88 ?_
          refine s_iaddN (pc := 89) dX7_enters_89 ?_
          refine s_puti (pc := 90) fl_X7_208 fw_7_17 rfl rfl dX7_enters_90 ?_
          rw [eH_17]
          refine s_aload_n (pc := 93) 0 rfl rfl dX7_enters_93 ?_
          refine s_getr (pc := 94) (b := 56) fl_X7_25 rfl rfl rfl dX7_enters_94 ?_
          refine s_iconst (pc := 97) (k_i2N) dX7_enters_97 ?_
          refine s_ialdN (pc := 98) (_) rfl rfl (by omega) (hA2 _ (by omega)) dX7_enters_98 ?_
          refine s_istore_n (pc := 99) 3 rfl (by decide) rfl dX7_enters_99 ?_
          refine s_iload_n (pc := 100) 3 rfl rfl dX7_enters_100 ?_
          refine s_iload (pc := 101) rfl dX7_enters_101 ?_
          refine s_iconst (pc := 103) (k_i1N) dX7_enters_103 ?_
          refine s_iaddN (pc := 104) dX7_enters_104 ?_
          refine s_isubN (pc := 105) (by omega) dX7_enters_105 ?_
          refine s_istore_n (pc := 106) 3 rfl (by decide) rfl dX7_enters_106 ?_
          refine s_aload_n (pc := 107) 0 rfl rfl dX7_enters_107 ?_
          refine s_dup (pc := 108) rfl dX7_enters_108 ?_
          refine s_getiE (pc := 109) fl_X7_211 rfl rfl (eH_g18 _ _ _) dX7_enters_109 ?_
          refine s_iload (pc := 112) rfl dX7_enters_112 ?_
          refine s_iaddN (pc := 114) dX7_enters_114 ?_
          refine s_puti (pc := 115) fl_X7_211 fw_7_18 rfl rfl dX7_enters_115 ?_
          rw [eH_18]
          refine s_iload_n (pc := 118) 2 rfl rfl dX7_enters_118 ?_
          refine s_iconst (pc := 119) (k_i1N) dX7_enters_119 ?_
          refine s_aload_n (pc := 120) 0 rfl rfl dX7_enters_120 ?_
          refine s_getr (pc := 121) (b := 61) fl_X7_41 rfl rfl rfl dX7_enters_121 ?_
          refine s_iload (pc := 124) rfl dX7_enters_124 ?_
          refine s_ialdN (pc := 126) (_) rfl rfl (by omega) ((eH_ne (by decide)).trans (hg _ (by omega)).1) dX7_enters_126 ?_
          refine s_ishl1N (pc := 127) (by omega) dX7_enters_127 ?_
          refine s_iorN (pc := 128) (by omega) (by omega) dX7_enters_128 ?_
          refine s_istore_n (pc := 129) 2 rfl (by decide) rfl dX7_enters_129 ?_
          refine s_iincN (pc := 130) rfl (by decide) rfl dX7_enters_130 ?_
          refine s_goto (pc := 133) 30 dX7_enters_133 (by decide) ?_
          have e : qst a g (t + 1) = (qs ||| 2 ^ g t, a 2 - (shiftN a (g t) qs + 1), qt + 1, qd + shiftN a (g t) qs) := by
            simp only [qst, hq, qtk]
            rw [if_pos (by omega), if_pos (by omega)]
          exact ih_30 (by omega) _ _ _ _ _ e

set_option maxRecDepth 20000 in
theorem c_X7_entF {n k0 : Nat} {g : Nat → Nat} {a : Nat → Nat} {h : Hp} (hA : RM a h) (hO : OkA a) (hg : ∀ j, j < n → h.1 61 j = nI (g j) ∧ g j < a 0) (hn7 : n ≤ 6) (h0n : k0 < n) (hc : ∀ k, k < k0 → qcan a (qst a g k) (g k) = true) (hN : ¬ qcan a (qst a g k0) (g k0) = true) : CT 6 yX7_enters cX7_enters 7 (some .boolean) [.ref 50, .int (nI n)] h (some (.int (bi False))) (eH h (qst a g (k0 + 1)).2.2.1 (qst a g (k0 + 1)).2.2.2) := by
  obtain ⟨⟨o0, o1, o2, o3, o4, o5, o6⟩, os⟩ := id hO
  have o64 := hO.in64
  refine CT.of (own := RX7) rfl (by decide) (ro_z _) [.ref 50, .int (nI n), .null, .null, .null, .null, .null] rfl (Nat.le_of_ble_eq_true rfl) (fun E hp => ?_)
  refine s_aload_n (pc := 0) 0 rfl rfl dX7_enters_0 ?_
  refine s_getr (pc := 1) (b := 56) fl_X7_25 rfl rfl rfl dX7_enters_1 ?_
  refine s_iconst (pc := 4) (k_i5N) dX7_enters_4 ?_
  refine s_ialdN (pc := 5) (_) rfl rfl (by omega) (hA _ (by omega)) dX7_enters_5 ?_
  refine s_istore_n (pc := 6) 2 rfl (by decide) rfl dX7_enters_6 ?_
  refine s_aload_n (pc := 7) 0 rfl rfl dX7_enters_7 ?_
  refine s_getr (pc := 8) (b := 56) fl_X7_25 rfl rfl rfl dX7_enters_8 ?_
  refine s_iconst (pc := 11) (k_i4N) dX7_enters_11 ?_
  refine s_ialdN (pc := 12) (_) rfl rfl (by omega) (hA _ (by omega)) dX7_enters_12 ?_
  refine s_istore_n (pc := 13) 3 rfl (by decide) rfl dX7_enters_13 ?_
  refine s_iconst (pc := 14) (k_i1N) dX7_enters_14 ?_
  refine s_istore (pc := 15) (by decide) rfl dX7_enters_15 ?_
  refine s_aload_n (pc := 17) 0 rfl rfl dX7_enters_17 ?_
  refine s_iconst (pc := 18) (k_i0N) dX7_enters_18 ?_
  refine s_puti (pc := 19) fl_X7_208 fw_7_17 rfl rfl dX7_enters_19 ?_
  refine s_aload_n (pc := 22) 0 rfl rfl dX7_enters_22 ?_
  refine s_iconst (pc := 23) (k_i0N) dX7_enters_23 ?_
  refine s_puti (pc := 24) fl_X7_211 fw_7_18 rfl rfl dX7_enters_24 ?_
  refine WW.hp (show _ = eH h 0 0 from rfl) ?_
  refine s_iconst (pc := 27) (k_i0N) dX7_enters_27 ?_
  refine s_istore (pc := 28) (by decide) rfl dX7_enters_28 ?_
  suffices lp_30 : ∀ t, t ≤ k0 → ∀ qs ql qt qd zz, qst a g t = (qs, ql, qt, qd) → WW E cX7_enters RX7 7 _ 30 [.ref 50, .int (nI n), .int (nI qs), .int (nI ql), .int (nI 1), .int (nI t), zz] (eH h qt qd) [] from lp_30 0 (by omega) _ _ _ _ _ rfl
  refine lpi k0 (fun t hk_t ih_30 => ?_)
  intro qs ql qt qd zz hq
  have hA2 := hA.eH qt qd
  refine s_iload (pc := 30) rfl dX7_enters_30 ?_
  refine s_iload_n (pc := 32) 1 rfl rfl dX7_enters_32 ?_
  refine s_icmp_geN (pc := 33) (by omega) (by omega) 136 dX7_enters_33 (by decide) (fun c_33 => ?_) (fun c_33 => ?_)
  · exfalso; omega
  · refine s_iload (pc := 36) rfl dX7_enters_36 ?_
    refine s_if_eqN (pc := 38) (by omega) 136 dX7_enters_38 (by decide) (fun c_38 => ?_) (fun c_38 => ?_)
    · exfalso; omega
    · have gt := (hg t (by omega)).2
      have oq := OkQ.st (g := g) (k := t) hO (fun j hj => (hg j (by omega)).2)
      rw [hq] at oq
      have oq1 := oq.2.1
      have oq2 := oq.2.2
      dsimp only at oq1 oq2
      have sl := shift_le a (g t) qs
      have pl : 2 ^ g t < 64 := Nat.pow_lt_pow_right (n := 6) (by decide) (by omega)
      refine s_aload_n (pc := 41) 0 rfl rfl dX7_enters_41 ?_
      refine s_aload_n (pc := 42) 0 rfl rfl dX7_enters_42 ?_
      refine s_getr (pc := 43) (b := 61) fl_X7_41 rfl rfl rfl dX7_enters_43 ?_
      refine s_iload (pc := 46) rfl dX7_enters_46 ?_
      refine s_ialdN (pc := 48) (_) rfl rfl (by omega) ((eH_ne (by decide)).trans (hg _ (by omega)).1) dX7_enters_48 ?_
      refine s_iload_n (pc := 49) 2 rfl rfl dX7_enters_49 ?_
      refine s_cvi2 (pc := 50) (c_X7_shiftedBy hA2 hO gt oq.1 oq.2.1) ml_X7_174 mw_X7_shiftedBy rfl (by decide) (Nat.le_of_ble_eq_true rfl) dX7_enters_50 ?_
      refine s_istore (pc := 53) (by decide) rfl dX7_enters_53 ?_
      refine s_iload (pc := 55) rfl dX7_enters_55 ?_
      refine s_iconst (pc := 57) (k_i1N) dX7_enters_57 ?_
      refine s_iaddN (pc := 58) dX7_enters_58 ?_
      refine s_aload_n (pc := 59) 0 rfl rfl dX7_enters_59 ?_
      refine s_getr (pc := 60) (b := 56) fl_X7_25 rfl rfl rfl dX7_enters_60 ?_
      refine s_iconst (pc := 63) (k_i2N) dX7_enters_63 ?_
      refine s_ialdN (pc := 64) (_) rfl rfl (by omega) (hA2 _ (by omega)) dX7_enters_64 ?_
      refine s_icmp_gtN (pc := 65) (by omega) (by omega) 72 dX7_enters_65 (by decide) (fun c_65 => ?_) (fun c_65 => ?_)
      · refine s_iconst (pc := 72) (k_i0N) dX7_enters_72 ?_
        refine s_istore (pc := 73) (by decide) rfl dX7_enters_73 ?_
        refine s_iload (pc := 75) rfl dX7_enters_75 ?_
        refine s_iconst (pc := 77) (k_i1N) dX7_enters_77 ?_
        refine s_iaddN (pc := 78) dX7_enters_78 ?_
        refine s_iload_n (pc := 79) 3 rfl rfl dX7_enters_79 ?_
        refine s_icmp_leN (pc := 80) (by omega) (by omega) 100 dX7_enters_80 (by decide) (fun c_80 => ?_) (fun c_80 => ?_)
        · refine s_iload_n (pc := 100) 3 rfl rfl dX7_enters_100 ?_
          refine s_iload (pc := 101) rfl dX7_enters_101 ?_
          refine s_iconst (pc := 103) (k_i1N) dX7_enters_103 ?_
          refine s_iaddN (pc := 104) dX7_enters_104 ?_
          refine s_isub (pc := 105) dX7_enters_105 ?_
          skip
          refine s_istore_n (pc := 106) 3 rfl (by decide) rfl dX7_enters_106 ?_
          refine s_aload_n (pc := 107) 0 rfl rfl dX7_enters_107 ?_
          refine s_dup (pc := 108) rfl dX7_enters_108 ?_
          refine s_getiE (pc := 109) fl_X7_211 rfl rfl (eH_g18 _ _ _) dX7_enters_109 ?_
          refine s_iload (pc := 112) rfl dX7_enters_112 ?_
          refine s_iaddN (pc := 114) dX7_enters_114 ?_
          refine s_puti (pc := 115) fl_X7_211 fw_7_18 rfl rfl dX7_enters_115 ?_
          rw [eH_18]
          refine s_iload_n (pc := 118) 2 rfl rfl dX7_enters_118 ?_
          refine s_iconst (pc := 119) (k_i1N) dX7_enters_119 ?_
          refine s_aload_n (pc := 120) 0 rfl rfl dX7_enters_120 ?_
          refine s_getr (pc := 121) (b := 61) fl_X7_41 rfl rfl rfl dX7_enters_121 ?_
          refine s_iload (pc := 124) rfl dX7_enters_124 ?_
          refine s_ialdN (pc := 126) (_) rfl rfl (by omega) ((eH_ne (by decide)).trans (hg _ (by omega)).1) dX7_enters_126 ?_
          refine s_ishl1N (pc := 127) (by omega) dX7_enters_127 ?_
          refine s_iorN (pc := 128) (by omega) (by omega) dX7_enters_128 ?_
          refine s_istore_n (pc := 129) 2 rfl (by decide) rfl dX7_enters_129 ?_
          refine s_iincN (pc := 130) rfl (by decide) rfl dX7_enters_130 ?_
          refine s_goto (pc := 133) 30 dX7_enters_133 (by decide) ?_
          have e : qst a g (t + 1) = (qs ||| 2 ^ g t, ql - (shiftN a (g t) qs + 1), qt, qd + shiftN a (g t) qs) := by
            simp only [qst, hq, qtk]
            rw [if_neg (by omega), if_neg (by omega)]
          obtain rfl : t = k0 := Classical.byContradiction fun z => by
            have hct := hc t (by omega)
            rw [hq] at hct
            simp only [qcan, decide_eq_true_eq] at hct
            omega
          rw [e] at hp
          exact ent_exit (by omega) (by omega) hp
        · refine s_aload_n (pc := 83) 0 rfl rfl dX7_enters_83 ?_
          refine s_dup (pc := 84) rfl dX7_enters_84 ?_
          refine s_getiE (pc := 85) fl_X7_208 rfl rfl (eH_g17 _ _ _) dX7_enters_85 ?_
          refine s_iconst (pc := 88) (k_i1N) dX7_enters_88 ?_
          refine s_iaddN (pc := 89) dX7_enters_89 ?_
          refine s_puti (pc := 90) fl_X7_208 fw_7_17 rfl rfl dX7_enters_90 ?_
          rw [eH_17]
          refine s_aload_n (pc := 93) 0 rfl rfl dX7_enters_93 ?_
          refine s_getr (pc := 94) (b := 56) fl_X7_25 rfl rfl rfl dX7_enters_94 ?_
          refine s_iconst (pc := 97) (k_i2N) dX7_enters_97 ?_
          refine s_ialdN (pc := 98) (_) rfl rfl (by omega) (hA2 _ (by omega)) dX7_enters_98 ?_
          refine s_istore_n (pc := 99) 3 rfl (by decide) rfl dX7_enters_99 ?_
          refine s_iload_n (pc := 100) 3 rfl rfl dX7_enters_100 ?_
          refine s_iload (pc := 101) rfl dX7_enters_101 ?_
          refine s_iconst (pc := 103) (k_i1N) dX7_enters_103 ?_
          refine s_iaddN (pc := 104) dX7_enters_104 ?_
          refine s_isub (pc := 105) dX7_enters_105 ?_
          skip
          refine s_istore_n (pc := 106) 3 rfl (by decide) rfl dX7_enters_106 ?_
          refine s_aload_n (pc := 107) 0 rfl rfl dX7_enters_107 ?_
          refine s_dup (pc := 108) rfl dX7_enters_108 ?_
          refine s_getiE (pc := 109) fl_X7_211 rfl rfl (eH_g18 _ _ _) dX7_enters_109 ?_
          refine s_iload (pc := 112) rfl dX7_enters_112 ?_
          refine s_iaddN (pc := 114) dX7_enters_114 ?_
          refine s_puti (pc := 115) fl_X7_211 fw_7_18 rfl rfl dX7_enters_115 ?_
          rw [eH_18]
          refine s_iload_n (pc := 118) 2 rfl rfl dX7_enters_118 ?_
          refine s_iconst (pc := 119) (k_i1N) dX7_enters_119 ?_
          refine s_aload_n (pc := 120) 0 rfl rfl dX7_enters_120 ?_
          refine s_getr (pc := 121) (b := 61) fl_X7_41 rfl rfl rfl dX7_enters_121 ?_
          refine s_iload (pc := 124) rfl dX7_enters_124 ?_
          refine s_ialdN (pc := 126) (_) rfl rfl (by omega) ((eH_ne (by decide)).trans (hg _ (by omega)).1) dX7_enters_126 ?_
          refine s_ishl1N (pc := 127) (by omega) dX7_enters_127 ?_
          refine s_iorN (pc := 128) (by omega) (by omega) dX7_enters_128 ?_
          refine s_istore_n (pc := 129) 2 rfl (by decide) rfl dX7_enters_129 ?_
          refine s_iincN (pc := 130) rfl (by decide) rfl dX7_enters_130 ?_
          refine s_goto (pc := 133) 30 dX7_enters_133 (by decide) ?_
          have e : qst a g (t + 1) = (qs ||| 2 ^ g t, a 2 - (shiftN a (g t) qs + 1), qt + 1, qd + shiftN a (g t) qs) := by
            simp only [qst, hq, qtk]
            rw [if_pos (by omega), if_pos (by omega)]
          obtain rfl : t = k0 := Classical.byContradiction fun z => by
            have hct := hc t (by omega)
            rw [hq] at hct
            simp only [qcan, decide_eq_true_eq] at hct
            omega
          rw [e] at hp
          exact ent_exit (by omega) (by omega) hp
      · refine s_iconst (pc := 68) (k_i1N) dX7_enters_68 ?_
        refine s_goto (pc := 69) 73 dX7_enters_69 (by decide) ?_
        refine s_istore (pc := 73) (by decide) rfl dX7_enters_73 ?_
        refine s_iload (pc := 75) rfl dX7_enters_75 ?_
        refine s_iconst (pc := 77) (k_i1N) dX7_enters_77 ?_
        refine s_iaddN (pc := 78) dX7_enters_78 ?_
        refine s_iload_n (pc := 79) 3 rfl rfl dX7_enters_79 ?_
        refine s_icmp_leN (pc := 80) (by omega) (by omega) 100 dX7_enters_80 (by decide) (fun c_80 => ?_) (fun c_80 => ?_)
        · refine s_iload_n (pc := 100) 3 rfl rfl dX7_enters_100 ?_
          refine s_iload (pc := 101) rfl dX7_enters_101 ?_
          refine s_iconst (pc := 103) (k_i1N) dX7_enters_103 ?_
          refine s_iaddN (pc := 104) dX7_enters_104 ?_
          refine s_isub (pc := 105) dX7_enters_105 ?_
          refine WW.top (pk_sub (by omega)) ?_
          refine s_istore_n (pc := 106) 3 rfl (by decide) rfl dX7_enters_106 ?_
          refine s_aload_n (pc := 107) 0 rfl rfl dX7_enters_107 ?_
          refine s_dup (pc := 108) rfl dX7_enters_108 ?_
          refine s_getiE (pc := 109) fl_X7_211 rfl rfl (eH_g18 _ _ _) dX7_enters_109 ?_
          refine s_iload (pc := 112) rfl dX7_enters_112 ?_
          refine s_iaddN (pc := 114) dX7_enters_114 ?_
          refine s_puti (pc := 115) fl_X7_211 fw_7_18 rfl rfl dX7_enters_115 ?_
          rw [eH_18]
          refine s_iload_n (pc := 118) 2 rfl rfl dX7_enters_118 ?_
          refine s_iconst (pc := 119) (k_i1N) dX7_enters_119 ?_
          refine s_aload_n (pc := 120) 0 rfl rfl dX7_enters_120 ?_
          refine s_getr (pc := 121) (b := 61) fl_X7_41 rfl rfl rfl dX7_enters_121 ?_
          refine s_iload (pc := 124) rfl dX7_enters_124 ?_
          refine s_ialdN (pc := 126) (_) rfl rfl (by omega) ((eH_ne (by decide)).trans (hg _ (by omega)).1) dX7_enters_126 ?_
          refine s_ishl1N (pc := 127) (by omega) dX7_enters_127 ?_
          refine s_iorN (pc := 128) (by omega) (by omega) dX7_enters_128 ?_
          refine s_istore_n (pc := 129) 2 rfl (by decide) rfl dX7_enters_129 ?_
          refine s_iincN (pc := 130) rfl (by decide) rfl dX7_enters_130 ?_
          refine s_goto (pc := 133) 30 dX7_enters_133 (by decide) ?_
          have e : qst a g (t + 1) = (qs ||| 2 ^ g t, ql - (shiftN a (g t) qs + 1), qt, qd + shiftN a (g t) qs) := by
            simp only [qst, hq, qtk]
            rw [if_neg (by omega), if_neg (by omega)]
          have tk : t < k0 := by
            rcases Nat.lt_or_eq_of_le hk_t with z | z
            · exact z
            · rw [← z, hq] at hN
              simp only [qcan, decide_eq_true_eq] at hN
              omega
          exact ih_30 tk _ _ _ _ _ e
        · refine s_aload_n (pc := 83) 0 rfl rfl dX7_enters_83 ?_
          refine s_dup (pc := 84) rfl dX7_enters_84 ?_
          refine s_getiE (pc := 85) fl_X7_208 rfl rfl (eH_g17 _ _ _) dX7_enters_85 ?_
          refine s_iconst (pc := 88) (k_i1N) dX7_enters_88 ?_
          refine s_iaddN (pc := 89) dX7_enters_89 ?_
          refine s_puti (pc := 90) fl_X7_208 fw_7_17 rfl rfl dX7_enters_90 ?_
          rw [eH_17]
          refine s_aload_n (pc := 93) 0 rfl rfl dX7_enters_93 ?_
          refine s_getr (pc := 94) (b := 56) fl_X7_25 rfl rfl rfl dX7_enters_94 ?_
          refine s_iconst (pc := 97) (k_i2N) dX7_enters_97 ?_
          refine s_ialdN (pc := 98) (_) rfl rfl (by omega) (hA2 _ (by omega)) dX7_enters_98 ?_
          refine s_istore_n (pc := 99) 3 rfl (by decide) rfl dX7_enters_99 ?_
          refine s_iload_n (pc := 100) 3 rfl rfl dX7_enters_100 ?_
          refine s_iload (pc := 101) rfl dX7_enters_101 ?_
          refine s_iconst (pc := 103) (k_i1N) dX7_enters_103 ?_
          refine s_iaddN (pc := 104) dX7_enters_104 ?_
          refine s_isub (pc := 105) dX7_enters_105 ?_
          refine WW.top (pk_sub (by omega)) ?_
          refine s_istore_n (pc := 106) 3 rfl (by decide) rfl dX7_enters_106 ?_
          refine s_aload_n (pc := 107) 0 rfl rfl dX7_enters_107 ?_
          refine s_dup (pc := 108) rfl dX7_enters_108 ?_
          refine s_getiE (pc := 109) fl_X7_211 rfl rfl (eH_g18 _ _ _) dX7_enters_109 ?_
          refine s_iload (pc := 112) rfl dX7_enters_112 ?_
          refine s_iaddN (pc := 114) dX7_enters_114 ?_
          refine s_puti (pc := 115) fl_X7_211 fw_7_18 rfl rfl dX7_enters_115 ?_
          rw [eH_18]
          refine s_iload_n (pc := 118) 2 rfl rfl dX7_enters_118 ?_
          refine s_iconst (pc := 119) (k_i1N) dX7_enters_119 ?_
          refine s_aload_n (pc := 120) 0 rfl rfl dX7_enters_120 ?_
          refine s_getr (pc := 121) (b := 61) fl_X7_41 rfl rfl rfl dX7_enters_121 ?_
          refine s_iload (pc := 124) rfl dX7_enters_124 ?_
          refine s_ialdN (pc := 126) (_) rfl rfl (by omega) ((eH_ne (by decide)).trans (hg _ (by omega)).1) dX7_enters_126 ?_
          refine s_ishl1N (pc := 127) (by omega) dX7_enters_127 ?_
          refine s_iorN (pc := 128) (by omega) (by omega) dX7_enters_128 ?_
          refine s_istore_n (pc := 129) 2 rfl (by decide) rfl dX7_enters_129 ?_
          refine s_iincN (pc := 130) rfl (by decide) rfl dX7_enters_130 ?_
          refine s_goto (pc := 133) 30 dX7_enters_133 (by decide) ?_
          have e : qst a g (t + 1) = (qs ||| 2 ^ g t, a 2 - (shiftN a (g t) qs + 1), qt + 1, qd + shiftN a (g t) qs) := by
            simp only [qst, hq, qtk]
            rw [if_pos (by omega), if_pos (by omega)]
          have tk : t < k0 := by
            rcases Nat.lt_or_eq_of_le hk_t with z | z
            · exact z
            · rw [← z, hq] at hN
              simp only [qcan, decide_eq_true_eq] at hN
              omega
          exact ih_30 tk _ _ _ _ _ e

set_option maxRecDepth 20000 in
theorem c_X7_orderU {q m : Nat} {a : Nat → Nat} {h : Hp} (hA : RM a h) (hO : OkA a) (h0 : 0 < a 0) (hk : q < 6) (hz : h.1 51 q = nI m) (hz6 : m ≤ 40) {f : Nat → Int32} (hf : ∀ j, j < 40 → h.1 52 (40 * q + j) = f j) (hu : ¬ (onc (a 0) (63 - a 5) f m).1 = true) : CT 4 yX7_order cX7_order 3 (some .int) [.ref 50, .int (nI q)] h (some (.int (-3))) (finM h 3) := by
  obtain ⟨⟨o0, o1, o2, o3, o4, o5, o6⟩, os⟩ := id hO
  have o64 := hO.in64
  have es := (onc_sim (f := f) o0 (by omega) (all_lt _ o0 _ o64) (fun i hi => all_tb _ o0 _ o64 i hi) m).1
  refine CT.of (own := RX7) rfl (by decide) (ro_i _) [.ref 50, .int (nI q), .null] rfl (Nat.le_of_ble_eq_true rfl) (fun E hp => ?_)
  refine s_iload_n (pc := 0) 1 rfl rfl dX7_order_0 ?_
  refine s_csi1 (pc := 1) (c_X7_isRowT hk) ml_X7_68 ms_X7_isRow (by decide) (Nat.le_of_ble_eq_true rfl) dX7_order_1 ?_
  refine s_if_neT (pc := 4) 9 dX7_order_4 (by decide) ?_
  refine s_aload_n (pc := 9) 0 rfl rfl dX7_order_9 ?_
  refine s_cvi0 (pc := 10) (c_X7_are hA hO.1.1) ml_X7_198 mw_X7_are rfl (by decide) (Nat.le_of_ble_eq_true rfl) dX7_order_10 ?_
  refine s_if_neB (pc := 13) 19 dX7_order_13 (by decide) (fun c_13 => ?_) (fun c_13 => ?_)
  · refine s_aload_n (pc := 19) 0 rfl rfl dX7_order_19 ?_
    refine s_getr (pc := 20) (b := 51) fl_X7_7 rfl rfl rfl dX7_order_20 ?_
    refine s_iload_n (pc := 23) 1 rfl rfl dX7_order_23 ?_
    refine s_ialdN (pc := 24) (_) rfl rfl (by omega) hz dX7_order_24 ?_
    refine s_if_geN (pc := 25) (by omega) 34 dX7_order_25 (by decide) ?_
    refine s_aload_n (pc := 34) 0 rfl rfl dX7_order_34 ?_
    refine s_iload_n (pc := 35) 1 rfl rfl dX7_order_35 ?_
    refine s_aload_n (pc := 36) 0 rfl rfl dX7_order_36 ?_
    refine s_cvi0 (pc := 37) (c_X7_all hA hO) ml_X7_223 mw_X7_all rfl (by decide) (Nat.le_of_ble_eq_true rfl) dX7_order_37 ?_
    refine s_aload_n (pc := 40) 0 rfl rfl dX7_order_40 ?_
    refine s_getr (pc := 41) (b := 56) fl_X7_25 rfl rfl rfl dX7_order_41 ?_
    refine s_iconst (pc := 44) (k_i5N) dX7_order_44 ?_
    refine s_ialdN (pc := 45) (_) rfl rfl (by omega) (hA _ (by omega)) dX7_order_45 ?_
    refine s_iconst (pc := 46) (k_im1) dX7_order_46 ?_
    refine s_ixor (pc := 47) dX7_order_47 ?_
    refine s_iand (pc := 48) dX7_order_48 ?_
    refine WW.top (and_all _ o0 _ o64) ?_
    refine s_cvi2 (pc := 49) (c_X7_areOnce hA hO hk hz hz6 hf (all_lt _ o0 _ o64)) ml_X7_226 mw_X7_areOnce rfl (by decide) (Nat.le_of_ble_eq_true rfl) dX7_order_49 ?_
    refine s_if_neB (pc := 52) 61 dX7_order_52 (by decide) (fun c_52 => ?_) (fun c_52 => ?_)
    · exfalso; rw [← es] at c_52; exact hu c_52
    · refine s_aload_n (pc := 55) 0 rfl rfl dX7_order_55 ?_
      refine s_iconst (pc := 56) (k_i3N) dX7_order_56 ?_
      refine s_cvi1 (pc := 57) (c_X7_finds (by decide)) ml_X7_72 mw_X7_finds rfl (by decide) (Nat.le_of_ble_eq_true rfl) dX7_order_57 ?_
      refine s_iret (pc := 60) dX7_order_60 (PostE.of hp ?_ ?_)
      · rfl
      · rfl
  · exfalso; omega

set_option maxRecDepth 20000 in
theorem c_X7_orderO {q m : Nat} {a : Nat → Nat} {h : Hp} (hA : RM a h) (hO : OkA a) (h0 : 0 < a 0) (hk : q < 6) (hz : h.1 51 q = nI m) (hz6 : m ≤ 40) {f : Nat → Int32} (hf : ∀ j, j < 40 → h.1 52 (40 * q + j) = f j) (hu : (onc (a 0) (63 - a 5) f m).1 = true) (hc : ∀ k, k < m → qcan a (qst a (yN f) k) (yN f k) = true) : CT 7 yX7_order cX7_order 3 (some .int) [.ref 50, .int (nI q)] h (some (.int (nI (qst a (yN f) m).2.2.1))) (ui (eH (ucp h 52 (40 * q) 61 0 m) (qst a (yN f) m).2.2.1 (qst a (yN f) m).2.2.2) 50 11 (nI (qst a (yN f) m).2.2.2)) := by
  obtain ⟨⟨o0, o1, o2, o3, o4, o5, o6⟩, os⟩ := id hO
  have o64 := hO.in64
  have es := (onc_sim (f := f) o0 (by omega) (all_lt _ o0 _ o64) (fun i hi => all_tb _ o0 _ o64 i hi) m).1
  have m6 := onc_6 o0 (by omega) hu
  have al := fun (b : Nat) (hb : b < m) => onc_all o0 (by omega) hu hb
  have hA3 : RM a (ucp h 52 (40 * q) 61 0 m) := fun j hj => (ucp_ne (by decide)).trans (hA j hj)
  have hg : ∀ j, j < m → (ucp h 52 (40 * q) 61 0 m).1 61 j = nI (yN f j) ∧ yN f j < a 0 := fun j hj => ⟨by
    show (if (61 : Nat) = 61 ∧ 0 ≤ j ∧ j < 0 + m then h.1 52 (40 * q + (j - 0)) else _) = _
    rw [if_pos ⟨rfl, Nat.zero_le _, by omega⟩, Nat.sub_zero, hf j (by omega)]
    exact (al j hj).1, (al j hj).2.1⟩
  refine CT.of (own := RX7) rfl (by decide) (ro_i _) [.ref 50, .int (nI q), .null] rfl (Nat.le_of_ble_eq_true rfl) (fun E hp => ?_)
  refine s_iload_n (pc := 0) 1 rfl rfl dX7_order_0 ?_
  refine s_csi1 (pc := 1) (c_X7_isRowT hk) ml_X7_68 ms_X7_isRow (by decide) (Nat.le_of_ble_eq_true rfl) dX7_order_1 ?_
  refine s_if_neT (pc := 4) 9 dX7_order_4 (by decide) ?_
  refine s_aload_n (pc := 9) 0 rfl rfl dX7_order_9 ?_
  refine s_cvi0 (pc := 10) (c_X7_are hA hO.1.1) ml_X7_198 mw_X7_are rfl (by decide) (Nat.le_of_ble_eq_true rfl) dX7_order_10 ?_
  refine s_if_neB (pc := 13) 19 dX7_order_13 (by decide) (fun c_13 => ?_) (fun c_13 => ?_)
  · refine s_aload_n (pc := 19) 0 rfl rfl dX7_order_19 ?_
    refine s_getr (pc := 20) (b := 51) fl_X7_7 rfl rfl rfl dX7_order_20 ?_
    refine s_iload_n (pc := 23) 1 rfl rfl dX7_order_23 ?_
    refine s_ialdN (pc := 24) (_) rfl rfl (by omega) hz dX7_order_24 ?_
    refine s_if_geN (pc := 25) (by omega) 34 dX7_order_25 (by decide) ?_
    refine s_aload_n (pc := 34) 0 rfl rfl dX7_order_34 ?_
    refine s_iload_n (pc := 35) 1 rfl rfl dX7_order_35 ?_
    refine s_aload_n (pc := 36) 0 rfl rfl dX7_order_36 ?_
    refine s_cvi0 (pc := 37) (c_X7_all hA hO) ml_X7_223 mw_X7_all rfl (by decide) (Nat.le_of_ble_eq_true rfl) dX7_order_37 ?_
    refine s_aload_n (pc := 40) 0 rfl rfl dX7_order_40 ?_
    refine s_getr (pc := 41) (b := 56) fl_X7_25 rfl rfl rfl dX7_order_41 ?_
    refine s_iconst (pc := 44) (k_i5N) dX7_order_44 ?_
    refine s_ialdN (pc := 45) (_) rfl rfl (by omega) (hA _ (by omega)) dX7_order_45 ?_
    refine s_iconst (pc := 46) (k_im1) dX7_order_46 ?_
    refine s_ixor (pc := 47) dX7_order_47 ?_
    refine s_iand (pc := 48) dX7_order_48 ?_
    refine WW.top (and_all _ o0 _ o64) ?_
    refine s_cvi2 (pc := 49) (c_X7_areOnce hA hO hk hz hz6 hf (all_lt _ o0 _ o64)) ml_X7_226 mw_X7_areOnce rfl (by decide) (Nat.le_of_ble_eq_true rfl) dX7_order_49 ?_
    refine s_if_neB (pc := 52) 61 dX7_order_52 (by decide) (fun c_52 => ?_) (fun c_52 => ?_)
    · refine s_iconst (pc := 61) (k_i0N) dX7_order_61 ?_
      refine s_istore_n (pc := 62) 2 rfl (by decide) rfl dX7_order_62 ?_
      refine WW.hp (ucp_0 h 52 (40 * q) 61 0).symm ?_
      suffices lp_63 : ∀ t, t ≤ m → WW E cX7_order RX7 3 _ 63 [.ref 50, .int (nI q), .int (nI t)] (ucp h 52 (40 * q) 61 0 t) [] from lp_63 0 (by omega)
      refine lpi m (fun t hk_t ih_63 => ?_)
      refine s_iload_n (pc := 63) 2 rfl rfl dX7_order_63 ?_
      refine s_aload_n (pc := 64) 0 rfl rfl dX7_order_64 ?_
      refine s_getr (pc := 65) (b := 51) fl_X7_7 rfl rfl rfl dX7_order_65 ?_
      refine s_iload_n (pc := 68) 1 rfl rfl dX7_order_68 ?_
      refine s_ialdN (pc := 69) (_) rfl rfl (by omega) ((ucp_ne (by decide)).trans hz) dX7_order_69 ?_
      refine s_icmp_geN (pc := 70) (by omega) (by omega) 96 dX7_order_70 (by decide) (fun c_70 => ?_) (fun c_70 => ?_)
      · obtain rfl : t = m := by omega
        refine s_aload_n (pc := 96) 0 rfl rfl dX7_order_96 ?_
        refine s_aload_n (pc := 97) 0 rfl rfl dX7_order_97 ?_
        refine s_getr (pc := 98) (b := 51) fl_X7_7 rfl rfl rfl dX7_order_98 ?_
        refine s_iload_n (pc := 101) 1 rfl rfl dX7_order_101 ?_
        refine s_ialdN (pc := 102) (_) rfl rfl (by omega) ((ucp_ne (by decide)).trans hz) dX7_order_102 ?_
        refine s_cvi1 (pc := 103) (c_X7_entT hA3 hO hg m6 hc) ml_X7_217 mw_X7_enters rfl (by decide) (Nat.le_of_ble_eq_true rfl) dX7_order_103 ?_
        refine s_if_eqT (pc := 106) 124 dX7_order_106 (by decide) ?_
        refine s_aload_n (pc := 109) 0 rfl rfl dX7_order_109 ?_
        refine s_aload_n (pc := 110) 0 rfl rfl dX7_order_110 ?_
        refine s_getiE (pc := 111) fl_X7_208 rfl rfl (eH_g17 _ _ _) dX7_order_111 ?_
        refine s_aload_n (pc := 114) 0 rfl rfl dX7_order_114 ?_
        refine s_getiE (pc := 115) fl_X7_211 rfl rfl (eH_g18 _ _ _) dX7_order_115 ?_
        refine s_cvi2 (pc := 118) (c_X7_tells) ml_X7_84 mw_X7_tells rfl (by decide) (Nat.le_of_ble_eq_true rfl) dX7_order_118 ?_
        refine s_goto (pc := 121) 126 dX7_order_121 (by decide) ?_
        refine s_iret (pc := 126) dX7_order_126 (PostE.of hp ?_ ?_)
        · rfl
        · rfl
      · refine s_aload_n (pc := 73) 0 rfl rfl dX7_order_73 ?_
        refine s_getr (pc := 74) (b := 61) fl_X7_41 rfl rfl rfl dX7_order_74 ?_
        refine s_iload_n (pc := 77) 2 rfl rfl dX7_order_77 ?_
        refine s_aload_n (pc := 78) 0 rfl rfl dX7_order_78 ?_
        refine s_getr (pc := 79) (b := 52) fl_X7_13 rfl rfl rfl dX7_order_79 ?_
        refine s_bipush (pc := 82) (k_b40N) dX7_order_82 ?_
        refine s_iload_n (pc := 84) 1 rfl rfl dX7_order_84 ?_
        refine s_imulN (pc := 85) dX7_order_85 ?_
        refine s_iload_n (pc := 86) 2 rfl rfl dX7_order_86 ?_
        refine s_iaddN (pc := 87) dX7_order_87 ?_
        refine s_iald (pc := 88) (_) rfl rfl (by omega) dX7_order_88 ?_
        refine s_iast (pc := 89) (_) rfl rfl (by omega) dX7_order_89 ?_
        rw [ucp_s0 (h := h) (r := 52) (x := 40 * q) (s := 61) (k := t) (show (ucp h 52 (40 * q) 61 0 t).1 52 (40 * q + t) = h.1 52 (40 * q + t) from ucp_ne (by decide))]
        refine s_iincN (pc := 90) rfl (by decide) rfl dX7_order_90 ?_
        refine s_goto (pc := 93) 63 dX7_order_93 (by decide) ?_
        exact ih_63 (by omega)
    · exfalso; rw [← es] at c_52; exact c_52 hu
  · exfalso; omega

set_option maxRecDepth 20000 in
theorem c_X7_orderN {q m k0 : Nat} {a : Nat → Nat} {h : Hp} (hA : RM a h) (hO : OkA a) (h0 : 0 < a 0) (hk : q < 6) (hz : h.1 51 q = nI m) (hz6 : m ≤ 40) {f : Nat → Int32} (hf : ∀ j, j < 40 → h.1 52 (40 * q + j) = f j) (hu : (onc (a 0) (63 - a 5) f m).1 = true) (h0m : k0 < m) (hc : ∀ k, k < k0 → qcan a (qst a (yN f) k) (yN f k) = true) (hN : ¬ qcan a (qst a (yN f) k0) (yN f k0) = true) : CT 7 yX7_order cX7_order 3 (some .int) [.ref 50, .int (nI q)] h (some (.int (-9))) (eH (ucp h 52 (40 * q) 61 0 m) (qst a (yN f) (k0 + 1)).2.2.1 (qst a (yN f) (k0 + 1)).2.2.2) := by
  obtain ⟨⟨o0, o1, o2, o3, o4, o5, o6⟩, os⟩ := id hO
  have o64 := hO.in64
  have es := (onc_sim (f := f) o0 (by omega) (all_lt _ o0 _ o64) (fun i hi => all_tb _ o0 _ o64 i hi) m).1
  have m6 := onc_6 o0 (by omega) hu
  have al := fun (b : Nat) (hb : b < m) => onc_all o0 (by omega) hu hb
  have hA3 : RM a (ucp h 52 (40 * q) 61 0 m) := fun j hj => (ucp_ne (by decide)).trans (hA j hj)
  have hg : ∀ j, j < m → (ucp h 52 (40 * q) 61 0 m).1 61 j = nI (yN f j) ∧ yN f j < a 0 := fun j hj => ⟨by
    show (if (61 : Nat) = 61 ∧ 0 ≤ j ∧ j < 0 + m then h.1 52 (40 * q + (j - 0)) else _) = _
    rw [if_pos ⟨rfl, Nat.zero_le _, by omega⟩, Nat.sub_zero, hf j (by omega)]
    exact (al j hj).1, (al j hj).2.1⟩
  refine CT.of (own := RX7) rfl (by decide) (ro_i _) [.ref 50, .int (nI q), .null] rfl (Nat.le_of_ble_eq_true rfl) (fun E hp => ?_)
  refine s_iload_n (pc := 0) 1 rfl rfl dX7_order_0 ?_
  refine s_csi1 (pc := 1) (c_X7_isRowT hk) ml_X7_68 ms_X7_isRow (by decide) (Nat.le_of_ble_eq_true rfl) dX7_order_1 ?_
  refine s_if_neT (pc := 4) 9 dX7_order_4 (by decide) ?_
  refine s_aload_n (pc := 9) 0 rfl rfl dX7_order_9 ?_
  refine s_cvi0 (pc := 10) (c_X7_are hA hO.1.1) ml_X7_198 mw_X7_are rfl (by decide) (Nat.le_of_ble_eq_true rfl) dX7_order_10 ?_
  refine s_if_neB (pc := 13) 19 dX7_order_13 (by decide) (fun c_13 => ?_) (fun c_13 => ?_)
  · refine s_aload_n (pc := 19) 0 rfl rfl dX7_order_19 ?_
    refine s_getr (pc := 20) (b := 51) fl_X7_7 rfl rfl rfl dX7_order_20 ?_
    refine s_iload_n (pc := 23) 1 rfl rfl dX7_order_23 ?_
    refine s_ialdN (pc := 24) (_) rfl rfl (by omega) hz dX7_order_24 ?_
    refine s_if_geN (pc := 25) (by omega) 34 dX7_order_25 (by decide) ?_
    refine s_aload_n (pc := 34) 0 rfl rfl dX7_order_34 ?_
    refine s_iload_n (pc := 35) 1 rfl rfl dX7_order_35 ?_
    refine s_aload_n (pc := 36) 0 rfl rfl dX7_order_36 ?_
    refine s_cvi0 (pc := 37) (c_X7_all hA hO) ml_X7_223 mw_X7_all rfl (by decide) (Nat.le_of_ble_eq_true rfl) dX7_order_37 ?_
    refine s_aload_n (pc := 40) 0 rfl rfl dX7_order_40 ?_
    refine s_getr (pc := 41) (b := 56) fl_X7_25 rfl rfl rfl dX7_order_41 ?_
    refine s_iconst (pc := 44) (k_i5N) dX7_order_44 ?_
    refine s_ialdN (pc := 45) (_) rfl rfl (by omega) (hA _ (by omega)) dX7_order_45 ?_
    refine s_iconst (pc := 46) (k_im1) dX7_order_46 ?_
    refine s_ixor (pc := 47) dX7_order_47 ?_
    refine s_iand (pc := 48) dX7_order_48 ?_
    refine WW.top (and_all _ o0 _ o64) ?_
    refine s_cvi2 (pc := 49) (c_X7_areOnce hA hO hk hz hz6 hf (all_lt _ o0 _ o64)) ml_X7_226 mw_X7_areOnce rfl (by decide) (Nat.le_of_ble_eq_true rfl) dX7_order_49 ?_
    refine s_if_neB (pc := 52) 61 dX7_order_52 (by decide) (fun c_52 => ?_) (fun c_52 => ?_)
    · refine s_iconst (pc := 61) (k_i0N) dX7_order_61 ?_
      refine s_istore_n (pc := 62) 2 rfl (by decide) rfl dX7_order_62 ?_
      refine WW.hp (ucp_0 h 52 (40 * q) 61 0).symm ?_
      suffices lp_63 : ∀ t, t ≤ m → WW E cX7_order RX7 3 _ 63 [.ref 50, .int (nI q), .int (nI t)] (ucp h 52 (40 * q) 61 0 t) [] from lp_63 0 (by omega)
      refine lpi m (fun t hk_t ih_63 => ?_)
      refine s_iload_n (pc := 63) 2 rfl rfl dX7_order_63 ?_
      refine s_aload_n (pc := 64) 0 rfl rfl dX7_order_64 ?_
      refine s_getr (pc := 65) (b := 51) fl_X7_7 rfl rfl rfl dX7_order_65 ?_
      refine s_iload_n (pc := 68) 1 rfl rfl dX7_order_68 ?_
      refine s_ialdN (pc := 69) (_) rfl rfl (by omega) ((ucp_ne (by decide)).trans hz) dX7_order_69 ?_
      refine s_icmp_geN (pc := 70) (by omega) (by omega) 96 dX7_order_70 (by decide) (fun c_70 => ?_) (fun c_70 => ?_)
      · obtain rfl : t = m := by omega
        refine s_aload_n (pc := 96) 0 rfl rfl dX7_order_96 ?_
        refine s_aload_n (pc := 97) 0 rfl rfl dX7_order_97 ?_
        refine s_getr (pc := 98) (b := 51) fl_X7_7 rfl rfl rfl dX7_order_98 ?_
        refine s_iload_n (pc := 101) 1 rfl rfl dX7_order_101 ?_
        refine s_ialdN (pc := 102) (_) rfl rfl (by omega) ((ucp_ne (by decide)).trans hz) dX7_order_102 ?_
        refine s_cvi1 (pc := 103) (c_X7_entF hA3 hO hg m6 h0m hc hN) ml_X7_217 mw_X7_enters rfl (by decide) (Nat.le_of_ble_eq_true rfl) dX7_order_103 ?_
        refine s_if_eqF (pc := 106) 124 dX7_order_106 (by decide) ?_
        refine s_bipush (pc := 124) (k_bm9) dX7_order_124 ?_
        refine s_iret (pc := 126) dX7_order_126 (PostE.of hp ?_ ?_)
        · rfl
        · rfl
      · refine s_aload_n (pc := 73) 0 rfl rfl dX7_order_73 ?_
        refine s_getr (pc := 74) (b := 61) fl_X7_41 rfl rfl rfl dX7_order_74 ?_
        refine s_iload_n (pc := 77) 2 rfl rfl dX7_order_77 ?_
        refine s_aload_n (pc := 78) 0 rfl rfl dX7_order_78 ?_
        refine s_getr (pc := 79) (b := 52) fl_X7_13 rfl rfl rfl dX7_order_79 ?_
        refine s_bipush (pc := 82) (k_b40N) dX7_order_82 ?_
        refine s_iload_n (pc := 84) 1 rfl rfl dX7_order_84 ?_
        refine s_imulN (pc := 85) dX7_order_85 ?_
        refine s_iload_n (pc := 86) 2 rfl rfl dX7_order_86 ?_
        refine s_iaddN (pc := 87) dX7_order_87 ?_
        refine s_iald (pc := 88) (_) rfl rfl (by omega) dX7_order_88 ?_
        refine s_iast (pc := 89) (_) rfl rfl (by omega) dX7_order_89 ?_
        rw [ucp_s0 (h := h) (r := 52) (x := 40 * q) (s := 61) (k := t) (show (ucp h 52 (40 * q) 61 0 t).1 52 (40 * q + t) = h.1 52 (40 * q + t) from ucp_ne (by decide))]
        refine s_iincN (pc := 90) rfl (by decide) rfl dX7_order_90 ?_
        refine s_goto (pc := 93) 63 dX7_order_93 (by decide) ?_
        exact ih_63 (by omega)
    · exfalso; rw [← es] at c_52; exact c_52 hu
  · exfalso; omega
