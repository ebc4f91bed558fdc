/-! two owners -/
def vlU (a : Nat → Nat) (s : Nat) : Nat → Nat
  | 0 => 100
  | k1 + 1 => if s.testBit k1 = true then (if k1 % 2 = 1 then vlU a s k1 + berthI a k1 s else vlU a s k1 - berthI a k1 s) else vlU a s k1
theorem vl_b {a : Nat → Nat} (hn : a 0 ≤ 6) (s k1 : Nat) : 100 ≤ vlU a s k1 + 6 * k1 ∧ vlU a s k1 ≤ 100 + 6 * k1 := by
  induction k1 with
  | zero => exact ⟨Nat.le_refl _, Nat.le_refl _⟩
  | succ k1 ih =>
    have := berth_le a k1 (ageN a k1 (a 1)) s (a 1)
    simp only [vlU, berthI]
    repeat' split
    all_goals omega
def opN (t1 x y : Nat) : Nat := if t1 % 2 = 0 then (if x < y then y else x) else (if y < x then y else x)
def mmS (a : Nat → Nat) (t1 : Nat) (F : Nat → Nat) (s : Nat) : Nat → Nat
  | 0 => F s
  | k1 + 1 => if k1 % 2 = t1 % 2 then opN t1 (mmS a t1 F s k1) (F (s ^^^ 2 ^ k1)) else mmS a t1 F s k1
def mmx (a : Nat → Nat) (n : Nat) : Nat → Nat → Nat
  | 0, s => vlU a s (a 0)
  | j1 + 1, s => mmS a (n - (j1 + 1)) (mmx a n j1) s (a 0)
theorem opN_b {t1 x y : Nat} (hx : 64 ≤ x ∧ x ≤ 136) (hy : 64 ≤ y ∧ y ≤ 136) : 64 ≤ opN t1 x y ∧ opN t1 x y ≤ 136 := by
  unfold opN
  repeat' split
  all_goals omega
theorem mmS_b {a : Nat → Nat} {t1 s : Nat} {F : Nat → Nat} (hF : ∀ x, 64 ≤ F x ∧ F x ≤ 136) (k1 : Nat) : 64 ≤ mmS a t1 F s k1 ∧ mmS a t1 F s k1 ≤ 136 := by
  induction k1 with
  | zero => exact hF s
  | succ k1 ih =>
    simp only [mmS]
    split
    · exact opN_b ih (hF _)
    · exact ih
theorem mmx_b {a : Nat → Nat} (hn : a 0 ≤ 6) {n : Nat} (j1 : Nat) : ∀ s, 64 ≤ mmx a n j1 s ∧ mmx a n j1 s ≤ 136 := by
  induction j1 with
  | zero => intro s; have := vl_b hn s (a 0); simp only [mmx]; omega
  | succ j1 ih => intro s; exact mmS_b ih (a 0)
theorem i32_lc (x y z : Int32) : x + (y + z) = y + (x + z) := by rw [← Int32.add_assoc, Int32.add_comm x y, Int32.add_assoc]
def wC (v : Nat) : Int32 := nI v - nI 100
theorem wC_lt {x y : Nat} (hx : x < 1000) (hy : y < 1000) : wC x < wC y ↔ x < y := by
  unfold wC
  rw [Int32.lt_iff_toInt_lt, pk_sub_toInt (by omega) (by omega), pk_sub_toInt (by omega) (by omega)]
  omega
theorem wC_add (v b : Nat) : wC v + nI b = wC (v + b) := by
  unfold wC
  rw [← nI_add]
  simp only [Int32.sub_eq_add_neg, Int32.add_assoc, Int32.add_comm, i32_lc]
theorem wC_neg {v b : Nat} (h : b ≤ v) : wC v + -nI b = wC (v - b) := by
  unfold wC
  rw [← pk_sub h]
  simp only [Int32.sub_eq_add_neg, Int32.add_assoc, Int32.add_comm, i32_lc]
theorem nI_negadd {v b : Nat} (h : b ≤ v) : nI v + -nI b = nI (v - b) := by
  rw [← pk_sub h, Int32.sub_eq_add_neg]
theorem wC_0 : nI 0 = wC 100 := by decide
theorem wC_100 (v : Nat) : nI 100 + wC v = nI v := by
  unfold wC
  rw [Int32.sub_eq_add_neg, i32_lc, Int32.add_right_neg, Int32.add_zero]
theorem wC_max {t1 x y : Nat} (h : t1 % 2 = 0) (hx : x < 1000) (hy : y < 1000) : (if wC x < wC y then wC y else wC x) = wC (opN t1 x y) := by
  unfold opN
  rw [if_pos h]
  by_cases q : x < y
  · rw [if_pos ((wC_lt hx hy).mpr q), if_pos q]
  · rw [if_neg (fun z => q ((wC_lt hx hy).mp z)), if_neg q]
theorem wC_min {t1 x y : Nat} (h : ¬ t1 % 2 = 0) (hx : x < 1000) (hy : y < 1000) : (if wC y < wC x then wC y else wC x) = wC (opN t1 x y) := by
  unfold opN
  rw [if_neg h]
  by_cases q : y < x
  · rw [if_pos ((wC_lt hy hx).mpr q), if_pos q]
  · rw [if_neg (fun z => q ((wC_lt hy hx).mp z)), if_neg q]
theorem bp_now {a : Nat → Nat} {i s : Nat} (hn : a 0 ≤ 6) : pop (s &&& ahdN a i) = berthI a i s := berth_pop hn
/-- worth and worthThen tell u and v for the sets below N -/
def dH (h : Hp) (N : Nat) (u v : Nat → Int32) : Hp := fup (fup h 46 N v) 45 N u
theorem dH_45 {h : Hp} {N y : Nat} {u v : Nat → Int32} (hy : y < N) : (dH h N u v).1 45 y = u y := fup_lt hy
theorem dH_46 {h : Hp} {N y : Nat} {u v : Nat → Int32} (hy : y < N) : (dH h N u v).1 46 y = v y := by
  rw [dH, fup_ne (by decide), fup_lt hy]
theorem dH_ne {h : Hp} {N x y : Nat} {u v : Nat → Int32} (h1 : x ≠ 45) (h2 : x ≠ 46) : (dH h N u v).1 x y = h.1 x y := by
  rw [dH, fup_ne h1, fup_ne h2]
theorem dH_cp (h : Hp) (N : Nat) (u v : Nat → Int32) : ucp (dH h N u v) 45 0 46 0 N = dH h N u u := hp_ext (fun x y => by
  show (if x = 46 ∧ 0 ≤ y ∧ y < 0 + N then (dH h N u v).1 45 (0 + (y - 0)) else (dH h N u v).1 x y) = _
  by_cases e : x = 46 ∧ y < N
  · rw [if_pos (by omega), Nat.zero_add, Nat.sub_zero, dH_45 e.2, e.1, dH_46 e.2]
  · rw [if_neg (by omega)]
    by_cases e2 : x = 45
    · subst e2; simp only [dH, fup]; simp
    · by_cases e3 : x = 46
      · subst e3
        have : ¬ y < N := fun z => e ⟨rfl, z⟩
        simp only [dH, fup]; simp [this]
      · rw [dH_ne e2 e3, dH_ne e2 e3]) (fun _ _ => rfl)
theorem dH_fup (h : Hp) (N : Nat) (u v z : Nat → Int32) : fup (dH h N u v) 45 N z = dH h N z v := hp_ext (fun x y => by
  by_cases e : x = 45 ∧ y < N
  · rw [e.1, fup_lt e.2, dH_45 e.2]
  · simp only [dH, fup]
    rw [if_neg e, if_neg e, if_neg e]) (fun _ _ => rfl)
theorem dH_0 (h : Hp) (N : Nat) (u : Nat → Int32) : fup h 45 N u = dH h N u (h.1 46) := by
  have : fup h 46 N (h.1 46) = h := hp_ext (fun x y => by
    simp only [fup]
    by_cases e : x = 46 ∧ y < N
    · rw [if_pos e, e.1]
    · rw [if_neg e]) (fun _ _ => rfl)
  rw [dH, this]
theorem RC.dH {a : Nat → Nat} {h : Hp} (hR : RC a h) (N : Nat) (u v : Nat → Int32) : RC a (dH h N u v) := hR.to (fun x y z => dH_ne (by have := z.2.1; omega) (by have := z.2.1; omega))
theorem RC.fup {a : Nat → Nat} {h : Hp} (hR : RC a h) (k1 : Nat) (u : Nat → Int32) : RC a (fup h 45 k1 u) := hR.to (fun x y z => fup_ne (by have := z.2.1; omega))
theorem xor_lt {n s i : Nat} (hs : s < 2 ^ n) (hi : i < n) : s ^^^ 2 ^ i < 2 ^ n := Nat.xor_lt_two_pow hs (Nat.pow_lt_pow_right (by decide) hi)
theorem mmS_ge {a : Nat → Nat} {t1 s : Nat} {F : Nat → Nat} {i : Nat} (h1 : a 0 ≤ i) (h2 : i ≤ a 0 + 1) (hp : i % 2 = t1 % 2) : mmS a t1 F s i = mmS a t1 F s (a 0) := by
  by_cases e : i = a 0
  · rw [e]
  · obtain rfl : i = a 0 + 1 := by omega
    simp only [mmS]
    rw [if_neg (by omega)]
theorem mmS_2 {a : Nat → Nat} {t1 s : Nat} {F : Nat → Nat} {i : Nat} (hp : i % 2 = t1 % 2) : mmS a t1 F s (i + 2) = opN t1 (mmS a t1 F s i) (F (s ^^^ 2 ^ i)) := by
  show (if (i + 1) % 2 = t1 % 2 then _ else mmS a t1 F s (i + 1)) = _
  rw [if_neg (by omega)]
  simp only [mmS]
  rw [if_pos hp]

set_option maxRecDepth 20000 in
theorem c_X3_worthAtEnd {s : Nat} {a : Nat → Nat} {h : Hp} (hR : RC a h) (hO : OkA a) (hs : s < 2 ^ a 0) : CT 2 yX3_worthAtEnd cX3_worthAtEnd 5 (some .int) [.ref 44, .int (nI s)] h (some (.int (wC (vlU a s (a 0))))) (h) := by
  obtain ⟨⟨o0, o1, o2, o3, o4, o5, o6⟩, os⟩ := id hO
  have o64 := hO.in64
  have hC := hR.1
  obtain ⟨⟨r0, r1, r2, r4, r5, r6⟩, rs, P, rp, rP, rt⟩ := id hC
  have rg := hR.2
  have p1 : 1 ≤ 2 ^ a 0 := Nat.one_le_two_pow
  have p2 : 2 ^ a 0 ≤ 2 ^ 6 := Nat.pow_le_pow_right (by decide) o0
  refine CT.of (own := RX3) rfl (by decide) (ro_i _) [.ref 44, .int (nI s), .null, .null, .null] rfl (Nat.le_of_ble_eq_true rfl) (fun E hp => ?_)
  refine s_iconst (pc := 0) (k_i0N) dX3_worthAtEnd_0 ?_
  refine s_istore_n (pc := 1) 2 rfl (by decide) rfl dX3_worthAtEnd_1 ?_
  refine s_iconst (pc := 2) (k_i0N) dX3_worthAtEnd_2 ?_
  refine s_istore_n (pc := 3) 3 rfl (by decide) rfl dX3_worthAtEnd_3 ?_
  rw [wC_0]
  suffices lp_4 : ∀ k1, k1 ≤ a 0 → ∀ z1, WW E cX3_worthAtEnd RX3 5 _ 4 [.ref 44, .int (nI s), .int (wC (vlU a s k1)), .int (nI k1), z1] (h) [] from lp_4 0 (by omega) _
  refine lpi (a 0) (fun k1 hk_k1 ih_4 => ?_)
  intro z1
  have vb := vl_b o0 s k1
  have bb : berthI a k1 s ≤ a 0 := berth_le a k1 (ageN a k1 (a 1)) s (a 1)
  refine s_iload_n (pc := 4) 3 rfl rfl dX3_worthAtEnd_4 ?_
  refine s_aload_n (pc := 5) 0 rfl rfl dX3_worthAtEnd_5 ?_
  refine s_getr (pc := 6) (b := 23) fl_X3_18 rfl rfl rfl dX3_worthAtEnd_6 ?_
  refine s_getr (pc := 9) (b := 24) fl_X3_22 rfl rfl rfl dX3_worthAtEnd_9 ?_
  refine s_getiE (pc := 12) fl_X3_28 rfl rfl r0 dX3_worthAtEnd_12 ?_
  refine s_icmp_geN (pc := 15) (by omega) (by omega) 67 dX3_worthAtEnd_15 (by decide) (fun c_15 => ?_) (fun c_15 => ?_)
  · obtain rfl : k1 = a 0 := by omega
    refine s_iload_n (pc := 67) 2 rfl rfl dX3_worthAtEnd_67 ?_
    refine s_iret (pc := 68) dX3_worthAtEnd_68 (PostE.of hp ?_ ?_)
    · rfl
    · rfl
  · refine s_iload_n (pc := 18) 1 rfl rfl dX3_worthAtEnd_18 ?_
    refine s_iload_n (pc := 19) 3 rfl rfl dX3_worthAtEnd_19 ?_
    refine s_ishrN (pc := 20) (by omega) (by omega) dX3_worthAtEnd_20 ?_
    refine s_iconst (pc := 21) (k_i1N) dX3_worthAtEnd_21 ?_
    refine s_iandN (pc := 22) (div_lt31 (by omega) k1) (by omega) dX3_worthAtEnd_22 ?_
    refine s_iconst (pc := 23) (k_i1N) dX3_worthAtEnd_23 ?_
    refine s_icmp_neN (pc := 24) (by rw [bit1]; split <;> decide) (by omega) 61 dX3_worthAtEnd_24 (by decide) (fun c_24 => ?_) (fun c_24 => ?_)
    · refine s_iincN (pc := 61) rfl (by decide) rfl dX3_worthAtEnd_61 ?_
      refine s_goto (pc := 64) 4 dX3_worthAtEnd_64 (by decide) ?_
      have ih := ih_4 (by omega)
      simp only [vlU] at ih
      rw [if_neg (fun z => c_24 ((bit1_iff s k1).mpr z))] at ih
      exact ih _
    · refine s_iload_n (pc := 27) 1 rfl rfl dX3_worthAtEnd_27 ?_
      refine s_aload_n (pc := 28) 0 rfl rfl dX3_worthAtEnd_28 ?_
      refine s_getr (pc := 29) (b := 23) fl_X3_18 rfl rfl rfl dX3_worthAtEnd_29 ?_
      refine s_getr (pc := 32) (b := 34) fl_X3_51 rfl rfl rfl dX3_worthAtEnd_32 ?_
      refine s_iload_n (pc := 35) 3 rfl rfl dX3_worthAtEnd_35 ?_
      refine s_ialdN (pc := 36) (_) rfl rfl (by omega) (rg _ (by omega)).2 dX3_worthAtEnd_36 ?_
      refine s_iandN (pc := 37) (by omega) (Nat.lt_trans (ahd64 o0 k1) (by decide)) dX3_worthAtEnd_37 ?_
      refine s_csi1 (pc := 38) (c_J6_bitCount_0f7a4 (Nat.lt_of_le_of_lt Nat.and_le_left (by omega))) ml_X3_54 ms_J6_bitCount_0f7a4 (by decide) (Nat.le_of_ble_eq_true rfl) dX3_worthAtEnd_38 ?_
      rw [bp_now o0]
      refine s_istore (pc := 41) (by decide) rfl dX3_worthAtEnd_41 ?_
      refine s_iload_n (pc := 43) 2 rfl rfl dX3_worthAtEnd_43 ?_
      refine s_iload_n (pc := 44) 3 rfl rfl dX3_worthAtEnd_44 ?_
      refine s_iconst (pc := 45) (k_i2N) dX3_worthAtEnd_45 ?_
      refine s_iremN (pc := 46) (by omega) (by omega) (by omega) dX3_worthAtEnd_46 ?_
      refine s_iconst (pc := 47) (k_i1N) dX3_worthAtEnd_47 ?_
      refine s_icmp_neN (pc := 48) (by omega) (by omega) 56 dX3_worthAtEnd_48 (by decide) (fun c_48 => ?_) (fun c_48 => ?_)
      · refine s_iload (pc := 56) rfl dX3_worthAtEnd_56 ?_
        refine s_ineg (pc := 58) dX3_worthAtEnd_58 ?_
        refine s_iadd (pc := 59) dX3_worthAtEnd_59 ?_
        refine WW.top (wC_neg (by omega)) ?_
        refine s_istore_n (pc := 60) 2 rfl (by decide) rfl dX3_worthAtEnd_60 ?_
        refine s_iincN (pc := 61) rfl (by decide) rfl dX3_worthAtEnd_61 ?_
        refine s_goto (pc := 64) 4 dX3_worthAtEnd_64 (by decide) ?_
        have ih := ih_4 (by omega)
        simp only [vlU] at ih
        rw [if_pos ((bit1_iff s k1).mp c_24), if_neg c_48] at ih
        exact ih _
      · refine s_iload (pc := 51) rfl dX3_worthAtEnd_51 ?_
        refine s_goto (pc := 53) 59 dX3_worthAtEnd_53 (by decide) ?_
        refine s_iadd (pc := 59) dX3_worthAtEnd_59 ?_
        refine WW.top (wC_add _ _) ?_
        refine s_istore_n (pc := 60) 2 rfl (by decide) rfl dX3_worthAtEnd_60 ?_
        refine s_iincN (pc := 61) rfl (by decide) rfl dX3_worthAtEnd_61 ?_
        refine s_goto (pc := 64) 4 dX3_worthAtEnd_64 (by decide) ?_
        have ih := ih_4 (by omega)
        simp only [vlU] at ih
        rw [if_pos ((bit1_iff s k1).mp c_24), if_pos c_48] at ih
        exact ih _

set_option maxRecDepth 20000 in
theorem c_X3_wb0 {s t1 : Nat} {F : Nat → Nat} {a : Nat → Nat} {h : Hp} (hR : RC a h) (hO : OkA a) (hs : s < 2 ^ a 0) (ht : t1 % 2 = 0) (hF : ∀ x, x < 2 ^ a 0 → h.1 46 x = wC (F x)) (hb : ∀ x, 64 ≤ F x ∧ F x ≤ 136) : CT 2 yX3_worthBefore cX3_worthBefore 6 (some .int) [.ref 44, .int (nI s), .int (nI 0)] h (some (.int (wC (mmS a t1 F s (a 0))))) (h) := by
  obtain ⟨⟨o0, o1, o2, o3, o4, o5, o6⟩, os⟩ := id hO
  have o64 := hO.in64
  have hC := hR.1
  obtain ⟨⟨r0, r1, r2, r4, r5, r6⟩, rs, P, rp, rP, rt⟩ := id hC
  have rg := hR.2
  have p1 : 1 ≤ 2 ^ a 0 := Nat.one_le_two_pow
  have p2 : 2 ^ a 0 ≤ 2 ^ 6 := Nat.pow_le_pow_right (by decide) o0
  refine CT.of (own := RX3) rfl (by decide) (ro_i _) [.ref 44, .int (nI s), .int (nI 0), .null, .null, .null] rfl (Nat.le_of_ble_eq_true rfl) (fun E hp => ?_)
  refine s_aload_n (pc := 0) 0 rfl rfl dX3_worthBefore_0 ?_
  refine s_getr (pc := 1) (b := 46) fl_X3_15 rfl rfl rfl dX3_worthBefore_1 ?_
  refine s_iload_n (pc := 4) 1 rfl rfl dX3_worthBefore_4 ?_
  refine s_ialdE (pc := 5) (_) rfl rfl (by omega) (hF s hs) dX3_worthBefore_5 ?_
  refine s_istore_n (pc := 6) 3 rfl (by decide) rfl dX3_worthBefore_6 ?_
  refine s_iload_n (pc := 7) 2 rfl rfl dX3_worthBefore_7 ?_
  refine s_istore (pc := 8) (by decide) rfl dX3_worthBefore_8 ?_
  rw [show F s = mmS a t1 F s (0 + 2 * 0) by rfl]
  refine WW.lc (show _ = [.ref 44, .int (nI s), .int (nI 0), .int (wC (mmS a t1 F s (0 + 2 * 0))), .int (nI (0 + 2 * 0)), .null] from rfl) ?_
  suffices lp_10 : ∀ u1, u1 ≤ (a 0 + 1) / 2 → ∀ z1, WW E cX3_worthBefore RX3 6 _ 10 [.ref 44, .int (nI s), .int (nI 0), .int (wC (mmS a t1 F s (0 + 2 * u1))), .int (nI (0 + 2 * u1)), z1] (h) [] from lp_10 0 (by omega) _
  refine lpi ((a 0 + 1) / 2) (fun u1 hk_u1 ih_10 => ?_)
  intro z1
  have mb := mmS_b (a := a) (t1 := t1) (s := s) hb (0 + 2 * u1)
  refine s_iload (pc := 10) rfl dX3_worthBefore_10 ?_
  refine s_aload_n (pc := 12) 0 rfl rfl dX3_worthBefore_12 ?_
  refine s_getr (pc := 13) (b := 23) fl_X3_18 rfl rfl rfl dX3_worthBefore_13 ?_
  refine s_getr (pc := 16) (b := 24) fl_X3_22 rfl rfl rfl dX3_worthBefore_16 ?_
  refine s_getiE (pc := 19) fl_X3_28 rfl rfl r0 dX3_worthBefore_19 ?_
  refine s_icmp_geN (pc := 22) (by omega) (by omega) 64 dX3_worthBefore_22 (by decide) (fun c_22 => ?_) (fun c_22 => ?_)
  · rw [mmS_ge (by omega) (by omega) (by omega)]
    refine s_iload_n (pc := 64) 3 rfl rfl dX3_worthBefore_64 ?_
    refine s_iret (pc := 65) dX3_worthBefore_65 (PostE.of hp ?_ ?_)
    · rfl
    · rfl
  · have xl := xor_lt (i := 0 + 2 * u1) hs (by omega)
    have fb := hb (s ^^^ 2 ^ (0 + 2 * u1))
    have pl : 2 ^ (0 + 2 * u1) < 64 := Nat.pow_lt_pow_right (n := 6) (by decide) (by omega)
    refine s_aload_n (pc := 25) 0 rfl rfl dX3_worthBefore_25 ?_
    refine s_getr (pc := 26) (b := 46) fl_X3_15 rfl rfl rfl dX3_worthBefore_26 ?_
    refine s_iload_n (pc := 29) 1 rfl rfl dX3_worthBefore_29 ?_
    refine s_iconst (pc := 30) (k_i1N) dX3_worthBefore_30 ?_
    refine s_iload (pc := 31) rfl dX3_worthBefore_31 ?_
    refine s_ishl1N (pc := 33) (by omega) dX3_worthBefore_33 ?_
    refine s_ixorN (pc := 34) (by omega) (by omega) dX3_worthBefore_34 ?_
    refine s_ialdE (pc := 35) (_) rfl rfl (by omega) (hF _ xl) dX3_worthBefore_35 ?_
    refine s_istore (pc := 36) (by decide) rfl dX3_worthBefore_36 ?_
    refine s_iload_n (pc := 38) 2 rfl rfl dX3_worthBefore_38 ?_
    refine s_if_neN (pc := 39) (by omega) 51 dX3_worthBefore_39 (by decide) (fun c_39 => ?_) (fun c_39 => ?_)
    · exfalso; omega
    · refine s_iload_n (pc := 42) 3 rfl rfl dX3_worthBefore_42 ?_
      refine s_iload (pc := 43) rfl dX3_worthBefore_43 ?_
      refine s_max (pc := 45) ml_X3_59 lm_max.1 lm_max.2.1 lm_max.2.2 (by decide) (Nat.le_of_ble_eq_true rfl) dX3_worthBefore_45 ?_
      refine WW.top (wC_max ht (by omega) (by omega)) ?_
      refine s_goto (pc := 48) 57 dX3_worthBefore_48 (by decide) ?_
      refine s_istore_n (pc := 57) 3 rfl (by decide) rfl dX3_worthBefore_57 ?_
      refine s_iinc2N (pc := 58) rfl (by decide) rfl dX3_worthBefore_58 ?_
      refine s_goto (pc := 61) 10 dX3_worthBefore_61 (by decide) ?_
      have ih := ih_10 (by omega)
      rw [show 0 + 2 * (u1 + 1) = 0 + 2 * u1 + 2 by omega, mmS_2 (by omega)] at ih
      exact ih _

set_option maxRecDepth 20000 in
theorem c_X3_wb1 {s t1 : Nat} {F : Nat → Nat} {a : Nat → Nat} {h : Hp} (hR : RC a h) (hO : OkA a) (hs : s < 2 ^ a 0) (ht : ¬ t1 % 2 = 0) (hF : ∀ x, x < 2 ^ a 0 → h.1 46 x = wC (F x)) (hb : ∀ x, 64 ≤ F x ∧ F x ≤ 136) : CT 2 yX3_worthBefore cX3_worthBefore 6 (some .int) [.ref 44, .int (nI s), .int (nI 1)] h (some (.int (wC (mmS a t1 F s (a 0))))) (h) := by
  obtain ⟨⟨o0, o1, o2, o3, o4, o5, o6⟩, os⟩ := id hO
  have o64 := hO.in64
  have hC := hR.1
  obtain ⟨⟨r0, r1, r2, r4, r5, r6⟩, rs, P, rp, rP, rt⟩ := id hC
  have rg := hR.2
  have p1 : 1 ≤ 2 ^ a 0 := Nat.one_le_two_pow
  have p2 : 2 ^ a 0 ≤ 2 ^ 6 := Nat.pow_le_pow_right (by decide) o0
  refine CT.of (own := RX3) rfl (by decide) (ro_i _) [.ref 44, .int (nI s), .int (nI 1), .null, .null, .null] rfl (Nat.le_of_ble_eq_true rfl) (fun E hp => ?_)
  refine s_aload_n (pc := 0) 0 rfl rfl dX3_worthBefore_0 ?_
  refine s_getr (pc := 1) (b := 46) fl_X3_15 rfl rfl rfl dX3_worthBefore_1 ?_
  refine s_iload_n (pc := 4) 1 rfl rfl dX3_worthBefore_4 ?_
  refine s_ialdE (pc := 5) (_) rfl rfl (by omega) (hF s hs) dX3_worthBefore_5 ?_
  refine s_istore_n (pc := 6) 3 rfl (by decide) rfl dX3_worthBefore_6 ?_
  refine s_iload_n (pc := 7) 2 rfl rfl dX3_worthBefore_7 ?_
  refine s_istore (pc := 8) (by decide) rfl dX3_worthBefore_8 ?_
  rw [show F s = mmS a t1 F s (1 + 2 * 0) by simp only [mmS]; rw [if_neg (by omega)]]
  refine WW.lc (show _ = [.ref 44, .int (nI s), .int (nI 1), .int (wC (mmS a t1 F s (1 + 2 * 0))), .int (nI (1 + 2 * 0)), .null] from rfl) ?_
  suffices lp_10 : ∀ u1, u1 ≤ (a 0 + 0) / 2 → ∀ z1, WW E cX3_worthBefore RX3 6 _ 10 [.ref 44, .int (nI s), .int (nI 1), .int (wC (mmS a t1 F s (1 + 2 * u1))), .int (nI (1 + 2 * u1)), z1] (h) [] from lp_10 0 (by omega) _
  refine lpi ((a 0 + 0) / 2) (fun u1 hk_u1 ih_10 => ?_)
  intro z1
  have mb := mmS_b (a := a) (t1 := t1) (s := s) hb (1 + 2 * u1)
  refine s_iload (pc := 10) rfl dX3_worthBefore_10 ?_
  refine s_aload_n (pc := 12) 0 rfl rfl dX3_worthBefore_12 ?_
  refine s_getr (pc := 13) (b := 23) fl_X3_18 rfl rfl rfl dX3_worthBefore_13 ?_
  refine s_getr (pc := 16) (b := 24) fl_X3_22 rfl rfl rfl dX3_worthBefore_16 ?_
  refine s_getiE (pc := 19) fl_X3_28 rfl rfl r0 dX3_worthBefore_19 ?_
  refine s_icmp_geN (pc := 22) (by omega) (by omega) 64 dX3_worthBefore_22 (by decide) (fun c_22 => ?_) (fun c_22 => ?_)
  · rw [mmS_ge (by omega) (by omega) (by omega)]
    refine s_iload_n (pc := 64) 3 rfl rfl dX3_worthBefore_64 ?_
    refine s_iret (pc := 65) dX3_worthBefore_65 (PostE.of hp ?_ ?_)
    · rfl
    · rfl
  · have xl := xor_lt (i := 1 + 2 * u1) hs (by omega)
    have fb := hb (s ^^^ 2 ^ (1 + 2 * u1))
    have pl : 2 ^ (1 + 2 * u1) < 64 := Nat.pow_lt_pow_right (n := 6) (by decide) (by omega)
    refine s_aload_n (pc := 25) 0 rfl rfl dX3_worthBefore_25 ?_
    refine s_getr (pc := 26) (b := 46) fl_X3_15 rfl rfl rfl dX3_worthBefore_26 ?_
    refine s_iload_n (pc := 29) 1 rfl rfl dX3_worthBefore_29 ?_
    refine s_iconst (pc := 30) (k_i1N) dX3_worthBefore_30 ?_
    refine s_iload (pc := 31) rfl dX3_worthBefore_31 ?_
    refine s_ishl1N (pc := 33) (by omega) dX3_worthBefore_33 ?_
    refine s_ixorN (pc := 34) (by omega) (by omega) dX3_worthBefore_34 ?_
    refine s_ialdE (pc := 35) (_) rfl rfl (by omega) (hF _ xl) dX3_worthBefore_35 ?_
    refine s_istore (pc := 36) (by decide) rfl dX3_worthBefore_36 ?_
    refine s_iload_n (pc := 38) 2 rfl rfl dX3_worthBefore_38 ?_
    refine s_if_neN (pc := 39) (by omega) 51 dX3_worthBefore_39 (by decide) (fun c_39 => ?_) (fun c_39 => ?_)
    · refine s_iload_n (pc := 51) 3 rfl rfl dX3_worthBefore_51 ?_
      refine s_iload (pc := 52) rfl dX3_worthBefore_52 ?_
      refine s_min (pc := 54) ml_X3_64 lm_min.1 lm_min.2.1 lm_min.2.2 (by decide) (Nat.le_of_ble_eq_true rfl) dX3_worthBefore_54 ?_
      refine WW.top (wC_min ht (by omega) (by omega)) ?_
      refine s_istore_n (pc := 57) 3 rfl (by decide) rfl dX3_worthBefore_57 ?_
      refine s_iinc2N (pc := 58) rfl (by decide) rfl dX3_worthBefore_58 ?_
      refine s_goto (pc := 61) 10 dX3_worthBefore_61 (by decide) ?_
      have ih := ih_10 (by omega)
      rw [show 1 + 2 * (u1 + 1) = 1 + 2 * u1 + 2 by omega, mmS_2 (by omega)] at ih
      exact ih _
    · exfalso; omega


set_option maxRecDepth 20000 in
theorem out_in {E : Cx} {n t1 : Nat} {v0 : Nat → Int32} {a : Nat → Nat} {h : Hp} (hR : RC a h) (hO : OkA a) (hn : n ≤ 5) (ht : t1 < n) (k : ∀ z1, WW E cX3_outcome RX3 5 3 41 [.ref 44, .int (nI n), .int (nI (2 ^ a 0)), .int (nI t1 - nI 1), z1] (dH h (2 ^ a 0) (fun y => wC (mmx a n (n - t1) y)) (fun y => wC (mmx a n (n - t1 - 1) y))) []) (z1 : Value) : WW E cX3_outcome RX3 5 3 41 [.ref 44, .int (nI n), .int (nI (2 ^ a 0)), .int (nI (t1 + 1) - nI 1), z1] (dH h (2 ^ a 0) (fun y => wC (mmx a n (n - t1 - 1) y)) v0) [] := by
  obtain ⟨⟨o0, o1, o2, o3, o4, o5, o6⟩, os⟩ := id hO
  have o64 := hO.in64
  have hC := hR.1
  obtain ⟨⟨r0, r1, r2, r4, r5, r6⟩, rs, P, rp, rP, rt⟩ := id hC
  have rg := hR.2
  have p1 : 1 ≤ 2 ^ a 0 := Nat.one_le_two_pow
  have p2 : 2 ^ a 0 ≤ 2 ^ 6 := Nat.pow_le_pow_right (by decide) o0
  rw [pk_sub (show 1 ≤ t1 + 1 by omega), Nat.add_sub_cancel]
  by_cases e2 : t1 % 2 = 0
  · refine s_iload_n (pc := 41) 3 rfl rfl dX3_outcome_41 ?_
    refine s_if_ltN (pc := 42) (by omega) 96 dX3_outcome_42 (by decide) ?_
    refine s_aload_n (pc := 45) 0 rfl rfl dX3_outcome_45 ?_
    refine s_getr (pc := 46) (b := 45) fl_X3_9 rfl rfl rfl dX3_outcome_46 ?_
    refine s_iconst (pc := 49) (k_i0N) dX3_outcome_49 ?_
    refine s_aload_n (pc := 50) 0 rfl rfl dX3_outcome_50 ?_
    refine s_getr (pc := 51) (b := 46) fl_X3_15 rfl rfl rfl dX3_outcome_51 ?_
    refine s_iconst (pc := 54) (k_i0N) dX3_outcome_54 ?_
    refine s_iload_n (pc := 55) 2 rfl rfl dX3_outcome_55 ?_
    refine s_acopy (pc := 56) (0) (0) (2 ^ a 0) rfl rfl rfl rfl rfl (by omega) (by omega) ml_X3_38 lm_cp.1 lm_cp.2.1 lm_cp.2.2 (by decide) (Nat.le_of_ble_eq_true rfl) dX3_outcome_56 ?_
    rw [dH_cp]
    refine s_iconst (pc := 59) (k_i0N) dX3_outcome_59 ?_
    refine s_istore (pc := 60) (by decide) rfl dX3_outcome_60 ?_
    refine WW.hp (fup_0 (dH h (2 ^ a 0) (fun y => wC (mmx a n (n - t1 - 1) y)) (fun y => wC (mmx a n (n - t1 - 1) y))) 45 (fun y => wC (mmx a n (n - t1) y))).symm ?_
    suffices lp_62 : ∀ k1, k1 ≤ 2 ^ a 0 → WW E cX3_outcome RX3 5 _ 62 [.ref 44, .int (nI n), .int (nI (2 ^ a 0)), .int (nI t1), .int (nI k1)] (fup (dH h (2 ^ a 0) (fun y => wC (mmx a n (n - t1 - 1) y)) (fun y => wC (mmx a n (n - t1 - 1) y))) 45 k1 (fun y => wC (mmx a n (n - t1) y))) [] from lp_62 0 (by omega)
    refine lpi (2 ^ a 0) (fun k1 hk_k1 ih_62 => ?_)
    refine s_iload (pc := 62) rfl dX3_outcome_62 ?_
    refine s_iload_n (pc := 64) 2 rfl rfl dX3_outcome_64 ?_
    refine s_icmp_geN (pc := 65) (by omega) (by omega) 90 dX3_outcome_65 (by decide) (fun c_65 => ?_) (fun c_65 => ?_)
    · obtain rfl : k1 = 2 ^ a 0 := by omega
      rw [dH_fup]
      refine s_iinc (pc := 90) _ rfl rfl (by decide) rfl dX3_outcome_90 ?_
      refine s_goto (pc := 93) 41 dX3_outcome_93 (by decide) ?_
      rw [m1_decj]
      exact k _
    · have em : ∀ y, mmx a n (n - t1) y = mmS a t1 (mmx a n (n - t1 - 1)) y (a 0) := fun y => by
        rw [show n - t1 = n - t1 - 1 + 1 by omega]
        simp only [mmx]
        rw [show n - (n - t1 - 1 + 1) = t1 by omega, Nat.add_sub_cancel]
      refine s_aload_n (pc := 68) 0 rfl rfl dX3_outcome_68 ?_
      refine s_getr (pc := 69) (b := 45) fl_X3_9 rfl rfl rfl dX3_outcome_69 ?_
      refine s_iload (pc := 72) rfl dX3_outcome_72 ?_
      refine s_aload_n (pc := 74) 0 rfl rfl dX3_outcome_74 ?_
      refine s_iload (pc := 75) rfl dX3_outcome_75 ?_
      refine s_iload_n (pc := 77) 3 rfl rfl dX3_outcome_77 ?_
      refine s_iconst (pc := 78) (k_i2N) dX3_outcome_78 ?_
      refine s_iremN (pc := 79) (by omega) (by omega) (by omega) dX3_outcome_79 ?_
      rw [show t1 % 2 = 0 by omega]
      refine s_cvi2 (pc := 80) (c_X3_wb0 ((hR.dH _ _ _).fup _ _) hO (by omega) e2 (fun x hx => (fup_ne (by decide)).trans (dH_46 hx)) (mmx_b o0 _)) ml_X3_44 mw_X3_worthBefore rfl (by decide) (Nat.le_of_ble_eq_true rfl) dX3_outcome_80 ?_
      refine s_iast (pc := 83) (_) rfl rfl (by omega) dX3_outcome_83 ?_
      rw [fup_s _ 45 k1 (fun y => wC (mmx a n (n - t1) y)) (congrArg wC (em k1)).symm]
      refine s_iincN (pc := 84) rfl (by decide) rfl dX3_outcome_84 ?_
      refine s_goto (pc := 87) 62 dX3_outcome_87 (by decide) ?_
      exact ih_62 (by omega)
  · refine s_iload_n (pc := 41) 3 rfl rfl dX3_outcome_41 ?_
    refine s_if_ltN (pc := 42) (by omega) 96 dX3_outcome_42 (by decide) ?_
    refine s_aload_n (pc := 45) 0 rfl rfl dX3_outcome_45 ?_
    refine s_getr (pc := 46) (b := 45) fl_X3_9 rfl rfl rfl dX3_outcome_46 ?_
    refine s_iconst (pc := 49) (k_i0N) dX3_outcome_49 ?_
    refine s_aload_n (pc := 50) 0 rfl rfl dX3_outcome_50 ?_
    refine s_getr (pc := 51) (b := 46) fl_X3_15 rfl rfl rfl dX3_outcome_51 ?_
    refine s_iconst (pc := 54) (k_i0N) dX3_outcome_54 ?_
    refine s_iload_n (pc := 55) 2 rfl rfl dX3_outcome_55 ?_
    refine s_acopy (pc := 56) (0) (0) (2 ^ a 0) rfl rfl rfl rfl rfl (by omega) (by omega) ml_X3_38 lm_cp.1 lm_cp.2.1 lm_cp.2.2 (by decide) (Nat.le_of_ble_eq_true rfl) dX3_outcome_56 ?_
    rw [dH_cp]
    refine s_iconst (pc := 59) (k_i0N) dX3_outcome_59 ?_
    refine s_istore (pc := 60) (by decide) rfl dX3_outcome_60 ?_
    refine WW.hp (fup_0 (dH h (2 ^ a 0) (fun y => wC (mmx a n (n - t1 - 1) y)) (fun y => wC (mmx a n (n - t1 - 1) y))) 45 (fun y => wC (mmx a n (n - t1) y))).symm ?_
    suffices lp_62 : ∀ k1, k1 ≤ 2 ^ a 0 → WW E cX3_outcome RX3 5 _ 62 [.ref 44, .int (nI n), .int (nI (2 ^ a 0)), .int (nI t1), .int (nI k1)] (fup (dH h (2 ^ a 0) (fun y => wC (mmx a n (n - t1 - 1) y)) (fun y => wC (mmx a n (n - t1 - 1) y))) 45 k1 (fun y => wC (mmx a n (n - t1) y))) [] from lp_62 0 (by omega)
    refine lpi (2 ^ a 0) (fun k1 hk_k1 ih_62 => ?_)
    refine s_iload (pc := 62) rfl dX3_outcome_62 ?_
    refine s_iload_n (pc := 64) 2 rfl rfl dX3_outcome_64 ?_
    refine s_icmp_geN (pc := 65) (by omega) (by omega) 90 dX3_outcome_65 (by decide) (fun c_65 => ?_) (fun c_65 => ?_)
    · obtain rfl : k1 = 2 ^ a 0 := by omega
      rw [dH_fup]
      refine s_iinc (pc := 90) _ rfl rfl (by decide) rfl dX3_outcome_90 ?_
      refine s_goto (pc := 93) 41 dX3_outcome_93 (by decide) ?_
      rw [m1_decj]
      exact k _
    · have em : ∀ y, mmx a n (n - t1) y = mmS a t1 (mmx a n (n - t1 - 1)) y (a 0) := fun y => by
        rw [show n - t1 = n - t1 - 1 + 1 by omega]
        simp only [mmx]
        rw [show n - (n - t1 - 1 + 1) = t1 by omega, Nat.add_sub_cancel]
      refine s_aload_n (pc := 68) 0 rfl rfl dX3_outcome_68 ?_
      refine s_getr (pc := 69) (b := 45) fl_X3_9 rfl rfl rfl dX3_outcome_69 ?_
      refine s_iload (pc := 72) rfl dX3_outcome_72 ?_
      refine s_aload_n (pc := 74) 0 rfl rfl dX3_outcome_74 ?_
      refine s_iload (pc := 75) rfl dX3_outcome_75 ?_
      refine s_iload_n (pc := 77) 3 rfl rfl dX3_outcome_77 ?_
      refine s_iconst (pc := 78) (k_i2N) dX3_outcome_78 ?_
      refine s_iremN (pc := 79) (by omega) (by omega) (by omega) dX3_outcome_79 ?_
      rw [show t1 % 2 = 1 by omega]
      refine s_cvi2 (pc := 80) (c_X3_wb1 ((hR.dH _ _ _).fup _ _) hO (by omega) e2 (fun x hx => (fup_ne (by decide)).trans (dH_46 hx)) (mmx_b o0 _)) ml_X3_44 mw_X3_worthBefore rfl (by decide) (Nat.le_of_ble_eq_true rfl) dX3_outcome_80 ?_
      refine s_iast (pc := 83) (_) rfl rfl (by omega) dX3_outcome_83 ?_
      rw [fup_s _ 45 k1 (fun y => wC (mmx a n (n - t1) y)) (congrArg wC (em k1)).symm]
      refine s_iincN (pc := 84) rfl (by decide) rfl dX3_outcome_84 ?_
      refine s_goto (pc := 87) 62 dX3_outcome_87 (by decide) ?_
      exact ih_62 (by omega)


set_option maxRecDepth 20000 in
theorem c_X3_outcome {n : Nat} {a : Nat → Nat} {h : Hp} (hR : RC a h) (hO : OkA a) (hn : n ≤ 5) : ∃ v1, CT 3 yX3_outcome cX3_outcome 5 (some .int) [.ref 44, .int (nI n)] h (some (.int (wC (mmx a n n (a 5))))) (dH h (2 ^ a 0) (fun y => wC (mmx a n (n) y)) v1) := by
  obtain ⟨⟨o0, o1, o2, o3, o4, o5, o6⟩, os⟩ := id hO
  have o64 := hO.in64
  have hC := hR.1
  obtain ⟨⟨r0, r1, r2, r4, r5, r6⟩, rs, P, rp, rP, rt⟩ := id hC
  have rg := hR.2
  have p1 : 1 ≤ 2 ^ a 0 := Nat.one_le_two_pow
  have p2 : 2 ^ a 0 ≤ 2 ^ 6 := Nat.pow_le_pow_right (by decide) o0
  have key : ∀ j1, j1 ≤ n → ∀ v0, ∃ v1, ∀ E : Cx, (∀ z1, WW E cX3_outcome RX3 5 3 41 [.ref 44, .int (nI n), .int (nI (2 ^ a 0)), .int (nI 0 - nI 1), z1] (dH h (2 ^ a 0) (fun y => wC (mmx a n (n) y)) v1) []) → ∀ z1, WW E cX3_outcome RX3 5 3 41 [.ref 44, .int (nI n), .int (nI (2 ^ a 0)), .int (nI j1 - nI 1), z1] (dH h (2 ^ a 0) (fun y => wC (mmx a n (n - j1) y)) v0) [] := by
    intro j1
    induction j1 with
    | zero => exact fun _ v0 => ⟨v0, fun E k z1 => by rw [Nat.sub_zero] at *; exact k z1⟩
    | succ j1 ih =>
      intro hj v0
      obtain ⟨v1, k1⟩ := ih (by omega) (fun y => wC (mmx a n (n - j1 - 1) y))
      refine ⟨v1, fun E k z1 => ?_⟩
      refine out_in (n := n) (t1 := j1) hR hO hn (by omega) (fun z1 => ?_) z1
      exact k1 E k z1
  obtain ⟨v1, kk⟩ := key n (Nat.le_refl _) (h.1 46)
  refine ⟨v1, ?_⟩
  refine CT.of (own := RX3) rfl (by decide) (ro_i _) [.ref 44, .int (nI n), .null, .null, .null] rfl (Nat.le_of_ble_eq_true rfl) (fun E hp => ?_)

  refine s_iconst (pc := 0) (k_i1N) dX3_outcome_0 ?_
  refine s_aload_n (pc := 1) 0 rfl rfl dX3_outcome_1 ?_
  refine s_getr (pc := 2) (b := 23) fl_X3_18 rfl rfl rfl dX3_outcome_2 ?_
  refine s_getr (pc := 5) (b := 24) fl_X3_22 rfl rfl rfl dX3_outcome_5 ?_
  refine s_getiE (pc := 8) fl_X3_28 rfl rfl r0 dX3_outcome_8 ?_
  refine s_ishl1N (pc := 11) (by omega) dX3_outcome_11 ?_
  refine s_istore_n (pc := 12) 2 rfl (by decide) rfl dX3_outcome_12 ?_
  refine s_iconst (pc := 13) (k_i0N) dX3_outcome_13 ?_
  refine s_istore_n (pc := 14) 3 rfl (by decide) rfl dX3_outcome_14 ?_
  refine WW.hp (fup_0 h 45 (fun y => wC (vlU a y (a 0)))).symm ?_
  suffices lp_15 : ∀ k1, k1 ≤ 2 ^ a 0 → WW E cX3_outcome RX3 5 _ 15 [.ref 44, .int (nI n), .int (nI (2 ^ a 0)), .int (nI k1), .null] (fup h 45 k1 (fun y => wC (vlU a y (a 0)))) [] from lp_15 0 (by omega)
  refine lpi (2 ^ a 0) (fun k1 hk_k1 ih_15 => ?_)
  have r0k : (fup h 45 k1 (fun y => wC (vlU a y (a 0)))).1 24 5 = nI (a 0) := r0
  refine s_iload_n (pc := 15) 3 rfl rfl dX3_outcome_15 ?_
  refine s_iload_n (pc := 16) 2 rfl rfl dX3_outcome_16 ?_
  refine s_icmp_geN (pc := 17) (by omega) (by omega) 37 dX3_outcome_17 (by decide) (fun c_17 => ?_) (fun c_17 => ?_)
  · obtain rfl : k1 = 2 ^ a 0 := by omega
    rw [dH_0]
    have kk2 := kk E
    refine s_iload_n (pc := 37) 1 rfl rfl dX3_outcome_37 ?_
    refine s_iconst (pc := 38) (k_i1N) dX3_outcome_38 ?_
    refine s_isub (pc := 39) dX3_outcome_39 ?_
    refine s_istore_n (pc := 40) 3 rfl (by decide) rfl dX3_outcome_40 ?_
    suffices kf : ∀ z1, WW E cX3_outcome RX3 5 3 41 [.ref 44, .int (nI n), .int (nI (2 ^ a 0)), .int (nI 0 - nI 1), z1] (dH h (2 ^ a 0) (fun y => wC (mmx a n (n) y)) v1) [] by
      have ks := kk2 kf
      rw [Nat.sub_self] at ks
      exact ks _
    intro z1
    refine s_iload_n (pc := 41) 3 rfl rfl dX3_outcome_41 ?_
    refine s_if_lt (pc := 42) 96 dX3_outcome_42 (by decide) (fun c_42 => ?_) (fun c_42 => ?_)
    · refine s_aload_n (pc := 96) 0 rfl rfl dX3_outcome_96 ?_
      refine s_getr (pc := 97) (b := 45) fl_X3_9 rfl rfl rfl dX3_outcome_97 ?_
      refine s_aload_n (pc := 100) 0 rfl rfl dX3_outcome_100 ?_
      refine s_getr (pc := 101) (b := 23) fl_X3_18 rfl rfl rfl dX3_outcome_101 ?_
      refine s_getiE (pc := 104) fl_X3_48 rfl rfl (show _ = nI (a 5) from (dH_ne (by decide) (by decide)).trans r5) dX3_outcome_104 ?_
      refine s_ialdE (pc := 107) (_) rfl rfl (by omega) (dH_45 o5) dX3_outcome_107 ?_
      refine s_iret (pc := 108) dX3_outcome_108 (PostE.of hp ?_ ?_)
      · rfl
      · rfl
    · exfalso; exact c_42 (by decide)
  · refine s_aload_n (pc := 20) 0 rfl rfl dX3_outcome_20 ?_
    refine s_getr (pc := 21) (b := 45) fl_X3_9 rfl rfl rfl dX3_outcome_21 ?_
    refine s_iload_n (pc := 24) 3 rfl rfl dX3_outcome_24 ?_
    refine s_aload_n (pc := 25) 0 rfl rfl dX3_outcome_25 ?_
    refine s_iload_n (pc := 26) 3 rfl rfl dX3_outcome_26 ?_
    refine s_cvi1 (pc := 27) (c_X3_worthAtEnd (hR.fup k1 (fun y => wC (vlU a y (a 0)))) hO (by omega)) ml_X3_34 mw_X3_worthAtEnd rfl (by decide) (Nat.le_of_ble_eq_true rfl) dX3_outcome_27 ?_
    refine s_iast (pc := 30) (_) rfl rfl (by omega) dX3_outcome_30 ?_
    rw [fup_s h 45 k1 (fun y => wC (vlU a y (a 0))) rfl]
    refine s_iincN (pc := 31) rfl (by decide) rfl dX3_outcome_31 ?_
    refine s_goto (pc := 34) 15 dX3_outcome_34 (by decide) ?_
    exact ih_15 (by omega)

set_option maxRecDepth 20000 in
theorem c_X6_duelB {x : Int32} {a : Nat → Nat} {h : Hp} (hR : RC a h) (hO : OkA a) (hb : x < 0 ∨ nI 5 < x) : CT 4 yX6_duel cX6_duel 2 (some .int) [.ref 0, .int x] h (some (.int (-1))) (h) := by
  refine CT.of (own := RX6) rfl (by decide) (ro_i _) [.ref 0, .int x] rfl (Nat.le_of_ble_eq_true rfl) (fun E hp => ?_)
  refine s_iload_n (pc := 0) 1 rfl rfl dX6_duel_0 ?_
  refine s_if_lt (pc := 1) 9 dX6_duel_1 (by decide) (fun c_1 => ?_) (fun c_1 => ?_)
  · refine s_iconst (pc := 9) (k_im1) dX6_duel_9 ?_
    refine s_iret (pc := 10) dX6_duel_10 (PostE.of hp ?_ ?_)
    · rfl
    · rfl
  · refine s_iload_n (pc := 4) 1 rfl rfl dX6_duel_4 ?_
    refine s_iconst (pc := 5) (k_i5N) dX6_duel_5 ?_
    refine s_icmp_le (pc := 6) 11 dX6_duel_6 (by decide) (fun c_6 => ?_) (fun c_6 => ?_)
    · exact (hb.elim c_1 (fun q => absurd c_6 (Int32.not_le.mpr q))).elim
    · refine s_iconst (pc := 9) (k_im1) dX6_duel_9 ?_
      refine s_iret (pc := 10) dX6_duel_10 (PostE.of hp ?_ ?_)
      · rfl
      · rfl

set_option maxRecDepth 20000 in
theorem c_X6_duelE {n : Nat} {a : Nat → Nat} {h : Hp} (hR : RC a h) (hO : OkA a) (hn : n ≤ 5) (h0 : a 0 = 0) : CT 4 yX6_duel cX6_duel 2 (some .int) [.ref 0, .int (nI n)] h (some (.int (-4))) (h) := by
  refine CT.of (own := RX6) rfl (by decide) (ro_i _) [.ref 0, .int (nI n)] rfl (Nat.le_of_ble_eq_true rfl) (fun E hp => ?_)
  refine s_iload_n (pc := 0) 1 rfl rfl dX6_duel_0 ?_
  refine s_if_ltN (pc := 1) (by omega) 9 dX6_duel_1 (by decide) ?_
  refine s_iload_n (pc := 4) 1 rfl rfl dX6_duel_4 ?_
  refine s_iconst (pc := 5) (k_i5N) dX6_duel_5 ?_
  refine s_icmp_leN (pc := 6) (by omega) (by omega) 11 dX6_duel_6 (by decide) (fun c_6 => ?_) (fun c_6 => ?_)
  · refine s_aload_n (pc := 11) 0 rfl rfl dX6_duel_11 ?_
    refine s_getr (pc := 12) (b := 23) fl_X6_27 rfl rfl rfl dX6_duel_12 ?_
    refine s_cvi0 (pc := 15) (c_X2_isEmpty hR.1 hO.1.1) ml_X6_170 mw_X2_isEmpty rfl (by decide) (Nat.le_of_ble_eq_true rfl) dX6_duel_15 ?_
    refine s_if_eqB (pc := 18) 26 dX6_duel_18 (by decide) (fun c_18 => ?_) (fun c_18 => ?_)
    · exfalso; omega
    · refine s_bipush (pc := 21) (k_bm4) dX6_duel_21 ?_
      refine s_goto (pc := 23) 37 dX6_duel_23 (by decide) ?_
      refine s_iret (pc := 37) dX6_duel_37 (PostE.of hp ?_ ?_)
      · rfl
      · rfl
  · exfalso; omega

set_option maxRecDepth 20000 in
theorem c_X6_duelO {n : Nat} {h2 : Hp} {a : Nat → Nat} {h : Hp} (hR : RC a h) (hO : OkA a) (hn : n ≤ 5) (h0 : 0 < a 0) (hout : CT 3 yX3_outcome cX3_outcome 5 (some .int) [.ref 44, .int (nI n)] h (some (.int (wC (mmx a n n (a 5))))) h2) : CT 4 yX6_duel cX6_duel 2 (some .int) [.ref 0, .int (nI n)] h (some (.int (nI (mmx a n n (a 5))))) (h2) := by
  refine CT.of (own := RX6) rfl (by decide) (ro_i _) [.ref 0, .int (nI n)] rfl (Nat.le_of_ble_eq_true rfl) (fun E hp => ?_)
  refine s_iload_n (pc := 0) 1 rfl rfl dX6_duel_0 ?_
  refine s_if_ltN (pc := 1) (by omega) 9 dX6_duel_1 (by decide) ?_
  refine s_iload_n (pc := 4) 1 rfl rfl dX6_duel_4 ?_
  refine s_iconst (pc := 5) (k_i5N) dX6_duel_5 ?_
  refine s_icmp_leN (pc := 6) (by omega) (by omega) 11 dX6_duel_6 (by decide) (fun c_6 => ?_) (fun c_6 => ?_)
  · refine s_aload_n (pc := 11) 0 rfl rfl dX6_duel_11 ?_
    refine s_getr (pc := 12) (b := 23) fl_X6_27 rfl rfl rfl dX6_duel_12 ?_
    refine s_cvi0 (pc := 15) (c_X2_isEmpty hR.1 hO.1.1) ml_X6_170 mw_X2_isEmpty rfl (by decide) (Nat.le_of_ble_eq_true rfl) dX6_duel_15 ?_
    refine s_if_eqB (pc := 18) 26 dX6_duel_18 (by decide) (fun c_18 => ?_) (fun c_18 => ?_)
    · refine s_bipush (pc := 26) (k_b100N) dX6_duel_26 ?_
      refine s_aload_n (pc := 28) 0 rfl rfl dX6_duel_28 ?_
      refine s_getr (pc := 29) (b := 44) fl_X6_50 rfl rfl rfl dX6_duel_29 ?_
      refine s_iload_n (pc := 32) 1 rfl rfl dX6_duel_32 ?_
      refine s_cvi1 (pc := 33) (hout) ml_X6_266 mw_X3_outcome rfl (by decide) (Nat.le_of_ble_eq_true rfl) dX6_duel_33 ?_
      refine s_iadd (pc := 36) dX6_duel_36 ?_
      refine WW.top (wC_100 _) ?_
      refine s_iret (pc := 37) dX6_duel_37 (PostE.of hp ?_ ?_)
      · rfl
      · rfl
    · exfalso; omega
  · exfalso; omega
