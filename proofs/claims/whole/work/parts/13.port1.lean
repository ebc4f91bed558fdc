/-! the class's harbour (places 23 .. 34) tells the numbers a -/
def RC0 (a : Nat → Nat) (h : Hp) : Prop := (h.1 24 5 = nI (a 0) ∧ h.1 23 7 = nI (a 1) ∧ h.1 24 7 = nI (a 2) ∧ h.1 23 8 = nI (a 4) ∧ h.1 23 9 = nI (a 5) ∧ h.1 23 11 = nI (a 6)) ∧
  (∀ i, i < a 0 → h.1 25 i = nI (sh a i 0) ∧ h.1 26 i = nI (sh a i 1) ∧ h.1 27 i = nI (sh a i 2) ∧ h.1 28 i = nI (sh a i 3) ∧ h.1 29 i = nI (sh a i 4) ∧ h.1 30 i = nI (sh a i 5) ∧ h.1 31 i = nI (sh a i 7)) ∧
  ∃ P, P < 64 ∧ h.1 23 10 = nI P ∧ ∀ i, i < a 0 → P.testBit i = decide (sh a i 6 = 1)
def ahdN (a : Nat → Nat) (i : Nat) : Nat := bitsU (a 0) (fun j => decide (¬ j = i) && aheadNow a j i)
def RC (a : Nat → Nat) (h : Hp) : Prop := RC0 a h ∧ ∀ i, i < a 0 → h.1 33 i = nI (ageN a i (a 1)) ∧ h.1 34 i = nI (ahdN a i)
theorem and_not : ∀ s, s < 64 → ∀ A, A < 64 → nI s &&& (nI A ^^^ (-1)) = nI (s ^^^ (s &&& A)) := by decide +kernel
theorem and_not_lt : ∀ s, s < 64 → ∀ A, A < 64 → s ^^^ (s &&& A) < 64 := by decide +kernel
theorem and_not_tb (s A j : Nat) : (s ^^^ (s &&& A)).testBit j = (s.testBit j && !A.testBit j) := by
  rw [Nat.testBit_xor, Nat.testBit_and]
  cases s.testBit j <;> cases A.testBit j <;> rfl
theorem and_lt64 {s A : Nat} (h : s < 64) : s &&& A < 64 := Nat.lt_of_le_of_lt Nat.and_le_left h
theorem pop_and {s n : Nat} {p : Nat → Bool} (hn : n ≤ 6) : pop (s &&& bitsU n p) = cnt n (fun j => s.testBit j && p j) := by
  unfold pop
  have e : cnt 6 (s &&& bitsU n p).testBit = cnt 6 (fun j => s.testBit j && (decide (j < n) && p j)) := cnt_congr (fun j _ => by rw [Nat.testBit_and, bitsU_testBit])
  rw [e, cnt_more hn (fun j hj => by simp [show ¬ j < n by omega])]
  exact cnt_congr (fun j hj => by simp [hj])
theorem berth_pop {a : Nat → Nat} {i g s y : Nat} (hn : a 0 ≤ 6) : pop (s &&& bitsU (a 0) (fun j => decide (¬ j = i) && aheadN a j (ageN a j y) i g)) = berthN a i g s y := by
  rw [pop_and hn]
  exact cnt_congr (fun j _ => by
    simp only [berthP]
    cases s.testBit j <;> cases decide (¬ j = i) <;> rfl)
theorem shift_pop {a : Nat → Nat} {i s : Nat} (hn : a 0 ≤ 6) (hi : i < 6) (hs : s < 2 ^ a 0) (hs6 : s < 64) : pop (clrN (s ^^^ (s &&& ahdN a i)) i) = shiftN a i s := by
  unfold pop shiftN
  refine cnt_congr (fun j hj => ?_)
  rw [clr_tb _ (and_not_lt s hs6 (ahdN a i) (bitsU_lt64 _ hn)) i hi j hj, and_not_tb, ahdN, bitsU_testBit]
  simp only [shiftP]
  by_cases hjn : j < a 0
  · simp only [hjn, decide_true, Bool.true_and]
    cases hji : decide (¬ j = i) <;> cases s.testBit j <;> simp
  · simp [tb_lt hs (Nat.le_of_not_lt hjn)]
theorem kab_eq : ∀ k, k < 6 → ∀ m, m < 6 → 0 < m → (kabA k = nI m ↔ ((k = 4 ∧ m = 1) ∨ (k = 5 ∧ m = 3))) := by decide +kernel
theorem mx_past {y b : Nat} (hy : y < 2 ^ 30) (hb : b < 2 ^ 30) : (if nI 0 < nI y - nI b then nI y - nI b else nI 0) = nI (y - b) := by
  have h1 : nI 0 < nI y - nI b ↔ b < y := by rw [Int32.lt_iff_toInt_lt, pk_sub_toInt hy hb, nI_toInt (by decide)]; omega
  by_cases h : b < y
  · rw [if_pos (h1.mpr h), pk_sub (by omega)]
  · rw [if_neg (fun q => h (h1.mp q)), show y - b = 0 by omega]
theorem mx_n {x y : Nat} (hx : x < 2 ^ 31) (hy : y < 2 ^ 31) : (if nI x < nI y then nI y else nI x) = nI (if x < y then y else x) := by
  by_cases h : x < y
  · rw [if_pos ((nI_ltI hx hy).mpr h), if_pos h]
  · rw [if_neg (fun q => h ((nI_ltI hx hy).mp q)), if_neg h]
theorem mn_n {x y : Nat} (hx : x < 2 ^ 31) (hy : y < 2 ^ 31) : (if nI y < nI x then nI y else nI x) = nI (if y < x then y else x) := by
  by_cases h : y < x
  · rw [if_pos ((nI_ltI hy hx).mpr h), if_pos h]
  · rw [if_neg (fun q => h ((nI_ltI hy hx).mp q)), if_neg h]
theorem mx_exc {x b : Nat} (hx : x < 1000) (hb : b < 1000) : (if nI 0 < nI x - nI b - nI 2 then nI x - nI b - nI 2 else nI 0) = nI (x - b - 2) := by
  have h2 : (nI x - nI b - nI 2).toInt = (x : Int) - b - 2 := by
    rw [Int32.toInt_sub, pk_sub_toInt (by omega) (by omega), nI_toInt (by decide)]
    apply Int.bmod_eq_of_le <;> omega
  have h1 : nI 0 < nI x - nI b - nI 2 ↔ b + 2 < x := by rw [Int32.lt_iff_toInt_lt, h2, nI_toInt (by decide)]; omega
  by_cases h : b + 2 < x
  · rw [if_pos (h1.mpr h), exc_pos (by omega)]
  · rw [if_neg (fun q => h (h1.mp q)), show x - b - 2 = 0 by omega]

def bcF (x : Int32) : Int32 :=
  let a := x - ((x.toUInt32 >>> ((nI 1).toUInt32 &&& Int32.toUInt32 31)).toInt32 &&& 1431655765)
  let b := (a &&& 858993459) + ((a.toUInt32 >>> ((nI 2).toUInt32 &&& Int32.toUInt32 31)).toInt32 &&& 858993459)
  let c := (b + (b.toUInt32 >>> ((nI 4).toUInt32 &&& Int32.toUInt32 31)).toInt32) &&& 252645135
  let d := c + (c.toUInt32 >>> ((nI 8).toUInt32 &&& Int32.toUInt32 31)).toInt32
  let e := d + (d.toUInt32 >>> ((nI 16).toUInt32 &&& Int32.toUInt32 31)).toInt32
  e &&& nI 63
theorem bcF_ok : ∀ m, m < 64 → bcF (nI m) = nI (pop m) := by decide +kernel

set_option maxRecDepth 20000 in
theorem c_J6_bitCount_0f7a4 {m : Nat} {h : Hp} (hm : m < 64) : CT 1 yJ6_bitCount_0f7a4 cJ6_bitCount_0f7a4 1 (some .int) [.int (nI m)] h (some (.int (nI (pop m)))) (h) := by
  refine CT.of (own := RJ6) rfl (by decide) (ro_i _) [.int (nI m)] rfl (Nat.le_of_ble_eq_true rfl) (fun E hp => ?_)
  refine s_iload_n (pc := 0) 0 rfl rfl dJ6_bitCount_0f7a4_0 ?_
  refine s_iload_n (pc := 1) 0 rfl rfl dJ6_bitCount_0f7a4_1 ?_
  refine s_iconst (pc := 2) (k_i1N) dJ6_bitCount_0f7a4_2 ?_
  refine s_iushr (pc := 3) _ rfl dJ6_bitCount_0f7a4_3 ?_
  refine s_ldcw (pc := 4) _ lc_J6_265 dJ6_bitCount_0f7a4_4 ?_
  refine s_iand (pc := 7) dJ6_bitCount_0f7a4_7 ?_
  refine s_isub (pc := 8) dJ6_bitCount_0f7a4_8 ?_
  refine s_istore_n (pc := 9) 0 rfl (by decide) rfl dJ6_bitCount_0f7a4_9 ?_
  refine s_iload_n (pc := 10) 0 rfl rfl dJ6_bitCount_0f7a4_10 ?_
  refine s_ldcw (pc := 11) _ lc_J6_266 dJ6_bitCount_0f7a4_11 ?_
  refine s_iand (pc := 14) dJ6_bitCount_0f7a4_14 ?_
  refine s_iload_n (pc := 15) 0 rfl rfl dJ6_bitCount_0f7a4_15 ?_
  refine s_iconst (pc := 16) (k_i2N) dJ6_bitCount_0f7a4_16 ?_
  refine s_iushr (pc := 17) _ rfl dJ6_bitCount_0f7a4_17 ?_
  refine s_ldcw (pc := 18) _ lc_J6_266 dJ6_bitCount_0f7a4_18 ?_
  refine s_iand (pc := 21) dJ6_bitCount_0f7a4_21 ?_
  refine s_iadd (pc := 22) dJ6_bitCount_0f7a4_22 ?_
  refine s_istore_n (pc := 23) 0 rfl (by decide) rfl dJ6_bitCount_0f7a4_23 ?_
  refine s_iload_n (pc := 24) 0 rfl rfl dJ6_bitCount_0f7a4_24 ?_
  refine s_iload_n (pc := 25) 0 rfl rfl dJ6_bitCount_0f7a4_25 ?_
  refine s_iconst (pc := 26) (k_i4N) dJ6_bitCount_0f7a4_26 ?_
  refine s_iushr (pc := 27) _ rfl dJ6_bitCount_0f7a4_27 ?_
  refine s_iadd (pc := 28) dJ6_bitCount_0f7a4_28 ?_
  refine s_ldcw (pc := 29) _ lc_J6_267 dJ6_bitCount_0f7a4_29 ?_
  refine s_iand (pc := 32) dJ6_bitCount_0f7a4_32 ?_
  refine s_istore_n (pc := 33) 0 rfl (by decide) rfl dJ6_bitCount_0f7a4_33 ?_
  refine s_iload_n (pc := 34) 0 rfl rfl dJ6_bitCount_0f7a4_34 ?_
  refine s_iload_n (pc := 35) 0 rfl rfl dJ6_bitCount_0f7a4_35 ?_
  refine s_bipush (pc := 36) (k_b8N) dJ6_bitCount_0f7a4_36 ?_
  refine s_iushr (pc := 38) _ rfl dJ6_bitCount_0f7a4_38 ?_
  refine s_iadd (pc := 39) dJ6_bitCount_0f7a4_39 ?_
  refine s_istore_n (pc := 40) 0 rfl (by decide) rfl dJ6_bitCount_0f7a4_40 ?_
  refine s_iload_n (pc := 41) 0 rfl rfl dJ6_bitCount_0f7a4_41 ?_
  refine s_iload_n (pc := 42) 0 rfl rfl dJ6_bitCount_0f7a4_42 ?_
  refine s_bipush (pc := 43) (k_b16N) dJ6_bitCount_0f7a4_43 ?_
  refine s_iushr (pc := 45) _ rfl dJ6_bitCount_0f7a4_45 ?_
  refine s_iadd (pc := 46) dJ6_bitCount_0f7a4_46 ?_
  refine s_istore_n (pc := 47) 0 rfl (by decide) rfl dJ6_bitCount_0f7a4_47 ?_
  refine s_iload_n (pc := 48) 0 rfl rfl dJ6_bitCount_0f7a4_48 ?_
  refine s_bipush (pc := 49) (k_b63N) dJ6_bitCount_0f7a4_49 ?_
  refine s_iand (pc := 51) dJ6_bitCount_0f7a4_51 ?_
  refine s_iret (pc := 52) dJ6_bitCount_0f7a4_52 (PostE.of hp ?_ ?_)
  · exact congrArg (fun z => some (Value.int z)) (bcF_ok m hm)
  · rfl

set_option maxRecDepth 20000 in
theorem c_X2_isEmpty {a : Nat → Nat} {h : Hp} (hC : RC0 a h) (hn : a 0 ≤ 6) : CT 1 yX2_isEmpty cX2_isEmpty 1 (some .boolean) [.ref 23] h (some (.int (bi (a 0 = 0)))) (h) := by
  obtain ⟨⟨r0, r1, r2, r4, r5, r6⟩, rs, P, rp, rP, rt⟩ := id hC
  refine CT.of (own := RX2) rfl (by decide) (ro_z _) [.ref 23] rfl (Nat.le_of_ble_eq_true rfl) (fun E hp => ?_)
  refine s_aload_n (pc := 0) 0 rfl rfl dX2_isEmpty_0 ?_
  refine s_getr (pc := 1) (b := 24) fl_X2_12 rfl rfl rfl dX2_isEmpty_1 ?_
  refine s_getiE (pc := 4) fl_X2_68 rfl rfl r0 dX2_isEmpty_4 ?_
  refine s_if_neN (pc := 7) (by omega) 14 dX2_isEmpty_7 (by decide) (fun c_7 => ?_) (fun c_7 => ?_)
  · refine s_iconst (pc := 14) (k_i0N) dX2_isEmpty_14 ?_
    refine s_iret (pc := 15) dX2_isEmpty_15 (PostE.of hp ?_ ?_)
    · first | exact ret_t rfl (by omega) | exact ret_f rfl (by omega)
    · rfl
  · refine s_iconst (pc := 10) (k_i1N) dX2_isEmpty_10 ?_
    refine s_goto (pc := 11) 15 dX2_isEmpty_11 (by decide) ?_
    refine s_iret (pc := 15) dX2_isEmpty_15 (PostE.of hp ?_ ?_)
    · first | exact ret_t rfl (by omega) | exact ret_f rfl (by omega)
    · rfl

set_option maxRecDepth 20000 in
theorem c_X2_isShipN {i : Nat} {a : Nat → Nat} {h : Hp} (hC : RC0 a h) (hn : a 0 ≤ 6) (hi : i < a 0) : CT 1 yX2_isShip cX2_isShip 2 (some .boolean) [.ref 23, .int (nI i)] h (some (.int (bi True))) (h) := by
  obtain ⟨⟨r0, r1, r2, r4, r5, r6⟩, rs, P, rp, rP, rt⟩ := id hC
  refine CT.of (own := RX2) rfl (by decide) (ro_z _) [.ref 23, .int (nI i)] rfl (Nat.le_of_ble_eq_true rfl) (fun E hp => ?_)
  refine s_iload_n (pc := 0) 1 rfl rfl dX2_isShip_0 ?_
  refine s_if_ltN (pc := 1) (by omega) 25 dX2_isShip_1 (by decide) ?_
  refine s_iload_n (pc := 4) 1 rfl rfl dX2_isShip_4 ?_
  refine s_aload_n (pc := 5) 0 rfl rfl dX2_isShip_5 ?_
  refine s_getr (pc := 6) (b := 24) fl_X2_12 rfl rfl rfl dX2_isShip_6 ?_
  refine s_getiE (pc := 9) fl_X2_68 rfl rfl r0 dX2_isShip_9 ?_
  refine s_icmp_geN (pc := 12) (by omega) (by omega) 25 dX2_isShip_12 (by decide) (fun c_12 => ?_) (fun c_12 => ?_)
  · refine s_iconst (pc := 25) (k_i0N) dX2_isShip_25 ?_
    refine s_iret (pc := 26) dX2_isShip_26 (PostE.of hp ?_ ?_)
    · first | rfl | (exfalso; omega)
    · rfl
  · refine s_iload_n (pc := 15) 1 rfl rfl dX2_isShip_15 ?_
    refine s_bipush (pc := 16) (k_b6N) dX2_isShip_16 ?_
    refine s_icmp_geN (pc := 18) (by omega) (by omega) 25 dX2_isShip_18 (by decide) (fun c_18 => ?_) (fun c_18 => ?_)
    · refine s_iconst (pc := 25) (k_i0N) dX2_isShip_25 ?_
      refine s_iret (pc := 26) dX2_isShip_26 (PostE.of hp ?_ ?_)
      · first | rfl | (exfalso; omega)
      · rfl
    · refine s_iconst (pc := 21) (k_i1N) dX2_isShip_21 ?_
      refine s_goto (pc := 22) 26 dX2_isShip_22 (by decide) ?_
      refine s_iret (pc := 26) dX2_isShip_26 (PostE.of hp ?_ ?_)
      · first | rfl | (exfalso; omega)
      · rfl

set_option maxRecDepth 20000 in
theorem c_X2_isShipB {i : Int32} {a : Nat → Nat} {h : Hp} (hC : RC0 a h) (hn : a 0 ≤ 6) (hb : i < 0 ∨ nI (a 0) ≤ i) : CT 1 yX2_isShip cX2_isShip 2 (some .boolean) [.ref 23, .int i] h (some (.int (bi False))) (h) := by
  obtain ⟨⟨r0, r1, r2, r4, r5, r6⟩, rs, P, rp, rP, rt⟩ := id hC
  refine CT.of (own := RX2) rfl (by decide) (ro_z _) [.ref 23, .int i] rfl (Nat.le_of_ble_eq_true rfl) (fun E hp => ?_)
  refine s_iload_n (pc := 0) 1 rfl rfl dX2_isShip_0 ?_
  refine s_if_lt (pc := 1) 25 dX2_isShip_1 (by decide) (fun c_1 => ?_) (fun c_1 => ?_)
  · refine s_iconst (pc := 25) (k_i0N) dX2_isShip_25 ?_
    refine s_iret (pc := 26) dX2_isShip_26 (PostE.of hp ?_ ?_)
    · first | rfl | (rcases hb with hb | hb
                     · exact absurd hb c_1
                     · exact absurd hb c_12)
    · rfl
  · refine s_iload_n (pc := 4) 1 rfl rfl dX2_isShip_4 ?_
    refine s_aload_n (pc := 5) 0 rfl rfl dX2_isShip_5 ?_
    refine s_getr (pc := 6) (b := 24) fl_X2_12 rfl rfl rfl dX2_isShip_6 ?_
    refine s_getiE (pc := 9) fl_X2_68 rfl rfl r0 dX2_isShip_9 ?_
    refine s_icmp_ge (pc := 12) 25 dX2_isShip_12 (by decide) (fun c_12 => ?_) (fun c_12 => ?_)
    · refine s_iconst (pc := 25) (k_i0N) dX2_isShip_25 ?_
      refine s_iret (pc := 26) dX2_isShip_26 (PostE.of hp ?_ ?_)
      · first | rfl | (rcases hb with hb | hb
                       · exact absurd hb c_1
                       · exact absurd hb c_12)
      · rfl
    · refine s_iload_n (pc := 15) 1 rfl rfl dX2_isShip_15 ?_
      refine s_bipush (pc := 16) (k_b6N) dX2_isShip_16 ?_
      refine s_icmp_ge (pc := 18) 25 dX2_isShip_18 (by decide) (fun c_18 => ?_) (fun c_18 => ?_)
      · refine s_iconst (pc := 25) (k_i0N) dX2_isShip_25 ?_
        refine s_iret (pc := 26) dX2_isShip_26 (PostE.of hp ?_ ?_)
        · first | rfl | (rcases hb with hb | hb
                         · exact absurd hb c_1
                         · exact absurd hb c_12)
        · rfl
      · refine s_iconst (pc := 21) (k_i1N) dX2_isShip_21 ?_
        refine s_goto (pc := 22) 26 dX2_isShip_22 (by decide) ?_
        refine s_iret (pc := 26) dX2_isShip_26 (PostE.of hp ?_ ?_)
        · first | rfl | (rcases hb with hb | hb
                         · exact absurd hb c_1
                         · exact absurd hb c_12)
        · rfl

set_option maxRecDepth 20000 in
theorem c_X2_isIn {i : Nat} {a : Nat → Nat} {h : Hp} (hC : RC0 a h) (hO : OkA a) (hi : i < 6) : CT 1 yX2_isIn cX2_isIn 2 (some .boolean) [.ref 23, .int (nI i)] h (some (.int (bi ((a 5).testBit i = true)))) (h) := by
  obtain ⟨⟨o0, o1, o2, o3, o4, o5, o6⟩, os⟩ := id hO
  have o64 := hO.in64
  obtain ⟨⟨r0, r1, r2, r4, r5, r6⟩, rs, P, rp, rP, rt⟩ := id hC
  refine CT.of (own := RX2) rfl (by decide) (ro_z _) [.ref 23, .int (nI i)] rfl (Nat.le_of_ble_eq_true rfl) (fun E hp => ?_)
  refine s_aload_n (pc := 0) 0 rfl rfl dX2_isIn_0 ?_
  refine s_getiE (pc := 1) fl_X2_44 rfl rfl r5 dX2_isIn_1 ?_
  refine s_iload_n (pc := 4) 1 rfl rfl dX2_isIn_4 ?_
  refine s_ishrN (pc := 5) (by omega) (by omega) dX2_isIn_5 ?_
  refine s_iconst (pc := 6) (k_i1N) dX2_isIn_6 ?_
  refine s_iandN (pc := 7) (div_lt31 (by omega) _) (by omega) dX2_isIn_7 ?_
  refine s_iconst (pc := 8) (k_i1N) dX2_isIn_8 ?_
  refine s_icmp_neN (pc := 9) (by rw [bit1]; split <;> decide) (by omega) 16 dX2_isIn_9 (by decide) (fun c_9 => ?_) (fun c_9 => ?_)
  · refine s_iconst (pc := 16) (k_i0N) dX2_isIn_16 ?_
    refine s_iret (pc := 17) dX2_isIn_17 (PostE.of hp ?_ ?_)
    · first | exact ret_t rfl ((bit1_iff _ _).mp c_9) | exact ret_f rfl (fun z => c_9 ((bit1_iff _ _).mpr z))
    · rfl
  · refine s_iconst (pc := 12) (k_i1N) dX2_isIn_12 ?_
    refine s_goto (pc := 13) 17 dX2_isIn_13 (by decide) ?_
    refine s_iret (pc := 17) dX2_isIn_17 (PostE.of hp ?_ ?_)
    · first | exact ret_t rfl ((bit1_iff _ _).mp c_9) | exact ret_f rfl (fun z => c_9 ((bit1_iff _ _).mpr z))
    · rfl

set_option maxRecDepth 20000 in
theorem c_X2_hasPaid {i : Nat} {a : Nat → Nat} {h : Hp} (hC : RC0 a h) (hO : OkA a) (hi : i < a 0) : CT 1 yX2_hasPaid cX2_hasPaid 2 (some .boolean) [.ref 23, .int (nI i)] h (some (.int (bi (sh a i 6 = 1)))) (h) := by
  obtain ⟨⟨o0, o1, o2, o3, o4, o5, o6⟩, os⟩ := id hO
  have o64 := hO.in64
  obtain ⟨⟨r0, r1, r2, r4, r5, r6⟩, rs, P, rp, rP, rt⟩ := id hC
  have rti := rt i hi
  refine CT.of (own := RX2) rfl (by decide) (ro_z _) [.ref 23, .int (nI i)] rfl (Nat.le_of_ble_eq_true rfl) (fun E hp => ?_)
  refine s_aload_n (pc := 0) 0 rfl rfl dX2_hasPaid_0 ?_
  refine s_getiE (pc := 1) fl_X2_47 rfl rfl rP dX2_hasPaid_1 ?_
  refine s_iload_n (pc := 4) 1 rfl rfl dX2_hasPaid_4 ?_
  refine s_ishrN (pc := 5) (by omega) (by omega) dX2_hasPaid_5 ?_
  refine s_iconst (pc := 6) (k_i1N) dX2_hasPaid_6 ?_
  refine s_iandN (pc := 7) (div_lt31 (by omega) _) (by omega) dX2_hasPaid_7 ?_
  refine s_iconst (pc := 8) (k_i1N) dX2_hasPaid_8 ?_
  refine s_icmp_neN (pc := 9) (by rw [bit1]; split <;> decide) (by omega) 16 dX2_hasPaid_9 (by decide) (fun c_9 => ?_) (fun c_9 => ?_)
  · refine s_iconst (pc := 16) (k_i0N) dX2_hasPaid_16 ?_
    refine s_iret (pc := 17) dX2_hasPaid_17 (PostE.of hp ?_ ?_)
    · first | exact ret_t rfl (by have := (bit1_iff _ _).mp c_9; rw [rti] at this; exact of_decide_eq_true this) | exact ret_f rfl (fun z => c_9 ((bit1_iff _ _).mpr (by rw [rti]; exact decide_eq_true z)))
    · rfl
  · refine s_iconst (pc := 12) (k_i1N) dX2_hasPaid_12 ?_
    refine s_goto (pc := 13) 17 dX2_hasPaid_13 (by decide) ?_
    refine s_iret (pc := 17) dX2_hasPaid_17 (PostE.of hp ?_ ?_)
    · first | exact ret_t rfl (by have := (bit1_iff _ _).mp c_9; rw [rti] at this; exact of_decide_eq_true this) | exact ret_f rfl (fun z => c_9 ((bit1_iff _ _).mpr (by rw [rti]; exact decide_eq_true z)))
    · rfl

set_option maxRecDepth 20000 in
theorem c_X2_isOf {i m : Nat} {a : Nat → Nat} {h : Hp} (hC : RC0 a h) (hO : OkA a) (hi : i < a 0) (hm : 0 < m) (hm6 : m < 6) : CT 1 yX2_isOf cX2_isOf 3 (some .boolean) [.ref 23, .int (nI i), .int (nI m)] h (some (.int (bi (sh a i 0 = m ∨ (sh a i 0 = 4 ∧ m = 1) ∨ (sh a i 0 = 5 ∧ m = 3))))) (h) := by
  obtain ⟨⟨o0, o1, o2, o3, o4, o5, o6⟩, os⟩ := id hO
  have o64 := hO.in64
  obtain ⟨⟨r0, r1, r2, r4, r5, r6⟩, rs, P, rp, rP, rt⟩ := id hC
  obtain ⟨s0, -⟩ := os i hi
  have kq := kab_eq _ s0 m hm6 hm
  refine CT.of (own := RX2) rfl (by decide) (ro_z _) [.ref 23, .int (nI i), .int (nI m)] rfl (Nat.le_of_ble_eq_true rfl) (fun E hp => ?_)
  refine s_iload_n (pc := 0) 2 rfl rfl dX2_isOf_0 ?_
  refine s_if_eqN (pc := 1) (by omega) 34 dX2_isOf_1 (by decide) (fun c_1 => ?_) (fun c_1 => ?_)
  · refine s_iconst (pc := 34) (k_i1N) dX2_isOf_34 ?_
    refine s_goto (pc := 35) 39 dX2_isOf_35 (by decide) ?_
    refine s_iret (pc := 39) dX2_isOf_39 (PostE.of hp ?_ ?_)
    · first | exact ret_t rfl (Or.inl c_14) | exact ret_t rfl (Or.inr (kq.mp c_31)) | exact ret_f rfl (fun z => z.elim c_14 (fun q => c_31 (kq.mpr q))) | (exfalso; omega)
    · rfl
  · refine s_aload_n (pc := 4) 0 rfl rfl dX2_isOf_4 ?_
    refine s_getr (pc := 5) (b := 24) fl_X2_12 rfl rfl rfl dX2_isOf_5 ?_
    refine s_getr (pc := 8) (b := 25) fl_X2_71 rfl rfl rfl dX2_isOf_8 ?_
    refine s_iload_n (pc := 11) 1 rfl rfl dX2_isOf_11 ?_
    refine s_ialdN (pc := 12) (_) rfl rfl (by omega) (rs _ (by omega)).1 dX2_isOf_12 ?_
    refine s_iload_n (pc := 13) 2 rfl rfl dX2_isOf_13 ?_
    refine s_icmp_eqN (pc := 14) (by omega) (by omega) 34 dX2_isOf_14 (by decide) (fun c_14 => ?_) (fun c_14 => ?_)
    · refine s_iconst (pc := 34) (k_i1N) dX2_isOf_34 ?_
      refine s_goto (pc := 35) 39 dX2_isOf_35 (by decide) ?_
      refine s_iret (pc := 39) dX2_isOf_39 (PostE.of hp ?_ ?_)
      · first | exact ret_t rfl (Or.inl c_14) | exact ret_t rfl (Or.inr (kq.mp c_31)) | exact ret_f rfl (fun z => z.elim c_14 (fun q => c_31 (kq.mpr q))) | (exfalso; omega)
      · rfl
    · refine s_getK (pc := 17) dX2_isOf_17 ?_
      refine s_aload_n (pc := 20) 0 rfl rfl dX2_isOf_20 ?_
      refine s_getr (pc := 21) (b := 24) fl_X2_12 rfl rfl rfl dX2_isOf_21 ?_
      refine s_getr (pc := 24) (b := 25) fl_X2_71 rfl rfl rfl dX2_isOf_24 ?_
      refine s_iload_n (pc := 27) 1 rfl rfl dX2_isOf_27 ?_
      refine s_ialdN (pc := 28) (_) rfl rfl (by omega) (rs _ (by omega)).1 dX2_isOf_28 ?_
      refine s_ldK (pc := 29) (_) rfl (by omega) dX2_isOf_29 ?_
      refine s_iload_n (pc := 30) 2 rfl rfl dX2_isOf_30 ?_
      refine s_icmp_ne (pc := 31) 38 dX2_isOf_31 (by decide) (fun c_31 => ?_) (fun c_31 => ?_)
      · refine s_iconst (pc := 38) (k_i0N) dX2_isOf_38 ?_
        refine s_iret (pc := 39) dX2_isOf_39 (PostE.of hp ?_ ?_)
        · first | exact ret_t rfl (Or.inl c_14) | exact ret_t rfl (Or.inr (kq.mp c_31)) | exact ret_f rfl (fun z => z.elim c_14 (fun q => c_31 (kq.mpr q))) | (exfalso; omega)
        · rfl
      · refine s_iconst (pc := 34) (k_i1N) dX2_isOf_34 ?_
        refine s_goto (pc := 35) 39 dX2_isOf_35 (by decide) ?_
        refine s_iret (pc := 39) dX2_isOf_39 (PostE.of hp ?_ ?_)
        · first | exact ret_t rfl (Or.inl c_14) | exact ret_t rfl (Or.inr (kq.mp c_31)) | exact ret_f rfl (fun z => z.elim c_14 (fun q => c_31 (kq.mpr q))) | (exfalso; omega)
        · rfl

set_option maxRecDepth 20000 in
theorem c_X2_past {b y : Nat} {h : Hp} (hb : b < 2 ^ 30) (hy : y < 2 ^ 30) : CT 2 yX2_past cX2_past 2 (some .int) [.int (nI b), .int (nI y)] h (some (.int (nI (y - b)))) (h) := by
  refine CT.of (own := RX2) rfl (by decide) (ro_i _) [.int (nI b), .int (nI y)] rfl (Nat.le_of_ble_eq_true rfl) (fun E hp => ?_)
  refine s_iconst (pc := 0) (k_i0N) dX2_past_0 ?_
  refine s_iload_n (pc := 1) 1 rfl rfl dX2_past_1 ?_
  refine s_iload_n (pc := 2) 0 rfl rfl dX2_past_2 ?_
  refine s_isub (pc := 3) dX2_past_3 ?_
  refine s_max (pc := 4) ml_X2_120 lm_max.1 lm_max.2.1 lm_max.2.2 (by decide) (Nat.le_of_ble_eq_true rfl) dX2_past_4 ?_
  refine WW.top (mx_past hy hb) ?_
  refine s_iret (pc := 7) dX2_past_7 (PostE.of hp ?_ ?_)
  · rfl
  · rfl

set_option maxRecDepth 20000 in
theorem c_X2_ageBy {k o t p : Nat} {h : Hp} (hk : k < 6) (ho : o < 100000) (ht : t < 100000) : CT 2 yX2_ageBy cX2_ageBy 4 (some .int) [.int (nI k), .int (nI o), .int (nI t), .int (bi (p = 1))] h (some (.int (nI (agedN k o t p)))) (h) := by
  rcases (show k = 0 ∨ k = 1 ∨ k = 2 ∨ k = 3 ∨ k = 4 ∨ k = 5 by omega) with rfl | rfl | rfl | rfl | rfl | rfl
  · refine CT.of (own := RX2) rfl (by decide) (ro_i _) [.int (nI 0), .int (nI o), .int (nI t), .int (bi (p = 1))] rfl (Nat.le_of_ble_eq_true rfl) (fun E hp => ?_)
    refine s_iload_n (pc := 0) 0 rfl rfl dX2_ageBy_0 ?_
    refine s_tabOut (pc := 1) 84 dX2_ageBy_1 (by decide) (by decide) ?_
    refine s_iload_n (pc := 84) 1 rfl rfl dX2_ageBy_84 ?_
    refine s_iload_n (pc := 85) 2 rfl rfl dX2_ageBy_85 ?_
    refine s_iaddN (pc := 86) dX2_ageBy_86 ?_
    refine s_iret (pc := 87) dX2_ageBy_87 (PostE.of hp ?_ ?_)
    · exact retn (by unfold agedN; (repeat' split) <;> omega)
    · rfl
  · refine CT.of (own := RX2) rfl (by decide) (ro_i _) [.int (nI 1), .int (nI o), .int (nI t), .int (bi (p = 1))] rfl (Nat.le_of_ble_eq_true rfl) (fun E hp => ?_)
    refine s_iload_n (pc := 0) 0 rfl rfl dX2_ageBy_0 ?_
    refine s_tabIn (pc := 1) 36 dX2_ageBy_1 (by decide) (by decide) (off := 35) (by decide) (by decide) ?_
    refine s_iload_n (pc := 36) 1 rfl rfl dX2_ageBy_36 ?_
    refine s_iload_n (pc := 37) 2 rfl rfl dX2_ageBy_37 ?_
    refine s_iaddN (pc := 38) dX2_ageBy_38 ?_
    refine s_bipush (pc := 39) (k_b20N) dX2_ageBy_39 ?_
    refine s_iaddN (pc := 41) dX2_ageBy_41 ?_
    refine s_iret (pc := 42) dX2_ageBy_42 (PostE.of hp ?_ ?_)
    · exact retn (by unfold agedN; (repeat' split) <;> omega)
    · rfl
  · refine CT.of (own := RX2) rfl (by decide) (ro_i _) [.int (nI 2), .int (nI o), .int (nI t), .int (bi (p = 1))] rfl (Nat.le_of_ble_eq_true rfl) (fun E hp => ?_)
    refine s_iload_n (pc := 0) 0 rfl rfl dX2_ageBy_0 ?_
    refine s_tabIn (pc := 1) 43 dX2_ageBy_1 (by decide) (by decide) (off := 42) (by decide) (by decide) ?_
    refine s_iload_n (pc := 43) 1 rfl rfl dX2_ageBy_43 ?_
    refine s_iconst (pc := 44) (k_i2N) dX2_ageBy_44 ?_
    refine s_idivN (pc := 45) (by omega) (by omega) (by omega) dX2_ageBy_45 ?_
    refine s_iload_n (pc := 46) 2 rfl rfl dX2_ageBy_46 ?_
    refine s_iaddN (pc := 47) dX2_ageBy_47 ?_
    refine s_iret (pc := 48) dX2_ageBy_48 (PostE.of hp ?_ ?_)
    · exact retn (by unfold agedN; (repeat' split) <;> omega)
    · rfl
  · refine CT.of (own := RX2) rfl (by decide) (ro_i _) [.int (nI 3), .int (nI o), .int (nI t), .int (bi (p = 1))] rfl (Nat.le_of_ble_eq_true rfl) (fun E hp => ?_)
    refine s_iload_n (pc := 0) 0 rfl rfl dX2_ageBy_0 ?_
    refine s_tabIn (pc := 1) 49 dX2_ageBy_1 (by decide) (by decide) (off := 48) (by decide) (by decide) ?_
    refine s_bipush (pc := 49) (k_b90N) dX2_ageBy_49 ?_
    refine s_iload_n (pc := 51) 1 rfl rfl dX2_ageBy_51 ?_
    refine s_iload_n (pc := 52) 2 rfl rfl dX2_ageBy_52 ?_
    refine s_iaddN (pc := 53) dX2_ageBy_53 ?_
    refine s_max (pc := 54) ml_X2_120 lm_max.1 lm_max.2.1 lm_max.2.2 (by decide) (Nat.le_of_ble_eq_true rfl) dX2_ageBy_54 ?_
    refine WW.top (mx_n (by omega) (by omega)) ?_
    refine s_iret (pc := 57) dX2_ageBy_57 (PostE.of hp ?_ ?_)
    · exact retn (by unfold agedN; (repeat' split) <;> omega)
    · rfl
  · refine CT.of (own := RX2) rfl (by decide) (ro_i _) [.int (nI 4), .int (nI o), .int (nI t), .int (bi (p = 1))] rfl (Nat.le_of_ble_eq_true rfl) (fun E hp => ?_)
    refine s_iload_n (pc := 0) 0 rfl rfl dX2_ageBy_0 ?_
    refine s_tabIn (pc := 1) 58 dX2_ageBy_1 (by decide) (by decide) (off := 57) (by decide) (by decide) ?_
    refine s_iload_n (pc := 58) 1 rfl rfl dX2_ageBy_58 ?_
    refine s_iload_n (pc := 59) 2 rfl rfl dX2_ageBy_59 ?_
    refine s_iaddN (pc := 60) dX2_ageBy_60 ?_
    refine s_bipush (pc := 61) (k_b20N) dX2_ageBy_61 ?_
    refine s_iaddN (pc := 63) dX2_ageBy_63 ?_
    refine s_iconst (pc := 64) (k_i5N) dX2_ageBy_64 ?_
    refine s_iaddN (pc := 65) dX2_ageBy_65 ?_
    refine s_iret (pc := 66) dX2_ageBy_66 (PostE.of hp ?_ ?_)
    · exact retn (by unfold agedN; (repeat' split) <;> omega)
    · rfl
  · refine CT.of (own := RX2) rfl (by decide) (ro_i _) [.int (nI 5), .int (nI o), .int (nI t), .int (bi (p = 1))] rfl (Nat.le_of_ble_eq_true rfl) (fun E hp => ?_)
    refine s_iload_n (pc := 0) 0 rfl rfl dX2_ageBy_0 ?_
    refine s_tabIn (pc := 1) 67 dX2_ageBy_1 (by decide) (by decide) (off := 66) (by decide) (by decide) ?_
    refine s_iload_n (pc := 67) 3 rfl rfl dX2_ageBy_67 ?_
    refine s_if_eqB (pc := 68) 82 dX2_ageBy_68 (by decide) (fun c_68 => ?_) (fun c_68 => ?_)
    · refine s_iconst (pc := 82) (k_i0N) dX2_ageBy_82 ?_
      refine s_iret (pc := 83) dX2_ageBy_83 (PostE.of hp ?_ ?_)
      · exact retn (by unfold agedN; (repeat' split) <;> omega)
      · rfl
    · refine s_bipush (pc := 71) (k_b90N) dX2_ageBy_71 ?_
      refine s_iload_n (pc := 73) 1 rfl rfl dX2_ageBy_73 ?_
      refine s_iload_n (pc := 74) 2 rfl rfl dX2_ageBy_74 ?_
      refine s_iaddN (pc := 75) dX2_ageBy_75 ?_
      refine s_max (pc := 76) ml_X2_120 lm_max.1 lm_max.2.1 lm_max.2.2 (by decide) (Nat.le_of_ble_eq_true rfl) dX2_ageBy_76 ?_
      refine WW.top (mx_n (by omega) (by omega)) ?_
      refine s_goto (pc := 79) 83 dX2_ageBy_79 (by decide) ?_
      refine s_iret (pc := 83) dX2_ageBy_83 (PostE.of hp ?_ ?_)
      · exact retn (by unfold agedN; (repeat' split) <;> omega)
      · rfl

set_option maxRecDepth 20000 in
theorem c_X2_ageAs {i k y : Nat} {a : Nat → Nat} {h : Hp} (hC : RC0 a h) (hO : OkA a) (hi : i < a 0) (hk : k < 6) (hy : y ≤ 1000) : CT 3 yX2_ageAs cX2_ageAs 4 (some .int) [.ref 23, .int (nI i), .int (nI k), .int (nI y)] h (some (.int (nI (agedN k (y - sh a i 1) (sh a i 5) (sh a i 6))))) (h) := by
  obtain ⟨⟨o0, o1, o2, o3, o4, o5, o6⟩, os⟩ := id hO
  have o64 := hO.in64
  obtain ⟨⟨r0, r1, r2, r4, r5, r6⟩, rs, P, rp, rP, rt⟩ := id hC
  obtain ⟨s0, s1, s2, s3, s4, s5, s6, s7⟩ := os i hi
  refine CT.of (own := RX2) rfl (by decide) (ro_i _) [.ref 23, .int (nI i), .int (nI k), .int (nI y)] rfl (Nat.le_of_ble_eq_true rfl) (fun E hp => ?_)
  refine s_iload_n (pc := 0) 2 rfl rfl dX2_ageAs_0 ?_
  refine s_aload_n (pc := 1) 0 rfl rfl dX2_ageAs_1 ?_
  refine s_getr (pc := 2) (b := 24) fl_X2_12 rfl rfl rfl dX2_ageAs_2 ?_
  refine s_getr (pc := 5) (b := 26) fl_X2_106 rfl rfl rfl dX2_ageAs_5 ?_
  refine s_iload_n (pc := 8) 1 rfl rfl dX2_ageAs_8 ?_
  refine s_ialdN (pc := 9) (_) rfl rfl (by omega) (rs _ (by omega)).2.1 dX2_ageAs_9 ?_
  refine s_iload_n (pc := 10) 3 rfl rfl dX2_ageAs_10 ?_
  refine s_csi2 (pc := 11) (c_X2_past (by omega) (by omega)) ml_X2_109 ms_X2_past (by decide) (Nat.le_of_ble_eq_true rfl) dX2_ageAs_11 ?_
  refine s_aload_n (pc := 14) 0 rfl rfl dX2_ageAs_14 ?_
  refine s_getr (pc := 15) (b := 30) fl_X2_18 rfl rfl rfl dX2_ageAs_15 ?_
  refine s_iload_n (pc := 18) 1 rfl rfl dX2_ageAs_18 ?_
  refine s_ialdN (pc := 19) (_) rfl rfl (by omega) (rs _ (by omega)).2.2.2.2.2.1 dX2_ageAs_19 ?_
  refine s_aload_n (pc := 20) 0 rfl rfl dX2_ageAs_20 ?_
  refine s_iload_n (pc := 21) 1 rfl rfl dX2_ageAs_21 ?_
  refine s_cvi1 (pc := 22) (c_X2_hasPaid hC hO hi) ml_X2_112 mw_X2_hasPaid rfl (by decide) (Nat.le_of_ble_eq_true rfl) dX2_ageAs_22 ?_
  refine s_csi4 (pc := 25) (c_X2_ageBy (by omega) (by omega) (by omega)) ml_X2_116 ms_X2_ageBy (by decide) (Nat.le_of_ble_eq_true rfl) dX2_ageAs_25 ?_
  refine s_iret (pc := 28) dX2_ageAs_28 (PostE.of hp ?_ ?_)
  · rfl
  · rfl

set_option maxRecDepth 20000 in
theorem c_X2_ageIn {i y : Nat} {a : Nat → Nat} {h : Hp} (hC : RC0 a h) (hO : OkA a) (hi : i < a 0) (hy : y ≤ 1000) : CT 4 yX2_ageIn cX2_ageIn 3 (some .int) [.ref 23, .int (nI i), .int (nI y)] h (some (.int (nI (ageN a i y)))) (h) := by
  obtain ⟨⟨o0, o1, o2, o3, o4, o5, o6⟩, os⟩ := id hO
  have o64 := hO.in64
  obtain ⟨⟨r0, r1, r2, r4, r5, r6⟩, rs, P, rp, rP, rt⟩ := id hC
  obtain ⟨s0, s1, s2, s3, s4, s5, s6, s7⟩ := os i hi
  refine CT.of (own := RX2) rfl (by decide) (ro_i _) [.ref 23, .int (nI i), .int (nI y)] rfl (Nat.le_of_ble_eq_true rfl) (fun E hp => ?_)
  refine s_aload_n (pc := 0) 0 rfl rfl dX2_ageIn_0 ?_
  refine s_iload_n (pc := 1) 1 rfl rfl dX2_ageIn_1 ?_
  refine s_aload_n (pc := 2) 0 rfl rfl dX2_ageIn_2 ?_
  refine s_getr (pc := 3) (b := 24) fl_X2_12 rfl rfl rfl dX2_ageIn_3 ?_
  refine s_getr (pc := 6) (b := 25) fl_X2_71 rfl rfl rfl dX2_ageIn_6 ?_
  refine s_iload_n (pc := 9) 1 rfl rfl dX2_ageIn_9 ?_
  refine s_ialdN (pc := 10) (_) rfl rfl (by omega) (rs _ (by omega)).1 dX2_ageIn_10 ?_
  refine s_iload_n (pc := 11) 2 rfl rfl dX2_ageIn_11 ?_
  refine s_cvi3 (pc := 12) (c_X2_ageAs hC hO hi s0 hy) ml_X2_74 mw_X2_ageAs rfl (by decide) (Nat.le_of_ble_eq_true rfl) dX2_ageIn_12 ?_
  refine s_iret (pc := 15) dX2_ageIn_15 (PostE.of hp ?_ ?_)
  · rfl
  · rfl

set_option maxRecDepth 20000 in
theorem c_X2_ageIfBuilt {i b : Nat} {a : Nat → Nat} {h : Hp} (hC : RC0 a h) (hO : OkA a) (hi : i < a 0) (hb : b ≤ 99) : CT 3 yX2_ageIfBuilt cX2_ageIfBuilt 3 (some .int) [.ref 23, .int (nI i), .int (nI b)] h (some (.int (nI (agedN (sh a i 0) (a 1 - b) (sh a i 5) (sh a i 6))))) (h) := by
  obtain ⟨⟨o0, o1, o2, o3, o4, o5, o6⟩, os⟩ := id hO
  have o64 := hO.in64
  obtain ⟨⟨r0, r1, r2, r4, r5, r6⟩, rs, P, rp, rP, rt⟩ := id hC
  obtain ⟨s0, s1, s2, s3, s4, s5, s6, s7⟩ := os i hi
  refine CT.of (own := RX2) rfl (by decide) (ro_i _) [.ref 23, .int (nI i), .int (nI b)] rfl (Nat.le_of_ble_eq_true rfl) (fun E hp => ?_)
  refine s_aload_n (pc := 0) 0 rfl rfl dX2_ageIfBuilt_0 ?_
  refine s_getr (pc := 1) (b := 24) fl_X2_12 rfl rfl rfl dX2_ageIfBuilt_1 ?_
  refine s_getr (pc := 4) (b := 25) fl_X2_71 rfl rfl rfl dX2_ageIfBuilt_4 ?_
  refine s_iload_n (pc := 7) 1 rfl rfl dX2_ageIfBuilt_7 ?_
  refine s_ialdN (pc := 8) (_) rfl rfl (by omega) (rs _ (by omega)).1 dX2_ageIfBuilt_8 ?_
  refine s_iload_n (pc := 9) 2 rfl rfl dX2_ageIfBuilt_9 ?_
  refine s_aload_n (pc := 10) 0 rfl rfl dX2_ageIfBuilt_10 ?_
  refine s_getiE (pc := 11) fl_X2_38 rfl rfl r1 dX2_ageIfBuilt_11 ?_
  refine s_csi2 (pc := 14) (c_X2_past (by omega) (by omega)) ml_X2_109 ms_X2_past (by decide) (Nat.le_of_ble_eq_true rfl) dX2_ageIfBuilt_14 ?_
  refine s_aload_n (pc := 17) 0 rfl rfl dX2_ageIfBuilt_17 ?_
  refine s_getr (pc := 18) (b := 30) fl_X2_18 rfl rfl rfl dX2_ageIfBuilt_18 ?_
  refine s_iload_n (pc := 21) 1 rfl rfl dX2_ageIfBuilt_21 ?_
  refine s_ialdN (pc := 22) (_) rfl rfl (by omega) (rs _ (by omega)).2.2.2.2.2.1 dX2_ageIfBuilt_22 ?_
  refine s_aload_n (pc := 23) 0 rfl rfl dX2_ageIfBuilt_23 ?_
  refine s_iload_n (pc := 24) 1 rfl rfl dX2_ageIfBuilt_24 ?_
  refine s_cvi1 (pc := 25) (c_X2_hasPaid hC hO hi) ml_X2_112 mw_X2_hasPaid rfl (by decide) (Nat.le_of_ble_eq_true rfl) dX2_ageIfBuilt_25 ?_
  refine s_csi4 (pc := 28) (c_X2_ageBy (by omega) (by omega) (by omega)) ml_X2_116 ms_X2_ageBy (by decide) (Nat.le_of_ble_eq_true rfl) dX2_ageIfBuilt_28 ?_
  refine s_iret (pc := 31) dX2_ageIfBuilt_31 (PostE.of hp ?_ ?_)
  · rfl
  · rfl

set_option maxRecDepth 20000 in
theorem c_X2_ageWithTea {i m : Nat} {a : Nat → Nat} {h : Hp} (hC : RC0 a h) (hO : OkA a) (hi : i < a 0) (hm : m ≤ 40) : CT 3 yX2_ageWithTea cX2_ageWithTea 3 (some .int) [.ref 23, .int (nI i), .int (nI m)] h (some (.int (nI (agedN (sh a i 0) (a 1 - sh a i 1) (sh a i 5 + m) (sh a i 6))))) (h) := by
  obtain ⟨⟨o0, o1, o2, o3, o4, o5, o6⟩, os⟩ := id hO
  have o64 := hO.in64
  obtain ⟨⟨r0, r1, r2, r4, r5, r6⟩, rs, P, rp, rP, rt⟩ := id hC
  obtain ⟨s0, s1, s2, s3, s4, s5, s6, s7⟩ := os i hi
  refine CT.of (own := RX2) rfl (by decide) (ro_i _) [.ref 23, .int (nI i), .int (nI m)] rfl (Nat.le_of_ble_eq_true rfl) (fun E hp => ?_)
  refine s_aload_n (pc := 0) 0 rfl rfl dX2_ageWithTea_0 ?_
  refine s_getr (pc := 1) (b := 24) fl_X2_12 rfl rfl rfl dX2_ageWithTea_1 ?_
  refine s_getr (pc := 4) (b := 25) fl_X2_71 rfl rfl rfl dX2_ageWithTea_4 ?_
  refine s_iload_n (pc := 7) 1 rfl rfl dX2_ageWithTea_7 ?_
  refine s_ialdN (pc := 8) (_) rfl rfl (by omega) (rs _ (by omega)).1 dX2_ageWithTea_8 ?_
  refine s_aload_n (pc := 9) 0 rfl rfl dX2_ageWithTea_9 ?_
  refine s_getr (pc := 10) (b := 24) fl_X2_12 rfl rfl rfl dX2_ageWithTea_10 ?_
  refine s_getr (pc := 13) (b := 26) fl_X2_106 rfl rfl rfl dX2_ageWithTea_13 ?_
  refine s_iload_n (pc := 16) 1 rfl rfl dX2_ageWithTea_16 ?_
  refine s_ialdN (pc := 17) (_) rfl rfl (by omega) (rs _ (by omega)).2.1 dX2_ageWithTea_17 ?_
  refine s_aload_n (pc := 18) 0 rfl rfl dX2_ageWithTea_18 ?_
  refine s_getiE (pc := 19) fl_X2_38 rfl rfl r1 dX2_ageWithTea_19 ?_
  refine s_csi2 (pc := 22) (c_X2_past (by omega) (by omega)) ml_X2_109 ms_X2_past (by decide) (Nat.le_of_ble_eq_true rfl) dX2_ageWithTea_22 ?_
  refine s_aload_n (pc := 25) 0 rfl rfl dX2_ageWithTea_25 ?_
  refine s_getr (pc := 26) (b := 30) fl_X2_18 rfl rfl rfl dX2_ageWithTea_26 ?_
  refine s_iload_n (pc := 29) 1 rfl rfl dX2_ageWithTea_29 ?_
  refine s_ialdN (pc := 30) (_) rfl rfl (by omega) (rs _ (by omega)).2.2.2.2.2.1 dX2_ageWithTea_30 ?_
  refine s_iload_n (pc := 31) 2 rfl rfl dX2_ageWithTea_31 ?_
  refine s_iaddN (pc := 32) dX2_ageWithTea_32 ?_
  refine s_aload_n (pc := 33) 0 rfl rfl dX2_ageWithTea_33 ?_
  refine s_iload_n (pc := 34) 1 rfl rfl dX2_ageWithTea_34 ?_
  refine s_cvi1 (pc := 35) (c_X2_hasPaid hC hO hi) ml_X2_112 mw_X2_hasPaid rfl (by decide) (Nat.le_of_ble_eq_true rfl) dX2_ageWithTea_35 ?_
  refine s_csi4 (pc := 38) (c_X2_ageBy (by omega) (by omega) (by omega)) ml_X2_116 ms_X2_ageBy (by decide) (Nat.le_of_ble_eq_true rfl) dX2_ageWithTea_38 ?_
  refine s_iret (pc := 41) dX2_ageWithTea_41 (PostE.of hp ?_ ?_)
  · rfl
  · rfl

set_option maxRecDepth 20000 in
theorem c_X2_isAhead {i u j v : Nat} {a : Nat → Nat} {h : Hp} (hC : RC0 a h) (hO : OkA a) (hi : i < a 0) (hj : j < a 0) (hu : u < 2 ^ 31) (hv : v < 2 ^ 31) : CT 1 yX2_isAhead cX2_isAhead 5 (some .boolean) [.ref 23, .int (nI i), .int (nI u), .int (nI j), .int (nI v)] h (some (.int (bi (aheadN a i u j v = true)))) (h) := by
  obtain ⟨⟨o0, o1, o2, o3, o4, o5, o6⟩, os⟩ := id hO
  have o64 := hO.in64
  obtain ⟨⟨r0, r1, r2, r4, r5, r6⟩, rs, P, rp, rP, rt⟩ := id hC
  obtain ⟨s0, s1, s2, s3, s4, s5, s6, s7⟩ := os i hi
  obtain ⟨t0, t1, t2, t3, t4, t5, t6, t7⟩ := os j hj
  refine CT.of (own := RX2) rfl (by decide) (ro_z _) [.ref 23, .int (nI i), .int (nI u), .int (nI j), .int (nI v)] rfl (Nat.le_of_ble_eq_true rfl) (fun E hp => ?_)
  refine s_iload_n (pc := 0) 2 rfl rfl dX2_isAhead_0 ?_
  refine s_iload (pc := 1) rfl dX2_isAhead_1 ?_
  refine s_icmp_eqN (pc := 3) (by omega) (by omega) 18 dX2_isAhead_3 (by decide) (fun c_3 => ?_) (fun c_3 => ?_)
  · refine s_aload_n (pc := 18) 0 rfl rfl dX2_isAhead_18 ?_
    refine s_getr (pc := 19) (b := 24) fl_X2_12 rfl rfl rfl dX2_isAhead_19 ?_
    refine s_getr (pc := 22) (b := 27) fl_X2_125 rfl rfl rfl dX2_isAhead_22 ?_
    refine s_iload_n (pc := 25) 1 rfl rfl dX2_isAhead_25 ?_
    refine s_ialdN (pc := 26) (_) rfl rfl (by omega) (rs _ (by omega)).2.2.1 dX2_isAhead_26 ?_
    refine s_aload_n (pc := 27) 0 rfl rfl dX2_isAhead_27 ?_
    refine s_getr (pc := 28) (b := 24) fl_X2_12 rfl rfl rfl dX2_isAhead_28 ?_
    refine s_getr (pc := 31) (b := 27) fl_X2_125 rfl rfl rfl dX2_isAhead_31 ?_
    refine s_iload_n (pc := 34) 3 rfl rfl dX2_isAhead_34 ?_
    refine s_ialdN (pc := 35) (_) rfl rfl (by omega) (rs _ (by omega)).2.2.1 dX2_isAhead_35 ?_
    refine s_icmp_eqN (pc := 36) (by omega) (by omega) 66 dX2_isAhead_36 (by decide) (fun c_36 => ?_) (fun c_36 => ?_)
    · refine s_aload_n (pc := 66) 0 rfl rfl dX2_isAhead_66 ?_
      refine s_getr (pc := 67) (b := 24) fl_X2_12 rfl rfl rfl dX2_isAhead_67 ?_
      refine s_getr (pc := 70) (b := 28) fl_X2_128 rfl rfl rfl dX2_isAhead_70 ?_
      refine s_iload_n (pc := 73) 1 rfl rfl dX2_isAhead_73 ?_
      refine s_ialdN (pc := 74) (_) rfl rfl (by omega) (rs _ (by omega)).2.2.2.1 dX2_isAhead_74 ?_
      refine s_aload_n (pc := 75) 0 rfl rfl dX2_isAhead_75 ?_
      refine s_getr (pc := 76) (b := 24) fl_X2_12 rfl rfl rfl dX2_isAhead_76 ?_
      refine s_getr (pc := 79) (b := 28) fl_X2_128 rfl rfl rfl dX2_isAhead_79 ?_
      refine s_iload_n (pc := 82) 3 rfl rfl dX2_isAhead_82 ?_
      refine s_ialdN (pc := 83) (_) rfl rfl (by omega) (rs _ (by omega)).2.2.2.1 dX2_isAhead_83 ?_
      refine s_icmp_eqN (pc := 84) (by omega) (by omega) 114 dX2_isAhead_84 (by decide) (fun c_84 => ?_) (fun c_84 => ?_)
      · refine s_iload_n (pc := 114) 1 rfl rfl dX2_isAhead_114 ?_
        refine s_iload_n (pc := 115) 3 rfl rfl dX2_isAhead_115 ?_
        refine s_icmp_geN (pc := 116) (by omega) (by omega) 123 dX2_isAhead_116 (by decide) (fun c_116 => ?_) (fun c_116 => ?_)
        · refine s_iconst (pc := 123) (k_i0N) dX2_isAhead_123 ?_
          refine s_iret (pc := 124) dX2_isAhead_124 (PostE.of hp ?_ ?_)
          · first | exact ret_t rfl (ah_t (by omega)) | exact ret_f rfl (ah_f (by omega))
          · rfl
        · refine s_iconst (pc := 119) (k_i1N) dX2_isAhead_119 ?_
          refine s_goto (pc := 120) 124 dX2_isAhead_120 (by decide) ?_
          refine s_iret (pc := 124) dX2_isAhead_124 (PostE.of hp ?_ ?_)
          · first | exact ret_t rfl (ah_t (by omega)) | exact ret_f rfl (ah_f (by omega))
          · rfl
      · refine s_aload_n (pc := 87) 0 rfl rfl dX2_isAhead_87 ?_
        refine s_getr (pc := 88) (b := 24) fl_X2_12 rfl rfl rfl dX2_isAhead_88 ?_
        refine s_getr (pc := 91) (b := 28) fl_X2_128 rfl rfl rfl dX2_isAhead_91 ?_
        refine s_iload_n (pc := 94) 1 rfl rfl dX2_isAhead_94 ?_
        refine s_ialdN (pc := 95) (_) rfl rfl (by omega) (rs _ (by omega)).2.2.2.1 dX2_isAhead_95 ?_
        refine s_aload_n (pc := 96) 0 rfl rfl dX2_isAhead_96 ?_
        refine s_getr (pc := 97) (b := 24) fl_X2_12 rfl rfl rfl dX2_isAhead_97 ?_
        refine s_getr (pc := 100) (b := 28) fl_X2_128 rfl rfl rfl dX2_isAhead_100 ?_
        refine s_iload_n (pc := 103) 3 rfl rfl dX2_isAhead_103 ?_
        refine s_ialdN (pc := 104) (_) rfl rfl (by omega) (rs _ (by omega)).2.2.2.1 dX2_isAhead_104 ?_
        refine s_icmp_leN (pc := 105) (by omega) (by omega) 112 dX2_isAhead_105 (by decide) (fun c_105 => ?_) (fun c_105 => ?_)
        · refine s_iconst (pc := 112) (k_i0N) dX2_isAhead_112 ?_
          refine s_iret (pc := 113) dX2_isAhead_113 (PostE.of hp ?_ ?_)
          · first | exact ret_t rfl (ah_t (by omega)) | exact ret_f rfl (ah_f (by omega))
          · rfl
        · refine s_iconst (pc := 108) (k_i1N) dX2_isAhead_108 ?_
          refine s_goto (pc := 109) 113 dX2_isAhead_109 (by decide) ?_
          refine s_iret (pc := 113) dX2_isAhead_113 (PostE.of hp ?_ ?_)
          · first | exact ret_t rfl (ah_t (by omega)) | exact ret_f rfl (ah_f (by omega))
          · rfl
    · refine s_aload_n (pc := 39) 0 rfl rfl dX2_isAhead_39 ?_
      refine s_getr (pc := 40) (b := 24) fl_X2_12 rfl rfl rfl dX2_isAhead_40 ?_
      refine s_getr (pc := 43) (b := 27) fl_X2_125 rfl rfl rfl dX2_isAhead_43 ?_
      refine s_iload_n (pc := 46) 1 rfl rfl dX2_isAhead_46 ?_
      refine s_ialdN (pc := 47) (_) rfl rfl (by omega) (rs _ (by omega)).2.2.1 dX2_isAhead_47 ?_
      refine s_aload_n (pc := 48) 0 rfl rfl dX2_isAhead_48 ?_
      refine s_getr (pc := 49) (b := 24) fl_X2_12 rfl rfl rfl dX2_isAhead_49 ?_
      refine s_getr (pc := 52) (b := 27) fl_X2_125 rfl rfl rfl dX2_isAhead_52 ?_
      refine s_iload_n (pc := 55) 3 rfl rfl dX2_isAhead_55 ?_
      refine s_ialdN (pc := 56) (_) rfl rfl (by omega) (rs _ (by omega)).2.2.1 dX2_isAhead_56 ?_
      refine s_icmp_leN (pc := 57) (by omega) (by omega) 64 dX2_isAhead_57 (by decide) (fun c_57 => ?_) (fun c_57 => ?_)
      · refine s_iconst (pc := 64) (k_i0N) dX2_isAhead_64 ?_
        refine s_iret (pc := 65) dX2_isAhead_65 (PostE.of hp ?_ ?_)
        · first | exact ret_t rfl (ah_t (by omega)) | exact ret_f rfl (ah_f (by omega))
        · rfl
      · refine s_iconst (pc := 60) (k_i1N) dX2_isAhead_60 ?_
        refine s_goto (pc := 61) 65 dX2_isAhead_61 (by decide) ?_
        refine s_iret (pc := 65) dX2_isAhead_65 (PostE.of hp ?_ ?_)
        · first | exact ret_t rfl (ah_t (by omega)) | exact ret_f rfl (ah_f (by omega))
        · rfl
  · refine s_iload_n (pc := 6) 2 rfl rfl dX2_isAhead_6 ?_
    refine s_iload (pc := 7) rfl dX2_isAhead_7 ?_
    refine s_icmp_leN (pc := 9) (by omega) (by omega) 16 dX2_isAhead_9 (by decide) (fun c_9 => ?_) (fun c_9 => ?_)
    · refine s_iconst (pc := 16) (k_i0N) dX2_isAhead_16 ?_
      refine s_iret (pc := 17) dX2_isAhead_17 (PostE.of hp ?_ ?_)
      · first | exact ret_t rfl (ah_t (by omega)) | exact ret_f rfl (ah_f (by omega))
      · rfl
    · refine s_iconst (pc := 12) (k_i1N) dX2_isAhead_12 ?_
      refine s_goto (pc := 13) 17 dX2_isAhead_13 (by decide) ?_
      refine s_iret (pc := 17) dX2_isAhead_17 (PostE.of hp ?_ ?_)
      · first | exact ret_t rfl (ah_t (by omega)) | exact ret_f rfl (ah_f (by omega))
      · rfl

set_option maxRecDepth 20000 in
theorem c_X2_aheadIn {i g y : Nat} {a : Nat → Nat} {h : Hp} (hC : RC0 a h) (hO : OkA a) (hi : i < a 0) (hg : g < 2 ^ 31) (hy : y ≤ 1000) : CT 5 yX2_aheadIn cX2_aheadIn 6 (some .int) [.ref 23, .int (nI y), .int (nI i), .int (nI g)] h (some (.int (nI (bitsU (a 0) (fun j => decide (¬ j = i) && aheadN a j (ageN a j y) i g))))) (h) := by
  obtain ⟨⟨o0, o1, o2, o3, o4, o5, o6⟩, os⟩ := id hO
  have o64 := hO.in64
  obtain ⟨⟨r0, r1, r2, r4, r5, r6⟩, rs, P, rp, rP, rt⟩ := id hC
  refine CT.of (own := RX2) rfl (by decide) (ro_i _) [.ref 23, .int (nI y), .int (nI i), .int (nI g), .null, .null] rfl (Nat.le_of_ble_eq_true rfl) (fun E hp => ?_)
  refine s_iconst (pc := 0) (k_i0N) dX2_aheadIn_0 ?_
  refine s_istore (pc := 1) (by decide) rfl dX2_aheadIn_1 ?_
  refine s_iconst (pc := 3) (k_i0N) dX2_aheadIn_3 ?_
  refine s_istore (pc := 4) (by decide) rfl dX2_aheadIn_4 ?_
  suffices lp_6 : ∀ k, k ≤ a 0 → WW E cX2_aheadIn RX2 6 _ 6 [.ref 23, .int (nI y), .int (nI i), .int (nI g), .int (nI (bitsU k (fun j => decide (¬ j = i) && aheadN a j (ageN a j y) i g))), .int (nI k)] (h) [] from lp_6 (0) (by omega)
  refine lpi (a 0) (fun k hk_k ih_6 => ?_)
  refine s_iload (pc := 6) rfl dX2_aheadIn_6 ?_
  refine s_aload_n (pc := 8) 0 rfl rfl dX2_aheadIn_8 ?_
  refine s_getr (pc := 9) (b := 24) fl_X2_12 rfl rfl rfl dX2_aheadIn_9 ?_
  refine s_getiE (pc := 12) fl_X2_68 rfl rfl r0 dX2_aheadIn_12 ?_
  refine s_icmp_geN (pc := 15) (by omega) (by omega) 57 dX2_aheadIn_15 (by decide) (fun c_15 => ?_) (fun c_15 => ?_)
  · obtain rfl : k = a 0 := by omega
    refine s_iload (pc := 57) rfl dX2_aheadIn_57 ?_
    refine s_iret (pc := 59) dX2_aheadIn_59 (PostE.of hp ?_ ?_)
    · rfl
    · rfl
  · refine s_iload (pc := 18) rfl dX2_aheadIn_18 ?_
    refine s_iload_n (pc := 20) 2 rfl rfl dX2_aheadIn_20 ?_
    refine s_icmp_eqN (pc := 21) (by omega) (by omega) 51 dX2_aheadIn_21 (by decide) (fun c_21 => ?_) (fun c_21 => ?_)
    · refine s_iincN (pc := 51) rfl (by decide) rfl dX2_aheadIn_51 ?_
      refine s_goto (pc := 54) 6 dX2_aheadIn_54 (by decide) ?_
      first | exact ih_6 (by omega) | (have hf := bitsU_f (n := k) (p := (fun j => decide (¬ j = i) && aheadN a j (ageN a j y) i g)) (by simp only [Bool.and_eq_true, decide_eq_true_eq]; exact fun q => q.1 c_21); rw [Nat.or_zero] at hf; rw [hf]; exact ih_6 (by omega)) | (have hf := bitsU_f (n := k) (p := (fun j => decide (¬ j = i) && aheadN a j (ageN a j y) i g)) (by simp only [Bool.and_eq_true, decide_eq_true_eq]; exact fun q => c_39 q.2); rw [Nat.or_zero] at hf; rw [hf]; exact ih_6 (by omega))
    · have bl := bitsU_lt64 (n := k) (fun j => decide (¬ j = i) && aheadN a j (ageN a j y) i g) (by omega)
      have pl := pow_lt31 (k := k) (by omega)
      refine s_aload_n (pc := 24) 0 rfl rfl dX2_aheadIn_24 ?_
      refine s_iload (pc := 25) rfl dX2_aheadIn_25 ?_
      refine s_aload_n (pc := 27) 0 rfl rfl dX2_aheadIn_27 ?_
      refine s_iload (pc := 28) rfl dX2_aheadIn_28 ?_
      refine s_iload_n (pc := 30) 1 rfl rfl dX2_aheadIn_30 ?_
      refine s_cvi2 (pc := 31) (c_X2_ageIn hC hO (by omega) hy) ml_X2_131 mw_X2_ageIn rfl (by decide) (Nat.le_of_ble_eq_true rfl) dX2_aheadIn_31 ?_
      refine s_iload_n (pc := 34) 2 rfl rfl dX2_aheadIn_34 ?_
      refine s_iload_n (pc := 35) 3 rfl rfl dX2_aheadIn_35 ?_
      refine s_cvi4 (pc := 36) (c_X2_isAhead hC hO (by omega) hi (Nat.lt_trans (age_lt hO (by omega) hy) (by decide)) hg) ml_X2_78 mw_X2_isAhead rfl (by decide) (Nat.le_of_ble_eq_true rfl) dX2_aheadIn_36 ?_
      refine s_if_eqB (pc := 39) 51 dX2_aheadIn_39 (by decide) (fun c_39 => ?_) (fun c_39 => ?_)
      · refine s_iincN (pc := 51) rfl (by decide) rfl dX2_aheadIn_51 ?_
        refine s_goto (pc := 54) 6 dX2_aheadIn_54 (by decide) ?_
        first | exact ih_6 (by omega) | (have hf := bitsU_f (n := k) (p := (fun j => decide (¬ j = i) && aheadN a j (ageN a j y) i g)) (by simp only [Bool.and_eq_true, decide_eq_true_eq]; exact fun q => q.1 c_21); rw [Nat.or_zero] at hf; rw [hf]; exact ih_6 (by omega)) | (have hf := bitsU_f (n := k) (p := (fun j => decide (¬ j = i) && aheadN a j (ageN a j y) i g)) (by simp only [Bool.and_eq_true, decide_eq_true_eq]; exact fun q => c_39 q.2); rw [Nat.or_zero] at hf; rw [hf]; exact ih_6 (by omega))
      · refine s_iload (pc := 42) rfl dX2_aheadIn_42 ?_
        refine s_iconst (pc := 44) (k_i1N) dX2_aheadIn_44 ?_
        refine s_iload (pc := 45) rfl dX2_aheadIn_45 ?_
        refine s_ishl1N (pc := 47) (by omega) dX2_aheadIn_47 ?_
        refine s_iorN (pc := 48) (by omega) (by omega) dX2_aheadIn_48 ?_
        rw [bitsU_t (p := (fun j => decide (¬ j = i) && aheadN a j (ageN a j y) i g)) (by simp only [Bool.and_eq_true, decide_eq_true_eq]; exact ⟨c_21, c_39⟩)]
        refine s_istore (pc := 49) (by decide) rfl dX2_aheadIn_49 ?_
        refine s_iincN (pc := 51) rfl (by decide) rfl dX2_aheadIn_51 ?_
        refine s_goto (pc := 54) 6 dX2_aheadIn_54 (by decide) ?_
        first | exact ih_6 (by omega) | (have hf := bitsU_f (n := k) (p := (fun j => decide (¬ j = i) && aheadN a j (ageN a j y) i g)) (by simp only [Bool.and_eq_true, decide_eq_true_eq]; exact fun q => q.1 c_21); rw [Nat.or_zero] at hf; rw [hf]; exact ih_6 (by omega)) | (have hf := bitsU_f (n := k) (p := (fun j => decide (¬ j = i) && aheadN a j (ageN a j y) i g)) (by simp only [Bool.and_eq_true, decide_eq_true_eq]; exact fun q => c_39 q.2); rw [Nat.or_zero] at hf; rw [hf]; exact ih_6 (by omega))

set_option maxRecDepth 20000 in
theorem c_X2_berthIn {i g y : Nat} {a : Nat → Nat} {h : Hp} (hC : RC0 a h) (hO : OkA a) (hi : i < a 0) (hg : g < 2 ^ 31) (hy : y ≤ 1000) : CT 6 yX2_berthIn cX2_berthIn 4 (some .int) [.ref 23, .int (nI y), .int (nI i), .int (nI g)] h (some (.int (nI (berthN a i g (a 5) y)))) (h) := by
  obtain ⟨⟨o0, o1, o2, o3, o4, o5, o6⟩, os⟩ := id hO
  have o64 := hO.in64
  obtain ⟨⟨r0, r1, r2, r4, r5, r6⟩, rs, P, rp, rP, rt⟩ := id hC
  have bl := bitsU_lt64 (n := a 0) (fun j => decide (¬ j = i) && aheadN a j (ageN a j y) i g) (by omega)
  refine CT.of (own := RX2) rfl (by decide) (ro_i _) [.ref 23, .int (nI y), .int (nI i), .int (nI g)] rfl (Nat.le_of_ble_eq_true rfl) (fun E hp => ?_)
  refine s_aload_n (pc := 0) 0 rfl rfl dX2_berthIn_0 ?_
  refine s_getiE (pc := 1) fl_X2_44 rfl rfl r5 dX2_berthIn_1 ?_
  refine s_aload_n (pc := 4) 0 rfl rfl dX2_berthIn_4 ?_
  refine s_iload_n (pc := 5) 1 rfl rfl dX2_berthIn_5 ?_
  refine s_iload_n (pc := 6) 2 rfl rfl dX2_berthIn_6 ?_
  refine s_iload_n (pc := 7) 3 rfl rfl dX2_berthIn_7 ?_
  refine s_cvi3 (pc := 8) (c_X2_aheadIn hC hO hi hg hy) ml_X2_134 mw_X2_aheadIn rfl (by decide) (Nat.le_of_ble_eq_true rfl) dX2_berthIn_8 ?_
  refine s_iandN (pc := 11) (by omega) (by omega) dX2_berthIn_11 ?_
  refine s_csi1 (pc := 12) (c_J6_bitCount_0f7a4 (and_lt64 o64)) ml_X2_137 ms_J6_bitCount_0f7a4 (by decide) (Nat.le_of_ble_eq_true rfl) dX2_berthIn_12 ?_
  refine s_iret (pc := 15) dX2_berthIn_15 (PostE.of hp ?_ ?_)
  · exact retn (berth_pop o0)
  · rfl

set_option maxRecDepth 20000 in
theorem c_X2_berthNow {i : Nat} {a : Nat → Nat} {h : Hp} (hR : RC a h) (hO : OkA a) (hi : i < a 0) : CT 2 yX2_berthNow cX2_berthNow 2 (some .int) [.ref 23, .int (nI i)] h (some (.int (nI (berthI a i (a 5))))) (h) := by
  obtain ⟨⟨o0, o1, o2, o3, o4, o5, o6⟩, os⟩ := id hO
  have o64 := hO.in64
  have hC := hR.1
  obtain ⟨⟨r0, r1, r2, r4, r5, r6⟩, rs, P, rp, rP, rt⟩ := id hC
  have rg := hR.2
  have bl : ahdN a i < 64 := bitsU_lt64 _ o0
  refine CT.of (own := RX2) rfl (by decide) (ro_i _) [.ref 23, .int (nI i)] rfl (Nat.le_of_ble_eq_true rfl) (fun E hp => ?_)
  refine s_aload_n (pc := 0) 0 rfl rfl dX2_berthNow_0 ?_
  refine s_getiE (pc := 1) fl_X2_44 rfl rfl r5 dX2_berthNow_1 ?_
  refine s_aload_n (pc := 4) 0 rfl rfl dX2_berthNow_4 ?_
  refine s_getr (pc := 5) (b := 34) fl_X2_31 rfl rfl rfl dX2_berthNow_5 ?_
  refine s_iload_n (pc := 8) 1 rfl rfl dX2_berthNow_8 ?_
  refine s_ialdN (pc := 9) (_) rfl rfl (by omega) (rg _ (by omega)).2 dX2_berthNow_9 ?_
  refine s_iandN (pc := 10) (by omega) (by omega) dX2_berthNow_10 ?_
  refine s_csi1 (pc := 11) (c_J6_bitCount_0f7a4 (and_lt64 o64)) ml_X2_137 ms_J6_bitCount_0f7a4 (by decide) (Nat.le_of_ble_eq_true rfl) dX2_berthNow_11 ?_
  refine s_iret (pc := 14) dX2_berthNow_14 (PostE.of hp ?_ ?_)
  · exact retn (berth_pop o0)
  · rfl

set_option maxRecDepth 20000 in
theorem c_X2_shiftedBy {i : Nat} {a : Nat → Nat} {h : Hp} (hR : RC a h) (hO : OkA a) (hi : i < a 0) : CT 2 yX2_shiftedBy cX2_shiftedBy 2 (some .int) [.ref 23, .int (nI i)] h (some (.int (nI (shiftN a i (a 5))))) (h) := by
  obtain ⟨⟨o0, o1, o2, o3, o4, o5, o6⟩, os⟩ := id hO
  have o64 := hO.in64
  have hC := hR.1
  obtain ⟨⟨r0, r1, r2, r4, r5, r6⟩, rs, P, rp, rP, rt⟩ := id hC
  have rg := hR.2
  have bl : ahdN a i < 64 := bitsU_lt64 _ o0
  refine CT.of (own := RX2) rfl (by decide) (ro_i _) [.ref 23, .int (nI i)] rfl (Nat.le_of_ble_eq_true rfl) (fun E hp => ?_)
  refine s_aload_n (pc := 0) 0 rfl rfl dX2_shiftedBy_0 ?_
  refine s_getiE (pc := 1) fl_X2_44 rfl rfl r5 dX2_shiftedBy_1 ?_
  refine s_aload_n (pc := 4) 0 rfl rfl dX2_shiftedBy_4 ?_
  refine s_getr (pc := 5) (b := 34) fl_X2_31 rfl rfl rfl dX2_shiftedBy_5 ?_
  refine s_iload_n (pc := 8) 1 rfl rfl dX2_shiftedBy_8 ?_
  refine s_ialdN (pc := 9) (_) rfl rfl (by omega) (rg _ (by omega)).2 dX2_shiftedBy_9 ?_
  refine s_iconst (pc := 10) (k_im1) dX2_shiftedBy_10 ?_
  refine s_ixor (pc := 11) dX2_shiftedBy_11 ?_
  refine s_iand (pc := 12) dX2_shiftedBy_12 ?_
  refine WW.top (and_not _ o64 _ bl) ?_
  refine s_iconst (pc := 13) (k_i1N) dX2_shiftedBy_13 ?_
  refine s_iload_n (pc := 14) 1 rfl rfl dX2_shiftedBy_14 ?_
  refine s_ishl1N (pc := 15) (by omega) dX2_shiftedBy_15 ?_
  refine s_iconst (pc := 16) (k_im1) dX2_shiftedBy_16 ?_
  refine s_ixor (pc := 17) dX2_shiftedBy_17 ?_
  refine s_iand (pc := 18) dX2_shiftedBy_18 ?_
  refine WW.top (clr_and _ (and_not_lt _ o64 _ bl) i (by omega)) ?_
  refine s_csi1 (pc := 19) (c_J6_bitCount_0f7a4 (clr_lt (and_not_lt _ o64 _ bl))) ml_X2_137 ms_J6_bitCount_0f7a4 (by decide) (Nat.le_of_ble_eq_true rfl) dX2_shiftedBy_19 ?_
  refine s_iret (pc := 22) dX2_shiftedBy_22 (PostE.of hp ?_ ?_)
  · exact retn (shift_pop o0 (by omega) o5 o64)
  · rfl

set_option maxRecDepth 20000 in
theorem c_X2_hasHoursFor {i : Nat} {a : Nat → Nat} {h : Hp} (hR : RC a h) (hO : OkA a) (hi : i < a 0) : CT 3 yX2_hasHoursFor cX2_hasHoursFor 2 (some .boolean) [.ref 23, .int (nI i)] h (some (.int (bi (1 + shiftN a i (a 5) ≤ a 4)))) (h) := by
  obtain ⟨⟨o0, o1, o2, o3, o4, o5, o6⟩, os⟩ := id hO
  have o64 := hO.in64
  have hC := hR.1
  obtain ⟨⟨r0, r1, r2, r4, r5, r6⟩, rs, P, rp, rP, rt⟩ := id hC
  have rg := hR.2
  have sl := shift_le a i (a 5)
  refine CT.of (own := RX2) rfl (by decide) (ro_z _) [.ref 23, .int (nI i)] rfl (Nat.le_of_ble_eq_true rfl) (fun E hp => ?_)
  refine s_iconst (pc := 0) (k_i1N) dX2_hasHoursFor_0 ?_
  refine s_aload_n (pc := 1) 0 rfl rfl dX2_hasHoursFor_1 ?_
  refine s_iload_n (pc := 2) 1 rfl rfl dX2_hasHoursFor_2 ?_
  refine s_cvi1 (pc := 3) (c_X2_shiftedBy hR hO hi) ml_X2_100 mw_X2_shiftedBy rfl (by decide) (Nat.le_of_ble_eq_true rfl) dX2_hasHoursFor_3 ?_
  refine s_iaddN (pc := 6) dX2_hasHoursFor_6 ?_
  refine s_aload_n (pc := 7) 0 rfl rfl dX2_hasHoursFor_7 ?_
  refine s_getiE (pc := 8) fl_X2_41 rfl rfl r4 dX2_hasHoursFor_8 ?_
  refine s_icmp_gtN (pc := 11) (by omega) (by omega) 18 dX2_hasHoursFor_11 (by decide) (fun c_11 => ?_) (fun c_11 => ?_)
  · refine s_iconst (pc := 18) (k_i0N) dX2_hasHoursFor_18 ?_
    refine s_iret (pc := 19) dX2_hasHoursFor_19 (PostE.of hp ?_ ?_)
    · first | exact ret_t rfl (by omega) | exact ret_f rfl (by omega)
    · rfl
  · refine s_iconst (pc := 14) (k_i1N) dX2_hasHoursFor_14 ?_
    refine s_goto (pc := 15) 19 dX2_hasHoursFor_15 (by decide) ?_
    refine s_iret (pc := 19) dX2_hasHoursFor_19 (PostE.of hp ?_ ?_)
    · first | exact ret_t rfl (by omega) | exact ret_f rfl (by omega)
    · rfl

set_option maxRecDepth 20000 in
theorem c_X2_tooDeepBy {i : Nat} {a : Nat → Nat} {h : Hp} (hR : RC a h) (hO : OkA a) (hi : i < a 0) : CT 3 yX2_tooDeepBy cX2_tooDeepBy 2 (some .int) [.ref 23, .int (nI i)] h (some (.int (nI (excN a i)))) (h) := by
  obtain ⟨⟨o0, o1, o2, o3, o4, o5, o6⟩, os⟩ := id hO
  have o64 := hO.in64
  have hC := hR.1
  obtain ⟨⟨r0, r1, r2, r4, r5, r6⟩, rs, P, rp, rP, rt⟩ := id hC
  have rg := hR.2
  obtain ⟨s0, s1, s2, s3, s4, s5, s6, s7⟩ := os i hi
  have bl : berthI a i (a 5) ≤ a 0 := berth_le _ _ _ _ _
  refine CT.of (own := RX2) rfl (by decide) (ro_i _) [.ref 23, .int (nI i)] rfl (Nat.le_of_ble_eq_true rfl) (fun E hp => ?_)
  refine s_aload_n (pc := 0) 0 rfl rfl dX2_tooDeepBy_0 ?_
  refine s_iload_n (pc := 1) 1 rfl rfl dX2_tooDeepBy_1 ?_
  refine s_cvi1 (pc := 2) (c_X2_isIn hC hO (by omega)) ml_X2_142 mw_X2_isIn rfl (by decide) (Nat.le_of_ble_eq_true rfl) dX2_tooDeepBy_2 ?_
  refine s_if_eqB (pc := 5) 32 dX2_tooDeepBy_5 (by decide) (fun c_5 => ?_) (fun c_5 => ?_)
  · refine s_iconst (pc := 32) (k_i0N) dX2_tooDeepBy_32 ?_
    refine s_iret (pc := 33) dX2_tooDeepBy_33 (PostE.of hp ?_ ?_)
    · first | exact retn (by unfold excN; rw [if_pos c_5]) | exact retn (by unfold excN; rw [if_neg c_5])
    · rfl
  · refine s_iconst (pc := 8) (k_i0N) dX2_tooDeepBy_8 ?_
    refine s_aload_n (pc := 9) 0 rfl rfl dX2_tooDeepBy_9 ?_
    refine s_getr (pc := 10) (b := 24) fl_X2_12 rfl rfl rfl dX2_tooDeepBy_10 ?_
    refine s_getr (pc := 13) (b := 29) fl_X2_145 rfl rfl rfl dX2_tooDeepBy_13 ?_
    refine s_iload_n (pc := 16) 1 rfl rfl dX2_tooDeepBy_16 ?_
    refine s_ialdN (pc := 17) (_) rfl rfl (by omega) (rs _ (by omega)).2.2.2.2.1 dX2_tooDeepBy_17 ?_
    refine s_aload_n (pc := 18) 0 rfl rfl dX2_tooDeepBy_18 ?_
    refine s_iload_n (pc := 19) 1 rfl rfl dX2_tooDeepBy_19 ?_
    refine s_cvi1 (pc := 20) (c_X2_berthNow hR hO hi) ml_X2_148 mw_X2_berthNow rfl (by decide) (Nat.le_of_ble_eq_true rfl) dX2_tooDeepBy_20 ?_
    refine s_isub (pc := 23) dX2_tooDeepBy_23 ?_
    refine s_iconst (pc := 24) (k_i2N) dX2_tooDeepBy_24 ?_
    refine s_isub (pc := 25) dX2_tooDeepBy_25 ?_
    refine s_max (pc := 26) ml_X2_120 lm_max.1 lm_max.2.1 lm_max.2.2 (by decide) (Nat.le_of_ble_eq_true rfl) dX2_tooDeepBy_26 ?_
    refine WW.top (mx_exc (by omega) (by omega)) ?_
    refine s_goto (pc := 29) 33 dX2_tooDeepBy_29 (by decide) ?_
    refine s_iret (pc := 33) dX2_tooDeepBy_33 (PostE.of hp ?_ ?_)
    · first | exact retn (by unfold excN; rw [if_pos c_5]) | exact retn (by unfold excN; rw [if_neg c_5])
    · rfl

set_option maxRecDepth 20000 in
theorem c_X2_tooDeep {a : Nat → Nat} {h : Hp} (hR : RC a h) (hO : OkA a) : CT 4 yX2_tooDeep cX2_tooDeep 3 (some .int) [.ref 23] h (some (.int (nI (grdN a)))) (h) := by
  obtain ⟨⟨o0, o1, o2, o3, o4, o5, o6⟩, os⟩ := id hO
  have o64 := hO.in64
  have hC := hR.1
  obtain ⟨⟨r0, r1, r2, r4, r5, r6⟩, rs, P, rp, rP, rt⟩ := id hC
  have rg := hR.2
  refine CT.of (own := RX2) rfl (by decide) (ro_i _) [.ref 23, .null, .null] rfl (Nat.le_of_ble_eq_true rfl) (fun E hp => ?_)
  refine s_iconst (pc := 0) (k_i0N) dX2_tooDeep_0 ?_
  refine s_istore_n (pc := 1) 1 rfl (by decide) rfl dX2_tooDeep_1 ?_
  refine s_iconst (pc := 2) (k_i0N) dX2_tooDeep_2 ?_
  refine s_istore_n (pc := 3) 2 rfl (by decide) rfl dX2_tooDeep_3 ?_
  suffices lp_4 : ∀ k, k ≤ a 0 → WW E cX2_tooDeep RX2 3 _ 4 [.ref 23, .int (nI (bitsU k (fun i => decide (0 < excN a i)))), .int (nI k)] (h) [] from lp_4 (0) (by omega)
  refine lpi (a 0) (fun k hk_k ih_4 => ?_)
  refine s_iload_n (pc := 4) 2 rfl rfl dX2_tooDeep_4 ?_
  refine s_aload_n (pc := 5) 0 rfl rfl dX2_tooDeep_5 ?_
  refine s_getr (pc := 6) (b := 24) fl_X2_12 rfl rfl rfl dX2_tooDeep_6 ?_
  refine s_getiE (pc := 9) fl_X2_68 rfl rfl r0 dX2_tooDeep_9 ?_
  refine s_icmp_geN (pc := 12) (by omega) (by omega) 35 dX2_tooDeep_12 (by decide) (fun c_12 => ?_) (fun c_12 => ?_)
  · obtain rfl : k = a 0 := by omega
    refine s_iload_n (pc := 35) 1 rfl rfl dX2_tooDeep_35 ?_
    refine s_iret (pc := 36) dX2_tooDeep_36 (PostE.of hp ?_ ?_)
    · rfl
    · rfl
  · refine s_aload_n (pc := 15) 0 rfl rfl dX2_tooDeep_15 ?_
    refine s_iload_n (pc := 16) 2 rfl rfl dX2_tooDeep_16 ?_
    have xl := exc_le (a := a) (i := k) (os k (by omega)).2.2.2.2.1
    have bl := bitsU_lt64 (n := k) (fun i => decide (0 < excN a i)) (by omega)
    have pl := pow_lt31 (k := k) (by omega)
    refine s_cvi1 (pc := 17) (c_X2_tooDeepBy hR hO (by omega)) ml_X2_151 mw_X2_tooDeepBy rfl (by decide) (Nat.le_of_ble_eq_true rfl) dX2_tooDeep_17 ?_
    refine s_if_leN (pc := 20) (by omega) 29 dX2_tooDeep_20 (by decide) (fun c_20 => ?_) (fun c_20 => ?_)
    · refine s_iincN (pc := 29) rfl (by decide) rfl dX2_tooDeep_29 ?_
      refine s_goto (pc := 32) 4 dX2_tooDeep_32 (by decide) ?_
      first | exact ih_4 (by omega) | (have hf := bitsU_f (n := k) (p := (fun i => decide (0 < excN a i))) (by simp only [decide_eq_true_eq]; omega); rw [Nat.or_zero] at hf; rw [hf]; exact ih_4 (by omega))
    · refine s_iload_n (pc := 23) 1 rfl rfl dX2_tooDeep_23 ?_
      refine s_iconst (pc := 24) (k_i1N) dX2_tooDeep_24 ?_
      refine s_iload_n (pc := 25) 2 rfl rfl dX2_tooDeep_25 ?_
      refine s_ishl1N (pc := 26) (by omega) dX2_tooDeep_26 ?_
      refine s_iorN (pc := 27) (by omega) (by omega) dX2_tooDeep_27 ?_
      rw [bitsU_t (p := (fun i => decide (0 < excN a i))) (by simp only [decide_eq_true_eq]; exact c_20)]
      refine s_istore_n (pc := 28) 1 rfl (by decide) rfl dX2_tooDeep_28 ?_
      refine s_iincN (pc := 29) rfl (by decide) rfl dX2_tooDeep_29 ?_
      refine s_goto (pc := 32) 4 dX2_tooDeep_32 (by decide) ?_
      first | exact ih_4 (by omega) | (have hf := bitsU_f (n := k) (p := (fun i => decide (0 < excN a i))) (by simp only [decide_eq_true_eq]; omega); rw [Nat.or_zero] at hf; rw [hf]; exact ih_4 (by omega))

set_option maxRecDepth 20000 in
theorem c_X2_allAground {a : Nat → Nat} {h : Hp} (hC : RC0 a h) (hO : OkA a) : CT 1 yX2_allAground cX2_allAground 3 (some .int) [.ref 23] h (some (.int (nI (sumU (a 0) (fun i => sh a i 7))))) (h) := by
  obtain ⟨⟨o0, o1, o2, o3, o4, o5, o6⟩, os⟩ := id hO
  have o64 := hO.in64
  obtain ⟨⟨r0, r1, r2, r4, r5, r6⟩, rs, P, rp, rP, rt⟩ := id hC
  refine CT.of (own := RX2) rfl (by decide) (ro_i _) [.ref 23, .null, .null] rfl (Nat.le_of_ble_eq_true rfl) (fun E hp => ?_)
  refine s_iconst (pc := 0) (k_i0N) dX2_allAground_0 ?_
  refine s_istore_n (pc := 1) 1 rfl (by decide) rfl dX2_allAground_1 ?_
  refine s_iconst (pc := 2) (k_i0N) dX2_allAground_2 ?_
  refine s_istore_n (pc := 3) 2 rfl (by decide) rfl dX2_allAground_3 ?_
  suffices lp_4 : ∀ k, k ≤ a 0 → WW E cX2_allAground RX2 3 _ 4 [.ref 23, .int (nI (sumU k (fun i => sh a i 7))), .int (nI k)] (h) [] from lp_4 (0) (by omega)
  refine lpi (a 0) (fun k hk_k ih_4 => ?_)
  refine s_iload_n (pc := 4) 2 rfl rfl dX2_allAground_4 ?_
  refine s_aload_n (pc := 5) 0 rfl rfl dX2_allAground_5 ?_
  refine s_getr (pc := 6) (b := 24) fl_X2_12 rfl rfl rfl dX2_allAground_6 ?_
  refine s_getiE (pc := 9) fl_X2_68 rfl rfl r0 dX2_allAground_9 ?_
  refine s_icmp_geN (pc := 12) (by omega) (by omega) 30 dX2_allAground_12 (by decide) (fun c_12 => ?_) (fun c_12 => ?_)
  · obtain rfl : k = a 0 := by omega
    refine s_iload_n (pc := 30) 1 rfl rfl dX2_allAground_30 ?_
    refine s_iret (pc := 31) dX2_allAground_31 (PostE.of hp ?_ ?_)
    · rfl
    · rfl
  · refine s_iload_n (pc := 15) 1 rfl rfl dX2_allAground_15 ?_
    refine s_aload_n (pc := 16) 0 rfl rfl dX2_allAground_16 ?_
    refine s_getr (pc := 17) (b := 31) fl_X2_22 rfl rfl rfl dX2_allAground_17 ?_
    refine s_iload_n (pc := 20) 2 rfl rfl dX2_allAground_20 ?_
    refine s_ialdN (pc := 21) (_) rfl rfl (by omega) (rs _ (by omega)).2.2.2.2.2.2 dX2_allAground_21 ?_
    refine s_iaddN (pc := 22) dX2_allAground_22 ?_
    refine s_istore_n (pc := 23) 1 rfl (by decide) rfl dX2_allAground_23 ?_
    refine s_iincN (pc := 24) rfl (by decide) rfl dX2_allAground_24 ?_
    refine s_goto (pc := 27) 4 dX2_allAground_27 (by decide) ?_
    exact ih_4 (by omega)

set_option maxRecDepth 20000 in
theorem c_X2_bells {a : Nat → Nat} {h : Hp} (hC : RC0 a h) (hO : OkA a) : CT 2 yX2_bells cX2_bells 3 (some .int) [.ref 23] h (some (.int (nI (cnt (a 0) (fun i => decide (sh a i 0 = 1 ∨ sh a i 0 = 4)))))) (h) := by
  obtain ⟨⟨o0, o1, o2, o3, o4, o5, o6⟩, os⟩ := id hO
  have o64 := hO.in64
  obtain ⟨⟨r0, r1, r2, r4, r5, r6⟩, rs, P, rp, rP, rt⟩ := id hC
  refine CT.of (own := RX2) rfl (by decide) (ro_i _) [.ref 23, .null, .null] rfl (Nat.le_of_ble_eq_true rfl) (fun E hp => ?_)
  refine s_iconst (pc := 0) (k_i0N) dX2_bells_0 ?_
  refine s_istore_n (pc := 1) 1 rfl (by decide) rfl dX2_bells_1 ?_
  refine s_iconst (pc := 2) (k_i0N) dX2_bells_2 ?_
  refine s_istore_n (pc := 3) 2 rfl (by decide) rfl dX2_bells_3 ?_
  suffices lp_4 : ∀ k, k ≤ a 0 → WW E cX2_bells RX2 3 _ 4 [.ref 23, .int (nI (cnt k (fun i => decide (sh a i 0 = 1 ∨ sh a i 0 = 4)))), .int (nI k)] (h) [] from lp_4 (0) (by omega)
  refine lpi (a 0) (fun k hk_k ih_4 => ?_)
  refine s_iload_n (pc := 4) 2 rfl rfl dX2_bells_4 ?_
  refine s_aload_n (pc := 5) 0 rfl rfl dX2_bells_5 ?_
  refine s_getr (pc := 6) (b := 24) fl_X2_12 rfl rfl rfl dX2_bells_6 ?_
  refine s_getiE (pc := 9) fl_X2_68 rfl rfl r0 dX2_bells_9 ?_
  refine s_icmp_geN (pc := 12) (by omega) (by omega) 38 dX2_bells_12 (by decide) (fun c_12 => ?_) (fun c_12 => ?_)
  · obtain rfl : k = a 0 := by omega
    refine s_iload_n (pc := 38) 1 rfl rfl dX2_bells_38 ?_
    refine s_iret (pc := 39) dX2_bells_39 (PostE.of hp ?_ ?_)
    · rfl
    · rfl
  · refine s_iload_n (pc := 15) 1 rfl rfl dX2_bells_15 ?_
    refine s_aload_n (pc := 16) 0 rfl rfl dX2_bells_16 ?_
    refine s_iload_n (pc := 17) 2 rfl rfl dX2_bells_17 ?_
    refine s_iconst (pc := 18) (k_i1N) dX2_bells_18 ?_
    refine s_cvi2 (pc := 19) (c_X2_isOf hC hO (by omega) (by decide) (by decide)) ml_X2_154 mw_X2_isOf rfl (by decide) (Nat.le_of_ble_eq_true rfl) dX2_bells_19 ?_
    refine s_if_eqB (pc := 22) 29 dX2_bells_22 (by decide) (fun c_22 => ?_) (fun c_22 => ?_)
    · refine s_iconst (pc := 29) (k_i0N) dX2_bells_29 ?_
      refine s_iaddN (pc := 30) dX2_bells_30 ?_
      first | rw [cnt_t (p := (fun i => decide (sh a i 0 = 1 ∨ sh a i 0 = 4))) (by simp only [decide_eq_true_eq]; omega)] | rw [cnt_f (p := (fun i => decide (sh a i 0 = 1 ∨ sh a i 0 = 4))) (by simp only [decide_eq_true_eq]; omega)]
      refine s_istore_n (pc := 31) 1 rfl (by decide) rfl dX2_bells_31 ?_
      refine s_iincN (pc := 32) rfl (by decide) rfl dX2_bells_32 ?_
      refine s_goto (pc := 35) 4 dX2_bells_35 (by decide) ?_
      exact ih_4 (by omega)
    · refine s_iconst (pc := 25) (k_i1N) dX2_bells_25 ?_
      refine s_goto (pc := 26) 30 dX2_bells_26 (by decide) ?_
      refine s_iaddN (pc := 30) dX2_bells_30 ?_
      first | rw [cnt_t (p := (fun i => decide (sh a i 0 = 1 ∨ sh a i 0 = 4))) (by simp only [decide_eq_true_eq]; omega)] | rw [cnt_f (p := (fun i => decide (sh a i 0 = 1 ∨ sh a i 0 = 4))) (by simp only [decide_eq_true_eq]; omega)]
      refine s_istore_n (pc := 31) 1 rfl (by decide) rfl dX2_bells_31 ?_
      refine s_iincN (pc := 32) rfl (by decide) rfl dX2_bells_32 ?_
      refine s_goto (pc := 35) 4 dX2_bells_35 (by decide) ?_
      exact ih_4 (by omega)
