/-- places lo .. lo + n - 1 of the row a of longs are v -/
def filL (h : Hp) (a n : Nat) (v : Int64) : Hp := (h.1, fun x y => if x = a ∧ y < n then v else h.2 x y)
theorem filL_0 (h : Hp) (a : Nat) (v : Int64) : filL h a 0 v = h := hp_ext (fun _ _ => rfl) (fun x y => by simp only [filL]; rw [if_neg (by omega)])
theorem filL_s (h : Hp) (a k : Nat) (v : Int64) : ul (filL h a k v) a k v = filL h a (k + 1) v := hp_ext (fun _ _ => rfl) (fun x y => by
  simp only [filL, ul]
  by_cases h1 : x = a ∧ y = k
  · rw [if_pos h1, if_pos (by omega)]
  · rw [if_neg h1]
    by_cases h2 : x = a ∧ y < k
    · rw [if_pos h2, if_pos (by omega)]
    · rw [if_neg h2, if_neg (by omega)])
/-- the row of ways, behind m of those ahead; s: the places above t are already those behind the next one -/
def spH (h : Hp) (p m t : Nat) : Hp := (h.1, fun x y => if x = 48 ∧ y < 6 then lN (if t < y then stN p (m + 1) y else stN p m y) else h.2 x y)
theorem spH_at {h : Hp} {p m t j : Nat} (hj : j < 6) (ht : j ≤ t) : (spH h p m t).2 48 j = lN (stN p m j) := by
  show (if (48 : Nat) = 48 ∧ j < 6 then _ else _) = _
  rw [if_pos ⟨rfl, hj⟩, if_neg (by omega)]
theorem spH_0 (h : Hp) (p : Nat) : ul (filL h 48 6 (lN 0)) 48 0 (lN 1) = spH h p 0 5 := hp_ext (fun _ _ => rfl) (fun x y => by
  simp only [filL, ul, spH]
  by_cases h1 : x = 48 ∧ y < 6
  · rw [if_pos h1, if_pos h1, if_neg (show ¬ 5 < y by omega)]
    by_cases h2 : y = 0
    · rw [if_pos ⟨h1.1, h2⟩]; simp [stN, h2]
    · rw [if_neg (by omega)]; simp [stN, h2]
  · rw [if_neg h1, if_neg h1, if_neg (by omega)])
theorem spH_s {h : Hp} {p m t : Nat} (ht : t < 5) : ul (spH h p m (t + 1)) 48 (t + 1) (lN (stN p m (t + 1) * p + stN p m t * (12 - p))) = spH h p m t := hp_ext (fun _ _ => rfl) (fun x y => by
  simp only [ul, spH]
  by_cases h1 : x = 48 ∧ y < 6
  · rw [if_pos h1, if_pos h1]
    by_cases h2 : y = t + 1
    · rw [if_pos ⟨h1.1, h2⟩, if_pos (by omega), h2]; rfl
    · rw [if_neg (by omega)]
      by_cases h3 : t < y
      · rw [if_pos h3, if_pos (by omega)]
      · rw [if_neg h3, if_neg (by omega)]
  · rw [if_neg h1, if_neg h1, if_neg (by omega)])
theorem spH_e {h : Hp} {p m : Nat} : ul (spH h p m 0) 48 0 (lN (stN p m 0 * p)) = spH h p (m + 1) 5 := hp_ext (fun _ _ => rfl) (fun x y => by
  simp only [ul, spH]
  by_cases h1 : x = 48 ∧ y < 6
  · rw [if_pos h1, if_pos h1, if_neg (show ¬ 5 < y by omega)]
    by_cases h2 : y = 0
    · rw [if_pos ⟨h1.1, h2⟩, h2]; rfl
    · rw [if_neg (by omega), if_pos (by omega)]
  · rw [if_neg h1, if_neg h1, if_neg (by omega)])

set_option maxRecDepth 20000 in
theorem c_J7_fill_d0a16 {r n : Nat} {v : Int64} {h : Hp} (hl : lyL[r]? = some (2, n)) : CT 1 yJ7_fill_d0a16 cJ7_fill_d0a16 5 none [.ref r, .long v] h (none) (filL h r n v) := by
  have ln := ly_lt _ _ hl
  dsimp only at ln
  refine CT.of (own := RJ7) rfl (by decide) ro_v [.ref r, .long v, .null, .null, .null] rfl (Nat.le_of_ble_eq_true rfl) (fun E hp => ?_)
  refine s_iconst (pc := 0) (k_i0N) dJ7_fill_d0a16_0 ?_
  refine s_istore_n (pc := 1) 3 rfl (by decide) rfl dJ7_fill_d0a16_1 ?_
  refine s_aload_n (pc := 2) 0 rfl rfl dJ7_fill_d0a16_2 ?_
  refine s_alen (pc := 3) hl (by decide) dJ7_fill_d0a16_3 ?_
  refine s_istore (pc := 4) (by decide) rfl dJ7_fill_d0a16_4 ?_
  refine WW.hp (filL_0 h r v).symm ?_
  suffices lp_6 : ∀ k, k ≤ n → WW E cJ7_fill_d0a16 RJ7 5 _ 6 [.ref r, .long v, .null, .int (nI k), .int (nI n)] (filL h r k v) [] from lp_6 0 (by omega)
  refine lpi n (fun k hk_k ih_6 => ?_)
  refine s_iload_n (pc := 6) 3 rfl rfl dJ7_fill_d0a16_6 ?_
  refine s_iload (pc := 7) rfl dJ7_fill_d0a16_7 ?_
  refine s_icmp_geN (pc := 9) (by omega) (by omega) 22 dJ7_fill_d0a16_9 (by decide) (fun c_9 => ?_) (fun c_9 => ?_)
  · obtain rfl : k = n := by omega
    refine s_vret (pc := 22) dJ7_fill_d0a16_22 (PostE.of hp ?_ ?_)
    · rfl
    · rfl
  · refine s_aload_n (pc := 12) 0 rfl rfl dJ7_fill_d0a16_12 ?_
    refine s_iload_n (pc := 13) 3 rfl rfl dJ7_fill_d0a16_13 ?_
    refine s_lload_n (pc := 14) 1 rfl rfl dJ7_fill_d0a16_14 ?_
    refine s_last (pc := 15) (_) hl rfl (by omega) dJ7_fill_d0a16_15 ?_
    refine s_iincN (pc := 16) rfl (by decide) rfl dJ7_fill_d0a16_16 ?_
    refine s_goto (pc := 19) 6 dJ7_fill_d0a16_19 (by decide) ?_
    rw [filL_s]
    exact ih_6 (by omega)

set_option maxRecDepth 20000 in
theorem cd_st {E : Cx} {x0 y0 x y k1 : Nat} {z1 : Value} {h : Hp} (hx : x < 2 ^ 63) (hy : y < 2 ^ 63) (h0 : 0 < y) (hk : k1 < 1000) (k : ∀ z1, WW E cX0_commonDivisor RX0 11 1 9 [.long (lN x0), .null, .long (lN y0), .null, .long (lN y), .null, .long (lN (x % y)), .null, .int (nI (k1 + 1)), z1, .null] (h) []) : WW E cX0_commonDivisor RX0 11 1 9 [.long (lN x0), .null, .long (lN y0), .null, .long (lN x), .null, .long (lN y), .null, .int (nI k1), z1, .null] (h) [] := by
  refine s_iload (pc := 9) rfl dX0_commonDivisor_9 ?_
  refine s_sipush (pc := 11) (k_s1000N) dX0_commonDivisor_11 ?_
  refine s_icmp_geN (pc := 14) (by omega) (by omega) 45 dX0_commonDivisor_14 (by decide) (fun c_14 => ?_) (fun c_14 => ?_)
  · exfalso; omega
  · refine s_lload (pc := 17) rfl dX0_commonDivisor_17 ?_
    refine s_lconst (pc := 19) (v := lN 0) rfl dX0_commonDivisor_19 ?_
    refine s_lcmp (pc := 20) dX0_commonDivisor_20 ?_
    refine s_if_eq (pc := 21) 45 dX0_commonDivisor_21 (by decide) (fun c_21 => ?_) (fun c_21 => ?_)
    · exfalso; have := (pk_lEQ hy (by decide)).mp ((lg_cmp_eq _ _).mp c_21); omega
    · refine s_lload (pc := 24) rfl dX0_commonDivisor_24 ?_
      refine s_lload (pc := 26) rfl dX0_commonDivisor_26 ?_
      refine s_lremN (pc := 28) hx hy h0 dX0_commonDivisor_28 ?_
      refine s_lstore (pc := 29) (by decide) rfl dX0_commonDivisor_29 ?_
      refine s_lload (pc := 31) rfl dX0_commonDivisor_31 ?_
      refine s_lstore (pc := 33) (by decide) rfl dX0_commonDivisor_33 ?_
      refine s_lload (pc := 35) rfl dX0_commonDivisor_35 ?_
      refine s_lstore (pc := 37) (by decide) rfl dX0_commonDivisor_37 ?_
      refine s_iincN (pc := 39) rfl (by decide) rfl dX0_commonDivisor_39 ?_
      refine s_goto (pc := 42) 9 dX0_commonDivisor_42 (by decide) ?_
      exact k _

theorem cd_lp {E : Cx} {x0 y0 : Nat} {h : Hp} : ∀ f x y k1 : Nat, y < 2 ^ f → x < 2 ^ 63 → y < 2 ^ 63 → k1 + 2 * f + 1 ≤ 1000 → (∀ k1 z1, k1 ≤ 1000 → WW E cX0_commonDivisor RX0 11 1 9 [.long (lN x0), .null, .long (lN y0), .null, .long (lN (Nat.gcd x y)), .null, .long (lN 0), .null, .int (nI k1), z1, .null] (h) []) → ∀ z1, WW E cX0_commonDivisor RX0 11 1 9 [.long (lN x0), .null, .long (lN y0), .null, .long (lN x), .null, .long (lN y), .null, .int (nI k1), z1, .null] (h) [] := by
  intro f
  induction f with
  | zero =>
    intro x y k1 hf hx hy hk k z1
    have e : y = 0 := by omega
    subst e
    rw [Nat.gcd_zero_right] at k
    exact k k1 z1 (by omega)
  | succ f ih =>
    intro x y k1 hf hx hy hk k z1
    by_cases h0 : y = 0
    · subst h0
      rw [Nat.gcd_zero_right] at k
      exact k k1 z1 (by omega)
    · refine cd_st hx hy (by omega) (by omega) (fun z2 => ?_)
      have hl : x % y < y := Nat.mod_lt _ (by omega)
      by_cases h1 : x % y = 0
      · rw [h1]
        rw [← gcd_st, h1, Nat.gcd_zero_right] at k
        exact k _ z2 (by omega)
      · refine cd_st hy (by omega) (by omega) (by omega) (fun z3 => ?_)
        have h2 := half_st (y := y) (c := x % y) (by omega) hl
        rw [Nat.pow_succ] at hf
        refine ih _ _ _ (by omega) (by omega) (by omega) (by omega) (fun k2 z4 hk2 => ?_) z3
        rw [gcd_st, gcd_st]
        exact k k2 z4 hk2

set_option maxRecDepth 20000 in
theorem cd_end {E : Cx} {x0 y0 x k1 : Nat} {z1 : Value} {h : Hp} (hk : k1 ≤ 1000) (hp : PostE E (some (.long (lN x))) h) : WW E cX0_commonDivisor RX0 11 1 9 [.long (lN x0), .null, .long (lN y0), .null, .long (lN x), .null, .long (lN 0), .null, .int (nI k1), z1, .null] h [] := by
  refine s_iload (pc := 9) rfl dX0_commonDivisor_9 ?_
  refine s_sipush (pc := 11) (k_s1000N) dX0_commonDivisor_11 ?_
  refine s_icmp_geN (pc := 14) (by omega) (by omega) 45 dX0_commonDivisor_14 (by decide) (fun c_14 => ?_) (fun c_14 => ?_)
  · refine s_lload (pc := 45) rfl dX0_commonDivisor_45 ?_
    refine s_lret (pc := 47) dX0_commonDivisor_47 (PostE.of hp ?_ ?_)
    · rfl
    · rfl
  · refine s_lload (pc := 17) rfl dX0_commonDivisor_17 ?_
    refine s_lconst (pc := 19) (v := lN 0) rfl dX0_commonDivisor_19 ?_
    refine s_lcmp (pc := 20) dX0_commonDivisor_20 ?_
    refine s_if_eq (pc := 21) 45 dX0_commonDivisor_21 (by decide) (fun c_21 => ?_) (fun c_21 => ?_)
    · refine s_lload (pc := 45) rfl dX0_commonDivisor_45 ?_
      refine s_lret (pc := 47) dX0_commonDivisor_47 (PostE.of hp ?_ ?_)
      · rfl
      · rfl
    · exfalso; exact c_21 ((lg_cmp_eq _ _).mpr rfl)

set_option maxRecDepth 20000 in
theorem c_X0_commonDivisor {x y : Nat} {h : Hp} (hx : x < 2 ^ 63) (hy : y < 2 ^ 30) : CT 1 yX0_commonDivisor cX0_commonDivisor 11 (some .long) [.long (lN x), .long (lN y)] h (some (.long (lN (Nat.gcd x y)))) (h) := by
  refine CT.of (own := RX0) rfl (by decide) (ro_l _) [.long (lN x), .null, .long (lN y), .null, .null, .null, .null, .null, .null, .null, .null] rfl (Nat.le_of_ble_eq_true rfl) (fun E hp => ?_)
  refine s_lload_n (pc := 0) 0 rfl rfl dX0_commonDivisor_0 ?_
  refine s_lstore (pc := 1) (by decide) rfl dX0_commonDivisor_1 ?_
  refine s_lload_n (pc := 3) 2 rfl rfl dX0_commonDivisor_3 ?_
  refine s_lstore (pc := 4) (by decide) rfl dX0_commonDivisor_4 ?_
  refine s_iconst (pc := 6) (k_i0N) dX0_commonDivisor_6 ?_
  refine s_istore (pc := 7) (by decide) rfl dX0_commonDivisor_7 ?_
  exact cd_lp 30 x y 0 (by omega) (by omega) (by omega) (by omega) (fun k1 z1 hk => cd_end hk hp) _

theorem gcd_b {x y : Nat} (h : 0 < y) : 0 < Nat.gcd x y ∧ Nat.gcd x y ≤ y := ⟨Nat.gcd_pos_of_pos_right x h, Nat.gcd_le_right x h⟩

set_option maxRecDepth 20000 in
theorem c_X0_tellInLowestTerms {x y : Nat} {h : Hp} (hx : x < 2 ^ 63) (hy : y < 2 ^ 30) (h0 : 0 < y) : CT 2 yX0_tellInLowestTerms cX0_tellInLowestTerms 7 none [.ref 47, .long (lN x), .long (lN y)] h (none) (ul (ul h 47 1 (lN (rdA x y))) 47 2 (lN (rdB x y))) := by
  have gb := gcd_b (x := x) h0
  refine CT.of (own := RX0) rfl (by decide) ro_v [.ref 47, .long (lN x), .null, .long (lN y), .null, .null, .null] rfl (Nat.le_of_ble_eq_true rfl) (fun E hp => ?_)
  refine s_lload_n (pc := 0) 1 rfl rfl dX0_tellInLowestTerms_0 ?_
  refine s_lload_n (pc := 1) 3 rfl rfl dX0_tellInLowestTerms_1 ?_
  refine s_csi2 (pc := 2) (c_X0_commonDivisor hx hy) ml_X0_38 ms_X0_commonDivisor (by decide) (Nat.le_of_ble_eq_true rfl) dX0_tellInLowestTerms_2 ?_
  refine s_lstore (pc := 5) (by decide) rfl dX0_tellInLowestTerms_5 ?_
  refine s_lload (pc := 7) rfl dX0_tellInLowestTerms_7 ?_
  refine s_lconst (pc := 9) (v := lN 0) rfl dX0_tellInLowestTerms_9 ?_
  refine s_lcmp (pc := 10) dX0_tellInLowestTerms_10 ?_
  refine s_if_le (pc := 11) 30 dX0_tellInLowestTerms_11 (by decide) (fun c_11 => ?_) (fun c_11 => ?_)
  · exfalso; have := (pk_lLE (by omega) (by decide)).mp ((lg_cmp_le _ _).mp c_11); omega
  · refine s_aload_n (pc := 14) 0 rfl rfl dX0_tellInLowestTerms_14 ?_
    refine s_lload_n (pc := 15) 1 rfl rfl dX0_tellInLowestTerms_15 ?_
    refine s_lload (pc := 16) rfl dX0_tellInLowestTerms_16 ?_
    refine s_ldivN (pc := 18) (by omega) (by omega) (by omega) dX0_tellInLowestTerms_18 ?_
    refine s_putl (pc := 19) fl_X0_15 fw_0_1 rfl rfl dX0_tellInLowestTerms_19 ?_
    refine s_aload_n (pc := 22) 0 rfl rfl dX0_tellInLowestTerms_22 ?_
    refine s_lload_n (pc := 23) 3 rfl rfl dX0_tellInLowestTerms_23 ?_
    refine s_lload (pc := 24) rfl dX0_tellInLowestTerms_24 ?_
    refine s_ldivN (pc := 26) (by omega) (by omega) (by omega) dX0_tellInLowestTerms_26 ?_
    refine s_putl (pc := 27) fl_X0_19 fw_0_2 rfl rfl dX0_tellInLowestTerms_27 ?_
    refine s_vret (pc := 30) dX0_tellInLowestTerms_30 (PostE.of hp ?_ ?_)
    · rfl
    · rfl

set_option maxRecDepth 20000 in
theorem sp_in {E : Cx} {m p k1 t : Nat} {h : Hp} (hp12 : p ≤ 12) (ht : t < 5) (k : WW E cX0_spread RX0 5 2 25 [.ref 47, .int (nI m), .int (nI p), .int (nI k1), .int (nI t)] (spH h p k1 t) []) : WW E cX0_spread RX0 5 2 25 [.ref 47, .int (nI m), .int (nI p), .int (nI k1), .int (nI (t + 1))] (spH h p k1 (t + 1)) [] := by
  refine s_iload (pc := 25) rfl dX0_spread_25 ?_
  refine s_if_leN (pc := 27) (by omega) 69 dX0_spread_27 (by decide) (fun c_27 => ?_) (fun c_27 => ?_)
  · exfalso; omega
  · refine s_aload_n (pc := 30) 0 rfl rfl dX0_spread_30 ?_
    refine s_getr (pc := 31) (b := 48) fl_X0_9 rfl rfl rfl dX0_spread_31 ?_
    refine s_iload (pc := 34) rfl dX0_spread_34 ?_
    refine s_aload_n (pc := 36) 0 rfl rfl dX0_spread_36 ?_
    refine s_getr (pc := 37) (b := 48) fl_X0_9 rfl rfl rfl dX0_spread_37 ?_
    refine s_iload (pc := 40) rfl dX0_spread_40 ?_
    refine s_laldN (pc := 42) (_) rfl rfl (by omega) (spH_at (by omega) (by omega)) dX0_spread_42 ?_
    refine s_iload_n (pc := 43) 2 rfl rfl dX0_spread_43 ?_
    refine s_i2lN (pc := 44) (by omega) dX0_spread_44 ?_
    refine s_lmulN (pc := 45) dX0_spread_45 ?_
    refine s_aload_n (pc := 46) 0 rfl rfl dX0_spread_46 ?_
    refine s_getr (pc := 47) (b := 48) fl_X0_9 rfl rfl rfl dX0_spread_47 ?_
    refine s_iload (pc := 50) rfl dX0_spread_50 ?_
    refine s_iconst (pc := 52) (k_i1N) dX0_spread_52 ?_
    refine s_isubN (pc := 53) (by omega) dX0_spread_53 ?_
    refine s_laldN (pc := 54) (t) rfl rfl (by omega) (spH_at (by omega) (by omega)) dX0_spread_54 ?_
    refine s_bipush (pc := 55) (k_b12N) dX0_spread_55 ?_
    refine s_iload_n (pc := 57) 2 rfl rfl dX0_spread_57 ?_
    refine s_isubN (pc := 58) (by omega) dX0_spread_58 ?_
    refine s_i2lN (pc := 59) (by omega) dX0_spread_59 ?_
    refine s_lmulN (pc := 60) dX0_spread_60 ?_
    refine s_laddN (pc := 61) dX0_spread_61 ?_
    refine s_last (pc := 62) (_) rfl rfl (by omega) dX0_spread_62 ?_
    refine s_iincM (pc := 63) rfl (by decide) rfl dX0_spread_63 ?_
    refine s_goto (pc := 66) 25 dX0_spread_66 (by decide) ?_
    rw [spH_s ht]
    exact k

theorem sp_all {E : Cx} {m p k1 : Nat} {h : Hp} (hp12 : p ≤ 12) (k : WW E cX0_spread RX0 5 2 25 [.ref 47, .int (nI m), .int (nI p), .int (nI k1), .int (nI 0)] (spH h p k1 0) []) : ∀ t, t ≤ 5 → WW E cX0_spread RX0 5 2 25 [.ref 47, .int (nI m), .int (nI p), .int (nI k1), .int (nI t)] (spH h p k1 t) [] := by
  intro t
  induction t with
  | zero => exact fun _ => k
  | succ t ih => exact fun ht => sp_in hp12 (by omega) (ih (by omega))

set_option maxRecDepth 20000 in
theorem sp_out {E : Cx} {m p k1 : Nat} {h : Hp} (hp12 : p ≤ 12) (hk : ∀ z1, WW E cX0_spread RX0 5 2 17 [.ref 47, .int (nI m), .int (nI p), .int (nI (k1 + 1)), z1] (spH h p (k1 + 1) 5) []) : WW E cX0_spread RX0 5 2 25 [.ref 47, .int (nI m), .int (nI p), .int (nI k1), .int (nI 0)] (spH h p k1 0) [] := by
  refine s_iload (pc := 25) rfl dX0_spread_25 ?_
  refine s_if_leN (pc := 27) (by omega) 69 dX0_spread_27 (by decide) (fun c_27 => ?_) (fun c_27 => ?_)
  · refine s_aload_n (pc := 69) 0 rfl rfl dX0_spread_69 ?_
    refine s_getr (pc := 70) (b := 48) fl_X0_9 rfl rfl rfl dX0_spread_70 ?_
    refine s_iconst (pc := 73) (k_i0N) dX0_spread_73 ?_
    refine s_dup2 (pc := 74) rfl rfl dX0_spread_74 ?_
    refine s_laldN (pc := 75) (_) rfl rfl (by omega) (spH_at (by omega) (by omega)) dX0_spread_75 ?_
    refine s_iload_n (pc := 76) 2 rfl rfl dX0_spread_76 ?_
    refine s_i2lN (pc := 77) (by omega) dX0_spread_77 ?_
    refine s_lmulN (pc := 78) dX0_spread_78 ?_
    refine s_last (pc := 79) (_) rfl rfl (by omega) dX0_spread_79 ?_
    refine s_iincN (pc := 80) rfl (by decide) rfl dX0_spread_80 ?_
    refine s_goto (pc := 83) 17 dX0_spread_83 (by decide) ?_
    rw [spH_e]
    exact hk _
  · exfalso; omega

set_option maxRecDepth 20000 in
theorem c_X0_spread {m p : Nat} {h : Hp} (hm : m ≤ 6) (hp12 : p ≤ 12) : CT 2 yX0_spread cX0_spread 5 none [.ref 47, .int (nI m), .int (nI p)] h (none) (spH h p m 5) := by
  refine CT.of (own := RX0) rfl (by decide) ro_v [.ref 47, .int (nI m), .int (nI p), .null, .null] rfl (Nat.le_of_ble_eq_true rfl) (fun E hp => ?_)
  refine s_aload_n (pc := 0) 0 rfl rfl dX0_spread_0 ?_
  refine s_getr (pc := 1) (b := 48) fl_X0_9 rfl rfl rfl dX0_spread_1 ?_
  refine s_lconst (pc := 4) (v := lN 0) rfl dX0_spread_4 ?_
  refine s_csn2 (pc := 5) (c_J7_fill_d0a16 rfl) ml_X0_32 ms_J7_fill_d0a16 (by decide) (Nat.le_of_ble_eq_true rfl) dX0_spread_5 ?_
  refine s_aload_n (pc := 8) 0 rfl rfl dX0_spread_8 ?_
  refine s_getr (pc := 9) (b := 48) fl_X0_9 rfl rfl rfl dX0_spread_9 ?_
  refine s_iconst (pc := 12) (k_i0N) dX0_spread_12 ?_
  refine s_lconst (pc := 13) (v := lN 1) rfl dX0_spread_13 ?_
  refine s_last (pc := 14) (_) rfl rfl (by omega) dX0_spread_14 ?_
  refine s_iconst (pc := 15) (k_i0N) dX0_spread_15 ?_
  refine s_istore_n (pc := 16) 3 rfl (by decide) rfl dX0_spread_16 ?_
  rw [spH_0 h p]
  suffices lp_17 : ∀ k1, k1 ≤ m → ∀ z1, WW E cX0_spread RX0 5 _ 17 [.ref 47, .int (nI m), .int (nI p), .int (nI k1), z1] (spH h p k1 5) [] from lp_17 0 (by omega) _
  refine lpi m (fun k1 hk_k1 ih_17 => ?_)
  intro z1
  refine s_iload_n (pc := 17) 3 rfl rfl dX0_spread_17 ?_
  refine s_iload_n (pc := 18) 1 rfl rfl dX0_spread_18 ?_
  refine s_icmp_geN (pc := 19) (by omega) (by omega) 86 dX0_spread_19 (by decide) (fun c_19 => ?_) (fun c_19 => ?_)
  · obtain rfl : k1 = m := by omega
    refine s_vret (pc := 86) dX0_spread_86 (PostE.of hp ?_ ?_)
    · rfl
    · rfl
  · refine s_iconst (pc := 22) (k_i5N) dX0_spread_22 ?_
    refine s_istore (pc := 23) (by decide) rfl dX0_spread_23 ?_
    exact sp_all hp12 (sp_out hp12 (ih_17 (by omega))) 5 (by omega)

set_option maxRecDepth 20000 in
theorem c_X0_tellNearer {m k p : Nat} {h : Hp} (hm : m ≤ 6) (hk : k < 6) (hp12 : p ≤ 12) (hb : sumU (k + 1) (stN p m) ≤ 2985984) : CT 3 yX0_tellNearer cX0_tellNearer 9 none [.ref 47, .int (nI m), .int (nI k), .int (nI p)] h (none) (ul (ul (spH h p m 5) 47 1 (lN (rdA (sumU (k + 1) (stN p m)) (12 ^ m)))) 47 2 (lN (rdB (sumU (k + 1) (stN p m)) (12 ^ m)))) := by
  have b12 := p12_le hm
  have b0 : 0 < 12 ^ m := Nat.pow_pos (by decide)
  refine CT.of (own := RX0) rfl (by decide) ro_v [.ref 47, .int (nI m), .int (nI k), .int (nI p), .null, .null, .null, .null, .null] rfl (Nat.le_of_ble_eq_true rfl) (fun E hp => ?_)
  refine s_aload_n (pc := 0) 0 rfl rfl dX0_tellNearer_0 ?_
  refine s_iload_n (pc := 1) 1 rfl rfl dX0_tellNearer_1 ?_
  refine s_iload_n (pc := 2) 3 rfl rfl dX0_tellNearer_2 ?_
  refine s_cvn2 (pc := 3) (c_X0_spread hm hp12) ml_X0_22 mw_X0_spread rfl (by decide) (Nat.le_of_ble_eq_true rfl) dX0_tellNearer_3 ?_
  refine s_lconst (pc := 6) (v := lN 0) rfl dX0_tellNearer_6 ?_
  refine s_lstore (pc := 7) (by decide) rfl dX0_tellNearer_7 ?_
  refine s_iconst (pc := 9) (k_i0N) dX0_tellNearer_9 ?_
  refine s_istore (pc := 10) (by decide) rfl dX0_tellNearer_10 ?_
  suffices lp_12 : ∀ t, t ≤ k + 1 → WW E cX0_tellNearer RX0 9 _ 12 [.ref 47, .int (nI m), .int (nI k), .int (nI p), .long (lN (sumU t (stN p m))), .null, .int (nI t), .null, .null] (spH h p m 5) [] from lp_12 (0) (by omega)
  refine lpi (k + 1) (fun t hk_t ih_12 => ?_)
  refine s_iload (pc := 12) rfl dX0_tellNearer_12 ?_
  refine s_iload_n (pc := 14) 2 rfl rfl dX0_tellNearer_14 ?_
  refine s_icmp_gtN (pc := 15) (by omega) (by omega) 43 dX0_tellNearer_15 (by decide) (fun c_15 => ?_) (fun c_15 => ?_)
  · refine s_lconst (pc := 43) (v := lN 1) rfl dX0_tellNearer_43 ?_
    refine s_lstore (pc := 44) (by decide) rfl dX0_tellNearer_44 ?_
    refine s_iconst (pc := 46) (k_i0N) dX0_tellNearer_46 ?_
    refine s_istore (pc := 47) (by decide) rfl dX0_tellNearer_47 ?_
    obtain rfl : t = k + 1 := by omega
    suffices lp_49 : ∀ j, j ≤ m → WW E cX0_tellNearer RX0 9 _ 49 [.ref 47, .int (nI m), .int (nI k), .int (nI p), .long (lN (sumU (k + 1) (stN p m))), .null, .long (lN (12 ^ j)), .null, .int (nI j)] (spH h p m 5) [] from lp_49 0 (by omega)
    refine lpi m (fun j hk_j ih_49 => ?_)
    refine s_iload (pc := 49) rfl dX0_tellNearer_49 ?_
    refine s_iload_n (pc := 51) 1 rfl rfl dX0_tellNearer_51 ?_
    refine s_icmp_geN (pc := 52) (by omega) (by omega) 69 dX0_tellNearer_52 (by decide) (fun c_52 => ?_) (fun c_52 => ?_)
    · obtain rfl : j = m := by omega
      refine s_aload_n (pc := 69) 0 rfl rfl dX0_tellNearer_69 ?_
      refine s_lload (pc := 70) rfl dX0_tellNearer_70 ?_
      refine s_lload (pc := 72) rfl dX0_tellNearer_72 ?_
      refine s_cvn2 (pc := 74) (c_X0_tellInLowestTerms (by omega) (by omega) b0) ml_X0_28 mw_X0_tellInLowestTerms rfl (by decide) (Nat.le_of_ble_eq_true rfl) dX0_tellNearer_74 ?_
      refine s_vret (pc := 77) dX0_tellNearer_77 (PostE.of hp ?_ ?_)
      · rfl
      · rfl
    · refine s_lload (pc := 55) rfl dX0_tellNearer_55 ?_
      refine s_ldc2 (pc := 57) _ lc_X0_26 dX0_tellNearer_57 ?_
      refine WW.topl (show _ = lN 12 from rfl) ?_
      refine s_lmulN (pc := 60) dX0_tellNearer_60 ?_
      refine s_lstore (pc := 61) (by decide) rfl dX0_tellNearer_61 ?_
      refine s_iincN (pc := 63) rfl (by decide) rfl dX0_tellNearer_63 ?_
      refine s_goto (pc := 66) 49 dX0_tellNearer_66 (by decide) ?_
      rw [← Nat.pow_succ]
      exact ih_49 (by omega)
  · refine s_iload (pc := 18) rfl dX0_tellNearer_18 ?_
    refine s_bipush (pc := 20) (k_b6N) dX0_tellNearer_20 ?_
    refine s_icmp_geN (pc := 22) (by omega) (by omega) 43 dX0_tellNearer_22 (by decide) (fun c_22 => ?_) (fun c_22 => ?_)
    · exfalso; omega
    · refine s_lload (pc := 25) rfl dX0_tellNearer_25 ?_
      refine s_aload_n (pc := 27) 0 rfl rfl dX0_tellNearer_27 ?_
      refine s_getr (pc := 28) (b := 48) fl_X0_9 rfl rfl rfl dX0_tellNearer_28 ?_
      refine s_iload (pc := 31) rfl dX0_tellNearer_31 ?_
      refine s_laldN (pc := 33) (_) rfl rfl (by omega) (spH_at (by omega) (by omega)) dX0_tellNearer_33 ?_
      refine s_laddN (pc := 34) dX0_tellNearer_34 ?_
      refine s_lstore (pc := 35) (by decide) rfl dX0_tellNearer_35 ?_
      refine s_iincN (pc := 37) rfl (by decide) rfl dX0_tellNearer_37 ?_
      refine s_goto (pc := 40) 12 dX0_tellNearer_40 (by decide) ?_
      exact ih_12 (by omega)

set_option maxRecDepth 20000 in
theorem c_X0_tellMean {m p : Nat} {h : Hp} (hm : m ≤ 6) (hp12 : p ≤ 12) : CT 3 yX0_tellMean cX0_tellMean 3 none [.ref 47, .int (nI m), .int (nI p)] h (none) (ul (ul h 47 1 (lN (rdA (m * (12 - p)) 12))) 47 2 (lN (rdB (m * (12 - p)) 12))) := by
  have b1 : m * (12 - p) ≤ 6 * 12 := Nat.mul_le_mul hm (by omega)
  refine CT.of (own := RX0) rfl (by decide) ro_v [.ref 47, .int (nI m), .int (nI p)] rfl (Nat.le_of_ble_eq_true rfl) (fun E hp => ?_)
  refine s_aload_n (pc := 0) 0 rfl rfl dX0_tellMean_0 ?_
  refine s_iload_n (pc := 1) 1 rfl rfl dX0_tellMean_1 ?_
  refine s_i2lN (pc := 2) (by omega) dX0_tellMean_2 ?_
  refine s_bipush (pc := 3) (k_b12N) dX0_tellMean_3 ?_
  refine s_iload_n (pc := 5) 2 rfl rfl dX0_tellMean_5 ?_
  refine s_isubN (pc := 6) (by omega) dX0_tellMean_6 ?_
  refine s_i2lN (pc := 7) (by omega) dX0_tellMean_7 ?_
  refine s_lmulN (pc := 8) dX0_tellMean_8 ?_
  refine s_ldc2 (pc := 9) _ lc_X0_26 dX0_tellMean_9 ?_
  refine WW.topl (show _ = lN 12 from rfl) ?_
  refine s_cvn2 (pc := 12) (c_X0_tellInLowestTerms (by omega) (by decide) (by decide)) ml_X0_28 mw_X0_tellInLowestTerms rfl (by decide) (Nat.le_of_ble_eq_true rfl) dX0_tellMean_12 ?_
  refine s_vret (pc := 15) dX0_tellMean_15 (PostE.of hp ?_ ?_)
  · rfl
  · rfl

set_option maxRecDepth 20000 in
theorem c_X6_oddsB1 {s x y : Int32} {a : Nat → Nat} {h : Hp} (hR : RC a h) (hO : OkA a) (hb : s < 0 ∨ nI (a 0) ≤ s) : CT 4 yX6_odds cX6_odds 4 (some .int) [.ref 0, .int s, .int x, .int y] h (some (.int (-1))) (h) := by
  refine CT.of (own := RX6) rfl (by decide) (ro_i _) [.ref 0, .int s, .int x, .int y] rfl (Nat.le_of_ble_eq_true rfl) (fun E hp => ?_)
  refine s_aload_n (pc := 0) 0 rfl rfl dX6_odds_0 ?_
  refine s_getr (pc := 1) (b := 23) fl_X6_27 rfl rfl rfl dX6_odds_1 ?_
  refine s_iload_n (pc := 4) 1 rfl rfl dX6_odds_4 ?_
  refine s_cvi1 (pc := 5) (c_X2_isShipB hR.1 hO.1.1 hb) ml_X6_140 mw_X2_isShip rfl (by decide) (Nat.le_of_ble_eq_true rfl) dX6_odds_5 ?_
  refine s_if_eqF (pc := 8) 25 dX6_odds_8 (by decide) ?_
  refine s_iconst (pc := 25) (k_im1) dX6_odds_25 ?_
  refine s_iret (pc := 26) dX6_odds_26 (PostE.of hp ?_ ?_)
  · rfl
  · rfl

set_option maxRecDepth 20000 in
theorem c_X6_oddsB2 {i : Nat} {x y : Int32} {a : Nat → Nat} {h : Hp} (hR : RC a h) (hO : OkA a) (hi : i < a 0) (hx : x < 0 ∨ nI 6 ≤ x) : CT 4 yX6_odds cX6_odds 4 (some .int) [.ref 0, .int (nI i), .int x, .int y] h (some (.int (-1))) (h) := by
  refine CT.of (own := RX6) rfl (by decide) (ro_i _) [.ref 0, .int (nI i), .int x, .int y] rfl (Nat.le_of_ble_eq_true rfl) (fun E hp => ?_)
  refine s_aload_n (pc := 0) 0 rfl rfl dX6_odds_0 ?_
  refine s_getr (pc := 1) (b := 23) fl_X6_27 rfl rfl rfl dX6_odds_1 ?_
  refine s_iload_n (pc := 4) 1 rfl rfl dX6_odds_4 ?_
  refine s_cvi1 (pc := 5) (c_X2_isShipN hR.1 hO.1.1 hi) ml_X6_140 mw_X2_isShip rfl (by decide) (Nat.le_of_ble_eq_true rfl) dX6_odds_5 ?_
  refine s_if_eqT (pc := 8) 25 dX6_odds_8 (by decide) ?_
  refine s_iload_n (pc := 11) 2 rfl rfl dX6_odds_11 ?_
  refine s_csi1 (pc := 12) (c_X6_isBerthF hx) ml_X6_242 ms_X6_isBerth (by decide) (Nat.le_of_ble_eq_true rfl) dX6_odds_12 ?_
  refine s_if_eqF (pc := 15) 25 dX6_odds_15 (by decide) ?_
  refine s_iconst (pc := 25) (k_im1) dX6_odds_25 ?_
  refine s_iret (pc := 26) dX6_odds_26 (PostE.of hp ?_ ?_)
  · rfl
  · rfl

set_option maxRecDepth 20000 in
theorem c_X6_oddsB3 {i k : Nat} {y : Int32} {a : Nat → Nat} {h : Hp} (hR : RC a h) (hO : OkA a) (hi : i < a 0) (hk : k < 6) (hy : y < 0 ∨ nI 12 < y) : CT 4 yX6_odds cX6_odds 4 (some .int) [.ref 0, .int (nI i), .int (nI k), .int y] h (some (.int (-1))) (h) := by
  refine CT.of (own := RX6) rfl (by decide) (ro_i _) [.ref 0, .int (nI i), .int (nI k), .int y] rfl (Nat.le_of_ble_eq_true rfl) (fun E hp => ?_)
  refine s_aload_n (pc := 0) 0 rfl rfl dX6_odds_0 ?_
  refine s_getr (pc := 1) (b := 23) fl_X6_27 rfl rfl rfl dX6_odds_1 ?_
  refine s_iload_n (pc := 4) 1 rfl rfl dX6_odds_4 ?_
  refine s_cvi1 (pc := 5) (c_X2_isShipN hR.1 hO.1.1 hi) ml_X6_140 mw_X2_isShip rfl (by decide) (Nat.le_of_ble_eq_true rfl) dX6_odds_5 ?_
  refine s_if_eqT (pc := 8) 25 dX6_odds_8 (by decide) ?_
  refine s_iload_n (pc := 11) 2 rfl rfl dX6_odds_11 ?_
  refine s_csi1 (pc := 12) (c_X6_isBerthT hk) ml_X6_242 ms_X6_isBerth (by decide) (Nat.le_of_ble_eq_true rfl) dX6_odds_12 ?_
  refine s_if_eqT (pc := 15) 25 dX6_odds_15 (by decide) ?_
  refine s_iload_n (pc := 18) 3 rfl rfl dX6_odds_18 ?_
  refine s_csi1 (pc := 19) (c_X6_isOfTwelveF hy) ml_X6_269 ms_X6_isOfTwelve (by decide) (Nat.le_of_ble_eq_true rfl) dX6_odds_19 ?_
  refine s_if_neF (pc := 22) 27 dX6_odds_22 (by decide) ?_
  refine s_iconst (pc := 25) (k_im1) dX6_odds_25 ?_
  refine s_iret (pc := 26) dX6_odds_26 (PostE.of hp ?_ ?_)
  · rfl
  · rfl

set_option maxRecDepth 20000 in
theorem c_X6_oddsO {i k p : Nat} {a : Nat → Nat} {h : Hp} (hR : RC a h) (hO : OkA a) (hi : i < a 0) (hk : k < 6) (hp12 : p ≤ 12) : CT 4 yX6_odds cX6_odds 4 (some .int) [.ref 0, .int (nI i), .int (nI k), .int (nI p)] h (some (.int (nI 1))) (ul (ul (spH h p (berthI a i (a 5)) 5) 47 1 (lN (rdA (odX a i k p) (12 ^ berthI a i (a 5))))) 47 2 (lN (rdB (odX a i k p) (12 ^ berthI a i (a 5))))) := by
  have o0 := hO.1.1
  have bl : berthI a i (a 5) ≤ a 0 := berth_le _ _ _ _ _
  refine CT.of (own := RX6) rfl (by decide) (ro_i _) [.ref 0, .int (nI i), .int (nI k), .int (nI p)] rfl (Nat.le_of_ble_eq_true rfl) (fun E hp => ?_)
  refine s_aload_n (pc := 0) 0 rfl rfl dX6_odds_0 ?_
  refine s_getr (pc := 1) (b := 23) fl_X6_27 rfl rfl rfl dX6_odds_1 ?_
  refine s_iload_n (pc := 4) 1 rfl rfl dX6_odds_4 ?_
  refine s_cvi1 (pc := 5) (c_X2_isShipN hR.1 hO.1.1 hi) ml_X6_140 mw_X2_isShip rfl (by decide) (Nat.le_of_ble_eq_true rfl) dX6_odds_5 ?_
  refine s_if_eqT (pc := 8) 25 dX6_odds_8 (by decide) ?_
  refine s_iload_n (pc := 11) 2 rfl rfl dX6_odds_11 ?_
  refine s_csi1 (pc := 12) (c_X6_isBerthT hk) ml_X6_242 ms_X6_isBerth (by decide) (Nat.le_of_ble_eq_true rfl) dX6_odds_12 ?_
  refine s_if_eqT (pc := 15) 25 dX6_odds_15 (by decide) ?_
  refine s_iload_n (pc := 18) 3 rfl rfl dX6_odds_18 ?_
  refine s_csi1 (pc := 19) (c_X6_isOfTwelveT hp12) ml_X6_269 ms_X6_isOfTwelve (by decide) (Nat.le_of_ble_eq_true rfl) dX6_odds_19 ?_
  refine s_if_neT (pc := 22) 27 dX6_odds_22 (by decide) ?_
  refine s_aload_n (pc := 27) 0 rfl rfl dX6_odds_27 ?_
  refine s_getr (pc := 28) (b := 47) fl_X6_57 rfl rfl rfl dX6_odds_28 ?_
  refine s_aload_n (pc := 31) 0 rfl rfl dX6_odds_31 ?_
  refine s_getr (pc := 32) (b := 23) fl_X6_27 rfl rfl rfl dX6_odds_32 ?_
  refine s_iload_n (pc := 35) 1 rfl rfl dX6_odds_35 ?_
  refine s_cvi1 (pc := 36) (c_X2_berthNow hR hO hi) ml_X6_201 mw_X2_berthNow rfl (by decide) (Nat.le_of_ble_eq_true rfl) dX6_odds_36 ?_
  refine s_iload_n (pc := 39) 2 rfl rfl dX6_odds_39 ?_
  refine s_iload_n (pc := 40) 3 rfl rfl dX6_odds_40 ?_
  refine s_cvn3 (pc := 41) (c_X0_tellNearer (by omega) hk hp12 (od_b hO hi hp12)) ml_X6_272 mw_X0_tellNearer rfl (by decide) (Nat.le_of_ble_eq_true rfl) dX6_odds_41 ?_
  refine s_iconst (pc := 44) (k_i1N) dX6_odds_44 ?_
  refine s_iret (pc := 45) dX6_odds_45 (PostE.of hp ?_ ?_)
  · rfl
  · rfl

set_option maxRecDepth 20000 in
theorem c_X6_midB1 {s y : Int32} {a : Nat → Nat} {h : Hp} (hR : RC a h) (hO : OkA a) (hb : s < 0 ∨ nI (a 0) ≤ s) : CT 4 yX6_mid cX6_mid 3 (some .int) [.ref 0, .int s, .int y] h (some (.int (-1))) (h) := by
  refine CT.of (own := RX6) rfl (by decide) (ro_i _) [.ref 0, .int s, .int y] rfl (Nat.le_of_ble_eq_true rfl) (fun E hp => ?_)
  refine s_aload_n (pc := 0) 0 rfl rfl dX6_mid_0 ?_
  refine s_getr (pc := 1) (b := 23) fl_X6_27 rfl rfl rfl dX6_mid_1 ?_
  refine s_iload_n (pc := 4) 1 rfl rfl dX6_mid_4 ?_
  refine s_cvi1 (pc := 5) (c_X2_isShipB hR.1 hO.1.1 hb) ml_X6_140 mw_X2_isShip rfl (by decide) (Nat.le_of_ble_eq_true rfl) dX6_mid_5 ?_
  refine s_if_eqF (pc := 8) 18 dX6_mid_8 (by decide) ?_
  refine s_iconst (pc := 18) (k_im1) dX6_mid_18 ?_
  refine s_iret (pc := 19) dX6_mid_19 (PostE.of hp ?_ ?_)
  · rfl
  · rfl

set_option maxRecDepth 20000 in
theorem c_X6_midB2 {i : Nat} {y : Int32} {a : Nat → Nat} {h : Hp} (hR : RC a h) (hO : OkA a) (hi : i < a 0) (hy : y < 0 ∨ nI 12 < y) : CT 4 yX6_mid cX6_mid 3 (some .int) [.ref 0, .int (nI i), .int y] h (some (.int (-1))) (h) := by
  refine CT.of (own := RX6) rfl (by decide) (ro_i _) [.ref 0, .int (nI i), .int y] rfl (Nat.le_of_ble_eq_true rfl) (fun E hp => ?_)
  refine s_aload_n (pc := 0) 0 rfl rfl dX6_mid_0 ?_
  refine s_getr (pc := 1) (b := 23) fl_X6_27 rfl rfl rfl dX6_mid_1 ?_
  refine s_iload_n (pc := 4) 1 rfl rfl dX6_mid_4 ?_
  refine s_cvi1 (pc := 5) (c_X2_isShipN hR.1 hO.1.1 hi) ml_X6_140 mw_X2_isShip rfl (by decide) (Nat.le_of_ble_eq_true rfl) dX6_mid_5 ?_
  refine s_if_eqT (pc := 8) 18 dX6_mid_8 (by decide) ?_
  refine s_iload_n (pc := 11) 2 rfl rfl dX6_mid_11 ?_
  refine s_csi1 (pc := 12) (c_X6_isOfTwelveF hy) ml_X6_269 ms_X6_isOfTwelve (by decide) (Nat.le_of_ble_eq_true rfl) dX6_mid_12 ?_
  refine s_if_neF (pc := 15) 20 dX6_mid_15 (by decide) ?_
  refine s_iconst (pc := 18) (k_im1) dX6_mid_18 ?_
  refine s_iret (pc := 19) dX6_mid_19 (PostE.of hp ?_ ?_)
  · rfl
  · rfl

set_option maxRecDepth 20000 in
theorem c_X6_midO {i p : Nat} {a : Nat → Nat} {h : Hp} (hR : RC a h) (hO : OkA a) (hi : i < a 0) (hp12 : p ≤ 12) : CT 4 yX6_mid cX6_mid 3 (some .int) [.ref 0, .int (nI i), .int (nI p)] h (some (.int (nI 1))) (ul (ul h 47 1 (lN (rdA (berthI a i (a 5) * (12 - p)) 12))) 47 2 (lN (rdB (berthI a i (a 5) * (12 - p)) 12))) := by
  have o0 := hO.1.1
  have bl : berthI a i (a 5) ≤ a 0 := berth_le _ _ _ _ _
  refine CT.of (own := RX6) rfl (by decide) (ro_i _) [.ref 0, .int (nI i), .int (nI p)] rfl (Nat.le_of_ble_eq_true rfl) (fun E hp => ?_)
  refine s_aload_n (pc := 0) 0 rfl rfl dX6_mid_0 ?_
  refine s_getr (pc := 1) (b := 23) fl_X6_27 rfl rfl rfl dX6_mid_1 ?_
  refine s_iload_n (pc := 4) 1 rfl rfl dX6_mid_4 ?_
  refine s_cvi1 (pc := 5) (c_X2_isShipN hR.1 hO.1.1 hi) ml_X6_140 mw_X2_isShip rfl (by decide) (Nat.le_of_ble_eq_true rfl) dX6_mid_5 ?_
  refine s_if_eqT (pc := 8) 18 dX6_mid_8 (by decide) ?_
  refine s_iload_n (pc := 11) 2 rfl rfl dX6_mid_11 ?_
  refine s_csi1 (pc := 12) (c_X6_isOfTwelveT hp12) ml_X6_269 ms_X6_isOfTwelve (by decide) (Nat.le_of_ble_eq_true rfl) dX6_mid_12 ?_
  refine s_if_neT (pc := 15) 20 dX6_mid_15 (by decide) ?_
  refine s_aload_n (pc := 20) 0 rfl rfl dX6_mid_20 ?_
  refine s_getr (pc := 21) (b := 47) fl_X6_57 rfl rfl rfl dX6_mid_21 ?_
  refine s_aload_n (pc := 24) 0 rfl rfl dX6_mid_24 ?_
  refine s_getr (pc := 25) (b := 23) fl_X6_27 rfl rfl rfl dX6_mid_25 ?_
  refine s_iload_n (pc := 28) 1 rfl rfl dX6_mid_28 ?_
  refine s_cvi1 (pc := 29) (c_X2_berthNow hR hO hi) ml_X6_201 mw_X2_berthNow rfl (by decide) (Nat.le_of_ble_eq_true rfl) dX6_mid_29 ?_
  refine s_iload_n (pc := 32) 2 rfl rfl dX6_mid_32 ?_
  refine s_cvn2 (pc := 33) (c_X0_tellMean (by omega) hp12) ml_X6_275 mw_X0_tellMean rfl (by decide) (Nat.le_of_ble_eq_true rfl) dX6_mid_33 ?_
  refine s_iconst (pc := 36) (k_i1N) dX6_mid_36 ?_
  refine s_iret (pc := 37) dX6_mid_37 (PostE.of hp ?_ ?_)
  · rfl
  · rfl
