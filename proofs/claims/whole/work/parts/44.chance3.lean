theorem nI_n9 {n : Nat} (h : n ≤ 6) (e : nI n = (-9 : Int32)) : False := by
  rw [← Int32.toInt_inj, nI_toInt (by omega), show (-9 : Int32).toInt = -9 by decide] at e
  omega

set_option maxRecDepth 20000 in
theorem tp_st {E : Cx} {x0 y0 x y : Nat} {z1 : Value} {h : Hp} (hx : x < 2 ^ 63) (hy : y < 2 ^ 63) (h0 : 0 < y) (k : ∀ z1, WW E cX7_tellsParts RX7 11 1 6 [.ref 50, .long (lN x0), .null, .long (lN y0), .null, .long (lN y), .null, .long (lN (x % y)), .null, z1, .null] (h) []) : WW E cX7_tellsParts RX7 11 1 6 [.ref 50, .long (lN x0), .null, .long (lN y0), .null, .long (lN x), .null, .long (lN y), .null, z1, .null] (h) [] := by
  refine s_lload (pc := 6) rfl dX7_tellsParts_6 ?_
  refine s_lconst (pc := 8) (v := lN 0) rfl dX7_tellsParts_8 ?_
  refine s_lcmp (pc := 9) dX7_tellsParts_9 ?_
  refine s_if_eq (pc := 10) 31 dX7_tellsParts_10 (by decide) (fun c_10 => ?_) (fun c_10 => ?_)
  · exfalso; have := (pk_lEQ hy (by decide)).mp ((lg_cmp_eq _ _).mp c_10); omega
  · refine s_lload (pc := 13) rfl dX7_tellsParts_13 ?_
    refine s_lload (pc := 15) rfl dX7_tellsParts_15 ?_
    refine s_lremN (pc := 17) hx hy h0 dX7_tellsParts_17 ?_
    refine s_lstore (pc := 18) (by decide) rfl dX7_tellsParts_18 ?_
    refine s_lload (pc := 20) rfl dX7_tellsParts_20 ?_
    refine s_lstore (pc := 22) (by decide) rfl dX7_tellsParts_22 ?_
    refine s_lload (pc := 24) rfl dX7_tellsParts_24 ?_
    refine s_lstore (pc := 26) (by decide) rfl dX7_tellsParts_26 ?_
    refine s_goto (pc := 28) 6 dX7_tellsParts_28 (by decide) ?_
    exact k _

theorem tp_lp {E : Cx} {x0 y0 : Nat} {h : Hp} : ∀ f x y : Nat, y ≤ f → x < 2 ^ 63 → y < 2 ^ 63 → (∀ z1, WW E cX7_tellsParts RX7 11 1 6 [.ref 50, .long (lN x0), .null, .long (lN y0), .null, .long (lN (Nat.gcd x y)), .null, .long (lN 0), .null, z1, .null] (h) []) → ∀ z1, WW E cX7_tellsParts RX7 11 1 6 [.ref 50, .long (lN x0), .null, .long (lN y0), .null, .long (lN x), .null, .long (lN y), .null, z1, .null] (h) [] := by
  intro f
  induction f with
  | zero =>
    intro x y hf hx hy k z1
    have e : y = 0 := by omega
    subst e
    rw [Nat.gcd_zero_right] at k
    exact k z1
  | succ f ih =>
    intro x y hf hx hy k z1
    by_cases h0 : y = 0
    · subst h0
      rw [Nat.gcd_zero_right] at k
      exact k z1
    · have hl : x % y < y := Nat.mod_lt _ (by omega)
      refine tp_st hx hy (by omega) (fun z2 => ih _ _ (by omega) hy (by omega) (fun z4 => ?_) z2)
      rw [gcd_st]
      exact k z4

set_option maxRecDepth 20000 in
theorem tp_end {E : Cx} {x0 y0 : Nat} {z1 : Value} {h : Hp} (hx : x0 < 2 ^ 63) (hy : y0 < 2 ^ 63) (h0 : 0 < y0) (hp : PostE E (some (.int (nI 1))) (ul (ul h 50 12 (lN (rdA x0 y0))) 50 13 (lN (rdB x0 y0)))) : WW E cX7_tellsParts RX7 11 1 6 [.ref 50, .long (lN x0), .null, .long (lN y0), .null, .long (lN (Nat.gcd x0 y0)), .null, .long (lN 0), .null, z1, .null] (h) [] := by
  have gb := gcd_b (x := x0) h0
  refine s_lload (pc := 6) rfl dX7_tellsParts_6 ?_
  refine s_lconst (pc := 8) (v := lN 0) rfl dX7_tellsParts_8 ?_
  refine s_lcmp (pc := 9) dX7_tellsParts_9 ?_
  refine s_if_eq (pc := 10) 31 dX7_tellsParts_10 (by decide) (fun c_10 => ?_) (fun c_10 => ?_)
  · refine s_aload_n (pc := 31) 0 rfl rfl dX7_tellsParts_31 ?_
    refine s_lload_n (pc := 32) 1 rfl rfl dX7_tellsParts_32 ?_
    refine s_lload (pc := 33) rfl dX7_tellsParts_33 ?_
    refine s_ldivN (pc := 35) (by omega) (by omega) (by omega) dX7_tellsParts_35 ?_
    refine s_putl (pc := 36) fl_X7_61 fw_7_12 rfl rfl dX7_tellsParts_36 ?_
    refine s_aload_n (pc := 39) 0 rfl rfl dX7_tellsParts_39 ?_
    refine s_lload_n (pc := 40) 3 rfl rfl dX7_tellsParts_40 ?_
    refine s_lload (pc := 41) rfl dX7_tellsParts_41 ?_
    refine s_ldivN (pc := 43) (by omega) (by omega) (by omega) dX7_tellsParts_43 ?_
    refine s_putl (pc := 44) fl_X7_50 fw_7_13 rfl rfl dX7_tellsParts_44 ?_
    refine s_iconst (pc := 47) (k_i1N) dX7_tellsParts_47 ?_
    refine s_iret (pc := 48) dX7_tellsParts_48 (PostE.of hp ?_ ?_)
    · rfl
    · rfl
  · exfalso; exact c_10 ((lg_cmp_eq _ _).mpr rfl)

set_option maxRecDepth 20000 in
theorem c_X7_tellsParts {x y : Nat} {h : Hp} (hx : x < 2 ^ 63) (hy : y < 2 ^ 63) (h0 : 0 < y) : CT 1 yX7_tellsParts cX7_tellsParts 11 (some .int) [.ref 50, .long (lN x), .long (lN y)] h (some (.int (nI 1))) (ul (ul h 50 12 (lN (rdA x y))) 50 13 (lN (rdB x y))) := by
  refine CT.of (own := RX7) rfl (by decide) (ro_i _) [.ref 50, .long (lN x), .null, .long (lN y), .null, .null, .null, .null, .null, .null, .null] rfl (Nat.le_of_ble_eq_true rfl) (fun E hp => ?_)
  refine s_lload_n (pc := 0) 1 rfl rfl dX7_tellsParts_0 ?_
  refine s_lstore (pc := 1) (by decide) rfl dX7_tellsParts_1 ?_
  refine s_lload_n (pc := 3) 3 rfl rfl dX7_tellsParts_3 ?_
  refine s_lstore (pc := 4) (by decide) rfl dX7_tellsParts_4 ?_
  exact tp_lp y x y (Nat.le_refl _) hx hy (fun z1 => tp_end hx hy h0 hp) _

set_option maxRecDepth 20000 in
theorem ch_in {E : Cx} {v : Int32} {i p o x1 y1 s : Nat} {a : Nat → Nat} {h : Hp} (hA : RM a h) {w0 : Nat} (hn : a 0 ≤ 6) (hp12 : p ≤ 12) (ho : o < 64) (hs : s < 65) (k : WW E cX7_chance RX7 13 5 133 [.ref 50, .int (nI i), .int v, .int (nI p), .int (nI o), .long (lN x1), .null, .long (lN y1), .null, .int (nI s), .long (lN (wyN o p s w0 (a 0))), .null, .int (nI (a 0))] (h) []) : WW E cX7_chance RX7 13 5 77 [.ref 50, .int (nI i), .int v, .int (nI p), .int (nI o), .long (lN x1), .null, .long (lN y1), .null, .int (nI s), .long (lN w0), .null, .int (nI 0)] (h) [] := by
  suffices lp_77 : ∀ j, j ≤ a 0 → WW E cX7_chance RX7 13 5 77 [.ref 50, .int (nI i), .int v, .int (nI p), .int (nI o), .long (lN x1), .null, .long (lN y1), .null, .int (nI s), .long (lN (wyN o p s w0 j)), .null, .int (nI j)] (h) [] from lp_77 0 (by omega)
  refine lpi (a 0) (fun j hk_j ih_77 => ?_)
  refine s_iload (pc := 77) rfl dX7_chance_77 ?_
  refine s_aload_n (pc := 79) 0 rfl rfl dX7_chance_79 ?_
  refine s_getr (pc := 80) (b := 56) fl_X7_25 rfl rfl rfl dX7_chance_80 ?_
  refine s_iconst (pc := 83) (k_i0N) dX7_chance_83 ?_
  refine s_ialdN (pc := 84) (_) rfl rfl (by omega) (hA _ (by omega)) dX7_chance_84 ?_
  refine s_icmp_geN (pc := 85) (by omega) (by omega) 133 dX7_chance_85 (by decide) (fun c_85 => ?_) (fun c_85 => ?_)
  · obtain rfl : j = a 0 := by omega
    exact k
  · refine s_lload (pc := 88) rfl dX7_chance_88 ?_
    refine s_iload (pc := 90) rfl dX7_chance_90 ?_
    refine s_iload (pc := 92) rfl dX7_chance_92 ?_
    refine s_csi2 (pc := 94) (c_X7_has (by omega) (by omega)) ml_X7_146 ms_X7_has (by decide) (Nat.le_of_ble_eq_true rfl) dX7_chance_94 ?_
    refine s_if_neB (pc := 97) 104 dX7_chance_97 (by decide) (fun c_97 => ?_) (fun c_97 => ?_)
    · refine s_iload (pc := 104) rfl dX7_chance_104 ?_
      refine s_iload (pc := 106) rfl dX7_chance_106 ?_
      refine s_csi2 (pc := 108) (c_X7_has (by omega) (by omega)) ml_X7_146 ms_X7_has (by decide) (Nat.le_of_ble_eq_true rfl) dX7_chance_108 ?_
      refine s_if_eqB (pc := 111) 119 dX7_chance_111 (by decide) (fun c_111 => ?_) (fun c_111 => ?_)
      · refine s_bipush (pc := 119) (k_b12N) dX7_chance_119 ?_
        refine s_iload_n (pc := 121) 3 rfl rfl dX7_chance_121 ?_
        refine s_isubN (pc := 122) (by omega) dX7_chance_122 ?_
        refine s_i2lN (pc := 123) (by omega) dX7_chance_123 ?_
        refine s_lmulN (pc := 124) dX7_chance_124 ?_
        refine WW.topl (show _ = lN (wyN o p s w0 (j + 1)) from by simp only [wyN]; simp [c_97, c_111]) ?_
        refine s_lstore (pc := 125) (by decide) rfl dX7_chance_125 ?_
        refine s_iincN (pc := 127) rfl (by decide) rfl dX7_chance_127 ?_
        refine s_goto (pc := 130) 77 dX7_chance_130 (by decide) ?_
        exact ih_77 (by omega)
      · refine s_iload_n (pc := 114) 3 rfl rfl dX7_chance_114 ?_
        refine s_i2lN (pc := 115) (by omega) dX7_chance_115 ?_
        refine s_goto (pc := 116) 124 dX7_chance_116 (by decide) ?_
        refine s_lmulN (pc := 124) dX7_chance_124 ?_
        refine WW.topl (show _ = lN (wyN o p s w0 (j + 1)) from by simp only [wyN]; simp [c_97, c_111]) ?_
        refine s_lstore (pc := 125) (by decide) rfl dX7_chance_125 ?_
        refine s_iincN (pc := 127) rfl (by decide) rfl dX7_chance_127 ?_
        refine s_goto (pc := 130) 77 dX7_chance_130 (by decide) ?_
        exact ih_77 (by omega)
    · refine s_lconst (pc := 100) (v := lN 1) rfl dX7_chance_100 ?_
      refine s_goto (pc := 101) 124 dX7_chance_101 (by decide) ?_
      refine s_lmulN (pc := 124) dX7_chance_124 ?_
      refine WW.topl (show _ = lN (wyN o p s w0 (j + 1)) from by simp only [wyN]; simp [c_97]) ?_
      refine s_lstore (pc := 125) (by decide) rfl dX7_chance_125 ?_
      refine s_iincN (pc := 127) rfl (by decide) rfl dX7_chance_127 ?_
      refine s_goto (pc := 130) 77 dX7_chance_130 (by decide) ?_
      exact ih_77 (by omega)

set_option maxRecDepth 20000 in
theorem ch_tO {E : Cx} {k1 i p o x1 y1 s w1 : Nat} {z1 : Value} {a : Nat → Nat} {h : Hp} (hA : RM a h) (hO : OkA a) (hi : i < a 0) (ho : o < 64) (hs : s < 64) (hk : k1 < 6) (k : ∀ z1, WW E cX7_chance RX7 13 5 50 [.ref 50, .int (nI i), .int (nI k1), .int (nI p), .int (nI o), .long (lN (x1 + w1 * (if (berthI a i (o ^^^ (o &&& s))) ≤ k1 then 1 else 0))), .null, .long (lN y1), .null, .int (nI (s + 1)), .long (lN w1), .null, z1] (h) []) : WW E cX7_chance RX7 13 5 133 [.ref 50, .int (nI i), .int (nI k1), .int (nI p), .int (nI o), .long (lN x1), .null, .long (lN y1), .null, .int (nI s), .long (lN w1), .null, z1] (h) [] := by
  have bl : (berthI a i (o ^^^ (o &&& s))) ≤ a 0 := berth_le _ _ _ _ _
  have o0 := hO.1.1
  refine s_aload_n (pc := 133) 0 rfl rfl dX7_chance_133 ?_
  refine s_iload_n (pc := 134) 1 rfl rfl dX7_chance_134 ?_
  refine s_iload (pc := 135) rfl dX7_chance_135 ?_
  refine s_iload (pc := 137) rfl dX7_chance_137 ?_
  refine s_iconst (pc := 139) (k_im1) dX7_chance_139 ?_
  refine s_ixor (pc := 140) dX7_chance_140 ?_
  refine s_iand (pc := 141) dX7_chance_141 ?_
  refine WW.top (and_not o ho s hs) ?_
  refine s_cvi2 (pc := 142) (c_X7_berthIn hA hO hi (Nat.lt_trans (and_not_lt o ho s hs) (by decide))) ml_X7_156 mw_X7_berthIn rfl (by decide) (Nat.le_of_ble_eq_true rfl) dX7_chance_142 ?_
  refine s_istore (pc := 145) (by decide) rfl dX7_chance_145 ?_
  refine s_lload (pc := 147) rfl dX7_chance_147 ?_
  refine s_lload (pc := 149) rfl dX7_chance_149 ?_
  refine s_iload_n (pc := 151) 2 rfl rfl dX7_chance_151 ?_
  refine s_bipush (pc := 152) (k_bm9) dX7_chance_152 ?_
  refine s_icmp_ne (pc := 154) 162 dX7_chance_154 (by decide) (fun c_154 => ?_) (fun c_154 => ?_)
  · refine s_iload (pc := 162) rfl dX7_chance_162 ?_
    refine s_iload_n (pc := 164) 2 rfl rfl dX7_chance_164 ?_
    refine s_icmp_gtN (pc := 165) (by omega) (by omega) 172 dX7_chance_165 (by decide) (fun c_165 => ?_) (fun c_165 => ?_)
    · refine s_iconst (pc := 172) (k_i0N) dX7_chance_172 ?_
      refine s_i2lN (pc := 173) (by omega) dX7_chance_173 ?_
      refine s_lmulN (pc := 174) dX7_chance_174 ?_
      refine s_laddN (pc := 175) dX7_chance_175 ?_
      refine WW.topl (show _ = lN (x1 + w1 * (if (berthI a i (o ^^^ (o &&& s))) ≤ k1 then 1 else 0)) from by rw [if_neg (by omega)]) ?_
      refine s_lstore (pc := 176) (by decide) rfl dX7_chance_176 ?_
      refine s_iincN (pc := 178) rfl (by decide) rfl dX7_chance_178 ?_
      refine s_goto (pc := 181) 50 dX7_chance_181 (by decide) ?_
      exact k _
    · refine s_iconst (pc := 168) (k_i1N) dX7_chance_168 ?_
      refine s_goto (pc := 169) 173 dX7_chance_169 (by decide) ?_
      refine s_i2lN (pc := 173) (by omega) dX7_chance_173 ?_
      refine s_lmulN (pc := 174) dX7_chance_174 ?_
      refine s_laddN (pc := 175) dX7_chance_175 ?_
      refine WW.topl (show _ = lN (x1 + w1 * (if (berthI a i (o ^^^ (o &&& s))) ≤ k1 then 1 else 0)) from by rw [if_pos (by omega)]) ?_
      refine s_lstore (pc := 176) (by decide) rfl dX7_chance_176 ?_
      refine s_iincN (pc := 178) rfl (by decide) rfl dX7_chance_178 ?_
      refine s_goto (pc := 181) 50 dX7_chance_181 (by decide) ?_
      exact k _
  · exfalso; exact nI_n9 (by omega) c_154

set_option maxRecDepth 20000 in
theorem ch_tM {E : Cx} {i p o x1 y1 s w1 : Nat} {z1 : Value} {a : Nat → Nat} {h : Hp} (hA : RM a h) (hO : OkA a) (hi : i < a 0) (ho : o < 64) (hs : s < 64) (k : ∀ z1, WW E cX7_chance RX7 13 5 50 [.ref 50, .int (nI i), .int (-9), .int (nI p), .int (nI o), .long (lN (x1 + w1 * (berthI a i (o ^^^ (o &&& s))))), .null, .long (lN y1), .null, .int (nI (s + 1)), .long (lN w1), .null, z1] (h) []) : WW E cX7_chance RX7 13 5 133 [.ref 50, .int (nI i), .int (-9), .int (nI p), .int (nI o), .long (lN x1), .null, .long (lN y1), .null, .int (nI s), .long (lN w1), .null, z1] (h) [] := by
  have bl : (berthI a i (o ^^^ (o &&& s))) ≤ a 0 := berth_le _ _ _ _ _
  have o0 := hO.1.1
  refine s_aload_n (pc := 133) 0 rfl rfl dX7_chance_133 ?_
  refine s_iload_n (pc := 134) 1 rfl rfl dX7_chance_134 ?_
  refine s_iload (pc := 135) rfl dX7_chance_135 ?_
  refine s_iload (pc := 137) rfl dX7_chance_137 ?_
  refine s_iconst (pc := 139) (k_im1) dX7_chance_139 ?_
  refine s_ixor (pc := 140) dX7_chance_140 ?_
  refine s_iand (pc := 141) dX7_chance_141 ?_
  refine WW.top (and_not o ho s hs) ?_
  refine s_cvi2 (pc := 142) (c_X7_berthIn hA hO hi (Nat.lt_trans (and_not_lt o ho s hs) (by decide))) ml_X7_156 mw_X7_berthIn rfl (by decide) (Nat.le_of_ble_eq_true rfl) dX7_chance_142 ?_
  refine s_istore (pc := 145) (by decide) rfl dX7_chance_145 ?_
  refine s_lload (pc := 147) rfl dX7_chance_147 ?_
  refine s_lload (pc := 149) rfl dX7_chance_149 ?_
  refine s_iload_n (pc := 151) 2 rfl rfl dX7_chance_151 ?_
  refine s_bipush (pc := 152) (k_bm9) dX7_chance_152 ?_
  refine s_icmp_ne (pc := 154) 162 dX7_chance_154 (by decide) (fun c_154 => ?_) (fun c_154 => ?_)
  · exfalso; exact c_154 rfl
  · refine s_iload (pc := 157) rfl dX7_chance_157 ?_
    refine s_goto (pc := 159) 173 dX7_chance_159 (by decide) ?_
    refine s_i2lN (pc := 173) (by omega) dX7_chance_173 ?_
    refine s_lmulN (pc := 174) dX7_chance_174 ?_
    refine s_laddN (pc := 175) dX7_chance_175 ?_
    refine s_lstore (pc := 176) (by decide) rfl dX7_chance_176 ?_
    refine s_iincN (pc := 178) rfl (by decide) rfl dX7_chance_178 ?_
    refine s_goto (pc := 181) 50 dX7_chance_181 (by decide) ?_
    exact k _

set_option maxRecDepth 20000 in
theorem c_X7_chanceO {i p : Nat} {k1 : Nat} (hk : k1 < 6) {a : Nat → Nat} {h : Hp} (hA : RM a h) (hO : OkA a) (hi : i < a 0) (hp12 : p ≤ 12) : CT 5 yX7_chance cX7_chance 13 (some .int) [.ref 50, .int (nI i), .int (nI k1), .int (nI p)] h (some (.int (nI 1))) (ul (ul h 50 12 (lN (rdA (odX a i k1 p) (12 ^ berthI a i (a 5))))) 50 13 (lN (rdB (odX a i k1 p) (12 ^ berthI a i (a 5))))) := by
  obtain ⟨⟨o0, o1, o2, o3, o4, o5, o6⟩, os⟩ := id hO
  have o64 := hO.in64
  have ol : clrN (a 5) i < 64 := clr_lt o64
  have pl := pop_le (clrN (a 5) i)
  have eq := od_eq hO hi (k := k1) hp12
  have rd := od_rd hO hi k1 p
  have bd := od_bound hO hi (k := k1) hp12
  have b12 := p12_le pl
  have b0 : 0 < 12 ^ pop (clrN (a 5) i) := Nat.pow_pos (by decide)
  refine CT.of (own := RX7) rfl (by decide) (ro_i _) [.ref 50, .int (nI i), .int (nI k1), .int (nI p), .null, .null, .null, .null, .null, .null, .null, .null, .null] rfl (Nat.le_of_ble_eq_true rfl) (fun E hp => ?_)
  refine s_aload_n (pc := 0) 0 rfl rfl dX7_chance_0 ?_
  refine s_getr (pc := 1) (b := 56) fl_X7_25 rfl rfl rfl dX7_chance_1 ?_
  refine s_iconst (pc := 4) (k_i5N) dX7_chance_4 ?_
  refine s_ialdN (pc := 5) (_) rfl rfl (by omega) (hA _ (by omega)) dX7_chance_5 ?_
  refine s_iconst (pc := 6) (k_i1N) dX7_chance_6 ?_
  refine s_iload_n (pc := 7) 1 rfl rfl dX7_chance_7 ?_
  refine s_ishl1N (pc := 8) (by omega) dX7_chance_8 ?_
  refine s_iconst (pc := 9) (k_im1) dX7_chance_9 ?_
  refine s_ixor (pc := 10) dX7_chance_10 ?_
  refine s_iand (pc := 11) dX7_chance_11 ?_
  refine WW.top (clr_and _ o64 i (by omega)) ?_
  refine s_istore (pc := 12) (by decide) rfl dX7_chance_12 ?_
  refine s_lconst (pc := 14) (v := lN 0) rfl dX7_chance_14 ?_
  refine s_lstore (pc := 15) (by decide) rfl dX7_chance_15 ?_
  refine s_lconst (pc := 17) (v := lN 1) rfl dX7_chance_17 ?_
  refine s_lstore (pc := 18) (by decide) rfl dX7_chance_18 ?_
  refine s_iconst (pc := 20) (k_i0N) dX7_chance_20 ?_
  refine s_istore (pc := 21) (by decide) rfl dX7_chance_21 ?_
  suffices lp_23 : ∀ j, j ≤ pop (clrN (a 5) i) → WW E cX7_chance RX7 13 _ 23 [.ref 50, .int (nI i), .int (nI k1), .int (nI p), .int (nI (clrN (a 5) i)), .long (lN 0), .null, .long (lN (12 ^ j)), .null, .int (nI j), .null, .null, .null] (h) [] from lp_23 (0) (by omega)
  refine lpi (pop (clrN (a 5) i)) (fun j hk_j ih_23 => ?_)
  refine s_iload (pc := 23) rfl dX7_chance_23 ?_
  refine s_iload (pc := 25) rfl dX7_chance_25 ?_
  refine s_csi1 (pc := 27) (c_X7_ones (by omega)) ml_X7_153 ms_X7_ones (by decide) (Nat.le_of_ble_eq_true rfl) dX7_chance_27 ?_
  refine s_icmp_geN (pc := 30) (by omega) (by omega) 47 dX7_chance_30 (by decide) (fun c_30 => ?_) (fun c_30 => ?_)
  · refine s_iconst (pc := 47) (k_i0N) dX7_chance_47 ?_
    refine s_istore (pc := 48) (by decide) rfl dX7_chance_48 ?_
    obtain rfl : j = pop (clrN (a 5) i) := by omega
    suffices lp_50 : ∀ s, s ≤ (clrN (a 5) i) + 1 → ∀ z1 z2, WW E cX7_chance RX7 13 _ 50 [.ref 50, .int (nI i), .int (nI k1), .int (nI p), .int (nI (clrN (a 5) i)), .long (lN (sumU s (fun s => wS (clrN (a 5) i) p (a 0) s * (if berthI a i ((clrN (a 5) i) ^^^ ((clrN (a 5) i) &&& s)) ≤ k1 then 1 else 0)))), .null, .long (lN (12 ^ pop (clrN (a 5) i))), .null, .int (nI s), z1, .null, z2] (h) [] from lp_50 0 (by omega) _ _
    refine lpi ((clrN (a 5) i) + 1) (fun s hk_s ih_50 => ?_)
    intro z1 z2
    refine s_iload (pc := 50) rfl dX7_chance_50 ?_
    refine s_iload (pc := 52) rfl dX7_chance_52 ?_
    refine s_icmp_gtN (pc := 54) (by omega) (by omega) 184 dX7_chance_54 (by decide) (fun c_54 => ?_) (fun c_54 => ?_)
    · obtain rfl : s = (clrN (a 5) i) + 1 := by omega
      rw [eq]
      refine s_aload_n (pc := 184) 0 rfl rfl dX7_chance_184 ?_
      refine s_lload (pc := 185) rfl dX7_chance_185 ?_
      refine s_lload (pc := 187) rfl dX7_chance_187 ?_
      refine s_cvi2 (pc := 189) (c_X7_tellsParts (by omega) (by omega) b0) ml_X7_253 mw_X7_tellsParts rfl (by decide) (Nat.le_of_ble_eq_true rfl) dX7_chance_189 ?_
      refine s_iret (pc := 192) dX7_chance_192 (PostE.of hp ?_ ?_)
      · rfl
      · rw [rd.1, rd.2]
    · refine s_iload (pc := 57) rfl dX7_chance_57 ?_
      refine s_iload (pc := 59) rfl dX7_chance_59 ?_
      refine s_iconst (pc := 61) (k_im1) dX7_chance_61 ?_
      refine s_ixor (pc := 62) dX7_chance_62 ?_
      refine s_iand (pc := 63) dX7_chance_63 ?_
      refine WW.top (and_not s (by omega) (clrN (a 5) i) ol) ?_
      refine s_if_neN (pc := 64) (Nat.lt_trans (and_not_lt s (by omega) (clrN (a 5) i) ol) (by decide)) 71 dX7_chance_64 (by decide) (fun c_64 => ?_) (fun c_64 => ?_)
      · refine s_lconst (pc := 71) (v := lN 0) rfl dX7_chance_71 ?_
        refine s_lstore (pc := 72) (by decide) rfl dX7_chance_72 ?_
        refine s_iconst (pc := 74) (k_i0N) dX7_chance_74 ?_
        refine s_istore (pc := 75) (by decide) rfl dX7_chance_75 ?_
        have ew : wyN (clrN (a 5) i) p s 0 (a 0) = wS (clrN (a 5) i) p (a 0) s := by unfold wS; rw [if_neg c_64]
        refine ch_in hA o0 hp12 (by omega) (by omega) ?_
        rw [ew]
        exact ch_tO hA hO hi ol (by omega) hk (fun z => ih_50 (by omega) _ _)
      · refine s_lconst (pc := 67) (v := lN 1) rfl dX7_chance_67 ?_
        refine s_goto (pc := 68) 72 dX7_chance_68 (by decide) ?_
        refine s_lstore (pc := 72) (by decide) rfl dX7_chance_72 ?_
        refine s_iconst (pc := 74) (k_i0N) dX7_chance_74 ?_
        refine s_istore (pc := 75) (by decide) rfl dX7_chance_75 ?_
        have ew : wyN (clrN (a 5) i) p s 1 (a 0) = wS (clrN (a 5) i) p (a 0) s := by unfold wS; rw [if_pos c_64]
        refine ch_in hA o0 hp12 (by omega) (by omega) ?_
        rw [ew]
        exact ch_tO hA hO hi ol (by omega) hk (fun z => ih_50 (by omega) _ _)
  · refine s_lload (pc := 33) rfl dX7_chance_33 ?_
    refine s_ldc2 (pc := 35) _ lc_X7_251 dX7_chance_35 ?_
    refine WW.topl (show _ = lN 12 from rfl) ?_
    refine s_lmulN (pc := 38) dX7_chance_38 ?_
    refine s_lstore (pc := 39) (by decide) rfl dX7_chance_39 ?_
    refine s_iincN (pc := 41) rfl (by decide) rfl dX7_chance_41 ?_
    refine s_goto (pc := 44) 23 dX7_chance_44 (by decide) ?_
    rw [← Nat.pow_succ]
    exact ih_23 (by omega)

set_option maxRecDepth 20000 in
theorem c_X7_chanceM {i p : Nat} {a : Nat → Nat} {h : Hp} (hA : RM a h) (hO : OkA a) (hi : i < a 0) (hp12 : p ≤ 12) : CT 5 yX7_chance cX7_chance 13 (some .int) [.ref 50, .int (nI i), .int (-9), .int (nI p)] h (some (.int (nI 1))) (ul (ul h 50 12 (lN (rdA (berthI a i (a 5) * (12 - p)) 12))) 50 13 (lN (rdB (berthI a i (a 5) * (12 - p)) 12))) := by
  obtain ⟨⟨o0, o1, o2, o3, o4, o5, o6⟩, os⟩ := id hO
  have o64 := hO.in64
  have ol : clrN (a 5) i < 64 := clr_lt o64
  have pl := pop_le (clrN (a 5) i)
  have eq := mi_eq hO hi hp12
  have rd := mi_rd hO hi hp12
  have bd := mi_bound hO hi hp12
  have b12 := p12_le pl
  have b0 : 0 < 12 ^ pop (clrN (a 5) i) := Nat.pow_pos (by decide)
  refine CT.of (own := RX7) rfl (by decide) (ro_i _) [.ref 50, .int (nI i), .int (-9), .int (nI p), .null, .null, .null, .null, .null, .null, .null, .null, .null] rfl (Nat.le_of_ble_eq_true rfl) (fun E hp => ?_)
  refine s_aload_n (pc := 0) 0 rfl rfl dX7_chance_0 ?_
  refine s_getr (pc := 1) (b := 56) fl_X7_25 rfl rfl rfl dX7_chance_1 ?_
  refine s_iconst (pc := 4) (k_i5N) dX7_chance_4 ?_
  refine s_ialdN (pc := 5) (_) rfl rfl (by omega) (hA _ (by omega)) dX7_chance_5 ?_
  refine s_iconst (pc := 6) (k_i1N) dX7_chance_6 ?_
  refine s_iload_n (pc := 7) 1 rfl rfl dX7_chance_7 ?_
  refine s_ishl1N (pc := 8) (by omega) dX7_chance_8 ?_
  refine s_iconst (pc := 9) (k_im1) dX7_chance_9 ?_
  refine s_ixor (pc := 10) dX7_chance_10 ?_
  refine s_iand (pc := 11) dX7_chance_11 ?_
  refine WW.top (clr_and _ o64 i (by omega)) ?_
  refine s_istore (pc := 12) (by decide) rfl dX7_chance_12 ?_
  refine s_lconst (pc := 14) (v := lN 0) rfl dX7_chance_14 ?_
  refine s_lstore (pc := 15) (by decide) rfl dX7_chance_15 ?_
  refine s_lconst (pc := 17) (v := lN 1) rfl dX7_chance_17 ?_
  refine s_lstore (pc := 18) (by decide) rfl dX7_chance_18 ?_
  refine s_iconst (pc := 20) (k_i0N) dX7_chance_20 ?_
  refine s_istore (pc := 21) (by decide) rfl dX7_chance_21 ?_
  suffices lp_23 : ∀ j, j ≤ pop (clrN (a 5) i) → WW E cX7_chance RX7 13 _ 23 [.ref 50, .int (nI i), .int (-9), .int (nI p), .int (nI (clrN (a 5) i)), .long (lN 0), .null, .long (lN (12 ^ j)), .null, .int (nI j), .null, .null, .null] (h) [] from lp_23 (0) (by omega)
  refine lpi (pop (clrN (a 5) i)) (fun j hk_j ih_23 => ?_)
  refine s_iload (pc := 23) rfl dX7_chance_23 ?_
  refine s_iload (pc := 25) rfl dX7_chance_25 ?_
  refine s_csi1 (pc := 27) (c_X7_ones (by omega)) ml_X7_153 ms_X7_ones (by decide) (Nat.le_of_ble_eq_true rfl) dX7_chance_27 ?_
  refine s_icmp_geN (pc := 30) (by omega) (by omega) 47 dX7_chance_30 (by decide) (fun c_30 => ?_) (fun c_30 => ?_)
  · refine s_iconst (pc := 47) (k_i0N) dX7_chance_47 ?_
    refine s_istore (pc := 48) (by decide) rfl dX7_chance_48 ?_
    obtain rfl : j = pop (clrN (a 5) i) := by omega
    suffices lp_50 : ∀ s, s ≤ (clrN (a 5) i) + 1 → ∀ z1 z2, WW E cX7_chance RX7 13 _ 50 [.ref 50, .int (nI i), .int (-9), .int (nI p), .int (nI (clrN (a 5) i)), .long (lN (sumU s (fun s => wS (clrN (a 5) i) p (a 0) s * berthI a i ((clrN (a 5) i) ^^^ ((clrN (a 5) i) &&& s))))), .null, .long (lN (12 ^ pop (clrN (a 5) i))), .null, .int (nI s), z1, .null, z2] (h) [] from lp_50 0 (by omega) _ _
    refine lpi ((clrN (a 5) i) + 1) (fun s hk_s ih_50 => ?_)
    intro z1 z2
    refine s_iload (pc := 50) rfl dX7_chance_50 ?_
    refine s_iload (pc := 52) rfl dX7_chance_52 ?_
    refine s_icmp_gtN (pc := 54) (by omega) (by omega) 184 dX7_chance_54 (by decide) (fun c_54 => ?_) (fun c_54 => ?_)
    · obtain rfl : s = (clrN (a 5) i) + 1 := by omega
      rw [eq]
      refine s_aload_n (pc := 184) 0 rfl rfl dX7_chance_184 ?_
      refine s_lload (pc := 185) rfl dX7_chance_185 ?_
      refine s_lload (pc := 187) rfl dX7_chance_187 ?_
      refine s_cvi2 (pc := 189) (c_X7_tellsParts (by omega) (by omega) b0) ml_X7_253 mw_X7_tellsParts rfl (by decide) (Nat.le_of_ble_eq_true rfl) dX7_chance_189 ?_
      refine s_iret (pc := 192) dX7_chance_192 (PostE.of hp ?_ ?_)
      · rfl
      · rw [rd.1, rd.2]
    · refine s_iload (pc := 57) rfl dX7_chance_57 ?_
      refine s_iload (pc := 59) rfl dX7_chance_59 ?_
      refine s_iconst (pc := 61) (k_im1) dX7_chance_61 ?_
      refine s_ixor (pc := 62) dX7_chance_62 ?_
      refine s_iand (pc := 63) dX7_chance_63 ?_
      refine WW.top (and_not s (by omega) (clrN (a 5) i) ol) ?_
      refine s_if_neN (pc := 64) (Nat.lt_trans (and_not_lt s (by omega) (clrN (a 5) i) ol) (by decide)) 71 dX7_chance_64 (by decide) (fun c_64 => ?_) (fun c_64 => ?_)
      · refine s_lconst (pc := 71) (v := lN 0) rfl dX7_chance_71 ?_
        refine s_lstore (pc := 72) (by decide) rfl dX7_chance_72 ?_
        refine s_iconst (pc := 74) (k_i0N) dX7_chance_74 ?_
        refine s_istore (pc := 75) (by decide) rfl dX7_chance_75 ?_
        have ew : wyN (clrN (a 5) i) p s 0 (a 0) = wS (clrN (a 5) i) p (a 0) s := by unfold wS; rw [if_neg c_64]
        refine ch_in hA o0 hp12 (by omega) (by omega) ?_
        rw [ew]
        exact ch_tM hA hO hi ol (by omega) (fun z => ih_50 (by omega) _ _)
      · refine s_lconst (pc := 67) (v := lN 1) rfl dX7_chance_67 ?_
        refine s_goto (pc := 68) 72 dX7_chance_68 (by decide) ?_
        refine s_lstore (pc := 72) (by decide) rfl dX7_chance_72 ?_
        refine s_iconst (pc := 74) (k_i0N) dX7_chance_74 ?_
        refine s_istore (pc := 75) (by decide) rfl dX7_chance_75 ?_
        have ew : wyN (clrN (a 5) i) p s 1 (a 0) = wS (clrN (a 5) i) p (a 0) s := by unfold wS; rw [if_pos c_64]
        refine ch_in hA o0 hp12 (by omega) (by omega) ?_
        rw [ew]
        exact ch_tM hA hO hi ol (by omega) (fun z => ih_50 (by omega) _ _)
  · refine s_lload (pc := 33) rfl dX7_chance_33 ?_
    refine s_ldc2 (pc := 35) _ lc_X7_251 dX7_chance_35 ?_
    refine WW.topl (show _ = lN 12 from rfl) ?_
    refine s_lmulN (pc := 38) dX7_chance_38 ?_
    refine s_lstore (pc := 39) (by decide) rfl dX7_chance_39 ?_
    refine s_iincN (pc := 41) rfl (by decide) rfl dX7_chance_41 ?_
    refine s_goto (pc := 44) 23 dX7_chance_44 (by decide) ?_
    rw [← Nat.pow_succ]
    exact ih_23 (by omega)

set_option maxRecDepth 20000 in
theorem c_X7_oddsB1 {s x y : Int32} {a : Nat → Nat} {h : Hp} (hA : RM a h) (hO : OkA a) (hb : s < 0 ∨ nI (a 0) ≤ s) : CT 6 yX7_odds cX7_odds 4 (some .int) [.ref 50, .int s, .int x, .int y] h (some (.int (-1))) (h) := by
  refine CT.of (own := RX7) rfl (by decide) (ro_i _) [.ref 50, .int s, .int x, .int y] rfl (Nat.le_of_ble_eq_true rfl) (fun E hp => ?_)
  refine s_aload_n (pc := 0) 0 rfl rfl dX7_odds_0 ?_
  refine s_iload_n (pc := 1) 1 rfl rfl dX7_odds_1 ?_
  refine s_cvi1 (pc := 2) (c_X7_isShipF hA hO.1.1 hb) ml_X7_159 mw_X7_isShip rfl (by decide) (Nat.le_of_ble_eq_true rfl) dX7_odds_2 ?_
  refine s_if_eqF (pc := 5) 35 dX7_odds_5 (by decide) ?_
  refine s_iconst (pc := 35) (k_im1) dX7_odds_35 ?_
  refine s_iret (pc := 36) dX7_odds_36 (PostE.of hp ?_ ?_)
  · rfl
  · rfl

set_option maxRecDepth 20000 in
theorem c_X7_oddsB2 {i : Nat} {x y : Int32} {a : Nat → Nat} {h : Hp} (hA : RM a h) (hO : OkA a) (hi : i < a 0) (hx : x < 0 ∨ nI 6 ≤ x) : CT 6 yX7_odds cX7_odds 4 (some .int) [.ref 50, .int (nI i), .int x, .int y] h (some (.int (-1))) (h) := by
  refine CT.of (own := RX7) rfl (by decide) (ro_i _) [.ref 50, .int (nI i), .int x, .int y] rfl (Nat.le_of_ble_eq_true rfl) (fun E hp => ?_)
  refine s_aload_n (pc := 0) 0 rfl rfl dX7_odds_0 ?_
  refine s_iload_n (pc := 1) 1 rfl rfl dX7_odds_1 ?_
  refine s_cvi1 (pc := 2) (c_X7_isShipT hA hO.1.1 hi) ml_X7_159 mw_X7_isShip rfl (by decide) (Nat.le_of_ble_eq_true rfl) dX7_odds_2 ?_
  refine s_if_eqT (pc := 5) 35 dX7_odds_5 (by decide) ?_
  refine s_iload_n (pc := 8) 2 rfl rfl dX7_odds_8 ?_
  refine s_csi1 (pc := 9) (c_X7_isBerthF hx) ml_X7_229 ms_X7_isBerth (by decide) (Nat.le_of_ble_eq_true rfl) dX7_odds_9 ?_
  refine s_if_eqF (pc := 12) 35 dX7_odds_12 (by decide) ?_
  refine s_iconst (pc := 35) (k_im1) dX7_odds_35 ?_
  refine s_iret (pc := 36) dX7_odds_36 (PostE.of hp ?_ ?_)
  · rfl
  · rfl

set_option maxRecDepth 20000 in
theorem c_X7_oddsB3 {i k : Nat} {y : Int32} {a : Nat → Nat} {h : Hp} (hA : RM a h) (hO : OkA a) (hi : i < a 0) (hk : k < 6) (hy : y < 0 ∨ nI 12 < y) : CT 6 yX7_odds cX7_odds 4 (some .int) [.ref 50, .int (nI i), .int (nI k), .int y] h (some (.int (-1))) (h) := by
  refine CT.of (own := RX7) rfl (by decide) (ro_i _) [.ref 50, .int (nI i), .int (nI k), .int y] rfl (Nat.le_of_ble_eq_true rfl) (fun E hp => ?_)
  refine s_aload_n (pc := 0) 0 rfl rfl dX7_odds_0 ?_
  refine s_iload_n (pc := 1) 1 rfl rfl dX7_odds_1 ?_
  refine s_cvi1 (pc := 2) (c_X7_isShipT hA hO.1.1 hi) ml_X7_159 mw_X7_isShip rfl (by decide) (Nat.le_of_ble_eq_true rfl) dX7_odds_2 ?_
  refine s_if_eqT (pc := 5) 35 dX7_odds_5 (by decide) ?_
  refine s_iload_n (pc := 8) 2 rfl rfl dX7_odds_8 ?_
  refine s_csi1 (pc := 9) (c_X7_isBerthT hk) ml_X7_229 ms_X7_isBerth (by decide) (Nat.le_of_ble_eq_true rfl) dX7_odds_9 ?_
  refine s_if_eqT (pc := 12) 35 dX7_odds_12 (by decide) ?_
  refine s_iload_n (pc := 15) 3 rfl rfl dX7_odds_15 ?_
  refine s_iconst (pc := 16) (k_i0N) dX7_odds_16 ?_
  refine s_bipush (pc := 17) (k_b12N) dX7_odds_17 ?_
  refine s_csi3 (pc := 19) (c_X7_inF hy) ml_X7_64 ms_X7_in (by decide) (Nat.le_of_ble_eq_true rfl) dX7_odds_19 ?_
  refine s_if_eqF (pc := 22) 35 dX7_odds_22 (by decide) ?_
  refine s_iconst (pc := 35) (k_im1) dX7_odds_35 ?_
  refine s_iret (pc := 36) dX7_odds_36 (PostE.of hp ?_ ?_)
  · rfl
  · rfl

set_option maxRecDepth 20000 in
theorem c_X7_oddsO {i k p : Nat} {a : Nat → Nat} {h : Hp} (hA : RM a h) (hO : OkA a) (hi : i < a 0) (hk : k < 6) (hp12 : p ≤ 12) : CT 6 yX7_odds cX7_odds 4 (some .int) [.ref 50, .int (nI i), .int (nI k), .int (nI p)] h (some (.int (nI 1))) (ul (ul h 50 12 (lN (rdA (odX a i k p) (12 ^ berthI a i (a 5))))) 50 13 (lN (rdB (odX a i k p) (12 ^ berthI a i (a 5))))) := by
  refine CT.of (own := RX7) rfl (by decide) (ro_i _) [.ref 50, .int (nI i), .int (nI k), .int (nI p)] rfl (Nat.le_of_ble_eq_true rfl) (fun E hp => ?_)
  refine s_aload_n (pc := 0) 0 rfl rfl dX7_odds_0 ?_
  refine s_iload_n (pc := 1) 1 rfl rfl dX7_odds_1 ?_
  refine s_cvi1 (pc := 2) (c_X7_isShipT hA hO.1.1 hi) ml_X7_159 mw_X7_isShip rfl (by decide) (Nat.le_of_ble_eq_true rfl) dX7_odds_2 ?_
  refine s_if_eqT (pc := 5) 35 dX7_odds_5 (by decide) ?_
  refine s_iload_n (pc := 8) 2 rfl rfl dX7_odds_8 ?_
  refine s_csi1 (pc := 9) (c_X7_isBerthT hk) ml_X7_229 ms_X7_isBerth (by decide) (Nat.le_of_ble_eq_true rfl) dX7_odds_9 ?_
  refine s_if_eqT (pc := 12) 35 dX7_odds_12 (by decide) ?_
  refine s_iload_n (pc := 15) 3 rfl rfl dX7_odds_15 ?_
  refine s_iconst (pc := 16) (k_i0N) dX7_odds_16 ?_
  refine s_bipush (pc := 17) (k_b12N) dX7_odds_17 ?_
  refine s_csi3 (pc := 19) (c_X7_inT (rng_t hp12 (by decide))) ml_X7_64 ms_X7_in (by decide) (Nat.le_of_ble_eq_true rfl) dX7_odds_19 ?_
  refine s_if_eqT (pc := 22) 35 dX7_odds_22 (by decide) ?_
  refine s_aload_n (pc := 25) 0 rfl rfl dX7_odds_25 ?_
  refine s_iload_n (pc := 26) 1 rfl rfl dX7_odds_26 ?_
  refine s_iload_n (pc := 27) 2 rfl rfl dX7_odds_27 ?_
  refine s_iload_n (pc := 28) 3 rfl rfl dX7_odds_28 ?_
  refine s_cvi3 (pc := 29) (c_X7_chanceO hk hA hO hi hp12) ml_X7_257 mw_X7_chance rfl (by decide) (Nat.le_of_ble_eq_true rfl) dX7_odds_29 ?_
  refine s_goto (pc := 32) 36 dX7_odds_32 (by decide) ?_
  refine s_iret (pc := 36) dX7_odds_36 (PostE.of hp ?_ ?_)
  · rfl
  · rfl

set_option maxRecDepth 20000 in
theorem c_X7_midB1 {s y : Int32} {a : Nat → Nat} {h : Hp} (hA : RM a h) (hO : OkA a) (hb : s < 0 ∨ nI (a 0) ≤ s) : CT 6 yX7_mid cX7_mid 3 (some .int) [.ref 50, .int s, .int y] h (some (.int (-1))) (h) := by
  refine CT.of (own := RX7) rfl (by decide) (ro_i _) [.ref 50, .int s, .int y] rfl (Nat.le_of_ble_eq_true rfl) (fun E hp => ?_)
  refine s_aload_n (pc := 0) 0 rfl rfl dX7_mid_0 ?_
  refine s_iload_n (pc := 1) 1 rfl rfl dX7_mid_1 ?_
  refine s_cvi1 (pc := 2) (c_X7_isShipF hA hO.1.1 hb) ml_X7_159 mw_X7_isShip rfl (by decide) (Nat.le_of_ble_eq_true rfl) dX7_mid_2 ?_
  refine s_if_eqF (pc := 5) 29 dX7_mid_5 (by decide) ?_
  refine s_iconst (pc := 29) (k_im1) dX7_mid_29 ?_
  refine s_iret (pc := 30) dX7_mid_30 (PostE.of hp ?_ ?_)
  · rfl
  · rfl

set_option maxRecDepth 20000 in
theorem c_X7_midB2 {i : Nat} {y : Int32} {a : Nat → Nat} {h : Hp} (hA : RM a h) (hO : OkA a) (hi : i < a 0) (hy : y < 0 ∨ nI 12 < y) : CT 6 yX7_mid cX7_mid 3 (some .int) [.ref 50, .int (nI i), .int y] h (some (.int (-1))) (h) := by
  refine CT.of (own := RX7) rfl (by decide) (ro_i _) [.ref 50, .int (nI i), .int y] rfl (Nat.le_of_ble_eq_true rfl) (fun E hp => ?_)
  refine s_aload_n (pc := 0) 0 rfl rfl dX7_mid_0 ?_
  refine s_iload_n (pc := 1) 1 rfl rfl dX7_mid_1 ?_
  refine s_cvi1 (pc := 2) (c_X7_isShipT hA hO.1.1 hi) ml_X7_159 mw_X7_isShip rfl (by decide) (Nat.le_of_ble_eq_true rfl) dX7_mid_2 ?_
  refine s_if_eqT (pc := 5) 29 dX7_mid_5 (by decide) ?_
  refine s_iload_n (pc := 8) 2 rfl rfl dX7_mid_8 ?_
  refine s_iconst (pc := 9) (k_i0N) dX7_mid_9 ?_
  refine s_bipush (pc := 10) (k_b12N) dX7_mid_10 ?_
  refine s_csi3 (pc := 12) (c_X7_inF hy) ml_X7_64 ms_X7_in (by decide) (Nat.le_of_ble_eq_true rfl) dX7_mid_12 ?_
  refine s_if_eqF (pc := 15) 29 dX7_mid_15 (by decide) ?_
  refine s_iconst (pc := 29) (k_im1) dX7_mid_29 ?_
  refine s_iret (pc := 30) dX7_mid_30 (PostE.of hp ?_ ?_)
  · rfl
  · rfl

set_option maxRecDepth 20000 in
theorem c_X7_midO {i p : Nat} {a : Nat → Nat} {h : Hp} (hA : RM a h) (hO : OkA a) (hi : i < a 0) (hp12 : p ≤ 12) : CT 6 yX7_mid cX7_mid 3 (some .int) [.ref 50, .int (nI i), .int (nI p)] h (some (.int (nI 1))) (ul (ul h 50 12 (lN (rdA (berthI a i (a 5) * (12 - p)) 12))) 50 13 (lN (rdB (berthI a i (a 5) * (12 - p)) 12))) := by
  refine CT.of (own := RX7) rfl (by decide) (ro_i _) [.ref 50, .int (nI i), .int (nI p)] rfl (Nat.le_of_ble_eq_true rfl) (fun E hp => ?_)
  refine s_aload_n (pc := 0) 0 rfl rfl dX7_mid_0 ?_
  refine s_iload_n (pc := 1) 1 rfl rfl dX7_mid_1 ?_
  refine s_cvi1 (pc := 2) (c_X7_isShipT hA hO.1.1 hi) ml_X7_159 mw_X7_isShip rfl (by decide) (Nat.le_of_ble_eq_true rfl) dX7_mid_2 ?_
  refine s_if_eqT (pc := 5) 29 dX7_mid_5 (by decide) ?_
  refine s_iload_n (pc := 8) 2 rfl rfl dX7_mid_8 ?_
  refine s_iconst (pc := 9) (k_i0N) dX7_mid_9 ?_
  refine s_bipush (pc := 10) (k_b12N) dX7_mid_10 ?_
  refine s_csi3 (pc := 12) (c_X7_inT (rng_t hp12 (by decide))) ml_X7_64 ms_X7_in (by decide) (Nat.le_of_ble_eq_true rfl) dX7_mid_12 ?_
  refine s_if_eqT (pc := 15) 29 dX7_mid_15 (by decide) ?_
  refine s_aload_n (pc := 18) 0 rfl rfl dX7_mid_18 ?_
  refine s_iload_n (pc := 19) 1 rfl rfl dX7_mid_19 ?_
  refine s_bipush (pc := 20) (k_bm9) dX7_mid_20 ?_
  refine s_iload_n (pc := 22) 2 rfl rfl dX7_mid_22 ?_
  refine s_cvi3 (pc := 23) (c_X7_chanceM hA hO hi hp12) ml_X7_257 mw_X7_chance rfl (by decide) (Nat.le_of_ble_eq_true rfl) dX7_mid_23 ?_
  refine s_goto (pc := 26) 30 dX7_mid_26 (by decide) ?_
  refine s_iret (pc := 30) dX7_mid_30 (PostE.of hp ?_ ?_)
  · rfl
  · rfl
