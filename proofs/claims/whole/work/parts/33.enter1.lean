/-! orders of those outside, one behind the other -/
theorem lpd {P : Nat → Prop} (hs : ∀ k, (0 < k → P (k - 1)) → P k) : ∀ k, P k := by
  intro k
  induction k with
  | zero => exact hs 0 (fun h => absurd h (Nat.lt_irrefl _))
  | succ k ih => exact hs (k + 1) (fun _ => ih)
def fK (g : Nat → Nat) : Nat → Nat
  | 0 => 0
  | j + 1 => if g (j + 1) < g j then fK g j else j + 1
def fJ (g : Nat → Nat) (x : Nat) : Nat → Nat
  | 0 => 0
  | j + 1 => if g (j + 1) < x then fJ g x j else j + 1
def swp (g : Nat → Nat) (i j : Nat) : Nat → Nat := au (au g i (g j)) j (g i)
def fR (g : Nat → Nat) (n K : Nat) : Nat → (Nat → Nat)
  | 0 => g
  | t + 1 => swp (fR g n K t) (K + 1 + t) (n + K - (K + 1 + t))
def nxG (n : Nat) (g : Nat → Nat) (K : Nat) : Nat → Nat := fR (swp g K (fJ g (g K) (n - 1))) n K ((n + K + 1) / 2 - (K + 1))
theorem fK_le (g : Nat → Nat) (j : Nat) : fK g j ≤ j := by
  induction j with
  | zero => exact Nat.le_refl _
  | succ j ih => simp only [fK]; split <;> omega
theorem fK_v {g : Nat → Nat} {j K : Nat} (h : fK g j = K + 1) : ¬ g (K + 1) < g K := by
  induction j with
  | zero => exact absurd h (by simp [fK])
  | succ j ih =>
    simp only [fK] at h
    split at h
    · exact ih h
    · rename_i q
      obtain rfl : j = K := by omega
      exact q
theorem fJ_v {g : Nat → Nat} {x j : Nat} (h : ¬ g (fJ g x j) < x → True) : fJ g x j ≤ j := by
  induction j with
  | zero => exact Nat.le_refl _
  | succ j ih => simp only [fJ]; split
                 · exact Nat.le_trans (ih (fun _ => trivial)) (Nat.le_succ _)
                 · exact Nat.le_refl _
/-- the line tells g -/
def lnH (h : Hp) (n : Nat) (g : Nat → Nat) : Hp := fup h 61 n (fun y => nI (g y))
theorem lnH_v {h : Hp} {n j : Nat} {g : Nat → Nat} (hj : j < n) : (lnH h n g).1 61 j = nI (g j) := fup_lt hj
theorem lnH_ne {h : Hp} {n x y : Nat} {g : Nat → Nat} (hx : x ≠ 61) : (lnH h n g).1 x y = h.1 x y := fup_ne hx
theorem lnH_ui {h : Hp} {n j v : Nat} {g : Nat → Nat} (hj : j < n) : ui (lnH h n g) 61 j (nI v) = lnH h n (au g j v) := hp_ext (fun x y => by
  simp only [lnH, fup, ui, au]
  by_cases q : x = 61 ∧ y = j
  · rw [if_pos q, if_pos (by omega), if_pos q.2]
  · rw [if_neg q]
    by_cases q2 : x = 61 ∧ y < n
    · rw [if_pos q2, if_pos q2, if_neg (fun e => q ⟨q2.1, e⟩)]
    · rw [if_neg q2, if_neg q2]) (fun _ _ => rfl)
theorem lnH_congr {h : Hp} {n : Nat} {g g' : Nat → Nat} (e : ∀ j, j < n → g j = g' j) : lnH h n g = lnH h n g' := hp_ext (fun x y => by
  simp only [lnH, fup]
  by_cases q : x = 61 ∧ y < n
  · rw [if_pos q, if_pos q, e y q.2]
  · rw [if_neg q, if_neg q]) (fun _ _ => rfl)
theorem lnH_of {h : Hp} {n : Nat} {g : Nat → Nat} (e : ∀ j, j < n → h.1 61 j = nI (g j)) : lnH h n g = h := hp_ext (fun x y => by
  simp only [lnH, fup]
  by_cases q : x = 61 ∧ y < n
  · rw [if_pos q, q.1, e y q.2]
  · rw [if_neg q]) (fun _ _ => rfl)
theorem m1_decj (j : Nat) : nI j + Int32.ofInt (-1) = nI j - nI 1 := by
  rw [Int32.sub_eq_add_neg]; rfl
theorem m21 {n : Nat} (h : 1 ≤ n) : nI n - nI 2 = nI (n - 1) - nI 1 := by
  rw [← pk_sub h, Int32.sub_sub]; rfl

set_option maxRecDepth 20000 in
theorem c_X7_swaps {n i j : Nat} {g : Nat → Nat} {h : Hp} (hn : n ≤ 7) (hi : i < n) (hj : j < n) : CT 1 yX7_swaps cX7_swaps 4 none [.ref 50, .int (nI i), .int (nI j)] (lnH h n g) (none) (lnH h n (swp g i j)) := by
  refine CT.of (own := RX7) rfl (by decide) ro_v [.ref 50, .int (nI i), .int (nI j), .null] rfl (Nat.le_of_ble_eq_true rfl) (fun E hp => ?_)
  refine s_aload_n (pc := 0) 0 rfl rfl dX7_swaps_0 ?_
  refine s_getr (pc := 1) (b := 61) fl_X7_41 rfl rfl rfl dX7_swaps_1 ?_
  refine s_iload_n (pc := 4) 1 rfl rfl dX7_swaps_4 ?_
  refine s_ialdN (pc := 5) (_) rfl rfl (by omega) (lnH_v hi) dX7_swaps_5 ?_
  refine s_istore_n (pc := 6) 3 rfl (by decide) rfl dX7_swaps_6 ?_
  refine s_aload_n (pc := 7) 0 rfl rfl dX7_swaps_7 ?_
  refine s_getr (pc := 8) (b := 61) fl_X7_41 rfl rfl rfl dX7_swaps_8 ?_
  refine s_iload_n (pc := 11) 1 rfl rfl dX7_swaps_11 ?_
  refine s_aload_n (pc := 12) 0 rfl rfl dX7_swaps_12 ?_
  refine s_getr (pc := 13) (b := 61) fl_X7_41 rfl rfl rfl dX7_swaps_13 ?_
  refine s_iload_n (pc := 16) 2 rfl rfl dX7_swaps_16 ?_
  refine s_ialdN (pc := 17) (_) rfl rfl (by omega) (lnH_v hj) dX7_swaps_17 ?_
  refine s_iast (pc := 18) (_) rfl rfl (by omega) dX7_swaps_18 ?_
  rw [lnH_ui hi]
  refine s_aload_n (pc := 19) 0 rfl rfl dX7_swaps_19 ?_
  refine s_getr (pc := 20) (b := 61) fl_X7_41 rfl rfl rfl dX7_swaps_20 ?_
  refine s_iload_n (pc := 23) 2 rfl rfl dX7_swaps_23 ?_
  refine s_iload_n (pc := 24) 3 rfl rfl dX7_swaps_24 ?_
  refine s_iast (pc := 25) (_) rfl rfl (by omega) dX7_swaps_25 ?_
  rw [lnH_ui hj]
  refine s_vret (pc := 26) dX7_swaps_26 (PostE.of hp ?_ ?_)
  · rfl
  · rfl

set_option maxRecDepth 20000 in
theorem c_X7_nx0 {g : Nat → Nat} {h : Hp} : CT 3 yX7_nextOrder cX7_nextOrder 5 (some .boolean) [.ref 50, .int (nI 0)] h (some (.int (bi False))) (h) := by
  refine CT.of (own := RX7) rfl (by decide) (ro_z _) [.ref 50, .int (nI 0), .null, .null, .null] rfl (Nat.le_of_ble_eq_true rfl) (fun E hp => ?_)
  refine s_iload_n (pc := 0) 1 rfl rfl dX7_nextOrder_0 ?_
  refine s_iconst (pc := 1) (k_i2N) dX7_nextOrder_1 ?_
  refine s_isub (pc := 2) dX7_nextOrder_2 ?_
  refine s_istore_n (pc := 3) 2 rfl (by decide) rfl dX7_nextOrder_3 ?_
  refine s_iload_n (pc := 4) 2 rfl rfl dX7_nextOrder_4 ?_
  refine s_if_lt (pc := 5) 31 dX7_nextOrder_5 (by decide) (fun c_5 => ?_) (fun c_5 => ?_)
  · refine s_iload_n (pc := 31) 2 rfl rfl dX7_nextOrder_31 ?_
    refine s_if_ge (pc := 32) 37 dX7_nextOrder_32 (by decide) (fun c_32 => ?_) (fun c_32 => ?_)
    · exfalso; exact absurd c_32 (by decide)
    · refine s_iconst (pc := 35) (k_i0N) dX7_nextOrder_35 ?_
      refine s_iret (pc := 36) dX7_nextOrder_36 (PostE.of hp ?_ ?_)
      · rfl
      · rfl
  · exfalso; exact absurd c_5 (by decide)

set_option maxRecDepth 20000 in
theorem c_X7_nxN {n : Nat} {g : Nat → Nat} {h : Hp} (hn : n ≤ 7) (h1 : 1 ≤ n) (hg : ∀ j, j < n → g j < 64) (hz : fK g (n - 1) = 0) : CT 3 yX7_nextOrder cX7_nextOrder 5 (some .boolean) [.ref 50, .int (nI n)] (lnH h n g) (some (.int (bi False))) (lnH h n g) := by
  refine CT.of (own := RX7) rfl (by decide) (ro_z _) [.ref 50, .int (nI n), .null, .null, .null] rfl (Nat.le_of_ble_eq_true rfl) (fun E hp => ?_)
  refine s_iload_n (pc := 0) 1 rfl rfl dX7_nextOrder_0 ?_
  refine s_iconst (pc := 1) (k_i2N) dX7_nextOrder_1 ?_
  refine s_isub (pc := 2) dX7_nextOrder_2 ?_
  refine s_istore_n (pc := 3) 2 rfl (by decide) rfl dX7_nextOrder_3 ?_
  rw [m21 h1]
  suffices lp_4 : ∀ kk, kk ≤ n - 1 → fK g (n - 1) = fK g kk → WW E cX7_nextOrder RX7 5 _ 4 [.ref 50, .int (nI n), .int (nI kk - nI 1), .null, .null] (lnH h n g) [] from lp_4 (n - 1) (Nat.le_refl _) rfl
  refine lpd (fun kk ih_4 => ?_)
  intro hk_kk hf
  refine s_iload_n (pc := 4) 2 rfl rfl dX7_nextOrder_4 ?_
  refine s_if_lt (pc := 5) 31 dX7_nextOrder_5 (by decide) (fun c_5 => ?_) (fun c_5 => ?_)
  · obtain rfl : kk = 0 := (m1_neg (by omega)).mp c_5
    refine s_iload_n (pc := 31) 2 rfl rfl dX7_nextOrder_31 ?_
    refine s_if_ge (pc := 32) 37 dX7_nextOrder_32 (by decide) (fun c_32 => ?_) (fun c_32 => ?_)
    · exfalso; exact absurd c_32 (by decide)
    · refine s_iconst (pc := 35) (k_i0N) dX7_nextOrder_35 ?_
      refine s_iret (pc := 36) dX7_nextOrder_36 (PostE.of hp ?_ ?_)
      · rfl
      · rfl
  · have kk0 : kk ≠ 0 := fun z => c_5 ((m1_neg (by omega)).mpr z)
    obtain ⟨j, rfl⟩ : ∃ j, kk = j + 1 := ⟨kk - 1, by omega⟩
    rw [pk_sub (show 1 ≤ j + 1 by omega), Nat.add_sub_cancel]
    have g1 := hg j (by omega)
    have g2 := hg (j + 1) (by omega)
    refine s_aload_n (pc := 8) 0 rfl rfl dX7_nextOrder_8 ?_
    refine s_getr (pc := 9) (b := 61) fl_X7_41 rfl rfl rfl dX7_nextOrder_9 ?_
    refine s_iload_n (pc := 12) 2 rfl rfl dX7_nextOrder_12 ?_
    refine s_ialdN (pc := 13) (_) rfl rfl (by omega) (lnH_v (by omega)) dX7_nextOrder_13 ?_
    refine s_aload_n (pc := 14) 0 rfl rfl dX7_nextOrder_14 ?_
    refine s_getr (pc := 15) (b := 61) fl_X7_41 rfl rfl rfl dX7_nextOrder_15 ?_
    refine s_iload_n (pc := 18) 2 rfl rfl dX7_nextOrder_18 ?_
    refine s_iconst (pc := 19) (k_i1N) dX7_nextOrder_19 ?_
    refine s_iaddN (pc := 20) dX7_nextOrder_20 ?_
    refine s_ialdN (pc := 21) (_) rfl rfl (by omega) (lnH_v (by omega)) dX7_nextOrder_21 ?_
    refine s_icmp_leN (pc := 22) (by omega) (by omega) 31 dX7_nextOrder_22 (by decide) (fun c_22 => ?_) (fun c_22 => ?_)
    · exfalso
      rw [hf] at hz
      simp only [fK] at hz
      rw [if_neg (by omega)] at hz
      omega
    · refine s_iinc (pc := 25) _ rfl rfl (by decide) rfl dX7_nextOrder_25 ?_
      refine s_goto (pc := 28) 4 dX7_nextOrder_28 (by decide) ?_
      rw [m1_decj]
      exact ih_4 (by omega) (by omega) (by rw [hf]; simp only [fK]; rw [if_pos (by omega)]; rfl)

set_option maxRecDepth 20000 in
theorem c_X7_nxS {n : Nat} {g : Nat → Nat} {h : Hp} (hn : n ≤ 7) (h1 : 1 ≤ n) (hg : ∀ j, j < n → g j < 64) {K : Nat} (hz : fK g (n - 1) = K + 1) : CT 3 yX7_nextOrder cX7_nextOrder 5 (some .boolean) [.ref 50, .int (nI n)] (lnH h n g) (some (.int (bi True))) (lnH h n (nxG n g K)) := by
  have kn := fK_le g (n - 1)
  rw [hz] at kn
  have kv := fK_v hz
  have gK := hg K (by omega)
  refine CT.of (own := RX7) rfl (by decide) (ro_z _) [.ref 50, .int (nI n), .null, .null, .null] rfl (Nat.le_of_ble_eq_true rfl) (fun E hp => ?_)
  refine s_iload_n (pc := 0) 1 rfl rfl dX7_nextOrder_0 ?_
  refine s_iconst (pc := 1) (k_i2N) dX7_nextOrder_1 ?_
  refine s_isub (pc := 2) dX7_nextOrder_2 ?_
  refine s_istore_n (pc := 3) 2 rfl (by decide) rfl dX7_nextOrder_3 ?_
  rw [m21 h1]
  suffices lp_4 : ∀ kk, kk ≤ n - 1 → fK g (n - 1) = fK g kk → WW E cX7_nextOrder RX7 5 _ 4 [.ref 50, .int (nI n), .int (nI kk - nI 1), .null, .null] (lnH h n g) [] from lp_4 (n - 1) (Nat.le_refl _) rfl
  refine lpd (fun kk ih_4 => ?_)
  intro hk_kk hf
  refine s_iload_n (pc := 4) 2 rfl rfl dX7_nextOrder_4 ?_
  refine s_if_lt (pc := 5) 31 dX7_nextOrder_5 (by decide) (fun c_5 => ?_) (fun c_5 => ?_)
  · exfalso
    obtain rfl : kk = 0 := (m1_neg (by omega)).mp c_5
    rw [hz] at hf
    simp only [fK] at hf
    omega
  · have kk0 : kk ≠ 0 := fun z => c_5 ((m1_neg (by omega)).mpr z)
    obtain ⟨j, rfl⟩ : ∃ j, kk = j + 1 := ⟨kk - 1, by omega⟩
    rw [pk_sub (show 1 ≤ j + 1 by omega), Nat.add_sub_cancel]
    have g1 := hg j (by omega)
    have g2 := hg (j + 1) (by omega)
    refine s_aload_n (pc := 8) 0 rfl rfl dX7_nextOrder_8 ?_
    refine s_getr (pc := 9) (b := 61) fl_X7_41 rfl rfl rfl dX7_nextOrder_9 ?_
    refine s_iload_n (pc := 12) 2 rfl rfl dX7_nextOrder_12 ?_
    refine s_ialdN (pc := 13) (_) rfl rfl (by omega) (lnH_v (by omega)) dX7_nextOrder_13 ?_
    refine s_aload_n (pc := 14) 0 rfl rfl dX7_nextOrder_14 ?_
    refine s_getr (pc := 15) (b := 61) fl_X7_41 rfl rfl rfl dX7_nextOrder_15 ?_
    refine s_iload_n (pc := 18) 2 rfl rfl dX7_nextOrder_18 ?_
    refine s_iconst (pc := 19) (k_i1N) dX7_nextOrder_19 ?_
    refine s_iaddN (pc := 20) dX7_nextOrder_20 ?_
    refine s_ialdN (pc := 21) (_) rfl rfl (by omega) (lnH_v (by omega)) dX7_nextOrder_21 ?_
    refine s_icmp_leN (pc := 22) (Nat.lt_trans g1 (by decide)) (Nat.lt_trans g2 (by decide)) 31 dX7_nextOrder_22 (by decide) (fun c_22 => ?_) (fun c_22 => ?_)
    · obtain rfl : j = K := by
        rw [hz] at hf
        simp only [fK] at hf
        rw [if_neg (by omega)] at hf
        omega
      refine s_iload_n (pc := 31) 2 rfl rfl dX7_nextOrder_31 ?_
      refine s_if_geN (pc := 32) (by omega) 37 dX7_nextOrder_32 (by decide) ?_
      refine s_iload_n (pc := 37) 1 rfl rfl dX7_nextOrder_37 ?_
      refine s_iconst (pc := 38) (k_i1N) dX7_nextOrder_38 ?_
      refine s_isubN (pc := 39) (by omega) dX7_nextOrder_39 ?_
      refine s_istore_n (pc := 40) 3 rfl (by decide) rfl dX7_nextOrder_40 ?_
      suffices lp_41 : ∀ jj, jj ≤ n - 1 → j + 1 ≤ jj → fJ g (g j) (n - 1) = fJ g (g j) jj → WW E cX7_nextOrder RX7 5 _ 41 [.ref 50, .int (nI n), .int (nI j), .int (nI jj), .null] (lnH h n g) [] from lp_41 (n - 1) (Nat.le_refl _) (by omega) rfl
      refine lpd (fun jj ih_41 => ?_)
      intro hk_jj hjl hJ
      refine s_aload_n (pc := 41) 0 rfl rfl dX7_nextOrder_41 ?_
      refine s_getr (pc := 42) (b := 61) fl_X7_41 rfl rfl rfl dX7_nextOrder_42 ?_
      refine s_iload_n (pc := 45) 3 rfl rfl dX7_nextOrder_45 ?_
      refine s_ialdN (pc := 46) (_) rfl rfl (by omega) (lnH_v (by omega)) dX7_nextOrder_46 ?_
      refine s_aload_n (pc := 47) 0 rfl rfl dX7_nextOrder_47 ?_
      refine s_getr (pc := 48) (b := 61) fl_X7_41 rfl rfl rfl dX7_nextOrder_48 ?_
      refine s_iload_n (pc := 51) 2 rfl rfl dX7_nextOrder_51 ?_
      refine s_ialdN (pc := 52) (_) rfl rfl (by omega) (lnH_v (by omega)) dX7_nextOrder_52 ?_
      refine s_icmp_geN (pc := 53) (Nat.lt_trans (hg jj (by omega)) (by decide)) (by omega) 62 dX7_nextOrder_53 (by decide) (fun c_53 => ?_) (fun c_53 => ?_)
      · have ej : jj = fJ g (g j) (n - 1) := by
          rw [hJ]
          cases jj with
          | zero => rfl
          | succ z => simp only [fJ]; rw [if_neg (by omega)]
        rw [ej]
        rw [ej] at hk_jj hjl
        refine s_aload_n (pc := 62) 0 rfl rfl dX7_nextOrder_62 ?_
        refine s_iload_n (pc := 63) 2 rfl rfl dX7_nextOrder_63 ?_
        refine s_iload_n (pc := 64) 3 rfl rfl dX7_nextOrder_64 ?_
        refine s_cvn2 (pc := 65) (c_X7_swaps hn (by omega) (by omega)) ml_X7_214 mw_X7_swaps rfl (by decide) (Nat.le_of_ble_eq_true rfl) dX7_nextOrder_65 ?_
        refine s_iload_n (pc := 68) 2 rfl rfl dX7_nextOrder_68 ?_
        refine s_iconst (pc := 69) (k_i1N) dX7_nextOrder_69 ?_
        refine s_iaddN (pc := 70) dX7_nextOrder_70 ?_
        refine s_istore (pc := 71) (by decide) rfl dX7_nextOrder_71 ?_
        suffices lp_73 : ∀ t, t ≤ (n + j + 1) / 2 - (j + 1) → WW E cX7_nextOrder RX7 5 _ 73 [.ref 50, .int (nI n), .int (nI j), .int (nI (fJ g (g j) (n - 1))), .int (nI (j + 1 + t))] (lnH h n (fR (swp g j (fJ g (g j) (n - 1))) n j t)) [] from lp_73 0 (by omega)
        refine lpi ((n + j + 1) / 2 - (j + 1)) (fun t hk_t ih_73 => ?_)
        refine s_iload (pc := 73) rfl dX7_nextOrder_73 ?_
        refine s_iload_n (pc := 75) 1 rfl rfl dX7_nextOrder_75 ?_
        refine s_iload_n (pc := 76) 2 rfl rfl dX7_nextOrder_76 ?_
        refine s_iaddN (pc := 77) dX7_nextOrder_77 ?_
        refine s_iload (pc := 78) rfl dX7_nextOrder_78 ?_
        refine s_isubN (pc := 80) (by omega) dX7_nextOrder_80 ?_
        refine s_icmp_geN (pc := 81) (by omega) (by omega) 102 dX7_nextOrder_81 (by decide) (fun c_81 => ?_) (fun c_81 => ?_)
        · have et : t = (n + j + 1) / 2 - (j + 1) := by omega
          rw [et]
          refine s_iconst (pc := 102) (k_i1N) dX7_nextOrder_102 ?_
          refine s_iret (pc := 103) dX7_nextOrder_103 (PostE.of hp ?_ ?_)
          · rfl
          · rfl
        · refine s_aload_n (pc := 84) 0 rfl rfl dX7_nextOrder_84 ?_
          refine s_iload (pc := 85) rfl dX7_nextOrder_85 ?_
          refine s_iload_n (pc := 87) 1 rfl rfl dX7_nextOrder_87 ?_
          refine s_iload_n (pc := 88) 2 rfl rfl dX7_nextOrder_88 ?_
          refine s_iaddN (pc := 89) dX7_nextOrder_89 ?_
          refine s_iload (pc := 90) rfl dX7_nextOrder_90 ?_
          refine s_isubN (pc := 92) (by omega) dX7_nextOrder_92 ?_
          refine s_cvn2 (pc := 93) (c_X7_swaps hn (by omega) (by omega)) ml_X7_214 mw_X7_swaps rfl (by decide) (Nat.le_of_ble_eq_true rfl) dX7_nextOrder_93 ?_
          refine s_iincN (pc := 96) rfl (by decide) rfl dX7_nextOrder_96 ?_
          refine s_goto (pc := 99) 73 dX7_nextOrder_99 (by decide) ?_
          exact ih_73 (by omega)
      · have j0 : jj ≠ j + 1 := fun z => by rw [z] at c_53; omega
        obtain ⟨j2, rfl⟩ : ∃ j2, jj = j2 + 1 := ⟨jj - 1, by omega⟩
        refine s_iincM (pc := 56) rfl (by decide) rfl dX7_nextOrder_56 ?_
        refine s_goto (pc := 59) 41 dX7_nextOrder_59 (by decide) ?_
        exact ih_41 (by omega) (by omega) (by omega) (by rw [hJ]; simp only [fJ]; rw [if_pos (by omega)]; rfl)
    · refine s_iinc (pc := 25) _ rfl rfl (by decide) rfl dX7_nextOrder_25 ?_
      refine s_goto (pc := 28) 4 dX7_nextOrder_28 (by decide) ?_
      rw [m1_decj]
      exact ih_4 (by omega) (by omega) (by rw [hf]; simp only [fK]; rw [if_pos (by omega)]; rfl)
