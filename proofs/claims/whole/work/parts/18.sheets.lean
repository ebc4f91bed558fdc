section ST2
variable {E : Cx} {cc : ByteArray} {own : String} {nL d pc : Nat} {L : List Value} {h : Hp} {st : List Value}
theorem s_if_eqT {off : Int} (tgt : Nat) (hd : decode cc pc = .ok (.ifCond .eq off, 3)) (ht : (pc : Int) + off = (tgt : Int)) (k : WW E cc own nL d (pc + 3) L h st) : WW E cc own nL d pc L h (.int (bi True) :: st) := s_if_eqB tgt hd ht (fun z => absurd trivial z) (fun _ => k)
theorem s_if_eqF {off : Int} (tgt : Nat) (hd : decode cc pc = .ok (.ifCond .eq off, 3)) (ht : (pc : Int) + off = (tgt : Int)) (k : WW E cc own nL d tgt L h st) : WW E cc own nL d pc L h (.int (bi False) :: st) := s_if_eqB tgt hd ht (fun _ => k) (fun z => z.elim)
theorem s_if_neT {off : Int} (tgt : Nat) (hd : decode cc pc = .ok (.ifCond .ne off, 3)) (ht : (pc : Int) + off = (tgt : Int)) (k : WW E cc own nL d tgt L h st) : WW E cc own nL d pc L h (.int (bi True) :: st) := s_if_neB tgt hd ht (fun _ => k) (fun z => absurd trivial z)
theorem s_if_neF {off : Int} (tgt : Nat) (hd : decode cc pc = .ok (.ifCond .ne off, 3)) (ht : (pc : Int) + off = (tgt : Int)) (k : WW E cc own nL d (pc + 3) L h st) : WW E cc own nL d pc L h (.int (bi False) :: st) := s_if_neB tgt hd ht (fun z => z.elim) (fun _ => k)
end ST2
theorem nI_ne_m1 {n : Nat} (h : n < 2 ^ 31) : ¬ nI n = -1 := fun q => by
  have := nI_toInt h
  rw [q] at this
  have e : (-1 : Int32).toInt = -1 := by decide
  rw [e] at this
  omega
theorem nI_lt_m1 {n : Nat} (h : n < 2 ^ 31) : ¬ nI n ≤ -1 := fun q => by
  rw [Int32.le_iff_toInt_le, nI_toInt h] at q
  have e : (-1 : Int32).toInt = -1 := by decide
  rw [e] at q
  omega
theorem m1_le {n : Nat} (h : n < 2 ^ 31) : (-1 : Int32) ≤ nI n := by
  rw [Int32.le_iff_toInt_le, nI_toInt h]
  have e : (-1 : Int32).toInt = -1 := by decide
  rw [e]
  omega
/-- a sheet's size: n, or missing -/
def Sz (z : Int32) (n : Nat) : Prop := n ≤ 60 ∧ (z = nI n ∨ (z = -1 ∧ n = 0))
theorem Sz.le {z : Int32} {n j : Nat} (h : Sz z n) (hj : j < 2 ^ 31) : z ≤ nI j ↔ n ≤ j := by
  obtain ⟨hn, rfl | ⟨rfl, rfl⟩⟩ := h
  · exact nI_leI (by omega) hj
  · exact ⟨fun _ => Nat.zero_le _, fun _ => m1_le hj⟩
def dgI (f : Nat → Int32) (g : Int64) : Nat → Int64
  | 0 => g
  | k + 1 => 31 * dgI f g k + (f k).toInt64
def dgS (z : Nat → Int32) (n : Nat → Nat) (p : Nat → Nat → Int32) (g : Int64) : Nat → Int64
  | 0 => g
  | s + 1 => dgI (p s) (31 * dgS z n p g s + (z s).toInt64) (n s)
theorem ly_1 : ∀ k, k < 6 → lyL[3 + 1 + k]? = some (1, 40) := by decide
theorem ly_10 : ∀ k, k < 4 → lyL[12 + 1 + k]? = some (1, 60) := by decide
theorem ly_17 : ∀ k, k < 3 → lyL[19 + 1 + k]? = some (1, 40) := by decide

set_option maxRecDepth 20000 in
theorem c_X5_isNumber_1T {k : Nat} {h : Hp} (hm : h.1 1 0 = nI 6) (hk : k < 6) : CT 1 yX5_isNumber cX5_isNumber 2 (some .boolean) [.ref 1, .int (nI k)] h (some (.int (bi True))) (h) := by
  refine CT.of (own := RX5) rfl (by decide) (ro_z _) [.ref 1, .int (nI k)] rfl (Nat.le_of_ble_eq_true rfl) (fun E hp => ?_)
  refine s_iload_n (pc := 0) 1 rfl rfl dX5_isNumber_0 ?_
  refine s_if_ltN (pc := 1) (by omega) 16 dX5_isNumber_1 (by decide) ?_
  refine s_iload_n (pc := 4) 1 rfl rfl dX5_isNumber_4 ?_
  refine s_aload_n (pc := 5) 0 rfl rfl dX5_isNumber_5 ?_
  refine s_getiE (pc := 6) fl_X5_15 rfl rfl hm dX5_isNumber_6 ?_
  refine s_icmp_geN (pc := 9) (by omega) (by omega) 16 dX5_isNumber_9 (by decide) (fun c_9 => ?_) (fun c_9 => ?_)
  · refine s_iconst (pc := 16) (k_i0N) dX5_isNumber_16 ?_
    refine s_iret (pc := 17) dX5_isNumber_17 (PostE.of hp ?_ ?_)
    · first | rfl | (exfalso; omega)
    · first | rfl | (exfalso; omega)
  · refine s_iconst (pc := 12) (k_i1N) dX5_isNumber_12 ?_
    refine s_goto (pc := 13) 17 dX5_isNumber_13 (by decide) ?_
    refine s_iret (pc := 17) dX5_isNumber_17 (PostE.of hp ?_ ?_)
    · first | rfl | (exfalso; omega)
    · first | rfl | (exfalso; omega)

set_option maxRecDepth 20000 in
theorem c_X5_isNumber_1F {s : Int32} {h : Hp} (hm : h.1 1 0 = nI 6) (hb : s < 0 ∨ nI 6 ≤ s) : CT 1 yX5_isNumber cX5_isNumber 2 (some .boolean) [.ref 1, .int s] h (some (.int (bi False))) (h) := by
  refine CT.of (own := RX5) rfl (by decide) (ro_z _) [.ref 1, .int s] rfl (Nat.le_of_ble_eq_true rfl) (fun E hp => ?_)
  refine s_iload_n (pc := 0) 1 rfl rfl dX5_isNumber_0 ?_
  refine s_if_lt (pc := 1) 16 dX5_isNumber_1 (by decide) (fun c_1 => ?_) (fun c_1 => ?_)
  · refine s_iconst (pc := 16) (k_i0N) dX5_isNumber_16 ?_
    refine s_iret (pc := 17) dX5_isNumber_17 (PostE.of hp ?_ ?_)
    · first | rfl | exact (hb.elim c_1 c_9).elim
    · rfl
  · refine s_iload_n (pc := 4) 1 rfl rfl dX5_isNumber_4 ?_
    refine s_aload_n (pc := 5) 0 rfl rfl dX5_isNumber_5 ?_
    refine s_getiE (pc := 6) fl_X5_15 rfl rfl hm dX5_isNumber_6 ?_
    refine s_icmp_ge (pc := 9) 16 dX5_isNumber_9 (by decide) (fun c_9 => ?_) (fun c_9 => ?_)
    · refine s_iconst (pc := 16) (k_i0N) dX5_isNumber_16 ?_
      refine s_iret (pc := 17) dX5_isNumber_17 (PostE.of hp ?_ ?_)
      · first | rfl | exact (hb.elim c_1 c_9).elim
      · rfl
    · refine s_iconst (pc := 12) (k_i1N) dX5_isNumber_12 ?_
      refine s_goto (pc := 13) 17 dX5_isNumber_13 (by decide) ?_
      refine s_iret (pc := 17) dX5_isNumber_17 (PostE.of hp ?_ ?_)
      · first | rfl | exact (hb.elim c_1 c_9).elim
      · rfl

set_option maxRecDepth 20000 in
theorem c_X5_isThere_1T {k m : Nat} {h : Hp} (hm : h.1 1 0 = nI 6) (hk : k < 6) (hz : h.1 2 k = nI m) (hz6 : m ≤ 60) : CT 2 yX5_isThere cX5_isThere 2 (some .boolean) [.ref 1, .int (nI k)] h (some (.int (bi True))) (h) := by
  refine CT.of (own := RX5) rfl (by decide) (ro_z _) [.ref 1, .int (nI k)] rfl (Nat.le_of_ble_eq_true rfl) (fun E hp => ?_)
  refine s_aload_n (pc := 0) 0 rfl rfl dX5_isThere_0 ?_
  refine s_iload_n (pc := 1) 1 rfl rfl dX5_isThere_1 ?_
  refine s_cvi1 (pc := 2) (c_X5_isNumber_1T hm hk) ml_X5_39 mw_X5_isNumber rfl (by decide) (Nat.le_of_ble_eq_true rfl) dX5_isThere_2 ?_
  refine s_if_eqT (pc := 5) 22 dX5_isThere_5 (by decide) ?_
  refine s_aload_n (pc := 8) 0 rfl rfl dX5_isThere_8 ?_
  refine s_getr (pc := 9) (b := 2) fl_X5_24 rfl rfl rfl dX5_isThere_9 ?_
  refine s_iload_n (pc := 12) 1 rfl rfl dX5_isThere_12 ?_
  refine s_ialdE (pc := 13) (_) rfl rfl (by omega) hz dX5_isThere_13 ?_
  refine s_iconst (pc := 14) (k_im1) dX5_isThere_14 ?_
  refine s_icmp_eq (pc := 15) 22 dX5_isThere_15 (by decide) (fun c_15 => ?_) (fun c_15 => ?_)
  · refine s_iconst (pc := 22) (k_i0N) dX5_isThere_22 ?_
    refine s_iret (pc := 23) dX5_isThere_23 (PostE.of hp ?_ ?_)
    · first | rfl | exact absurd c_15 (nI_ne_m1 (by omega))
    · rfl
  · refine s_iconst (pc := 18) (k_i1N) dX5_isThere_18 ?_
    refine s_goto (pc := 19) 23 dX5_isThere_19 (by decide) ?_
    refine s_iret (pc := 23) dX5_isThere_23 (PostE.of hp ?_ ?_)
    · first | rfl | exact absurd c_15 (nI_ne_m1 (by omega))
    · rfl

set_option maxRecDepth 20000 in
theorem c_X5_isThere_1F {k : Nat} {h : Hp} (hm : h.1 1 0 = nI 6) (hk : k < 6) (hz : h.1 2 k = -1) : CT 2 yX5_isThere cX5_isThere 2 (some .boolean) [.ref 1, .int (nI k)] h (some (.int (bi False))) (h) := by
  refine CT.of (own := RX5) rfl (by decide) (ro_z _) [.ref 1, .int (nI k)] rfl (Nat.le_of_ble_eq_true rfl) (fun E hp => ?_)
  refine s_aload_n (pc := 0) 0 rfl rfl dX5_isThere_0 ?_
  refine s_iload_n (pc := 1) 1 rfl rfl dX5_isThere_1 ?_
  refine s_cvi1 (pc := 2) (c_X5_isNumber_1T hm hk) ml_X5_39 mw_X5_isNumber rfl (by decide) (Nat.le_of_ble_eq_true rfl) dX5_isThere_2 ?_
  refine s_if_eqT (pc := 5) 22 dX5_isThere_5 (by decide) ?_
  refine s_aload_n (pc := 8) 0 rfl rfl dX5_isThere_8 ?_
  refine s_getr (pc := 9) (b := 2) fl_X5_24 rfl rfl rfl dX5_isThere_9 ?_
  refine s_iload_n (pc := 12) 1 rfl rfl dX5_isThere_12 ?_
  refine s_ialdE (pc := 13) (_) rfl rfl (by omega) hz dX5_isThere_13 ?_
  refine s_iconst (pc := 14) (k_im1) dX5_isThere_14 ?_
  refine s_icmp_eq (pc := 15) 22 dX5_isThere_15 (by decide) (fun c_15 => ?_) (fun c_15 => ?_)
  · refine s_iconst (pc := 22) (k_i0N) dX5_isThere_22 ?_
    refine s_iret (pc := 23) dX5_isThere_23 (PostE.of hp ?_ ?_)
    · first | rfl | exact absurd rfl c_15
    · rfl
  · refine s_iconst (pc := 18) (k_i1N) dX5_isThere_18 ?_
    refine s_goto (pc := 19) 23 dX5_isThere_19 (by decide) ?_
    refine s_iret (pc := 23) dX5_isThere_23 (PostE.of hp ?_ ?_)
    · first | rfl | exact absurd rfl c_15
    · rfl

set_option maxRecDepth 20000 in
theorem c_X5_isPlace_1T {k m j : Nat} {h : Hp} (hm : h.1 1 0 = nI 6) (hk : k < 6) (hz : h.1 2 k = nI m) (hz6 : m ≤ 40) (hj : j < m) : CT 3 yX5_isPlace cX5_isPlace 3 (some .boolean) [.ref 1, .int (nI k), .int (nI j)] h (some (.int (bi True))) (h) := by
  refine CT.of (own := RX5) rfl (by decide) (ro_z _) [.ref 1, .int (nI k), .int (nI j)] rfl (Nat.le_of_ble_eq_true rfl) (fun E hp => ?_)
  refine s_aload_n (pc := 0) 0 rfl rfl dX5_isPlace_0 ?_
  refine s_iload_n (pc := 1) 1 rfl rfl dX5_isPlace_1 ?_
  refine s_cvi1 (pc := 2) (c_X5_isThere_1T hm hk hz (by omega)) ml_X5_43 mw_X5_isThere rfl (by decide) (Nat.le_of_ble_eq_true rfl) dX5_isPlace_2 ?_
  refine s_if_eqT (pc := 5) 26 dX5_isPlace_5 (by decide) ?_
  refine s_iload_n (pc := 8) 2 rfl rfl dX5_isPlace_8 ?_
  refine s_if_ltN (pc := 9) (by omega) 26 dX5_isPlace_9 (by decide) ?_
  refine s_iload_n (pc := 12) 2 rfl rfl dX5_isPlace_12 ?_
  refine s_aload_n (pc := 13) 0 rfl rfl dX5_isPlace_13 ?_
  refine s_getr (pc := 14) (b := 2) fl_X5_24 rfl rfl rfl dX5_isPlace_14 ?_
  refine s_iload_n (pc := 17) 1 rfl rfl dX5_isPlace_17 ?_
  refine s_ialdN (pc := 18) (_) rfl rfl (by omega) hz dX5_isPlace_18 ?_
  refine s_icmp_geN (pc := 19) (by omega) (by omega) 26 dX5_isPlace_19 (by decide) (fun c_19 => ?_) (fun c_19 => ?_)
  · refine s_iconst (pc := 26) (k_i0N) dX5_isPlace_26 ?_
    refine s_iret (pc := 27) dX5_isPlace_27 (PostE.of hp ?_ ?_)
    · first | rfl | (exfalso; omega)
    · first | rfl | (exfalso; omega)
  · refine s_iconst (pc := 22) (k_i1N) dX5_isPlace_22 ?_
    refine s_goto (pc := 23) 27 dX5_isPlace_23 (by decide) ?_
    refine s_iret (pc := 27) dX5_isPlace_27 (PostE.of hp ?_ ?_)
    · first | rfl | (exfalso; omega)
    · first | rfl | (exfalso; omega)

set_option maxRecDepth 20000 in
theorem c_X5_isPlace_1F {k m : Nat} {i : Int32} {h : Hp} (hm : h.1 1 0 = nI 6) (hk : k < 6) (hz : h.1 2 k = nI m) (hz6 : m ≤ 40) (hb : i < 0 ∨ nI m ≤ i) : CT 3 yX5_isPlace cX5_isPlace 3 (some .boolean) [.ref 1, .int (nI k), .int i] h (some (.int (bi False))) (h) := by
  refine CT.of (own := RX5) rfl (by decide) (ro_z _) [.ref 1, .int (nI k), .int i] rfl (Nat.le_of_ble_eq_true rfl) (fun E hp => ?_)
  refine s_aload_n (pc := 0) 0 rfl rfl dX5_isPlace_0 ?_
  refine s_iload_n (pc := 1) 1 rfl rfl dX5_isPlace_1 ?_
  refine s_cvi1 (pc := 2) (c_X5_isThere_1T hm hk hz (by omega)) ml_X5_43 mw_X5_isThere rfl (by decide) (Nat.le_of_ble_eq_true rfl) dX5_isPlace_2 ?_
  refine s_if_eqT (pc := 5) 26 dX5_isPlace_5 (by decide) ?_
  refine s_iload_n (pc := 8) 2 rfl rfl dX5_isPlace_8 ?_
  refine s_if_lt (pc := 9) 26 dX5_isPlace_9 (by decide) (fun c_9 => ?_) (fun c_9 => ?_)
  · refine s_iconst (pc := 26) (k_i0N) dX5_isPlace_26 ?_
    refine s_iret (pc := 27) dX5_isPlace_27 (PostE.of hp ?_ ?_)
    · first | rfl | exact (hb.elim c_9 c_19).elim
    · rfl
  · refine s_iload_n (pc := 12) 2 rfl rfl dX5_isPlace_12 ?_
    refine s_aload_n (pc := 13) 0 rfl rfl dX5_isPlace_13 ?_
    refine s_getr (pc := 14) (b := 2) fl_X5_24 rfl rfl rfl dX5_isPlace_14 ?_
    refine s_iload_n (pc := 17) 1 rfl rfl dX5_isPlace_17 ?_
    refine s_ialdN (pc := 18) (_) rfl rfl (by omega) hz dX5_isPlace_18 ?_
    refine s_icmp_ge (pc := 19) 26 dX5_isPlace_19 (by decide) (fun c_19 => ?_) (fun c_19 => ?_)
    · refine s_iconst (pc := 26) (k_i0N) dX5_isPlace_26 ?_
      refine s_iret (pc := 27) dX5_isPlace_27 (PostE.of hp ?_ ?_)
      · first | rfl | exact (hb.elim c_9 c_19).elim
      · rfl
    · refine s_iconst (pc := 22) (k_i1N) dX5_isPlace_22 ?_
      refine s_goto (pc := 23) 27 dX5_isPlace_23 (by decide) ?_
      refine s_iret (pc := 27) dX5_isPlace_27 (PostE.of hp ?_ ?_)
      · first | rfl | exact (hb.elim c_9 c_19).elim
      · rfl

set_option maxRecDepth 20000 in
theorem c_X5_hasPlaces_1T {k m f n : Nat} {h : Hp} (hm : h.1 1 0 = nI 6) (hk : k < 6) (hz : h.1 2 k = nI m) (hz6 : m ≤ 40) (hf : f + n ≤ m) : CT 3 yX5_hasPlaces cX5_hasPlaces 4 (some .boolean) [.ref 1, .int (nI k), .int (nI f), .int (nI n)] h (some (.int (bi True))) (h) := by
  refine CT.of (own := RX5) rfl (by decide) (ro_z _) [.ref 1, .int (nI k), .int (nI f), .int (nI n)] rfl (Nat.le_of_ble_eq_true rfl) (fun E hp => ?_)
  refine s_aload_n (pc := 0) 0 rfl rfl dX5_hasPlaces_0 ?_
  refine s_iload_n (pc := 1) 1 rfl rfl dX5_hasPlaces_1 ?_
  refine s_cvi1 (pc := 2) (c_X5_isThere_1T hm hk hz (by omega)) ml_X5_43 mw_X5_isThere rfl (by decide) (Nat.le_of_ble_eq_true rfl) dX5_hasPlaces_2 ?_
  refine s_if_eqT (pc := 5) 42 dX5_hasPlaces_5 (by decide) ?_
  refine s_iload_n (pc := 8) 2 rfl rfl dX5_hasPlaces_8 ?_
  refine s_if_ltN (pc := 9) (by omega) 42 dX5_hasPlaces_9 (by decide) ?_
  refine s_iload_n (pc := 12) 3 rfl rfl dX5_hasPlaces_12 ?_
  refine s_if_ltN (pc := 13) (by omega) 42 dX5_hasPlaces_13 (by decide) ?_
  refine s_iload_n (pc := 16) 2 rfl rfl dX5_hasPlaces_16 ?_
  refine s_aload_n (pc := 17) 0 rfl rfl dX5_hasPlaces_17 ?_
  refine s_getr (pc := 18) (b := 2) fl_X5_24 rfl rfl rfl dX5_hasPlaces_18 ?_
  refine s_iload_n (pc := 21) 1 rfl rfl dX5_hasPlaces_21 ?_
  refine s_ialdN (pc := 22) (_) rfl rfl (by omega) hz dX5_hasPlaces_22 ?_
  refine s_icmp_gtN (pc := 23) (by omega) (by omega) 42 dX5_hasPlaces_23 (by decide) (fun c_23 => ?_) (fun c_23 => ?_)
  · refine s_iconst (pc := 42) (k_i0N) dX5_hasPlaces_42 ?_
    refine s_iret (pc := 43) dX5_hasPlaces_43 (PostE.of hp ?_ ?_)
    · first | rfl | (exfalso; omega)
    · first | rfl | (exfalso; omega)
  · refine s_iload_n (pc := 26) 3 rfl rfl dX5_hasPlaces_26 ?_
    refine s_aload_n (pc := 27) 0 rfl rfl dX5_hasPlaces_27 ?_
    refine s_getr (pc := 28) (b := 2) fl_X5_24 rfl rfl rfl dX5_hasPlaces_28 ?_
    refine s_iload_n (pc := 31) 1 rfl rfl dX5_hasPlaces_31 ?_
    refine s_ialdN (pc := 32) (_) rfl rfl (by omega) hz dX5_hasPlaces_32 ?_
    refine s_iload_n (pc := 33) 2 rfl rfl dX5_hasPlaces_33 ?_
    refine s_isubN (pc := 34) (by omega) dX5_hasPlaces_34 ?_
    refine s_icmp_gtN (pc := 35) (by omega) (by omega) 42 dX5_hasPlaces_35 (by decide) (fun c_35 => ?_) (fun c_35 => ?_)
    · refine s_iconst (pc := 42) (k_i0N) dX5_hasPlaces_42 ?_
      refine s_iret (pc := 43) dX5_hasPlaces_43 (PostE.of hp ?_ ?_)
      · first | rfl | (exfalso; omega)
      · first | rfl | (exfalso; omega)
    · refine s_iconst (pc := 38) (k_i1N) dX5_hasPlaces_38 ?_
      refine s_goto (pc := 39) 43 dX5_hasPlaces_39 (by decide) ?_
      refine s_iret (pc := 43) dX5_hasPlaces_43 (PostE.of hp ?_ ?_)
      · first | rfl | (exfalso; omega)
      · first | rfl | (exfalso; omega)

set_option maxRecDepth 20000 in
theorem c_X5_hasPlaces_1F1 {k m n : Nat} {f : Int32} {h : Hp} (hm : h.1 1 0 = nI 6) (hk : k < 6) (hz : h.1 2 k = nI m) (hz6 : m ≤ 40) (hn : n < 2 ^ 31) (hf : f < 0 ∨ nI m < f) : CT 3 yX5_hasPlaces cX5_hasPlaces 4 (some .boolean) [.ref 1, .int (nI k), .int f, .int (nI n)] h (some (.int (bi False))) (h) := by
  refine CT.of (own := RX5) rfl (by decide) (ro_z _) [.ref 1, .int (nI k), .int f, .int (nI n)] rfl (Nat.le_of_ble_eq_true rfl) (fun E hp => ?_)
  refine s_aload_n (pc := 0) 0 rfl rfl dX5_hasPlaces_0 ?_
  refine s_iload_n (pc := 1) 1 rfl rfl dX5_hasPlaces_1 ?_
  refine s_cvi1 (pc := 2) (c_X5_isThere_1T hm hk hz (by omega)) ml_X5_43 mw_X5_isThere rfl (by decide) (Nat.le_of_ble_eq_true rfl) dX5_hasPlaces_2 ?_
  refine s_if_eqT (pc := 5) 42 dX5_hasPlaces_5 (by decide) ?_
  refine s_iload_n (pc := 8) 2 rfl rfl dX5_hasPlaces_8 ?_
  refine s_if_lt (pc := 9) 42 dX5_hasPlaces_9 (by decide) (fun c_9 => ?_) (fun c_9 => ?_)
  · refine s_iconst (pc := 42) (k_i0N) dX5_hasPlaces_42 ?_
    refine s_iret (pc := 43) dX5_hasPlaces_43 (PostE.of hp ?_ ?_)
    · rfl
    · rfl
  · refine s_iload_n (pc := 12) 3 rfl rfl dX5_hasPlaces_12 ?_
    refine s_if_ltN (pc := 13) (by omega) 42 dX5_hasPlaces_13 (by decide) ?_
    refine s_iload_n (pc := 16) 2 rfl rfl dX5_hasPlaces_16 ?_
    refine s_aload_n (pc := 17) 0 rfl rfl dX5_hasPlaces_17 ?_
    refine s_getr (pc := 18) (b := 2) fl_X5_24 rfl rfl rfl dX5_hasPlaces_18 ?_
    refine s_iload_n (pc := 21) 1 rfl rfl dX5_hasPlaces_21 ?_
    refine s_ialdN (pc := 22) (_) rfl rfl (by omega) hz dX5_hasPlaces_22 ?_
    refine s_icmp_gt (pc := 23) 42 dX5_hasPlaces_23 (by decide) (fun c_23 => ?_) (fun c_23 => ?_)
    · refine s_iconst (pc := 42) (k_i0N) dX5_hasPlaces_42 ?_
      refine s_iret (pc := 43) dX5_hasPlaces_43 (PostE.of hp ?_ ?_)
      · rfl
      · rfl
    · rcases hf with hf | hf
      · exact absurd hf c_9
      · exact absurd hf c_23

set_option maxRecDepth 20000 in
theorem c_X5_hasPlaces_1F2 {k m f n : Nat} {h : Hp} (hm : h.1 1 0 = nI 6) (hk : k < 6) (hz : h.1 2 k = nI m) (hz6 : m ≤ 40) (hn : n < 2 ^ 31) (hf : f ≤ m) (hc : m < f + n) : CT 3 yX5_hasPlaces cX5_hasPlaces 4 (some .boolean) [.ref 1, .int (nI k), .int (nI f), .int (nI n)] h (some (.int (bi False))) (h) := by
  refine CT.of (own := RX5) rfl (by decide) (ro_z _) [.ref 1, .int (nI k), .int (nI f), .int (nI n)] rfl (Nat.le_of_ble_eq_true rfl) (fun E hp => ?_)
  refine s_aload_n (pc := 0) 0 rfl rfl dX5_hasPlaces_0 ?_
  refine s_iload_n (pc := 1) 1 rfl rfl dX5_hasPlaces_1 ?_
  refine s_cvi1 (pc := 2) (c_X5_isThere_1T hm hk hz (by omega)) ml_X5_43 mw_X5_isThere rfl (by decide) (Nat.le_of_ble_eq_true rfl) dX5_hasPlaces_2 ?_
  refine s_if_eqT (pc := 5) 42 dX5_hasPlaces_5 (by decide) ?_
  refine s_iload_n (pc := 8) 2 rfl rfl dX5_hasPlaces_8 ?_
  refine s_if_ltN (pc := 9) (by omega) 42 dX5_hasPlaces_9 (by decide) ?_
  refine s_iload_n (pc := 12) 3 rfl rfl dX5_hasPlaces_12 ?_
  refine s_if_ltN (pc := 13) (by omega) 42 dX5_hasPlaces_13 (by decide) ?_
  refine s_iload_n (pc := 16) 2 rfl rfl dX5_hasPlaces_16 ?_
  refine s_aload_n (pc := 17) 0 rfl rfl dX5_hasPlaces_17 ?_
  refine s_getr (pc := 18) (b := 2) fl_X5_24 rfl rfl rfl dX5_hasPlaces_18 ?_
  refine s_iload_n (pc := 21) 1 rfl rfl dX5_hasPlaces_21 ?_
  refine s_ialdN (pc := 22) (_) rfl rfl (by omega) hz dX5_hasPlaces_22 ?_
  refine s_icmp_gtN (pc := 23) (by omega) (by omega) 42 dX5_hasPlaces_23 (by decide) (fun c_23 => ?_) (fun c_23 => ?_)
  · refine s_iconst (pc := 42) (k_i0N) dX5_hasPlaces_42 ?_
    refine s_iret (pc := 43) dX5_hasPlaces_43 (PostE.of hp ?_ ?_)
    · first | rfl | (exfalso; omega)
    · first | rfl | (exfalso; omega)
  · refine s_iload_n (pc := 26) 3 rfl rfl dX5_hasPlaces_26 ?_
    refine s_aload_n (pc := 27) 0 rfl rfl dX5_hasPlaces_27 ?_
    refine s_getr (pc := 28) (b := 2) fl_X5_24 rfl rfl rfl dX5_hasPlaces_28 ?_
    refine s_iload_n (pc := 31) 1 rfl rfl dX5_hasPlaces_31 ?_
    refine s_ialdN (pc := 32) (_) rfl rfl (by omega) hz dX5_hasPlaces_32 ?_
    refine s_iload_n (pc := 33) 2 rfl rfl dX5_hasPlaces_33 ?_
    refine s_isubN (pc := 34) (by omega) dX5_hasPlaces_34 ?_
    refine s_icmp_gtN (pc := 35) (by omega) (by omega) 42 dX5_hasPlaces_35 (by decide) (fun c_35 => ?_) (fun c_35 => ?_)
    · refine s_iconst (pc := 42) (k_i0N) dX5_hasPlaces_42 ?_
      refine s_iret (pc := 43) dX5_hasPlaces_43 (PostE.of hp ?_ ?_)
      · first | rfl | (exfalso; omega)
      · first | rfl | (exfalso; omega)
    · refine s_iconst (pc := 38) (k_i1N) dX5_hasPlaces_38 ?_
      refine s_goto (pc := 39) 43 dX5_hasPlaces_39 (by decide) ?_
      refine s_iret (pc := 43) dX5_hasPlaces_43 (PostE.of hp ?_ ?_)
      · first | rfl | (exfalso; omega)
      · first | rfl | (exfalso; omega)

set_option maxRecDepth 20000 in
theorem c_X5_get_1 {k m j : Nat} {o : Int32} {h : Hp} (hm : h.1 1 0 = nI 6) (hk : k < 6) (hz : h.1 2 k = nI m) (hz6 : m ≤ 40) (hj : j < m) : CT 4 yX5_get cX5_get 4 (some .int) [.ref 1, .int (nI k), .int (nI j), .int o] h (some (.int (h.1 (3 + 1 + k) j))) (h) := by
  refine CT.of (own := RX5) rfl (by decide) (ro_i _) [.ref 1, .int (nI k), .int (nI j), .int o] rfl (Nat.le_of_ble_eq_true rfl) (fun E hp => ?_)
  refine s_aload_n (pc := 0) 0 rfl rfl dX5_get_0 ?_
  refine s_iload_n (pc := 1) 1 rfl rfl dX5_get_1 ?_
  refine s_iload_n (pc := 2) 2 rfl rfl dX5_get_2 ?_
  refine s_cvi2 (pc := 3) (c_X5_isPlace_1T hm hk hz hz6 hj) ml_X5_46 mw_X5_isPlace rfl (by decide) (Nat.le_of_ble_eq_true rfl) dX5_get_3 ?_
  refine s_if_eqT (pc := 6) 20 dX5_get_6 (by decide) ?_
  refine s_aload_n (pc := 9) 0 rfl rfl dX5_get_9 ?_
  refine s_getr (pc := 10) (b := 3) fl_X5_30 rfl rfl rfl dX5_get_10 ?_
  refine s_iload_n (pc := 13) 1 rfl rfl dX5_get_13 ?_
  refine s_aald (pc := 14) (b := 3 + 1 + k) (_) rfl rfl (by omega) rfl dX5_get_14 ?_
  refine s_iload_n (pc := 15) 2 rfl rfl dX5_get_15 ?_
  refine s_iald (pc := 16) (_) (ly_1 k hk) rfl (by omega) dX5_get_16 ?_
  refine s_goto (pc := 17) 21 dX5_get_17 (by decide) ?_
  refine s_iret (pc := 21) dX5_get_21 (PostE.of hp ?_ ?_)
  · rfl
  · rfl

set_option maxRecDepth 20000 in
theorem c_X5_set_1 {k m j : Nat} {v : Int32} {h : Hp} (hm : h.1 1 0 = nI 6) (hk : k < 6) (hz : h.1 2 k = nI m) (hz6 : m ≤ 40) (hj : j < m) : CT 4 yX5_set cX5_set 4 none [.ref 1, .int (nI k), .int (nI j), .int v] h (none) (ui h (3 + 1 + k) j v) := by
  refine CT.of (own := RX5) rfl (by decide) ro_v [.ref 1, .int (nI k), .int (nI j), .int v] rfl (Nat.le_of_ble_eq_true rfl) (fun E hp => ?_)
  refine s_aload_n (pc := 0) 0 rfl rfl dX5_set_0 ?_
  refine s_iload_n (pc := 1) 1 rfl rfl dX5_set_1 ?_
  refine s_iload_n (pc := 2) 2 rfl rfl dX5_set_2 ?_
  refine s_cvi2 (pc := 3) (c_X5_isPlace_1T hm hk hz hz6 hj) ml_X5_46 mw_X5_isPlace rfl (by decide) (Nat.le_of_ble_eq_true rfl) dX5_set_3 ?_
  refine s_if_eqT (pc := 6) 18 dX5_set_6 (by decide) ?_
  refine s_aload_n (pc := 9) 0 rfl rfl dX5_set_9 ?_
  refine s_getr (pc := 10) (b := 3) fl_X5_30 rfl rfl rfl dX5_set_10 ?_
  refine s_iload_n (pc := 13) 1 rfl rfl dX5_set_13 ?_
  refine s_aald (pc := 14) (b := 3 + 1 + k) (_) rfl rfl (by omega) rfl dX5_set_14 ?_
  refine s_iload_n (pc := 15) 2 rfl rfl dX5_set_15 ?_
  refine s_iload_n (pc := 16) 3 rfl rfl dX5_set_16 ?_
  refine s_iast (pc := 17) (_) (ly_1 k hk) rfl (by omega) dX5_set_17 ?_
  refine s_vret (pc := 18) dX5_set_18 (PostE.of hp ?_ ?_)
  · rfl
  · rfl

set_option maxRecDepth 20000 in
theorem c_X5_make_1 {k n : Nat} {v : Int32} {h : Hp} (hm : h.1 1 0 = nI 6) (hq : h.1 1 1 = nI 40) (hk : k < 6) (hn : n ≤ 40) : CT 4 yX5_make cX5_make 4 none [.ref 1, .int (nI k), .int (nI n), .int v] h (none) (fil (ui h 2 k (nI n)) (3 + 1 + k) 0 40 v) := by
  refine CT.of (own := RX5) rfl (by decide) ro_v [.ref 1, .int (nI k), .int (nI n), .int v] rfl (Nat.le_of_ble_eq_true rfl) (fun E hp => ?_)
  refine s_aload_n (pc := 0) 0 rfl rfl dX5_make_0 ?_
  refine s_iload_n (pc := 1) 1 rfl rfl dX5_make_1 ?_
  refine s_cvi1 (pc := 2) (c_X5_isNumber_1T hm hk) ml_X5_39 mw_X5_isNumber rfl (by decide) (Nat.le_of_ble_eq_true rfl) dX5_make_2 ?_
  refine s_if_eqT (pc := 5) 37 dX5_make_5 (by decide) ?_
  refine s_iload_n (pc := 8) 2 rfl rfl dX5_make_8 ?_
  refine s_if_ltN (pc := 9) (by omega) 37 dX5_make_9 (by decide) ?_
  refine s_iload_n (pc := 12) 2 rfl rfl dX5_make_12 ?_
  refine s_aload_n (pc := 13) 0 rfl rfl dX5_make_13 ?_
  refine s_getiE (pc := 14) fl_X5_21 rfl rfl hq dX5_make_14 ?_
  refine s_icmp_gtN (pc := 17) (by omega) (by omega) 37 dX5_make_17 (by decide) (fun c_17 => ?_) (fun c_17 => ?_)
  · exfalso; omega
  · refine s_aload_n (pc := 20) 0 rfl rfl dX5_make_20 ?_
    refine s_getr (pc := 21) (b := 2) fl_X5_24 rfl rfl rfl dX5_make_21 ?_
    refine s_iload_n (pc := 24) 1 rfl rfl dX5_make_24 ?_
    refine s_iload_n (pc := 25) 2 rfl rfl dX5_make_25 ?_
    refine s_iast (pc := 26) (_) rfl rfl (by omega) dX5_make_26 ?_
    refine s_aload_n (pc := 27) 0 rfl rfl dX5_make_27 ?_
    refine s_getr (pc := 28) (b := 3) fl_X5_30 rfl rfl rfl dX5_make_28 ?_
    refine s_iload_n (pc := 31) 1 rfl rfl dX5_make_31 ?_
    refine s_aald (pc := 32) (b := 3 + 1 + k) (_) rfl rfl (by omega) rfl dX5_make_32 ?_
    refine s_iload_n (pc := 33) 3 rfl rfl dX5_make_33 ?_
    refine s_csn2 (pc := 34) (c_J7_fill_53178 (ly_1 k hk)) ml_X5_33 ms_J7_fill_53178 (by decide) (Nat.le_of_ble_eq_true rfl) dX5_make_34 ?_
    refine s_vret (pc := 37) dX5_make_37 (PostE.of hp ?_ ?_)
    · rfl
    · rfl

set_option maxRecDepth 20000 in
theorem c_X5_drop_1 {k : Nat} {h : Hp} (hm : h.1 1 0 = nI 6) (hk : k < 6) : CT 2 yX5_drop cX5_drop 2 none [.ref 1, .int (nI k)] h (none) (ui h 2 k (-1)) := by
  refine CT.of (own := RX5) rfl (by decide) ro_v [.ref 1, .int (nI k)] rfl (Nat.le_of_ble_eq_true rfl) (fun E hp => ?_)
  refine s_aload_n (pc := 0) 0 rfl rfl dX5_drop_0 ?_
  refine s_iload_n (pc := 1) 1 rfl rfl dX5_drop_1 ?_
  refine s_cvi1 (pc := 2) (c_X5_isNumber_1T hm hk) ml_X5_39 mw_X5_isNumber rfl (by decide) (Nat.le_of_ble_eq_true rfl) dX5_drop_2 ?_
  refine s_if_eqT (pc := 5) 15 dX5_drop_5 (by decide) ?_
  refine s_aload_n (pc := 8) 0 rfl rfl dX5_drop_8 ?_
  refine s_getr (pc := 9) (b := 2) fl_X5_24 rfl rfl rfl dX5_drop_9 ?_
  refine s_iload_n (pc := 12) 1 rfl rfl dX5_drop_12 ?_
  refine s_iconst (pc := 13) (k_im1) dX5_drop_13 ?_
  refine s_iast (pc := 14) (_) rfl rfl (by omega) dX5_drop_14 ?_
  refine s_vret (pc := 15) dX5_drop_15 (PostE.of hp ?_ ?_)
  · rfl
  · rfl

set_option maxRecDepth 20000 in
theorem c_X5_howMany_1 {h : Hp} (hm : h.1 1 0 = nI 6) : CT 1 yX5_howMany cX5_howMany 3 (some .int) [.ref 1] h (some (.int (nI (cnt 6 (fun s => decide (¬ h.1 2 s = -1)))))) (h) := by
  refine CT.of (own := RX5) rfl (by decide) (ro_i _) [.ref 1, .null, .null] rfl (Nat.le_of_ble_eq_true rfl) (fun E hp => ?_)
  refine s_iconst (pc := 0) (k_i0N) dX5_howMany_0 ?_
  refine s_istore_n (pc := 1) 1 rfl (by decide) rfl dX5_howMany_1 ?_
  refine s_iconst (pc := 2) (k_i0N) dX5_howMany_2 ?_
  refine s_istore_n (pc := 3) 2 rfl (by decide) rfl dX5_howMany_3 ?_
  suffices lp_4 : ∀ k, k ≤ 6 → WW E cX5_howMany RX5 3 _ 4 [.ref 1, .int (nI (cnt k (fun s => decide (¬ h.1 2 s = -1)))), .int (nI k)] (h) [] from lp_4 (0) (by omega)
  refine lpi (6) (fun k hk_k ih_4 => ?_)
  refine s_iload_n (pc := 4) 2 rfl rfl dX5_howMany_4 ?_
  refine s_aload_n (pc := 5) 0 rfl rfl dX5_howMany_5 ?_
  refine s_getiE (pc := 6) fl_X5_15 rfl rfl hm dX5_howMany_6 ?_
  refine s_icmp_geN (pc := 9) (by omega) (by omega) 36 dX5_howMany_9 (by decide) (fun c_9 => ?_) (fun c_9 => ?_)
  · obtain rfl : k = 6 := by omega
    refine s_iload_n (pc := 36) 1 rfl rfl dX5_howMany_36 ?_
    refine s_iret (pc := 37) dX5_howMany_37 (PostE.of hp ?_ ?_)
    · rfl
    · rfl
  · refine s_iload_n (pc := 12) 1 rfl rfl dX5_howMany_12 ?_
    refine s_aload_n (pc := 13) 0 rfl rfl dX5_howMany_13 ?_
    refine s_getr (pc := 14) (b := 2) fl_X5_24 rfl rfl rfl dX5_howMany_14 ?_
    refine s_iload_n (pc := 17) 2 rfl rfl dX5_howMany_17 ?_
    refine s_iald (pc := 18) (_) rfl rfl (by omega) dX5_howMany_18 ?_
    refine s_iconst (pc := 19) (k_im1) dX5_howMany_19 ?_
    refine s_icmp_ne (pc := 20) 27 dX5_howMany_20 (by decide) (fun c_20 => ?_) (fun c_20 => ?_)
    · refine s_iconst (pc := 27) (k_i1N) dX5_howMany_27 ?_
      refine s_iaddN (pc := 28) dX5_howMany_28 ?_
      first | rw [cnt_t (p := (fun s => decide (¬ h.1 2 s = -1))) (by simp only [decide_eq_true_eq]; exact c_20)] | rw [cnt_f (p := (fun s => decide (¬ h.1 2 s = -1))) (by simp only [decide_eq_true_eq]; exact fun q => q c_20)]
      refine s_istore_n (pc := 29) 1 rfl (by decide) rfl dX5_howMany_29 ?_
      refine s_iincN (pc := 30) rfl (by decide) rfl dX5_howMany_30 ?_
      refine s_goto (pc := 33) 4 dX5_howMany_33 (by decide) ?_
      exact ih_4 (by omega)
    · refine s_iconst (pc := 23) (k_i0N) dX5_howMany_23 ?_
      refine s_goto (pc := 24) 28 dX5_howMany_24 (by decide) ?_
      refine s_iaddN (pc := 28) dX5_howMany_28 ?_
      first | rw [cnt_t (p := (fun s => decide (¬ h.1 2 s = -1))) (by simp only [decide_eq_true_eq]; exact c_20)] | rw [cnt_f (p := (fun s => decide (¬ h.1 2 s = -1))) (by simp only [decide_eq_true_eq]; exact fun q => q c_20)]
      refine s_istore_n (pc := 29) 1 rfl (by decide) rfl dX5_howMany_29 ?_
      refine s_iincN (pc := 30) rfl (by decide) rfl dX5_howMany_30 ?_
      refine s_goto (pc := 33) 4 dX5_howMany_33 (by decide) ?_
      exact ih_4 (by omega)

set_option maxRecDepth 20000 in
theorem c_X5_digestFrom_1 {n : Nat → Nat} {g : Int64} {h : Hp} (hm : h.1 1 0 = nI 6) (hz : ∀ s, s < 6 → Sz (h.1 2 s) (n s)) (hn : ∀ s, s < 6 → n s ≤ 40) : CT 1 yX5_digestFrom cX5_digestFrom 7 (some .long) [.ref 1, .long g] h (some (.long (dgS (h.1 2) n (fun s => h.1 (3 + 1 + s)) g 6))) (h) := by
  refine CT.of (own := RX5) rfl (by decide) (ro_l _) [.ref 1, .long g, .null, .null, .null, .null, .null] rfl (Nat.le_of_ble_eq_true rfl) (fun E hp => ?_)
  refine s_lload_n (pc := 0) 1 rfl rfl dX5_digestFrom_0 ?_
  refine s_lstore_n (pc := 1) 3 rfl (by decide) rfl dX5_digestFrom_1 ?_
  refine s_iconst (pc := 2) (k_i0N) dX5_digestFrom_2 ?_
  refine s_istore (pc := 3) (by decide) rfl dX5_digestFrom_3 ?_
  suffices lp_5 : ∀ k, k ≤ 6 → ∀ zz, WW E cX5_digestFrom RX5 7 _ 5 [.ref 1, .long g, .null, .long (dgS (h.1 2) n (fun s => h.1 (3 + 1 + s)) g k), .null, .int (nI k), zz] (h) [] from lp_5 0 (by omega) _
  refine lpi 6 (fun k hk_k ih_5 => ?_)
  intro zz
  refine s_iload (pc := 5) rfl dX5_digestFrom_5 ?_
  refine s_aload_n (pc := 7) 0 rfl rfl dX5_digestFrom_7 ?_
  refine s_getiE (pc := 8) fl_X5_15 rfl rfl hm dX5_digestFrom_8 ?_
  refine s_icmp_geN (pc := 11) (by omega) (by omega) 74 dX5_digestFrom_11 (by decide) (fun c_11 => ?_) (fun c_11 => ?_)
  · obtain rfl : k = 6 := by omega
    refine s_lload_n (pc := 74) 3 rfl rfl dX5_digestFrom_74 ?_
    refine s_lret (pc := 75) dX5_digestFrom_75 (PostE.of hp ?_ ?_)
    · rfl
    · rfl
  · refine s_ldc2 (pc := 14) _ lc_X5_50 dX5_digestFrom_14 ?_
    refine s_lload_n (pc := 17) 3 rfl rfl dX5_digestFrom_17 ?_
    refine s_lmul (pc := 18) dX5_digestFrom_18 ?_
    refine s_aload_n (pc := 19) 0 rfl rfl dX5_digestFrom_19 ?_
    refine s_getr (pc := 20) (b := 2) fl_X5_24 rfl rfl rfl dX5_digestFrom_20 ?_
    refine s_iload (pc := 23) rfl dX5_digestFrom_23 ?_
    refine s_iald (pc := 25) (_) rfl rfl (by omega) dX5_digestFrom_25 ?_
    refine s_i2l (pc := 26) dX5_digestFrom_26 ?_
    refine s_ladd (pc := 27) dX5_digestFrom_27 ?_
    refine s_lstore_n (pc := 28) 3 rfl (by decide) rfl dX5_digestFrom_28 ?_
    refine s_iconst (pc := 29) (k_i0N) dX5_digestFrom_29 ?_
    refine s_istore (pc := 30) (by decide) rfl dX5_digestFrom_30 ?_
    suffices lp_32 : ∀ j, j ≤ n k → WW E cX5_digestFrom RX5 7 _ 32 [.ref 1, .long g, .null, .long (dgI (h.1 (3 + 1 + k)) (31 * dgS (h.1 2) n (fun s => h.1 (3 + 1 + s)) g k + (h.1 2 k).toInt64) j), .null, .int (nI k), .int (nI j)] (h) [] from lp_32 (0) (by omega)
    refine lpi (n k) (fun j hk_j ih_32 => ?_)
    refine s_iload (pc := 32) rfl dX5_digestFrom_32 ?_
    refine s_aload_n (pc := 34) 0 rfl rfl dX5_digestFrom_34 ?_
    refine s_getr (pc := 35) (b := 2) fl_X5_24 rfl rfl rfl dX5_digestFrom_35 ?_
    refine s_iload (pc := 38) rfl dX5_digestFrom_38 ?_
    refine s_iald (pc := 40) (_) rfl rfl (by omega) dX5_digestFrom_40 ?_
    refine s_icmp_ge (pc := 41) 68 dX5_digestFrom_41 (by decide) (fun c_41 => ?_) (fun c_41 => ?_)
    · obtain rfl : j = n k := by have := ((hz k (by omega)).le (by have := hn k (by omega); omega)).mp c_41; omega
      refine s_iincN (pc := 68) rfl (by decide) rfl dX5_digestFrom_68 ?_
      refine s_goto (pc := 71) 5 dX5_digestFrom_71 (by decide) ?_
      exact ih_5 (by omega) _
    · have q41 : j < n k := Nat.lt_of_not_le (fun z => c_41 (((hz k (by omega)).le (by have := hn k (by omega); omega)).mpr z))
      have q42 := hn k (by omega)
      refine s_ldc2 (pc := 44) _ lc_X5_50 dX5_digestFrom_44 ?_
      refine s_lload_n (pc := 47) 3 rfl rfl dX5_digestFrom_47 ?_
      refine s_lmul (pc := 48) dX5_digestFrom_48 ?_
      refine s_aload_n (pc := 49) 0 rfl rfl dX5_digestFrom_49 ?_
      refine s_getr (pc := 50) (b := 3) fl_X5_30 rfl rfl rfl dX5_digestFrom_50 ?_
      refine s_iload (pc := 53) rfl dX5_digestFrom_53 ?_
      refine s_aald (pc := 55) (b := 3 + 1 + k) (_) rfl rfl (by omega) rfl dX5_digestFrom_55 ?_
      refine s_iload (pc := 56) rfl dX5_digestFrom_56 ?_
      refine s_iald (pc := 58) (_) (ly_1 k (by omega)) rfl (by omega) dX5_digestFrom_58 ?_
      refine s_i2l (pc := 59) dX5_digestFrom_59 ?_
      refine s_ladd (pc := 60) dX5_digestFrom_60 ?_
      refine s_lstore_n (pc := 61) 3 rfl (by decide) rfl dX5_digestFrom_61 ?_
      refine s_iincN (pc := 62) rfl (by decide) rfl dX5_digestFrom_62 ?_
      refine s_goto (pc := 65) 32 dX5_digestFrom_65 (by decide) ?_
      exact ih_32 (by omega)

set_option maxRecDepth 20000 in
theorem c_X5_isNumber_10T {k : Nat} {h : Hp} (hm : h.1 10 0 = nI 4) (hk : k < 4) : CT 1 yX5_isNumber cX5_isNumber 2 (some .boolean) [.ref 10, .int (nI k)] h (some (.int (bi True))) (h) := by
  refine CT.of (own := RX5) rfl (by decide) (ro_z _) [.ref 10, .int (nI k)] rfl (Nat.le_of_ble_eq_true rfl) (fun E hp => ?_)
  refine s_iload_n (pc := 0) 1 rfl rfl dX5_isNumber_0 ?_
  refine s_if_ltN (pc := 1) (by omega) 16 dX5_isNumber_1 (by decide) ?_
  refine s_iload_n (pc := 4) 1 rfl rfl dX5_isNumber_4 ?_
  refine s_aload_n (pc := 5) 0 rfl rfl dX5_isNumber_5 ?_
  refine s_getiE (pc := 6) fl_X5_15 rfl rfl hm dX5_isNumber_6 ?_
  refine s_icmp_geN (pc := 9) (by omega) (by omega) 16 dX5_isNumber_9 (by decide) (fun c_9 => ?_) (fun c_9 => ?_)
  · refine s_iconst (pc := 16) (k_i0N) dX5_isNumber_16 ?_
    refine s_iret (pc := 17) dX5_isNumber_17 (PostE.of hp ?_ ?_)
    · first | rfl | (exfalso; omega)
    · first | rfl | (exfalso; omega)
  · refine s_iconst (pc := 12) (k_i1N) dX5_isNumber_12 ?_
    refine s_goto (pc := 13) 17 dX5_isNumber_13 (by decide) ?_
    refine s_iret (pc := 17) dX5_isNumber_17 (PostE.of hp ?_ ?_)
    · first | rfl | (exfalso; omega)
    · first | rfl | (exfalso; omega)

set_option maxRecDepth 20000 in
theorem c_X5_isNumber_10F {s : Int32} {h : Hp} (hm : h.1 10 0 = nI 4) (hb : s < 0 ∨ nI 4 ≤ s) : CT 1 yX5_isNumber cX5_isNumber 2 (some .boolean) [.ref 10, .int s] h (some (.int (bi False))) (h) := by
  refine CT.of (own := RX5) rfl (by decide) (ro_z _) [.ref 10, .int s] rfl (Nat.le_of_ble_eq_true rfl) (fun E hp => ?_)
  refine s_iload_n (pc := 0) 1 rfl rfl dX5_isNumber_0 ?_
  refine s_if_lt (pc := 1) 16 dX5_isNumber_1 (by decide) (fun c_1 => ?_) (fun c_1 => ?_)
  · refine s_iconst (pc := 16) (k_i0N) dX5_isNumber_16 ?_
    refine s_iret (pc := 17) dX5_isNumber_17 (PostE.of hp ?_ ?_)
    · first | rfl | exact (hb.elim c_1 c_9).elim
    · rfl
  · refine s_iload_n (pc := 4) 1 rfl rfl dX5_isNumber_4 ?_
    refine s_aload_n (pc := 5) 0 rfl rfl dX5_isNumber_5 ?_
    refine s_getiE (pc := 6) fl_X5_15 rfl rfl hm dX5_isNumber_6 ?_
    refine s_icmp_ge (pc := 9) 16 dX5_isNumber_9 (by decide) (fun c_9 => ?_) (fun c_9 => ?_)
    · refine s_iconst (pc := 16) (k_i0N) dX5_isNumber_16 ?_
      refine s_iret (pc := 17) dX5_isNumber_17 (PostE.of hp ?_ ?_)
      · first | rfl | exact (hb.elim c_1 c_9).elim
      · rfl
    · refine s_iconst (pc := 12) (k_i1N) dX5_isNumber_12 ?_
      refine s_goto (pc := 13) 17 dX5_isNumber_13 (by decide) ?_
      refine s_iret (pc := 17) dX5_isNumber_17 (PostE.of hp ?_ ?_)
      · first | rfl | exact (hb.elim c_1 c_9).elim
      · rfl

set_option maxRecDepth 20000 in
theorem c_X5_isThere_10T {k m : Nat} {h : Hp} (hm : h.1 10 0 = nI 4) (hk : k < 4) (hz : h.1 11 k = nI m) (hz6 : m ≤ 60) : CT 2 yX5_isThere cX5_isThere 2 (some .boolean) [.ref 10, .int (nI k)] h (some (.int (bi True))) (h) := by
  refine CT.of (own := RX5) rfl (by decide) (ro_z _) [.ref 10, .int (nI k)] rfl (Nat.le_of_ble_eq_true rfl) (fun E hp => ?_)
  refine s_aload_n (pc := 0) 0 rfl rfl dX5_isThere_0 ?_
  refine s_iload_n (pc := 1) 1 rfl rfl dX5_isThere_1 ?_
  refine s_cvi1 (pc := 2) (c_X5_isNumber_10T hm hk) ml_X5_39 mw_X5_isNumber rfl (by decide) (Nat.le_of_ble_eq_true rfl) dX5_isThere_2 ?_
  refine s_if_eqT (pc := 5) 22 dX5_isThere_5 (by decide) ?_
  refine s_aload_n (pc := 8) 0 rfl rfl dX5_isThere_8 ?_
  refine s_getr (pc := 9) (b := 11) fl_X5_24 rfl rfl rfl dX5_isThere_9 ?_
  refine s_iload_n (pc := 12) 1 rfl rfl dX5_isThere_12 ?_
  refine s_ialdE (pc := 13) (_) rfl rfl (by omega) hz dX5_isThere_13 ?_
  refine s_iconst (pc := 14) (k_im1) dX5_isThere_14 ?_
  refine s_icmp_eq (pc := 15) 22 dX5_isThere_15 (by decide) (fun c_15 => ?_) (fun c_15 => ?_)
  · refine s_iconst (pc := 22) (k_i0N) dX5_isThere_22 ?_
    refine s_iret (pc := 23) dX5_isThere_23 (PostE.of hp ?_ ?_)
    · first | rfl | exact absurd c_15 (nI_ne_m1 (by omega))
    · rfl
  · refine s_iconst (pc := 18) (k_i1N) dX5_isThere_18 ?_
    refine s_goto (pc := 19) 23 dX5_isThere_19 (by decide) ?_
    refine s_iret (pc := 23) dX5_isThere_23 (PostE.of hp ?_ ?_)
    · first | rfl | exact absurd c_15 (nI_ne_m1 (by omega))
    · rfl

set_option maxRecDepth 20000 in
theorem c_X5_isThere_10F {k : Nat} {h : Hp} (hm : h.1 10 0 = nI 4) (hk : k < 4) (hz : h.1 11 k = -1) : CT 2 yX5_isThere cX5_isThere 2 (some .boolean) [.ref 10, .int (nI k)] h (some (.int (bi False))) (h) := by
  refine CT.of (own := RX5) rfl (by decide) (ro_z _) [.ref 10, .int (nI k)] rfl (Nat.le_of_ble_eq_true rfl) (fun E hp => ?_)
  refine s_aload_n (pc := 0) 0 rfl rfl dX5_isThere_0 ?_
  refine s_iload_n (pc := 1) 1 rfl rfl dX5_isThere_1 ?_
  refine s_cvi1 (pc := 2) (c_X5_isNumber_10T hm hk) ml_X5_39 mw_X5_isNumber rfl (by decide) (Nat.le_of_ble_eq_true rfl) dX5_isThere_2 ?_
  refine s_if_eqT (pc := 5) 22 dX5_isThere_5 (by decide) ?_
  refine s_aload_n (pc := 8) 0 rfl rfl dX5_isThere_8 ?_
  refine s_getr (pc := 9) (b := 11) fl_X5_24 rfl rfl rfl dX5_isThere_9 ?_
  refine s_iload_n (pc := 12) 1 rfl rfl dX5_isThere_12 ?_
  refine s_ialdE (pc := 13) (_) rfl rfl (by omega) hz dX5_isThere_13 ?_
  refine s_iconst (pc := 14) (k_im1) dX5_isThere_14 ?_
  refine s_icmp_eq (pc := 15) 22 dX5_isThere_15 (by decide) (fun c_15 => ?_) (fun c_15 => ?_)
  · refine s_iconst (pc := 22) (k_i0N) dX5_isThere_22 ?_
    refine s_iret (pc := 23) dX5_isThere_23 (PostE.of hp ?_ ?_)
    · first | rfl | exact absurd rfl c_15
    · rfl
  · refine s_iconst (pc := 18) (k_i1N) dX5_isThere_18 ?_
    refine s_goto (pc := 19) 23 dX5_isThere_19 (by decide) ?_
    refine s_iret (pc := 23) dX5_isThere_23 (PostE.of hp ?_ ?_)
    · first | rfl | exact absurd rfl c_15
    · rfl

set_option maxRecDepth 20000 in
theorem c_X5_isPlace_10T {k m j : Nat} {h : Hp} (hm : h.1 10 0 = nI 4) (hk : k < 4) (hz : h.1 11 k = nI m) (hz6 : m ≤ 60) (hj : j < m) : CT 3 yX5_isPlace cX5_isPlace 3 (some .boolean) [.ref 10, .int (nI k), .int (nI j)] h (some (.int (bi True))) (h) := by
  refine CT.of (own := RX5) rfl (by decide) (ro_z _) [.ref 10, .int (nI k), .int (nI j)] rfl (Nat.le_of_ble_eq_true rfl) (fun E hp => ?_)
  refine s_aload_n (pc := 0) 0 rfl rfl dX5_isPlace_0 ?_
  refine s_iload_n (pc := 1) 1 rfl rfl dX5_isPlace_1 ?_
  refine s_cvi1 (pc := 2) (c_X5_isThere_10T hm hk hz (by omega)) ml_X5_43 mw_X5_isThere rfl (by decide) (Nat.le_of_ble_eq_true rfl) dX5_isPlace_2 ?_
  refine s_if_eqT (pc := 5) 26 dX5_isPlace_5 (by decide) ?_
  refine s_iload_n (pc := 8) 2 rfl rfl dX5_isPlace_8 ?_
  refine s_if_ltN (pc := 9) (by omega) 26 dX5_isPlace_9 (by decide) ?_
  refine s_iload_n (pc := 12) 2 rfl rfl dX5_isPlace_12 ?_
  refine s_aload_n (pc := 13) 0 rfl rfl dX5_isPlace_13 ?_
  refine s_getr (pc := 14) (b := 11) fl_X5_24 rfl rfl rfl dX5_isPlace_14 ?_
  refine s_iload_n (pc := 17) 1 rfl rfl dX5_isPlace_17 ?_
  refine s_ialdN (pc := 18) (_) rfl rfl (by omega) hz dX5_isPlace_18 ?_
  refine s_icmp_geN (pc := 19) (by omega) (by omega) 26 dX5_isPlace_19 (by decide) (fun c_19 => ?_) (fun c_19 => ?_)
  · refine s_iconst (pc := 26) (k_i0N) dX5_isPlace_26 ?_
    refine s_iret (pc := 27) dX5_isPlace_27 (PostE.of hp ?_ ?_)
    · first | rfl | (exfalso; omega)
    · first | rfl | (exfalso; omega)
  · refine s_iconst (pc := 22) (k_i1N) dX5_isPlace_22 ?_
    refine s_goto (pc := 23) 27 dX5_isPlace_23 (by decide) ?_
    refine s_iret (pc := 27) dX5_isPlace_27 (PostE.of hp ?_ ?_)
    · first | rfl | (exfalso; omega)
    · first | rfl | (exfalso; omega)

set_option maxRecDepth 20000 in
theorem c_X5_isPlace_10F {k m : Nat} {i : Int32} {h : Hp} (hm : h.1 10 0 = nI 4) (hk : k < 4) (hz : h.1 11 k = nI m) (hz6 : m ≤ 60) (hb : i < 0 ∨ nI m ≤ i) : CT 3 yX5_isPlace cX5_isPlace 3 (some .boolean) [.ref 10, .int (nI k), .int i] h (some (.int (bi False))) (h) := by
  refine CT.of (own := RX5) rfl (by decide) (ro_z _) [.ref 10, .int (nI k), .int i] rfl (Nat.le_of_ble_eq_true rfl) (fun E hp => ?_)
  refine s_aload_n (pc := 0) 0 rfl rfl dX5_isPlace_0 ?_
  refine s_iload_n (pc := 1) 1 rfl rfl dX5_isPlace_1 ?_
  refine s_cvi1 (pc := 2) (c_X5_isThere_10T hm hk hz (by omega)) ml_X5_43 mw_X5_isThere rfl (by decide) (Nat.le_of_ble_eq_true rfl) dX5_isPlace_2 ?_
  refine s_if_eqT (pc := 5) 26 dX5_isPlace_5 (by decide) ?_
  refine s_iload_n (pc := 8) 2 rfl rfl dX5_isPlace_8 ?_
  refine s_if_lt (pc := 9) 26 dX5_isPlace_9 (by decide) (fun c_9 => ?_) (fun c_9 => ?_)
  · refine s_iconst (pc := 26) (k_i0N) dX5_isPlace_26 ?_
    refine s_iret (pc := 27) dX5_isPlace_27 (PostE.of hp ?_ ?_)
    · first | rfl | exact (hb.elim c_9 c_19).elim
    · rfl
  · refine s_iload_n (pc := 12) 2 rfl rfl dX5_isPlace_12 ?_
    refine s_aload_n (pc := 13) 0 rfl rfl dX5_isPlace_13 ?_
    refine s_getr (pc := 14) (b := 11) fl_X5_24 rfl rfl rfl dX5_isPlace_14 ?_
    refine s_iload_n (pc := 17) 1 rfl rfl dX5_isPlace_17 ?_
    refine s_ialdN (pc := 18) (_) rfl rfl (by omega) hz dX5_isPlace_18 ?_
    refine s_icmp_ge (pc := 19) 26 dX5_isPlace_19 (by decide) (fun c_19 => ?_) (fun c_19 => ?_)
    · refine s_iconst (pc := 26) (k_i0N) dX5_isPlace_26 ?_
      refine s_iret (pc := 27) dX5_isPlace_27 (PostE.of hp ?_ ?_)
      · first | rfl | exact (hb.elim c_9 c_19).elim
      · rfl
    · refine s_iconst (pc := 22) (k_i1N) dX5_isPlace_22 ?_
      refine s_goto (pc := 23) 27 dX5_isPlace_23 (by decide) ?_
      refine s_iret (pc := 27) dX5_isPlace_27 (PostE.of hp ?_ ?_)
      · first | rfl | exact (hb.elim c_9 c_19).elim
      · rfl

set_option maxRecDepth 20000 in
theorem c_X5_get_10 {k m j : Nat} {o : Int32} {h : Hp} (hm : h.1 10 0 = nI 4) (hk : k < 4) (hz : h.1 11 k = nI m) (hz6 : m ≤ 60) (hj : j < m) : CT 4 yX5_get cX5_get 4 (some .int) [.ref 10, .int (nI k), .int (nI j), .int o] h (some (.int (h.1 (12 + 1 + k) j))) (h) := by
  refine CT.of (own := RX5) rfl (by decide) (ro_i _) [.ref 10, .int (nI k), .int (nI j), .int o] rfl (Nat.le_of_ble_eq_true rfl) (fun E hp => ?_)
  refine s_aload_n (pc := 0) 0 rfl rfl dX5_get_0 ?_
  refine s_iload_n (pc := 1) 1 rfl rfl dX5_get_1 ?_
  refine s_iload_n (pc := 2) 2 rfl rfl dX5_get_2 ?_
  refine s_cvi2 (pc := 3) (c_X5_isPlace_10T hm hk hz hz6 hj) ml_X5_46 mw_X5_isPlace rfl (by decide) (Nat.le_of_ble_eq_true rfl) dX5_get_3 ?_
  refine s_if_eqT (pc := 6) 20 dX5_get_6 (by decide) ?_
  refine s_aload_n (pc := 9) 0 rfl rfl dX5_get_9 ?_
  refine s_getr (pc := 10) (b := 12) fl_X5_30 rfl rfl rfl dX5_get_10 ?_
  refine s_iload_n (pc := 13) 1 rfl rfl dX5_get_13 ?_
  refine s_aald (pc := 14) (b := 12 + 1 + k) (_) rfl rfl (by omega) rfl dX5_get_14 ?_
  refine s_iload_n (pc := 15) 2 rfl rfl dX5_get_15 ?_
  refine s_iald (pc := 16) (_) (ly_10 k hk) rfl (by omega) dX5_get_16 ?_
  refine s_goto (pc := 17) 21 dX5_get_17 (by decide) ?_
  refine s_iret (pc := 21) dX5_get_21 (PostE.of hp ?_ ?_)
  · rfl
  · rfl

set_option maxRecDepth 20000 in
theorem c_X5_set_10 {k m j : Nat} {v : Int32} {h : Hp} (hm : h.1 10 0 = nI 4) (hk : k < 4) (hz : h.1 11 k = nI m) (hz6 : m ≤ 60) (hj : j < m) : CT 4 yX5_set cX5_set 4 none [.ref 10, .int (nI k), .int (nI j), .int v] h (none) (ui h (12 + 1 + k) j v) := by
  refine CT.of (own := RX5) rfl (by decide) ro_v [.ref 10, .int (nI k), .int (nI j), .int v] rfl (Nat.le_of_ble_eq_true rfl) (fun E hp => ?_)
  refine s_aload_n (pc := 0) 0 rfl rfl dX5_set_0 ?_
  refine s_iload_n (pc := 1) 1 rfl rfl dX5_set_1 ?_
  refine s_iload_n (pc := 2) 2 rfl rfl dX5_set_2 ?_
  refine s_cvi2 (pc := 3) (c_X5_isPlace_10T hm hk hz hz6 hj) ml_X5_46 mw_X5_isPlace rfl (by decide) (Nat.le_of_ble_eq_true rfl) dX5_set_3 ?_
  refine s_if_eqT (pc := 6) 18 dX5_set_6 (by decide) ?_
  refine s_aload_n (pc := 9) 0 rfl rfl dX5_set_9 ?_
  refine s_getr (pc := 10) (b := 12) fl_X5_30 rfl rfl rfl dX5_set_10 ?_
  refine s_iload_n (pc := 13) 1 rfl rfl dX5_set_13 ?_
  refine s_aald (pc := 14) (b := 12 + 1 + k) (_) rfl rfl (by omega) rfl dX5_set_14 ?_
  refine s_iload_n (pc := 15) 2 rfl rfl dX5_set_15 ?_
  refine s_iload_n (pc := 16) 3 rfl rfl dX5_set_16 ?_
  refine s_iast (pc := 17) (_) (ly_10 k hk) rfl (by omega) dX5_set_17 ?_
  refine s_vret (pc := 18) dX5_set_18 (PostE.of hp ?_ ?_)
  · rfl
  · rfl

set_option maxRecDepth 20000 in
theorem c_X5_make_10 {k n : Nat} {v : Int32} {h : Hp} (hm : h.1 10 0 = nI 4) (hq : h.1 10 1 = nI 60) (hk : k < 4) (hn : n ≤ 60) : CT 4 yX5_make cX5_make 4 none [.ref 10, .int (nI k), .int (nI n), .int v] h (none) (fil (ui h 11 k (nI n)) (12 + 1 + k) 0 60 v) := by
  refine CT.of (own := RX5) rfl (by decide) ro_v [.ref 10, .int (nI k), .int (nI n), .int v] rfl (Nat.le_of_ble_eq_true rfl) (fun E hp => ?_)
  refine s_aload_n (pc := 0) 0 rfl rfl dX5_make_0 ?_
  refine s_iload_n (pc := 1) 1 rfl rfl dX5_make_1 ?_
  refine s_cvi1 (pc := 2) (c_X5_isNumber_10T hm hk) ml_X5_39 mw_X5_isNumber rfl (by decide) (Nat.le_of_ble_eq_true rfl) dX5_make_2 ?_
  refine s_if_eqT (pc := 5) 37 dX5_make_5 (by decide) ?_
  refine s_iload_n (pc := 8) 2 rfl rfl dX5_make_8 ?_
  refine s_if_ltN (pc := 9) (by omega) 37 dX5_make_9 (by decide) ?_
  refine s_iload_n (pc := 12) 2 rfl rfl dX5_make_12 ?_
  refine s_aload_n (pc := 13) 0 rfl rfl dX5_make_13 ?_
  refine s_getiE (pc := 14) fl_X5_21 rfl rfl hq dX5_make_14 ?_
  refine s_icmp_gtN (pc := 17) (by omega) (by omega) 37 dX5_make_17 (by decide) (fun c_17 => ?_) (fun c_17 => ?_)
  · exfalso; omega
  · refine s_aload_n (pc := 20) 0 rfl rfl dX5_make_20 ?_
    refine s_getr (pc := 21) (b := 11) fl_X5_24 rfl rfl rfl dX5_make_21 ?_
    refine s_iload_n (pc := 24) 1 rfl rfl dX5_make_24 ?_
    refine s_iload_n (pc := 25) 2 rfl rfl dX5_make_25 ?_
    refine s_iast (pc := 26) (_) rfl rfl (by omega) dX5_make_26 ?_
    refine s_aload_n (pc := 27) 0 rfl rfl dX5_make_27 ?_
    refine s_getr (pc := 28) (b := 12) fl_X5_30 rfl rfl rfl dX5_make_28 ?_
    refine s_iload_n (pc := 31) 1 rfl rfl dX5_make_31 ?_
    refine s_aald (pc := 32) (b := 12 + 1 + k) (_) rfl rfl (by omega) rfl dX5_make_32 ?_
    refine s_iload_n (pc := 33) 3 rfl rfl dX5_make_33 ?_
    refine s_csn2 (pc := 34) (c_J7_fill_53178 (ly_10 k hk)) ml_X5_33 ms_J7_fill_53178 (by decide) (Nat.le_of_ble_eq_true rfl) dX5_make_34 ?_
    refine s_vret (pc := 37) dX5_make_37 (PostE.of hp ?_ ?_)
    · rfl
    · rfl

set_option maxRecDepth 20000 in
theorem c_X5_drop_10 {k : Nat} {h : Hp} (hm : h.1 10 0 = nI 4) (hk : k < 4) : CT 2 yX5_drop cX5_drop 2 none [.ref 10, .int (nI k)] h (none) (ui h 11 k (-1)) := by
  refine CT.of (own := RX5) rfl (by decide) ro_v [.ref 10, .int (nI k)] rfl (Nat.le_of_ble_eq_true rfl) (fun E hp => ?_)
  refine s_aload_n (pc := 0) 0 rfl rfl dX5_drop_0 ?_
  refine s_iload_n (pc := 1) 1 rfl rfl dX5_drop_1 ?_
  refine s_cvi1 (pc := 2) (c_X5_isNumber_10T hm hk) ml_X5_39 mw_X5_isNumber rfl (by decide) (Nat.le_of_ble_eq_true rfl) dX5_drop_2 ?_
  refine s_if_eqT (pc := 5) 15 dX5_drop_5 (by decide) ?_
  refine s_aload_n (pc := 8) 0 rfl rfl dX5_drop_8 ?_
  refine s_getr (pc := 9) (b := 11) fl_X5_24 rfl rfl rfl dX5_drop_9 ?_
  refine s_iload_n (pc := 12) 1 rfl rfl dX5_drop_12 ?_
  refine s_iconst (pc := 13) (k_im1) dX5_drop_13 ?_
  refine s_iast (pc := 14) (_) rfl rfl (by omega) dX5_drop_14 ?_
  refine s_vret (pc := 15) dX5_drop_15 (PostE.of hp ?_ ?_)
  · rfl
  · rfl

set_option maxRecDepth 20000 in
theorem c_X5_howMany_10 {h : Hp} (hm : h.1 10 0 = nI 4) : CT 1 yX5_howMany cX5_howMany 3 (some .int) [.ref 10] h (some (.int (nI (cnt 4 (fun s => decide (¬ h.1 11 s = -1)))))) (h) := by
  refine CT.of (own := RX5) rfl (by decide) (ro_i _) [.ref 10, .null, .null] rfl (Nat.le_of_ble_eq_true rfl) (fun E hp => ?_)
  refine s_iconst (pc := 0) (k_i0N) dX5_howMany_0 ?_
  refine s_istore_n (pc := 1) 1 rfl (by decide) rfl dX5_howMany_1 ?_
  refine s_iconst (pc := 2) (k_i0N) dX5_howMany_2 ?_
  refine s_istore_n (pc := 3) 2 rfl (by decide) rfl dX5_howMany_3 ?_
  suffices lp_4 : ∀ k, k ≤ 4 → WW E cX5_howMany RX5 3 _ 4 [.ref 10, .int (nI (cnt k (fun s => decide (¬ h.1 11 s = -1)))), .int (nI k)] (h) [] from lp_4 (0) (by omega)
  refine lpi (4) (fun k hk_k ih_4 => ?_)
  refine s_iload_n (pc := 4) 2 rfl rfl dX5_howMany_4 ?_
  refine s_aload_n (pc := 5) 0 rfl rfl dX5_howMany_5 ?_
  refine s_getiE (pc := 6) fl_X5_15 rfl rfl hm dX5_howMany_6 ?_
  refine s_icmp_geN (pc := 9) (by omega) (by omega) 36 dX5_howMany_9 (by decide) (fun c_9 => ?_) (fun c_9 => ?_)
  · obtain rfl : k = 4 := by omega
    refine s_iload_n (pc := 36) 1 rfl rfl dX5_howMany_36 ?_
    refine s_iret (pc := 37) dX5_howMany_37 (PostE.of hp ?_ ?_)
    · rfl
    · rfl
  · refine s_iload_n (pc := 12) 1 rfl rfl dX5_howMany_12 ?_
    refine s_aload_n (pc := 13) 0 rfl rfl dX5_howMany_13 ?_
    refine s_getr (pc := 14) (b := 11) fl_X5_24 rfl rfl rfl dX5_howMany_14 ?_
    refine s_iload_n (pc := 17) 2 rfl rfl dX5_howMany_17 ?_
    refine s_iald (pc := 18) (_) rfl rfl (by omega) dX5_howMany_18 ?_
    refine s_iconst (pc := 19) (k_im1) dX5_howMany_19 ?_
    refine s_icmp_ne (pc := 20) 27 dX5_howMany_20 (by decide) (fun c_20 => ?_) (fun c_20 => ?_)
    · refine s_iconst (pc := 27) (k_i1N) dX5_howMany_27 ?_
      refine s_iaddN (pc := 28) dX5_howMany_28 ?_
      first | rw [cnt_t (p := (fun s => decide (¬ h.1 11 s = -1))) (by simp only [decide_eq_true_eq]; exact c_20)] | rw [cnt_f (p := (fun s => decide (¬ h.1 11 s = -1))) (by simp only [decide_eq_true_eq]; exact fun q => q c_20)]
      refine s_istore_n (pc := 29) 1 rfl (by decide) rfl dX5_howMany_29 ?_
      refine s_iincN (pc := 30) rfl (by decide) rfl dX5_howMany_30 ?_
      refine s_goto (pc := 33) 4 dX5_howMany_33 (by decide) ?_
      exact ih_4 (by omega)
    · refine s_iconst (pc := 23) (k_i0N) dX5_howMany_23 ?_
      refine s_goto (pc := 24) 28 dX5_howMany_24 (by decide) ?_
      refine s_iaddN (pc := 28) dX5_howMany_28 ?_
      first | rw [cnt_t (p := (fun s => decide (¬ h.1 11 s = -1))) (by simp only [decide_eq_true_eq]; exact c_20)] | rw [cnt_f (p := (fun s => decide (¬ h.1 11 s = -1))) (by simp only [decide_eq_true_eq]; exact fun q => q c_20)]
      refine s_istore_n (pc := 29) 1 rfl (by decide) rfl dX5_howMany_29 ?_
      refine s_iincN (pc := 30) rfl (by decide) rfl dX5_howMany_30 ?_
      refine s_goto (pc := 33) 4 dX5_howMany_33 (by decide) ?_
      exact ih_4 (by omega)

set_option maxRecDepth 20000 in
theorem c_X5_digestFrom_10 {n : Nat → Nat} {g : Int64} {h : Hp} (hm : h.1 10 0 = nI 4) (hz : ∀ s, s < 4 → Sz (h.1 11 s) (n s)) (hn : ∀ s, s < 4 → n s ≤ 60) : CT 1 yX5_digestFrom cX5_digestFrom 7 (some .long) [.ref 10, .long g] h (some (.long (dgS (h.1 11) n (fun s => h.1 (12 + 1 + s)) g 4))) (h) := by
  refine CT.of (own := RX5) rfl (by decide) (ro_l _) [.ref 10, .long g, .null, .null, .null, .null, .null] rfl (Nat.le_of_ble_eq_true rfl) (fun E hp => ?_)
  refine s_lload_n (pc := 0) 1 rfl rfl dX5_digestFrom_0 ?_
  refine s_lstore_n (pc := 1) 3 rfl (by decide) rfl dX5_digestFrom_1 ?_
  refine s_iconst (pc := 2) (k_i0N) dX5_digestFrom_2 ?_
  refine s_istore (pc := 3) (by decide) rfl dX5_digestFrom_3 ?_
  suffices lp_5 : ∀ k, k ≤ 4 → ∀ zz, WW E cX5_digestFrom RX5 7 _ 5 [.ref 10, .long g, .null, .long (dgS (h.1 11) n (fun s => h.1 (12 + 1 + s)) g k), .null, .int (nI k), zz] (h) [] from lp_5 0 (by omega) _
  refine lpi 4 (fun k hk_k ih_5 => ?_)
  intro zz
  refine s_iload (pc := 5) rfl dX5_digestFrom_5 ?_
  refine s_aload_n (pc := 7) 0 rfl rfl dX5_digestFrom_7 ?_
  refine s_getiE (pc := 8) fl_X5_15 rfl rfl hm dX5_digestFrom_8 ?_
  refine s_icmp_geN (pc := 11) (by omega) (by omega) 74 dX5_digestFrom_11 (by decide) (fun c_11 => ?_) (fun c_11 => ?_)
  · obtain rfl : k = 4 := by omega
    refine s_lload_n (pc := 74) 3 rfl rfl dX5_digestFrom_74 ?_
    refine s_lret (pc := 75) dX5_digestFrom_75 (PostE.of hp ?_ ?_)
    · rfl
    · rfl
  · refine s_ldc2 (pc := 14) _ lc_X5_50 dX5_digestFrom_14 ?_
    refine s_lload_n (pc := 17) 3 rfl rfl dX5_digestFrom_17 ?_
    refine s_lmul (pc := 18) dX5_digestFrom_18 ?_
    refine s_aload_n (pc := 19) 0 rfl rfl dX5_digestFrom_19 ?_
    refine s_getr (pc := 20) (b := 11) fl_X5_24 rfl rfl rfl dX5_digestFrom_20 ?_
    refine s_iload (pc := 23) rfl dX5_digestFrom_23 ?_
    refine s_iald (pc := 25) (_) rfl rfl (by omega) dX5_digestFrom_25 ?_
    refine s_i2l (pc := 26) dX5_digestFrom_26 ?_
    refine s_ladd (pc := 27) dX5_digestFrom_27 ?_
    refine s_lstore_n (pc := 28) 3 rfl (by decide) rfl dX5_digestFrom_28 ?_
    refine s_iconst (pc := 29) (k_i0N) dX5_digestFrom_29 ?_
    refine s_istore (pc := 30) (by decide) rfl dX5_digestFrom_30 ?_
    suffices lp_32 : ∀ j, j ≤ n k → WW E cX5_digestFrom RX5 7 _ 32 [.ref 10, .long g, .null, .long (dgI (h.1 (12 + 1 + k)) (31 * dgS (h.1 11) n (fun s => h.1 (12 + 1 + s)) g k + (h.1 11 k).toInt64) j), .null, .int (nI k), .int (nI j)] (h) [] from lp_32 (0) (by omega)
    refine lpi (n k) (fun j hk_j ih_32 => ?_)
    refine s_iload (pc := 32) rfl dX5_digestFrom_32 ?_
    refine s_aload_n (pc := 34) 0 rfl rfl dX5_digestFrom_34 ?_
    refine s_getr (pc := 35) (b := 11) fl_X5_24 rfl rfl rfl dX5_digestFrom_35 ?_
    refine s_iload (pc := 38) rfl dX5_digestFrom_38 ?_
    refine s_iald (pc := 40) (_) rfl rfl (by omega) dX5_digestFrom_40 ?_
    refine s_icmp_ge (pc := 41) 68 dX5_digestFrom_41 (by decide) (fun c_41 => ?_) (fun c_41 => ?_)
    · obtain rfl : j = n k := by have := ((hz k (by omega)).le (by have := hn k (by omega); omega)).mp c_41; omega
      refine s_iincN (pc := 68) rfl (by decide) rfl dX5_digestFrom_68 ?_
      refine s_goto (pc := 71) 5 dX5_digestFrom_71 (by decide) ?_
      exact ih_5 (by omega) _
    · have q41 : j < n k := Nat.lt_of_not_le (fun z => c_41 (((hz k (by omega)).le (by have := hn k (by omega); omega)).mpr z))
      have q42 := hn k (by omega)
      refine s_ldc2 (pc := 44) _ lc_X5_50 dX5_digestFrom_44 ?_
      refine s_lload_n (pc := 47) 3 rfl rfl dX5_digestFrom_47 ?_
      refine s_lmul (pc := 48) dX5_digestFrom_48 ?_
      refine s_aload_n (pc := 49) 0 rfl rfl dX5_digestFrom_49 ?_
      refine s_getr (pc := 50) (b := 12) fl_X5_30 rfl rfl rfl dX5_digestFrom_50 ?_
      refine s_iload (pc := 53) rfl dX5_digestFrom_53 ?_
      refine s_aald (pc := 55) (b := 12 + 1 + k) (_) rfl rfl (by omega) rfl dX5_digestFrom_55 ?_
      refine s_iload (pc := 56) rfl dX5_digestFrom_56 ?_
      refine s_iald (pc := 58) (_) (ly_10 k (by omega)) rfl (by omega) dX5_digestFrom_58 ?_
      refine s_i2l (pc := 59) dX5_digestFrom_59 ?_
      refine s_ladd (pc := 60) dX5_digestFrom_60 ?_
      refine s_lstore_n (pc := 61) 3 rfl (by decide) rfl dX5_digestFrom_61 ?_
      refine s_iincN (pc := 62) rfl (by decide) rfl dX5_digestFrom_62 ?_
      refine s_goto (pc := 65) 32 dX5_digestFrom_65 (by decide) ?_
      exact ih_32 (by omega)

set_option maxRecDepth 20000 in
theorem c_X5_isNumber_17T {k : Nat} {h : Hp} (hm : h.1 17 0 = nI 3) (hk : k < 3) : CT 1 yX5_isNumber cX5_isNumber 2 (some .boolean) [.ref 17, .int (nI k)] h (some (.int (bi True))) (h) := by
  refine CT.of (own := RX5) rfl (by decide) (ro_z _) [.ref 17, .int (nI k)] rfl (Nat.le_of_ble_eq_true rfl) (fun E hp => ?_)
  refine s_iload_n (pc := 0) 1 rfl rfl dX5_isNumber_0 ?_
  refine s_if_ltN (pc := 1) (by omega) 16 dX5_isNumber_1 (by decide) ?_
  refine s_iload_n (pc := 4) 1 rfl rfl dX5_isNumber_4 ?_
  refine s_aload_n (pc := 5) 0 rfl rfl dX5_isNumber_5 ?_
  refine s_getiE (pc := 6) fl_X5_15 rfl rfl hm dX5_isNumber_6 ?_
  refine s_icmp_geN (pc := 9) (by omega) (by omega) 16 dX5_isNumber_9 (by decide) (fun c_9 => ?_) (fun c_9 => ?_)
  · refine s_iconst (pc := 16) (k_i0N) dX5_isNumber_16 ?_
    refine s_iret (pc := 17) dX5_isNumber_17 (PostE.of hp ?_ ?_)
    · first | rfl | (exfalso; omega)
    · first | rfl | (exfalso; omega)
  · refine s_iconst (pc := 12) (k_i1N) dX5_isNumber_12 ?_
    refine s_goto (pc := 13) 17 dX5_isNumber_13 (by decide) ?_
    refine s_iret (pc := 17) dX5_isNumber_17 (PostE.of hp ?_ ?_)
    · first | rfl | (exfalso; omega)
    · first | rfl | (exfalso; omega)

set_option maxRecDepth 20000 in
theorem c_X5_isNumber_17F {s : Int32} {h : Hp} (hm : h.1 17 0 = nI 3) (hb : s < 0 ∨ nI 3 ≤ s) : CT 1 yX5_isNumber cX5_isNumber 2 (some .boolean) [.ref 17, .int s] h (some (.int (bi False))) (h) := by
  refine CT.of (own := RX5) rfl (by decide) (ro_z _) [.ref 17, .int s] rfl (Nat.le_of_ble_eq_true rfl) (fun E hp => ?_)
  refine s_iload_n (pc := 0) 1 rfl rfl dX5_isNumber_0 ?_
  refine s_if_lt (pc := 1) 16 dX5_isNumber_1 (by decide) (fun c_1 => ?_) (fun c_1 => ?_)
  · refine s_iconst (pc := 16) (k_i0N) dX5_isNumber_16 ?_
    refine s_iret (pc := 17) dX5_isNumber_17 (PostE.of hp ?_ ?_)
    · first | rfl | exact (hb.elim c_1 c_9).elim
    · rfl
  · refine s_iload_n (pc := 4) 1 rfl rfl dX5_isNumber_4 ?_
    refine s_aload_n (pc := 5) 0 rfl rfl dX5_isNumber_5 ?_
    refine s_getiE (pc := 6) fl_X5_15 rfl rfl hm dX5_isNumber_6 ?_
    refine s_icmp_ge (pc := 9) 16 dX5_isNumber_9 (by decide) (fun c_9 => ?_) (fun c_9 => ?_)
    · refine s_iconst (pc := 16) (k_i0N) dX5_isNumber_16 ?_
      refine s_iret (pc := 17) dX5_isNumber_17 (PostE.of hp ?_ ?_)
      · first | rfl | exact (hb.elim c_1 c_9).elim
      · rfl
    · refine s_iconst (pc := 12) (k_i1N) dX5_isNumber_12 ?_
      refine s_goto (pc := 13) 17 dX5_isNumber_13 (by decide) ?_
      refine s_iret (pc := 17) dX5_isNumber_17 (PostE.of hp ?_ ?_)
      · first | rfl | exact (hb.elim c_1 c_9).elim
      · rfl

set_option maxRecDepth 20000 in
theorem c_X5_isThere_17T {k m : Nat} {h : Hp} (hm : h.1 17 0 = nI 3) (hk : k < 3) (hz : h.1 18 k = nI m) (hz6 : m ≤ 60) : CT 2 yX5_isThere cX5_isThere 2 (some .boolean) [.ref 17, .int (nI k)] h (some (.int (bi True))) (h) := by
  refine CT.of (own := RX5) rfl (by decide) (ro_z _) [.ref 17, .int (nI k)] rfl (Nat.le_of_ble_eq_true rfl) (fun E hp => ?_)
  refine s_aload_n (pc := 0) 0 rfl rfl dX5_isThere_0 ?_
  refine s_iload_n (pc := 1) 1 rfl rfl dX5_isThere_1 ?_
  refine s_cvi1 (pc := 2) (c_X5_isNumber_17T hm hk) ml_X5_39 mw_X5_isNumber rfl (by decide) (Nat.le_of_ble_eq_true rfl) dX5_isThere_2 ?_
  refine s_if_eqT (pc := 5) 22 dX5_isThere_5 (by decide) ?_
  refine s_aload_n (pc := 8) 0 rfl rfl dX5_isThere_8 ?_
  refine s_getr (pc := 9) (b := 18) fl_X5_24 rfl rfl rfl dX5_isThere_9 ?_
  refine s_iload_n (pc := 12) 1 rfl rfl dX5_isThere_12 ?_
  refine s_ialdE (pc := 13) (_) rfl rfl (by omega) hz dX5_isThere_13 ?_
  refine s_iconst (pc := 14) (k_im1) dX5_isThere_14 ?_
  refine s_icmp_eq (pc := 15) 22 dX5_isThere_15 (by decide) (fun c_15 => ?_) (fun c_15 => ?_)
  · refine s_iconst (pc := 22) (k_i0N) dX5_isThere_22 ?_
    refine s_iret (pc := 23) dX5_isThere_23 (PostE.of hp ?_ ?_)
    · first | rfl | exact absurd c_15 (nI_ne_m1 (by omega))
    · rfl
  · refine s_iconst (pc := 18) (k_i1N) dX5_isThere_18 ?_
    refine s_goto (pc := 19) 23 dX5_isThere_19 (by decide) ?_
    refine s_iret (pc := 23) dX5_isThere_23 (PostE.of hp ?_ ?_)
    · first | rfl | exact absurd c_15 (nI_ne_m1 (by omega))
    · rfl

set_option maxRecDepth 20000 in
theorem c_X5_isThere_17F {k : Nat} {h : Hp} (hm : h.1 17 0 = nI 3) (hk : k < 3) (hz : h.1 18 k = -1) : CT 2 yX5_isThere cX5_isThere 2 (some .boolean) [.ref 17, .int (nI k)] h (some (.int (bi False))) (h) := by
  refine CT.of (own := RX5) rfl (by decide) (ro_z _) [.ref 17, .int (nI k)] rfl (Nat.le_of_ble_eq_true rfl) (fun E hp => ?_)
  refine s_aload_n (pc := 0) 0 rfl rfl dX5_isThere_0 ?_
  refine s_iload_n (pc := 1) 1 rfl rfl dX5_isThere_1 ?_
  refine s_cvi1 (pc := 2) (c_X5_isNumber_17T hm hk) ml_X5_39 mw_X5_isNumber rfl (by decide) (Nat.le_of_ble_eq_true rfl) dX5_isThere_2 ?_
  refine s_if_eqT (pc := 5) 22 dX5_isThere_5 (by decide) ?_
  refine s_aload_n (pc := 8) 0 rfl rfl dX5_isThere_8 ?_
  refine s_getr (pc := 9) (b := 18) fl_X5_24 rfl rfl rfl dX5_isThere_9 ?_
  refine s_iload_n (pc := 12) 1 rfl rfl dX5_isThere_12 ?_
  refine s_ialdE (pc := 13) (_) rfl rfl (by omega) hz dX5_isThere_13 ?_
  refine s_iconst (pc := 14) (k_im1) dX5_isThere_14 ?_
  refine s_icmp_eq (pc := 15) 22 dX5_isThere_15 (by decide) (fun c_15 => ?_) (fun c_15 => ?_)
  · refine s_iconst (pc := 22) (k_i0N) dX5_isThere_22 ?_
    refine s_iret (pc := 23) dX5_isThere_23 (PostE.of hp ?_ ?_)
    · first | rfl | exact absurd rfl c_15
    · rfl
  · refine s_iconst (pc := 18) (k_i1N) dX5_isThere_18 ?_
    refine s_goto (pc := 19) 23 dX5_isThere_19 (by decide) ?_
    refine s_iret (pc := 23) dX5_isThere_23 (PostE.of hp ?_ ?_)
    · first | rfl | exact absurd rfl c_15
    · rfl

set_option maxRecDepth 20000 in
theorem c_X5_isPlace_17T {k m j : Nat} {h : Hp} (hm : h.1 17 0 = nI 3) (hk : k < 3) (hz : h.1 18 k = nI m) (hz6 : m ≤ 40) (hj : j < m) : CT 3 yX5_isPlace cX5_isPlace 3 (some .boolean) [.ref 17, .int (nI k), .int (nI j)] h (some (.int (bi True))) (h) := by
  refine CT.of (own := RX5) rfl (by decide) (ro_z _) [.ref 17, .int (nI k), .int (nI j)] rfl (Nat.le_of_ble_eq_true rfl) (fun E hp => ?_)
  refine s_aload_n (pc := 0) 0 rfl rfl dX5_isPlace_0 ?_
  refine s_iload_n (pc := 1) 1 rfl rfl dX5_isPlace_1 ?_
  refine s_cvi1 (pc := 2) (c_X5_isThere_17T hm hk hz (by omega)) ml_X5_43 mw_X5_isThere rfl (by decide) (Nat.le_of_ble_eq_true rfl) dX5_isPlace_2 ?_
  refine s_if_eqT (pc := 5) 26 dX5_isPlace_5 (by decide) ?_
  refine s_iload_n (pc := 8) 2 rfl rfl dX5_isPlace_8 ?_
  refine s_if_ltN (pc := 9) (by omega) 26 dX5_isPlace_9 (by decide) ?_
  refine s_iload_n (pc := 12) 2 rfl rfl dX5_isPlace_12 ?_
  refine s_aload_n (pc := 13) 0 rfl rfl dX5_isPlace_13 ?_
  refine s_getr (pc := 14) (b := 18) fl_X5_24 rfl rfl rfl dX5_isPlace_14 ?_
  refine s_iload_n (pc := 17) 1 rfl rfl dX5_isPlace_17 ?_
  refine s_ialdN (pc := 18) (_) rfl rfl (by omega) hz dX5_isPlace_18 ?_
  refine s_icmp_geN (pc := 19) (by omega) (by omega) 26 dX5_isPlace_19 (by decide) (fun c_19 => ?_) (fun c_19 => ?_)
  · refine s_iconst (pc := 26) (k_i0N) dX5_isPlace_26 ?_
    refine s_iret (pc := 27) dX5_isPlace_27 (PostE.of hp ?_ ?_)
    · first | rfl | (exfalso; omega)
    · first | rfl | (exfalso; omega)
  · refine s_iconst (pc := 22) (k_i1N) dX5_isPlace_22 ?_
    refine s_goto (pc := 23) 27 dX5_isPlace_23 (by decide) ?_
    refine s_iret (pc := 27) dX5_isPlace_27 (PostE.of hp ?_ ?_)
    · first | rfl | (exfalso; omega)
    · first | rfl | (exfalso; omega)

set_option maxRecDepth 20000 in
theorem c_X5_isPlace_17F {k m : Nat} {i : Int32} {h : Hp} (hm : h.1 17 0 = nI 3) (hk : k < 3) (hz : h.1 18 k = nI m) (hz6 : m ≤ 40) (hb : i < 0 ∨ nI m ≤ i) : CT 3 yX5_isPlace cX5_isPlace 3 (some .boolean) [.ref 17, .int (nI k), .int i] h (some (.int (bi False))) (h) := by
  refine CT.of (own := RX5) rfl (by decide) (ro_z _) [.ref 17, .int (nI k), .int i] rfl (Nat.le_of_ble_eq_true rfl) (fun E hp => ?_)
  refine s_aload_n (pc := 0) 0 rfl rfl dX5_isPlace_0 ?_
  refine s_iload_n (pc := 1) 1 rfl rfl dX5_isPlace_1 ?_
  refine s_cvi1 (pc := 2) (c_X5_isThere_17T hm hk hz (by omega)) ml_X5_43 mw_X5_isThere rfl (by decide) (Nat.le_of_ble_eq_true rfl) dX5_isPlace_2 ?_
  refine s_if_eqT (pc := 5) 26 dX5_isPlace_5 (by decide) ?_
  refine s_iload_n (pc := 8) 2 rfl rfl dX5_isPlace_8 ?_
  refine s_if_lt (pc := 9) 26 dX5_isPlace_9 (by decide) (fun c_9 => ?_) (fun c_9 => ?_)
  · refine s_iconst (pc := 26) (k_i0N) dX5_isPlace_26 ?_
    refine s_iret (pc := 27) dX5_isPlace_27 (PostE.of hp ?_ ?_)
    · first | rfl | exact (hb.elim c_9 c_19).elim
    · rfl
  · refine s_iload_n (pc := 12) 2 rfl rfl dX5_isPlace_12 ?_
    refine s_aload_n (pc := 13) 0 rfl rfl dX5_isPlace_13 ?_
    refine s_getr (pc := 14) (b := 18) fl_X5_24 rfl rfl rfl dX5_isPlace_14 ?_
    refine s_iload_n (pc := 17) 1 rfl rfl dX5_isPlace_17 ?_
    refine s_ialdN (pc := 18) (_) rfl rfl (by omega) hz dX5_isPlace_18 ?_
    refine s_icmp_ge (pc := 19) 26 dX5_isPlace_19 (by decide) (fun c_19 => ?_) (fun c_19 => ?_)
    · refine s_iconst (pc := 26) (k_i0N) dX5_isPlace_26 ?_
      refine s_iret (pc := 27) dX5_isPlace_27 (PostE.of hp ?_ ?_)
      · first | rfl | exact (hb.elim c_9 c_19).elim
      · rfl
    · refine s_iconst (pc := 22) (k_i1N) dX5_isPlace_22 ?_
      refine s_goto (pc := 23) 27 dX5_isPlace_23 (by decide) ?_
      refine s_iret (pc := 27) dX5_isPlace_27 (PostE.of hp ?_ ?_)
      · first | rfl | exact (hb.elim c_9 c_19).elim
      · rfl

set_option maxRecDepth 20000 in
theorem c_X5_get_17 {k m j : Nat} {o : Int32} {h : Hp} (hm : h.1 17 0 = nI 3) (hk : k < 3) (hz : h.1 18 k = nI m) (hz6 : m ≤ 40) (hj : j < m) : CT 4 yX5_get cX5_get 4 (some .int) [.ref 17, .int (nI k), .int (nI j), .int o] h (some (.int (h.1 (19 + 1 + k) j))) (h) := by
  refine CT.of (own := RX5) rfl (by decide) (ro_i _) [.ref 17, .int (nI k), .int (nI j), .int o] rfl (Nat.le_of_ble_eq_true rfl) (fun E hp => ?_)
  refine s_aload_n (pc := 0) 0 rfl rfl dX5_get_0 ?_
  refine s_iload_n (pc := 1) 1 rfl rfl dX5_get_1 ?_
  refine s_iload_n (pc := 2) 2 rfl rfl dX5_get_2 ?_
  refine s_cvi2 (pc := 3) (c_X5_isPlace_17T hm hk hz hz6 hj) ml_X5_46 mw_X5_isPlace rfl (by decide) (Nat.le_of_ble_eq_true rfl) dX5_get_3 ?_
  refine s_if_eqT (pc := 6) 20 dX5_get_6 (by decide) ?_
  refine s_aload_n (pc := 9) 0 rfl rfl dX5_get_9 ?_
  refine s_getr (pc := 10) (b := 19) fl_X5_30 rfl rfl rfl dX5_get_10 ?_
  refine s_iload_n (pc := 13) 1 rfl rfl dX5_get_13 ?_
  refine s_aald (pc := 14) (b := 19 + 1 + k) (_) rfl rfl (by omega) rfl dX5_get_14 ?_
  refine s_iload_n (pc := 15) 2 rfl rfl dX5_get_15 ?_
  refine s_iald (pc := 16) (_) (ly_17 k hk) rfl (by omega) dX5_get_16 ?_
  refine s_goto (pc := 17) 21 dX5_get_17 (by decide) ?_
  refine s_iret (pc := 21) dX5_get_21 (PostE.of hp ?_ ?_)
  · rfl
  · rfl

set_option maxRecDepth 20000 in
theorem c_X5_set_17 {k m j : Nat} {v : Int32} {h : Hp} (hm : h.1 17 0 = nI 3) (hk : k < 3) (hz : h.1 18 k = nI m) (hz6 : m ≤ 40) (hj : j < m) : CT 4 yX5_set cX5_set 4 none [.ref 17, .int (nI k), .int (nI j), .int v] h (none) (ui h (19 + 1 + k) j v) := by
  refine CT.of (own := RX5) rfl (by decide) ro_v [.ref 17, .int (nI k), .int (nI j), .int v] rfl (Nat.le_of_ble_eq_true rfl) (fun E hp => ?_)
  refine s_aload_n (pc := 0) 0 rfl rfl dX5_set_0 ?_
  refine s_iload_n (pc := 1) 1 rfl rfl dX5_set_1 ?_
  refine s_iload_n (pc := 2) 2 rfl rfl dX5_set_2 ?_
  refine s_cvi2 (pc := 3) (c_X5_isPlace_17T hm hk hz hz6 hj) ml_X5_46 mw_X5_isPlace rfl (by decide) (Nat.le_of_ble_eq_true rfl) dX5_set_3 ?_
  refine s_if_eqT (pc := 6) 18 dX5_set_6 (by decide) ?_
  refine s_aload_n (pc := 9) 0 rfl rfl dX5_set_9 ?_
  refine s_getr (pc := 10) (b := 19) fl_X5_30 rfl rfl rfl dX5_set_10 ?_
  refine s_iload_n (pc := 13) 1 rfl rfl dX5_set_13 ?_
  refine s_aald (pc := 14) (b := 19 + 1 + k) (_) rfl rfl (by omega) rfl dX5_set_14 ?_
  refine s_iload_n (pc := 15) 2 rfl rfl dX5_set_15 ?_
  refine s_iload_n (pc := 16) 3 rfl rfl dX5_set_16 ?_
  refine s_iast (pc := 17) (_) (ly_17 k hk) rfl (by omega) dX5_set_17 ?_
  refine s_vret (pc := 18) dX5_set_18 (PostE.of hp ?_ ?_)
  · rfl
  · rfl

set_option maxRecDepth 20000 in
theorem c_X5_make_17 {k n : Nat} {v : Int32} {h : Hp} (hm : h.1 17 0 = nI 3) (hq : h.1 17 1 = nI 40) (hk : k < 3) (hn : n ≤ 40) : CT 4 yX5_make cX5_make 4 none [.ref 17, .int (nI k), .int (nI n), .int v] h (none) (fil (ui h 18 k (nI n)) (19 + 1 + k) 0 40 v) := by
  refine CT.of (own := RX5) rfl (by decide) ro_v [.ref 17, .int (nI k), .int (nI n), .int v] rfl (Nat.le_of_ble_eq_true rfl) (fun E hp => ?_)
  refine s_aload_n (pc := 0) 0 rfl rfl dX5_make_0 ?_
  refine s_iload_n (pc := 1) 1 rfl rfl dX5_make_1 ?_
  refine s_cvi1 (pc := 2) (c_X5_isNumber_17T hm hk) ml_X5_39 mw_X5_isNumber rfl (by decide) (Nat.le_of_ble_eq_true rfl) dX5_make_2 ?_
  refine s_if_eqT (pc := 5) 37 dX5_make_5 (by decide) ?_
  refine s_iload_n (pc := 8) 2 rfl rfl dX5_make_8 ?_
  refine s_if_ltN (pc := 9) (by omega) 37 dX5_make_9 (by decide) ?_
  refine s_iload_n (pc := 12) 2 rfl rfl dX5_make_12 ?_
  refine s_aload_n (pc := 13) 0 rfl rfl dX5_make_13 ?_
  refine s_getiE (pc := 14) fl_X5_21 rfl rfl hq dX5_make_14 ?_
  refine s_icmp_gtN (pc := 17) (by omega) (by omega) 37 dX5_make_17 (by decide) (fun c_17 => ?_) (fun c_17 => ?_)
  · exfalso; omega
  · refine s_aload_n (pc := 20) 0 rfl rfl dX5_make_20 ?_
    refine s_getr (pc := 21) (b := 18) fl_X5_24 rfl rfl rfl dX5_make_21 ?_
    refine s_iload_n (pc := 24) 1 rfl rfl dX5_make_24 ?_
    refine s_iload_n (pc := 25) 2 rfl rfl dX5_make_25 ?_
    refine s_iast (pc := 26) (_) rfl rfl (by omega) dX5_make_26 ?_
    refine s_aload_n (pc := 27) 0 rfl rfl dX5_make_27 ?_
    refine s_getr (pc := 28) (b := 19) fl_X5_30 rfl rfl rfl dX5_make_28 ?_
    refine s_iload_n (pc := 31) 1 rfl rfl dX5_make_31 ?_
    refine s_aald (pc := 32) (b := 19 + 1 + k) (_) rfl rfl (by omega) rfl dX5_make_32 ?_
    refine s_iload_n (pc := 33) 3 rfl rfl dX5_make_33 ?_
    refine s_csn2 (pc := 34) (c_J7_fill_53178 (ly_17 k hk)) ml_X5_33 ms_J7_fill_53178 (by decide) (Nat.le_of_ble_eq_true rfl) dX5_make_34 ?_
    refine s_vret (pc := 37) dX5_make_37 (PostE.of hp ?_ ?_)
    · rfl
    · rfl

set_option maxRecDepth 20000 in
theorem c_X5_drop_17 {k : Nat} {h : Hp} (hm : h.1 17 0 = nI 3) (hk : k < 3) : CT 2 yX5_drop cX5_drop 2 none [.ref 17, .int (nI k)] h (none) (ui h 18 k (-1)) := by
  refine CT.of (own := RX5) rfl (by decide) ro_v [.ref 17, .int (nI k)] rfl (Nat.le_of_ble_eq_true rfl) (fun E hp => ?_)
  refine s_aload_n (pc := 0) 0 rfl rfl dX5_drop_0 ?_
  refine s_iload_n (pc := 1) 1 rfl rfl dX5_drop_1 ?_
  refine s_cvi1 (pc := 2) (c_X5_isNumber_17T hm hk) ml_X5_39 mw_X5_isNumber rfl (by decide) (Nat.le_of_ble_eq_true rfl) dX5_drop_2 ?_
  refine s_if_eqT (pc := 5) 15 dX5_drop_5 (by decide) ?_
  refine s_aload_n (pc := 8) 0 rfl rfl dX5_drop_8 ?_
  refine s_getr (pc := 9) (b := 18) fl_X5_24 rfl rfl rfl dX5_drop_9 ?_
  refine s_iload_n (pc := 12) 1 rfl rfl dX5_drop_12 ?_
  refine s_iconst (pc := 13) (k_im1) dX5_drop_13 ?_
  refine s_iast (pc := 14) (_) rfl rfl (by omega) dX5_drop_14 ?_
  refine s_vret (pc := 15) dX5_drop_15 (PostE.of hp ?_ ?_)
  · rfl
  · rfl

set_option maxRecDepth 20000 in
theorem c_X5_howMany_17 {h : Hp} (hm : h.1 17 0 = nI 3) : CT 1 yX5_howMany cX5_howMany 3 (some .int) [.ref 17] h (some (.int (nI (cnt 3 (fun s => decide (¬ h.1 18 s = -1)))))) (h) := by
  refine CT.of (own := RX5) rfl (by decide) (ro_i _) [.ref 17, .null, .null] rfl (Nat.le_of_ble_eq_true rfl) (fun E hp => ?_)
  refine s_iconst (pc := 0) (k_i0N) dX5_howMany_0 ?_
  refine s_istore_n (pc := 1) 1 rfl (by decide) rfl dX5_howMany_1 ?_
  refine s_iconst (pc := 2) (k_i0N) dX5_howMany_2 ?_
  refine s_istore_n (pc := 3) 2 rfl (by decide) rfl dX5_howMany_3 ?_
  suffices lp_4 : ∀ k, k ≤ 3 → WW E cX5_howMany RX5 3 _ 4 [.ref 17, .int (nI (cnt k (fun s => decide (¬ h.1 18 s = -1)))), .int (nI k)] (h) [] from lp_4 (0) (by omega)
  refine lpi (3) (fun k hk_k ih_4 => ?_)
  refine s_iload_n (pc := 4) 2 rfl rfl dX5_howMany_4 ?_
  refine s_aload_n (pc := 5) 0 rfl rfl dX5_howMany_5 ?_
  refine s_getiE (pc := 6) fl_X5_15 rfl rfl hm dX5_howMany_6 ?_
  refine s_icmp_geN (pc := 9) (by omega) (by omega) 36 dX5_howMany_9 (by decide) (fun c_9 => ?_) (fun c_9 => ?_)
  · obtain rfl : k = 3 := by omega
    refine s_iload_n (pc := 36) 1 rfl rfl dX5_howMany_36 ?_
    refine s_iret (pc := 37) dX5_howMany_37 (PostE.of hp ?_ ?_)
    · rfl
    · rfl
  · refine s_iload_n (pc := 12) 1 rfl rfl dX5_howMany_12 ?_
    refine s_aload_n (pc := 13) 0 rfl rfl dX5_howMany_13 ?_
    refine s_getr (pc := 14) (b := 18) fl_X5_24 rfl rfl rfl dX5_howMany_14 ?_
    refine s_iload_n (pc := 17) 2 rfl rfl dX5_howMany_17 ?_
    refine s_iald (pc := 18) (_) rfl rfl (by omega) dX5_howMany_18 ?_
    refine s_iconst (pc := 19) (k_im1) dX5_howMany_19 ?_
    refine s_icmp_ne (pc := 20) 27 dX5_howMany_20 (by decide) (fun c_20 => ?_) (fun c_20 => ?_)
    · refine s_iconst (pc := 27) (k_i1N) dX5_howMany_27 ?_
      refine s_iaddN (pc := 28) dX5_howMany_28 ?_
      first | rw [cnt_t (p := (fun s => decide (¬ h.1 18 s = -1))) (by simp only [decide_eq_true_eq]; exact c_20)] | rw [cnt_f (p := (fun s => decide (¬ h.1 18 s = -1))) (by simp only [decide_eq_true_eq]; exact fun q => q c_20)]
      refine s_istore_n (pc := 29) 1 rfl (by decide) rfl dX5_howMany_29 ?_
      refine s_iincN (pc := 30) rfl (by decide) rfl dX5_howMany_30 ?_
      refine s_goto (pc := 33) 4 dX5_howMany_33 (by decide) ?_
      exact ih_4 (by omega)
    · refine s_iconst (pc := 23) (k_i0N) dX5_howMany_23 ?_
      refine s_goto (pc := 24) 28 dX5_howMany_24 (by decide) ?_
      refine s_iaddN (pc := 28) dX5_howMany_28 ?_
      first | rw [cnt_t (p := (fun s => decide (¬ h.1 18 s = -1))) (by simp only [decide_eq_true_eq]; exact c_20)] | rw [cnt_f (p := (fun s => decide (¬ h.1 18 s = -1))) (by simp only [decide_eq_true_eq]; exact fun q => q c_20)]
      refine s_istore_n (pc := 29) 1 rfl (by decide) rfl dX5_howMany_29 ?_
      refine s_iincN (pc := 30) rfl (by decide) rfl dX5_howMany_30 ?_
      refine s_goto (pc := 33) 4 dX5_howMany_33 (by decide) ?_
      exact ih_4 (by omega)
