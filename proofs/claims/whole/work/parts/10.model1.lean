set_option maxRecDepth 20000 in
theorem c_X7_in {v lo hi : Int32} {h : Hp} : CT 1 yX7_in cX7_in 3 (some .boolean) [.int v, .int lo, .int hi] h (some (.int (bi (lo ≤ v ∧ v ≤ hi)))) (h) := by
  refine CT.of (own := RX7) rfl (by decide) (ro_z _) [.int v, .int lo, .int hi] rfl (Nat.le_of_ble_eq_true rfl) (fun E hp => ?_)
  refine s_iload_n (pc := 0) 0 rfl rfl dX7_in_0 ?_
  refine s_iload_n (pc := 1) 1 rfl rfl dX7_in_1 ?_
  refine s_icmp_lt (pc := 2) 14 dX7_in_2 (by decide) (fun c_2 => ?_) (fun c_2 => ?_)
  · refine s_iconst (pc := 14) (k_i0N) dX7_in_14 ?_
    refine s_iret (pc := 15) dX7_in_15 (PostE.of hp ?_ ?_)
    · simp only [Int32.le_iff_toInt_le, Int32.lt_iff_toInt_lt, bi] at *
      split <;> first | rfl | omega
    · rfl
  · refine s_iload_n (pc := 5) 0 rfl rfl dX7_in_5 ?_
    refine s_iload_n (pc := 6) 2 rfl rfl dX7_in_6 ?_
    refine s_icmp_gt (pc := 7) 14 dX7_in_7 (by decide) (fun c_7 => ?_) (fun c_7 => ?_)
    · refine s_iconst (pc := 14) (k_i0N) dX7_in_14 ?_
      refine s_iret (pc := 15) dX7_in_15 (PostE.of hp ?_ ?_)
      · simp only [Int32.le_iff_toInt_le, Int32.lt_iff_toInt_lt, bi] at *
        split <;> first | rfl | omega
      · rfl
    · refine s_iconst (pc := 10) (k_i1N) dX7_in_10 ?_
      refine s_goto (pc := 11) 15 dX7_in_11 (by decide) ?_
      refine s_iret (pc := 15) dX7_in_15 (PostE.of hp ?_ ?_)
      · simp only [Int32.le_iff_toInt_le, Int32.lt_iff_toInt_lt, bi] at *
        split <;> first | rfl | omega
      · rfl

set_option maxRecDepth 20000 in
theorem c_X7_inN {v lo hi : Nat} {h : Hp} (hv : v < 2 ^ 31) (hl : lo < 2 ^ 31) (hh : hi < 2 ^ 31) : CT 1 yX7_in cX7_in 3 (some .boolean) [.int (nI v), .int (nI lo), .int (nI hi)] h (some (.int (bi (lo ≤ v ∧ v ≤ hi)))) (h) := by
  refine CT.of (own := RX7) rfl (by decide) (ro_z _) [.int (nI v), .int (nI lo), .int (nI hi)] rfl (Nat.le_of_ble_eq_true rfl) (fun E hp => ?_)
  refine s_iload_n (pc := 0) 0 rfl rfl dX7_in_0 ?_
  refine s_iload_n (pc := 1) 1 rfl rfl dX7_in_1 ?_
  refine s_icmp_ltN (pc := 2) (by omega) (by omega) 14 dX7_in_2 (by decide) (fun c_2 => ?_) (fun c_2 => ?_)
  · refine s_iconst (pc := 14) (k_i0N) dX7_in_14 ?_
    refine s_iret (pc := 15) dX7_in_15 (PostE.of hp ?_ ?_)
    · first | exact ret_t rfl (by omega) | exact ret_f rfl (by omega)
    · rfl
  · refine s_iload_n (pc := 5) 0 rfl rfl dX7_in_5 ?_
    refine s_iload_n (pc := 6) 2 rfl rfl dX7_in_6 ?_
    refine s_icmp_gtN (pc := 7) (by omega) (by omega) 14 dX7_in_7 (by decide) (fun c_7 => ?_) (fun c_7 => ?_)
    · refine s_iconst (pc := 14) (k_i0N) dX7_in_14 ?_
      refine s_iret (pc := 15) dX7_in_15 (PostE.of hp ?_ ?_)
      · first | exact ret_t rfl (by omega) | exact ret_f rfl (by omega)
      · rfl
    · refine s_iconst (pc := 10) (k_i1N) dX7_in_10 ?_
      refine s_goto (pc := 11) 15 dX7_in_11 (by decide) ?_
      refine s_iret (pc := 15) dX7_in_15 (PostE.of hp ?_ ?_)
      · first | exact ret_t rfl (by omega) | exact ret_f rfl (by omega)
      · rfl

set_option maxRecDepth 20000 in
theorem c_X7_isRow {r : Int32} {h : Hp} : CT 2 yX7_isRow cX7_isRow 1 (some .boolean) [.int r] h (some (.int (bi (nI 0 ≤ r ∧ r ≤ nI 5)))) (h) := by
  refine CT.of (own := RX7) rfl (by decide) (ro_z _) [.int r] rfl (Nat.le_of_ble_eq_true rfl) (fun E hp => ?_)
  refine s_iload_n (pc := 0) 0 rfl rfl dX7_isRow_0 ?_
  refine s_iconst (pc := 1) (k_i0N) dX7_isRow_1 ?_
  refine s_iconst (pc := 2) (k_i5N) dX7_isRow_2 ?_
  refine s_csi3 (pc := 3) (c_X7_in) ml_X7_64 ms_X7_in (by decide) (Nat.le_of_ble_eq_true rfl) dX7_isRow_3 ?_
  refine s_iret (pc := 6) dX7_isRow_6 (PostE.of hp ?_ ?_)
  · rfl
  · rfl

set_option maxRecDepth 20000 in
theorem c_X7_isRowN {r : Nat} {h : Hp} (hr : r < 2 ^ 31) : CT 2 yX7_isRow cX7_isRow 1 (some .boolean) [.int (nI r)] h (some (.int (bi (0 ≤ r ∧ r ≤ 5)))) (h) := by
  refine CT.of (own := RX7) rfl (by decide) (ro_z _) [.int (nI r)] rfl (Nat.le_of_ble_eq_true rfl) (fun E hp => ?_)
  refine s_iload_n (pc := 0) 0 rfl rfl dX7_isRow_0 ?_
  refine s_iconst (pc := 1) (k_i0N) dX7_isRow_1 ?_
  refine s_iconst (pc := 2) (k_i5N) dX7_isRow_2 ?_
  refine s_csi3 (pc := 3) (c_X7_inN hr (by decide) (by decide)) ml_X7_64 ms_X7_in (by decide) (Nat.le_of_ble_eq_true rfl) dX7_isRow_3 ?_
  refine s_iret (pc := 6) dX7_isRow_6 (PostE.of hp ?_ ?_)
  · rfl
  · rfl

set_option maxRecDepth 20000 in
theorem c_X7_isText {r : Int32} {h : Hp} : CT 2 yX7_isText cX7_isText 1 (some .boolean) [.int r] h (some (.int (bi (nI 0 ≤ r ∧ r ≤ nI 3)))) (h) := by
  refine CT.of (own := RX7) rfl (by decide) (ro_z _) [.int r] rfl (Nat.le_of_ble_eq_true rfl) (fun E hp => ?_)
  refine s_iload_n (pc := 0) 0 rfl rfl dX7_isText_0 ?_
  refine s_iconst (pc := 1) (k_i0N) dX7_isText_1 ?_
  refine s_iconst (pc := 2) (k_i3N) dX7_isText_2 ?_
  refine s_csi3 (pc := 3) (c_X7_in) ml_X7_64 ms_X7_in (by decide) (Nat.le_of_ble_eq_true rfl) dX7_isText_3 ?_
  refine s_iret (pc := 6) dX7_isText_6 (PostE.of hp ?_ ?_)
  · rfl
  · rfl

set_option maxRecDepth 20000 in
theorem c_X7_isTextN {r : Nat} {h : Hp} (hr : r < 2 ^ 31) : CT 2 yX7_isText cX7_isText 1 (some .boolean) [.int (nI r)] h (some (.int (bi (0 ≤ r ∧ r ≤ 3)))) (h) := by
  refine CT.of (own := RX7) rfl (by decide) (ro_z _) [.int (nI r)] rfl (Nat.le_of_ble_eq_true rfl) (fun E hp => ?_)
  refine s_iload_n (pc := 0) 0 rfl rfl dX7_isText_0 ?_
  refine s_iconst (pc := 1) (k_i0N) dX7_isText_1 ?_
  refine s_iconst (pc := 2) (k_i3N) dX7_isText_2 ?_
  refine s_csi3 (pc := 3) (c_X7_inN hr (by decide) (by decide)) ml_X7_64 ms_X7_in (by decide) (Nat.le_of_ble_eq_true rfl) dX7_isText_3 ?_
  refine s_iret (pc := 6) dX7_isText_6 (PostE.of hp ?_ ?_)
  · rfl
  · rfl

set_option maxRecDepth 20000 in
theorem c_X7_isBerth {r : Int32} {h : Hp} : CT 2 yX7_isBerth cX7_isBerth 1 (some .boolean) [.int r] h (some (.int (bi (nI 0 ≤ r ∧ r ≤ nI 5)))) (h) := by
  refine CT.of (own := RX7) rfl (by decide) (ro_z _) [.int r] rfl (Nat.le_of_ble_eq_true rfl) (fun E hp => ?_)
  refine s_iload_n (pc := 0) 0 rfl rfl dX7_isBerth_0 ?_
  refine s_iconst (pc := 1) (k_i0N) dX7_isBerth_1 ?_
  refine s_iconst (pc := 2) (k_i5N) dX7_isBerth_2 ?_
  refine s_csi3 (pc := 3) (c_X7_in) ml_X7_64 ms_X7_in (by decide) (Nat.le_of_ble_eq_true rfl) dX7_isBerth_3 ?_
  refine s_iret (pc := 6) dX7_isBerth_6 (PostE.of hp ?_ ?_)
  · rfl
  · rfl

set_option maxRecDepth 20000 in
theorem c_X7_isBerthN {r : Nat} {h : Hp} (hr : r < 2 ^ 31) : CT 2 yX7_isBerth cX7_isBerth 1 (some .boolean) [.int (nI r)] h (some (.int (bi (0 ≤ r ∧ r ≤ 5)))) (h) := by
  refine CT.of (own := RX7) rfl (by decide) (ro_z _) [.int (nI r)] rfl (Nat.le_of_ble_eq_true rfl) (fun E hp => ?_)
  refine s_iload_n (pc := 0) 0 rfl rfl dX7_isBerth_0 ?_
  refine s_iconst (pc := 1) (k_i0N) dX7_isBerth_1 ?_
  refine s_iconst (pc := 2) (k_i5N) dX7_isBerth_2 ?_
  refine s_csi3 (pc := 3) (c_X7_inN hr (by decide) (by decide)) ml_X7_64 ms_X7_in (by decide) (Nat.le_of_ble_eq_true rfl) dX7_isBerth_3 ?_
  refine s_iret (pc := 6) dX7_isBerth_6 (PostE.of hp ?_ ?_)
  · rfl
  · rfl

set_option maxRecDepth 20000 in
theorem c_X7_tells {x y : Int32} {h : Hp} : CT 1 yX7_tells cX7_tells 3 (some .int) [.ref 50, .int x, .int y] h (some (.int x)) (ui h 50 11 y) := by
  refine CT.of (own := RX7) rfl (by decide) (ro_i _) [.ref 50, .int x, .int y] rfl (Nat.le_of_ble_eq_true rfl) (fun E hp => ?_)
  refine s_aload_n (pc := 0) 0 rfl rfl dX7_tells_0 ?_
  refine s_iload_n (pc := 1) 2 rfl rfl dX7_tells_1 ?_
  refine s_puti (pc := 2) fl_X7_58 fw_7_11 rfl rfl dX7_tells_2 ?_
  refine s_iload_n (pc := 5) 1 rfl rfl dX7_tells_5 ?_
  refine s_iret (pc := 6) dX7_tells_6 (PostE.of hp ?_ ?_)
  · rfl
  · rfl

set_option maxRecDepth 20000 in
theorem c_X7_finds {f : Nat} {h : Hp} (hf : f < 6) : CT 1 yX7_finds cX7_finds 2 (some .int) [.ref 50, .int (nI f)] h (some (.int (-3))) (finM h f) := by
  refine CT.of (own := RX7) rfl (by decide) (ro_i _) [.ref 50, .int (nI f)] rfl (Nat.le_of_ble_eq_true rfl) (fun E hp => ?_)
  refine s_aload_n (pc := 0) 0 rfl rfl dX7_finds_0 ?_
  refine s_iload_n (pc := 1) 1 rfl rfl dX7_finds_1 ?_
  refine s_puti (pc := 2) fl_X7_54 fw_7_10 rfl rfl dX7_finds_2 ?_
  refine s_aload_n (pc := 5) 0 rfl rfl dX7_finds_5 ?_
  refine s_getr (pc := 6) (b := 60) fl_X7_38 rfl rfl rfl dX7_finds_6 ?_
  refine s_iload_n (pc := 9) 1 rfl rfl dX7_finds_9 ?_
  refine s_dup2 (pc := 10) rfl rfl dX7_finds_10 ?_
  refine s_iald (pc := 11) (_) rfl rfl (by omega) dX7_finds_11 ?_
  refine s_iconst (pc := 12) (k_i1N) dX7_finds_12 ?_
  refine s_iadd (pc := 13) dX7_finds_13 ?_
  refine s_iast (pc := 14) (_) rfl rfl (by omega) dX7_finds_14 ?_
  refine s_bipush (pc := 15) (k_bm3) dX7_finds_15 ?_
  refine s_iret (pc := 17) dX7_finds_17 (PostE.of hp ?_ ?_)
  · rfl
  · rfl

set_option maxRecDepth 20000 in
theorem c_X7_has {m k : Nat} {h : Hp} (hm : m < 2 ^ 31) (hk : k < 31) : CT 1 yX7_has cX7_has 2 (some .boolean) [.int (nI m), .int (nI k)] h (some (.int (bi (m.testBit k = true)))) (h) := by
  refine CT.of (own := RX7) rfl (by decide) (ro_z _) [.int (nI m), .int (nI k)] rfl (Nat.le_of_ble_eq_true rfl) (fun E hp => ?_)
  refine s_iload_n (pc := 0) 0 rfl rfl dX7_has_0 ?_
  refine s_iload_n (pc := 1) 1 rfl rfl dX7_has_1 ?_
  refine s_ishrN (pc := 2) (by omega) (by omega) dX7_has_2 ?_
  refine s_iconst (pc := 3) (k_i1N) dX7_has_3 ?_
  refine s_iandN (pc := 4) (div_lt31 hm k) (by omega) dX7_has_4 ?_
  refine s_iconst (pc := 5) (k_i1N) dX7_has_5 ?_
  refine s_icmp_neN (pc := 6) (by rw [bit1]; split <;> decide) (by omega) 13 dX7_has_6 (by decide) (fun c_6 => ?_) (fun c_6 => ?_)
  · refine s_iconst (pc := 13) (k_i0N) dX7_has_13 ?_
    refine s_iret (pc := 14) dX7_has_14 (PostE.of hp ?_ ?_)
    · first | exact ret_t rfl ((bit1_iff m k).mp c_6) | exact ret_f rfl (fun z => c_6 ((bit1_iff m k).mpr z))
    · rfl
  · refine s_iconst (pc := 9) (k_i1N) dX7_has_9 ?_
    refine s_goto (pc := 10) 14 dX7_has_10 (by decide) ?_
    refine s_iret (pc := 14) dX7_has_14 (PostE.of hp ?_ ?_)
    · first | exact ret_t rfl ((bit1_iff m k).mp c_6) | exact ret_f rfl (fun z => c_6 ((bit1_iff m k).mpr z))
    · rfl

set_option maxRecDepth 20000 in
theorem c_X7_ones {m : Nat} {h : Hp} (hm : m < 2 ^ 31) : CT 1 yX7_ones cX7_ones 3 (some .int) [.int (nI m)] h (some (.int (nI (pop m)))) (h) := by
  refine CT.of (own := RX7) rfl (by decide) (ro_i _) [.int (nI m), .null, .null] rfl (Nat.le_of_ble_eq_true rfl) (fun E hp => ?_)
  refine s_iconst (pc := 0) (k_i0N) dX7_ones_0 ?_
  refine s_istore_n (pc := 1) 1 rfl (by decide) rfl dX7_ones_1 ?_
  refine s_iconst (pc := 2) (k_i0N) dX7_ones_2 ?_
  refine s_istore_n (pc := 3) 2 rfl (by decide) rfl dX7_ones_3 ?_
  suffices lp_4 : ∀ k, k ≤ 6 → WW E cX7_ones RX7 3 _ 4 [.int (nI m), .int (nI (cnt k m.testBit)), .int (nI k)] (h) [] from lp_4 (0) (by omega)
  refine lpi (6) (fun k hk_k ih_4 => ?_)
  refine s_iload_n (pc := 4) 2 rfl rfl dX7_ones_4 ?_
  refine s_bipush (pc := 5) (k_b6N) dX7_ones_5 ?_
  refine s_icmp_geN (pc := 7) (by omega) (by omega) 24 dX7_ones_7 (by decide) (fun c_7 => ?_) (fun c_7 => ?_)
  · obtain rfl : k = 6 := by omega
    refine s_iload_n (pc := 24) 1 rfl rfl dX7_ones_24 ?_
    refine s_iret (pc := 25) dX7_ones_25 (PostE.of hp ?_ ?_)
    · rfl
    · rfl
  · refine s_iload_n (pc := 10) 1 rfl rfl dX7_ones_10 ?_
    refine s_iload_n (pc := 11) 0 rfl rfl dX7_ones_11 ?_
    refine s_iload_n (pc := 12) 2 rfl rfl dX7_ones_12 ?_
    refine s_ishrN (pc := 13) (by omega) (by omega) dX7_ones_13 ?_
    refine s_iconst (pc := 14) (k_i1N) dX7_ones_14 ?_
    refine s_iandN (pc := 15) (div_lt31 hm k) (by omega) dX7_ones_15 ?_
    refine s_iaddN (pc := 16) dX7_ones_16 ?_
    refine s_istore_n (pc := 17) 1 rfl (by decide) rfl dX7_ones_17 ?_
    refine s_iincN (pc := 18) rfl (by decide) rfl dX7_ones_18 ?_
    refine s_goto (pc := 21) 4 dX7_ones_21 (by decide) ?_
    rw [cnt_bit]
    exact ih_4 (by omega)

set_option maxRecDepth 20000 in
theorem c_X7_lays {r : Nat} {n : Int32} {h : Hp} (hr : r < 6) : CT 1 yX7_lays cX7_lays 4 none [.ref 50, .int (nI r), .int n] h (none) (layM h r n) := by
  refine CT.of (own := RX7) rfl (by decide) ro_v [.ref 50, .int (nI r), .int n, .null] rfl (Nat.le_of_ble_eq_true rfl) (fun E hp => ?_)
  refine s_aload_n (pc := 0) 0 rfl rfl dX7_lays_0 ?_
  refine s_getr (pc := 1) (b := 51) fl_X7_7 rfl rfl rfl dX7_lays_1 ?_
  refine s_iload_n (pc := 4) 1 rfl rfl dX7_lays_4 ?_
  refine s_iload_n (pc := 5) 2 rfl rfl dX7_lays_5 ?_
  refine s_iast (pc := 6) (_) rfl rfl (by omega) dX7_lays_6 ?_
  refine s_iconst (pc := 7) (k_i0N) dX7_lays_7 ?_
  refine s_istore_n (pc := 8) 3 rfl (by decide) rfl dX7_lays_8 ?_
  rw [show ui h 51 r n = fil (ui h 51 r n) 52 (40 * r) 0 (nI 0) from (fil_0 _ _ _ _).symm]
  suffices lp_9 : ∀ k, k ≤ 40 → WW E cX7_lays RX7 4 _ 9 [.ref 50, .int (nI r), .int n, .int (nI k)] (fil (ui h 51 r n) 52 (40 * r) k (nI 0)) [] from lp_9 0 (by omega)
  refine lpi 40 (fun k hk_k ih_9 => ?_)
  refine s_iload_n (pc := 9) 3 rfl rfl dX7_lays_9 ?_
  refine s_bipush (pc := 10) (k_b40N) dX7_lays_10 ?_
  refine s_icmp_geN (pc := 12) (by omega) (by omega) 33 dX7_lays_12 (by decide) (fun c_12 => ?_) (fun c_12 => ?_)
  · obtain rfl : k = 40 := by omega
    refine s_vret (pc := 33) dX7_lays_33 (PostE.of hp ?_ ?_)
    · rfl
    · rfl
  · refine s_aload_n (pc := 15) 0 rfl rfl dX7_lays_15 ?_
    refine s_getr (pc := 16) (b := 52) fl_X7_13 rfl rfl rfl dX7_lays_16 ?_
    refine s_bipush (pc := 19) (k_b40N) dX7_lays_19 ?_
    refine s_iload_n (pc := 21) 1 rfl rfl dX7_lays_21 ?_
    refine s_imulN (pc := 22) dX7_lays_22 ?_
    refine s_iload_n (pc := 23) 3 rfl rfl dX7_lays_23 ?_
    refine s_iaddN (pc := 24) dX7_lays_24 ?_
    refine s_iconst (pc := 25) (k_i0N) dX7_lays_25 ?_
    refine s_iast (pc := 26) (_) rfl rfl (by omega) dX7_lays_26 ?_
    refine s_iincN (pc := 27) rfl (by decide) rfl dX7_lays_27 ?_
    refine s_goto (pc := 30) 9 dX7_lays_30 (by decide) ?_
    rw [fil_s]
    exact ih_9 (by omega)

set_option maxRecDepth 20000 in
theorem c_X7_isShip {i : Int32} {a : Nat → Nat} {h : Hp} (hA : RM a h) (hn : 0 < a 0) : CT 2 yX7_isShip cX7_isShip 2 (some .boolean) [.ref 50, .int i] h (some (.int (bi (nI 0 ≤ i ∧ i ≤ nI (a 0 - 1))))) (h) := by
  refine CT.of (own := RX7) rfl (by decide) (ro_z _) [.ref 50, .int i] rfl (Nat.le_of_ble_eq_true rfl) (fun E hp => ?_)
  refine s_iload_n (pc := 0) 1 rfl rfl dX7_isShip_0 ?_
  refine s_iconst (pc := 1) (k_i0N) dX7_isShip_1 ?_
  refine s_aload_n (pc := 2) 0 rfl rfl dX7_isShip_2 ?_
  refine s_getr (pc := 3) (b := 56) fl_X7_25 rfl rfl rfl dX7_isShip_3 ?_
  refine s_iconst (pc := 6) (k_i0N) dX7_isShip_6 ?_
  refine s_ialdN (pc := 7) (_) rfl rfl (by omega) (hA _ (by omega)) dX7_isShip_7 ?_
  refine s_iconst (pc := 8) (k_i1N) dX7_isShip_8 ?_
  refine s_isubN (pc := 9) (by omega) dX7_isShip_9 ?_
  refine s_csi3 (pc := 10) (c_X7_in) ml_X7_64 ms_X7_in (by decide) (Nat.le_of_ble_eq_true rfl) dX7_isShip_10 ?_
  refine s_iret (pc := 13) dX7_isShip_13 (PostE.of hp ?_ ?_)
  · rfl
  · rfl

set_option maxRecDepth 20000 in
theorem c_X7_isShipN {i : Nat} {a : Nat → Nat} {h : Hp} (hA : RM a h) (hi : i < a 0) (hn : a 0 ≤ 6) : CT 2 yX7_isShip cX7_isShip 2 (some .boolean) [.ref 50, .int (nI i)] h (some (.int (bi (0 ≤ i ∧ i ≤ a 0 - 1)))) (h) := by
  refine CT.of (own := RX7) rfl (by decide) (ro_z _) [.ref 50, .int (nI i)] rfl (Nat.le_of_ble_eq_true rfl) (fun E hp => ?_)
  refine s_iload_n (pc := 0) 1 rfl rfl dX7_isShip_0 ?_
  refine s_iconst (pc := 1) (k_i0N) dX7_isShip_1 ?_
  refine s_aload_n (pc := 2) 0 rfl rfl dX7_isShip_2 ?_
  refine s_getr (pc := 3) (b := 56) fl_X7_25 rfl rfl rfl dX7_isShip_3 ?_
  refine s_iconst (pc := 6) (k_i0N) dX7_isShip_6 ?_
  refine s_ialdN (pc := 7) (_) rfl rfl (by omega) (hA _ (by omega)) dX7_isShip_7 ?_
  refine s_iconst (pc := 8) (k_i1N) dX7_isShip_8 ?_
  refine s_isubN (pc := 9) (by omega) dX7_isShip_9 ?_
  refine s_csi3 (pc := 10) (c_X7_inN (by omega) (by decide) (by omega)) ml_X7_64 ms_X7_in (by decide) (Nat.le_of_ble_eq_true rfl) dX7_isShip_10 ?_
  refine s_iret (pc := 13) dX7_isShip_13 (PostE.of hp ?_ ?_)
  · rfl
  · rfl

set_option maxRecDepth 20000 in
theorem c_X7_are {a : Nat → Nat} {h : Hp} (hA : RM a h) (hn : a 0 ≤ 6) : CT 1 yX7_are cX7_are 1 (some .boolean) [.ref 50] h (some (.int (bi (0 < a 0)))) (h) := by
  refine CT.of (own := RX7) rfl (by decide) (ro_z _) [.ref 50] rfl (Nat.le_of_ble_eq_true rfl) (fun E hp => ?_)
  refine s_aload_n (pc := 0) 0 rfl rfl dX7_are_0 ?_
  refine s_getr (pc := 1) (b := 56) fl_X7_25 rfl rfl rfl dX7_are_1 ?_
  refine s_iconst (pc := 4) (k_i0N) dX7_are_4 ?_
  refine s_ialdN (pc := 5) (_) rfl rfl (by omega) (hA _ (by omega)) dX7_are_5 ?_
  refine s_if_leN (pc := 6) (by omega) 13 dX7_are_6 (by decide) (fun c_6 => ?_) (fun c_6 => ?_)
  · refine s_iconst (pc := 13) (k_i0N) dX7_are_13 ?_
    refine s_iret (pc := 14) dX7_are_14 (PostE.of hp ?_ ?_)
    · first | exact ret_t rfl (by omega) | exact ret_f rfl (by omega)
    · rfl
  · refine s_iconst (pc := 9) (k_i1N) dX7_are_9 ?_
    refine s_goto (pc := 10) 14 dX7_are_10 (by decide) ?_
    refine s_iret (pc := 14) dX7_are_14 (PostE.of hp ?_ ?_)
    · first | exact ret_t rfl (by omega) | exact ret_f rfl (by omega)
    · rfl

set_option maxRecDepth 20000 in
theorem c_X7_of {i w : Nat} {a : Nat → Nat} {h : Hp} (hA : RM a h) (hi : i < 6) (hw : w < 8) : CT 1 yX7_of cX7_of 3 (some .int) [.ref 50, .int (nI i), .int (nI w)] h (some (.int (nI (sh a i w)))) (h) := by
  refine CT.of (own := RX7) rfl (by decide) (ro_i _) [.ref 50, .int (nI i), .int (nI w)] rfl (Nat.le_of_ble_eq_true rfl) (fun E hp => ?_)
  refine s_aload_n (pc := 0) 0 rfl rfl dX7_of_0 ?_
  refine s_getr (pc := 1) (b := 56) fl_X7_25 rfl rfl rfl dX7_of_1 ?_
  refine s_bipush (pc := 4) (k_b7N) dX7_of_4 ?_
  refine s_bipush (pc := 6) (k_b8N) dX7_of_6 ?_
  refine s_iload_n (pc := 8) 1 rfl rfl dX7_of_8 ?_
  refine s_imulN (pc := 9) dX7_of_9 ?_
  refine s_iaddN (pc := 10) dX7_of_10 ?_
  refine s_iload_n (pc := 11) 2 rfl rfl dX7_of_11 ?_
  refine s_iaddN (pc := 12) dX7_of_12 ?_
  refine s_ialdN (pc := 13) (_) rfl rfl (by omega) (hA _ (by omega)) dX7_of_13 ?_
  refine s_iret (pc := 14) dX7_of_14 (PostE.of hp ?_ ?_)
  · rfl
  · rfl

set_option maxRecDepth 20000 in
theorem c_X7_oldIn {y b : Nat} {h : Hp} (hy : y < 2 ^ 31) (hb : b < 2 ^ 31) : CT 1 yX7_oldIn cX7_oldIn 2 (some .int) [.int (nI y), .int (nI b)] h (some (.int (nI (y - b)))) (h) := by
  refine CT.of (own := RX7) rfl (by decide) (ro_i _) [.int (nI y), .int (nI b)] rfl (Nat.le_of_ble_eq_true rfl) (fun E hp => ?_)
  refine s_iload_n (pc := 0) 0 rfl rfl dX7_oldIn_0 ?_
  refine s_iload_n (pc := 1) 1 rfl rfl dX7_oldIn_1 ?_
  refine s_icmp_leN (pc := 2) (by omega) (by omega) 11 dX7_oldIn_2 (by decide) (fun c_2 => ?_) (fun c_2 => ?_)
  · refine s_iconst (pc := 11) (k_i0N) dX7_oldIn_11 ?_
    refine s_iret (pc := 12) dX7_oldIn_12 (PostE.of hp ?_ ?_)
    · first | rfl | (rw [show y - b = 0 by omega])
    · rfl
  · refine s_iload_n (pc := 5) 0 rfl rfl dX7_oldIn_5 ?_
    refine s_iload_n (pc := 6) 1 rfl rfl dX7_oldIn_6 ?_
    refine s_isubN (pc := 7) (by omega) dX7_oldIn_7 ?_
    refine s_goto (pc := 8) 12 dX7_oldIn_8 (by decide) ?_
    refine s_iret (pc := 12) dX7_oldIn_12 (PostE.of hp ?_ ?_)
    · first | rfl | (rw [show y - b = 0 by omega])
    · rfl

set_option maxRecDepth 20000 in
theorem c_X7_aged {k o t p : Nat} {h : Hp} (hk : k < 6) (ho : o < 100000) (ht : t < 100000) (hp1 : p ≤ 1) : CT 1 yX7_aged cX7_aged 6 (some .int) [.int (nI k), .int (nI o), .int (nI t), .int (nI p)] h (some (.int (nI (agedN k o t p)))) (h) := by
  rcases (show k = 0 ∨ k = 1 ∨ k = 2 ∨ k = 3 ∨ k = 4 ∨ k = 5 by omega) with rfl | rfl | rfl | rfl | rfl | rfl
  · refine CT.of (own := RX7) rfl (by decide) (ro_i _) [.int (nI 0), .int (nI o), .int (nI t), .int (nI p), .null, .null] rfl (Nat.le_of_ble_eq_true rfl) (fun E hp => ?_)
    refine s_iload_n (pc := 0) 1 rfl rfl dX7_aged_0 ?_
    refine s_iload_n (pc := 1) 2 rfl rfl dX7_aged_1 ?_
    refine s_iaddN (pc := 2) dX7_aged_2 ?_
    refine s_istore (pc := 3) (by decide) rfl dX7_aged_3 ?_
    refine s_iload (pc := 5) rfl dX7_aged_5 ?_
    refine s_bipush (pc := 7) (k_b90N) dX7_aged_7 ?_
    refine s_icmp_geN (pc := 9) (by omega) (by omega) 17 dX7_aged_9 (by decide) (fun c_9 => ?_) (fun c_9 => ?_)
    · refine s_iload (pc := 17) rfl dX7_aged_17 ?_
      refine s_istore (pc := 19) (by decide) rfl dX7_aged_19 ?_
      refine s_iload_n (pc := 21) 0 rfl rfl dX7_aged_21 ?_
      refine s_tabOut (pc := 22) 89 dX7_aged_22 (by decide) (by decide) ?_
      refine s_iload (pc := 89) rfl dX7_aged_89 ?_
      refine s_iret (pc := 91) dX7_aged_91 (PostE.of hp ?_ ?_)
      · exact retn (by unfold agedN; (repeat' split) <;> omega)
      · rfl
    · refine s_bipush (pc := 12) (k_b90N) dX7_aged_12 ?_
      refine s_goto (pc := 14) 19 dX7_aged_14 (by decide) ?_
      refine s_istore (pc := 19) (by decide) rfl dX7_aged_19 ?_
      refine s_iload_n (pc := 21) 0 rfl rfl dX7_aged_21 ?_
      refine s_tabOut (pc := 22) 89 dX7_aged_22 (by decide) (by decide) ?_
      refine s_iload (pc := 89) rfl dX7_aged_89 ?_
      refine s_iret (pc := 91) dX7_aged_91 (PostE.of hp ?_ ?_)
      · exact retn (by unfold agedN; (repeat' split) <;> omega)
      · rfl
  · refine CT.of (own := RX7) rfl (by decide) (ro_i _) [.int (nI 1), .int (nI o), .int (nI t), .int (nI p), .null, .null] rfl (Nat.le_of_ble_eq_true rfl) (fun E hp => ?_)
    refine s_iload_n (pc := 0) 1 rfl rfl dX7_aged_0 ?_
    refine s_iload_n (pc := 1) 2 rfl rfl dX7_aged_1 ?_
    refine s_iaddN (pc := 2) dX7_aged_2 ?_
    refine s_istore (pc := 3) (by decide) rfl dX7_aged_3 ?_
    refine s_iload (pc := 5) rfl dX7_aged_5 ?_
    refine s_bipush (pc := 7) (k_b90N) dX7_aged_7 ?_
    refine s_icmp_geN (pc := 9) (by omega) (by omega) 17 dX7_aged_9 (by decide) (fun c_9 => ?_) (fun c_9 => ?_)
    · refine s_iload (pc := 17) rfl dX7_aged_17 ?_
      refine s_istore (pc := 19) (by decide) rfl dX7_aged_19 ?_
      refine s_iload_n (pc := 21) 0 rfl rfl dX7_aged_21 ?_
      refine s_tabIn (pc := 22) 56 dX7_aged_22 (by decide) (by decide) (off := 34) (by decide) (by decide) ?_
      refine s_iload (pc := 56) rfl dX7_aged_56 ?_
      refine s_bipush (pc := 58) (k_b20N) dX7_aged_58 ?_
      refine s_iaddN (pc := 60) dX7_aged_60 ?_
      refine s_iret (pc := 61) dX7_aged_61 (PostE.of hp ?_ ?_)
      · exact retn (by unfold agedN; (repeat' split) <;> omega)
      · rfl
    · refine s_bipush (pc := 12) (k_b90N) dX7_aged_12 ?_
      refine s_goto (pc := 14) 19 dX7_aged_14 (by decide) ?_
      refine s_istore (pc := 19) (by decide) rfl dX7_aged_19 ?_
      refine s_iload_n (pc := 21) 0 rfl rfl dX7_aged_21 ?_
      refine s_tabIn (pc := 22) 56 dX7_aged_22 (by decide) (by decide) (off := 34) (by decide) (by decide) ?_
      refine s_iload (pc := 56) rfl dX7_aged_56 ?_
      refine s_bipush (pc := 58) (k_b20N) dX7_aged_58 ?_
      refine s_iaddN (pc := 60) dX7_aged_60 ?_
      refine s_iret (pc := 61) dX7_aged_61 (PostE.of hp ?_ ?_)
      · exact retn (by unfold agedN; (repeat' split) <;> omega)
      · rfl
  · refine CT.of (own := RX7) rfl (by decide) (ro_i _) [.int (nI 2), .int (nI o), .int (nI t), .int (nI p), .null, .null] rfl (Nat.le_of_ble_eq_true rfl) (fun E hp => ?_)
    refine s_iload_n (pc := 0) 1 rfl rfl dX7_aged_0 ?_
    refine s_iload_n (pc := 1) 2 rfl rfl dX7_aged_1 ?_
    refine s_iaddN (pc := 2) dX7_aged_2 ?_
    refine s_istore (pc := 3) (by decide) rfl dX7_aged_3 ?_
    refine s_iload (pc := 5) rfl dX7_aged_5 ?_
    refine s_bipush (pc := 7) (k_b90N) dX7_aged_7 ?_
    refine s_icmp_geN (pc := 9) (by omega) (by omega) 17 dX7_aged_9 (by decide) (fun c_9 => ?_) (fun c_9 => ?_)
    · refine s_iload (pc := 17) rfl dX7_aged_17 ?_
      refine s_istore (pc := 19) (by decide) rfl dX7_aged_19 ?_
      refine s_iload_n (pc := 21) 0 rfl rfl dX7_aged_21 ?_
      refine s_tabIn (pc := 22) 68 dX7_aged_22 (by decide) (by decide) (off := 46) (by decide) (by decide) ?_
      refine s_iload_n (pc := 68) 1 rfl rfl dX7_aged_68 ?_
      refine s_iconst (pc := 69) (k_i2N) dX7_aged_69 ?_
      refine s_idivN (pc := 70) (by omega) (by omega) (by omega) dX7_aged_70 ?_
      refine s_iload_n (pc := 71) 2 rfl rfl dX7_aged_71 ?_
      refine s_iaddN (pc := 72) dX7_aged_72 ?_
      refine s_iret (pc := 73) dX7_aged_73 (PostE.of hp ?_ ?_)
      · exact retn (by unfold agedN; (repeat' split) <;> omega)
      · rfl
    · refine s_bipush (pc := 12) (k_b90N) dX7_aged_12 ?_
      refine s_goto (pc := 14) 19 dX7_aged_14 (by decide) ?_
      refine s_istore (pc := 19) (by decide) rfl dX7_aged_19 ?_
      refine s_iload_n (pc := 21) 0 rfl rfl dX7_aged_21 ?_
      refine s_tabIn (pc := 22) 68 dX7_aged_22 (by decide) (by decide) (off := 46) (by decide) (by decide) ?_
      refine s_iload_n (pc := 68) 1 rfl rfl dX7_aged_68 ?_
      refine s_iconst (pc := 69) (k_i2N) dX7_aged_69 ?_
      refine s_idivN (pc := 70) (by omega) (by omega) (by omega) dX7_aged_70 ?_
      refine s_iload_n (pc := 71) 2 rfl rfl dX7_aged_71 ?_
      refine s_iaddN (pc := 72) dX7_aged_72 ?_
      refine s_iret (pc := 73) dX7_aged_73 (PostE.of hp ?_ ?_)
      · exact retn (by unfold agedN; (repeat' split) <;> omega)
      · rfl
  · refine CT.of (own := RX7) rfl (by decide) (ro_i _) [.int (nI 3), .int (nI o), .int (nI t), .int (nI p), .null, .null] rfl (Nat.le_of_ble_eq_true rfl) (fun E hp => ?_)
    refine s_iload_n (pc := 0) 1 rfl rfl dX7_aged_0 ?_
    refine s_iload_n (pc := 1) 2 rfl rfl dX7_aged_1 ?_
    refine s_iaddN (pc := 2) dX7_aged_2 ?_
    refine s_istore (pc := 3) (by decide) rfl dX7_aged_3 ?_
    refine s_iload (pc := 5) rfl dX7_aged_5 ?_
    refine s_bipush (pc := 7) (k_b90N) dX7_aged_7 ?_
    refine s_icmp_geN (pc := 9) (by omega) (by omega) 17 dX7_aged_9 (by decide) (fun c_9 => ?_) (fun c_9 => ?_)
    · refine s_iload (pc := 17) rfl dX7_aged_17 ?_
      refine s_istore (pc := 19) (by decide) rfl dX7_aged_19 ?_
      refine s_iload_n (pc := 21) 0 rfl rfl dX7_aged_21 ?_
      refine s_tabIn (pc := 22) 74 dX7_aged_22 (by decide) (by decide) (off := 52) (by decide) (by decide) ?_
      refine s_iload (pc := 74) rfl dX7_aged_74 ?_
      refine s_iret (pc := 76) dX7_aged_76 (PostE.of hp ?_ ?_)
      · exact retn (by unfold agedN; (repeat' split) <;> omega)
      · rfl
    · refine s_bipush (pc := 12) (k_b90N) dX7_aged_12 ?_
      refine s_goto (pc := 14) 19 dX7_aged_14 (by decide) ?_
      refine s_istore (pc := 19) (by decide) rfl dX7_aged_19 ?_
      refine s_iload_n (pc := 21) 0 rfl rfl dX7_aged_21 ?_
      refine s_tabIn (pc := 22) 74 dX7_aged_22 (by decide) (by decide) (off := 52) (by decide) (by decide) ?_
      refine s_iload (pc := 74) rfl dX7_aged_74 ?_
      refine s_iret (pc := 76) dX7_aged_76 (PostE.of hp ?_ ?_)
      · exact retn (by unfold agedN; (repeat' split) <;> omega)
      · rfl
  · refine CT.of (own := RX7) rfl (by decide) (ro_i _) [.int (nI 4), .int (nI o), .int (nI t), .int (nI p), .null, .null] rfl (Nat.le_of_ble_eq_true rfl) (fun E hp => ?_)
    refine s_iload_n (pc := 0) 1 rfl rfl dX7_aged_0 ?_
    refine s_iload_n (pc := 1) 2 rfl rfl dX7_aged_1 ?_
    refine s_iaddN (pc := 2) dX7_aged_2 ?_
    refine s_istore (pc := 3) (by decide) rfl dX7_aged_3 ?_
    refine s_iload (pc := 5) rfl dX7_aged_5 ?_
    refine s_bipush (pc := 7) (k_b90N) dX7_aged_7 ?_
    refine s_icmp_geN (pc := 9) (by omega) (by omega) 17 dX7_aged_9 (by decide) (fun c_9 => ?_) (fun c_9 => ?_)
    · refine s_iload (pc := 17) rfl dX7_aged_17 ?_
      refine s_istore (pc := 19) (by decide) rfl dX7_aged_19 ?_
      refine s_iload_n (pc := 21) 0 rfl rfl dX7_aged_21 ?_
      refine s_tabIn (pc := 22) 62 dX7_aged_22 (by decide) (by decide) (off := 40) (by decide) (by decide) ?_
      refine s_iload (pc := 62) rfl dX7_aged_62 ?_
      refine s_bipush (pc := 64) (k_b25N) dX7_aged_64 ?_
      refine s_iaddN (pc := 66) dX7_aged_66 ?_
      refine s_iret (pc := 67) dX7_aged_67 (PostE.of hp ?_ ?_)
      · exact retn (by unfold agedN; (repeat' split) <;> omega)
      · rfl
    · refine s_bipush (pc := 12) (k_b90N) dX7_aged_12 ?_
      refine s_goto (pc := 14) 19 dX7_aged_14 (by decide) ?_
      refine s_istore (pc := 19) (by decide) rfl dX7_aged_19 ?_
      refine s_iload_n (pc := 21) 0 rfl rfl dX7_aged_21 ?_
      refine s_tabIn (pc := 22) 62 dX7_aged_22 (by decide) (by decide) (off := 40) (by decide) (by decide) ?_
      refine s_iload (pc := 62) rfl dX7_aged_62 ?_
      refine s_bipush (pc := 64) (k_b25N) dX7_aged_64 ?_
      refine s_iaddN (pc := 66) dX7_aged_66 ?_
      refine s_iret (pc := 67) dX7_aged_67 (PostE.of hp ?_ ?_)
      · exact retn (by unfold agedN; (repeat' split) <;> omega)
      · rfl
  · refine CT.of (own := RX7) rfl (by decide) (ro_i _) [.int (nI 5), .int (nI o), .int (nI t), .int (nI p), .null, .null] rfl (Nat.le_of_ble_eq_true rfl) (fun E hp => ?_)
    refine s_iload_n (pc := 0) 1 rfl rfl dX7_aged_0 ?_
    refine s_iload_n (pc := 1) 2 rfl rfl dX7_aged_1 ?_
    refine s_iaddN (pc := 2) dX7_aged_2 ?_
    refine s_istore (pc := 3) (by decide) rfl dX7_aged_3 ?_
    refine s_iload (pc := 5) rfl dX7_aged_5 ?_
    refine s_bipush (pc := 7) (k_b90N) dX7_aged_7 ?_
    refine s_icmp_geN (pc := 9) (by omega) (by omega) 17 dX7_aged_9 (by decide) (fun c_9 => ?_) (fun c_9 => ?_)
    · refine s_iload (pc := 17) rfl dX7_aged_17 ?_
      refine s_istore (pc := 19) (by decide) rfl dX7_aged_19 ?_
      refine s_iload_n (pc := 21) 0 rfl rfl dX7_aged_21 ?_
      refine s_tabIn (pc := 22) 77 dX7_aged_22 (by decide) (by decide) (off := 55) (by decide) (by decide) ?_
      refine s_iload_n (pc := 77) 3 rfl rfl dX7_aged_77 ?_
      refine s_iconst (pc := 78) (k_i1N) dX7_aged_78 ?_
      refine s_icmp_neN (pc := 79) (by omega) (by omega) 87 dX7_aged_79 (by decide) (fun c_79 => ?_) (fun c_79 => ?_)
      · refine s_iconst (pc := 87) (k_i0N) dX7_aged_87 ?_
        refine s_iret (pc := 88) dX7_aged_88 (PostE.of hp ?_ ?_)
        · exact retn (by unfold agedN; (repeat' split) <;> omega)
        · rfl
      · refine s_iload (pc := 82) rfl dX7_aged_82 ?_
        refine s_goto (pc := 84) 88 dX7_aged_84 (by decide) ?_
        refine s_iret (pc := 88) dX7_aged_88 (PostE.of hp ?_ ?_)
        · exact retn (by unfold agedN; (repeat' split) <;> omega)
        · rfl
    · refine s_bipush (pc := 12) (k_b90N) dX7_aged_12 ?_
      refine s_goto (pc := 14) 19 dX7_aged_14 (by decide) ?_
      refine s_istore (pc := 19) (by decide) rfl dX7_aged_19 ?_
      refine s_iload_n (pc := 21) 0 rfl rfl dX7_aged_21 ?_
      refine s_tabIn (pc := 22) 77 dX7_aged_22 (by decide) (by decide) (off := 55) (by decide) (by decide) ?_
      refine s_iload_n (pc := 77) 3 rfl rfl dX7_aged_77 ?_
      refine s_iconst (pc := 78) (k_i1N) dX7_aged_78 ?_
      refine s_icmp_neN (pc := 79) (by omega) (by omega) 87 dX7_aged_79 (by decide) (fun c_79 => ?_) (fun c_79 => ?_)
      · refine s_iconst (pc := 87) (k_i0N) dX7_aged_87 ?_
        refine s_iret (pc := 88) dX7_aged_88 (PostE.of hp ?_ ?_)
        · exact retn (by unfold agedN; (repeat' split) <;> omega)
        · rfl
      · refine s_iload (pc := 82) rfl dX7_aged_82 ?_
        refine s_goto (pc := 84) 88 dX7_aged_84 (by decide) ?_
        refine s_iret (pc := 88) dX7_aged_88 (PostE.of hp ?_ ?_)
        · exact retn (by unfold agedN; (repeat' split) <;> omega)
        · rfl
