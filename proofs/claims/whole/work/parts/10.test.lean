set_option maxRecDepth 20000 in
theorem c_X7_in {v lo hi : Int32} {h : Hp} : CT 1 yX7_in cX7_in 3 (some .boolean) [.int v, .int lo, .int hi] h (some (.int (bi (lo ≤ v ∧ v ≤ hi)))) (h) := by
  refine CT.of (own := RX7) rfl (by decide) (ro_z _) [.int v, .int lo, .int hi] rfl (Nat.le_of_ble_eq_true rfl) (fun E hp => ?_)
  refine s_iload_n (pc := 0) 0 rfl rfl dX7_in_0 ?_
  refine s_iload_n (pc := 1) 1 rfl rfl dX7_in_1 ?_
  refine s_icmp_lt (pc := 2) 14 dX7_in_2 (by decide) (fun c_2 => ?_) (fun c_2 => ?_)
  · refine s_iconst (pc := 14) (k_i0) dX7_in_14 ?_
    refine s_iret (pc := 15) dX7_in_15 (PostE.of hp ?_ ?_)
    · simp only [Int32.le_iff_toInt_le, Int32.lt_iff_toInt_lt, bi] at *
      split <;> first | rfl | omega
    · rfl
  · refine s_iload_n (pc := 5) 0 rfl rfl dX7_in_5 ?_
    refine s_iload_n (pc := 6) 2 rfl rfl dX7_in_6 ?_
    refine s_icmp_gt (pc := 7) 14 dX7_in_7 (by decide) (fun c_7 => ?_) (fun c_7 => ?_)
    · refine s_iconst (pc := 14) (k_i0) dX7_in_14 ?_
      refine s_iret (pc := 15) dX7_in_15 (PostE.of hp ?_ ?_)
      · simp only [Int32.le_iff_toInt_le, Int32.lt_iff_toInt_lt, bi] at *
        split <;> first | rfl | omega
      · rfl
    · refine s_iconst (pc := 10) (k_i1) dX7_in_10 ?_
      refine s_goto (pc := 11) 15 dX7_in_11 (by decide) ?_
      refine s_iret (pc := 15) dX7_in_15 (PostE.of hp ?_ ?_)
      · simp only [Int32.le_iff_toInt_le, Int32.lt_iff_toInt_lt, bi] at *
        split <;> first | rfl | omega
      · rfl

set_option maxRecDepth 20000 in
theorem c_X7_isRow {r : Int32} {h : Hp} : CT 2 yX7_isRow cX7_isRow 1 (some .boolean) [.int r] h (some (.int (bi (0 ≤ r ∧ r ≤ 5)))) (h) := by
  refine CT.of (own := RX7) rfl (by decide) (ro_z _) [.int r] rfl (Nat.le_of_ble_eq_true rfl) (fun E hp => ?_)
  refine s_iload_n (pc := 0) 0 rfl rfl dX7_isRow_0 ?_
  refine s_iconst (pc := 1) (k_i0) dX7_isRow_1 ?_
  refine s_iconst (pc := 2) (k_i5) dX7_isRow_2 ?_
  refine s_csi3 (pc := 3) (c_X7_in) ml_X7_64 ms_X7_in (by decide) (Nat.le_of_ble_eq_true rfl) dX7_isRow_3 ?_
  refine s_iret (pc := 6) dX7_isRow_6 (PostE.of hp ?_ ?_)
  · rfl
  · rfl

set_option maxRecDepth 20000 in
theorem c_X7_isText {r : Int32} {h : Hp} : CT 2 yX7_isText cX7_isText 1 (some .boolean) [.int r] h (some (.int (bi (0 ≤ r ∧ r ≤ 3)))) (h) := by
  refine CT.of (own := RX7) rfl (by decide) (ro_z _) [.int r] rfl (Nat.le_of_ble_eq_true rfl) (fun E hp => ?_)
  refine s_iload_n (pc := 0) 0 rfl rfl dX7_isText_0 ?_
  refine s_iconst (pc := 1) (k_i0) dX7_isText_1 ?_
  refine s_iconst (pc := 2) (k_i3) dX7_isText_2 ?_
  refine s_csi3 (pc := 3) (c_X7_in) ml_X7_64 ms_X7_in (by decide) (Nat.le_of_ble_eq_true rfl) dX7_isText_3 ?_
  refine s_iret (pc := 6) dX7_isText_6 (PostE.of hp ?_ ?_)
  · rfl
  · rfl

set_option maxRecDepth 20000 in
theorem c_X7_tells {x y : Int32} {h : Hp} : CT 1 yX7_tells cX7_tells 3 (some .int) [.ref 50, .int x, .int y] h (some (.int x)) (ui h 50 11 y) := by
  refine CT.of (own := RX7) rfl (by decide) (ro_i _) [.ref 50, .int x, .int y] rfl (Nat.le_of_ble_eq_true rfl) (fun E hp => ?_)
  refine s_aload_n (pc := 0) 0 rfl rfl dX7_tells_0 ?_
  refine s_iload_n (pc := 1) 2 rfl rfl dX7_tells_1 ?_
  refine s_puti (pc := 2) fl_X7_58 fw_7_11 rfl rfl dX7_tells_2 ?_
  refine s_iload_n (pc := 5) 1 rfl rfl dX7_tells_5 ?_
  refine s_iret (pc := 6) dX7_tells_6 (PostE.of hp ?_ ?_)
  · rfl
  · rfl

set_option maxRecDepth 20000 in
theorem c_X7_isShip {i : Int32} {h : Hp} : CT 2 yX7_isShip cX7_isShip 2 (some .boolean) [.ref 50, .int i] h (some (.int (bi (0 ≤ i ∧ i ≤ h.1 56 0 - 1)))) (h) := by
  refine CT.of (own := RX7) rfl (by decide) (ro_z _) [.ref 50, .int i] rfl (Nat.le_of_ble_eq_true rfl) (fun E hp => ?_)
  refine s_iload_n (pc := 0) 1 rfl rfl dX7_isShip_0 ?_
  refine s_iconst (pc := 1) (k_i0) dX7_isShip_1 ?_
  refine s_aload_n (pc := 2) 0 rfl rfl dX7_isShip_2 ?_
  refine s_getr (pc := 3) fl_X7_25 rfl rfl rfl dX7_isShip_3 ?_
  refine s_iconst (pc := 6) (k_i0) dX7_isShip_6 ?_
  refine s_iald (pc := 7) (0) rfl rfl (by decide) dX7_isShip_7 ?_
  refine s_iconst (pc := 8) (k_i1) dX7_isShip_8 ?_
  refine s_isub (pc := 9) dX7_isShip_9 ?_
  refine s_csi3 (pc := 10) (c_X7_in) ml_X7_64 ms_X7_in (by decide) (Nat.le_of_ble_eq_true rfl) dX7_isShip_10 ?_
  refine s_iret (pc := 13) dX7_isShip_13 (PostE.of hp ?_ ?_)
  · rfl
  · rfl
