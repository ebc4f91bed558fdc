theorem note_hi {a : Nat → Nat} {dd x y z j : Nat} (h1 : 55 ≤ j) (h2 : j < 55 + 4 * a 3) : noteN a dd x y z j = a j := by
  simp only [noteN, au]
  repeat rw [if_neg (by omega)]
theorem note_k (a : Nat → Nat) (dd x y z : Nat) : noteN a dd x y z (55 + 4 * a 3) = dd ∧ noteN a dd x y z (55 + 4 * a 3 + 1) = x ∧ noteN a dd x y z (55 + 4 * a 3 + 2) = y := by
  refine ⟨?_, ?_, ?_⟩
  · simp only [noteN, au]; rw [if_neg (by omega), if_neg (by omega), if_neg (by omega), if_neg (by omega), if_pos trivial]
  · simp only [noteN, au]; rw [if_neg (by omega), if_neg (by omega), if_neg (by omega), if_pos trivial]
  · simp only [noteN, au]; rw [if_neg (by omega), if_neg (by omega), if_pos trivial]
theorem gr_hi {a : Nat → Nat} {s n j : Nat} (hn : n ≤ 6) (h : 55 ≤ j) : grN a s n j = a j := by simp only [grN]; rw [if_neg (by omega)]
theorem ug_hi {a : Nat → Nat} {s n j : Nat} (hn : n ≤ 6) (h : 55 ≤ j) : ugN a s n j = a j := by simp only [ugN]; rw [if_neg (by omega)]
/-- what a deed writes down and what it leaves above -/
theorem step_hi {r : Nat → Nat} {dd i x : Nat} (hi : i < 6) (hn : r 0 ≤ 6) (h1 : 55 ≤ x) (h2 : x < 55 + 4 * r 3) : stepN r dd i x = r x := by
  unfold stepN
  split
  · simp only [goesN, au]; rw [if_neg (by omega), if_neg (by omega), if_neg (by omega)]; exact note_hi h1 h2
  split
  · simp only [payN, au]; rw [if_neg (by omega)]; exact note_hi h1 h2
  split
  · simp only [teaN, au]; rw [if_neg (by omega)]; exact note_hi h1 h2
  split
  · simp only [ebbsN, au]; rw [if_neg (by omega), gr_hi hn h1]; exact note_hi h1 h2
  · simp only [yearN, au]; rw [if_neg (by omega)]; exact note_hi h1 h2
theorem tb_inv {r u : Nat → Nat} {dd i : Nat} (hB : OkB r) (ok : okD r dd i) (hu : ∀ x, x < 55 + 4 * (r 3 + 1) → x ≠ 3 → u x = stepN r dd i x) :
    tbOk u (55 + 4 * r 3) ∧ (∀ x, x < 55 + 4 * r 3 → x ≠ 3 → tbN u (55 + 4 * r 3) x = r x) ∧ tbN u (55 + 4 * r 3) 3 = u 3 ∧ ∀ x, 55 ≤ x → tbN u (55 + 4 * r 3) x = u x := by
  obtain ⟨h3, hi6, hdd, hn, d0, d1, d2⟩ := ok
  obtain ⟨⟨o0, o1, o2, o3, o4, o5, o6⟩, os⟩ := id hB.1
  have o64 := hB.1.in64
  have eh : ∀ x, 55 ≤ x → x < 55 + 4 * r 3 → u x = r x := fun x h1 h2 => (hu x (by omega) (by omega)).trans (step_hi hi6 o0 h1 h2)
  rcases (show dd = 0 ∨ dd = 1 ∨ dd = 2 ∨ dd = 3 ∨ dd = 4 by omega) with rfl | rfl | rfl | rfl | rfl
  · obtain ⟨p1, p2⟩ := d0 rfl
    obtain ⟨s0, s1, sw⟩ := Sim.goes r i
    obtain ⟨v2, v4, v5, v6, v3, v7⟩ := goes_v r i
    obtain ⟨n0, n1, n2⟩ := note_k r 0 i (shiftN r i (r 5)) 0
    have e : ∀ x, x < 55 + 4 * (r 3 + 1) → x ≠ 3 → u x = goesN r i x := hu
    have g : ∀ x, 55 ≤ x → goesN r i x = noteN r 0 i (shiftN r i (r 5)) 0 x := fun x hx => by simp only [goesN, au]; rw [if_neg (by omega), if_neg (by omega), if_neg (by omega)]
    have k0 : u (55 + 4 * r 3) = 0 := by rw [e _ (by omega) (by omega), g _ (by omega)]; exact n0
    have k1 : u (55 + 4 * r 3 + 1) = i := by rw [e _ (by omega) (by omega), g _ (by omega)]; exact n1
    have k2 : u (55 + 4 * r 3 + 2) = shiftN r i (r 5) := by rw [e _ (by omega) (by omega), g _ (by omega)]; exact n2
    have u5 := (e 5 (by omega) (by decide)).trans v5
    have u6 := (e 6 (by omega) (by decide)).trans v6
    have u4 := (e 4 (by omega) (by decide)).trans v4
    have u0 := (e 0 (by omega) (by decide)).trans s0
    have pw : 2 ^ i < 2 ^ 6 := Nat.pow_lt_pow_right (by decide) hi6
    refine ⟨⟨by omega, by omega, fun _ => by omega, fun _ => ⟨by rw [u5]; exact Nat.xor_lt_two_pow (n := 6) o64 pw, by rw [k2, u6]; omega⟩, fun q => by omega, fun q => by omega, fun q => by omega⟩, fun x hx h3 => ?_, ?_, fun x hx => ?_⟩
    · simp only [tbN]; rw [if_pos k0, k1, k2, u5, u6, u4]
      simp only [au]
      by_cases q4 : x = 4
      · rw [if_pos q4, q4]; omega
      rw [if_neg q4]
      by_cases q6 : x = 6
      · rw [if_pos q6, q6]; omega
      rw [if_neg q6]
      by_cases q5 : x = 5
      · rw [if_pos q5, q5, Nat.xor_assoc, Nat.xor_self, Nat.xor_zero]
      rw [if_neg q5]
      by_cases q55 : 55 ≤ x
      · exact eh x q55 hx
      · rw [e x (by omega) h3]
        simp only [goesN, au]; rw [if_neg q4, if_neg q6, if_neg q5]
        exact noteN_lo (by omega) h3
    · simp only [tbN]; rw [if_pos k0]; simp only [au]; rw [if_neg (by omega), if_neg (by omega), if_neg (by omega)]
    · simp only [tbN]; rw [if_pos k0]; simp only [au]; rw [if_neg (by omega), if_neg (by omega), if_neg (by omega)]
  · obtain ⟨p1, p2, p3⟩ := d1 rfl
    obtain ⟨v, vi⟩ := pay_v r i
    obtain ⟨n0, n1, n2⟩ := note_k r 1 i 0 0
    have e : ∀ x, x < 55 + 4 * (r 3 + 1) → x ≠ 3 → u x = payN r i x := hu
    have g : ∀ x, 55 ≤ x → payN r i x = noteN r 1 i 0 0 x := fun x hx => by simp only [payN, au]; rw [if_neg (by omega)]
    have k0 : u (55 + 4 * r 3) = 1 := by rw [e _ (by omega) (by omega), g _ (by omega)]; exact n0
    have k1 : u (55 + 4 * r 3 + 1) = i := by rw [e _ (by omega) (by omega), g _ (by omega)]; exact n1
    have u0 := (e 0 (by omega) (by decide)).trans (v 0 (by decide) (by decide) (by omega))
    refine ⟨⟨by omega, by omega, fun _ => by omega, fun q => by omega, fun q => by omega, fun q => by omega, fun q => by omega⟩, fun x hx h3 => ?_, ?_, fun x hx => ?_⟩
    · simp only [tbN]; rw [if_neg (by omega), if_pos k0, k1]
      simp only [au]
      by_cases q : x = 7 + 8 * i + 6
      · rw [if_pos q, q]; exact p3.symm
      rw [if_neg q]
      by_cases q55 : 55 ≤ x
      · exact eh x q55 hx
      · rw [e x (by omega) h3]; exact v x (by omega) h3 q
    · simp only [tbN]; rw [if_neg (by omega), if_pos k0, k1]; simp only [au]; rw [if_neg (by omega)]
    · simp only [tbN]; rw [if_neg (by omega), if_pos k0, k1]; simp only [au]; rw [if_neg (by omega)]
  · obtain ⟨p1, p2⟩ := d2 rfl
    obtain ⟨v, vi⟩ := tea_v r i
    obtain ⟨n0, n1, n2⟩ := note_k r 2 i 0 0
    have e : ∀ x, x < 55 + 4 * (r 3 + 1) → x ≠ 3 → u x = teaN r i x := hu
    have g : ∀ x, 55 ≤ x → teaN r i x = noteN r 2 i 0 0 x := fun x hx => by simp only [teaN, au]; rw [if_neg (by omega)]
    have k0 : u (55 + 4 * r 3) = 2 := by rw [e _ (by omega) (by omega), g _ (by omega)]; exact n0
    have k1 : u (55 + 4 * r 3 + 1) = i := by rw [e _ (by omega) (by omega), g _ (by omega)]; exact n1
    have u0 := (e 0 (by omega) (by decide)).trans (v 0 (by decide) (by decide) (by omega))
    have ut := (e (7 + 8 * i + 5) (by omega) (by omega)).trans vi
    refine ⟨⟨by omega, by omega, fun _ => by omega, fun q => by omega, fun _ => by rw [k1, ut]; omega, fun q => by omega, fun q => by omega⟩, fun x hx h3 => ?_, ?_, fun x hx => ?_⟩
    · simp only [tbN]; rw [if_neg (by omega), if_neg (by omega), if_pos k0, k1, ut]
      simp only [au]
      by_cases q : x = 7 + 8 * i + 5
      · rw [if_pos q, q]; exact Nat.add_sub_cancel _ _
      rw [if_neg q]
      by_cases q55 : 55 ≤ x
      · exact eh x q55 hx
      · rw [e x (by omega) h3]; exact v x (by omega) h3 q
    · simp only [tbN]; rw [if_neg (by omega), if_neg (by omega), if_pos k0, k1]; simp only [au]; rw [if_neg (by omega)]
    · simp only [tbN]; rw [if_neg (by omega), if_neg (by omega), if_pos k0, k1]; simp only [au]; rw [if_neg (by omega)]
  · obtain ⟨s0, s1, sw⟩ := Sim.ebbs r
    obtain ⟨v2, v4, v5, v6, v3, v7⟩ := ebbs_v r
    obtain ⟨n0, n1, n2⟩ := note_k r 3 (r 4) (grdN r) 0
    have e : ∀ x, x < 55 + 4 * (r 3 + 1) → x ≠ 3 → u x = ebbsN r x := hu
    have g : ∀ x, 55 ≤ x → ebbsN r x = noteN r 3 (r 4) (grdN r) 0 x := fun x hx => by simp only [ebbsN, au]; rw [if_neg (by omega), gr_hi o0 hx]
    have k0 : u (55 + 4 * r 3) = 3 := by rw [e _ (by omega) (by omega), g _ (by omega)]; exact n0
    have k1 : u (55 + 4 * r 3 + 1) = r 4 := by rw [e _ (by omega) (by omega), g _ (by omega)]; exact n1
    have k2 : u (55 + 4 * r 3 + 2) = grdN r := by rw [e _ (by omega) (by omega), g _ (by omega)]; exact n2
    have u0 := (e 0 (by omega) (by decide)).trans s0
    have gl : grdN r < 64 := bitsU_lt64 _ o0
    refine ⟨⟨by omega, by omega, fun _ => by omega, fun q => by omega, fun q => by omega, fun _ => ⟨by rw [k2]; exact gl, fun j hj hb => ?_⟩, fun q => by omega⟩, fun x hx h3 => ?_, ?_, fun x hx => ?_⟩
    · rw [k2] at hb
      rw [u0] at hj
      rw [e (7 + 8 * j + 7) (by omega) (by omega), show ebbsN r (7 + 8 * j + 7) = _ from v7 j (by omega), if_pos ⟨hj, hb⟩]
      omega
    · simp only [tbN]; rw [if_neg (by omega), if_neg (by omega), if_neg (by omega), if_pos k0, k1, k2, u0]
      by_cases q55 : 55 ≤ x
      · rw [ug_hi o0 q55]; simp only [au]; rw [if_neg (by omega)]; exact eh x q55 hx
      · by_cases q : x = 4
        · subst q; rw [ugN_lo _ _ _ _ (by decide)]; rfl
        have ea : au u 4 (r 4) x = ebbsN r x := by simp only [au]; rw [if_neg q]; exact e x (by omega) h3
        simp only [ugN]
        rw [ea]
        simp only [ebbsN, au]
        rw [if_neg q]
        simp only [grN]
        rw [noteN_lo (by omega) h3]
        by_cases c : 14 ≤ x ∧ (x - 14) % 8 = 0 ∧ (x - 14) / 8 < r 0 ∧ (grdN r).testBit ((x - 14) / 8) = true
        · rw [if_pos c, if_pos c]; omega
        · rw [if_neg c, if_neg c]
    · simp only [tbN]; rw [if_neg (by omega), if_neg (by omega), if_neg (by omega), if_pos k0, ugN_lo _ _ _ _ (by decide)]; rfl
    · simp only [tbN]; rw [if_neg (by omega), if_neg (by omega), if_neg (by omega), if_pos k0, ug_hi (by omega) hx]; simp only [au]; rw [if_neg (by omega)]
  · obtain ⟨v, vi⟩ := year_v r
    obtain ⟨n0, n1, n2⟩ := note_k r 4 0 0 0
    have e : ∀ x, x < 55 + 4 * (r 3 + 1) → x ≠ 3 → u x = yearN r x := hu
    have g : ∀ x, 55 ≤ x → yearN r x = noteN r 4 0 0 0 x := fun x hx => by simp only [yearN, au]; rw [if_neg (by omega)]
    have k0 : u (55 + 4 * r 3) = 4 := by rw [e _ (by omega) (by omega), g _ (by omega)]; exact n0
    have u0 := (e 0 (by omega) (by decide)).trans (v 0 (by decide) (by decide) (by omega))
    have u1 := (e 1 (by omega) (by decide)).trans vi
    refine ⟨⟨by omega, by omega, fun q => by omega, fun q => by omega, fun q => by omega, fun q => by omega, fun _ => by omega⟩, fun x hx h3 => ?_, ?_, fun x hx => ?_⟩
    · simp only [tbN]; rw [if_neg (by omega), if_neg (by omega), if_neg (by omega), if_neg (by omega), u1]
      simp only [au]
      by_cases q : x = 1
      · rw [if_pos q, q]; omega
      rw [if_neg q]
      by_cases q55 : 55 ≤ x
      · exact eh x q55 hx
      · rw [e x (by omega) h3]; exact v x (by omega) h3 q
    · simp only [tbN]; rw [if_neg (by omega), if_neg (by omega), if_neg (by omega), if_neg (by omega)]; simp only [au]; rw [if_neg (by omega)]
    · simp only [tbN]; rw [if_neg (by omega), if_neg (by omega), if_neg (by omega), if_neg (by omega)]; simp only [au]; rw [if_neg (by omega)]
theorem c_X7_takesBack {k : Nat} {a : Nat → Nat} {h : Hp} (hk : 55 ≤ k) (hk2 : k + 3 < 215) (ok : tbOk a k) : CT 3 yX7_takesBack cX7_takesBack 3 none [.ref 50, .int (nI k)] (wN h a) none (wN h (tbN a k)) := by
  rcases (show a k = 0 ∨ a k = 1 ∨ a k = 2 ∨ a k = 3 ∨ a k = 4 by have := ok.1; omega) with q | q | q | q | q
  · exact c_X7_takesBack_0 hk hk2 q ok
  · exact c_X7_takesBack_1 hk hk2 q ok
  · exact c_X7_takesBack_2 hk hk2 q ok
  · exact c_X7_takesBack_3 hk hk2 q ok
  · exact c_X7_takesBack_4 hk hk2 q ok
/-- the numbers a tell the history ds from b on -/
def Hst (a b ds : Nat → Nat) : Prop := okR b ds (a 3) ∧ ∀ x, x < 55 + 4 * a 3 → a x = runN b ds (a 3) x
/-- t deeds, of m, taken back -/
def undU (a : Nat → Nat) (m : Nat) : Nat → (Nat → Nat)
  | 0 => a
  | t + 1 => tbN (undU a m t) (55 + 4 * (m - 1 - t))
theorem und_inv {a b ds : Nat → Nat} (hb : OkB b) (hb3 : b 3 = 0) (hH : Hst a b ds) : ∀ t, t ≤ a 3 → (∀ x, x < 55 + 4 * (a 3 - t) → x ≠ 3 → undU a (a 3) t x = runN b ds (a 3 - t) x) ∧ undU a (a 3) t 3 = a 3 ∧ ∀ x, 55 ≤ x → undU a (a 3) t x = a x := by
  intro t
  induction t with
  | zero => exact fun _ => ⟨fun x hx _ => hH.2 x hx, rfl, fun _ _ => rfl⟩
  | succ t ih =>
    intro ht
    obtain ⟨i1, i2, i3⟩ := ih (by omega)
    have em : a 3 - t = (a 3 - 1 - t) + 1 := by omega
    obtain ⟨j, hj⟩ : ∃ j, j = a 3 - 1 - t := ⟨_, rfl⟩
    rw [← hj] at em
    obtain ⟨r1, r3⟩ := run_ok hb hb3 hH.1 j (by omega)
    obtain ⟨q1, q2⟩ := hH.1.2 j (by omega)
    have hu : ∀ x, x < 55 + 4 * (runN b ds j 3 + 1) → x ≠ 3 → undU a (a 3) t x = stepN (runN b ds j) (ds j / 6) (ds j % 6) x := fun x hx h3 => by
      have := i1 x (by rw [em]; rw [r3] at hx; exact hx) h3
      rw [this, em]; rfl
    obtain ⟨t1, t2, t3, t4⟩ := tb_inv r1 q2 hu
    rw [r3] at t1 t2 t3 t4
    have e0 : undU a (a 3) (t + 1) = tbN (undU a (a 3) t) (55 + 4 * j) := by rw [hj]; rfl
    rw [e0, show a 3 - (t + 1) = j by omega]
    exact ⟨t2, t3.trans i2, fun x hx => (t4 x hx).trans (i3 x hx)⟩
theorem und_ok {a b ds : Nat → Nat} (hb : OkB b) (hb3 : b 3 = 0) (hH : Hst a b ds) {t : Nat} (ht : t < a 3) : tbOk (undU a (a 3) t) (55 + 4 * (a 3 - 1 - t)) := by
  obtain ⟨i1, i2, i3⟩ := und_inv hb hb3 hH t (by omega)
  have em : a 3 - t = (a 3 - 1 - t) + 1 := by omega
  obtain ⟨r1, r3⟩ := run_ok hb hb3 hH.1 (a 3 - 1 - t) (by omega)
  obtain ⟨q1, q2⟩ := hH.1.2 (a 3 - 1 - t) (by omega)
  have hu : ∀ x, x < 55 + 4 * (runN b ds (a 3 - 1 - t) 3 + 1) → x ≠ 3 → undU a (a 3) t x = stepN (runN b ds (a 3 - 1 - t)) (ds (a 3 - 1 - t) / 6) (ds (a 3 - 1 - t) % 6) x := fun x hx h3 => by
    have := i1 x (by rw [em]; rw [r3] at hx; exact hx) h3
    rw [this, em]; rfl
  obtain ⟨t1, -⟩ := tb_inv r1 q2 hu
  rw [r3] at t1
  exact t1
theorem m1_lt {j n : Nat} (hj : j < 1000) (hn : n < 1000) : nI j - nI 1 < nI n ↔ j ≤ n := by
  rw [Int32.lt_iff_toInt_lt, szr_i hj, nI_toInt (by omega)]; omega
theorem m1_dec {j : Nat} (h : 1 ≤ j) : nI (j - 1) + Int32.ofInt (-1) = nI (j - 1) - nI 1 := by
  rw [show Int32.ofInt (-1) = -1 by decide]
  apply Int32.toBitVec_inj.mp
  rw [Int32.toBitVec_add, Int32.toBitVec_sub, BitVec.sub_eq_add_neg]
  rfl

set_option maxRecDepth 20000 in
theorem c_X7_undoB {n : Int32} {a : Nat → Nat} {h : Hp} (hB : OkB a) (hx : n < 0 ∨ nI (a 3) < n) : CT 4 yX7_undo cX7_undo 4 (some .int) [.ref 50, .int n] (wN h a) (some (.int (-1))) (wN h a) := by
  have hO := hB.1
  have hA := RMw h a
  obtain ⟨⟨o0, o1, o2, o3, o4, o5, o6⟩, os⟩ := id hO
  have o64 := hO.in64
  refine CT.of (own := RX7) rfl (by decide) (ro_i _) [.ref 50, .int n, .null, .null] rfl (Nat.le_of_ble_eq_true rfl) (fun E hp => ?_)
  refine s_iload_n (pc := 0) 1 rfl rfl dX7_undo_0 ?_
  refine s_iconst (pc := 1) (k_i0N) dX7_undo_1 ?_
  refine s_aload_n (pc := 2) 0 rfl rfl dX7_undo_2 ?_
  refine s_getr (pc := 3) (b := 56) fl_X7_25 rfl rfl rfl dX7_undo_3 ?_
  refine s_iconst (pc := 6) (k_i3N) dX7_undo_6 ?_
  refine s_ialdN (pc := 7) (_) rfl rfl (by omega) (RMw _ _ _ (by omega)) dX7_undo_7 ?_
  refine s_csi3 (pc := 8) (c_X7_inF (hx.imp (fun q => q) (fun q => q))) ml_X7_64 ms_X7_in (by decide) (Nat.le_of_ble_eq_true rfl) dX7_undo_8 ?_
  refine s_if_neF (pc := 11) 16 dX7_undo_11 (by decide) ?_
  refine s_iconst (pc := 14) (k_im1) dX7_undo_14 ?_
  refine s_iret (pc := 15) dX7_undo_15 (PostE.of hp ?_ ?_)
  · rfl
  · rfl

set_option maxRecDepth 20000 in
theorem c_X7_undoO {n : Nat} {a b ds : Nat → Nat} {h : Hp} (hB : OkB a) (hb : OkB b) (hb3 : b 3 = 0) (hH : Hst a b ds) (hn : n ≤ a 3) : CT 5 yX7_undo cX7_undo 4 (some .int) [.ref 50, .int (nI n)] (wN h a) (some (.int (nI (a 3 - n)))) (wN h (au (undU a (a 3) (a 3 - n)) 3 n)) := by
  have hO := hB.1
  have hA := RMw h a
  obtain ⟨⟨o0, o1, o2, o3, o4, o5, o6⟩, os⟩ := id hO
  have o64 := hO.in64
  refine CT.of (own := RX7) rfl (by decide) (ro_i _) [.ref 50, .int (nI n), .null, .null] rfl (Nat.le_of_ble_eq_true rfl) (fun E hp => ?_)
  refine s_iload_n (pc := 0) 1 rfl rfl dX7_undo_0 ?_
  refine s_iconst (pc := 1) (k_i0N) dX7_undo_1 ?_
  refine s_aload_n (pc := 2) 0 rfl rfl dX7_undo_2 ?_
  refine s_getr (pc := 3) (b := 56) fl_X7_25 rfl rfl rfl dX7_undo_3 ?_
  refine s_iconst (pc := 6) (k_i3N) dX7_undo_6 ?_
  refine s_ialdN (pc := 7) (_) rfl rfl (by omega) (RMw _ _ _ (by omega)) dX7_undo_7 ?_
  refine s_csi3 (pc := 8) (c_X7_inT (rng_t hn (by omega))) ml_X7_64 ms_X7_in (by decide) (Nat.le_of_ble_eq_true rfl) dX7_undo_8 ?_
  refine s_if_neT (pc := 11) 16 dX7_undo_11 (by decide) ?_
  refine s_aload_n (pc := 16) 0 rfl rfl dX7_undo_16 ?_
  refine s_getr (pc := 17) (b := 56) fl_X7_25 rfl rfl rfl dX7_undo_17 ?_
  refine s_iconst (pc := 20) (k_i3N) dX7_undo_20 ?_
  refine s_ialdN (pc := 21) (_) rfl rfl (by omega) (RMw _ _ _ (by omega)) dX7_undo_21 ?_
  refine s_iload_n (pc := 22) 1 rfl rfl dX7_undo_22 ?_
  refine s_isubN (pc := 23) (by omega) dX7_undo_23 ?_
  refine s_istore_n (pc := 24) 2 rfl (by decide) rfl dX7_undo_24 ?_
  refine s_aload_n (pc := 25) 0 rfl rfl dX7_undo_25 ?_
  refine s_getr (pc := 26) (b := 56) fl_X7_25 rfl rfl rfl dX7_undo_26 ?_
  refine s_iconst (pc := 29) (k_i3N) dX7_undo_29 ?_
  refine s_ialdN (pc := 30) (_) rfl rfl (by omega) (RMw _ _ _ (by omega)) dX7_undo_30 ?_
  refine s_iconst (pc := 31) (k_i1N) dX7_undo_31 ?_
  refine s_isub (pc := 32) dX7_undo_32 ?_
  refine s_istore_n (pc := 33) 3 rfl (by decide) rfl dX7_undo_33 ?_
  suffices lp_34 : ∀ t, t ≤ a 3 - n → WW E cX7_undo RX7 4 _ 34 [.ref 50, .int (nI n), .int (nI (a 3 - n)), .int (nI (a 3 - t) - nI 1)] (wN h (undU a (a 3) t)) [] from lp_34 0 (by omega)
  refine lpi (a 3 - n) (fun t hk_t ih_34 => ?_)
  refine s_iload_n (pc := 34) 3 rfl rfl dX7_undo_34 ?_
  refine s_iload_n (pc := 35) 1 rfl rfl dX7_undo_35 ?_
  refine s_icmp_lt (pc := 36) 55 dX7_undo_36 (by decide) (fun c_36 => ?_) (fun c_36 => ?_)
  · obtain rfl : t = a 3 - n := by have := (m1_lt (j := a 3 - t) (n := n) (by omega) (by omega)).mp c_36; omega
    refine s_aload_n (pc := 55) 0 rfl rfl dX7_undo_55 ?_
    refine s_getr (pc := 56) (b := 56) fl_X7_25 rfl rfl rfl dX7_undo_56 ?_
    refine s_iconst (pc := 59) (k_i3N) dX7_undo_59 ?_
    refine s_iload_n (pc := 60) 1 rfl rfl dX7_undo_60 ?_
    refine s_iast (pc := 61) (_) rfl rfl (by omega) dX7_undo_61 ?_
    rw [wN_ui (by omega)]
    refine s_iload_n (pc := 62) 2 rfl rfl dX7_undo_62 ?_
    refine s_iret (pc := 63) dX7_undo_63 (PostE.of hp ?_ ?_)
    · rfl
    · rfl
  · have q36 : n < a 3 - t := Nat.lt_of_not_le (fun z => c_36 ((m1_lt (by omega) (by omega)).mpr z))
    rw [pk_sub (show 1 ≤ a 3 - t by omega)]
    refine s_aload_n (pc := 39) 0 rfl rfl dX7_undo_39 ?_
    refine s_bipush (pc := 40) (k_b55N) dX7_undo_40 ?_
    refine s_iconst (pc := 42) (k_i4N) dX7_undo_42 ?_
    refine s_iload_n (pc := 43) 3 rfl rfl dX7_undo_43 ?_
    refine s_imulN (pc := 44) dX7_undo_44 ?_
    refine s_iaddN (pc := 45) dX7_undo_45 ?_
    refine s_cvn1 (pc := 46) (c_X7_takesBack (by omega) (by omega) (show tbOk (undU a (a 3) t) (55 + 4 * (a 3 - t - 1)) from by rw [show a 3 - t - 1 = a 3 - 1 - t by omega]; exact und_ok hb hb3 hH (by omega))) ml_X7_205 mw_X7_takesBack rfl (by decide) (Nat.le_of_ble_eq_true rfl) dX7_undo_46 ?_
    refine s_iinc (pc := 49) _ rfl rfl (by decide) rfl dX7_undo_49 ?_
    refine s_goto (pc := 52) 34 dX7_undo_52 (by decide) ?_
    refine WW.lc ?_ (WW.hp ?_ (ih_34 (by omega)))
    · show [_, _, _, Value.int _] = _
      rw [m1_dec (show 1 ≤ a 3 - t by omega), show a 3 - t - 1 = a 3 - (t + 1) by omega]
      rfl
    · show wN h (tbN (undU a (a 3) t) _) = _
      rw [show 55 + 4 * (a 3 - t - 1) = 55 + 4 * (a 3 - 1 - t) by omega]; rfl
