theorem nI_tb {n : Nat} (h : n < 2 ^ 32) : (nI n).toBitVec = BitVec.ofNat 32 n := by
  apply BitVec.eq_of_toNat_eq
  rw [pk_tn h, BitVec.toNat_ofNat, Nat.mod_eq_of_lt h]
theorem nI_of_tb {x : Int32} {n : Nat} (h : n < 2 ^ 32) (hx : x.toBitVec.toNat = n) : x = nI n := by
  apply Int32.toBitVec_inj.mp
  apply BitVec.eq_of_toNat_eq
  rw [hx, pk_tn h]
theorem nI_and {a b : Nat} (ha : a < 2 ^ 31) (hb : b < 2 ^ 31) : nI a &&& nI b = nI (a &&& b) := by
  apply nI_of_tb (Nat.lt_of_le_of_lt Nat.and_le_left (by omega))
  rw [Int32.toBitVec_and, BitVec.toNat_and, pk_tn (by omega), pk_tn (by omega)]
theorem nI_or {a b : Nat} (ha : a < 2 ^ 31) (hb : b < 2 ^ 31) : nI a ||| nI b = nI (a ||| b) := by
  have : a ||| b < 2 ^ 31 := Nat.or_lt_two_pow ha hb
  apply nI_of_tb (by omega)
  rw [Int32.toBitVec_or, BitVec.toNat_or, pk_tn (by omega), pk_tn (by omega)]
theorem nI_xor {a b : Nat} (ha : a < 2 ^ 31) (hb : b < 2 ^ 31) : nI a ^^^ nI b = nI (a ^^^ b) := by
  have : a ^^^ b < 2 ^ 31 := Nat.xor_lt_two_pow ha hb
  apply nI_of_tb (by omega)
  rw [Int32.toBitVec_xor, BitVec.toNat_xor, pk_tn (by omega), pk_tn (by omega)]
theorem nI_sh31 : ∀ k, k < 32 → ((nI k &&& 31).toBitVec.smod 32).toNat = k := by decide +kernel
theorem nI_shr {x k : Nat} (hx : x < 2 ^ 31) (hk : k < 32) : nI x >>> (nI k &&& 31) = nI (x / 2 ^ k) := pk_shrN hx _ k (nI_sh31 k hk)
theorem nI_shl1 {k : Nat} (hk : k < 31) : nI 1 <<< (nI k &&& 31) = nI (2 ^ k) := by
  rw [pk_shlN _ k (nI_sh31 k (by omega)) (by rw [Nat.one_mul]; exact Nat.pow_lt_pow_right (by decide) (by omega)), Nat.one_mul]
theorem nI_zero {x : Nat} (h : x < 2 ^ 31) : nI x = 0 ↔ x = 0 := by
  have := nI_eq (a := x) (b := 0) h (by decide)
  rwa [nI_0] at this
theorem bi_eq0 {p : Prop} [Decidable p] : bi p = 0 ↔ ¬ p := by
  unfold bi; split <;> simp_all
theorem bi_t {p : Prop} [Decidable p] (h : p) : bi p = 1 := if_pos h
theorem bi_f {p : Prop} [Decidable p] (h : ¬ p) : bi p = 0 := if_neg h
theorem bi_cg {p q : Prop} [Decidable p] [Decidable q] (h : p ↔ q) : bi p = bi q := by
  by_cases hq : q
  · rw [bi_t hq, bi_t (h.mpr hq)]
  · rw [bi_f hq, bi_f (fun z => hq (h.mp z))]
theorem ret_t {p : Prop} [Decidable p] {x : Int32} (hx : x = 1) (h : p) : some (Value.int x) = some (.int (bi p)) := by rw [bi_t h, hx]
theorem ret_f {p : Prop} [Decidable p] {x : Int32} (hx : x = 0) (h : ¬ p) : some (Value.int x) = some (.int (bi p)) := by rw [bi_f h, hx]
section SN
variable {E : Cx} {cc : ByteArray} {own : String} {nL d pc : Nat} {L L' : List Value} {h : Hp} {st : List Value} {a : Nat} {x y : Nat}
theorem s_iaddN (hd : decode cc pc = .ok (.iadd, 1)) (k : WW E cc own nL d (pc + 1) L h (.int (nI (x + y)) :: st)) : WW E cc own nL d pc L h (.int (nI y) :: .int (nI x) :: st) := s_iadd hd (by rw [nI_add]; exact k)
theorem s_imulN (hd : decode cc pc = .ok (.imul, 1)) (k : WW E cc own nL d (pc + 1) L h (.int (nI (x * y)) :: st)) : WW E cc own nL d pc L h (.int (nI y) :: .int (nI x) :: st) := s_imul hd (by rw [pk_mul]; exact k)
theorem s_isubN (hle : y ≤ x) (hd : decode cc pc = .ok (.isub, 1)) (k : WW E cc own nL d (pc + 1) L h (.int (nI (x - y)) :: st)) : WW E cc own nL d pc L h (.int (nI y) :: .int (nI x) :: st) := s_isub hd (by rw [pk_sub hle]; exact k)
theorem s_iandN (hx : x < 2 ^ 31) (hy : y < 2 ^ 31) (hd : decode cc pc = .ok (.iand, 1)) (k : WW E cc own nL d (pc + 1) L h (.int (nI (x &&& y)) :: st)) : WW E cc own nL d pc L h (.int (nI y) :: .int (nI x) :: st) := s_iand hd (by rw [nI_and hx hy]; exact k)
theorem s_iorN (hx : x < 2 ^ 31) (hy : y < 2 ^ 31) (hd : decode cc pc = .ok (.ior, 1)) (k : WW E cc own nL d (pc + 1) L h (.int (nI (x ||| y)) :: st)) : WW E cc own nL d pc L h (.int (nI y) :: .int (nI x) :: st) := s_ior hd (by rw [nI_or hx hy]; exact k)
theorem s_ixorN (hx : x < 2 ^ 31) (hy : y < 2 ^ 31) (hd : decode cc pc = .ok (.ixor, 1)) (k : WW E cc own nL d (pc + 1) L h (.int (nI (x ^^^ y)) :: st)) : WW E cc own nL d pc L h (.int (nI y) :: .int (nI x) :: st) := s_ixor hd (by rw [nI_xor hx hy]; exact k)
theorem s_ishrN (hx : x < 2 ^ 31) (hy : y < 32) (hd : decode cc pc = .ok (.ishr, 1)) (k : WW E cc own nL d (pc + 1) L h (.int (nI (x / 2 ^ y)) :: st)) : WW E cc own nL d pc L h (.int (nI y) :: .int (nI x) :: st) := s_ishr hd (by rw [nI_shr hx hy]; exact k)
theorem s_ishl1N (hy : y < 31) (hd : decode cc pc = .ok (.ishl, 1)) (k : WW E cc own nL d (pc + 1) L h (.int (nI (2 ^ y)) :: st)) : WW E cc own nL d pc L h (.int (nI y) :: .int (nI 1) :: st) := s_ishl hd (by rw [nI_shl1 hy]; exact k)
theorem s_idivN (hx : x < 2 ^ 31) (hy : y < 2 ^ 31) (h0 : 0 < y) (hd : decode cc pc = .ok (.idiv, 1)) (k : WW E cc own nL d (pc + 1) L h (.int (nI (x / y)) :: st)) : WW E cc own nL d pc L h (.int (nI y) :: .int (nI x) :: st) := s_idiv (nI_ne0 h0 hy) hd (by rw [pk_div hx h0 hy]; exact k)
theorem s_iremN (hx : x < 2 ^ 31) (hy : y < 2 ^ 31) (h0 : 0 < y) (hd : decode cc pc = .ok (.irem, 1)) (k : WW E cc own nL d (pc + 1) L h (.int (nI (x % y)) :: st)) : WW E cc own nL d pc L h (.int (nI y) :: .int (nI x) :: st) := s_irem (nI_ne0 h0 hy) hd (by rw [pk_rem hx h0 hy]; exact k)
theorem s_iincN {i : Nat} (hg : lgL L i = .int (nI x)) (hn : i < nL) (hL : setL L i (.int (nI (x + 1))) = L') (hd : decode cc pc = .ok (.iinc i 1, 3)) (k : WW E cc own nL d (pc + 3) L' h st) : WW E cc own nL d pc L h st := s_iinc (nI (x + 1)) hg (show nI x + Int32.ofInt 1 = _ by rw [show Int32.ofInt 1 = 1 by decide]; exact nI_1 x) hn hL hd k
theorem s_iinc2N {i : Nat} (hg : lgL L i = .int (nI x)) (hn : i < nL) (hL : setL L i (.int (nI (x + 2))) = L') (hd : decode cc pc = .ok (.iinc i 2, 3)) (k : WW E cc own nL d (pc + 3) L' h st) : WW E cc own nL d pc L h st := s_iinc _ hg (show nI x + Int32.ofInt 2 = _ by rw [show Int32.ofInt 2 = nI 2 by decide, nI_add]) hn hL hd k
theorem s_iincM {i : Nat} (hg : lgL L i = .int (nI (x + 1))) (hn : i < nL) (hL : setL L i (.int (nI x)) = L') (hd : decode cc pc = .ok (.iinc i (-1), 3)) (k : WW E cc own nL d (pc + 3) L' h st) : WW E cc own nL d pc L h st := s_iinc _ hg (show nI (x + 1) + Int32.ofInt (-1) = _ by rw [show Int32.ofInt (-1) = -1 by decide, pk_m1]) hn hL hd k
theorem s_icmp_eqN {off : Int} (hx : x < 2 ^ 31) (hy : y < 2 ^ 31) (tgt : Nat) (hd : decode cc pc = .ok (.if_icmp .eq off, 3)) (ht : (pc : Int) + off = (tgt : Int)) (k1 : x = y → WW E cc own nL d tgt L h st) (k2 : ¬ x = y → WW E cc own nL d (pc + 3) L h st) : WW E cc own nL d pc L h (.int (nI y) :: .int (nI x) :: st) := s_icmp_eq tgt hd ht (fun z => k1 ((nI_eq hx hy).mp z)) (fun z => k2 (fun q => z ((nI_eq hx hy).mpr q)))
theorem s_icmp_ltN {off : Int} (hx : x < 2 ^ 31) (hy : y < 2 ^ 31) (tgt : Nat) (hd : decode cc pc = .ok (.if_icmp .lt off, 3)) (ht : (pc : Int) + off = (tgt : Int)) (k1 : x < y → WW E cc own nL d tgt L h st) (k2 : ¬ x < y → WW E cc own nL d (pc + 3) L h st) : WW E cc own nL d pc L h (.int (nI y) :: .int (nI x) :: st) := s_icmp_lt tgt hd ht (fun z => k1 ((nI_ltI hx hy).mp z)) (fun z => k2 (fun q => z ((nI_ltI hx hy).mpr q)))
theorem s_icmp_leN {off : Int} (hx : x < 2 ^ 31) (hy : y < 2 ^ 31) (tgt : Nat) (hd : decode cc pc = .ok (.if_icmp .le off, 3)) (ht : (pc : Int) + off = (tgt : Int)) (k1 : x ≤ y → WW E cc own nL d tgt L h st) (k2 : ¬ x ≤ y → WW E cc own nL d (pc + 3) L h st) : WW E cc own nL d pc L h (.int (nI y) :: .int (nI x) :: st) := s_icmp_le tgt hd ht (fun z => k1 ((nI_leI hx hy).mp z)) (fun z => k2 (fun q => z ((nI_leI hx hy).mpr q)))
theorem s_icmp_geN {off : Int} (hx : x < 2 ^ 31) (hy : y < 2 ^ 31) (tgt : Nat) (hd : decode cc pc = .ok (.if_icmp .ge off, 3)) (ht : (pc : Int) + off = (tgt : Int)) (k1 : y ≤ x → WW E cc own nL d tgt L h st) (k2 : ¬ y ≤ x → WW E cc own nL d (pc + 3) L h st) : WW E cc own nL d pc L h (.int (nI y) :: .int (nI x) :: st) := s_icmp_ge tgt hd ht (fun z => k1 ((nI_leI hy hx).mp z)) (fun z => k2 (fun q => z ((nI_leI hy hx).mpr q)))
theorem s_icmp_gtN {off : Int} (hx : x < 2 ^ 31) (hy : y < 2 ^ 31) (tgt : Nat) (hd : decode cc pc = .ok (.if_icmp .gt off, 3)) (ht : (pc : Int) + off = (tgt : Int)) (k1 : y < x → WW E cc own nL d tgt L h st) (k2 : ¬ y < x → WW E cc own nL d (pc + 3) L h st) : WW E cc own nL d pc L h (.int (nI y) :: .int (nI x) :: st) := s_icmp_gt tgt hd ht (fun z => k1 ((nI_ltI hy hx).mp z)) (fun z => k2 (fun q => z ((nI_ltI hy hx).mpr q)))
theorem s_icmp_neN {off : Int} (hx : x < 2 ^ 31) (hy : y < 2 ^ 31) (tgt : Nat) (hd : decode cc pc = .ok (.if_icmp .ne off, 3)) (ht : (pc : Int) + off = (tgt : Int)) (k1 : ¬ x = y → WW E cc own nL d tgt L h st) (k2 : x = y → WW E cc own nL d (pc + 3) L h st) : WW E cc own nL d pc L h (.int (nI y) :: .int (nI x) :: st) := s_icmp_ne tgt hd ht (fun z => k1 (fun q => z ((nI_eq hx hy).mpr q))) (fun z => k2 ((nI_eq hx hy).mp z))
theorem s_if_eqN {off : Int} (hx : x < 2 ^ 31) (tgt : Nat) (hd : decode cc pc = .ok (.ifCond .eq off, 3)) (ht : (pc : Int) + off = (tgt : Int)) (k1 : x = 0 → WW E cc own nL d tgt L h st) (k2 : ¬ x = 0 → WW E cc own nL d (pc + 3) L h st) : WW E cc own nL d pc L h (.int (nI x) :: st) := s_if_eq tgt hd ht (fun z => k1 ((nI_zero hx).mp z)) (fun z => k2 (fun q => z ((nI_zero hx).mpr q)))
theorem s_if_neN {off : Int} (hx : x < 2 ^ 31) (tgt : Nat) (hd : decode cc pc = .ok (.ifCond .ne off, 3)) (ht : (pc : Int) + off = (tgt : Int)) (k1 : ¬ x = 0 → WW E cc own nL d tgt L h st) (k2 : x = 0 → WW E cc own nL d (pc + 3) L h st) : WW E cc own nL d pc L h (.int (nI x) :: st) := s_if_ne tgt hd ht (fun z => k1 (fun q => z ((nI_zero hx).mpr q))) (fun z => k2 ((nI_zero hx).mp z))
theorem s_if_ltN {off : Int} (hx : x < 2 ^ 31) (tgt : Nat) (hd : decode cc pc = .ok (.ifCond .lt off, 3)) (ht : (pc : Int) + off = (tgt : Int)) (k2 : WW E cc own nL d (pc + 3) L h st) : WW E cc own nL d pc L h (.int (nI x) :: st) := s_if_lt tgt hd ht (fun z => absurd z (nI_pos hx)) (fun _ => k2)
theorem s_if_geN {off : Int} (hx : x < 2 ^ 31) (tgt : Nat) (hd : decode cc pc = .ok (.ifCond .ge off, 3)) (ht : (pc : Int) + off = (tgt : Int)) (k1 : WW E cc own nL d tgt L h st) : WW E cc own nL d pc L h (.int (nI x) :: st) := s_if_ge tgt hd ht (fun _ => k1) (fun z => absurd (nI_pos' hx) z)
theorem s_if_gtN {off : Int} (hx : x < 2 ^ 31) (tgt : Nat) (hd : decode cc pc = .ok (.ifCond .gt off, 3)) (ht : (pc : Int) + off = (tgt : Int)) (k1 : 0 < x → WW E cc own nL d tgt L h st) (k2 : x = 0 → WW E cc own nL d (pc + 3) L h st) : WW E cc own nL d pc L h (.int (nI x) :: st) := s_if_gt tgt hd ht (fun z => k1 (Nat.pos_of_ne_zero (fun q => by rw [q, nI_0] at z; exact absurd z (by decide)))) (fun z => k2 (Nat.eq_zero_of_not_pos (fun q => z (by have := nI_lt q hx; rwa [nI_0] at this))))
theorem s_if_leN {off : Int} (hx : x < 2 ^ 31) (tgt : Nat) (hd : decode cc pc = .ok (.ifCond .le off, 3)) (ht : (pc : Int) + off = (tgt : Int)) (k1 : x = 0 → WW E cc own nL d tgt L h st) (k2 : 0 < x → WW E cc own nL d (pc + 3) L h st) : WW E cc own nL d pc L h (.int (nI x) :: st) := s_if_le tgt hd ht (fun z => k1 (Nat.eq_zero_of_not_pos (fun q => nI_nle q hx z))) (fun z => k2 (Nat.pos_of_ne_zero (fun q => z (by rw [q, nI_0]; decide))))
theorem s_if_eqB {p : Prop} [Decidable p] {off : Int} (tgt : Nat) (hd : decode cc pc = .ok (.ifCond .eq off, 3)) (ht : (pc : Int) + off = (tgt : Int)) (k1 : ¬ p → WW E cc own nL d tgt L h st) (k2 : p → WW E cc own nL d (pc + 3) L h st) : WW E cc own nL d pc L h (.int (bi p) :: st) := s_if_eq tgt hd ht (fun z => k1 (bi_eq0.mp z)) (fun z => k2 (Decidable.byContradiction (fun q => z (bi_eq0.mpr q))))
theorem s_if_neB {p : Prop} [Decidable p] {off : Int} (tgt : Nat) (hd : decode cc pc = .ok (.ifCond .ne off, 3)) (ht : (pc : Int) + off = (tgt : Int)) (k1 : p → WW E cc own nL d tgt L h st) (k2 : ¬ p → WW E cc own nL d (pc + 3) L h st) : WW E cc own nL d pc L h (.int (bi p) :: st) := s_if_ne tgt hd ht (fun z => k1 (Decidable.byContradiction (fun q => z (bi_eq0.mpr q)))) (fun z => k2 (bi_eq0.mp z))
theorem s_ialdN {i : Int32} {n v : Nat} (j : Nat) (ha : lyL[a]? = some (1, n)) (hi : i = nI j) (hj : j < n) (hv : h.1 a j = nI v) (hd : decode cc pc = .ok (.iaload, 1)) (k : WW E cc own nL d (pc + 1) L h (.int (nI v) :: st)) : WW E cc own nL d pc L h (.int i :: .ref a :: st) := s_iald j ha hi hj hd (by rw [hv]; exact k)
theorem s_ialdE {i v : Int32} {n : Nat} (j : Nat) (ha : lyL[a]? = some (1, n)) (hi : i = nI j) (hj : j < n) (hv : h.1 a j = v) (hd : decode cc pc = .ok (.iaload, 1)) (k : WW E cc own nL d (pc + 1) L h (.int v :: st)) : WW E cc own nL d pc L h (.int i :: .ref a :: st) := s_iald j ha hi hj hd (by rw [hv]; exact k)
theorem s_getiE {v : Int32} {idx ci k0 : Nat} (hf : FL own idx ci k0) (hk : fkA ci k0 = 0) (ha : lyL[a]? = some (0, ci)) (hv : h.1 a k0 = v) (hd : decode cc pc = .ok (.getfield idx, 3)) (k : WW E cc own nL d (pc + 3) L h (.int v :: st)) : WW E cc own nL d pc L h (.ref a :: st) := s_geti hf hk ha hd (by rw [hv]; exact k)
theorem s_getzE {v : Int32} {idx ci k0 : Nat} (hf : FL own idx ci k0) (hk : fkA ci k0 = 3) (ha : lyL[a]? = some (0, ci)) (hv : h.1 a k0 = v) (hd : decode cc pc = .ok (.getfield idx, 3)) (k : WW E cc own nL d (pc + 3) L h (.int v :: st)) : WW E cc own nL d pc L h (.ref a :: st) := s_getz hf hk ha hd (by rw [hv]; exact k)
/-- another way to see what stands on the stack, in the locals, in the contents -/
theorem WW.as {st2 : List Value} (e : st2 = st) (k : WW E cc own nL d pc L h st) : WW E cc own nL d pc L h st2 := e ▸ k
theorem WW.hp {h2 : Hp} (e : h2 = h) (k : WW E cc own nL d pc L h st) : WW E cc own nL d pc L h2 st := e ▸ k
theorem WW.lc {L2 : List Value} (e : L2 = L) (k : WW E cc own nL d pc L h st) : WW E cc own nL d pc L2 h st := e ▸ k
theorem WW.top {v v2 : Int32} (e : v2 = v) (k : WW E cc own nL d pc L h (.int v :: st)) : WW E cc own nL d pc L h (.int v2 :: st) := e ▸ k
theorem WW.topl {v v2 : Int64} (e : v2 = v) (k : WW E cc own nL d pc L h (.long v :: st)) : WW E cc own nL d pc L h (.long v2 :: st) := e ▸ k
end SN
