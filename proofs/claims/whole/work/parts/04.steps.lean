section ST
variable {E : Cx} {cc : ByteArray} {own : String} {nL d pc : Nat} {L L' : List Value} {h : Hp} {st : List Value}
theorem s_iconst {n : Int} {v : Int32} (hv : Int32.ofInt n = v) (hd : decode cc pc = .ok (.iconst n, 1)) (k : WW E cc own nL d (pc + 1) L h (.int v :: st)) : WW E cc own nL d pc L h (st) := by
  obtain ⟨p, l, e, R, s, m, args, below, meth, c, G, A, ce, sl, Q, post⟩ := E
  intro ok ls H locs hl hP hD hS
  exact lv_iconst ok.2.1.1 ok.2.1.2.1 hd hv (k ok ls H locs hl hP hD hS)
theorem s_bipush {n : Int} {v : Int32} (hv : (Int8.ofInt n).toInt32 = v) (hd : decode cc pc = .ok (.bipush n, 2)) (k : WW E cc own nL d (pc + 2) L h (.int v :: st)) : WW E cc own nL d pc L h (st) := by
  obtain ⟨p, l, e, R, s, m, args, below, meth, c, G, A, ce, sl, Q, post⟩ := E
  intro ok ls H locs hl hP hD hS
  exact lv_bipush ok.2.1.1 ok.2.1.2.1 hd hv (k ok ls H locs hl hP hD hS)
theorem s_sipush {n : Int} {v : Int32} (hv : (Int16.ofInt n).toInt32 = v) (hd : decode cc pc = .ok (.sipush n, 3)) (k : WW E cc own nL d (pc + 3) L h (.int v :: st)) : WW E cc own nL d pc L h (st) := by
  obtain ⟨p, l, e, R, s, m, args, below, meth, c, G, A, ce, sl, Q, post⟩ := E
  intro ok ls H locs hl hP hD hS
  exact lv_sipush ok.2.1.1 ok.2.1.2.1 hd hv (k ok ls H locs hl hP hD hS)
theorem s_lconst {n : Fin 2} {v : Int64} (hv : Int64.ofNat (n : Nat) = v) (hd : decode cc pc = .ok (.lconst n, 1)) (k : WW E cc own nL d (pc + 1) L h (.long v :: st)) : WW E cc own nL d pc L h (st) := by
  obtain ⟨p, l, e, R, s, m, args, below, meth, c, G, A, ce, sl, Q, post⟩ := E
  intro ok ls H locs hl hP hD hS
  exact lv_lconst ok.2.1.1 ok.2.1.2.1 hd hv (k ok ls H locs hl hP hD hS)
theorem s_iload_n {k4 : Fin 4} (i : Nat) {x : Int32} (hi : (k4 : Nat) = i) (hg : lgL L i = .int x) (hd : decode cc pc = .ok (.iload_n k4, 1)) (k : WW E cc own nL d (pc + 1) L h (.int x :: st)) : WW E cc own nL d pc L h (st) := by
  obtain ⟨p, l, e, R, s, m, args, below, meth, c, G, A, ce, sl, Q, post⟩ := E
  intro ok ls H locs hl hP hD hS
  exact lv_iload_n ok.2.1.1 ok.2.1.2.1 hd hi (hl.at hg (by simp)) (k ok ls H locs hl hP hD hS)
theorem s_iload {i : Nat} {x : Int32} (hg : lgL L i = .int x) (hd : decode cc pc = .ok (.iload i, 2)) (k : WW E cc own nL d (pc + 2) L h (.int x :: st)) : WW E cc own nL d pc L h (st) := by
  obtain ⟨p, l, e, R, s, m, args, below, meth, c, G, A, ce, sl, Q, post⟩ := E
  intro ok ls H locs hl hP hD hS
  exact lv_iload ok.2.1.1 ok.2.1.2.1 hd (hl.at hg (by simp)) (k ok ls H locs hl hP hD hS)
theorem s_lload_n {k4 : Fin 4} (i : Nat) {x : Int64} (hi : (k4 : Nat) = i) (hg : lgL L i = .long x) (hd : decode cc pc = .ok (.lload_n k4, 1)) (k : WW E cc own nL d (pc + 1) L h (.long x :: st)) : WW E cc own nL d pc L h (st) := by
  obtain ⟨p, l, e, R, s, m, args, below, meth, c, G, A, ce, sl, Q, post⟩ := E
  intro ok ls H locs hl hP hD hS
  exact lv_lload_n ok.2.1.1 ok.2.1.2.1 hd hi (hl.at hg (by simp)) (k ok ls H locs hl hP hD hS)
theorem s_lload {i : Nat} {x : Int64} (hg : lgL L i = .long x) (hd : decode cc pc = .ok (.lload i, 2)) (k : WW E cc own nL d (pc + 2) L h (.long x :: st)) : WW E cc own nL d pc L h (st) := by
  obtain ⟨p, l, e, R, s, m, args, below, meth, c, G, A, ce, sl, Q, post⟩ := E
  intro ok ls H locs hl hP hD hS
  exact lv_lload ok.2.1.1 ok.2.1.2.1 hd (hl.at hg (by simp)) (k ok ls H locs hl hP hD hS)
theorem s_aload_n {k4 : Fin 4} (i : Nat) {x : Nat} (hi : (k4 : Nat) = i) (hg : lgL L i = .ref x) (hd : decode cc pc = .ok (.aload_n k4, 1)) (k : WW E cc own nL d (pc + 1) L h (.ref x :: st)) : WW E cc own nL d pc L h (st) := by
  obtain ⟨p, l, e, R, s, m, args, below, meth, c, G, A, ce, sl, Q, post⟩ := E
  intro ok ls H locs hl hP hD hS
  exact lv_aload_n ok.2.1.1 ok.2.1.2.1 hd hi (hl.at hg (by simp)) (k ok ls H locs hl hP hD hS)
theorem s_aload {i : Nat} {x : Nat} (hg : lgL L i = .ref x) (hd : decode cc pc = .ok (.aload i, 2)) (k : WW E cc own nL d (pc + 2) L h (.ref x :: st)) : WW E cc own nL d pc L h (st) := by
  obtain ⟨p, l, e, R, s, m, args, below, meth, c, G, A, ce, sl, Q, post⟩ := E
  intro ok ls H locs hl hP hD hS
  exact lv_aload ok.2.1.1 ok.2.1.2.1 hd (hl.at hg (by simp)) (k ok ls H locs hl hP hD hS)
theorem s_istore_n {k4 : Fin 4} (i : Nat) {x : Int32} (hi : (k4 : Nat) = i) (hn : i < nL) (hL : setL L i (.int x) = L') (hd : decode cc pc = .ok (.istore_n k4, 1)) (k : WW E cc own nL d (pc + 1) L' h (st)) : WW E cc own nL d pc L h (.int x :: st) := by
  obtain ⟨p, l, e, R, s, m, args, below, meth, c, G, A, ce, sl, Q, post⟩ := E
  intro ok ls H locs hl hP hD hS
  exact lv_istore_n ok.2.1.1 ok.2.1.2.1 hd hi hl.has hn rfl (fun ls' hl' => k ok ls' H locs (lvR.set1 (v := .int x) hL hl') hP hD hS)
theorem s_istore {i : Nat} {x : Int32} (hn : i < nL) (hL : setL L i (.int x) = L') (hd : decode cc pc = .ok (.istore i, 2)) (k : WW E cc own nL d (pc + 2) L' h (st)) : WW E cc own nL d pc L h (.int x :: st) := by
  obtain ⟨p, l, e, R, s, m, args, below, meth, c, G, A, ce, sl, Q, post⟩ := E
  intro ok ls H locs hl hP hD hS
  exact lv_istore ok.2.1.1 ok.2.1.2.1 hd hl.has hn rfl (fun ls' hl' => k ok ls' H locs (lvR.set1 (v := .int x) hL hl') hP hD hS)
theorem s_astore_n {k4 : Fin 4} (i : Nat) {x : Nat} (hi : (k4 : Nat) = i) (hn : i < nL) (hL : setL L i (.ref x) = L') (hd : decode cc pc = .ok (.astore_n k4, 1)) (k : WW E cc own nL d (pc + 1) L' h (st)) : WW E cc own nL d pc L h (.ref x :: st) := by
  obtain ⟨p, l, e, R, s, m, args, below, meth, c, G, A, ce, sl, Q, post⟩ := E
  intro ok ls H locs hl hP hD hS
  exact lv_astore_n ok.2.1.1 ok.2.1.2.1 hd hi hl.has hn rfl (fun ls' hl' => k ok ls' H locs (lvR.set1 (v := .ref x) hL hl') hP hD hS)
theorem s_astore {i : Nat} {x : Nat} (hn : i < nL) (hL : setL L i (.ref x) = L') (hd : decode cc pc = .ok (.astore i, 2)) (k : WW E cc own nL d (pc + 2) L' h (st)) : WW E cc own nL d pc L h (.ref x :: st) := by
  obtain ⟨p, l, e, R, s, m, args, below, meth, c, G, A, ce, sl, Q, post⟩ := E
  intro ok ls H locs hl hP hD hS
  exact lv_astore ok.2.1.1 ok.2.1.2.1 hd hl.has hn rfl (fun ls' hl' => k ok ls' H locs (lvR.set1 (v := .ref x) hL hl') hP hD hS)
theorem s_lstore_n {k4 : Fin 4} (i : Nat) {x : Int64} (hi : (k4 : Nat) = i) (hn : i + 1 < nL) (hL : (setL L i (.long x)).set (i + 1) .null = L') (hd : decode cc pc = .ok (.lstore_n k4, 1)) (k : WW E cc own nL d (pc + 1) L' h (st)) : WW E cc own nL d pc L h (.long x :: st) := by
  obtain ⟨p, l, e, R, s, m, args, below, meth, c, G, A, ce, sl, Q, post⟩ := E
  intro ok ls H locs hl hP hD hS
  exact lv_lstore_n ok.2.1.1 ok.2.1.2.1 hd hi hl.has hn rfl (fun ls' hl' => k ok ls' H locs (lvR.set2 (v := .long x) hL hl') hP hD hS)
theorem s_lstore {i : Nat} {x : Int64} (hn : i + 1 < nL) (hL : (setL L i (.long x)).set (i + 1) .null = L') (hd : decode cc pc = .ok (.lstore i, 2)) (k : WW E cc own nL d (pc + 2) L' h (st)) : WW E cc own nL d pc L h (.long x :: st) := by
  obtain ⟨p, l, e, R, s, m, args, below, meth, c, G, A, ce, sl, Q, post⟩ := E
  intro ok ls H locs hl hP hD hS
  exact lv_lstore ok.2.1.1 ok.2.1.2.1 hd hl.has hn rfl (fun ls' hl' => k ok ls' H locs (lvR.set2 (v := .long x) hL hl') hP hD hS)
theorem s_iinc {i : Nat} {n : Int} {x : Int32} (v : Int32) (hg : lgL L i = .int x) (hv : x + Int32.ofInt n = v) (hn : i < nL) (hL : setL L i (.int v) = L') (hd : decode cc pc = .ok (.iinc i n, 3)) (k : WW E cc own nL d (pc + 3) L' h st) : WW E cc own nL d pc L h st := by
  obtain ⟨p, l, e, R, s, m, args, below, meth, c, G, A, ce, sl, Q, post⟩ := E
  intro ok ls H locs hl hP hD hS
  obtain ⟨j, hj⟩ := List.getElem?_of_mem (mem_ascL (ρ := G.1) (k := 0) (lgL_get hg (by simp)) (by simp))
  rw [Nat.zero_add] at hj
  exact lv_iinc ok.2.1.1 ok.2.1.2.1 hd hl.has hj hv hn rfl (fun ls' hl' => k ok ls' H locs (lvR.set1 (v := .int v) hL hl') hP hD hS)
theorem s_iadd {x y : Int32} (hd : decode cc pc = .ok (.iadd, 1)) (k : WW E cc own nL d (pc + 1) L h (.int (x + y) :: st)) : WW E cc own nL d pc L h (.int y :: .int x :: st) := by
  obtain ⟨p, l, e, R, s, m, args, below, meth, c, G, A, ce, sl, Q, post⟩ := E
  intro ok ls H locs hl hP hD hS
  exact lv_iadd ok.2.1.1 ok.2.1.2.1 hd (k ok ls H locs hl hP hD hS)
theorem s_isub {x y : Int32} (hd : decode cc pc = .ok (.isub, 1)) (k : WW E cc own nL d (pc + 1) L h (.int (x - y) :: st)) : WW E cc own nL d pc L h (.int y :: .int x :: st) := by
  obtain ⟨p, l, e, R, s, m, args, below, meth, c, G, A, ce, sl, Q, post⟩ := E
  intro ok ls H locs hl hP hD hS
  exact lv_isub ok.2.1.1 ok.2.1.2.1 hd (k ok ls H locs hl hP hD hS)
theorem s_imul {x y : Int32} (hd : decode cc pc = .ok (.imul, 1)) (k : WW E cc own nL d (pc + 1) L h (.int (x * y) :: st)) : WW E cc own nL d pc L h (.int y :: .int x :: st) := by
  obtain ⟨p, l, e, R, s, m, args, below, meth, c, G, A, ce, sl, Q, post⟩ := E
  intro ok ls H locs hl hP hD hS
  exact lv_imul ok.2.1.1 ok.2.1.2.1 hd (k ok ls H locs hl hP hD hS)
theorem s_iand {x y : Int32} (hd : decode cc pc = .ok (.iand, 1)) (k : WW E cc own nL d (pc + 1) L h (.int (x &&& y) :: st)) : WW E cc own nL d pc L h (.int y :: .int x :: st) := by
  obtain ⟨p, l, e, R, s, m, args, below, meth, c, G, A, ce, sl, Q, post⟩ := E
  intro ok ls H locs hl hP hD hS
  exact lv_iand ok.2.1.1 ok.2.1.2.1 hd (k ok ls H locs hl hP hD hS)
theorem s_ior {x y : Int32} (hd : decode cc pc = .ok (.ior, 1)) (k : WW E cc own nL d (pc + 1) L h (.int (x ||| y) :: st)) : WW E cc own nL d pc L h (.int y :: .int x :: st) := by
  obtain ⟨p, l, e, R, s, m, args, below, meth, c, G, A, ce, sl, Q, post⟩ := E
  intro ok ls H locs hl hP hD hS
  exact lv_ior ok.2.1.1 ok.2.1.2.1 hd (k ok ls H locs hl hP hD hS)
theorem s_ixor {x y : Int32} (hd : decode cc pc = .ok (.ixor, 1)) (k : WW E cc own nL d (pc + 1) L h (.int (x ^^^ y) :: st)) : WW E cc own nL d pc L h (.int y :: .int x :: st) := by
  obtain ⟨p, l, e, R, s, m, args, below, meth, c, G, A, ce, sl, Q, post⟩ := E
  intro ok ls H locs hl hP hD hS
  exact lv_ixor ok.2.1.1 ok.2.1.2.1 hd (k ok ls H locs hl hP hD hS)
theorem s_ishl {x y : Int32} (hd : decode cc pc = .ok (.ishl, 1)) (k : WW E cc own nL d (pc + 1) L h (.int (x <<< (y &&& 31)) :: st)) : WW E cc own nL d pc L h (.int y :: .int x :: st) := by
  obtain ⟨p, l, e, R, s, m, args, below, meth, c, G, A, ce, sl, Q, post⟩ := E
  intro ok ls H locs hl hP hD hS
  exact lv_ishl ok.2.1.1 ok.2.1.2.1 hd (k ok ls H locs hl hP hD hS)
theorem s_ishr {x y : Int32} (hd : decode cc pc = .ok (.ishr, 1)) (k : WW E cc own nL d (pc + 1) L h (.int (x >>> (y &&& 31)) :: st)) : WW E cc own nL d pc L h (.int y :: .int x :: st) := by
  obtain ⟨p, l, e, R, s, m, args, below, meth, c, G, A, ce, sl, Q, post⟩ := E
  intro ok ls H locs hl hP hD hS
  exact lv_ishr ok.2.1.1 ok.2.1.2.1 hd (k ok ls H locs hl hP hD hS)
theorem s_idiv {x y : Int32} (hne : ¬ y = 0) (hd : decode cc pc = .ok (.idiv, 1)) (k : WW E cc own nL d (pc + 1) L h (.int (x / y) :: st)) : WW E cc own nL d pc L h (.int y :: .int x :: st) := by
  obtain ⟨p, l, e, R, s, m, args, below, meth, c, G, A, ce, sl, Q, post⟩ := E
  intro ok ls H locs hl hP hD hS
  exact lv_idiv ok.2.1.1 ok.2.1.2.1 hd hne (k ok ls H locs hl hP hD hS)
theorem s_irem {x y : Int32} (hne : ¬ y = 0) (hd : decode cc pc = .ok (.irem, 1)) (k : WW E cc own nL d (pc + 1) L h (.int (x - x / y * y) :: st)) : WW E cc own nL d pc L h (.int y :: .int x :: st) := by
  obtain ⟨p, l, e, R, s, m, args, below, meth, c, G, A, ce, sl, Q, post⟩ := E
  intro ok ls H locs hl hP hD hS
  exact lv_irem ok.2.1.1 ok.2.1.2.1 hd hne (k ok ls H locs hl hP hD hS)
theorem s_iushr {x y : Int32} (v : Int32) (hv : (x.toUInt32 >>> (y.toUInt32 &&& Int32.toUInt32 31)).toInt32 = v) (hd : decode cc pc = .ok (.iushr, 1)) (k : WW E cc own nL d (pc + 1) L h (.int v :: st)) : WW E cc own nL d pc L h (.int y :: .int x :: st) := by
  obtain ⟨p, l, e, R, s, m, args, below, meth, c, G, A, ce, sl, Q, post⟩ := E
  intro ok ls H locs hl hP hD hS
  exact lv_iushr ok.2.1.1 ok.2.1.2.1 hd hv (k ok ls H locs hl hP hD hS)
theorem s_ineg {x : Int32} (hd : decode cc pc = .ok (.ineg, 1)) (k : WW E cc own nL d (pc + 1) L h (.int (-x) :: st)) : WW E cc own nL d pc L h (.int x :: st) := by
  obtain ⟨p, l, e, R, s, m, args, below, meth, c, G, A, ce, sl, Q, post⟩ := E
  intro ok ls H locs hl hP hD hS
  exact lv_ineg ok.2.1.1 ok.2.1.2.1 hd (k ok ls H locs hl hP hD hS)
theorem s_ladd {x y : Int64} (hd : decode cc pc = .ok (.ladd, 1)) (k : WW E cc own nL d (pc + 1) L h (.long (x + y) :: st)) : WW E cc own nL d pc L h (.long y :: .long x :: st) := by
  obtain ⟨p, l, e, R, s, m, args, below, meth, c, G, A, ce, sl, Q, post⟩ := E
  intro ok ls H locs hl hP hD hS
  exact lv_ladd ok.2.1.1 ok.2.1.2.1 hd (k ok ls H locs hl hP hD hS)
theorem s_lmul {x y : Int64} (hd : decode cc pc = .ok (.lmul, 1)) (k : WW E cc own nL d (pc + 1) L h (.long (x * y) :: st)) : WW E cc own nL d pc L h (.long y :: .long x :: st) := by
  obtain ⟨p, l, e, R, s, m, args, below, meth, c, G, A, ce, sl, Q, post⟩ := E
  intro ok ls H locs hl hP hD hS
  exact lv_lmul ok.2.1.1 ok.2.1.2.1 hd (k ok ls H locs hl hP hD hS)
theorem s_ldiv {x y : Int64} (hne : ¬ y = 0) (hd : decode cc pc = .ok (.ldiv, 1)) (k : WW E cc own nL d (pc + 1) L h (.long (x / y) :: st)) : WW E cc own nL d pc L h (.long y :: .long x :: st) := by
  obtain ⟨p, l, e, R, s, m, args, below, meth, c, G, A, ce, sl, Q, post⟩ := E
  intro ok ls H locs hl hP hD hS
  exact lv_ldiv ok.2.1.1 ok.2.1.2.1 hd hne (k ok ls H locs hl hP hD hS)
theorem s_lrem {x y : Int64} (hne : ¬ y = 0) (hd : decode cc pc = .ok (.lrem, 1)) (k : WW E cc own nL d (pc + 1) L h (.long (x - x / y * y) :: st)) : WW E cc own nL d pc L h (.long y :: .long x :: st) := by
  obtain ⟨p, l, e, R, s, m, args, below, meth, c, G, A, ce, sl, Q, post⟩ := E
  intro ok ls H locs hl hP hD hS
  exact lv_lrem ok.2.1.1 ok.2.1.2.1 hd hne (k ok ls H locs hl hP hD hS)
theorem s_lcmp {x y : Int64} (hd : decode cc pc = .ok (.lcmp, 1)) (k : WW E cc own nL d (pc + 1) L h (.int (lg_cmp x y) :: st)) : WW E cc own nL d pc L h (.long y :: .long x :: st) := by
  obtain ⟨p, l, e, R, s, m, args, below, meth, c, G, A, ce, sl, Q, post⟩ := E
  intro ok ls H locs hl hP hD hS
  exact W.lcmp ok.2.1.1 ok.2.1.2.1 hd (k ok ls H locs hl hP hD hS)
theorem s_i2l {x : Int32} (hd : decode cc pc = .ok (.i2l, 1)) (k : WW E cc own nL d (pc + 1) L h (.long x.toInt64 :: st)) : WW E cc own nL d pc L h (.int x :: st) := by
  obtain ⟨p, l, e, R, s, m, args, below, meth, c, G, A, ce, sl, Q, post⟩ := E
  intro ok ls H locs hl hP hD hS
  exact lv_i2l ok.2.1.1 ok.2.1.2.1 hd rfl (k ok ls H locs hl hP hD hS)
theorem s_l2i {x : Int64} (hd : decode cc pc = .ok (.l2i, 1)) (k : WW E cc own nL d (pc + 1) L h (.int x.toInt32 :: st)) : WW E cc own nL d pc L h (.long x :: st) := by
  obtain ⟨p, l, e, R, s, m, args, below, meth, c, G, A, ce, sl, Q, post⟩ := E
  intro ok ls H locs hl hP hD hS
  exact lv_l2i ok.2.1.1 ok.2.1.2.1 hd rfl (k ok ls H locs hl hP hD hS)
theorem s_i2b {x : Int32} (hd : decode cc pc = .ok (.i2b, 1)) (k : WW E cc own nL d (pc + 1) L h (.int x.toInt8.toInt32 :: st)) : WW E cc own nL d pc L h (.int x :: st) := by
  obtain ⟨p, l, e, R, s, m, args, below, meth, c, G, A, ce, sl, Q, post⟩ := E
  intro ok ls H locs hl hP hD hS
  exact lv_i2b ok.2.1.1 ok.2.1.2.1 hd rfl (k ok ls H locs hl hP hD hS)
theorem s_dup {v : Value} (hc : v.category = 1) (hd : decode cc pc = .ok (.dup, 1)) (k : WW E cc own nL d (pc + 1) L h (v :: v :: st)) : WW E cc own nL d pc L h (v :: st) := by
  obtain ⟨p, l, e, R, s, m, args, below, meth, c, G, A, ce, sl, Q, post⟩ := E
  intro ok ls H locs hl hP hD hS
  exact lv_dup ok.2.1.1 ok.2.1.2.1 hd (by rw [cvv_cat]; exact hc) (k ok ls H locs hl hP hD hS)
theorem s_pop {v : Value} (hc : v.category = 1) (hd : decode cc pc = .ok (.pop, 1)) (k : WW E cc own nL d (pc + 1) L h (st)) : WW E cc own nL d pc L h (v :: st) := by
  obtain ⟨p, l, e, R, s, m, args, below, meth, c, G, A, ce, sl, Q, post⟩ := E
  intro ok ls H locs hl hP hD hS
  exact lv_pop ok.2.1.1 ok.2.1.2.1 hd (by rw [cvv_cat]; exact hc) (k ok ls H locs hl hP hD hS)
theorem s_dup2 {v u : Value} (hc : v.category = 1) (hc2 : u.category = 1) (hd : decode cc pc = .ok (.dup2, 1)) (k : WW E cc own nL d (pc + 1) L h (v :: u :: v :: u :: st)) : WW E cc own nL d pc L h (v :: u :: st) := by
  obtain ⟨p, l, e, R, s, m, args, below, meth, c, G, A, ce, sl, Q, post⟩ := E
  intro ok ls H locs hl hP hD hS
  exact lv_dup2_11 ok.2.1.1 ok.2.1.2.1 hd (by rw [cvv_cat]; exact hc) (by rw [cvv_cat]; exact hc2) (k ok ls H locs hl hP hD hS)
theorem s_if_eq {x : Int32} {off : Int} (tgt : Nat) (hd : decode cc pc = .ok (.ifCond .eq off, 3)) (ht : (pc : Int) + off = (tgt : Int)) (k1 : x = 0 → WW E cc own nL d tgt L h st) (k2 : ¬ x = 0 → WW E cc own nL d (pc + 3) L h st) : WW E cc own nL d pc L h (.int x :: st) := by
  obtain ⟨p, l, e, R, s, m, args, below, meth, c, G, A, ce, sl, Q, post⟩ := E
  intro ok ls H locs hl hP hD hS
  exact lv_if_eq ok.2.1.1 ok.2.1.2.1 hd ht (fun z => k1 z ok ls H locs hl hP hD hS) (fun z => k2 z ok ls H locs hl hP hD hS)
theorem s_icmp_eq {x y : Int32} {off : Int} (tgt : Nat) (hd : decode cc pc = .ok (.if_icmp .eq off, 3)) (ht : (pc : Int) + off = (tgt : Int)) (k1 : x = y → WW E cc own nL d tgt L h st) (k2 : ¬ x = y → WW E cc own nL d (pc + 3) L h st) : WW E cc own nL d pc L h (.int y :: .int x :: st) := by
  obtain ⟨p, l, e, R, s, m, args, below, meth, c, G, A, ce, sl, Q, post⟩ := E
  intro ok ls H locs hl hP hD hS
  exact lv_icmp_eq ok.2.1.1 ok.2.1.2.1 hd ht (fun z => k1 z ok ls H locs hl hP hD hS) (fun z => k2 z ok ls H locs hl hP hD hS)
theorem s_if_ne {x : Int32} {off : Int} (tgt : Nat) (hd : decode cc pc = .ok (.ifCond .ne off, 3)) (ht : (pc : Int) + off = (tgt : Int)) (k1 : ¬ x = 0 → WW E cc own nL d tgt L h st) (k2 : x = 0 → WW E cc own nL d (pc + 3) L h st) : WW E cc own nL d pc L h (.int x :: st) := by
  obtain ⟨p, l, e, R, s, m, args, below, meth, c, G, A, ce, sl, Q, post⟩ := E
  intro ok ls H locs hl hP hD hS
  exact lv_if_ne ok.2.1.1 ok.2.1.2.1 hd ht (fun z => k1 z ok ls H locs hl hP hD hS) (fun z => k2 z ok ls H locs hl hP hD hS)
theorem s_icmp_ne {x y : Int32} {off : Int} (tgt : Nat) (hd : decode cc pc = .ok (.if_icmp .ne off, 3)) (ht : (pc : Int) + off = (tgt : Int)) (k1 : ¬ x = y → WW E cc own nL d tgt L h st) (k2 : x = y → WW E cc own nL d (pc + 3) L h st) : WW E cc own nL d pc L h (.int y :: .int x :: st) := by
  obtain ⟨p, l, e, R, s, m, args, below, meth, c, G, A, ce, sl, Q, post⟩ := E
  intro ok ls H locs hl hP hD hS
  exact lv_icmp_ne ok.2.1.1 ok.2.1.2.1 hd ht (fun z => k1 z ok ls H locs hl hP hD hS) (fun z => k2 z ok ls H locs hl hP hD hS)
theorem s_if_lt {x : Int32} {off : Int} (tgt : Nat) (hd : decode cc pc = .ok (.ifCond .lt off, 3)) (ht : (pc : Int) + off = (tgt : Int)) (k1 : x < 0 → WW E cc own nL d tgt L h st) (k2 : ¬ x < 0 → WW E cc own nL d (pc + 3) L h st) : WW E cc own nL d pc L h (.int x :: st) := by
  obtain ⟨p, l, e, R, s, m, args, below, meth, c, G, A, ce, sl, Q, post⟩ := E
  intro ok ls H locs hl hP hD hS
  exact lv_if_lt ok.2.1.1 ok.2.1.2.1 hd ht (fun z => k1 z ok ls H locs hl hP hD hS) (fun z => k2 z ok ls H locs hl hP hD hS)
theorem s_icmp_lt {x y : Int32} {off : Int} (tgt : Nat) (hd : decode cc pc = .ok (.if_icmp .lt off, 3)) (ht : (pc : Int) + off = (tgt : Int)) (k1 : x < y → WW E cc own nL d tgt L h st) (k2 : ¬ x < y → WW E cc own nL d (pc + 3) L h st) : WW E cc own nL d pc L h (.int y :: .int x :: st) := by
  obtain ⟨p, l, e, R, s, m, args, below, meth, c, G, A, ce, sl, Q, post⟩ := E
  intro ok ls H locs hl hP hD hS
  exact lv_icmp_lt ok.2.1.1 ok.2.1.2.1 hd ht (fun z => k1 z ok ls H locs hl hP hD hS) (fun z => k2 z ok ls H locs hl hP hD hS)
theorem s_if_ge {x : Int32} {off : Int} (tgt : Nat) (hd : decode cc pc = .ok (.ifCond .ge off, 3)) (ht : (pc : Int) + off = (tgt : Int)) (k1 : 0 ≤ x → WW E cc own nL d tgt L h st) (k2 : ¬ 0 ≤ x → WW E cc own nL d (pc + 3) L h st) : WW E cc own nL d pc L h (.int x :: st) := by
  obtain ⟨p, l, e, R, s, m, args, below, meth, c, G, A, ce, sl, Q, post⟩ := E
  intro ok ls H locs hl hP hD hS
  exact lv_if_ge ok.2.1.1 ok.2.1.2.1 hd ht (fun z => k1 z ok ls H locs hl hP hD hS) (fun z => k2 z ok ls H locs hl hP hD hS)
theorem s_icmp_ge {x y : Int32} {off : Int} (tgt : Nat) (hd : decode cc pc = .ok (.if_icmp .ge off, 3)) (ht : (pc : Int) + off = (tgt : Int)) (k1 : y ≤ x → WW E cc own nL d tgt L h st) (k2 : ¬ y ≤ x → WW E cc own nL d (pc + 3) L h st) : WW E cc own nL d pc L h (.int y :: .int x :: st) := by
  obtain ⟨p, l, e, R, s, m, args, below, meth, c, G, A, ce, sl, Q, post⟩ := E
  intro ok ls H locs hl hP hD hS
  exact lv_icmp_ge ok.2.1.1 ok.2.1.2.1 hd ht (fun z => k1 z ok ls H locs hl hP hD hS) (fun z => k2 z ok ls H locs hl hP hD hS)
theorem s_if_gt {x : Int32} {off : Int} (tgt : Nat) (hd : decode cc pc = .ok (.ifCond .gt off, 3)) (ht : (pc : Int) + off = (tgt : Int)) (k1 : 0 < x → WW E cc own nL d tgt L h st) (k2 : ¬ 0 < x → WW E cc own nL d (pc + 3) L h st) : WW E cc own nL d pc L h (.int x :: st) := by
  obtain ⟨p, l, e, R, s, m, args, below, meth, c, G, A, ce, sl, Q, post⟩ := E
  intro ok ls H locs hl hP hD hS
  exact lv_if_gt ok.2.1.1 ok.2.1.2.1 hd ht (fun z => k1 z ok ls H locs hl hP hD hS) (fun z => k2 z ok ls H locs hl hP hD hS)
theorem s_icmp_gt {x y : Int32} {off : Int} (tgt : Nat) (hd : decode cc pc = .ok (.if_icmp .gt off, 3)) (ht : (pc : Int) + off = (tgt : Int)) (k1 : y < x → WW E cc own nL d tgt L h st) (k2 : ¬ y < x → WW E cc own nL d (pc + 3) L h st) : WW E cc own nL d pc L h (.int y :: .int x :: st) := by
  obtain ⟨p, l, e, R, s, m, args, below, meth, c, G, A, ce, sl, Q, post⟩ := E
  intro ok ls H locs hl hP hD hS
  exact lv_icmp_gt ok.2.1.1 ok.2.1.2.1 hd ht (fun z => k1 z ok ls H locs hl hP hD hS) (fun z => k2 z ok ls H locs hl hP hD hS)
theorem s_if_le {x : Int32} {off : Int} (tgt : Nat) (hd : decode cc pc = .ok (.ifCond .le off, 3)) (ht : (pc : Int) + off = (tgt : Int)) (k1 : x ≤ 0 → WW E cc own nL d tgt L h st) (k2 : ¬ x ≤ 0 → WW E cc own nL d (pc + 3) L h st) : WW E cc own nL d pc L h (.int x :: st) := by
  obtain ⟨p, l, e, R, s, m, args, below, meth, c, G, A, ce, sl, Q, post⟩ := E
  intro ok ls H locs hl hP hD hS
  exact lv_if_le ok.2.1.1 ok.2.1.2.1 hd ht (fun z => k1 z ok ls H locs hl hP hD hS) (fun z => k2 z ok ls H locs hl hP hD hS)
theorem s_icmp_le {x y : Int32} {off : Int} (tgt : Nat) (hd : decode cc pc = .ok (.if_icmp .le off, 3)) (ht : (pc : Int) + off = (tgt : Int)) (k1 : x ≤ y → WW E cc own nL d tgt L h st) (k2 : ¬ x ≤ y → WW E cc own nL d (pc + 3) L h st) : WW E cc own nL d pc L h (.int y :: .int x :: st) := by
  obtain ⟨p, l, e, R, s, m, args, below, meth, c, G, A, ce, sl, Q, post⟩ := E
  intro ok ls H locs hl hP hD hS
  exact lv_icmp_le ok.2.1.1 ok.2.1.2.1 hd ht (fun z => k1 z ok ls H locs hl hP hD hS) (fun z => k2 z ok ls H locs hl hP hD hS)
theorem s_goto {off : Int} (tgt : Nat) (hd : decode cc pc = .ok (.goto off, 3)) (ht : (pc : Int) + off = (tgt : Int)) (k : WW E cc own nL d tgt L h st) : WW E cc own nL d pc L h st := by
  obtain ⟨p, l, e, R, s, m, args, below, meth, c, G, A, ce, sl, Q, post⟩ := E
  intro ok ls H locs hl hP hD hS
  exact lv_goto ok.2.1.1 ok.2.1.2.1 hd ht (k ok ls H locs hl hP hD hS)
theorem s_tabIn {dflt lo hi : Int} {offs : Array Int} {len : Nat} {x : Int32} {off : Int} (tgt : Nat) (hd : decode cc pc = .ok (.tableswitch dflt lo hi offs, len)) (h1 : ¬ x.toInt < lo) (h2 : ¬ hi < x.toInt) (ho : offs[(x.toInt - lo).toNat]? = some off) (ht : (pc : Int) + off = (tgt : Int)) (k : WW E cc own nL d tgt L h st) : WW E cc own nL d pc L h (.int x :: st) := by
  obtain ⟨p, l, e, R, s, m, args, below, meth, c, G, A, ce, sl, Q, post⟩ := E
  intro ok ls H locs hl hP hD hS
  exact lv_tableIn ok.2.1.1 ok.2.1.2.1 hd h1 h2 ho ht (k ok ls H locs hl hP hD hS)
theorem s_tabOut {dflt lo hi : Int} {offs : Array Int} {len : Nat} {x : Int32} (tgt : Nat) (hd : decode cc pc = .ok (.tableswitch dflt lo hi offs, len)) (hx : x.toInt < lo ∨ hi < x.toInt) (ht : (pc : Int) + dflt = (tgt : Int)) (k : WW E cc own nL d tgt L h st) : WW E cc own nL d pc L h (.int x :: st) := by
  obtain ⟨p, l, e, R, s, m, args, below, meth, c, G, A, ce, sl, Q, post⟩ := E
  intro ok ls H locs hl hP hD hS
  exact lv_tableOut ok.2.1.1 ok.2.1.2.1 hd hx ht (k ok ls H locs hl hP hD hS)
theorem s_ldc2 {idx : Nat} (v : Int64) (hw : Cond.constantLong own idx v ∈ lwg) (hd : decode cc pc = .ok (.ldc2_w idx, 3)) (k : WW E cc own nL d (pc + 3) L h (.long v :: st)) : WW E cc own nL d pc L h (st) := by
  obtain ⟨p, l, e, R, s, m, args, below, meth, c, G, A, ce, sl, Q, post⟩ := E
  intro ok ls H locs hl hP hD hS
  exact lv_ldc2 ok.2.1.1 ok.2.1.2.1 ok.2.1.2.2.2.1 (ok.2.1.2.2.2.2 _ hw) hd (k ok ls H locs hl hP hD hS)
theorem s_ldcw {idx : Nat} (v : Int32) (hw : Cond.constant own idx v ∈ lwg) (hd : decode cc pc = .ok (.ldc_w idx, 3)) (k : WW E cc own nL d (pc + 3) L h (.int v :: st)) : WW E cc own nL d pc L h (st) := by
  obtain ⟨p, l, e, R, s, m, args, below, meth, c, G, A, ce, sl, Q, post⟩ := E
  intro ok ls H locs hl hP hD hS
  exact lv_ldcw ok.2.1.1 ok.2.1.2.1 ok.2.1.2.2.2.1 (ok.2.1.2.2.2.2 _ hw) hd (k ok ls H locs hl hP hD hS)
theorem s_iret {v : Int32} (hd : decode cc pc = .ok (.ireturn, 1)) (hp : PostE E (some (.int v)) h) : WW E cc own nL d pc L h [.int v] := by
  obtain ⟨p, l, e, R, s, m, args, below, meth, c, G, A, ce, sl, Q, post⟩ := E
  intro ok ls H locs hl hP hD hS
  exact (ok.1 _ _ hp pc ls H locs hP hD hS).1 v rfl hd
theorem s_lret {v : Int64} (hd : decode cc pc = .ok (.lreturn, 1)) (hp : PostE E (some (.long v)) h) : WW E cc own nL d pc L h [.long v] := by
  obtain ⟨p, l, e, R, s, m, args, below, meth, c, G, A, ce, sl, Q, post⟩ := E
  intro ok ls H locs hl hP hD hS
  exact (ok.1 _ _ hp pc ls H locs hP hD hS).2.1 v rfl hd
theorem s_vret (hd : decode cc pc = .ok (.return_, 1)) (hp : PostE E none h) : WW E cc own nL d pc L h [] := by
  obtain ⟨p, l, e, R, s, m, args, below, meth, c, G, A, ce, sl, Q, post⟩ := E
  intro ok ls H locs hl hP hD hS
  exact (ok.1 _ _ hp pc ls H locs hP hD hS).2.2 rfl hd
theorem PostE.of {E : Cx} {r r2 : Option Value} {h h2 : Hp} (hp : PostE E r h) (e1 : r2 = r) (e2 : h2 = h) : PostE E r2 h2 := by rw [e1, e2]; exact hp
end ST
