/-! ### making objects: a world that grows -/
abbrev Kc : Type := Program × Launch × Env × Room × State × MethodId × Array Value × List Frame × Method × Code × va_G × (ClassId × ClassId × ClassId × ClassId) × (Nat → Prop) × (State → Prop) × (va_W → Prop)
def tysK (T : ClassId × ClassId × ClassId × ClassId) : List (ClassId × FieldType) := [(T.1, .int), (T.2.1, .long), (T.2.2.1, .boolean), (T.2.2.2, .array .int)]
def yI_obj : MethodName := Lib.objectInit
/-- the nest's links to private constructors -/
def NwK (U : State) : Prop := va_Nw (.methodLinkNest "BerthAges" 26 yX2_init "BerthAges") U ∧ va_Nw (.methodLinkNest "BerthAges$Harbour" 11 yX1_init "BerthAges") U ∧ va_Nw (.methodLinkNest "BerthAges" 33 yX1_init "BerthAges") U ∧ va_Nw (.methodLinkNest "BerthAges" 56 yX0_init "BerthAges") U ∧ (Cond.arrayOver (.array .int)).before #[] U = true
/-- the methods that write final fields -/
abbrev KIn (own : String) : Prop := own ≠ "java/util/Arrays" ∧ own ≠ "BerthAgesLaw"
def KOk (E : Kc) (cc : ByteArray) (own : String) (nL d mc ms : Nat) : Prop := match E with
  | (p, l, e, R, s, m, args, below, meth, c, D, T, A, Q, post) => (p.tables.exec = Jvm.exec ∧ c.code = cc ∧ c.maxLocals = nL ∧ s.vm.findClass own = some m.cls ∧ ∀ w ∈ lwg, w.before args s = true) ∧ va_K D vwCl (tysK T) s ∧ (∀ q, s.heap.size ≤ q → A q) ∧ (d ≤ R.frames ∧ 60 * d ≤ R.locals ∧ mc ≤ R.cells ∧ ms ≤ R.slots) ∧ ((KIn own → meth.name = "<init>") ∧ NwK s) ∧
    ∀ (w : va_W), post w → ∀ (pc : Nat) (ls : Array Slot) (H : Heap) (locs : List Loc), va_P D vwCl w H → va_D A w → va_S A s.heap H locs → decode cc pc = .ok (.return_, 1) → W p l e R s m args below meth c H locs mc ms Q (F0 m pc ls [])
def KW (E : Kc) (cc : ByteArray) (own : String) (nL d mc ms pc : Nat) (L : List Value) (ws : va_W) (ce sl : Nat) (st : List Value) : Prop := KOk E cc own nL d mc ms → match E with
  | (p, l, e, R, s, m, args, below, meth, c, D, _, A, Q, _) => ∀ (ls : Array Slot) (H : Heap) (locs : List Loc), lvR ls nL id L → va_P D vwCl ws H → va_D A ws → va_S A s.heap H locs → W p l e R s m args below meth c H locs ce sl Q (F0 m pc ls st)
def KT_ (E : Kc) : ClassId × ClassId × ClassId × ClassId := match E with
  | (_, _, _, _, _, _, _, _, _, _, _, T, _, _, _) => T
def KPost (E : Kc) : va_W → Prop := match E with
  | (_, _, _, _, _, _, _, _, _, _, _, _, _, _, post) => post
section SK
variable {E : Kc} {cc : ByteArray} {own : String} {nL d mc ms pc : Nat} {L L' : List Value} {ws : va_W} {ce sl : Nat} {st : List Value}

theorem k_iconst {n : Int} {v : Int32} (hv : Int32.ofInt n = v) (hd : decode cc pc = .ok (.iconst n, 1)) (k : KW E cc own nL d mc ms (pc + 1) L ws ce sl (.int v :: st)) : KW E cc own nL d mc ms pc L ws ce sl st := by
  obtain ⟨p, l, e, R, s, m, args, below, meth, c, D, T, A, Q, post⟩ := E
  intro ok ls H locs hl hP hD hS
  exact lv_iconst ok.1.1 ok.1.2.1 hd hv (k ok ls H locs hl hP hD hS)

theorem k_bipush {n : Int} {v : Int32} (hv : (Int8.ofInt n).toInt32 = v) (hd : decode cc pc = .ok (.bipush n, 2)) (k : KW E cc own nL d mc ms (pc + 2) L ws ce sl (.int v :: st)) : KW E cc own nL d mc ms pc L ws ce sl st := by
  obtain ⟨p, l, e, R, s, m, args, below, meth, c, D, T, A, Q, post⟩ := E
  intro ok ls H locs hl hP hD hS
  exact lv_bipush ok.1.1 ok.1.2.1 hd hv (k ok ls H locs hl hP hD hS)

theorem k_sipush {n : Int} {v : Int32} (hv : (Int16.ofInt n).toInt32 = v) (hd : decode cc pc = .ok (.sipush n, 3)) (k : KW E cc own nL d mc ms (pc + 3) L ws ce sl (.int v :: st)) : KW E cc own nL d mc ms pc L ws ce sl st := by
  obtain ⟨p, l, e, R, s, m, args, below, meth, c, D, T, A, Q, post⟩ := E
  intro ok ls H locs hl hP hD hS
  exact lv_sipush ok.1.1 ok.1.2.1 hd hv (k ok ls H locs hl hP hD hS)

theorem k_lconst {n : Fin 2} {v : Int64} (hv : Int64.ofNat (n : Nat) = v) (hd : decode cc pc = .ok (.lconst n, 1)) (k : KW E cc own nL d mc ms (pc + 1) L ws ce sl (.long v :: st)) : KW E cc own nL d mc ms pc L ws ce sl st := by
  obtain ⟨p, l, e, R, s, m, args, below, meth, c, D, T, A, Q, post⟩ := E
  intro ok ls H locs hl hP hD hS
  exact lv_lconst ok.1.1 ok.1.2.1 hd hv (k ok ls H locs hl hP hD hS)

theorem k_iload_n {k4 : Fin 4} (i : Nat) {x : Int32} (hi : (k4 : Nat) = i) (hg : lgL L i = .int x) (hd : decode cc pc = .ok (.iload_n k4, 1)) (k : KW E cc own nL d mc ms (pc + 1) L ws ce sl (.int x :: st)) : KW E cc own nL d mc ms pc L ws ce sl st := by
  obtain ⟨p, l, e, R, s, m, args, below, meth, c, D, T, A, Q, post⟩ := E
  intro ok ls H locs hl hP hD hS
  exact lv_iload_n ok.1.1 ok.1.2.1 hd hi (hl.at hg (by simp)) (k ok ls H locs hl hP hD hS)

theorem k_aload_n {k4 : Fin 4} (i : Nat) {x : Nat} (hi : (k4 : Nat) = i) (hg : lgL L i = .ref x) (hd : decode cc pc = .ok (.aload_n k4, 1)) (k : KW E cc own nL d mc ms (pc + 1) L ws ce sl (.ref x :: st)) : KW E cc own nL d mc ms pc L ws ce sl st := by
  obtain ⟨p, l, e, R, s, m, args, below, meth, c, D, T, A, Q, post⟩ := E
  intro ok ls H locs hl hP hD hS
  exact lv_aload_n ok.1.1 ok.1.2.1 hd hi (hl.at hg (by simp)) (k ok ls H locs hl hP hD hS)

theorem k_dup {v : Value} (hc : v.category = 1) (hd : decode cc pc = .ok (.dup, 1)) (k : KW E cc own nL d mc ms (pc + 1) L ws ce sl (v :: v :: st)) : KW E cc own nL d mc ms pc L ws ce sl (v :: st) := by
  obtain ⟨p, l, e, R, s, m, args, below, meth, c, D, T, A, Q, post⟩ := E
  intro ok ls H locs hl hP hD hS
  exact lv_dup ok.1.1 ok.1.2.1 hd hc (k ok ls H locs hl hP hD hS)

theorem k_istore_n {k4 : Fin 4} (i : Nat) {x : Int32} (hi : (k4 : Nat) = i) (hn : i < nL) (hL : setL L i (.int x) = L') (hd : decode cc pc = .ok (.istore_n k4, 1)) (k : KW E cc own nL d mc ms (pc + 1) L' ws ce sl st) : KW E cc own nL d mc ms pc L ws ce sl (.int x :: st) := by
  obtain ⟨p, l, e, R, s, m, args, below, meth, c, D, T, A, Q, post⟩ := E
  intro ok ls H locs hl hP hD hS
  exact lv_istore_n ok.1.1 ok.1.2.1 hd hi hl.has hn rfl (fun ls' hl' => k ok ls' H locs (lvR.set1 (v := .int x) hL hl') hP hD hS)

theorem k_iinc {i : Nat} {n : Int} {x : Int32} (v : Int32) (hg : lgL L i = .int x) (hv : x + Int32.ofInt n = v) (hn : i < nL) (hL : setL L i (.int v) = L') (hd : decode cc pc = .ok (.iinc i n, 3)) (k : KW E cc own nL d mc ms (pc + 3) L' ws ce sl st) : KW E cc own nL d mc ms pc L ws ce sl st := by
  obtain ⟨p, l, e, R, s, m, args, below, meth, c, D, T, A, Q, post⟩ := E
  intro ok ls H locs hl hP hD hS
  obtain ⟨j, hj⟩ := List.getElem?_of_mem (mem_ascL (ρ := id) (k := 0) (lgL_get hg (by simp)) (by simp))
  rw [Nat.zero_add] at hj
  exact lv_iinc ok.1.1 ok.1.2.1 hd hl.has hj hv hn rfl (fun ls' hl' => k ok ls' H locs (lvR.set1 (v := .int v) hL hl') hP hD hS)

theorem k_icmp_ge {x y : Int32} {off : Int} (tgt : Nat) (hd : decode cc pc = .ok (.if_icmp .ge off, 3)) (ht : (pc : Int) + off = (tgt : Int)) (k1 : y ≤ x → KW E cc own nL d mc ms tgt L ws ce sl st) (k2 : ¬ y ≤ x → KW E cc own nL d mc ms (pc + 3) L ws ce sl st) : KW E cc own nL d mc ms pc L ws ce sl (.int y :: .int x :: st) := by
  obtain ⟨p, l, e, R, s, m, args, below, meth, c, D, T, A, Q, post⟩ := E
  intro ok ls H locs hl hP hD hS
  exact lv_icmp_ge ok.1.1 ok.1.2.1 hd ht (fun z => k1 z ok ls H locs hl hP hD hS) (fun z => k2 z ok ls H locs hl hP hD hS)

theorem k_goto {off : Int} (tgt : Nat) (hd : decode cc pc = .ok (.goto off, 3)) (ht : (pc : Int) + off = (tgt : Int)) (k : KW E cc own nL d mc ms tgt L ws ce sl st) : KW E cc own nL d mc ms pc L ws ce sl st := by
  obtain ⟨p, l, e, R, s, m, args, below, meth, c, D, T, A, Q, post⟩ := E
  intro ok ls H locs hl hP hD hS
  exact lv_goto ok.1.1 ok.1.2.1 hd ht (k ok ls H locs hl hP hD hS)

theorem k_obj {idx a : Nat} (hm : Cond.methodLink own idx Lib.objectInit ∈ lwg) (hi : Cond.instanceMethod Lib.objectInit ∈ lwg) (hc : Cond.code Lib.objectInit ⟨#[0xb1]⟩ 1 none ∈ lwg) (h1 : 1 ≤ d) (hcat : (st.map fun v => v.category).sum ≤ 8) (hd : decode cc pc = .ok (.invokespecial idx, 3)) (k : KW E cc own nL d mc ms (pc + 3) L ws ce sl st) : KW E cc own nL d mc ms pc L ws ce sl (.ref a :: st) := by
  obtain ⟨p, l, e, R, s, m, args, below, meth, c, D, T, A, Q, post⟩ := E
  intro ok ls H locs hl hP hD hS
  obtain ⟨r1, r2, r3, r4⟩ := ok.2.2.2.1
  refine W.objInit ok.1.1 ok.1.2.1 ok.1.2.2.2.1 (ok.1.2.2.2.2 _ hm) (ok.1.2.2.2.2 _ hi) (ok.1.2.2.2.2 _ hc) rfl (by rw [ok.1.2.2.1]; exact hl.1) rfl hd (by omega) (Nat.le_trans (Nat.add_le_add_right (lv_room hcat) 12) (by omega)) ?_
  exact W.eq (g2 := F0 m (pc + 3) ls st) rfl (k ok ls H locs hl hP hD hS)

/-- field k of class ci, final or not, of type ty, declared by own -/
def FP (own : String) (ci k : Nat) (fin : Bool) (ty : FieldType) : Prop := ∃ q : vw_C, vwCl[ci]? = some q ∧ parseFieldDescriptor (q.2.1 k).2.2.1 = some ty ∧ (q.2.1 k).2.2.2 = fin ∧ (q.2.1 k).1 = own

theorem k_put {idx ci k0 a : Nat} {fs : List Value} {v : Value} {ty : FieldType} {ws' : va_W} (q0 : Nat) (hf : FL own idx ci k0) (hw : FP own ci k0 false ty) (he : ws[q0]? = some (a, .inr (ci, fs))) (hl0 : k0 < fs.length) (hn : narrow ty v = v) (hfi : fits ty v = true) (hws : ws.set q0 (a, .inr (ci, fs.set k0 v)) = ws') (hd : decode cc pc = .ok (.putfield idx, 3)) (k : KW E cc own nL d mc ms (pc + 3) L ws' ce sl st) : KW E cc own nL d mc ms pc L ws ce sl (v :: .ref a :: st) := by
  obtain ⟨p, l, e, R, s, m, args, below, meth, c, D, T, A, Q, post⟩ := E
  intro ok ls H locs hl hP hD hS
  obtain ⟨⟨C, T9, N⟩, hq, hkN, hlk, hnf⟩ := hf
  obtain ⟨q2, hq2, hty, hfin, hdecl⟩ := hw
  have hqq : q2 = (C, T9, N) := Option.some.inj (hq2.symm.trans hq)
  subst hqq
  obtain ⟨ty0, hty0, hnm⟩ := vw_ty ci _ hq
  subst hws
  exact va_put ok.1.1 ok.1.2.1 ok.1.2.2.2.2 (vw_in ci _ hq) ty0 hty0 hnm ok.1.2.2.2.1 ok.2.1 hP hD hS q0 he hq k0 hkN (ok.1.2.2.2.2 _ hlk) (fun _ z => z) hfin hty hn hfi hl0 hd (fun H1 locs1 hP1 hD1 hS1 => k ok ls H1 locs1 hl hP1 hD1 hS1)

theorem k_putF (hno : KIn own) {idx ci k0 a : Nat} {fs : List Value} {v : Value} {ty : FieldType} {ws' : va_W} (q0 : Nat) (hf : FL own idx ci k0) (hw : FP own ci k0 true ty) (he : ws[q0]? = some (a, .inr (ci, fs))) (hl0 : k0 < fs.length) (hn : narrow ty v = v) (hfi : fits ty v = true) (hws : ws.set q0 (a, .inr (ci, fs.set k0 v)) = ws') (hd : decode cc pc = .ok (.putfield idx, 3)) (k : KW E cc own nL d mc ms (pc + 3) L ws' ce sl st) : KW E cc own nL d mc ms pc L ws ce sl (v :: .ref a :: st) := by
  obtain ⟨p, l, e, R, s, m, args, below, meth, c, D, T, A, Q, post⟩ := E
  intro ok ls H locs hl hP hD hS
  obtain ⟨⟨C, T9, N⟩, hq, hkN, hlk, hnf⟩ := hf
  obtain ⟨q2, hq2, hty, hfin, hdecl⟩ := hw
  have hqq : q2 = (C, T9, N) := Option.some.inj (hq2.symm.trans hq)
  subst hqq
  obtain ⟨ty0, hty0, hnm⟩ := vw_ty ci _ hq
  subst hws
  exact va_putF ok.1.1 ok.1.2.1 ok.1.2.2.2.2 (vw_in ci _ hq) ty0 hty0 hnm ok.1.2.2.2.1 ok.2.1 hP hD hS q0 he hq k0 hkN (ok.1.2.2.2.2 _ hlk) (fun _ z => z) hfin (ok.2.2.2.2.1.1 hno) hdecl hty hn hfi hl0 hd (fun H1 locs1 hP1 hD1 hS1 => k ok ls H1 locs1 hl hP1 hD1 hS1)

theorem k_get {idx ci k0 a : Nat} {fs : List Value} {v : Value} (q0 : Nat) (hf : FL own idx ci k0) (he : ws[q0]? = some (a, .inr (ci, fs))) (hv : fs[k0]? = some v) (hd : decode cc pc = .ok (.getfield idx, 3)) (k : KW E cc own nL d mc ms (pc + 3) L ws ce sl (v :: st)) : KW E cc own nL d mc ms pc L ws ce sl (.ref a :: st) := by
  obtain ⟨p, l, e, R, s, m, args, below, meth, c, D, T, A, Q, post⟩ := E
  intro ok ls H locs hl hP hD hS
  obtain ⟨⟨C, T9, N⟩, hq, hkN, hlk, hnf⟩ := hf
  exact va_get ok.1.1 ok.1.2.1 ok.1.2.2.2.2 (vw_in ci _ hq) ok.1.2.2.2.1 ok.2.1 hP q0 he hq k0 hkN (ok.1.2.2.2.2 _ hlk) (fun _ z => z) hv hd (k ok ls H locs hl hP hD hS)

theorem k_new {C : String} {T9 : u_T} {N ci idx : Nat} {fs : List Value} (ty : Nat → FieldType) (hty : ∀ k, k < N → parseFieldDescriptor (T9 k).2.2.1 = some (ty k)) (hq : vwCl[ci]? = some (C, T9, N)) (hcl : Cond.classLink own idx C ∈ lwg) (hin : Cond.instantiable C N ∈ lwg) (hini : Cond.initialized C ∈ lwg) (hfs : ∀ j, j < N → defaultValue (ty j) = vp_V fs j) (hce : ce + 1 ≤ mc) (hsl : sl + N ≤ ms) (hd : decode cc pc = .ok (.new idx, 3)) (k : ∀ q, KW E cc own nL d mc ms (pc + 3) L (ws ++ [(q, .inr (ci, fs))]) (ce + 1) (sl + N) (.ref q :: st)) : KW E cc own nL d mc ms pc L ws ce sl st := by
  obtain ⟨p, l, e, R, s, m, args, below, meth, c, D, T, A, Q, post⟩ := E
  intro ok ls H locs hl hP hD hS
  obtain ⟨r1, r2, r3, r4⟩ := ok.2.2.2.1
  exact va_new ok.1.1 ok.1.2.1 ok.1.2.2.2.2 (vw_in ci _ hq) ty hty ok.1.2.2.2.1 (ok.1.2.2.2.2 _ hcl) (ok.1.2.2.2.2 _ hin) (ok.1.2.2.2.2 _ hini) ok.2.1 hP hD hS ok.2.2.1 hq hfs (by omega) (show sl + N ≤ R.slots by omega) hd (fun q H1 hP1 hD1 hS1 => k q ok ls H1 locs hl hP1 hD1 hS1)

theorem k_newi {i : Int32} {n : Nat} (hi : i = nI n) (hn : n < 900) (harr : Cond.arrayClass .int ∈ lwg) (hce : ce + 1 ≤ mc) (hsl : sl + n ≤ ms) (hd : decode cc pc = .ok (.newarray .int, 2)) (k : ∀ q, KW E cc own nL d mc ms (pc + 2) L (ws ++ [(q, .inl ((KT_ E).1, (n, .inl (fun _ => 0))))]) (ce + 1) (sl + n) (.ref q :: st)) : KW E cc own nL d mc ms pc L ws ce sl (.int i :: st) := by
  obtain ⟨p, l, e, R, s, m, args, below, meth, c, D, T, A, Q, post⟩ := E
  intro ok ls H locs hl hP hD hS
  obtain ⟨r1, r2, r3, r4⟩ := ok.2.2.2.1
  obtain ⟨h1, h2⟩ := nI_cl hi (Nat.lt_succ_self n) (by omega)
  refine va_newa (atype := .int) (a0 := (n, .inl (fun _ => 0))) (ty := .int) ok.1.1 ok.1.2.1 (ok.1.2.2.2.2 _ harr) rfl ok.2.1 hP hD hS ok.2.2.1 (fun _ => rfl) (fun z => h1 (Or.inl z)) h2 (by show n * 4 ≤ 536870912; omega) (by omega) (by omega) hd (fun q cA H1 hK1 hP1 hD1 hS1 => ?_)
  have e : cA = T.1 := Option.some.inj ((show _ = some cA from (hK1.2 4 _ rfl).2).symm.trans (show _ = some T.1 from (ok.2.1.2 0 _ rfl).2))
  subst e
  exact k q ok ls H1 locs hl hP1 hD1 hS1

theorem k_newl {i : Int32} {n : Nat} (hi : i = nI n) (hn : n < 900) (harr : Cond.arrayClass .long ∈ lwg) (hce : ce + 1 ≤ mc) (hsl : sl + n ≤ ms) (hd : decode cc pc = .ok (.newarray .long, 2)) (k : ∀ q, KW E cc own nL d mc ms (pc + 2) L (ws ++ [(q, .inl ((KT_ E).2.1, (n, .inr (.inl (fun _ => 0)))))]) (ce + 1) (sl + n) (.ref q :: st)) : KW E cc own nL d mc ms pc L ws ce sl (.int i :: st) := by
  obtain ⟨p, l, e, R, s, m, args, below, meth, c, D, T, A, Q, post⟩ := E
  intro ok ls H locs hl hP hD hS
  obtain ⟨r1, r2, r3, r4⟩ := ok.2.2.2.1
  obtain ⟨h1, h2⟩ := nI_cl hi (Nat.lt_succ_self n) (by omega)
  refine va_newa (atype := .long) (a0 := (n, .inr (.inl (fun _ => 0)))) (ty := .long) ok.1.1 ok.1.2.1 (ok.1.2.2.2.2 _ harr) rfl ok.2.1 hP hD hS ok.2.2.1 (fun _ => rfl) (fun z => h1 (Or.inl z)) h2 (by show n * 8 ≤ 536870912; omega) (by omega) (by omega) hd (fun q cA H1 hK1 hP1 hD1 hS1 => ?_)
  have e : cA = T.2.1 := Option.some.inj ((show _ = some cA from (hK1.2 4 _ rfl).2).symm.trans (show _ = some T.2.1 from (ok.2.1.2 1 _ rfl).2))
  subst e
  exact k q ok ls H1 locs hl hP1 hD1 hS1

theorem k_newb {i : Int32} {n : Nat} (hi : i = nI n) (hn : n < 900) (harr : Cond.arrayClass .boolean ∈ lwg) (hce : ce + 1 ≤ mc) (hsl : sl + n ≤ ms) (hd : decode cc pc = .ok (.newarray .boolean, 2)) (k : ∀ q, KW E cc own nL d mc ms (pc + 2) L (ws ++ [(q, .inl ((KT_ E).2.2.1, (n, .inl (fun _ => 0))))]) (ce + 1) (sl + n) (.ref q :: st)) : KW E cc own nL d mc ms pc L ws ce sl (.int i :: st) := by
  obtain ⟨p, l, e, R, s, m, args, below, meth, c, D, T, A, Q, post⟩ := E
  intro ok ls H locs hl hP hD hS
  obtain ⟨r1, r2, r3, r4⟩ := ok.2.2.2.1
  obtain ⟨h1, h2⟩ := nI_cl hi (Nat.lt_succ_self n) (by omega)
  refine va_newa (atype := .boolean) (a0 := (n, .inl (fun _ => 0))) (ty := .boolean) ok.1.1 ok.1.2.1 (ok.1.2.2.2.2 _ harr) rfl ok.2.1 hP hD hS ok.2.2.1 (fun _ => rfl) (fun z => h1 (Or.inl z)) h2 (by show n * 1 ≤ 536870912; omega) (by omega) (by omega) hd (fun q cA H1 hK1 hP1 hD1 hS1 => ?_)
  have e : cA = T.2.2.1 := Option.some.inj ((show _ = some cA from (hK1.2 4 _ rfl).2).symm.trans (show _ = some T.2.2.1 from (ok.2.1.2 2 _ rfl).2))
  subst e
  exact k q ok ls H1 locs hl hP1 hD1 hS1

theorem k_iast {i x : Int32} {a n : Nat} {f : Nat → Int32} {ws' : va_W} (q0 j : Nat) (he : ws[q0]? = some (a, .inl ((KT_ E).1, n, .inl f))) (hi : i = nI j) (hj : j < n) (hn : n < 1000) (hws : ws.set q0 (a, .inl ((KT_ E).1, n, .inl (upd f j x))) = ws') (hd : decode cc pc = .ok (.iastore, 1)) (k : KW E cc own nL d mc ms (pc + 1) L ws' ce sl st) : KW E cc own nL d mc ms pc L ws ce sl (.int x :: .int i :: .ref a :: st) := by
  obtain ⟨p, l, e, R, s, m, args, below, meth, c, D, T, A, Q, post⟩ := E
  intro ok ls H locs hl hP hD hS
  obtain ⟨h1, h2⟩ := nI_cl hi hj (by omega)
  subst hws
  refine va_iast ok.1.1 ok.1.2.1 ok.2.1 hP hD hS q0 0 he rfl h1 hd (fun H1 locs1 hP1 hD1 hS1 => ?_)
  rw [h2] at hP1 hD1
  exact k ok ls H1 locs1 hl hP1 hD1 hS1

theorem k_alen {a n : Nat} {f : Nat → Int32} (q0 : Nat) (he : ws[q0]? = some (a, .inl ((KT_ E).1, n, .inl f))) (hd : decode cc pc = .ok (.arraylength, 1)) (k : KW E cc own nL d mc ms (pc + 1) L ws ce sl (.int (nI n) :: st)) : KW E cc own nL d mc ms pc L ws ce sl (.ref a :: st) := by
  obtain ⟨p, l, e, R, s, m, args, below, meth, c, D, T, A, Q, post⟩ := E
  intro ok ls H locs hl hP hD hS
  exact va_alen ok.1.1 ok.1.2.1 ok.2.1 hP q0 0 he rfl rfl hd (k ok ls H locs hl hP hD hS)

theorem k_max {x y : Int32} {idx : Nat} (hm : Cond.methodLink own idx Lib.Math.max.name ∈ lwg) (hs : Cond.static Lib.Math.max.name ∈ lwg) (hi : Cond.initialized "java/lang/Math" ∈ lwg) (hc : Cond.code Lib.Math.max.name Lib.Math.max.code 2 (some .int) ∈ lwg) (h1 : 1 ≤ d) (hcat : (st.map fun v => v.category).sum ≤ 8) (hce : ce ≤ mc) (hsl : sl ≤ ms) (hd : decode cc pc = .ok (.invokestatic idx, 3)) (k : KW E cc own nL d mc ms (pc + 3) L ws ce sl (.int (if x < y then y else x) :: st)) : KW E cc own nL d mc ms pc L ws ce sl (.int y :: .int x :: st) := by
  obtain ⟨p, l, e, R, s, m, args, below, meth, c, D, T, A, Q, post⟩ := E
  intro ok ls H locs hl hP hD hS
  obtain ⟨r1, r2, r3, r4⟩ := ok.2.2.2.1
  exact va_mmax ok.1.1 ok.1.2.1 (by rw [ok.1.2.2.1, hl.1]) ok.1.2.2.2.1 (ok.1.2.2.2.2 _ hm) (ok.1.2.2.2.2 _ hs) (ok.1.2.2.2.2 _ hi) (ok.1.2.2.2.2 _ hc) (by omega) (by omega) (by omega) (by omega) hd (k ok ls H locs hl hP hD hS)

theorem k_ret (hp : KPost E ws) (hce : ce = mc) (hsl : sl = ms) (hd : decode cc pc = .ok (.return_, 1)) : KW E cc own nL d mc ms pc L ws ce sl [] := by
  obtain ⟨p, l, e, R, s, m, args, below, meth, c, D, T, A, Q, post⟩ := E
  intro ok ls H locs hl hP hD hS
  subst hce; subst hsl
  exact ok.2.2.2.2.2 ws hp pc ls H locs hP hD hS hd
theorem KPost.of {w2 : va_W} (hp : KPost E ws) (e : w2 = ws) : KPost E w2 := e ▸ hp
theorem KW.wd {ce2 sl2 : Nat} (h1 : ce ≤ ce2) (h2 : sl ≤ sl2) (k : KW E cc own nL d mc ms pc L ws ce2 sl2 st) : KW E cc own nL d mc ms pc L ws ce sl st := by
  obtain ⟨p, l, e, R, s, m, args, below, meth, c, D, T, A, Q, post⟩ := E
  intro ok ls H locs hl hP hD hS
  exact W.widen h1 h2 (k ok ls H locs hl hP hD hS)
theorem KW.cw {ws2 : va_W} (e : ws2 = ws) (k : KW E cc own nL d mc ms pc L ws ce sl st) : KW E cc own nL d mc ms pc L ws2 ce sl st := e ▸ k
end SK

theorem o_ac_i : Cond.arrayClass .int ∈ lwg := in_lwg (i := 124) (by decide +kernel) (by decide +kernel)
theorem o_ac_l : Cond.arrayClass .long ∈ lwg := in_lwg (i := 312) (by decide +kernel) (by decide +kernel)
theorem o_ac_b : Cond.arrayClass .boolean ∈ lwg := in_lwg (i := 942) (by decide +kernel) (by decide +kernel)
theorem o_oi : Cond.instanceMethod Lib.objectInit ∈ lwg := in_lwg (i := 92) (by decide +kernel) (by decide +kernel)
theorem o_oc : Cond.code Lib.objectInit ⟨#[0xb1]⟩ 1 none ∈ lwg := in_lwg (i := 93) (by decide +kernel) (by decide +kernel)
theorem NwK.same {u U : State} (h : u.vm = U.vm) (k : NwK u) : NwK U := ⟨va_Nw.same rfl h k.1, va_Nw.same rfl h k.2.1, va_Nw.same rfl h k.2.2.1, va_Nw.same rfl h k.2.2.2.1, over_moved (by rw [← h]; exact Vm.Alike.refl _) k.2.2.2.2⟩
theorem NwK.warm {s U : State} (hW : s.WarmedH U.vm) (k : NwK s) : NwK U := ⟨k.1.warmM hW, k.2.1.warmM hW, k.2.2.1.warmM hW, k.2.2.2.1.warmM hW, over_moved hW.alike k.2.2.2.2⟩
/-- a row of rows, at q -/
def mlt (T : ClassId × ClassId × ClassId × ClassId) (q n k1 : Nat) : va_W := (q, .inl (T.2.2.2, n, .inr (.inr (.inr (.inr (fun i => some (q + 1 + i))))))) :: (List.range n).map (fun j => (q + 1 + j, .inl (T.1, k1, .inl (fun _ => 0))))
theorem mlt_at {T : ClassId × ClassId × ClassId × ClassId} {q n k1 i : Nat} {x : Nat × va_E} (h : (mlt T q n k1)[i]? = some x) : x.1 = q + i ∧ i ≤ n ∧ ((i = 0 ∧ x.2 = .inl (T.2.2.2, n, .inr (.inr (.inr (.inr (fun i => some (q + 1 + i))))))) ∨ ∃ j, i = j + 1 ∧ x.2 = .inl (T.1, k1, .inl (fun _ => 0))) := by
  cases i with
  | zero =>
    obtain rfl := Option.some.inj h
    exact ⟨rfl, Nat.zero_le _, Or.inl ⟨rfl, rfl⟩⟩
  | succ j =>
    have h2 : ((List.range n).map (fun j => ((q + 1 + j, .inl (T.1, k1, .inl (fun _ => 0))) : Nat × va_E)))[j]? = some x := by simpa [mlt] using h
    rw [List.getElem?_map] at h2
    by_cases hj : j < n
    · rw [List.getElem?_range hj] at h2
      obtain rfl := Option.some.inj h2
      exact ⟨by show q + 1 + j = q + (j + 1); omega, by omega, Or.inr ⟨j, rfl, rfl⟩⟩
    · rw [List.getElem?_eq_none (by simpa using hj)] at h2
      cases h2
set_option maxHeartbeats 1000000 in
theorem k_multi {E : Kc} {cc : ByteArray} {own : String} {nL d mc ms pc : Nat} {L : List Value} {ws : va_W} {ce sl : Nat} {st : List Value} {idx n k1 : Nat} (hcl : Cond.classLink own idx "[[I" ∈ lwg) (hn : n < 100) (hk : k1 < 100) (hce : ce + (1 + n) ≤ mc) (hsl : sl + (n + n * k1) ≤ ms) (hd : decode cc pc = .ok (.multianewarray idx 2, 4)) (k : ∀ q, KW E cc own nL d mc ms (pc + 4) L (ws ++ mlt (KT_ E) q n k1) (ce + 1 + n) (sl + n + n * k1) (.ref q :: st)) : KW E cc own nL d mc ms pc L ws ce sl (.int (nI k1) :: .int (nI n) :: st) := by
  obtain ⟨p, l, e, R, s, m, args, below, meth, c, D, T, A, Q, post⟩ := E
  intro ok ls H locs hl hP hD hS
  obtain ⟨r1, r2, r3, r4⟩ := ok.2.2.2.1
  intro T0 hT X
  obtain ⟨vm₁, X1, step⟩ := st_multi X ok.1.1 (own := own) (idx := idx) (n := n) (k := k1) (cA := T.2.2.2) (cI := T.1) ok.1.2.2.2.1 (ok.1.2.2.2.2 _ hcl) (over_moved (Vm.Alike.refl _) ok.2.2.2.2.1.2.2.2.2.2) (ok.1.2.2.2.2 _ o_ac_i) (show _ = some T.2.2.2 from (ok.2.1.2 3 _ rfl).2) (show _ = some T.1 from (ok.2.1.2 0 _ rfl).2) (g := F0 m pc ls (.int (nI k1) :: .int (nI n) :: st)) rfl (st := st) rfl (by rw [ok.1.2.1]; exact hd) hn hk (by omega) (by omega)
  have hh : (T0.setVm vm₁).heap = H := hT
  have f1 := mrow_is (T0.setVm vm₁) T.2.2.2 T.1 n k1 n
  generalize mrow (T0.setVm vm₁) T.2.2.2 T.1 n k1 n = F at X1 step f1
  rw [hh] at f1
  obtain ⟨z1, -, -, z2, f2, f3, -⟩ := f1
  have hPn : va_P D vwCl (ws ++ mlt T H.size n k1) F.heap := by
    refine va_P.app (hP.kept (fun k q hq => f2 q.1 ((hP k q hq).lt))) (fun i x hx => ?_)
    obtain ⟨m1, m2, m3⟩ := mlt_at hx
    rcases m3 with ⟨m4, m5⟩ | ⟨j, m4, m5⟩
    · have : va_at D vwCl (x.1, x.2) F.heap := by
        rw [m5, m1, m4]
        show F.heap[H.size + 0]? = some (vp_cell _ _)
        rw [Nat.add_zero, z2, orow, vp_cell_q]
        exact congrArg some (arrV_cg (fun j hj => by rw [if_pos hj]; rfl))
      exact this
    · have : va_at D vwCl (x.1, x.2) F.heap := by
        rw [m5, m1, m4]
        show F.heap[H.size + (j + 1)]? = some (vp_cell _ _)
        rw [show H.size + (j + 1) = H.size + 1 + j by omega, f3 j (by omega), vp_cell_i]
        rfl
      exact this
  have hDn : va_D A (ws ++ mlt T H.size n k1) := by
    refine va_D.app hD ⟨fun i j x y hx hy hxy => ?_, fun i x hx => ?_⟩ (fun i j x y hx hy hxy => ?_)
    · have := (mlt_at hx).1; have := (mlt_at hy).1; omega
    · have h1 := (mlt_at hx).1
      exact ok.2.2.1 _ (by have := hS.1; omega)
    · have h1 := (mlt_at hy).1
      have h2 := (hP i x hx).lt
      omega
  have hSn : va_S A s.heap F.heap (locs ++ (List.range n).map fun j => ⟨T0.heap.size, j⟩) := by
    refine ⟨by rw [z1]; have := hS.1; omega, fun q h1 h2 => ?_, fun q hq => ?_⟩
    · rw [f2 q (Nat.lt_of_lt_of_le h1 hS.1)]; exact hS.2.1 q h1 h2
    · rcases List.mem_append.mp hq with h | h
      · exact hS.2.2 q h
      · obtain ⟨j, -, rfl⟩ := List.mem_map.mp h
        exact ok.2.2.1 _ (by show s.heap.size ≤ T0.heap.size; rw [hT]; exact hS.1)
  obtain ⟨t, a1, b1⟩ := k H.size ok ls F.heap _ hl hPn hDn hSn F rfl X1
  refine ⟨t, step t ?_, b1⟩
  rw [hT]
  exact a1

