/-! the layout: abstract places 0 .. 63 of the object (0) and of the reference (50), what each is: (0, its class), (1, n) ints, (2, n) longs, (3, n) booleans, (4, n) rows of rows; 64, 65: LETTERS, KIND_ABOVE -/
abbrev Hp : Type := (Nat → Nat → Int32) × (Nat → Nat → Int64)
abbrev Gx : Type := (Nat → Nat) × va_G × ClassId × ClassId × ClassId × ClassId
def cvv (ρ : Nat → Nat) : Value → Value
  | .ref j => .ref (ρ j)
  | .int x => .int x
  | .long x => .long x
  | .float x => .float x
  | .double x => .double x
  | .null => .null
  | .retAddr x => .retAddr x
theorem cvv_cat (ρ : Nat → Nat) (v : Value) : (cvv ρ v).category = v.category := by cases v <;> rfl
def lyL : List (Nat × Nat) := [(0, 6), (0, 5), (1, 6), (4, 6), (1, 40), (1, 40), (1, 40), (1, 40), (1, 40), (1, 40), (0, 5), (1, 4), (4, 4), (1, 60), (1, 60), (1, 60), (1, 60), (0, 5), (1, 3), (4, 3), (1, 40), (1, 40), (1, 40), (0, 2), (0, 1), (1, 6), (1, 6), (1, 6), (1, 6), (1, 6), (1, 6), (1, 6), (1, 40), (1, 6), (1, 6), (0, 1), (1, 6), (1, 6), (1, 6), (1, 6), (1, 6), (0, 4), (1, 6), (1, 6), (0, 3), (1, 64), (1, 64), (0, 0), (2, 6), (1, 6), (0, 7), (1, 6), (1, 240), (1, 40), (1, 4), (1, 240), (1, 215), (1, 215), (1, 645), (3, 3), (1, 6), (1, 7), (1, 7), (1, 7)]
def fkL : List (List Nat) := [[2, 1, 1], [2, 2, 2, 2, 2, 0, 0, 0, 0], [2, 2, 2, 2, 2, 2, 0, 0, 0, 0, 0, 0], [2, 2, 2], [2, 2, 2, 0, 0, 0, 0, 3, 0, 0, 0], [0, 0, 2, 2], [2, 2, 2, 2, 2, 2, 2, 2, 2, 0, 0], [2, 2, 2, 2, 2, 2, 2, 2, 2, 2, 0, 0, 1, 1, 2, 2, 2, 0, 0, 0, 3]]
/-- the kind of field k of class ci: 0 int, 1 long, 2 a reference, 3 boolean -/
def fkA (ci k : Nat) : Nat := (fkL.getD ci []).getD k 9
def nfA (ci : Nat) : Nat := (fkL.getD ci []).length
/-- where the reference in field k of the object at place a, of class ci, leads -/
def rfA (ci a k : Nat) : Nat := match ci with
  | 0 => 48
  | 1 => a + 1 + k
  | 2 => [24, 30, 31, 32, 33, 34].getD k 0
  | 3 => [23, 45, 46].getD k 0
  | 4 => [23, 42, 43].getD k 0
  | 5 => a + k - 1
  | 6 => [1, 10, 17, 23, 35, 41, 44, 47, 49].getD k 0
  | _ => [51, 52, 53, 54, 55, 56, 57, 58, 59, 60, 0, 0, 0, 0, 61, 62, 63].getD k 0
def lenN : Nat := 64
def fieldV (G : Gx) (h : Hp) (ci a k : Nat) : Value := match fkA ci k with
  | 0 => .int (h.1 a k)
  | 1 => .long (h.2 a k)
  | 2 => .ref (G.1 (rfA ci a k))
  | _ => .int (h.1 a k)
def cellG (G : Gx) (h : Hp) (a : Nat) (q : Nat × Nat) : va_E := match q with
  | (0, ci) => .inr (ci, (List.range (nfA ci)).map (fieldV G h ci a))
  | (1, n) => .inl (G.2.2.1, n, .inl (h.1 a))
  | (2, n) => .inl (G.2.2.2.1, n, .inr (.inl (h.2 a)))
  | (3, n) => .inl (G.2.2.2.2.1, n, .inl (h.1 a))
  | (_, n) => .inl (G.2.2.2.2.2, n, .inr (.inr (.inr (.inr (fun i => some (G.1 (a + 1 + i)))))))
def wsG (G : Gx) (h : Hp) : va_W := lyL.zipIdx.map (fun q => (G.1 q.2, cellG G h q.2 q.1))
def tysG (G : Gx) : List (ClassId × FieldType) := [(G.2.2.1, .int), (G.2.2.2.1, .long), (G.2.2.2.2.1, .boolean), (G.2.2.2.2.2, .array .int)]
def AG (G : Gx) : Nat → Prop := fun q => ∃ j, j < lenN ∧ q = G.1 j
def letA (j : Nat) : Int32 := [115, 98, 112, 114, 102, 103].getD j 0
def kabA (j : Nat) : Int32 := [0, 0, 0, 0, 1, 3].getD j 0
def StG (G : Gx) (A : Nat → Prop) (U : State) (H : Heap) : Prop :=
  (va_Z "BerthAges" "LETTERS" "[I" (.ref (G.1 64)) A U H ∧ va_T .int (G.1 64) 6 (fun j => .int (letA j)) A U H) ∧
  (va_Z "BerthAges" "KIND_ABOVE" "[I" (.ref (G.1 65)) A U H ∧ va_T .int (G.1 65) 6 (fun j => .int (kabA j)) A U H)
theorem StG.moved {G : Gx} {A : Nat → Prop} {u U : State} {H : Heap} (hvm : u.vm.Alike U.vm) (h : StG G A u H) : StG G A U H := ⟨⟨h.1.1.moved hvm, h.1.2.moved hvm⟩, ⟨h.2.1.moved hvm, h.2.2.moved hvm⟩⟩
theorem StG.kept {G : Gx} {A : Nat → Prop} {U : State} {H H1 : Heap} (h : StG G A U H) (hq : ∀ a : Nat, a < H.size → ¬ A a → H1[a]? = H[a]?) : StG G A U H1 := ⟨⟨h.1.1.kept hq, h.1.2.kept hq⟩, ⟨h.2.1.kept hq, h.2.2.kept hq⟩⟩
theorem StG.narrow {G : Gx} {A B : Nat → Prop} {U : State} {H : Heap} (h : StG G A U H) (hAB : ∀ q, B q → A q) : StG G B U H := ⟨⟨h.1.1.narrow hAB, h.1.2.narrow hAB⟩, ⟨h.2.1.narrow hAB, h.2.2.narrow hAB⟩⟩
/-- the two links to private fields of the nest's host -/
def NwG (U : State) : Prop := va_Nw (.fieldLinkNest "BerthAges$Fleet" 66 "BerthAges" "LETTERS" "[I" "BerthAges") U ∧ va_Nw (.fieldLinkNest "BerthAges$Harbour" 103 "BerthAges" "KIND_ABOVE" "[I" "BerthAges") U
/-- what a method finds, and leaves -/
def Wd (G : Gx) (h : Hp) (U : State) : Prop := va_P G.2.1 vwCl (wsG G h) U.heap ∧ va_K G.2.1 vwCl (tysG G) U ∧ va_D (AG G) (wsG G h) ∧ StG G (AG G) U U.heap ∧ NwG U
def QC (G : Gx) (ro : Option Value) (h' : Hp) : Array Value → State → Outcome → State → Prop := fun _ st oc t =>
  oc = .returned (ro.map (cvv G.1)) ∧ va_P G.2.1 vwCl (wsG G h') t.heap ∧ va_F (AG G) st t
def rmD (d : Nat) : Room := { frames := d, cells := 0, slots := 0, locals := 60 * d }
/-- THE CONTRACT: from the arguments 'as' and the contents h the method y comes back with ro and the contents h' -/
def CT (d : Nat) (y : MethodName) (cc : ByteArray) (nL : Nat) (rt : Option FieldType) (as : List Value) (h : Hp) (ro : Option Value) (h' : Hp) : Prop :=
  ∀ (l : Launch) (G : Gx), Met l y (.code y cc nL rt :: lwg) (rmD d) (va_Pc (as.map (cvv G.1)) (Wd G h)) (QC G ro h') 0 0 (AG G)
abbrev Cx : Type := Program × Launch × Env × Room × State × MethodId × Array Value × List Frame × Method × Code × Gx × (Nat → Prop) × Nat × Nat × (State → Prop) × (Option Value → Hp → Prop)
def lvR (ls : Array Slot) (nL : Nat) (ρ : Nat → Nat) (L : List Value) : Prop := ls.size = nL ∧ lv_wf ls ∧ ∀ (i : Nat) (v : Value), L[i]? = some v → v ≠ .null → ls[i]? = some (.val (cvv ρ v))
def WX (E : Cx) (nL pc : Nat) (L : List Value) (h : Hp) (st : List Value) : Prop := match E with
  | (p, l, e, R, s, m, args, below, meth, c, G, A, ce, sl, Q, _) => ∀ (ls : Array Slot) (H : Heap) (locs : List Loc), lvR ls nL G.1 L → va_P G.2.1 vwCl (wsG G h) H → va_D A (wsG G h) → va_S A s.heap H locs → W p l e R s m args below meth c H locs ce sl Q (F0 m pc ls (st.map (cvv G.1)))
def PostE (E : Cx) : Option Value → Hp → Prop := match E with
  | (_, _, _, _, _, _, _, _, _, _, _, _, _, _, _, post) => post
/-- the ends: what is returned, by which instruction -/
def RetR (E : Cx) (cc : ByteArray) : Prop := match E with
  | (p, l, e, R, s, m, args, below, meth, c, G, A, ce, sl, Q, post) => ∀ (ro : Option Value) (h : Hp), post ro h → ∀ (pc : Nat) (ls : Array Slot) (H : Heap) (locs : List Loc), va_P G.2.1 vwCl (wsG G h) H → va_D A (wsG G h) → va_S A s.heap H locs →
      (∀ v : Int32, ro = some (.int v) → decode cc pc = .ok (.ireturn, 1) → W p l e R s m args below meth c H locs ce sl Q (F0 m pc ls [.int v])) ∧
      (∀ v : Int64, ro = some (.long v) → decode cc pc = .ok (.lreturn, 1) → W p l e R s m args below meth c H locs ce sl Q (F0 m pc ls [.long v])) ∧
      (ro = none → decode cc pc = .ok (.return_, 1) → W p l e R s m args below meth c H locs ce sl Q (F0 m pc ls []))
def CxOk (E : Cx) (cc : ByteArray) (own : String) (nL d : Nat) : Prop := RetR E cc ∧ match E with
  | (p, _, _, R, s, m, args, _, _, c, G, A, ce, sl, _, _) => (p.tables.exec = Jvm.exec ∧ c.code = cc ∧ c.maxLocals = nL ∧ s.vm.findClass own = some m.cls ∧ ∀ w ∈ lwg, w.before args s = true) ∧ va_K G.2.1 vwCl (tysG G) s ∧ StG G A s s.heap ∧ (d ≤ R.frames ∧ 60 * d ≤ R.locals ∧ ce ≤ R.cells ∧ sl ≤ R.slots ∧ NwG s)
/-- the machine in method (cc, own, nL), with call depth d left, at pc with the locals L, the contents h, the stack st, comes to its end -/
def WW (E : Cx) (cc : ByteArray) (own : String) (nL d pc : Nat) (L : List Value) (h : Hp) (st : List Value) : Prop := CxOk E cc own nL d → WX E nL pc L h st
def setL : List Value → Nat → Value → List Value
  | [], _, _ => []
  | _ :: t, 0, v => v :: t
  | a :: t, n + 1, v => (if n = 0 then (match a with
    | .long _ => .null
    | .double _ => .null
    | a => a) else a) :: setL t n v
def lgL (L : List Value) (i : Nat) : Value := match L, i with
  | [], _ => .null
  | v :: _, 0 => v
  | _ :: t, n + 1 => lgL t n
def ui (h : Hp) (a k : Nat) (v : Int32) : Hp := (fun x y => if x = a ∧ y = k then v else h.1 x y, h.2)
def ul (h : Hp) (a k : Nat) (v : Int64) : Hp := (h.1, fun x y => if x = a ∧ y = k then v else h.2 x y)
/-- places dp .. dp + n - 1 of row b come from row a's sp on -/
def ucp (h : Hp) (a sp b dp n : Nat) : Hp := (fun x y => if x = b ∧ dp ≤ y ∧ y < dp + n then h.1 a (sp + (y - dp)) else h.1 x y, h.2)
theorem lgL_get {L : List Value} {i : Nat} {v : Value} (h : lgL L i = v) (hv : v ≠ .null) : L[i]? = some v := by
  induction L generalizing i with
  | nil => exact absurd h.symm hv
  | cons a t ih =>
    cases i with
    | zero => simpa [lgL] using h
    | succ n => simpa using ih (i := n) h
theorem lvR.at {ls : Array Slot} {nL : Nat} {ρ : Nat → Nat} {L : List Value} (h : lvR ls nL ρ L) {i : Nat} {v : Value} (hv : lgL L i = v) (hn : v ≠ .null) : ls[i]? = some (.val (cvv ρ v)) := h.2.2 i v (lgL_get hv hn) hn
def ascL (ρ : Nat → Nat) : Nat → List Value → List (Nat × Value)
  | _, [] => []
  | k, v :: t => if v = .null then ascL ρ (k + 1) t else (k, cvv ρ v) :: ascL ρ (k + 1) t
theorem ascL_mem {ρ : Nat → Nat} {L : List Value} : ∀ {k : Nat} {q : Nat × Value}, q ∈ ascL ρ k L → ∃ (i : Nat) (v : Value), L[i]? = some v ∧ v ≠ .null ∧ q = (k + i, cvv ρ v) := by
  induction L with
  | nil => intro k q h; simp [ascL] at h
  | cons a t ih =>
    intro k q h
    unfold ascL at h
    by_cases ha : a = .null
    · rw [if_pos ha] at h
      obtain ⟨i, v, h1, h2, h3⟩ := ih h
      exact ⟨i + 1, v, by simpa using h1, h2, by rw [h3, show k + 1 + i = k + (i + 1) by omega]⟩
    · rw [if_neg ha] at h
      rcases List.mem_cons.mp h with h | h
      · exact ⟨0, a, by simp, ha, by rw [h]; simp⟩
      · obtain ⟨i, v, h1, h2, h3⟩ := ih h
        exact ⟨i + 1, v, by simpa using h1, h2, by rw [h3, show k + 1 + i = k + (i + 1) by omega]⟩
theorem mem_ascL {ρ : Nat → Nat} {L : List Value} : ∀ {k i : Nat} {v : Value}, L[i]? = some v → v ≠ .null → (k + i, cvv ρ v) ∈ ascL ρ k L := by
  induction L with
  | nil => intro k i v h; simp at h
  | cons a t ih =>
    intro k i v h hv
    unfold ascL
    cases i with
    | zero =>
      have : a = v := by simpa using h
      subst this
      rw [if_neg hv]
      simp
    | succ n =>
      have h2 : t[n]? = some v := by simpa using h
      have h3 := ih (k := k + 1) h2 hv
      rw [show k + 1 + n = k + (n + 1) by omega] at h3
      by_cases ha : a = .null
      · rw [if_pos ha]; exact h3
      · rw [if_neg ha]; exact List.mem_cons_of_mem _ h3
theorem lvR.has {ls : Array Slot} {nL : Nat} {ρ : Nat → Nat} {L : List Value} (h : lvR ls nL ρ L) : lv_has ls nL (ascL ρ 0 L) := ⟨h.1, h.2.1, fun q hq => by
  obtain ⟨i, v, h1, h2, h3⟩ := ascL_mem hq
  rw [h3]
  simpa using h.2.2 i v h1 h2⟩
theorem setL_get {L : List Value} : ∀ {i j : Nat} {v w : Value}, (setL L i v)[j]? = some w → w ≠ .null → (j = i ∧ w = v) ∨ (j ≠ i ∧ L[j]? = some w ∧ ¬ (j + 1 = i ∧ w.category = 2)) := by
  induction L with
  | nil => intro i j v w h; simp [setL] at h
  | cons a t ih =>
    intro i j v w h hw
    cases i with
    | zero =>
      cases j with
      | zero => exact Or.inl ⟨rfl, by simpa [setL] using h.symm⟩
      | succ n => exact Or.inr ⟨by omega, by simpa [setL] using h, by omega⟩
    | succ n =>
      cases j with
      | zero =>
        right
        refine ⟨by omega, ?_⟩
        simp only [setL, List.getElem?_cons_zero, Option.some.injEq] at h
        by_cases hn : n = 0
        · rw [if_pos hn] at h
          clear ih
          cases a <;> first | exact absurd h.symm hw | (subst h; exact ⟨by simp, fun z => absurd z.2 (by simp [Value.category])⟩)
        · rw [if_neg hn] at h
          exact ⟨by simpa using h, by omega⟩
      | succ k =>
        have h' : (setL t n v)[k]? = some w := by simpa [setL] using h
        rcases ih h' hw with ⟨h1, h2⟩ | ⟨h1, h2, h3⟩
        · exact Or.inl ⟨by omega, h2⟩
        · exact Or.inr ⟨by omega, by simpa using h2, by omega⟩
theorem lvR.set1 {ls' : Array Slot} {nL i : Nat} {ρ : Nat → Nat} {L L' : List Value} {v : Value} (hL : setL L i v = L') (h : lv_has ls' nL ((i, cvv ρ v) :: (ascL ρ 0 L).filter (fun q => !(q.1 == i) && !(q.1 + 1 == i && q.2.category == 2)))) : lvR ls' nL ρ L' := by
  refine ⟨h.1, h.2.1, fun j w hj hw => ?_⟩
  rw [← hL] at hj
  rcases setL_get hj hw with ⟨h1, h2⟩ | ⟨h1, h2, h3⟩
  · subst h1; subst h2
    exact h.2.2 _ List.mem_cons_self
  · refine h.2.2 (j, cvv ρ w) (List.mem_cons_of_mem _ (List.mem_filter.mpr ⟨by simpa using mem_ascL (k := 0) h2 hw, ?_⟩))
    simp only [cvv_cat, Bool.and_eq_true, Bool.not_eq_true', beq_eq_false_iff_ne, ne_eq, Bool.and_eq_false_imp, beq_iff_eq]
    exact ⟨h1, fun q => by simpa using fun z => h3 ⟨q, z⟩⟩
theorem lvR.set2 {ls' : Array Slot} {nL i : Nat} {ρ : Nat → Nat} {L L' : List Value} {v : Value} (hL : (setL L i v).set (i + 1) .null = L') (h : lv_has ls' nL ((i, cvv ρ v) :: (ascL ρ 0 L).filter (fun q => !(q.1 == i) && (!(q.1 == i + 1) && !(q.1 + 1 == i && q.2.category == 2))))) : lvR ls' nL ρ L' := by
  refine ⟨h.1, h.2.1, fun j w hj hw => ?_⟩
  rw [← hL, List.getElem?_set] at hj
  by_cases hji : i + 1 = j
  · rw [if_pos hji] at hj
    split at hj
    · exact absurd (Option.some.inj hj).symm hw
    · cases hj
  rw [if_neg hji] at hj
  rcases setL_get hj hw with ⟨h1, h2⟩ | ⟨h1, h2, h3⟩
  · subst h1; subst h2
    exact h.2.2 _ List.mem_cons_self
  · refine h.2.2 (j, cvv ρ w) (List.mem_cons_of_mem _ (List.mem_filter.mpr ⟨by simpa using mem_ascL (k := 0) h2 hw, ?_⟩))
    simp only [cvv_cat, Bool.and_eq_true, Bool.not_eq_true', beq_eq_false_iff_ne, ne_eq, Bool.and_eq_false_imp, beq_iff_eq]
    exact ⟨h1, fun q => hji q.symm, fun q => by simpa using fun z => h3 ⟨q, z⟩⟩
theorem ws_at (G : Gx) (h : Hp) {a : Nat} {q : Nat × Nat} (ha : lyL[a]? = some q) : (wsG G h)[a]? = some (G.1 a, cellG G h a q) := by
  simp [wsG, List.getElem?_map, List.getElem?_zipIdx, ha]
theorem ws_set (G : Gx) (h h' : Hp) {a : Nat} {q : Nat × Nat} (ha : lyL[a]? = some q) (hne : ∀ b p, b ≠ a → cellG G h b p = cellG G h' b p) : (wsG G h).set a (G.1 a, cellG G h' a q) = wsG G h' := by
  apply List.ext_getElem?
  intro i
  rw [List.getElem?_set]
  by_cases hi : a = i
  · subst hi
    rw [if_pos rfl, ws_at G h' ha]
    have : a < (wsG G h).length := (List.getElem?_eq_some_iff.mp (ws_at G h ha)).1
    simp [this]
  · rw [if_neg hi]
    simp only [wsG, List.getElem?_map, List.getElem?_zipIdx]
    cases hq : lyL[i]? with
    | none => simp
    | some p => simp [hne i p (fun e => hi e.symm)]
theorem cell_ne_i {G : Gx} {h : Hp} {a k : Nat} {v : Int32} (b : Nat) (p : Nat × Nat) (hb : b ≠ a) : cellG G h b p = cellG G (ui h a k v) b p := by
  have e1 : h.1 b = (ui h a k v).1 b := by funext y; simp [ui, hb]
  have e2 : (ui h a k v).2 = h.2 := rfl
  have e3 : ∀ ci k', fieldV G h ci b k' = fieldV G (ui h a k v) ci b k' := fun ci k' => by simp only [fieldV, e1, e2]
  unfold cellG
  split <;> simp only [e1, e2, e3, show fieldV G h _ b = fieldV G (ui h a k v) _ b from funext (e3 _)]
theorem cell_ne_l {G : Gx} {h : Hp} {a k : Nat} {v : Int64} (b : Nat) (p : Nat × Nat) (hb : b ≠ a) : cellG G h b p = cellG G (ul h a k v) b p := by
  have e1 : h.2 b = (ul h a k v).2 b := by funext y; simp [ul, hb]
  have e2 : (ul h a k v).1 = h.1 := rfl
  have e3 : ∀ ci k', fieldV G h ci b k' = fieldV G (ul h a k v) ci b k' := fun ci k' => by simp only [fieldV, e1, e2]
  unfold cellG
  split <;> simp only [e1, e2, e3, show fieldV G h _ b = fieldV G (ul h a k v) _ b from funext (e3 _)]
theorem cell_ne_c {G : Gx} {h : Hp} {a sp dp n c : Nat} (b : Nat) (p : Nat × Nat) (hb : b ≠ c) : cellG G h b p = cellG G (ucp h a sp c dp n) b p := by
  have e1 : h.1 b = (ucp h a sp c dp n).1 b := by funext y; simp [ucp, hb]
  have e2 : (ucp h a sp c dp n).2 = h.2 := rfl
  have e3 : ∀ ci k', fieldV G h ci b k' = fieldV G (ucp h a sp c dp n) ci b k' := fun ci k' => by simp only [fieldV, e1, e2]
  unfold cellG
  split <;> simp only [e1, e2, e3, show fieldV G h _ b = fieldV G (ucp h a sp c dp n) _ b from funext (e3 _)]
