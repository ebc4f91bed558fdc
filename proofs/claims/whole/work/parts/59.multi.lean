/-! ### a row of rows: the machine's own making, row by row -/
theorem arrV_cg {c : ClassId} {N : Nat} {f g : Nat → Value} (h : ∀ j, j < N → f j = g j) : arrV c N f = arrV c N g := by
  unfold arrV
  congr 1
  congr 1
  funext j
  exact h j.val j.isLt
/-- the outer row, when i of its rows are there -/
def orow (c : ClassId) (n q i : Nat) : Cell := arrV c n (fun j => if j < i then .ref (q + 1 + j) else .null)
def irow (c : ClassId) (k : Nat) : Cell := arrV c k (fun _ => .int 0)
theorem orow_set (c : ClassId) (n q i : Nat) : (orow c n q i).setSlot i (.ref (q + 1 + i)) = orow c n q (i + 1) := by
  unfold orow
  rw [arrV_store]
  refine arrV_cg (fun j _ => ?_)
  simp only [updV]
  by_cases e : j = i
  · rw [if_pos e, if_pos (by omega), e]
  · rw [if_neg e]
    by_cases e2 : j < i
    · rw [if_pos e2, if_pos (by omega)]
    · rw [if_neg e2, if_neg (by omega)]
theorem orow_new (c : ClassId) (n q : Nat) : ({ cls := c, slots := Array.replicate n .null, vm := .none } : Cell) = orow c n q 0 := by
  rw [arrV_new]
  exact arrV_cg (fun j _ => by rw [if_neg (Nat.not_lt_zero _)])
/-- the state, when i rows are there -/
def mrow (S : State) (cA cI : ClassId) (n k : Nat) : Nat → State
  | 0 => S.pushCell (orow cA n S.heap.size 0)
  | i + 1 => ((mrow S cA cI n k i).pushCell (irow cI k)).setCell S.heap.size (orow cA n S.heap.size (i + 1))
theorem mrow_is (S : State) (cA cI : ClassId) (n k i : Nat) : (mrow S cA cI n k i).heap.size = S.heap.size + 1 + i ∧ (mrow S cA cI n k i).vm = S.vm ∧ (mrow S cA cI n k i).slotsUsed = S.slotsUsed + n + i * k ∧ (mrow S cA cI n k i).heap[S.heap.size]? = some (orow cA n S.heap.size i) ∧ (∀ a : Nat, a < S.heap.size → (mrow S cA cI n k i).heap[a]? = S.heap[a]?) ∧ (∀ j, j < i → (mrow S cA cI n k i).heap[S.heap.size + 1 + j]? = some (irow cI k)) ∧ ∀ f : JFrame, mrow (S.setTop f) cA cI n k i = (mrow S cA cI n k i).setTop f := by
  induction i with
  | zero =>
    refine ⟨by simp [mrow], rfl, by simp [mrow, orow, arrV_size], by simp [mrow], fun a ha => State.heap_pushCell_of_lt _ _ ha, fun j hj => absurd hj (Nat.not_lt_zero _), fun f => rfl⟩
  | succ i ih =>
    obtain ⟨h1, h2, h3, h4, h5, h6, h7⟩ := ih
    have up : ∀ a : Nat, a < S.heap.size + 1 + i → ((mrow S cA cI n k i).pushCell (irow cI k)).heap[a]? = (mrow S cA cI n k i).heap[a]? := fun a ha => State.heap_pushCell_of_lt _ _ (by rw [h1]; exact ha)
    have ne : ∀ a : Nat, S.heap.size ≠ a → (mrow S cA cI n k (i + 1)).heap[a]? = ((mrow S cA cI n k i).pushCell (irow cI k)).heap[a]? := fun a ha => State.heap_setCell_other ha
    refine ⟨?_, ?_, ?_, ?_, fun a ha => ?_, fun j hj => ?_, fun f => ?_⟩
    · simp [mrow, State.setCell, h1]; omega
    · simp [mrow, h2]
    · simp [mrow, h3, irow, arrV_size, Nat.succ_mul]; omega
    · exact State.heap_setCell_self ((up _ (by omega)).trans h4)
    · rw [ne a (by omega), up a (by omega)]; exact h5 a ha
    · rw [ne _ (by omega)]
      by_cases e : j < i
      · rw [up _ (by omega)]; exact h6 j e
      · rw [show S.heap.size + 1 + j = (mrow S cA cI n k i).heap.size by rw [h1]; omega]
        exact State.heap_pushCell_size _ _
    · simp only [mrow, h7 f, State.heap_setTop, State.pushCell_setTop, State.setCell_setTop]
/-- ... stands as the state before stood -/
theorem mrow_stand {p : Program} {l : Launch} {e : Env} {R : Room} {s : State} {m : MethodId} {args : Array Value} {below : List Frame} {meth : Method} {c : Code} {T : State} {locs : List Loc} {cells slots : Nat} (X : Stand p l e R s m args below meth c T locs cells slots) (cA cI : ClassId) (n k i : Nat) : Stand p l e R s m args below meth c (mrow T cA cI n k i) (locs ++ (List.range i).map fun j => ⟨T.heap.size, j⟩) (cells + 1 + i) (slots + n + i * k) := by
  induction i with
  | zero =>
    have h := X.pushed (orow cA n T.heap.size 0)
    rw [show (orow cA n T.heap.size 0).slots.size = n from arrV_size _ _ _] at h
    rw [Nat.zero_mul]
    simpa [mrow] using h
  | succ i ih =>
    obtain ⟨h1, -, -, h4, -⟩ := mrow_is T cA cI n k i
    have h := (ih.pushed (irow cI k)).stored (a := T.heap.size) (cell := orow cA n T.heap.size i) (by rw [State.heap_pushCell_of_lt _ _ (show T.heap.size < (mrow T cA cI n k i).heap.size by rw [h1]; omega)]; exact h4) i (.ref (T.heap.size + 1 + i))
    rw [orow_set, show (irow cI k).slots.size = k from arrV_size _ _ _, List.append_assoc] at h
    rw [List.range_succ, List.map_append, show slots + n + (i + 1) * k = slots + n + i * k + k by rw [Nat.succ_mul]; omega]
    exact h
section WPR
variable {E : CtlPost} {e : Env} {d : Bool} {acts : List Action} {S : State} {cA cI cx : ClassId} {kA kI : Class} {n k : Nat}
theorem wp_irow (hI : S.vm.classes[cI]? = some kI) (hkI : kI.kind = .array cx .int) (hk : k < 100) (hl : 100 ≤ e.platform.arrayLengthLimit) (hh : 400 ≤ e.platform.maxHeapBytes) (h1 : S.heap.size < e.platform.maxCells) (h2 : S.slotsUsed + k ≤ e.platform.maxSlots) {Q : Addr → Pre} (hq : ∀ acts', Q S.heap.size d acts' (S.pushCell (irow cI k))) : wp (multianewarray.make cI [nI k]) Q E e d acts S := by
  rw [multianewarray.make]
  simp only [wp_bind', W.ite, nI_pos (show k < 2 ^ 31 by omega), if_false, wp_pure', W.theClass, hI, hkI, Option.some.injEq, exists_eq_left']
  refine W.newArray_of hI hkI (by rw [nI_clamp (by omega)]; omega) (by rw [nI_clamp (by omega)]; show ¬ k * 4 > _; omega) h1 (by rw [nI_clamp (by omega)]; exact h2) rfl (fun acts' => ?_)
  rw [nI_clamp (by omega)]
  have := hq acts'
  rw [irow, ← arrV_new] at this
  exact this
theorem wp_mrow (hA : S.vm.classes[cA]? = some kA) (hkA : kA.kind = .array cI (.array .int)) (hI : S.vm.classes[cI]? = some kI) (hkI : kI.kind = .array cx .int) (hn : n < 100) (hk : k < 100) (hl : 100 ≤ e.platform.arrayLengthLimit) (hh : 400 ≤ e.platform.maxHeapBytes) (h1 : S.heap.size + 1 + n ≤ e.platform.maxCells) (h2 : S.slotsUsed + n + n * k ≤ e.platform.maxSlots) {Q : Addr → Pre} (hq : ∀ d' acts', Q S.heap.size d' acts' (mrow S cA cI n k n)) : wp (multianewarray.make cA [nI n, nI k]) Q E e d acts S := by
  have ek : ¬ nI k < 0 := nI_pos (by omega)
  have en : ¬ nI n < 0 := nI_pos (by omega)
  have hf : ([nI k].find? (· < 0)) = none := by simp [ek]
  rw [multianewarray.make]
  simp only [wp_bind', W.ite, en, if_false, wp_pure', W.theClass, hA, hkA, Option.some.injEq, exists_eq_left', nI_clamp (show n < 2 ^ 31 by omega)]
  refine W.newArray_of hA hkA (by omega) (by show ¬ n * 4 > _; omega) (by omega) (by omega) rfl (fun acts' => ?_)
  rw [orow_new cA n S.heap.size]
  simp only [hf]
  rw [ite_self, wp_bind', Std.Legacy.Range.forIn_eq_forIn_range', show ([:n] : Std.Legacy.Range).size = n by simp [Std.Legacy.Range.size]]
  refine wp_forIn_inv (fun r U => ∃ i, i + r.length = n ∧ r = List.range' i r.length ∧ U = mrow S cA cI n k i) _ (List.range' 0 n 1) ⟨0, by simp, by simp, rfl⟩ (fun x r U d2 acts2 Q2 hi hnext => ?_) (fun U d2 acts2 hi => ?_)
  · obtain ⟨i, e1, e2, rfl⟩ := hi
    rw [List.length_cons, List.range'_succ] at e2
    obtain ⟨rfl, e3⟩ := List.cons.inj e2
    rw [List.length_cons] at e1
    obtain ⟨z1, z2, z3, z4, -⟩ := mrow_is S cA cI n k x
    have hm : (x + 1) * k ≤ n * k := Nat.mul_le_mul_right k (by omega)
    rw [Nat.succ_mul] at hm
    simp only [wp_bind']
    refine wp_irow (by rw [z2]; exact hI) hkI hk hl hh (by omega) (by omega) (fun acts3 => ?_)
    simp only [wp_bind', W.writeLoc, wp_pure']
    refine ⟨orow cA n S.heap.size x, by rw [State.heap_pushCell_of_lt _ _ (show S.heap.size < (mrow S cA cI n k x).heap.size by rw [z1]; omega)]; exact z4, by simp [orow, arrV], by rw [show (orow cA n S.heap.size x).slots.size = n from arrV_size _ _ _]; omega, ?_, hnext _ _ _ ⟨x + 1, by omega, e3, ?_⟩⟩
    · show State.fitsSlot _ cA .none x _ = true
      simp [State.fitsSlot, State.slotType?, z2, hA, hkA]
      rfl
    · rw [z1, orow_set]; rfl
  · obtain ⟨i, e1, -, rfl⟩ := hi
    obtain rfl : i = n := by simpa using e1
    simp only [wp_pure']
    exact hq _ _
end WPR
set_option maxHeartbeats 1000000 in
/-- THE STEP of multianewarray, of two lengths -/
theorem st_multi {p : Program} {l : Launch} {e : Env} {R : Room} {s : State} {m : MethodId} {args : Array Value} {below : List Frame} {meth : Method} {c : Code} {T : State} {locs : List Loc} {cells slots : Nat} (X : Stand p l e R s m args below meth c T locs cells slots) (hexec : p.tables.exec = Jvm.exec) {own : String} {idx n k : Nat} {cA cI : ClassId} (hown : s.vm.findClass own = some m.cls) (hcl : (Cond.classLink own idx "[[I").before args s = true) (hover : (Cond.arrayOver (.array .int)).before args s = true) (hac : (Cond.arrayClass .int).before args s = true) (hfA : s.vm.findClass "[[I" = some cA) (hfI : s.vm.findClass "[I" = some cI) {g : JFrame} (hg : g.method = m) {st : List Value} (hst : g.stack = .int (nI k) :: .int (nI n) :: st) (hd : decode c.code g.pc = .ok (.multianewarray idx 2, 4)) (hn : n < 100) (hk : k < 100) (hce : cells + (1 + n) ≤ R.cells) (hsl : slots + (n + n * k) ≤ R.slots) :
    ∃ vm1 : Vm, Stand p l e R s m args below meth c (mrow (T.setVm vm1) cA cI n k n) (locs ++ (List.range n).map fun j => ⟨T.heap.size, j⟩) (cells + 1 + n) (slots + n + n * k) ∧ ∀ target, Steps p.tables e below ((mrow (T.setVm vm1) cA cI n k n).setTop { g with pc := g.pc + 4, stack := .ref T.heap.size :: st }) target → Steps p.tables e below (T.setTop g) target := by
  subst hg
  obtain ⟨comp, c2, kA, a1, -, a3, a4, a5⟩ := arrayOverA_spec hover
  obtain ⟨c3, kI, cx, b1, b2, b3⟩ := Cond.arrayClass_spec hac
  obtain rfl : c2 = cA := Option.some.inj ((show s.vm.findClass "[[I" = some c2 from a5).symm.trans hfA)
  obtain rfl : comp = cI := Option.some.inj ((show s.vm.findClass "[I" = some comp from a1).symm.trans hfI)
  obtain rfl : c3 = comp := Option.some.inj ((show s.vm.findClass "[I" = some c3 from b1).symm.trans hfI)
  obtain ⟨c4, g1, g2⟩ := Cond.classLink_spec hown hcl e.platform (by rw [X.admits.platform])
  obtain rfl : c4 = c2 := Option.some.inj (g1.symm.trans hfA)
  obtain ⟨r1, w1, y1⟩ := State.classEntry (e := e) X.warmed g2
  generalize T.vm.noted g.method.cls idx (.cls c4) = vm1 at r1 w1 y1
  obtain ⟨kA1, u1, u2⟩ := w1.alike.2.2 _ _ a3
  obtain ⟨kI1, v1, v2⟩ := w1.alike.2.2 _ _ b2
  obtain ⟨rc, rs⟩ := X.roomAbove hce hsl
  have XF := mrow_stand (X.noted w1) c4 c3 n k n
  refine ⟨vm1, XF, fun target hrest => ?_⟩
  jvm_step X.here [hexec, hd]
  simp only [multianewarray.sem, wp_bind', W.resolveClassAt_links (State.method?_setTop g X.here.top) r1]
  rw [W.popN, if_neg (by decide)]
  refine ⟨g, State.topJava?_setTop' (s := T.setVm vm1) g X.here.top, [.int (nI n), .int (nI k)], st, rfl, hst, ?_⟩
  simp only [List.mapM_cons, List.mapM_nil, wp_bind', wp_pure']
  refine wp_mrow u1 (by rw [u2]; exact a4) v1 (by rw [v2]; exact b3) hn hk (by rw [Launch.admits_arrayLengthLimit X.admits]; decide) (by rw [Launch.admits_maxHeapBytes X.admits]; decide) (by show T.heap.size + 1 + _ ≤ _; omega) (by show T.slotsUsed + _ + _ ≤ _; omega) (fun d2 acts2 => ?_)
  rw [show ((T.setTop g).setVm vm1).setTop { g with stack := st } = (T.setVm vm1).setTop { g with stack := st } from (show ((T.setVm vm1).setTop g).setTop _ = _ by rw [State.setTop_setTop]), (mrow_is _ _ _ _ _ _).2.2.2.2.2.2]
  simp only [wp_bind', W.mark, W.pushRef, State.topJava?_setTop' _ XF.here.top, Option.some.injEq, exists_eq_left', State.setTop_setTop, State.heap_setTop]
  intro acts3
  simp [jvm, XF.here.top]
  exact hrest
