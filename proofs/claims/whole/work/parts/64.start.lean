/-! THE CLAIM OUT OF ONE WALK OF THE LAW'S BODY. Your part is whole_start (and what it stands on); all else here is the same for every law, but numbers. -/
def R_law : String := "BerthAgesLaw"
def lw_P (b : Addr) (xs : List Int32) (args : Array Value) (s : State) : Prop := args = #[.ref b] ∧ s.IntsAt b xs ∧ xs.length ≤ 384 ∧ (Jvm.Cond.and given_1 narrow_1).before args s = true
def lw_Q (_ : Array Value) (s : State) (o : Outcome) (t : State) : Prop := o = .returned (some (.int 1)) ∧ Framed s o t [] 600000 7302250
def lw_Z (below : List Frame) (a : Array Value) (s : State) : State → Prop := fun t => ∃ o, t.status = .running ∧ Ended t below o ∧ lw_Q a s o t
/-- the law's own end, with 1 on the stack, nothing written that was there before, its room as the claim has it -/
theorem lw_ret {p : Program} {l : Launch} {e : Env} {s : State} {m : MethodId} {below : List Frame} {meth : Method} {c : Code} {b : Nat} (hx : p.tables.exec = Jvm.exec) (hb : c.code = code) (hr : meth.sig.returnType = ret) (hlocks : meth.locks = false) {pc : Nat} {H : Heap} {ls : Array Slot} (hdg : decode code pc = .ok (.ireturn, 1)) : W p l e room_1 s m #[Value.ref b] below meth c H [] 600000 7302250 (lw_Z below #[Value.ref b] s) (F0 m pc ls [.int 1]) := by
  intro T hT X
  obtain ⟨fs, hret, hrun, hended, hW, hframe⟩ := X.leave (v := some (.int 1)) (hlocks := hlocks) (fun h => by rw [hr] at h; cases h)
  have hmeth' : T.vm.method? m = some meth := X.method'
  refine ⟨T.setFrames fs, ?_, .returned (some (.int 1)), hrun, hended, rfl, ⟨_, rfl⟩, hW, hframe⟩
  jvm_step X.here [X.here.top, hx, hb, hdg, hmeth', hr, ret, narrow_b1]
  (try refine ⟨rfl, ?_⟩); (try refine ⟨rfl, ?_⟩)
  first | (intro acts; rw [hret _ acts rfl rfl rfl]) | rw [hret _ _ rfl rfl rfl]
  exact Steps.refl _
/-- what holds at the law's entry: the machine, the code, the tables' words (any of lw_tbl by 'hts w (by decide +kernel)'), the script of L ints xs at the cell b, what the Statement gives of the start (any of its parts by flat_of_before) -/
def lw_At (p : Program) (s : State) (m : MethodId) (meth : Method) (c : Code) (b L : Nat) (xs : Nat → Int32) : Prop :=
  p.tables.exec = Jvm.exec ∧ c.code = code ∧ meth.sig.returnType = ret ∧ c.maxLocals = 4 ∧ s.vm.findClass R_law = some m.cls ∧ (∀ w ∈ lw_tbl, w.before #[Value.ref b] s = true) ∧ va_X b L xs s s.heap ∧ b < s.heap.size ∧ meth.locks = false ∧ (Jvm.Cond.and given_1 narrow_1).before #[Value.ref b] s = true
theorem cl_L_7 : Cond.classLink RL 7 RX6 ∈ lwg := in_lwg (i := 86) (by decide +kernel) (by decide +kernel)
theorem ml_L_9 : Cond.methodLink RL 9 yX6_init ∈ lwg := in_lwg (i := 88) (by decide +kernel) (by decide +kernel)
theorem cl_L_10 : Cond.classLink RL 10 RX7 ∈ lwg := in_lwg (i := 872) (by decide +kernel) (by decide +kernel)
theorem ml_L_12 : Cond.methodLink RL 12 yX7_init ∈ lwg := in_lwg (i := 874) (by decide +kernel) (by decide +kernel)
section START
variable {s : State} {args : Array Value}
theorem arr_of {ty : FieldType} (h : (Cond.arrayClass ty).before args s = true) : ∃ c, ArrOfT s c ty ∧ s.vm.findClass ("[" ++ ty.toString) = some c := by
  obtain ⟨c, k, comp, h1, h2, h3⟩ := Cond.arrayClass_spec h
  exact ⟨c, fun n z => ⟨(fun k h => by cases h), k, h2, comp, h3⟩, h1⟩
theorem arr_ofA {ty : FieldType} (h : (Cond.arrayOver (.array ty)).before args s = true) : ∃ c, ArrOfT s c (.array ty) ∧ s.vm.findClass ("[" ++ (FieldType.array ty).toString) = some c := by
  obtain ⟨comp, c, k, h1, h2, h3, h4, h5⟩ := arrayOverA_spec h
  exact ⟨c, fun n z => ⟨(fun k h => by cases h), k, h3, comp, h4⟩, h5⟩
theorem st_K (hts : ∀ w ∈ lw_tbl, w.before args s = true) : ∃ (D : va_G) (T : Ty4), va_K D vwCl (tysK T) s := by
  have hg : ∀ w ∈ lwg, w.before args s = true := fun w hw => hts w (lwg_in hw)
  obtain ⟨c0, i0, k0⟩ := u_known (C := RX0) (T := TX0) (N := 3) hg (vw_in 0 (RX0, TX0, 3) rfl) (hg _ in_X0)
  obtain ⟨c1, i1, k1⟩ := u_known (C := RX1) (T := TX1) (N := 9) hg (vw_in 1 (RX1, TX1, 9) rfl) (hg _ in_X1)
  obtain ⟨c2, i2, k2⟩ := u_known (C := RX2) (T := TX2) (N := 12) hg (vw_in 2 (RX2, TX2, 12) rfl) (hg _ in_X2)
  obtain ⟨c3, i3, k3⟩ := u_known (C := RX3) (T := TX3) (N := 3) hg (vw_in 3 (RX3, TX3, 3) rfl) (hg _ in_X3)
  obtain ⟨c4, i4, k4⟩ := u_known (C := RX4) (T := TX4) (N := 11) hg (vw_in 4 (RX4, TX4, 11) rfl) (hg _ in_X4)
  obtain ⟨c5, i5, k5⟩ := u_known (C := RX5) (T := TX5) (N := 4) hg (vw_in 5 (RX5, TX5, 4) rfl) (hg _ in_X5)
  obtain ⟨c6, i6, k6⟩ := u_known (C := RX6) (T := TX6) (N := 11) hg (vw_in 6 (RX6, TX6, 11) rfl) (hg _ in_X6)
  obtain ⟨c7, i7, k7⟩ := u_known (C := RX7) (T := TX7) (N := 21) hg (vw_in 7 (RX7, TX7, 21) rfl) (hg _ in_X7)
  obtain ⟨a0, b0, d0⟩ := arr_of (hg _ o_ac_i)
  obtain ⟨a1, b1, d1⟩ := arr_of (hg _ o_ac_l)
  obtain ⟨a2, b2, d2⟩ := arr_of (hg _ o_ac_b)
  obtain ⟨a3, b3, d3⟩ := arr_ofA (ty := .int) (hts _ (List.mem_of_getElem? (i := 104) (by decide +kernel)))
  refine ⟨(fun k => [c0, c1, c2, c3, c4, c5, c6, c7].getD k c0, fun k => [i0, i1, i2, i3, i4, i5, i6, i7].getD k i0), (a0, a1, a2, a3), fun k q hq => ?_, fun k q hq => ?_⟩
  · match k, hq with
    | 0, hq => obtain rfl := Option.some.inj hq; exact k0
    | 1, hq => obtain rfl := Option.some.inj hq; exact k1
    | 2, hq => obtain rfl := Option.some.inj hq; exact k2
    | 3, hq => obtain rfl := Option.some.inj hq; exact k3
    | 4, hq => obtain rfl := Option.some.inj hq; exact k4
    | 5, hq => obtain rfl := Option.some.inj hq; exact k5
    | 6, hq => obtain rfl := Option.some.inj hq; exact k6
    | 7, hq => obtain rfl := Option.some.inj hq; exact k7
    | k + 8, hq => cases hq
  · match k, hq with
    | 0, hq => obtain rfl := Option.some.inj hq; exact ⟨b0, d0⟩
    | 1, hq => obtain rfl := Option.some.inj hq; exact ⟨b1, d1⟩
    | 2, hq => obtain rfl := Option.some.inj hq; exact ⟨b2, d2⟩
    | 3, hq => obtain rfl := Option.some.inj hq; exact ⟨b3, d3⟩
    | k + 4, hq => cases hq
theorem st_NK (hts : ∀ w ∈ lw_tbl, w.before args s = true) : NwK s := ⟨va_Nw.of rfl (hts _ (List.mem_of_getElem? (i := 127) (by decide +kernel))), va_Nw.of rfl (hts _ (List.mem_of_getElem? (i := 133) (by decide +kernel))), va_Nw.of rfl (hts _ (List.mem_of_getElem? (i := 231) (by decide +kernel))), va_Nw.of rfl (hts _ (List.mem_of_getElem? (i := 296) (by decide +kernel))), over_moved (Vm.Alike.refl _) (hts _ (List.mem_of_getElem? (i := 104) (by decide +kernel)))⟩
theorem st_NG (hts : ∀ w ∈ lw_tbl, w.before args s = true) : NwG s := ⟨va_Nw.of rfl (hts _ (List.mem_of_getElem? (i := 468) (by decide +kernel))), va_Nw.of rfl (hts _ (List.mem_of_getElem? (i := 537) (by decide +kernel)))⟩
theorem lt6 {j : Nat} (h : j < 6) : j = 0 ∨ j = 1 ∨ j = 2 ∨ j = 3 ∨ j = 4 ∨ j = 5 := by omega
theorem st_S (hts : ∀ w ∈ lw_tbl, w.before args s = true) (hgv : (Jvm.Cond.and given_1 narrow_1).before args s = true) {A : Nat → Prop} (hA : ∀ a : Nat, a < s.heap.size → ¬ A a) : ∃ t1 t2 : Nat, (va_Z "BerthAges" "LETTERS" "[I" (.ref t1) A s s.heap ∧ va_T .int t1 6 (fun j => .int (letA j)) A s s.heap) ∧ (va_Z "BerthAges" "KIND_ABOVE" "[I" (.ref t2) A s s.heap ∧ va_T .int t2 6 (fun j => .int (kabA j)) A s s.heap) := by
  have hs := flat_of_before _ hgv
  obtain ⟨t1, e1, k1⟩ := va_Tof (tm := .static "BerthAges" "LETTERS" "[I") (ty := .int) (N := 6) (f := fun j => .int (letA j)) (A := A) (by decide) (hs _ (by decide +kernel)) (va_eqt (hs _ (by decide +kernel))) (fun j hj => by
    rcases lt6 hj with rfl | rfl | rfl | rfl | rfl | rfl <;> exact va_eqt (hs _ (by decide +kernel))) hA
  obtain ⟨t2, e2, k2⟩ := va_Tof (tm := .static "BerthAges" "KIND_ABOVE" "[I") (ty := .int) (N := 6) (f := fun j => .int (kabA j)) (A := A) (by decide) (hs _ (by decide +kernel)) (va_eqt (hs _ (by decide +kernel))) (fun j hj => by
    rcases lt6 hj with rfl | rfl | rfl | rfl | rfl | rfl <;> exact va_eqt (hs _ (by decide +kernel))) hA
  exact ⟨t1, t2, ⟨va_Zof (hts _ (List.mem_of_getElem? (i := 469) (by decide +kernel))) (hts _ (lwg_in ii_X6)) e1 hA, k1⟩, ⟨va_Zof (hts _ (List.mem_of_getElem? (i := 538) (by decide +kernel))) (hts _ (lwg_in ii_X6)) e2 hA, k2⟩⟩
end START

def H0I : List (Nat → Int32) := [fun _ => 0, fun y => [nI 6, nI 40].getD y 0, (upd (upd (upd (upd (upd (upd (fun _ => 0) 0 (-1)) 1 (-1)) 2 (-1)) 3 (-1)) 4 (-1)) 5 (-1)), fun _ => 0, fun _ => 0, fun _ => 0, fun _ => 0, fun _ => 0, fun _ => 0, fun _ => 0, fun y => [nI 4, nI 60].getD y 0, (upd (upd (upd (upd (fun _ => 0) 0 (-1)) 1 (-1)) 2 (-1)) 3 (-1)), fun _ => 0, fun _ => 0, fun _ => 0, fun _ => 0, fun _ => 0, fun y => [nI 3, nI 40].getD y 0, (upd (upd (upd (fun _ => 0) 0 (-1)) 1 (-1)) 2 (-1)), fun _ => 0, fun _ => 0, fun _ => 0, fun _ => 0, fun _ => 0, fun _ => 0, fun _ => 0, fun _ => 0, fun _ => 0, fun _ => 0, fun _ => 0, fun _ => 0, fun _ => 0, fun _ => 0, fun _ => 0, fun _ => 0, fun _ => 0, fun _ => 0, fun _ => 0, fun _ => 0, fun _ => 0, fun _ => 0, fun _ => 0, fun _ => 0, fun _ => 0, fun _ => 0, fun _ => 0, fun _ => 0, fun _ => 0, fun _ => 0, fun _ => 0, fun _ => 0, (upd (upd (upd (upd (upd (upd (fun _ => 0) 0 (-1)) 1 (-1)) 2 (-1)) 3 (-1)) 4 (-1)) 5 (-1)), fun _ => 0, fun _ => 0, (upd (upd (upd (upd (fun _ => 0) 0 (-1)) 1 (-1)) 2 (-1)) 3 (-1)), fun _ => 0, fun _ => 0, fun _ => 0, fun _ => 0, fun _ => 0, fun _ => 0, fun _ => 0, fun _ => 0, fun _ => 0]
def H0J : List (Nat → Int64) := [fun _ => 0, fun _ => 0, fun _ => 0, fun _ => 0, fun _ => 0, fun _ => 0, fun _ => 0, fun _ => 0, fun _ => 0, fun _ => 0, fun _ => 0, fun _ => 0, fun _ => 0, fun _ => 0, fun _ => 0, fun _ => 0, fun _ => 0, fun _ => 0, fun _ => 0, fun _ => 0, fun _ => 0, fun _ => 0, fun _ => 0, fun _ => 0, fun _ => 0, fun _ => 0, fun _ => 0, fun _ => 0, fun _ => 0, fun _ => 0, fun _ => 0, fun _ => 0, fun _ => 0, fun _ => 0, fun _ => 0, fun _ => 0, fun _ => 0, fun _ => 0, fun _ => 0, fun _ => 0, fun _ => 0, fun _ => 0, fun _ => 0, fun _ => 0, fun _ => 0, fun _ => 0, fun _ => 0, fun y => [0, 0, 1].getD y 0, fun _ => 0, fun _ => 0, fun y => [0, 0, 0, 0, 0, 0, 0, 0, 0, 0, 0, 0, 0, 1].getD y 0, fun _ => 0, fun _ => 0, fun _ => 0, fun _ => 0, fun _ => 0, fun _ => 0, fun _ => 0, fun _ => 0, fun _ => 0, fun _ => 0, fun _ => 0, fun _ => 0, fun _ => 0]
def H0 : Hp := (fun x => H0I.getD x (fun _ => 0), fun x => H0J.getD x (fun _ => 0))
theorem H0_inv : Inv H0 := by
  refine ⟨⟨fun _ => 0, fun _ => 0, fun _ => 0, ⟨⟨fun _ _ => rfl, ⟨⟨⟨rfl, rfl, rfl, rfl, rfl, rfl⟩, fun i hi => absurd hi (Nat.not_lt_zero _), 0, by decide, rfl, fun i hi => absurd hi (Nat.not_lt_zero _)⟩, fun i hi => absurd hi (Nat.not_lt_zero _)⟩, ⟨rfl, rfl, rfl, fun i hi => absurd hi (Nat.not_lt_zero _)⟩, rfl, fun j hj => absurd hj (Nat.not_lt_zero _)⟩, ?ok, ?ok, ⟨rfl, rfl, rfl, rfl, fun i hi => absurd hi (Nat.not_lt_zero _)⟩, ⟨⟨by decide, fun k hk => absurd hk (Nat.not_lt_zero _)⟩, fun _ _ => rfl⟩⟩, ⟨rfl, rfl⟩, fun k hk => Or.inl ?_⟩, ⟨⟨rfl, rfl⟩, fun k hk => ?_⟩, ⟨⟨rfl, rfl⟩, fun k hk => ?_⟩, ⟨rfl, fun f hf => rfl⟩, rfl, ⟨rfl, rfl⟩⟩
  case ok => exact ⟨⟨⟨by decide, by decide, by decide, by decide, by decide, by decide, by decide⟩, fun i hi => absurd hi (Nat.not_lt_zero _)⟩, by decide, by decide, fun i hi => absurd hi (Nat.not_lt_zero _)⟩
  · rcases (show k = 0 ∨ k = 1 ∨ k = 2 by omega) with rfl | rfl | rfl <;> exact ⟨rfl, rfl⟩
  · rcases lt6 hk with rfl | rfl | rfl | rfl | rfl | rfl <;> exact ⟨rfl, ⟨0, by decide, Or.inr ⟨rfl, rfl⟩⟩, fun j hj => rfl⟩
  · rcases (show k = 0 ∨ k = 1 ∨ k = 2 ∨ k = 3 by omega) with rfl | rfl | rfl | rfl <;> exact ⟨rfl, ⟨0, by decide, Or.inr ⟨rfl, rfl⟩⟩, fun j hj => rfl⟩
