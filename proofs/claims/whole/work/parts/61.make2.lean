def rmK (d mc ms : Nat) : Room := { frames := d, cells := mc, slots := ms, locals := 60 * d }
abbrev Ty4 : Type := ClassId × ClassId × ClassId × ClassId
/-- what is found: one cell, of content x0 -/
def Wk (D : va_G) (T : Ty4) (q0 sz : Nat) (x0 : va_E) (U : State) : Prop := (U.heap.size = sz ∧ va_P D vwCl [(q0, x0)] U.heap ∧ va_K D vwCl (tysK T) U ∧ va_D (fun _ => True) [(q0, x0)]) ∧ NwK U
/-- THE CONTRACT of a method that makes: from the cell q0 with x0 it comes to the cells w with 'post' -/
def KT (d mc ms : Nat) (y : MethodName) (cc : ByteArray) (nL : Nat) (x0 : Ty4 → va_E) (as : List Value) (post : Ty4 → Nat → va_W → Prop) : Prop :=
  ∀ (l : Launch) (D : va_G) (T : Ty4) (q0 sz : Nat), Met l y (.code y cc nL none :: lwg) (rmK d mc ms) (va_Pc (.ref q0 :: as) (Wk D T q0 sz (x0 T))) (va_Qv (post T q0) (fun w t => va_P D vwCl w t.heap ∧ va_D (va_A [(q0, x0 T)] sz) w) (va_A [(q0, x0 T)] sz)) mc ms (va_A [(q0, x0 T)] sz)
theorem cvv_id (v : Value) : cvv id v = v := by cases v <;> rfl
theorem map_id (as : List Value) : as.map (cvv id) = as := by
  induction as with
  | nil => rfl
  | cons a t ih => rw [List.map_cons, ih, cvv_id]
set_option maxHeartbeats 1000000 in
theorem KT.of {d mc ms nL : Nat} {y : MethodName} {cc : ByteArray} {x0 : Ty4 → va_E} {as : List Value} {post : Ty4 → Nat → va_W → Prop} {own : String} (hown : y.cls = own) (hy : plainName y.cls = true) (hnm : KIn own → y.name = "<init>") (L0 : Nat → List Value) (hL : ∀ q0, entL (.ref q0 :: as) ++ List.replicate (nL - (lg_sl (.ref q0 :: as)).length) .null = L0 q0) (hlen : ∀ q0, (lg_sl (.ref q0 :: as)).length ≤ nL) (body : ∀ (E : Kc) (q0 : Nat), (∀ w, post (KT_ E) q0 w → KPost E w) → KW E cc own nL d mc ms 0 (L0 q0) [(q0, x0 (KT_ E))] 0 0 []) : KT d mc ms y cc nL x0 as post := by
  intro l D T q0 sz
  refine Met.ofW (cc := cc) (maxL := nL) (ret := none) hy rfl ?_
  intro p e s m args below meth c s₁ B hml hv
  obtain ⟨rfl, ⟨hsz, hP, hK, hD⟩, hN⟩ := hv
  subst hsz
  have hts := atoms_spec (ws := .code y cc nL none :: lwg) B.pre
  have hown2 : s.vm.findClass own = some m.cls := by rw [← hown]; exact findClass_of_methodNamed B.named
  have hlocks := B.notSynchronized
  have hrt := B.returns
  have hin : meth.name = y.name := (name_of_methodNamed B.named B.method).1
  rw [lg_entry_eq]
  have hl := lv_entry (.ref q0 :: as) (n := nL) (hlen q0)
  generalize (lg_sl (.ref q0 :: as) ++ List.replicate (nL - (lg_sl (.ref q0 :: as)).length) Slot.unset).toArray = ls at hl ⊢
  have hl2 : lvR ls nL id (L0 q0) := ⟨hl.1, hl.2.1, fun i v hi hv => by
    rw [← hL q0] at hi
    by_cases hii : i < (entL (.ref q0 :: as)).length
    · rw [List.getElem?_append_left hii] at hi
      have h1 := entL_args (ρ := id) (.ref q0 :: as) 0 i v hi hv
      rw [map_id] at h1
      have := hl.2.2 _ h1
      simpa using this
    · rw [List.getElem?_append_right (by omega), List.getElem?_replicate] at hi
      split at hi
      · exact absurd (Option.some.inj hi).symm hv
      · cases hi⟩
  refine body (p, l, e, rmK d mc ms, s, m, (.ref q0 :: as).toArray, below, meth, c, D, T, va_A [(q0, x0 T)] s.heap.size, MQ below (va_Qv (post T q0) (fun w t => va_P D vwCl w t.heap ∧ va_D (va_A [(q0, x0 T)] s.heap.size) w) (va_A [(q0, x0 T)] s.heap.size)) (.ref q0 :: as).toArray s mc ms (va_A [(q0, x0 T)] s.heap.size), post T q0) q0 (fun w h => h) ⟨⟨B.exec, B.bytes, hml, hown2, fun w hw => hts w (List.mem_cons_of_mem _ hw)⟩, hK, fun q h => Or.inr h, ⟨Nat.le_refl _, Nat.le_refl _, Nat.le_refl _, Nat.le_refl _⟩, ⟨fun z => hin.trans (hnm z), hN⟩, ?_⟩ ls s.heap [] hl2 hP hD.self va_S.rf
  intro w hw pc ls H locs hP1 hD1 hS1 hd
  exact W.vret B.exec B.bytes hrt (fun t ht _ => ⟨⟨w, rfl, hw, by rw [ht]; exact hP1, hD1⟩, hS1.F ht⟩) hS1.2.2 hd hlocks
theorem Wk_blind {D : va_G} {T : Ty4} {q0 sz : Nat} {x0 : va_E} (av : List Value) : FrameBlind (va_Pc av (Wk D T q0 sz x0)) := fun a U g mk q => by
  obtain ⟨q0, ⟨q1, qP, qK, qD⟩, qN⟩ := q
  exact ⟨q0, ⟨q1, qP, va_K.moved (u := U) (U := U.calling g mk a) (Vm.Alike.refl U.vm) qK, qD⟩, qN.same rfl⟩
/-- one cell out of a world, and back -/
theorem one_P {D : va_G} {ws : va_W} {H : Heap} {i0 a : Nat} {x : va_E} (hP : va_P D vwCl ws H) (he : ws[i0]? = some (a, x)) : va_P D vwCl [(a, x)] H := fun k q hk => by
  cases k with
  | zero => obtain rfl := Option.some.inj hk; exact hP i0 _ he
  | succ k => cases hk
theorem one_D {a : Nat} {x : va_E} : va_D (fun _ => True) [(a, x)] := by
  refine ⟨fun i j p q hi hj _ => ?_, fun _ _ _ => trivial⟩
  cases i with
  | zero =>
    cases j with
    | zero => rfl
    | succ j => cases hj
  | succ i => cases hi
theorem one_A {A : Nat → Prop} {ws : va_W} {H0 H : Heap} {locs : List Loc} {i0 a : Nat} {x : va_E} (hD : va_D A ws) (hS : va_S A H0 H locs) (hA : ∀ q, H0.size ≤ q → A q) (he : ws[i0]? = some (a, x)) : ∀ q, va_A [(a, x)] H.size q → A q := by
  intro q h
  rcases h with ⟨k, e, h⟩ | h
  · cases k with
    | zero => obtain ⟨rfl, -⟩ := Prod.mk.inj (Option.some.inj h); exact hD.2 i0 _ he
    | succ k => cases h
  · exact hA q (Nat.le_trans hS.1 h)
theorem one_ap {A : Nat → Prop} {D : va_G} {ws : va_W} {H : Heap} {i0 a : Nat} {x : va_E} (hP : va_P D vwCl ws H) (hD : va_D A ws) (he : ws[i0]? = some (a, x)) {i : Nat} {q : Nat × va_E} (hi : ws[i]? = some q) (hne : i ≠ i0) : q.1 < H.size ∧ ¬ va_A [(a, x)] H.size q.1 := by
  have hl := (hP i q hi).lt
  refine ⟨hl, fun h => ?_⟩
  rcases h with ⟨k, e, h⟩ | h
  · cases k with
    | zero =>
      obtain ⟨ea, -⟩ := Prod.mk.inj (Option.some.inj h)
      exact hne (hD.1 i i0 q (a, x) hi he ea.symm)
    | succ k => cases h
  · omega

set_option maxHeartbeats 1000000 in
theorem k_ini {E : Kc} {cc : ByteArray} {own : String} {nL d mc ms pc : Nat} {L : List Value} {ws wr : va_W} {ce sl : Nat} {st : List Value} {y : MethodName} {ccy : ByteArray} {nLy dy mcy msy idx a : Nat} {x0 : Ty4 → va_E} {as : List Value} {post : Ty4 → Nat → va_W → Prop} {st0 : List Value} (hc : KT dy mcy msy y ccy nLy x0 as post) (hm : Cond.methodLink own idx y ∈ lwg) (hi : Cond.instanceMethod y ∈ lwg) (hini : Cond.initialized y.cls ∈ lwg) (hcode : Cond.code y ccy nLy none ∈ lwg) (hyn : y.name = "<init>") (hnam : y.cls ≠ "java/lang/invoke/MethodHandle" ∧ y.cls ≠ "java/lang/invoke/VarHandle" ∧ (parseMethodDescriptor y.desc).map (fun d => d.parameters.length) = some as.length) (hws : ws = wr ++ [(a, x0 (KT_ E))]) (hst : st0 = as.reverse ++ .ref a :: st) (hdd : dy + 1 ≤ d) (hnl : nLy ≤ 41) (hce : ce + mcy ≤ mc) (hsl : sl + msy ≤ ms) (hcat : (st.map fun v => v.category).sum ≤ 8) (hd : decode cc pc = .ok (.invokespecial idx, 3)) (k : ∀ w, post (KT_ E) a w → KW E cc own nL d mc ms (pc + 3) L (wr ++ w) (ce + mcy) (sl + msy) st) : KW E cc own nL d mc ms pc L ws ce sl st0 := by
  obtain ⟨p, l, e, R, s, m, args, below, meth, c, D, T, A, Q, post9⟩ := E
  intro ok ls H locs hl hP hD hS
  subst hst; subst hws
  obtain ⟨r1, r2, r3, r4⟩ := ok.2.2.2.1
  have he : (wr ++ [(a, x0 T)])[wr.length]? = some (a, x0 T) := by simp
  have gi : GoodIn lwg (.code y ccy nLy none :: lwg) := lw_goodIn (fun w hw => by
    rcases List.mem_cons.mp hw with rfl | hw
    · exact hcode
    · exact hw)
  have rmo : (rmK dy mcy msy).frames + 1 ≤ R.frames ∧ 8 + (nLy + 11) + (rmK dy mcy msy).locals ≤ R.locals := by
    show dy + 1 ≤ R.frames ∧ 8 + (nLy + 11) + 60 * dy ≤ R.locals
    omega
  have hFc := one_A hD hS ok.2.2.1 he
  refine va_callv (va_runI (As := as) (rest := st) ok.1 (hc l D T a H.size) (cwI as.length ok.1.2.2.2.2 gi rfl rfl rfl (ok.1.2.2.2.2 _ hini) (ok.1.2.2.2.2 _ hm) (ok.1.2.2.2.2 _ hi) hyn hnam rmo) ⟨Wk_blind _, fun U hU hW => ⟨rfl, ⟨by rw [hU], by rw [hU]; exact one_P hP he, va_K.moved hW.alike ok.2.1, one_D⟩, ok.2.2.2.2.1.2.warm hW⟩⟩ rfl rfl hl.1 rfl (lv_room hcat) hd ⟨by omega, by omega⟩) hS (fun q _ h => hFc q h) hFc (fun w t H1 locs1 ht hvm hw hB hz1 hk1 hS1 => ?_)
  obtain ⟨hP1, hD1⟩ := hB
  rw [ht] at hP1
  have wrat : ∀ (i : Nat) (q : Nat × va_E), wr[i]? = some q → (wr ++ [(a, x0 T)])[i]? = some q ∧ i ≠ wr.length := fun i q hq => by
    have hi := (List.getElem?_eq_some_iff.mp hq).1
    exact ⟨by rw [List.getElem?_append_left hi]; exact hq, by omega⟩
  refine k w hw ok ls H1 locs1 hl (va_P.app (fun i q hq => ?_) hP1) (va_D.app ⟨fun i j x y hx hy hxy => hD.1 i j x y (wrat i x hx).1 (wrat j y hy).1 hxy, fun i q hq => hD.2 i q (wrat i q hq).1⟩ (hD1.weaken (fun k q _ h => hFc q.1 h)) (fun i j x y hx hy hxy => ?_)) hS1
  · obtain ⟨g1, g2⟩ := one_ap hP hD he (wrat i q hq).1 (wrat i q hq).2
    exact (hP i q (wrat i q hq).1).kept (hk1 q.1 g1 g2)
  · exact (one_ap hP hD he (wrat i x hx).1 (wrat i x hx).2).2 (by rw [hxy]; exact hD1.2 j y hy)

def KSt (E : Kc) : State := match E with
  | (_, _, _, _, s, _, _, _, _, _, _, _, _, _, _) => s

set_option maxHeartbeats 1000000 in
theorem k_iniN {E : Kc} {cc : ByteArray} {own : String} {nL d mc ms pc : Nat} {L : List Value} {ws wr : va_W} {ce sl : Nat} {st : List Value} {y : MethodName} {ccy : ByteArray} {nLy dy mcy msy idx a : Nat} {x0 : Ty4 → va_E} {as : List Value} {post : Ty4 → Nat → va_W → Prop} {st0 : List Value} (hc : KT dy mcy msy y ccy nLy x0 as post) (hm : va_Nw (.methodLinkNest own idx y "BerthAges") (KSt E)) (hi : Cond.instanceMethod y ∈ lwg) (hini : Cond.initialized y.cls ∈ lwg) (hcode : Cond.code y ccy nLy none ∈ lwg) (hyn : y.name = "<init>") (hnam : y.cls ≠ "java/lang/invoke/MethodHandle" ∧ y.cls ≠ "java/lang/invoke/VarHandle" ∧ (parseMethodDescriptor y.desc).map (fun d => d.parameters.length) = some as.length) (hws : ws = wr ++ [(a, x0 (KT_ E))]) (hst : st0 = as.reverse ++ .ref a :: st) (hdd : dy + 1 ≤ d) (hnl : nLy ≤ 41) (hce : ce + mcy ≤ mc) (hsl : sl + msy ≤ ms) (hcat : (st.map fun v => v.category).sum ≤ 8) (hd : decode cc pc = .ok (.invokespecial idx, 3)) (k : ∀ w, post (KT_ E) a w → KW E cc own nL d mc ms (pc + 3) L (wr ++ w) (ce + mcy) (sl + msy) st) : KW E cc own nL d mc ms pc L ws ce sl st0 := by
  obtain ⟨p, l, e, R, s, m, args, below, meth, c, D, T, A, Q, post9⟩ := E
  intro ok ls H locs hl hP hD hS
  subst hst; subst hws
  obtain ⟨r1, r2, r3, r4⟩ := ok.2.2.2.1
  have he : (wr ++ [(a, x0 T)])[wr.length]? = some (a, x0 T) := by simp
  have gi : GoodIn lwg (.code y ccy nLy none :: lwg) := lw_goodIn (fun w hw => by
    rcases List.mem_cons.mp hw with rfl | hw
    · exact hcode
    · exact hw)
  have rmo : (rmK dy mcy msy).frames + 1 ≤ R.frames ∧ 8 + (nLy + 11) + (rmK dy mcy msy).locals ≤ R.locals := by
    show dy + 1 ≤ R.frames ∧ 8 + (nLy + 11) + 60 * dy ≤ R.locals
    omega
  have hFc := one_A hD hS ok.2.2.1 he
  refine va_callv (va_runIN (As := as) (rest := st) ok.1 (hc l D T a H.size) (⟨va_cnB as.length ok.1.2.2.2.2 gi rfl rfl rfl hm (ok.1.2.2.2.2 _ hini) hnam rmo, hyn, ok.1.2.2.2.2 _ hi⟩) ⟨Wk_blind _, fun U hU hW => ⟨rfl, ⟨by rw [hU], by rw [hU]; exact one_P hP he, va_K.moved hW.alike ok.2.1, one_D⟩, ok.2.2.2.2.1.2.warm hW⟩⟩ rfl rfl hl.1 rfl (lv_room hcat) hd ⟨by omega, by omega⟩) hS (fun q _ h => hFc q h) hFc (fun w t H1 locs1 ht hvm hw hB hz1 hk1 hS1 => ?_)
  obtain ⟨hP1, hD1⟩ := hB
  rw [ht] at hP1
  have wrat : ∀ (i : Nat) (q : Nat × va_E), wr[i]? = some q → (wr ++ [(a, x0 T)])[i]? = some q ∧ i ≠ wr.length := fun i q hq => by
    have hi := (List.getElem?_eq_some_iff.mp hq).1
    exact ⟨by rw [List.getElem?_append_left hi]; exact hq, by omega⟩
  refine k w hw ok ls H1 locs1 hl (va_P.app (fun i q hq => ?_) hP1) (va_D.app ⟨fun i j x y hx hy hxy => hD.1 i j x y (wrat i x hx).1 (wrat j y hy).1 hxy, fun i q hq => hD.2 i q (wrat i q hq).1⟩ (hD1.weaken (fun k q _ h => hFc q.1 h)) (fun i j x y hx hy hxy => ?_)) hS1
  · obtain ⟨g1, g2⟩ := one_ap hP hD he (wrat i q hq).1 (wrat i q hq).2
    exact (hP i q (wrat i q hq).1).kept (hk1 q.1 g1 g2)
  · exact (one_ap hP hD he (wrat i x hx).1 (wrat i x hx).2).2 (by rw [hxy]; exact hD1.2 j y hy)

set_option maxHeartbeats 1000000 in
theorem k_fil {E : Kc} {cc : ByteArray} {own : String} {nL d mc ms pc : Nat} {L : List Value} {ws ws' : va_W} {ce sl : Nat} {st : List Value} {y : MethodName} {ccy : ByteArray} {nLy dy idx a : Nat} {x0 x1 : Ty4 → va_E} {as : List Value} {st0 : List Value} (i0 : Nat) (hc : KT dy 0 0 y ccy nLy x0 as (fun T q w => w = [(q, x1 T)])) (hm : Cond.methodLink own idx y ∈ lwg) (hi : Cond.static y ∈ lwg) (hini : Cond.initialized y.cls ∈ lwg) (hcode : Cond.code y ccy nLy none ∈ lwg) (hnam : y.cls ≠ "java/lang/invoke/MethodHandle" ∧ y.cls ≠ "java/lang/invoke/VarHandle" ∧ (parseMethodDescriptor y.desc).map (fun d => d.parameters.length) = some (as.length + 1)) (he : ws[i0]? = some (a, x0 (KT_ E))) (hst : st0 = as.reverse ++ .ref a :: st) (hdd : dy + 1 ≤ d) (hnl : nLy ≤ 41) (hce : ce ≤ mc) (hsl : sl ≤ ms) (hcat : (st.map fun v => v.category).sum ≤ 8) (hws : ws.set i0 (a, x1 (KT_ E)) = ws') (hd : decode cc pc = .ok (.invokestatic idx, 3)) (k : KW E cc own nL d mc ms (pc + 3) L ws' ce sl st) : KW E cc own nL d mc ms pc L ws ce sl st0 := by
  obtain ⟨p, l, e, R, s, m, args, below, meth, c, D, T, A, Q, post9⟩ := E
  intro ok ls H locs hl hP hD hS
  subst hst; subst hws
  obtain ⟨r1, r2, r3, r4⟩ := ok.2.2.2.1
  have gi : GoodIn lwg (va_wsS own idx y (.code y ccy nLy none :: lwg)) := lw_goodIn (fun w hw => by
    simp only [va_wsS, List.mem_append, List.mem_cons, List.not_mem_nil, or_false] at hw
    rcases hw with (rfl | rfl | rfl) | rfl | hw
    · exact hm
    · exact hi
    · exact hini
    · exact hcode
    · exact hw)
  have rmo : (rmK dy 0 0).frames + 1 ≤ R.frames ∧ 8 + (nLy + 11) + (rmK dy 0 0).locals ≤ R.locals := by
    show dy + 1 ≤ R.frames ∧ 8 + (nLy + 11) + 60 * dy ≤ R.locals
    omega
  have hFc := one_A hD hS ok.2.2.1 he
  have hcw := va_cwS (R := R) (s := s) (args := args) (own := own) (index := idx) (y := y) (bytes := ccy) (maxL := nLy) (mc := 0) (ms := 0) (ret := none) (ws := .code y ccy nLy none :: lwg) (ws' := lwg) (rm := rmK dy 0 0) (as.length + 1) ok.1.2.2.2.2 gi rfl rfl rfl hnam rmo
  refine va_callv (va_runS (As := .ref a :: as) (rest := st) ok.1 (hc l D T a H.size) hcw ⟨Wk_blind _, fun U hU hW => ⟨rfl, ⟨by rw [hU], by rw [hU]; exact one_P hP he, va_K.moved hW.alike ok.2.1, one_D⟩, ok.2.2.2.2.1.2.warm hW⟩⟩ rfl (by simp) hl.1 (by simp) (lv_room hcat) hd ⟨by omega, by omega⟩) hS (fun q _ h => hFc q h) hFc (fun w t H1 locs1 ht hvm hw hB hz1 hk1 hS1 => ?_)
  subst hw
  obtain ⟨hP1, hD1⟩ := hB
  rw [ht] at hP1
  refine k ok ls H1 locs1 hl (fun i q hq => ?_) (hD.set he) hS1
  rw [List.getElem?_set] at hq
  by_cases hii : i0 = i
  · subst hii
    rw [if_pos rfl] at hq
    split at hq
    · obtain rfl := Option.some.inj hq
      exact hP1 0 _ rfl
    · cases hq
  · rw [if_neg hii] at hq
    obtain ⟨g1, g2⟩ := one_ap hP hD he hq (fun z => hii z.symm)
    exact (hP i q hq).kept (hk1 q.1 g1 g2)

