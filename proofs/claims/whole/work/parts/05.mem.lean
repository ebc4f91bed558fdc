theorem vw_in : ∀ (ci : Nat) (q : vw_C), vwCl[ci]? = some q → ∀ w ∈ u_ws q.1 q.2.1 q.2.2, w ∈ lwg := by
  intro ci q h
  match ci, h with
  | 0, h => cases h; exact inX0
  | 1, h => cases h; exact inX1
  | 2, h => cases h; exact inX2
  | 3, h => cases h; exact inX3
  | 4, h => cases h; exact inX4
  | 5, h => cases h; exact inX5
  | 6, h => cases h; exact inX6
  | 7, h => cases h; exact inX7
  | k + 8, h => simp [vwCl] at h
theorem vw_ty : ∀ (ci : Nat) (q : vw_C), vwCl[ci]? = some q → ∃ ty0 : Nat → FieldType, (∀ k, k < q.2.2 → parseFieldDescriptor (q.2.1 k).2.2.1 = some (ty0 k)) ∧ ∀ a, a < q.2.2 → ∀ b, b < q.2.2 → a ≠ b → (q.2.1 a).2.1 ≠ (q.2.1 b).2.1 := by
  intro ci q h
  match ci, h with
  | 0, h => cases h; exact ⟨tyX0, tyX0_ok, nmX0⟩
  | 1, h => cases h; exact ⟨tyX1, tyX1_ok, nmX1⟩
  | 2, h => cases h; exact ⟨tyX2, tyX2_ok, nmX2⟩
  | 3, h => cases h; exact ⟨tyX3, tyX3_ok, nmX3⟩
  | 4, h => cases h; exact ⟨tyX4, tyX4_ok, nmX4⟩
  | 5, h => cases h; exact ⟨tyX5, tyX5_ok, nmX5⟩
  | 6, h => cases h; exact ⟨tyX6, tyX6_ok, nmX6⟩
  | 7, h => cases h; exact ⟨tyX7, tyX7_ok, nmX7⟩
  | k + 8, h => simp [vwCl] at h
/-- entry idx of own's pool is field k of class ci -/
def FL (own : String) (idx ci k : Nat) : Prop := ∃ q : vw_C, vwCl[ci]? = some q ∧ k < q.2.2 ∧ Cond.fieldLink own idx (q.2.1 k).1 (q.2.1 k).2.1 (q.2.1 k).2.2.1 ∈ lwg ∧ nfA ci = q.2.2
/-- it may be written, and is of type ty -/
def FW (ci k : Nat) (ty : FieldType) : Prop := ∃ q : vw_C, vwCl[ci]? = some q ∧ parseFieldDescriptor (q.2.1 k).2.2.1 = some ty ∧ (q.2.1 k).2.2.2 = false
theorem fld_at {G : Gx} {h : Hp} {ci a k n : Nat} (hn : nfA ci = n) (hk : k < n) : ((List.range (nfA ci)).map (fieldV G h ci a))[k]? = some (fieldV G h ci a k) := by
  rw [List.getElem?_map, List.getElem?_range (by rw [hn]; exact hk)]; rfl
theorem fld_set_i {G : Gx} {h : Hp} {ci a k : Nat} {v : Int32} (hk : fkA ci k = 0 ∨ fkA ci k = 3) : ((List.range (nfA ci)).map (fieldV G h ci a)).set k (.int v) = (List.range (nfA ci)).map (fieldV G (ui h a k v) ci a) := by
  apply List.ext_getElem?
  intro i
  rw [List.getElem?_set, List.getElem?_map, List.getElem?_map]
  by_cases hi : k = i
  · subst hi
    rw [if_pos rfl]
    by_cases hl : k < nfA ci
    · rw [List.getElem?_range hl]
      rcases hk with hk | hk <;> simp [hl, fieldV, hk, ui]
    · rw [List.getElem?_eq_none (by simpa using hl)]
      simp [hl]
  · rw [if_neg hi]
    by_cases hl : i < nfA ci
    · rw [List.getElem?_range hl]
      have : ¬ i = k := fun e => hi e.symm
      simp only [Option.map_some, fieldV, ui, this, and_false, if_false]
    · rw [List.getElem?_eq_none (by simpa using hl)]
      rfl
theorem fld_set_l {G : Gx} {h : Hp} {ci a k : Nat} {v : Int64} (hk : fkA ci k = 1) : ((List.range (nfA ci)).map (fieldV G h ci a)).set k (.long v) = (List.range (nfA ci)).map (fieldV G (ul h a k v) ci a) := by
  apply List.ext_getElem?
  intro i
  rw [List.getElem?_set, List.getElem?_map, List.getElem?_map]
  by_cases hi : k = i
  · subst hi
    rw [if_pos rfl]
    by_cases hl : k < nfA ci
    · rw [List.getElem?_range hl]
      simp [hl, fieldV, hk, ul]
    · rw [List.getElem?_eq_none (by simpa using hl)]
      simp [hl]
  · rw [if_neg hi]
    by_cases hl : i < nfA ci
    · rw [List.getElem?_range hl]
      have : ¬ i = k := fun e => hi e.symm
      simp only [Option.map_some, fieldV, ul, this, and_false, if_false]
    · rw [List.getElem?_eq_none (by simpa using hl)]
      rfl
theorem ly_lt : ∀ (a : Nat) (q : Nat × Nat), lyL[a]? = some q → q.2 < 1000 := by
  intro a q h
  have h1 : ∀ q ∈ lyL, q.2 < 1000 := by decide
  exact h1 q (List.mem_of_getElem? h)
theorem ly_lt64 {a : Nat} {q : Nat × Nat} (h : lyL[a]? = some q) : a < lenN := (List.getElem?_eq_some_iff.mp h).1
theorem ly_some {j : Nat} (h : j < lenN) : ∃ q, lyL[j]? = some q := ⟨_, List.getElem?_eq_getElem (show j < lyL.length from h)⟩
theorem ws_D {G : Gx} {h h' : Hp} {A : Nat → Prop} (hD : va_D A (wsG G h)) : va_D A (wsG G h') := by
  have key : ∀ (k : Nat) (q : Nat × va_E), (wsG G h')[k]? = some q → ∃ q0, (wsG G h)[k]? = some q0 ∧ q0.1 = q.1 := by
    intro k q hq
    simp only [wsG, List.getElem?_map, List.getElem?_zipIdx] at hq ⊢
    cases hl : lyL[k]? with
    | none => rw [hl] at hq; simp at hq
    | some x => rw [hl] at hq; simp at hq; exact ⟨_, rfl, by rw [← hq]; simp⟩
  refine ⟨fun i j p q hi hj e => ?_, fun k q hk => ?_⟩
  · obtain ⟨p0, g1, g2⟩ := key i p hi
    obtain ⟨q0, g3, g4⟩ := key j q hj
    exact hD.1 i j p0 q0 g1 g3 (by rw [g2, g4, e])
  · obtain ⟨q0, g1, g2⟩ := key k q hk
    rw [← g2]
    exact hD.2 k q0 g1
theorem ws_AG {G : Gx} {h : Hp} {A : Nat → Prop} (hD : va_D A (wsG G h)) : ∀ q, AG G q → A q := by
  rintro q ⟨j, hj, rfl⟩
  obtain ⟨x, hx⟩ := ly_some hj
  exact hD.2 j _ (ws_at G h hx)
theorem ws_DG {G : Gx} {h h' : Hp} {A : Nat → Prop} (hD : va_D A (wsG G h)) : va_D (AG G) (wsG G h') := by
  refine ⟨(ws_D hD).1, fun k q hk => ?_⟩
  have hl : k < lyL.length := by
    have := (List.getElem?_eq_some_iff.mp hk).1
    simpa [wsG] using this
  rw [ws_at G h' (List.getElem?_eq_getElem hl)] at hk
  cases hk
  exact ⟨k, hl, rfl⟩
theorem nI_cl {i : Int32} {j n : Nat} (hi : i = nI j) (hj : j < n) (hn : n < 1000) : vp_in i n ∧ i.toNatClampNeg = j := by
  subst hi
  exact ⟨vp_in_nI hj (by omega), nI_clamp (by omega)⟩
section SM
variable {E : Cx} {cc : ByteArray} {own : String} {nL d pc : Nat} {L L' : List Value} {h : Hp} {st : List Value} {a ci k0 idx : Nat}
theorem s_geti (hf : FL own idx ci k0) (hk : fkA ci k0 = 0) (ha : lyL[a]? = some (0, ci)) (hd : decode cc pc = .ok (.getfield idx, 3)) (k : WW E cc own nL d (pc + 3) L h (.int (h.1 a k0) :: st)) : WW E cc own nL d pc L h (.ref a :: st) := by
  obtain ⟨p, l, e, R, s, m, args, below, meth, c, G, A, ce, sl, Q, post⟩ := E
  intro ok ls H locs hl hP hD hS
  obtain ⟨⟨C, T, N⟩, hq, hkN, hlk, hnf⟩ := hf
  refine va_get ok.2.1.1 ok.2.1.2.1 ok.2.1.2.2.2.2 (vw_in ci _ hq) ok.2.1.2.2.2.1 ok.2.2.1 hP a (ws_at G h ha) hq k0 hkN (ok.2.1.2.2.2.2 _ hlk) (fun _ z => z) (fld_at hnf hkN) hd ?_
  have e : fieldV G h ci a k0 = cvv G.1 (.int (h.1 a k0)) := by simp [fieldV, hk, cvv]
  rw [e]
  exact (k ok ls H locs hl hP hD hS)
theorem s_getz (hf : FL own idx ci k0) (hk : fkA ci k0 = 3) (ha : lyL[a]? = some (0, ci)) (hd : decode cc pc = .ok (.getfield idx, 3)) (k : WW E cc own nL d (pc + 3) L h (.int (h.1 a k0) :: st)) : WW E cc own nL d pc L h (.ref a :: st) := by
  obtain ⟨p, l, e, R, s, m, args, below, meth, c, G, A, ce, sl, Q, post⟩ := E
  intro ok ls H locs hl hP hD hS
  obtain ⟨⟨C, T, N⟩, hq, hkN, hlk, hnf⟩ := hf
  refine va_get ok.2.1.1 ok.2.1.2.1 ok.2.1.2.2.2.2 (vw_in ci _ hq) ok.2.1.2.2.2.1 ok.2.2.1 hP a (ws_at G h ha) hq k0 hkN (ok.2.1.2.2.2.2 _ hlk) (fun _ z => z) (fld_at hnf hkN) hd ?_
  have e : fieldV G h ci a k0 = cvv G.1 (.int (h.1 a k0)) := by simp [fieldV, hk, cvv]
  rw [e]
  exact (k ok ls H locs hl hP hD hS)
theorem s_getl (hf : FL own idx ci k0) (hk : fkA ci k0 = 1) (ha : lyL[a]? = some (0, ci)) (hd : decode cc pc = .ok (.getfield idx, 3)) (k : WW E cc own nL d (pc + 3) L h (.long (h.2 a k0) :: st)) : WW E cc own nL d pc L h (.ref a :: st) := by
  obtain ⟨p, l, e, R, s, m, args, below, meth, c, G, A, ce, sl, Q, post⟩ := E
  intro ok ls H locs hl hP hD hS
  obtain ⟨⟨C, T, N⟩, hq, hkN, hlk, hnf⟩ := hf
  refine va_get ok.2.1.1 ok.2.1.2.1 ok.2.1.2.2.2.2 (vw_in ci _ hq) ok.2.1.2.2.2.1 ok.2.2.1 hP a (ws_at G h ha) hq k0 hkN (ok.2.1.2.2.2.2 _ hlk) (fun _ z => z) (fld_at hnf hkN) hd ?_
  have e : fieldV G h ci a k0 = cvv G.1 (.long (h.2 a k0)) := by simp [fieldV, hk, cvv]
  rw [e]
  exact (k ok ls H locs hl hP hD hS)
theorem s_getr {b : Nat} (hf : FL own idx ci k0) (hk : fkA ci k0 = 2) (ha : lyL[a]? = some (0, ci)) (hr : rfA ci a k0 = b) (hd : decode cc pc = .ok (.getfield idx, 3)) (k : WW E cc own nL d (pc + 3) L h (.ref b :: st)) : WW E cc own nL d pc L h (.ref a :: st) := by
  obtain ⟨p, l, e, R, s, m, args, below, meth, c, G, A, ce, sl, Q, post⟩ := E
  intro ok ls H locs hl hP hD hS
  obtain ⟨⟨C, T, N⟩, hq, hkN, hlk, hnf⟩ := hf
  refine va_get ok.2.1.1 ok.2.1.2.1 ok.2.1.2.2.2.2 (vw_in ci _ hq) ok.2.1.2.2.2.1 ok.2.2.1 hP a (ws_at G h ha) hq k0 hkN (ok.2.1.2.2.2.2 _ hlk) (fun _ z => z) (fld_at hnf hkN) hd ?_
  have e : fieldV G h ci a k0 = cvv G.1 (.ref b) := by simp [fieldV, hk, cvv, hr]
  rw [e]
  exact (k ok ls H locs hl hP hD hS)
theorem s_puti {v : Int32} (hf : FL own idx ci k0) (hw : FW ci k0 .int) (hk : fkA ci k0 = 0) (ha : lyL[a]? = some (0, ci)) (hd : decode cc pc = .ok (.putfield idx, 3)) (k : WW E cc own nL d (pc + 3) L (ui h a k0 v) st) : WW E cc own nL d pc L h (.int v :: .ref a :: st) := by
  obtain ⟨p, l, e, R, s, m, args, below, meth, c, G, A, ce, sl, Q, post⟩ := E
  intro ok ls H locs hl hP hD hS
  obtain ⟨⟨C, T, N⟩, hq, hkN, hlk, hnf⟩ := hf
  obtain ⟨q2, hq2, hty, hfin⟩ := hw
  have hqq : q2 = (C, T, N) := Option.some.inj (hq2.symm.trans hq)
  subst hqq
  obtain ⟨ty0, hty0, hnm⟩ := vw_ty ci _ hq
  refine va_put ok.2.1.1 ok.2.1.2.1 ok.2.1.2.2.2.2 (vw_in ci _ hq) ty0 hty0 hnm ok.2.1.2.2.2.1 ok.2.2.1 hP hD hS a (ws_at G h ha) hq k0 hkN (ok.2.1.2.2.2.2 _ hlk) (fun _ z => z) hfin hty (by rfl) (by rfl) (by show k0 < (List.map _ (List.range (nfA ci))).length; rw [List.length_map, List.length_range, hnf]; exact hkN) hd (fun H1 locs1 hP1 hD1 hS1 => ?_)
  have e : (wsG G h).set a (G.1 a, .inr (ci, ((List.range (nfA ci)).map (fieldV G h ci a)).set k0 (.int v))) = wsG G (ui h a k0 v) := by
    rw [fld_set_i (Or.inl hk)]
    exact ws_set G h (ui h a k0 v) ha (fun b p hb => cell_ne_i b p hb)
  rw [show cvv G.1 (.int v) = .int v from rfl] at hP1 hD1
  rw [e] at hP1 hD1
  exact k ok ls H1 locs1 hl hP1 hD1 hS1
theorem s_putz {v : Int32} (hv : narrow .boolean (.int v) = .int v ∧ fits .boolean (.int v) = true) (hf : FL own idx ci k0) (hw : FW ci k0 .boolean) (hk : fkA ci k0 = 3) (ha : lyL[a]? = some (0, ci)) (hd : decode cc pc = .ok (.putfield idx, 3)) (k : WW E cc own nL d (pc + 3) L (ui h a k0 v) st) : WW E cc own nL d pc L h (.int v :: .ref a :: st) := by
  obtain ⟨p, l, e, R, s, m, args, below, meth, c, G, A, ce, sl, Q, post⟩ := E
  intro ok ls H locs hl hP hD hS
  obtain ⟨⟨C, T, N⟩, hq, hkN, hlk, hnf⟩ := hf
  obtain ⟨q2, hq2, hty, hfin⟩ := hw
  have hqq : q2 = (C, T, N) := Option.some.inj (hq2.symm.trans hq)
  subst hqq
  obtain ⟨ty0, hty0, hnm⟩ := vw_ty ci _ hq
  refine va_put ok.2.1.1 ok.2.1.2.1 ok.2.1.2.2.2.2 (vw_in ci _ hq) ty0 hty0 hnm ok.2.1.2.2.2.1 ok.2.2.1 hP hD hS a (ws_at G h ha) hq k0 hkN (ok.2.1.2.2.2.2 _ hlk) (fun _ z => z) hfin hty hv.1 hv.2 (by show k0 < (List.map _ (List.range (nfA ci))).length; rw [List.length_map, List.length_range, hnf]; exact hkN) hd (fun H1 locs1 hP1 hD1 hS1 => ?_)
  have e : (wsG G h).set a (G.1 a, .inr (ci, ((List.range (nfA ci)).map (fieldV G h ci a)).set k0 (.int v))) = wsG G (ui h a k0 v) := by
    rw [fld_set_i (Or.inr hk)]
    exact ws_set G h (ui h a k0 v) ha (fun b p hb => cell_ne_i b p hb)
  rw [show cvv G.1 (.int v) = .int v from rfl] at hP1 hD1
  rw [e] at hP1 hD1
  exact k ok ls H1 locs1 hl hP1 hD1 hS1
theorem s_putl {v : Int64} (hf : FL own idx ci k0) (hw : FW ci k0 .long) (hk : fkA ci k0 = 1) (ha : lyL[a]? = some (0, ci)) (hd : decode cc pc = .ok (.putfield idx, 3)) (k : WW E cc own nL d (pc + 3) L (ul h a k0 v) st) : WW E cc own nL d pc L h (.long v :: .ref a :: st) := by
  obtain ⟨p, l, e, R, s, m, args, below, meth, c, G, A, ce, sl, Q, post⟩ := E
  intro ok ls H locs hl hP hD hS
  obtain ⟨⟨C, T, N⟩, hq, hkN, hlk, hnf⟩ := hf
  obtain ⟨q2, hq2, hty, hfin⟩ := hw
  have hqq : q2 = (C, T, N) := Option.some.inj (hq2.symm.trans hq)
  subst hqq
  obtain ⟨ty0, hty0, hnm⟩ := vw_ty ci _ hq
  refine va_put ok.2.1.1 ok.2.1.2.1 ok.2.1.2.2.2.2 (vw_in ci _ hq) ty0 hty0 hnm ok.2.1.2.2.2.1 ok.2.2.1 hP hD hS a (ws_at G h ha) hq k0 hkN (ok.2.1.2.2.2.2 _ hlk) (fun _ z => z) hfin hty (by rfl) (by rfl) (by show k0 < (List.map _ (List.range (nfA ci))).length; rw [List.length_map, List.length_range, hnf]; exact hkN) hd (fun H1 locs1 hP1 hD1 hS1 => ?_)
  have e : (wsG G h).set a (G.1 a, .inr (ci, ((List.range (nfA ci)).map (fieldV G h ci a)).set k0 (.long v))) = wsG G (ul h a k0 v) := by
    rw [fld_set_l hk]
    exact ws_set G h (ul h a k0 v) ha (fun b p hb => cell_ne_l b p hb)
  rw [show cvv G.1 (.long v) = .long v from rfl] at hP1 hD1
  rw [e] at hP1 hD1
  exact k ok ls H1 locs1 hl hP1 hD1 hS1
theorem ui_row {h : Hp} {a j : Nat} {x : Int32} : (ui h a j x).1 a = upd (h.1 a) j x := by
  funext y
  simp [ui, upd]
theorem ul_row {h : Hp} {a j : Nat} {x : Int64} : (ul h a j x).2 a = vp_updL (h.2 a) j x := by
  funext y
  simp [ul, vp_updL]
theorem ucp_row {h : Hp} {a b sp dp n : Nat} : (ucp h a sp b dp n).1 b = va_cpy (h.1 a) (h.1 b) sp dp n := by
  funext y
  simp [ucp, va_cpy]
theorem s_iald {i : Int32} {n : Nat} (j : Nat) (ha : lyL[a]? = some (1, n)) (hi : i = nI j) (hj : j < n) (hd : decode cc pc = .ok (.iaload, 1)) (k : WW E cc own nL d (pc + 1) L h (.int (h.1 a j) :: st)) : WW E cc own nL d pc L h (.int i :: .ref a :: st) := by
  obtain ⟨p, l, e, R, s, m, args, below, meth, c, G, A, ce, sl, Q, post⟩ := E
  intro ok ls H locs hl hP hD hS
  obtain ⟨h1, h2⟩ := nI_cl hi hj (ly_lt _ _ ha)
  refine va_iald ok.2.1.1 ok.2.1.2.1 ok.2.2.1 hP a 0 (ws_at G h ha) rfl h1 hd ?_
  rw [h2]
  exact (k ok ls H locs hl hP hD hS)
theorem s_zald {i : Int32} {n : Nat} (j : Nat) (ha : lyL[a]? = some (3, n)) (hi : i = nI j) (hj : j < n) (hd : decode cc pc = .ok (.baload, 1)) (k : WW E cc own nL d (pc + 1) L h (.int (h.1 a j) :: st)) : WW E cc own nL d pc L h (.int i :: .ref a :: st) := by
  obtain ⟨p, l, e, R, s, m, args, below, meth, c, G, A, ce, sl, Q, post⟩ := E
  intro ok ls H locs hl hP hD hS
  obtain ⟨h1, h2⟩ := nI_cl hi hj (ly_lt _ _ ha)
  refine va_zald ok.2.1.1 ok.2.1.2.1 ok.2.2.1 hP a 2 (ws_at G h ha) rfl h1 hd ?_
  rw [h2]
  exact (k ok ls H locs hl hP hD hS)
theorem s_lald {i : Int32} {n : Nat} (j : Nat) (ha : lyL[a]? = some (2, n)) (hi : i = nI j) (hj : j < n) (hd : decode cc pc = .ok (.laload, 1)) (k : WW E cc own nL d (pc + 1) L h (.long (h.2 a j) :: st)) : WW E cc own nL d pc L h (.int i :: .ref a :: st) := by
  obtain ⟨p, l, e, R, s, m, args, below, meth, c, G, A, ce, sl, Q, post⟩ := E
  intro ok ls H locs hl hP hD hS
  obtain ⟨h1, h2⟩ := nI_cl hi hj (ly_lt _ _ ha)
  refine va_lald ok.2.1.1 ok.2.1.2.1 ok.2.2.1 hP a 1 (ws_at G h ha) rfl h1 hd ?_
  rw [h2]
  exact (k ok ls H locs hl hP hD hS)
theorem s_iast {i : Int32} {n : Nat} {x : Int32} (j : Nat) (ha : lyL[a]? = some (1, n)) (hi : i = nI j) (hj : j < n) (hd : decode cc pc = .ok (.iastore, 1)) (k : WW E cc own nL d (pc + 1) L (ui h a j x) st) : WW E cc own nL d pc L h (.int x :: .int i :: .ref a :: st) := by
  obtain ⟨p, l, e, R, s, m, args, below, meth, c, G, A, ce, sl, Q, post⟩ := E
  intro ok ls H locs hl hP hD hS
  obtain ⟨h1, h2⟩ := nI_cl hi hj (ly_lt _ _ ha)
  refine va_iast ok.2.1.1 ok.2.1.2.1 ok.2.2.1 hP hD hS a 0 (ws_at G h ha) rfl h1 hd (fun H1 locs1 hP1 hD1 hS1 => ?_)
  rw [h2] at hP1 hD1
  have e := ws_set G h (ui h a j x) ha (fun b p hb => cell_ne_i b p hb)
  have ec : cellG G (ui h a j x) a (1, n) = .inl (G.2.2.1, n, .inl (upd (h.1 a) j x)) := by
    show _ = _
    simp only [cellG, ui_row]
  rw [ec] at e
  rw [e] at hP1 hD1
  exact k ok ls H1 locs1 hl hP1 hD1 hS1
theorem s_zast {i : Int32} {n : Nat} {x : Int32} (j : Nat) (ha : lyL[a]? = some (3, n)) (hi : i = nI j) (hj : j < n) (hx : vp_nar .boolean x = x) (hd : decode cc pc = .ok (.bastore, 1)) (k : WW E cc own nL d (pc + 1) L (ui h a j x) st) : WW E cc own nL d pc L h (.int x :: .int i :: .ref a :: st) := by
  obtain ⟨p, l, e, R, s, m, args, below, meth, c, G, A, ce, sl, Q, post⟩ := E
  intro ok ls H locs hl hP hD hS
  obtain ⟨h1, h2⟩ := nI_cl hi hj (ly_lt _ _ ha)
  refine va_zast ok.2.1.1 ok.2.1.2.1 ok.2.2.1 hP hD hS a 2 (ws_at G h ha) rfl h1 hd (fun H1 locs1 hP1 hD1 hS1 => ?_)
  rw [h2, hx] at hP1 hD1
  have e := ws_set G h (ui h a j x) ha (fun b p hb => cell_ne_i b p hb)
  have ec : cellG G (ui h a j x) a (3, n) = .inl (G.2.2.2.2.1, n, .inl (upd (h.1 a) j x)) := by
    show _ = _
    simp only [cellG, ui_row]
  rw [ec] at e
  rw [e] at hP1 hD1
  exact k ok ls H1 locs1 hl hP1 hD1 hS1
theorem s_last {i : Int32} {n : Nat} {x : Int64} (j : Nat) (ha : lyL[a]? = some (2, n)) (hi : i = nI j) (hj : j < n) (hd : decode cc pc = .ok (.lastore, 1)) (k : WW E cc own nL d (pc + 1) L (ul h a j x) st) : WW E cc own nL d pc L h (.long x :: .int i :: .ref a :: st) := by
  obtain ⟨p, l, e, R, s, m, args, below, meth, c, G, A, ce, sl, Q, post⟩ := E
  intro ok ls H locs hl hP hD hS
  obtain ⟨h1, h2⟩ := nI_cl hi hj (ly_lt _ _ ha)
  refine va_last ok.2.1.1 ok.2.1.2.1 ok.2.2.1 hP hD hS a 1 (ws_at G h ha) rfl h1 hd (fun H1 locs1 hP1 hD1 hS1 => ?_)
  rw [h2] at hP1 hD1
  have e := ws_set G h (ul h a j x) ha (fun b p hb => cell_ne_l b p hb)
  have ec : cellG G (ul h a j x) a (2, n) = .inl (G.2.2.2.1, n, .inr (.inl (vp_updL (h.2 a) j x))) := by
    show _ = _
    simp only [cellG, ul_row]
  rw [ec] at e
  rw [e] at hP1 hD1
  exact k ok ls H1 locs1 hl hP1 hD1 hS1
theorem s_aald {i : Int32} {n b : Nat} (j : Nat) (ha : lyL[a]? = some (4, n)) (hi : i = nI j) (hj : j < n) (hb : a + 1 + j = b) (hd : decode cc pc = .ok (.aaload, 1)) (k : WW E cc own nL d (pc + 1) L h (.ref b :: st)) : WW E cc own nL d pc L h (.int i :: .ref a :: st) := by
  obtain ⟨p, l, e, R, s, m, args, below, meth, c, G, A, ce, sl, Q, post⟩ := E
  intro ok ls H locs hl hP hD hS
  obtain ⟨h1, h2⟩ := nI_cl hi hj (ly_lt _ _ ha)
  subst hb
  have hlt : i.toNatClampNeg < n := Nat.not_le.mp fun q => h1 (Or.inr q)
  refine W.aald (v := .ref (G.1 (a + 1 + j))) (ty := .array .int) ok.2.1.1 ok.2.1.2.1 (hP a _ (ws_at G h ha)) ((ok.2.2.1.2 3 _ rfl).1 n (fun j => va_rf (some (G.1 (a + 1 + j))))) rfl (fun q => by cases q) (by show ¬ (i < 0 ∨ (arrV _ _ _).slots.size ≤ _); rw [arrV_size]; exact h1) (by show (arrV _ _ _).slots[_]? = _; rw [arrV_read _ _ hlt, h2]; rfl) rfl rfl hd (k ok ls H locs hl hP hD hS)
theorem s_alen {n t : Nat} (ha : lyL[a]? = some (t, n)) (ht : t = 1 ∨ t = 2) (hd : decode cc pc = .ok (.arraylength, 1)) (k : WW E cc own nL d (pc + 1) L h (.int (nI n) :: st)) : WW E cc own nL d pc L h (.ref a :: st) := by
  obtain ⟨p, l, e, R, s, m, args, below, meth, c, G, A, ce, sl, Q, post⟩ := E
  intro ok ls H locs hl hP hD hS
  rcases ht with rfl | rfl
  · exact va_alen ok.2.1.1 ok.2.1.2.1 ok.2.2.1 hP a 0 (ws_at G h ha) rfl rfl hd (k ok ls H locs hl hP hD hS)
  · exact va_alen ok.2.1.1 ok.2.1.2.1 ok.2.2.1 hP a 1 (ws_at G h ha) rfl rfl hd (k ok ls H locs hl hP hD hS)
theorem s_getL (hd : decode cc pc = .ok (.getstatic 66, 3)) (k : WW E cc "BerthAges$Fleet" nL d (pc + 3) L h (.ref 64 :: st)) : WW E cc "BerthAges$Fleet" nL d pc L h st := by
  obtain ⟨p, l, e, R, s, m, args, below, meth, c, G, A, ce, sl, Q, post⟩ := E
  intro ok ls H locs hl hP hD hS
  exact va_getsN ok.2.1.1 ok.2.1.2.1 ok.2.2.2.1.1.1 hS ok.2.1.2.2.2.1 (va_Nw.use rfl ok.2.2.2.2.2.2.2.2.1) (fun _ z => z) hd (k ok ls H locs hl hP hD hS)
theorem s_getK (hd : decode cc pc = .ok (.getstatic 103, 3)) (k : WW E cc "BerthAges$Harbour" nL d (pc + 3) L h (.ref 65 :: st)) : WW E cc "BerthAges$Harbour" nL d pc L h st := by
  obtain ⟨p, l, e, R, s, m, args, below, meth, c, G, A, ce, sl, Q, post⟩ := E
  intro ok ls H locs hl hP hD hS
  exact va_getsN ok.2.1.1 ok.2.1.2.1 ok.2.2.2.1.2.1 hS ok.2.1.2.2.2.1 (va_Nw.use rfl ok.2.2.2.2.2.2.2.2.2) (fun _ z => z) hd (k ok ls H locs hl hP hD hS)
theorem s_ldL {i : Int32} (j : Nat) (hi : i = nI j) (hj : j < 6) (hd : decode cc pc = .ok (.iaload, 1)) (k : WW E cc own nL d (pc + 1) L h (.int (letA j) :: st)) : WW E cc own nL d pc L h (.int i :: .ref 64 :: st) := by
  obtain ⟨p, l, e, R, s, m, args, below, meth, c, G, A, ce, sl, Q, post⟩ := E
  intro ok ls H locs hl hP hD hS
  obtain ⟨h1, h2⟩ := nI_cl hi hj (by omega)
  exact va_ti ok.2.1.1 ok.2.1.2.1 ok.2.2.2.1.1.2 hS h1 (v := .int (letA j)) (by rw [h2]) hd (k ok ls H locs hl hP hD hS)
theorem s_ldK {i : Int32} (j : Nat) (hi : i = nI j) (hj : j < 6) (hd : decode cc pc = .ok (.iaload, 1)) (k : WW E cc own nL d (pc + 1) L h (.int (kabA j) :: st)) : WW E cc own nL d pc L h (.int i :: .ref 65 :: st) := by
  obtain ⟨p, l, e, R, s, m, args, below, meth, c, G, A, ce, sl, Q, post⟩ := E
  intro ok ls H locs hl hP hD hS
  obtain ⟨h1, h2⟩ := nI_cl hi hj (by omega)
  exact va_ti ok.2.1.1 ok.2.1.2.1 ok.2.2.2.1.2.2 hS h1 (v := .int (kabA j)) (by rw [h2]) hd (k ok ls H locs hl hP hD hS)
theorem s_lenL (hd : decode cc pc = .ok (.arraylength, 1)) (k : WW E cc own nL d (pc + 1) L h (.int 6 :: st)) : WW E cc own nL d pc L h (.ref 64 :: st) := by
  obtain ⟨p, l, e, R, s, m, args, below, meth, c, G, A, ce, sl, Q, post⟩ := E
  intro ok ls H locs hl hP hD hS
  exact va_tlen ok.2.1.1 ok.2.1.2.1 ok.2.2.2.1.1.2 hS (v := 6) rfl hd (k ok ls H locs hl hP hD hS)
theorem catsum (ρ : Nat → Nat) (st : List Value) : ((st.map (cvv ρ)).map fun v => v.category).sum = (st.map fun v => v.category).sum := by
  rw [List.map_map]
  congr 1
  exact List.map_congr_left (fun v _ => cvv_cat ρ v)
theorem s_max {x y : Int32} (hm : Cond.methodLink own idx Lib.Math.max.name ∈ lwg) (hs : Cond.static Lib.Math.max.name ∈ lwg) (hi : Cond.initialized "java/lang/Math" ∈ lwg) (hc : Cond.code Lib.Math.max.name Lib.Math.max.code 2 (some .int) ∈ lwg) (h1 : 1 ≤ d) (hcat : (st.map fun v => v.category).sum ≤ 8) (hd : decode cc pc = .ok (.invokestatic idx, 3)) (k : WW E cc own nL d (pc + 3) L h (.int (if x < y then y else x) :: st)) : WW E cc own nL d pc L h (.int y :: .int x :: st) := by
  obtain ⟨p, l, e, R, s, m, args, below, meth, c, G, A, ce, sl, Q, post⟩ := E
  intro ok ls H locs hl hP hD hS
  obtain ⟨r1, r2, r3, r4, r5⟩ := ok.2.2.2.2
  exact va_mmax ok.2.1.1 ok.2.1.2.1 (by rw [ok.2.1.2.2.1, hl.1]) ok.2.1.2.2.2.1 (ok.2.1.2.2.2.2 _ hm) (ok.2.1.2.2.2.2 _ hs) (ok.2.1.2.2.2.2 _ hi) (ok.2.1.2.2.2.2 _ hc) (by omega) (by rw [catsum]; omega) r3 r4 hd (k ok ls H locs hl hP hD hS)
theorem s_min {x y : Int32} (hm : Cond.methodLink own idx Lib.Math.min.name ∈ lwg) (hs : Cond.static Lib.Math.min.name ∈ lwg) (hi : Cond.initialized "java/lang/Math" ∈ lwg) (hc : Cond.code Lib.Math.min.name Lib.Math.min.code 2 (some .int) ∈ lwg) (h1 : 1 ≤ d) (hcat : (st.map fun v => v.category).sum ≤ 8) (hd : decode cc pc = .ok (.invokestatic idx, 3)) (k : WW E cc own nL d (pc + 3) L h (.int (if y < x then y else x) :: st)) : WW E cc own nL d pc L h (.int y :: .int x :: st) := by
  obtain ⟨p, l, e, R, s, m, args, below, meth, c, G, A, ce, sl, Q, post⟩ := E
  intro ok ls H locs hl hP hD hS
  obtain ⟨r1, r2, r3, r4, r5⟩ := ok.2.2.2.2
  exact va_mmin ok.2.1.1 ok.2.1.2.1 (by rw [ok.2.1.2.2.1, hl.1]) ok.2.1.2.2.2.1 (ok.2.1.2.2.2.2 _ hm) (ok.2.1.2.2.2.2 _ hs) (ok.2.1.2.2.2.2 _ hi) (ok.2.1.2.2.2.2 _ hc) (by omega) (by rw [catsum]; omega) r3 r4 hd (k ok ls H locs hl hP hD hS)
theorem s_acopy {b n0 n1 : Nat} {isp idp ilen : Int32} (sp dp n : Nat) (ha : lyL[a]? = some (1, n0)) (hb : lyL[b]? = some (1, n1)) (e1 : isp = nI sp) (e2 : idp = nI dp) (e3 : ilen = nI n) (h4 : sp + n ≤ n0) (h5 : dp + n ≤ n1) (hm : Cond.methodLink own idx arraycopyName ∈ lwg) (hs : Cond.static arraycopyName ∈ lwg) (hnt : Cond.native arraycopyName ∈ lwg) (hi : Cond.initialized "java/lang/System" ∈ lwg) (h1 : 1 ≤ d) (hcat : (st.map fun v => v.category).sum ≤ 8) (hd : decode cc pc = .ok (.invokestatic idx, 3)) (k : WW E cc own nL d (pc + 3) L (ucp h a sp b dp n) st) : WW E cc own nL d pc L h (.int ilen :: .int idp :: .ref b :: .int isp :: .ref a :: st) := by
  obtain ⟨p, l, e, R, s, m, args, below, meth, c, G, A, ce, sl, Q, post⟩ := E
  intro ok ls H locs hl hP hD hS
  obtain ⟨r1, r2, r3, r4, r5⟩ := ok.2.2.2.2
  have l0 := ly_lt _ _ ha
  have l1 := ly_lt _ _ hb
  dsimp only at l0 l1
  subst e1; subst e2; subst e3
  have hnw : nativeFrameWords "java/lang/System" "arraycopy" 5 ≤ 40 := by decide
  have c1 : (nI sp).toNatClampNeg = sp := nI_clamp (by omega)
  have c2 : (nI dp).toNatClampNeg = dp := nI_clamp (by omega)
  have c3 : (nI n).toNatClampNeg = n := nI_clamp (by omega)
  refine va_copyi ok.2.1.1 ok.2.1.2.1 (by rw [ok.2.1.2.2.1, hl.1]) ok.2.1.2.2.2.1 (ok.2.1.2.2.2.2 _ hm) (ok.2.1.2.2.2.2 _ hnt) (ok.2.1.2.2.2.2 _ hs) (ok.2.1.2.2.2.2 _ hi) ok.2.2.1 hP hD hS a b 0 0 (ws_at G h ha) (ws_at G h hb) rfl rfl rfl (nI_pos (show sp < 2 ^ 31 by omega)) (nI_pos (show dp < 2 ^ 31 by omega)) (nI_pos (show n < 2 ^ 31 by omega)) (by rw [c1, c3]; exact h4) (by rw [c2, c3]; exact h5) (fun _ _ => rfl) (by omega) (by rw [catsum]; omega) hd (fun H1 locs1 hP1 hD1 hS1 => ?_)
  rw [c1, c2, c3] at hP1 hD1
  have e := ws_set G h (ucp h a sp b dp n) hb (fun x p hx => cell_ne_c x p hx)
  have ec : cellG G (ucp h a sp b dp n) b (1, n1) = .inl (G.2.2.1, n1, .inl (va_cpy (h.1 a) (h.1 b) sp dp n)) := by
    simp only [cellG, ucp_row]
  rw [ec] at e
  rw [e] at hP1 hD1
  exact k ok ls H1 locs1 hl hP1 hD1 hS1
/-- a method's words: an instance method of class ci, a static one -/
def MW (ci : Nat) (y : MethodName) (cc : ByteArray) (nL : Nat) (rt : Option FieldType) (n : Nat) : Prop := nL ≤ 41 ∧ (Cond.instanceMethod y ∈ lwg ∧ Cond.selects y.cls y y ∈ lwg ∧ Cond.initialized y.cls ∈ lwg ∧ Cond.code y cc nL rt ∈ lwg) ∧ (∃ q : vw_C, vwCl[ci]? = some q ∧ y.cls = q.1) ∧ y.cls ≠ "java/lang/invoke/MethodHandle" ∧ y.cls ≠ "java/lang/invoke/VarHandle" ∧ (parseMethodDescriptor y.desc).map (fun d => d.parameters.length) = some n
def MS (y : MethodName) (cc : ByteArray) (nL : Nat) (rt : Option FieldType) (n : Nat) : Prop := nL ≤ 41 ∧ (Cond.static y ∈ lwg ∧ Cond.initialized y.cls ∈ lwg ∧ Cond.code y cc nL rt ∈ lwg) ∧ y.cls ≠ "java/lang/invoke/MethodHandle" ∧ y.cls ≠ "java/lang/invoke/VarHandle" ∧ (parseMethodDescriptor y.desc).map (fun d => d.parameters.length) = some n
theorem lw_goodIn {ws : List Cond} (hm : ∀ w ∈ ws, w ∈ lwg) : GoodIn lwg ws := fun w hw => ⟨hm w hw, good_of_word (List.all_eq_true.mp lw_good w (hm w hw))⟩
theorem Wd_blind (G : Gx) (h : Hp) (av : List Value) : FrameBlind (va_Pc av (Wd G h)) := fun a U g mk q => by
  obtain ⟨q0, qP, qK, qD, qS, qN⟩ := q
  exact ⟨q0, qP, va_K.moved (u := U) (U := U.calling g mk a) (Vm.Alike.refl U.vm) qK, qD, StG.moved (u := U) (U := U.calling g mk a) (Vm.Alike.refl U.vm) qS, va_Nw.same rfl rfl qN.1, va_Nw.same rfl rfl qN.2⟩
theorem Wd_of {G : Gx} {h : Hp} {A : Nat → Prop} {s U : State} {H : Heap} {locs : List Loc} (hP : va_P G.2.1 vwCl (wsG G h) H) (hD : va_D A (wsG G h)) (hS : va_S A s.heap H locs) (hK : va_K G.2.1 vwCl (tysG G) s) (hSt : StG G A s s.heap) (hN : NwG s) (hU : U.heap = H) (hW : s.WarmedH U.vm) : Wd G h U := by
  subst hU
  exact ⟨hP, va_K.moved hW.alike hK, ws_DG hD, (StG.moved hW.alike (hSt.kept (fun a h1 h2 => hS.2.1 a h1 h2))).narrow (ws_AG hD), hN.1.warmF hW, hN.2.warmF hW⟩
theorem run_go {p : Program} {l : Launch} {e : Env} {R : Room} {s : State} {m : MethodId} {args : Array Value} {below : List Frame} {meth : Method} {c : Code} {H : Heap} {locs : List Loc} {ce sl : Nat} {Q : State → Prop} {G : Gx} {A : Nat → Prop} {h h' : Hp} {ro : Option Value} {pc : Nat} {ls : Array Slot} {st0 rest : List Value} {av : Array Value}
    (hr : va_Run p l e R s m args below meth c H locs ce sl 0 0 (F0 m pc ls st0) rest (QC G ro h' av) (AG G)) (hD : va_D A (wsG G h)) (hS : va_S A s.heap H locs)
    (kk : ∀ (H1 : Heap) (locs1 : List Loc), va_P G.2.1 vwCl (wsG G h') H1 → va_S A s.heap H1 locs1 → W p l e R s m args below meth c H1 locs1 ce sl Q (F0 m (pc + 3) ls ((ro.map (cvv G.1)).toList ++ rest))) : W p l e R s m args below meth c H locs ce sl Q (F0 m pc ls st0) := by
  intro T hT X
  obtain ⟨v, st₀, t, T', L, h0, X', hL, e1, e2, ⟨hv, hP1, hz, hk⟩, st⟩ := hr T hT X
  have hv' : v = ro.map (cvv G.1) := by
    have := hv
    cases this
    rfl
  subst hv'
  rw [h0] at hz hk
  obtain ⟨t2, a1, b1⟩ := kk T'.heap (locs ++ L) (by rw [e1]; exact hP1) ⟨Nat.le_trans hS.1 (by rw [e1]; exact hz), fun q h1 h2 => by
      rw [e1, hk q (Nat.lt_of_lt_of_le h1 hS.1) (fun z => h2 (ws_AG hD q z))]; exact hS.2.1 q h1 h2, fun q hq => by
      rcases List.mem_append.mp hq with h | h
      · exact hS.2.2 q h
      · exact ws_AG hD _ (hL q h)⟩ T' rfl X'
  exact ⟨t2, st t2 a1, b1⟩
theorem rm_ok {R : Room} {d dy nLy : Nat} (r1 : d ≤ R.frames) (r2 : 60 * d ≤ R.locals) (h : dy + 1 ≤ d) (hn : nLy ≤ 41) : (rmD dy).frames + 1 ≤ R.frames ∧ 8 + (nLy + 11) + (rmD dy).locals ≤ R.locals := by
  show dy + 1 ≤ R.frames ∧ 8 + (nLy + 11) + 60 * dy ≤ R.locals
  omega
theorem s_cv {y : MethodName} {ccy : ByteArray} {nLy dy b : Nat} {rt : Option FieldType} {as : List Value} {ro : Option Value} {h' : Hp} {st0 : List Value} (hc : CT dy y ccy nLy rt (.ref b :: as) h ro h') (hm : Cond.methodLink own idx y ∈ lwg) (hw : MW ci y ccy nLy rt as.length) (hb : lyL[b]? = some (0, ci)) (hdd : dy + 1 ≤ d) (hst : st0 = as.reverse ++ .ref b :: st) (hcat : (st.map fun v => v.category).sum ≤ 8) (hd : decode cc pc = .ok (.invokevirtual idx, 3)) (k : WW E cc own nL d (pc + 3) L h' (ro.toList ++ st)) : WW E cc own nL d pc L h st0 := by
  obtain ⟨p, l, e, R, s, m, args, below, meth, c, G, A, ce, sl, Q, post⟩ := E
  intro ok ls H locs hl hP hD hS
  subst hst
  obtain ⟨r1, r2, r3, r4, r5⟩ := ok.2.2.2.2
  obtain ⟨hn, ⟨w1, w2, w3, w4⟩, ⟨q, hq, hqc⟩, n1, n2, n3⟩ := hw
  have hcw : CallW R s args own q.1 idx y ccy nLy rt (.code y ccy nLy rt :: lwg) (rmD dy) 0 0 as.length := by
    rw [← hqc]
    exact cwV as.length ok.2.1.2.2.2.2 (lw_goodIn (fun w hw => by
      simp only [wsV, List.mem_append, List.mem_cons, List.not_mem_nil, or_false] at hw
      rcases hw with (rfl | rfl | rfl | rfl) | rfl | hw
      · exact hm
      · exact w1
      · exact w2
      · exact w3
      · exact w4
      · exact hw)) rfl rfl rfl ⟨rfl, n1, n2, n3⟩ (rm_ok r1 r2 hdd hn)
  have hrun := va_runV (As := as.map (cvv G.1)) (rest := st.map (cvv G.1)) (g := F0 m pc ls ((as.reverse ++ .ref b :: st).map (cvv G.1))) ok.2.1 (hc l G) (by rw [show as.length = as.length from rfl] at hcw; exact hcw) ⟨Wd_blind G h _, va_recv ok.2.2.1 hP hq (ws_at G h hb), fun U hU hW => ⟨rfl, Wd_of hP hD hS ok.2.2.1 ok.2.2.2.1 r5 hU hW⟩⟩ rfl (by simp) hl.1 (by simp [cvv]) (lv_room (by rw [catsum]; exact hcat)) hd ⟨by simpa using r3, by simpa using r4⟩ (H := H) (locs := locs) (cells := ce) (slots := sl) (below := below) (meth := meth) (e := e) (l := l)
  refine run_go (h := h) hrun hD hS (fun H1 locs1 hP1 hS1 => ?_)
  have hk := k ok ls H1 locs1 hl hP1 (ws_D hD) hS1
  rw [List.map_append] at hk
  cases ro with
  | none => exact hk
  | some v => exact hk
theorem s_cs {y : MethodName} {ccy : ByteArray} {nLy dy : Nat} {rt : Option FieldType} {as : List Value} {ro : Option Value} {h' : Hp} {st0 : List Value} (hc : CT dy y ccy nLy rt as h ro h') (hm : Cond.methodLink own idx y ∈ lwg) (hw : MS y ccy nLy rt as.length) (hdd : dy + 1 ≤ d) (hst : st0 = as.reverse ++ st) (hcat : (st.map fun v => v.category).sum ≤ 8) (hd : decode cc pc = .ok (.invokestatic idx, 3)) (k : WW E cc own nL d (pc + 3) L h' (ro.toList ++ st)) : WW E cc own nL d pc L h st0 := by
  obtain ⟨p, l, e, R, s, m, args, below, meth, c, G, A, ce, sl, Q, post⟩ := E
  intro ok ls H locs hl hP hD hS
  subst hst
  obtain ⟨r1, r2, r3, r4, r5⟩ := ok.2.2.2.2
  obtain ⟨hn, ⟨w1, w3, w4⟩, n1, n2, n3⟩ := hw
  have hcw := va_cwS (R := R) (s := s) (args := args) (own := own) (index := idx) (y := y) (bytes := ccy) (maxL := nLy) (mc := 0) (ms := 0) (ret := rt) (ws := .code y ccy nLy rt :: lwg) (ws' := lwg) (rm := rmD dy) as.length ok.2.1.2.2.2.2 (lw_goodIn (fun w hw => by
      simp only [va_wsS, List.mem_append, List.mem_cons, List.not_mem_nil, or_false] at hw
      rcases hw with (rfl | rfl | rfl) | rfl | hw
      · exact hm
      · exact w1
      · exact w3
      · exact w4
      · exact hw)) rfl rfl rfl ⟨n1, n2, n3⟩ (rm_ok r1 r2 hdd hn)
  have hrun := va_runS (As := as.map (cvv G.1)) (rest := st.map (cvv G.1)) (g := F0 m pc ls ((as.reverse ++ st).map (cvv G.1))) ok.2.1 (hc l G) hcw ⟨Wd_blind G h _, fun U hU hW => ⟨rfl, Wd_of hP hD hS ok.2.2.1 ok.2.2.2.1 r5 hU hW⟩⟩ rfl (by simp) hl.1 (by simp) (lv_room (by rw [catsum]; exact hcat)) hd ⟨by simpa using r3, by simpa using r4⟩ (H := H) (locs := locs) (cells := ce) (slots := sl) (below := below) (meth := meth) (e := e) (l := l)
  refine run_go (h := h) hrun hD hS (fun H1 locs1 hP1 hS1 => ?_)
  have hk := k ok ls H1 locs1 hl hP1 (ws_D hD) hS1
  rw [List.map_append] at hk
  cases ro with
  | none => exact hk
  | some v => exact hk
end SM
def RetOk (rt : Option FieldType) (ro : Option Value) : Prop := (∃ v : Int32, ro = some (.int v) ∧ (rt = some .int ∨ ∃ ty, rt = some ty ∧ narrow ty (.int v) = .int v)) ∨ (∃ v : Int64, ro = some (.long v) ∧ rt = some .long) ∨ (ro = none ∧ rt = none)
def bi (b : Prop) [Decidable b] : Int32 := if b then 1 else 0
theorem ro_i (v : Int32) : RetOk (some .int) (some (.int v)) := Or.inl ⟨v, rfl, Or.inl rfl⟩
theorem ro_l (v : Int64) : RetOk (some .long) (some (.long v)) := Or.inr (Or.inl ⟨v, rfl, rfl⟩)
theorem ro_v : RetOk none none := Or.inr (Or.inr ⟨rfl, rfl⟩)
theorem ro_z (b : Prop) [Decidable b] : RetOk (some .boolean) (some (.int (bi b))) := Or.inl ⟨_, rfl, Or.inr ⟨.boolean, rfl, by unfold bi; split <;> rfl⟩⟩
def entL (as : List Value) : List Value := as.flatMap (fun v => if v.category = 2 then [v, .null] else [v])
theorem entL_args {ρ : Nat → Nat} : ∀ (as : List Value) (k i : Nat) (v : Value), (entL as)[i]? = some v → v ≠ .null → (k + i, cvv ρ v) ∈ lv_args k (as.map (cvv ρ)) := by
  intro as
  induction as with
  | nil => intro k i v h; simp [entL] at h
  | cons a t ih =>
    intro k i v h hv
    have e : entL (a :: t) = (if a.category = 2 then [a, .null] else [a]) ++ entL t := rfl
    rw [e] at h
    show (k + i, cvv ρ v) ∈ (k, cvv ρ a) :: lv_args (if (cvv ρ a).category = 2 then k + 2 else k + 1) (t.map (cvv ρ))
    rw [cvv_cat]
    by_cases hc : a.category = 2
    · rw [if_pos hc] at h ⊢
      match i, h with
      | 0, h => have : a = v := by simpa using h
                subst this; exact List.mem_cons_self
      | 1, h => exact absurd (by simpa using h.symm) hv
      | i + 2, h =>
        have h2 : (entL t)[i]? = some v := by simpa using h
        have := ih (k + 2) i v h2 hv
        rw [show k + 2 + i = k + (i + 2) by omega] at this
        exact List.mem_cons_of_mem _ this
    · rw [if_neg hc] at h ⊢
      match i, h with
      | 0, h => have : a = v := by simpa using h
                subst this; exact List.mem_cons_self
      | i + 1, h =>
        have h2 : (entL t)[i]? = some v := by simpa using h
        have := ih (k + 1) i v h2 hv
        rw [show k + 1 + i = k + (i + 1) by omega] at this
        exact List.mem_cons_of_mem _ this
theorem lg_len (ρ : Nat → Nat) (as : List Value) : (lg_sl (as.map (cvv ρ))).length = (lg_sl as).length := by
  induction as with
  | nil => rfl
  | cons a t ih =>
    simp only [lg_sl, List.map_cons, List.flatMap_cons, List.length_append, cvv_cat] at ih ⊢
    rw [ih]
    by_cases hc : a.category = 2 <;> simp [hc]
set_option maxHeartbeats 1000000 in
theorem CT.of {d nL : Nat} {y : MethodName} {cc : ByteArray} {rt : Option FieldType} {as : List Value} {h h' : Hp} {ro : Option Value} {own : String} (hown : y.cls = own) (hy : plainName y.cls = true) (hr : RetOk rt ro) (L0 : List Value) (hL : entL as ++ List.replicate (nL - (lg_sl as).length) .null = L0) (hlen : (lg_sl as).length ≤ nL) (body : ∀ E : Cx, PostE E ro h' → WW E cc own nL d 0 L0 h []) : CT d y cc nL rt as h ro h' := by
  intro l G
  refine Met.ofW (cc := cc) (maxL := nL) (ret := rt) hy rfl ?_
  intro p e s m args below meth c s₁ B hml hv
  obtain ⟨rfl, hP, hK, hD, hSt, hNw⟩ := hv
  have hts := atoms_spec (ws := .code y cc nL rt :: lwg) B.pre
  have hown2 : s.vm.findClass own = some m.cls := by rw [← hown]; exact findClass_of_methodNamed B.named
  have hlocks := B.notSynchronized
  have hrt := B.returns
  rw [lg_entry_eq]
  have hl := lv_entry (as.map (cvv G.1)) (n := nL) (by rw [lg_len]; exact hlen)
  generalize (lg_sl (as.map (cvv G.1)) ++ List.replicate (nL - (lg_sl (as.map (cvv G.1))).length) Slot.unset).toArray = ls at hl ⊢
  have hl2 : lvR ls nL G.1 L0 := ⟨hl.1, hl.2.1, fun i v hi hv => by
    rw [← hL] at hi
    by_cases hii : i < (entL as).length
    · rw [List.getElem?_append_left hii] at hi
      have := hl.2.2 _ (entL_args (ρ := G.1) as 0 i v hi hv)
      simpa using this
    · rw [List.getElem?_append_right (by omega), List.getElem?_replicate] at hi
      split at hi
      · exact absurd (Option.some.inj hi).symm hv
      · cases hi⟩
  refine body (p, l, e, rmD d, s, m, (as.map (cvv G.1)).toArray, below, meth, c, G, AG G, 0, 0, MQ below (QC G ro h') (as.map (cvv G.1)).toArray s 0 0 (AG G), fun r k => r = ro ∧ k = h') ⟨rfl, rfl⟩ ⟨?_, ⟨B.exec, B.bytes, hml, hown2, fun w hw => hts w (List.mem_cons_of_mem _ hw)⟩, hK, hSt, Nat.le_refl _, Nat.le_refl _, Nat.zero_le _, Nat.zero_le _, hNw⟩ ls s.heap [] hl2 hP hD va_S.rf
  rintro r k ⟨rfl, rfl⟩ pc ls H locs hP1 hD1 hS1
  have hfree : ∀ q ∈ locs, AG G q.base := hS1.2.2
  refine ⟨fun v hv hd => ?_, fun v hv hd => ?_, fun hv hd => ?_⟩
  · subst hv
    have hq : ∀ t : State, t.heap = H → s.WarmedH t.vm → QC G (some (.int v)) k (as.map (cvv G.1)).toArray s (.returned (some (.int v))) t := fun t ht _ => ⟨rfl, by rw [ht]; exact hP1, hS1.F ht⟩
    rcases hr with ⟨w, hw, h1 | ⟨ty, h1, h2⟩⟩ | ⟨w, hw, -⟩ | ⟨hw, -⟩
    · rw [h1] at hrt
      exact W.iret B.exec B.bytes hrt hq hfree hd hlocks
    · cases hw
      rw [h1] at hrt
      exact W.zret B.exec B.bytes hrt h2 hq hfree hd hlocks
    · cases hw
    · cases hw
  · subst hv
    have hq : ∀ t : State, t.heap = H → s.WarmedH t.vm → QC G (some (.long v)) k (as.map (cvv G.1)).toArray s (.returned (some (.long v))) t := fun t ht _ => ⟨rfl, by rw [ht]; exact hP1, hS1.F ht⟩
    rcases hr with ⟨w, hw, -⟩ | ⟨w, hw, h1⟩ | ⟨hw, -⟩
    · cases hw
    · rw [h1] at hrt
      exact W.lret B.exec B.bytes hrt hq hfree hd hlocks
    · cases hw
  · subst hv
    have hq : ∀ t : State, t.heap = H → s.WarmedH t.vm → QC G none k (as.map (cvv G.1)).toArray s (.returned none) t := fun t ht _ => ⟨rfl, by rw [ht]; exact hP1, hS1.F ht⟩
    rcases hr with ⟨w, hw, -⟩ | ⟨w, hw, h1⟩ | ⟨-, h1⟩
    · cases hw
    · cases hw
    · rw [h1] at hrt
      exact W.vret B.exec B.bytes hrt hq hfree hd hlocks
