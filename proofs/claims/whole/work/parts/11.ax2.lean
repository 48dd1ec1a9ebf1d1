/-! AX, second part: fields, cells that are made, returns, throws -/
/-- a word of the tables that stays under warmer tables: a good one, or one of three more kinds -/
def ax_kw (x : Cond) : Bool := goodWord x || (match x with | .castable .. => true | .declares _ => true | .superclass .. => true | .methodLinkNest .. => true | _ => false)
theorem ax_super {a b : String} {args : Array Value} {s : State} {vm' : Vm} (h : s.vm.Alike vm') (hb : (Cond.superclass a b).before args s = true) : (Cond.superclass a b).before args (s.setVm vm') = true := by
  simp only [Cond.before, Cond.holds, Cond.value, State.vm_setVm, h.findClass] at hb ⊢
  cases h1 : s.vm.findClass a with
  | none => rw [h1] at hb; simp at hb
  | some c =>
    rw [h1] at hb
    cases h2 : s.vm.findClass b with
    | none => rw [h2] at hb; simp at hb
    | some p =>
      rw [h2] at hb
      dsimp only at hb ⊢
      cases h3 : s.vm.classes[c]? with
      | none => rw [h3] at hb; simp at hb
      | some k =>
        rw [h3] at hb
        cases h4 : s.vm.classes[p]? with
        | none => rw [h4] at hb; simp at hb
        | some kp =>
          rw [h4] at hb
          obtain ⟨k', hk', he⟩ := h.2.2 _ _ h3
          obtain ⟨kp', hkp', hep⟩ := h.2.2 _ _ h4
          simp only [hk', hkp', Option.bind_some, Option.map_some] at hb ⊢
          rw [he, hep]
          exact hb
theorem ax_kept {x : Cond} (hx : ax_kw x = true) {args a' : Array Value} {s U : State} (hW : s.WarmedH U.vm) (h : x.before args s = true) : x.before a' U = true := by
  by_cases hg : goodWord x = true
  · exact word_at hW (good_of_word hg) h
  · cases x <;> first
      | exact absurd rfl hg
      | exact va_tabs rfl (rfl : (s.setVm U.vm).vm = U.vm) (by rw [Cond.castable_setVm hW.alike]; exact h)
      | exact va_tabs rfl (rfl : (s.setVm U.vm).vm = U.vm) (by rw [Cond.declares_setVm hW.alike]; exact h)
      | exact va_tabs rfl (rfl : (s.setVm U.vm).vm = U.vm) (ax_super hW.alike h)
      | exact va_Nw.use rfl (va_Nw.warmM hW (va_Nw.of rfl h))
      | (simp [ax_kw, hg] at hx)
section AXS
variable {G : ax_G} {M : ax_M} {d nc ns pc : Nat} {lv : ax_V} {st : List Value} {w : ax_W} {o : ax_O}
theorem ax_wk {p : Program} {s : State} {m : MethodId} {meth : Method} {c : Code} {args : Array Value} {x : Cond} (hG : ax_G0 G) (hC : ax_C G M p s m meth c) (hx : x ∈ lw_tbl) (hg : ax_kw x = true) : x.before args s = true := ax_kept hg hC.2.2.2.2.2.2.2.2.1 (hG.1 x hx)
/-- a field as the class 'own' names it by its entry 'index': field k of the class ci -/
def ax_fl (own : String) (index ci k : Nat) : Prop := ∃ r : vw_C, ax_cl[ci]? = some r ∧ k < r.2.2 ∧ (∀ x ∈ u_ws r.1 r.2.1 r.2.2, x ∈ lw_tbl ∧ goodWord x = true) ∧ Cond.fieldLink own index (r.2.1 k).1 (r.2.1 k).2.1 (r.2.1 k).2.2.1 ∈ lw_tbl
def ax_fp (own : String) (index ci k : Nat) (fin : Bool) (ty : FieldType) : Prop := ∃ (r : vw_C) (ty0 : Nat → FieldType), ax_cl[ci]? = some r ∧ k < r.2.2 ∧ (∀ x ∈ u_ws r.1 r.2.1 r.2.2, x ∈ lw_tbl ∧ goodWord x = true) ∧ Cond.fieldLink own index (r.2.1 k).1 (r.2.1 k).2.1 (r.2.1 k).2.2.1 ∈ lw_tbl ∧
  (∀ j, j < r.2.2 → parseFieldDescriptor (r.2.1 j).2.2.1 = some (ty0 j)) ∧ (∀ a, a < r.2.2 → ∀ b, b < r.2.2 → a ≠ b → (r.2.1 a).2.1 ≠ (r.2.1 b).2.1) ∧ (r.2.1 k).2.2.2 = fin ∧ parseFieldDescriptor (r.2.1 k).2.2.1 = some ty ∧ (r.2.1 k).1 = own
theorem ax_getf {a ci index kf : Nat} {fs : List Value} {v : Value} (q : Nat) (hd : decode M.2.1 pc = .ok (.getfield index, 3)) (hq : pc + 3 = q) (hF : ax_fl M.1.cls index ci kf) (he : w[a]? = some (.inr (ci, fs))) (hv : fs[kf]? = some v) (k : ax_Ex G M d nc ns q lv (v :: st) w o) : ax_Ex G M d nc ns pc lv (.ref a :: st) w o := by
  subst hq
  intro hG p e R s m args below meth c H locs cells slots mc ms n0 ad ad0 ls hC hR hH hl hs
  obtain ⟨⟨C, T, N⟩, h1, h2, h3, h4⟩ := hF
  exact va_get (D := G.D) (cl := ax_cl) (Ts := u_ws C T N) (ci := ci) (v := ax_rv ad v) hC.1 hC.2.1 (fun x hx => ax_wd hG hC (h3 x hx).1 (h3 x hx).2) (fun _ h => h) hC.2.2.2.2.1 (ax_K hG hC) hH.2.2.2.1 a (ax_rw_at G ad he) h1 kf h2 (ax_wd hG hC h4 rfl) (fun _ h => h) (by rw [List.getElem?_map, hv]; rfl) hd
    (k hG p e R s m args below meth c H locs cells slots mc ms n0 ad ad0 ls hC hR hH hl ⟨ax_sok_at (hH.2.2.1 a _ he) hv, hs.2⟩)
theorem ax_putf {a ci index kf : Nat} {fs : List Value} {x : Int32} {ty : FieldType} (q : Nat) (hd : decode M.2.1 pc = .ok (.putfield index, 3)) (hq : pc + 3 = q) (hF : ax_fp M.1.cls index ci kf false ty) (he : w[a]? = some (.inr (ci, fs))) (hn : narrow ty (.int x) = .int x) (hf : fits ty (.int x) = true) (hl9 : kf < fs.length)
    (k : ax_Ex G M d nc ns q lv st (w.set a (.inr (ci, fs.set kf (.int x)))) o) : ax_Ex G M d nc ns pc lv (.int x :: .ref a :: st) w o := by
  subst hq
  intro hG p e R s m args below meth c H locs cells slots mc ms n0 ad ad0 ls hC hR hH hl hs
  obtain ⟨⟨C, T, N⟩, ty0, h1, h2, h3, h4, h5, h6, h7, h8, h9⟩ := hF
  refine va_put (D := G.D) (cl := ax_cl) (tys := ax_tys G) (A := ax_A G) (H0 := s.heap) (Ts := u_ws C T N) (ci := ci) (v := .int x) (ty := ty) hC.1 hC.2.1 (fun x hx => ax_wd hG hC (h3 x hx).1 (h3 x hx).2) (fun _ h => h) ty0 h5 h6 hC.2.2.2.2.1 (ax_K hG hC) hH.2.2.2.1 hH.2.2.2.2.1 hH.2.2.2.2.2 a (ax_rw_at G ad he) h1 kf h2 (ax_wd hG hC h4 rfl) (fun _ h => h) h7 h8 hn hf (by rw [List.length_map]; exact hl9) hd (fun H' locs' hP' hD' hS' => ?_)
  have e9 : (fs.map (ax_rv ad)).set kf (Value.int x) = (fs.set kf (.int x)).map (ax_rv ad) := by rw [List.map_set]; rfl
  rw [e9] at hP' hD'
  have hok : ax_eok w.length (.inr (ci, fs.set kf (.int x))) := ax_sok_set (n := w.length) (show ax_vok w.length (.int x) from trivial) (hH.2.2.1 a _ he)
  have hh : ax_H G ad ad0 n0 (w.set a (.inr (ci, fs.set kf (.int x)))) s H' locs' := ⟨by rw [List.length_set]; exact hH.1, hH.2.1, ax_wf_set hH.2.2.1 hok, by rw [← ax_rw_set]; exact hP', by rw [← ax_rw_set]; exact hD', hS'⟩
  exact k hG p e R s m args below meth c H' locs' cells slots mc ms n0 ad ad0 ls hC hR hh ⟨hl.1, by rw [List.length_set]; exact hl.2⟩ (by rw [List.length_set]; exact hs.2.2)
theorem ax_putfF {a b ci index kf : Nat} {fs : List Value} {ty : FieldType} (q : Nat) (hd : decode M.2.1 pc = .ok (.putfield index, 3)) (hq : pc + 3 = q) (hF : ax_fp M.1.cls index ci kf true ty) (hi : M.1.name = "<init>") (he : w[a]? = some (.inr (ci, fs))) (hn : ∀ z : Nat, narrow ty (.ref z) = .ref z) (hf : ∀ z : Nat, fits ty (.ref z) = true) (hl9 : kf < fs.length)
    (k : ax_Ex G M d nc ns q lv st (w.set a (.inr (ci, fs.set kf (.ref b)))) o) : ax_Ex G M d nc ns pc lv (.ref b :: .ref a :: st) w o := by
  subst hq
  intro hG p e R s m args below meth c H locs cells slots mc ms n0 ad ad0 ls hC hR hH hl hs
  obtain ⟨⟨C, T, N⟩, ty0, h1, h2, h3, h4, h5, h6, h7, h8, h9⟩ := hF
  refine va_putF (D := G.D) (cl := ax_cl) (tys := ax_tys G) (A := ax_A G) (H0 := s.heap) (Ts := u_ws C T N) (ci := ci) (v := .ref (ad b)) (ty := ty) hC.1 hC.2.1 (fun x hx => ax_wd hG hC (h3 x hx).1 (h3 x hx).2) (fun _ h => h) ty0 h5 h6 hC.2.2.2.2.1 (ax_K hG hC) hH.2.2.2.1 hH.2.2.2.2.1 hH.2.2.2.2.2 a (ax_rw_at G ad he) h1 kf h2 (ax_wd hG hC h4 rfl) (fun _ h => h) h7 (hC.2.2.2.2.2.2.1.trans hi) h9 h8 (hn _) (hf _) (by rw [List.length_map]; exact hl9) hd (fun H' locs' hP' hD' hS' => ?_)
  have e9 : (fs.map (ax_rv ad)).set kf (Value.ref (ad b)) = (fs.set kf (.ref b)).map (ax_rv ad) := by rw [List.map_set]; rfl
  rw [e9] at hP' hD'
  have hok : ax_eok w.length (.inr (ci, fs.set kf (.ref b))) := ax_sok_set (n := w.length) hs.1 (hH.2.2.1 a _ he)
  have hh : ax_H G ad ad0 n0 (w.set a (.inr (ci, fs.set kf (.ref b)))) s H' locs' := ⟨by rw [List.length_set]; exact hH.1, hH.2.1, ax_wf_set hH.2.2.1 hok, by rw [← ax_rw_set]; exact hP', by rw [← ax_rw_set]; exact hD', hS'⟩
  exact k hG p e R s m args below meth c H' locs' cells slots mc ms n0 ad ad0 ls hC hR hh ⟨hl.1, by rw [List.length_set]; exact hl.2⟩ (by rw [List.length_set]; exact hs.2.2)
theorem ax_alen {a n : Nat} {f : Nat → Int32} (q : Nat) (hd : decode M.2.1 pc = .ok (.arraylength, 1)) (hq : pc + 1 = q) (he : w[a]? = some (.inl (0, n, .inl f))) (k : ax_Ex G M d nc ns q lv (.int (Int32.ofNat n) :: st) w o) : ax_Ex G M d nc ns pc lv (.ref a :: st) w o := by
  subst hq
  intro hG p e R s m args below meth c H locs cells slots mc ms n0 ad ad0 ls hC hR hH hl hs
  exact va_alen (D := G.D) (cl := ax_cl) (tys := ax_tys G) hC.1 hC.2.1 (ax_K hG hC) hH.2.2.2.1 a 0 (ax_rw_at G ad he) rfl rfl hd (k hG p e R s m args below meth c H locs cells slots mc ms n0 ad ad0 ls hC hR hH hl ⟨trivial, hs.2⟩)
theorem ax_scr {p : Program} {s : State} {m : MethodId} {meth : Method} {c : Code} (hG : ax_G0 G) (hC : ax_C G M p s m meth c) : va_X G.b G.L G.xs s s.heap ∧ G.b < s.heap.size ∧ ¬ ax_A G G.b := by
  obtain ⟨-, -, hX, hb, -⟩ := hG
  exact ⟨(hX.moved hC.2.2.2.2.2.2.2.2.1.alike).kept (hC.2.2.2.2.2.2.2.2.2.2 _ hb), Nat.lt_of_lt_of_le hb hC.2.2.2.2.2.2.2.2.2.1, Nat.not_le.mpr hb⟩
theorem ax_slen (q : Nat) (hd : decode M.2.1 pc = .ok (.arraylength, 1)) (hq : pc + 1 = q) (k : ax_Ex G M d nc ns q lv (.int (Int32.ofNat G.L) :: st) w o) : ax_Ex G M d nc ns pc lv (.retAddr G.b :: st) w o := by
  subst hq
  intro hG p e R s m args below meth c H locs cells slots mc ms n0 ad ad0 ls hC hR hH hl hs
  obtain ⟨hX, hb, hA⟩ := ax_scr hG hC
  exact va_slen (A := ax_A G) (H0 := s.heap) hC.1 hC.2.1 hX hb hA hH.2.2.2.2.2 hd (k hG p e R s m args below meth c H locs cells slots mc ms n0 ad ad0 ls hC hR hH hl ⟨trivial, hs.2⟩)
theorem ax_sld {i : Int32} (q : Nat) (hd : decode M.2.1 pc = .ok (.iaload, 1)) (hq : pc + 1 = q) (hi : vp_in i G.L) (k : ax_Ex G M d nc ns q lv (.int (G.xs i.toNatClampNeg) :: st) w o) : ax_Ex G M d nc ns pc lv (.int i :: .retAddr G.b :: st) w o := by
  subst hq
  intro hG p e R s m args below meth c H locs cells slots mc ms n0 ad ad0 ls hC hR hH hl hs
  obtain ⟨hX, hb, hA⟩ := ax_scr hG hC
  exact va_sld (A := ax_A G) (H0 := s.heap) hC.1 hC.2.1 hX hb hA hH.2.2.2.2.2 hi hd (k hG p e R s m args below meth c H locs cells slots mc ms n0 ad ad0 ls hC hR hH hl ⟨trivial, hs.2.2⟩)
/-! cells that are made -/
def ax_up (ad : Nat → Nat) (n q : Nat) : Nat → Nat := fun j => if j = n then q else ad j
theorem ax_up_old {ad : Nat → Nat} {n q j : Nat} (h : j < n) : ax_up ad n q j = ad j := if_neg (Nat.ne_of_lt h)
theorem ax_up_new {ad : Nat → Nat} {n q : Nat} : ax_up ad n q n = q := if_pos rfl
theorem ax_re_same {n : Nat} {ad ad' : Nat → Nat} (h : ∀ j : Nat, j < n → ad' j = ad j) {e : ax_E} (he : ax_eok n e) : ax_re G ad' e = ax_re G ad e := by
  rcases e with ⟨kd, n9, f | f⟩ | ⟨ci, fs⟩
  · rfl
  · rfl
  · show (Sum.inr (ci, fs.map (ax_rv ad')) : va_E) = .inr (ci, fs.map (ax_rv ad))
    rw [ax_st_same h he]
theorem ax_rw_same {ad ad' : Nat → Nat} (h : ∀ j : Nat, j < w.length → ad' j = ad j) (hw : ax_wf w) : ax_rw G ad' w = ax_rw G ad w := by
  apply List.ext_getElem?
  intro j
  simp only [ax_rw, List.getElem?_mapIdx]
  cases hj : w[j]? with
  | none => rfl
  | some e =>
    have hl : j < w.length := (List.getElem?_eq_some_iff.mp hj).1
    simp only [Option.map_some, h j hl, ax_re_same h (hw j e hj)]
theorem ax_rw_push {ad : Nat → Nat} {a : Nat} {e : ax_E} (hw : ax_wf w) : ax_rw G (ax_up ad w.length a) (w ++ [e]) = ax_rw G ad w ++ [(a, ax_re G (ax_up ad w.length a) e)] := by
  rw [← ax_rw_same (G := G) (ad := ad) (ad' := ax_up ad w.length a) (fun j hj => ax_up_old hj) hw]
  simp only [ax_rw, List.mapIdx_append, List.mapIdx_cons, List.mapIdx_nil, Nat.zero_add, ax_up_new]
theorem ax_wf_push {e : ax_E} (hw : ax_wf w) (he : ax_eok (w.length + 1) e) : ax_wf (w ++ [e]) := by
  intro j x hx
  rw [List.length_append, List.length_singleton]
  by_cases hj : j < w.length
  · rw [List.getElem?_append_left hj] at hx
    have h1 := hw j x hx
    rcases x with x | ⟨ci, fs⟩
    · trivial
    · exact ax_sok_mono (Nat.le_succ _) h1
  · rw [List.getElem?_append_right (by omega)] at hx
    have hz : j - w.length < 1 := (List.getElem?_eq_some_iff.mp hx).1
    rw [show j - w.length = 0 by omega] at hx
    cases hx
    exact he
/-- behind a cell that was made: the same, one cell more -/
theorem ax_H_push {ad ad0 : Nat → Nat} {n0 a : Nat} {e : ax_E} {s : State} {H H1 : Heap} {locs : List Loc} (hH : ax_H G ad ad0 n0 w s H locs) (he : ax_eok (w.length + 1) e) (hP : va_P G.D ax_cl (ax_rw G ad w ++ [(a, ax_re G (ax_up ad w.length a) e)]) H1) (hD : va_D (ax_A G) (ax_rw G ad w ++ [(a, ax_re G (ax_up ad w.length a) e)])) (hS : va_S (ax_A G) s.heap H1 locs) : ax_H G (ax_up ad w.length a) ad0 n0 (w ++ [e]) s H1 locs :=
  ⟨by rw [List.length_append]; exact Nat.le_trans hH.1 (Nat.le_add_right _ _), fun j hj => (ax_up_old (Nat.lt_of_lt_of_le hj hH.1)).trans (hH.2.1 j hj), ax_wf_push hH.2.2.1 he, by rw [ax_rw_push hH.2.2.1]; exact hP, by rw [ax_rw_push hH.2.2.1]; exact hD, hS⟩
theorem ax_newz {kd n : Nat} {atype : ArrayType} {ty : FieldType} {i : Int32} {e : ax_E} {a0 : vp_A} (q : Nat) (hd : decode M.2.1 pc = .ok (.newarray atype, 2)) (hq : pc + 2 = q) (hty : newarray.typeOf atype = ty) (hkd : ∀ G : ax_G, (ax_tys G)[kd]? = some (G.cA kd, ty)) (hra : ∀ (U : State) (cA : ClassId), va_RA U cA ty → U.vm.findClass ("[" ++ ty.toString) = some cA)
    (hw : Cond.arrayClass (newarray.typeOf atype) ∈ lw_tbl) (ha : ∀ cA : ClassId, vp_cell cA a0 = arrV cA n (fun _ => defaultValue ty)) (he : ∀ (G : ax_G) (ad : Nat → Nat), ax_re G ad e = .inl (G.cA kd, a0)) (hek : ∀ m : Nat, ax_eok m e) (hi : ¬ i < 0) (hn : i.toNatClampNeg = n) (hb : n * componentBytes ty ≤ 536870912)
    (k : ax_Ex G M d nc ns q lv (.ref w.length :: st) (w ++ [e]) o) : ax_Ex G M d (nc + 1) (ns + n) pc lv (.int i :: st) w o := by
  subst hq
  intro hG p e9 R s m args below meth c H locs cells slots mc ms n0 ad ad0 ls hC hR hH hl hs
  refine va_newa (D := G.D) (cl := ax_cl) (tys := ax_tys G) (A := ax_A G) (H0 := s.heap) (a0 := a0) hC.1 hC.2.1 (ax_wd hG hC hw rfl) hty (ax_K hG hC) hH.2.2.2.1 hH.2.2.2.2.1 hH.2.2.2.2.2 (fun z hz => Nat.le_trans hC.2.2.2.2.2.2.2.2.2.1 hz) ha hi hn hb (by omega) (by omega) hd (fun a cA H1 hK1 hP1 hD1 hS1 => ?_)
  have c1 : s.vm.findClass ("[" ++ ty.toString) = some cA := hra s cA (hK1.2 3 (cA, ty) (by simp)).2
  have c2 : s.vm.findClass ("[" ++ ty.toString) = some (G.cA kd) := hra s (G.cA kd) ((ax_K hG hC).2 kd (G.cA kd, ty) (hkd G)).2
  have c3 : cA = G.cA kd := Option.some.inj (c1.symm.trans c2)
  subst c3
  have hh : ax_H G (ax_up ad w.length a) ad0 n0 (w ++ [e]) s H1 locs := ax_H_push hH (hek _) (by rw [he]; exact hP1) (by rw [he]; exact hD1) hS1
  have hold : ∀ j : Nat, j < w.length → ax_up ad w.length a j = ad j := fun j hj => ax_up_old hj
  have h9 := k hG p e9 R s m args below meth c H1 locs (cells + 1) (slots + n) mc ms n0 (ax_up ad w.length a) ad0 ls hC (by omega) hh ⟨by rw [ax_lv_same hold hl.2]; exact hl.1, by rw [List.length_append]; exact ax_lok_mono (Nat.le_add_right _ _) hl.2⟩ ⟨by rw [List.length_append]; exact Nat.lt_succ_self _, by rw [List.length_append]; exact ax_sok_mono (Nat.le_add_right _ _) hs.2⟩
  rw [List.map_cons, ax_st_same hold hs.2] at h9
  rw [show ax_rv (ax_up ad w.length a) (.ref w.length) = Value.ref a from congrArg Value.ref ax_up_new] at h9
  exact h9
theorem ax_newi {n : Nat} {i : Int32} (q : Nat) (hd : decode M.2.1 pc = .ok (.newarray .int, 2)) (hq : pc + 2 = q) (hi : ¬ i < 0) (hn : i.toNatClampNeg = n) (hb : n * componentBytes .int ≤ 536870912) (hw : Cond.arrayClass .int ∈ lw_tbl)
    (k : ax_Ex G M d nc ns q lv (.ref w.length :: st) (w ++ [.inl (0, n, .inl (fun _ => 0))]) o) : ax_Ex G M d (nc + 1) (ns + n) pc lv (.int i :: st) w o :=
  ax_newz (kd := 0) (e := .inl (0, n, .inl (fun _ => 0))) (ty := .int) (a0 := (n, .inl (fun _ => 0))) q hd hq rfl (fun _ => rfl) (fun _ _ h => h) hw (fun _ => rfl) (fun _ _ => rfl) (fun _ => trivial) hi hn hb k
theorem ax_newb {n : Nat} {i : Int32} (q : Nat) (hd : decode M.2.1 pc = .ok (.newarray .boolean, 2)) (hq : pc + 2 = q) (hi : ¬ i < 0) (hn : i.toNatClampNeg = n) (hb : n * componentBytes .boolean ≤ 536870912) (hw : Cond.arrayClass .boolean ∈ lw_tbl)
    (k : ax_Ex G M d nc ns q lv (.ref w.length :: st) (w ++ [.inl (1, n, .inl (fun _ => 0))]) o) : ax_Ex G M d (nc + 1) (ns + n) pc lv (.int i :: st) w o :=
  ax_newz (kd := 1) (e := .inl (1, n, .inl (fun _ => 0))) (ty := .boolean) (a0 := (n, .inl (fun _ => 0))) q hd hq rfl (fun _ => rfl) (fun _ _ h => h) hw (fun _ => rfl) (fun _ _ => rfl) (fun _ => trivial) hi hn hb k
theorem ax_newl {n : Nat} {i : Int32} (q : Nat) (hd : decode M.2.1 pc = .ok (.newarray .long, 2)) (hq : pc + 2 = q) (hi : ¬ i < 0) (hn : i.toNatClampNeg = n) (hb : n * componentBytes .long ≤ 536870912) (hw : Cond.arrayClass .long ∈ lw_tbl)
    (k : ax_Ex G M d nc ns q lv (.ref w.length :: st) (w ++ [.inl (2, n, .inr (fun _ => 0))]) o) : ax_Ex G M d (nc + 1) (ns + n) pc lv (.int i :: st) w o :=
  ax_newz (kd := 2) (e := .inl (2, n, .inr (fun _ => 0))) (ty := .long) (a0 := (n, .inr (.inl (fun _ => 0)))) q hd hq rfl (fun _ => rfl) (fun _ _ h => h) hw (fun _ => rfl) (fun _ _ => rfl) (fun _ => trivial) hi hn hb k
/-- a new object of the class ci: fs its fields' first values -/
def ax_nw (own : String) (index ci N : Nat) (fs : List Value) : Prop := ∃ (C : String) (T : u_T) (ty0 : Nat → FieldType), ax_cl[ci]? = some (C, T, N) ∧ (∀ x ∈ u_ws C T N, x ∈ lw_tbl ∧ goodWord x = true) ∧ (∀ j, j < N → parseFieldDescriptor (T j).2.2.1 = some (ty0 j)) ∧ Cond.classLink own index C ∈ lw_tbl ∧ Cond.instantiable C N ∈ lw_tbl ∧ Cond.initialized C ∈ lw_tbl ∧ (∀ j, j < N → defaultValue (ty0 j) = vp_V fs j) ∧ (∀ ad : Nat → Nat, fs.map (ax_rv ad) = fs) ∧ ∀ m : Nat, ax_sok m fs
theorem ax_new {index ci N : Nat} {fs : List Value} (q : Nat) (hd : decode M.2.1 pc = .ok (.new index, 3)) (hq : pc + 3 = q) (hF : ax_nw M.1.cls index ci N fs) (k : ax_Ex G M d nc ns q lv (.ref w.length :: st) (w ++ [.inr (ci, fs)]) o) : ax_Ex G M d (nc + 1) (ns + N) pc lv st w o := by
  subst hq
  intro hG p e9 R s m args below meth c H locs cells slots mc ms n0 ad ad0 ls hC hR hH hl hs
  obtain ⟨C, T, ty0, h1, h3, h4, h5, h6, h7, h8, h9, h10⟩ := hF
  refine va_new (D := G.D) (cl := ax_cl) (tys := ax_tys G) (A := ax_A G) (H0 := s.heap) (Ts := u_ws C T N) (ci := ci) (fs := fs) hC.1 hC.2.1 (fun x hx => ax_wd hG hC (h3 x hx).1 (h3 x hx).2) (fun _ h => h) ty0 h4 hC.2.2.2.2.1 (ax_wd hG hC h5 rfl) (ax_wd hG hC h6 rfl) (ax_wd hG hC h7 rfl) (ax_K hG hC) hH.2.2.2.1 hH.2.2.2.2.1 hH.2.2.2.2.2 (fun z hz => Nat.le_trans hC.2.2.2.2.2.2.2.2.2.1 hz) h1 h8 (by omega) (by omega) hd (fun a H1 hP1 hD1 hS1 => ?_)
  have he : ∀ ad : Nat → Nat, ax_re G ad (.inr (ci, fs)) = .inr (ci, fs) := fun ad => by show (Sum.inr (ci, fs.map (ax_rv ad)) : va_E) = _; rw [h9]
  have hh : ax_H G (ax_up ad w.length a) ad0 n0 (w ++ [.inr (ci, fs)]) s H1 locs := ax_H_push hH (h10 _) (by rw [he]; exact hP1) (by rw [he]; exact hD1) hS1
  have hold : ∀ j : Nat, j < w.length → ax_up ad w.length a j = ad j := fun j hj => ax_up_old hj
  have h9 := k hG p e9 R s m args below meth c H1 locs (cells + 1) (slots + N) mc ms n0 (ax_up ad w.length a) ad0 ls hC (by omega) hh ⟨by rw [ax_lv_same hold hl.2]; exact hl.1, by rw [List.length_append]; exact ax_lok_mono (Nat.le_add_right _ _) hl.2⟩ ⟨by rw [List.length_append]; exact Nat.lt_succ_self _, by rw [List.length_append]; exact ax_sok_mono (Nat.le_add_right _ _) hs⟩
  rw [List.map_cons, ax_st_same hold hs] at h9
  rw [show ax_rv (ax_up ad w.length a) (.ref w.length) = Value.ref a from congrArg Value.ref ax_up_new] at h9
  exact h9
/-! returns -/
theorem ax_iret {v : Int32} (hd : decode M.2.1 pc = .ok (.ireturn, 1)) (hr : M.2.2.2.1 = some .int) (ho : o = (.inl (some (.int v)), w)) : ax_Ex G M d nc ns pc lv [.int v] w o := by
  subst ho
  intro hG p e R s m args below meth c H locs cells slots mc ms n0 ad ad0 ls hC hR hH hl hs
  exact vx_ret (W.widen (k := mc) (n := ms) (by omega) (by omega) (W.iret (v := v) hC.1 hC.2.1 (hC.2.2.1.trans hr) (fun t ht hW => ⟨some (.int v), ad, rfl, rfl, ⟨trivial, trivial⟩, hH.1, hH.2.1, hH.2.2.1, by rw [ht]; exact hH.2.2.2.1, hH.2.2.2.2.1, hH.2.2.2.2.2.F ht⟩) hH.2.2.2.2.2.2.2 hd hC.2.2.2.2.2.1))
theorem ax_zret {v : Int32} (hd : decode M.2.1 pc = .ok (.ireturn, 1)) (hr : M.2.2.2.1 = some .boolean) (hn : narrow .boolean (.int v) = .int v) (ho : o = (.inl (some (.int v)), w)) : ax_Ex G M d nc ns pc lv [.int v] w o := by
  subst ho
  intro hG p e R s m args below meth c H locs cells slots mc ms n0 ad ad0 ls hC hR hH hl hs
  exact vx_ret (W.widen (k := mc) (n := ms) (by omega) (by omega) (W.zret (v := v) (ty := .boolean) hC.1 hC.2.1 (hC.2.2.1.trans hr) hn (fun t ht hW => ⟨some (.int v), ad, rfl, rfl, ⟨trivial, trivial⟩, hH.1, hH.2.1, hH.2.2.1, by rw [ht]; exact hH.2.2.2.1, hH.2.2.2.2.1, hH.2.2.2.2.2.F ht⟩) hH.2.2.2.2.2.2.2 hd hC.2.2.2.2.2.1))
theorem ax_lret {v : Int64} (hd : decode M.2.1 pc = .ok (.lreturn, 1)) (hr : M.2.2.2.1 = some .long) (ho : o = (.inl (some (.long v)), w)) : ax_Ex G M d nc ns pc lv [.long v] w o := by
  subst ho
  intro hG p e R s m args below meth c H locs cells slots mc ms n0 ad ad0 ls hC hR hH hl hs
  exact vx_ret (W.widen (k := mc) (n := ms) (by omega) (by omega) (W.lret (v := v) hC.1 hC.2.1 (hC.2.2.1.trans hr) (fun t ht hW => ⟨some (.long v), ad, rfl, rfl, ⟨trivial, trivial⟩, hH.1, hH.2.1, hH.2.2.1, by rw [ht]; exact hH.2.2.2.1, hH.2.2.2.2.1, hH.2.2.2.2.2.F ht⟩) hH.2.2.2.2.2.2.2 hd hC.2.2.2.2.2.1))
theorem ax_vret (hd : decode M.2.1 pc = .ok (.return_, 1)) (hr : M.2.2.2.1 = none) (ho : o = (.inl none, w)) : ax_Ex G M d nc ns pc lv [] w o := by
  subst ho
  intro hG p e R s m args below meth c H locs cells slots mc ms n0 ad ad0 ls hC hR hH hl hs
  exact vx_ret (W.widen (k := mc) (n := ms) (by omega) (by omega) (W.vret hC.1 hC.2.1 (hC.2.2.1.trans hr) (fun t ht hW => ⟨none, ad, rfl, rfl, trivial, hH.1, hH.2.1, hH.2.2.1, by rw [ht]; exact hH.2.2.2.1, hH.2.2.2.2.1, hH.2.2.2.2.2.F ht⟩) hH.2.2.2.2.2.2.2 hd hC.2.2.2.2.2.1))
/-- fewer cells, another end: by equality or by order -/
theorem ax_more {nc' ns' : Nat} (h1 : nc ≤ nc') (h2 : ns ≤ ns') (k : ax_Ex G M d nc ns pc lv st w o) : ax_Ex G M d nc' ns' pc lv st w o := by
  intro hG p e R s m args below meth c H locs cells slots mc ms n0 ad ad0 ls hC hR hH hl hs
  exact k hG p e R s m args below meth c H locs cells slots mc ms n0 ad ad0 ls hC (by omega) hH hl hs
theorem ax_objInit {a index : Nat} (q : Nat) (hd : decode M.2.1 pc = .ok (.invokespecial index, 3)) (hq : pc + 3 = q) (hd9 : 1 ≤ d) (h1 : Cond.methodLink M.1.cls index objectInit ∈ lw_tbl) (h2 : Cond.instanceMethod objectInit ∈ lw_tbl) (h3 : Cond.code objectInit ⟨#[0xb1]⟩ 1 none ∈ lw_tbl) (hc : (st.map fun v => v.category).sum ≤ 8) (k : ax_Ex G M d nc ns q lv st w o) : ax_Ex G M d nc ns pc lv (.ref a :: st) w o := by
  subst hq
  intro hG p e R s m args below meth c H locs cells slots mc ms n0 ad ad0 ls hC hR hH hl hs
  refine W.objInit hC.1 hC.2.1 hC.2.2.2.2.1 (ax_wd hG hC h1 rfl) (ax_wd hG hC h2 rfl) (ax_wd hG hC h3 rfl) rfl (by rw [hC.2.2.2.1]; exact hl.1.1) rfl hd (by omega) ?_ (k hG p e R s m args below meth c H locs cells slots mc ms n0 ad ad0 ls hC hR hH hl hs.2)
  have h9 : ((st.map (ax_rv ad)).map fun v => v.category).sum ≤ 8 := by rw [ax_cats]; exact hc
  have h8 : (F0 m pc ls (List.map (ax_rv ad) (Value.ref a :: st))).monitorRoom = 0 := rfl
  rw [h8]
  omega
end AXS
