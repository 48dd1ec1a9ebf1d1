/-! AX: the walk of a method over a small picture of the heap. A world is a list of cells by number; a reference on the operand stack, in a local or in a field is such a number ('.ref k'), '.retAddr a' is a reference to the real address a (the script, a caught exception). ax_Ex: from this pc, with these locals, operands and world, the machine comes to the end o. Everything of the machine stays inside of ax_Ex; the rows below are its instructions. -/
abbrev ax_M : Type := MethodName × ByteArray × Nat × Option FieldType × List (Nat × Nat × Nat × Nat)
abbrev ax_E : Type := (Nat × Nat × ((Nat → Int32) ⊕ (Nat → Int64))) ⊕ (Nat × List Value)
abbrev ax_W : Type := List ax_E
abbrev ax_O : Type := (Option Value ⊕ String) × ax_W
abbrev ax_V : Type := List (Nat × Value)
abbrev ax_G : Type := Launch × State × va_G × (Nat → ClassId) × Nat × Nat × (Nat → Int32)
abbrev ax_G.l (G : ax_G) : Launch := G.1
abbrev ax_G.s0 (G : ax_G) : State := G.2.1
abbrev ax_G.D (G : ax_G) : va_G := G.2.2.1
abbrev ax_G.cA (G : ax_G) : Nat → ClassId := G.2.2.2.1
abbrev ax_G.b (G : ax_G) : Nat := G.2.2.2.2.1
abbrev ax_G.L (G : ax_G) : Nat := G.2.2.2.2.2.1
abbrev ax_G.xs (G : ax_G) : Nat → Int32 := G.2.2.2.2.2.2
/-- the cells that the law and what it calls have made -/
abbrev ax_A (G : ax_G) : Nat → Prop := fun q => G.s0.heap.size ≤ q
def ax_rv (ad : Nat → Nat) : Value → Value
  | .ref k => .ref (ad k)
  | .retAddr a => .ref a
  | v => v
def ax_rq (ad : Nat → Nat) (q : Nat × Value) : Nat × Value := (q.1, ax_rv ad q.2)
def ax_re (G : ax_G) (ad : Nat → Nat) (e : ax_E) : va_E := match e with
  | .inl (k, n, .inl f) => .inl (G.cA k, n, .inl f)
  | .inl (k, n, .inr f) => .inl (G.cA k, n, .inr (.inl f))
  | .inr (ci, fs) => .inr (ci, fs.map (ax_rv ad))
def ax_rw (G : ax_G) (ad : Nat → Nat) (w : ax_W) : va_W := w.mapIdx (fun k e => (ad k, ax_re G ad e))
abbrev ax_cl : List vw_C := [(RX0, TX0, 10), (RX1, TX1, 10), (RX2, TX2, 5), (RX3, TX3, 8), (RX4, TX4, 31)]
abbrev ax_tys (G : ax_G) : List (ClassId × FieldType) := [(G.cA 0, .int), (G.cA 1, .boolean), (G.cA 2, .long)]
def ax_vok (n : Nat) : Value → Prop
  | .ref k => k < n
  | _ => True
def ax_sok (n : Nat) : List Value → Prop
  | [] => True
  | v :: r => ax_vok n v ∧ ax_sok n r
def ax_lok (n : Nat) : ax_V → Prop
  | [] => True
  | q :: r => ax_vok n q.2 ∧ ax_lok n r
def ax_eok (n : Nat) : ax_E → Prop
  | .inr (_, fs) => ax_sok n fs
  | .inl _ => True
def ax_wf (w : ax_W) : Prop := ∀ (k : Nat) (e : ax_E), w[k]? = some e → ax_eok w.length e
/-- a local's value -/
def ax_get : ax_V → Nat → Option Value
  | [], _ => none
  | q :: r, i => bif Nat.beq q.1 i then some q.2 else ax_get r i
/-- a local set to a value of one slot, of two slots -/
def ax_set1 (lv : ax_V) (i : Nat) (v : Value) : ax_V := (i, v) :: lv.filter (fun q => !(q.1 == i) && !(q.1 + 1 == i && q.2.category == 2))
def ax_set2 (lv : ax_V) (i : Nat) (v : Value) : ax_V := (i, v) :: lv.filter (fun q => !(q.1 == i) && (!(q.1 == i + 1) && !(q.1 + 1 == i && q.2.category == 2)))
/-- what is known of the law's start -/
def ax_G0 (G : ax_G) : Prop :=
  (∀ w ∈ lw_tbl, w.before #[Value.ref G.b] G.s0 = true) ∧ va_K G.D ax_cl (ax_tys G) G.s0 ∧ va_X G.b G.L G.xs G.s0 G.s0.heap ∧ G.b < G.s0.heap.size ∧ G.l.stackTraces = false ∧
  vx_Zq Bundle.tN "UNASSIGNED_STACK" Bundle.steD (ax_A G) G.s0 G.s0.heap ∧ vx_Zq Bundle.tN "SUPPRESSED_SENTINEL" Bundle.listD (ax_A G) G.s0 G.s0.heap ∧
  (∀ (own : String) (k : Nat) (tx : String), Cond.stringRef own k tx ∈ lw_tbl → ∃ a, vk_R own k tx a G.s0) ∧
  va_Nc "java/lang/IllegalStateException" "java/lang/IllegalArgumentException" G.s0 ∧ va_Nc "java/lang/IllegalStateException" "java/lang/IndexOutOfBoundsException" G.s0 ∧ va_Nc "java/lang/IllegalArgumentException" "java/lang/IndexOutOfBoundsException" G.s0
/-- what is known of the activation of a method -/
def ax_C (G : ax_G) (M : ax_M) (p : Program) (s : State) (m : MethodId) (meth : Method) (c : Code) : Prop :=
  p.tables.exec = Jvm.exec ∧ c.code = M.2.1 ∧ meth.sig.returnType = M.2.2.2.1 ∧ c.maxLocals = M.2.2.1 ∧ s.vm.findClass M.1.cls = some m.cls ∧ meth.locks = false ∧ meth.name = M.1.name ∧ c.exceptionTable.toList = tableOf M.2.2.2.2 ∧
  G.s0.WarmedH s.vm ∧ G.s0.heap.size ≤ s.heap.size ∧ ∀ q : Nat, q < G.s0.heap.size → s.heap[q]? = G.s0.heap[q]?
/-- the world in the heap; what was there when the method began is where it was -/
def ax_H (G : ax_G) (ad ad0 : Nat → Nat) (n0 : Nat) (w : ax_W) (s : State) (H : Heap) (locs : List Loc) : Prop :=
  n0 ≤ w.length ∧ (∀ j : Nat, j < n0 → ad j = ad0 j) ∧ ax_wf w ∧ va_P G.D ax_cl (ax_rw G ad w) H ∧ va_D (ax_A G) (ax_rw G ad w) ∧ va_S (ax_A G) s.heap H locs
def ax_Qc (G : ax_G) (ad0 : Nat → Nat) (n0 : Nat) (o : ax_O) : Array Value → State → Outcome → State → Prop := fun _ st oc t =>
  ∃ (v : Option Value) (ad : Nat → Nat), o.1 = .inl v ∧ oc = .returned (v.map (ax_rv ad)) ∧ ax_sok o.2.length v.toList ∧ n0 ≤ o.2.length ∧ (∀ j : Nat, j < n0 → ad j = ad0 j) ∧ ax_wf o.2 ∧ va_P G.D ax_cl (ax_rw G ad o.2) t.heap ∧ va_D (ax_A G) (ax_rw G ad o.2) ∧ va_F (ax_A G) st t
def ax_XC (G : ax_G) (ad0 : Nat → Nat) (n0 : Nat) (o : ax_O) : String → State → State → Prop := fun E st t =>
  o.1 = .inr E ∧ ∃ ad : Nat → Nat, n0 ≤ o.2.length ∧ (∀ j : Nat, j < n0 → ad j = ad0 j) ∧ ax_wf o.2 ∧ va_P G.D ax_cl (ax_rw G ad o.2) t.heap ∧ va_D (ax_A G) (ax_rw G ad o.2) ∧ va_F (ax_A G) st t
/-- from pc, with the locals lv, the operands st, the world w: the method comes to the end o, with at most nc new cells of ns slots, d frames deep at most -/
def ax_Ex (G : ax_G) (M : ax_M) (d nc ns pc : Nat) (lv : ax_V) (st : List Value) (w : ax_W) (o : ax_O) : Prop :=
  ax_G0 G → ∀ (p : Program) (e : Env) (R : Room) (s : State) (m : MethodId) (args : Array Value) (below : List Frame) (meth : Method) (c : Code) (H : Heap) (locs : List Loc) (cells slots mc ms n0 : Nat) (ad ad0 : Nat → Nat) (ls : Array Slot),
    ax_C G M p s m meth c → (d ≤ R.frames ∧ 40 * d ≤ R.locals ∧ cells + nc ≤ mc ∧ slots + ns ≤ ms ∧ mc ≤ R.cells ∧ ms ≤ R.slots) → ax_H G ad ad0 n0 w s H locs →
    (lv_has ls M.2.2.1 (lv.map (ax_rq ad)) ∧ ax_lok w.length lv) → ax_sok w.length st →
    W p G.1 e R s m args below meth c H locs cells slots (vx_MQ below (ax_Qc G ad0 n0 o) (ax_XC G ad0 n0 o) args s mc ms (ax_A G)) (F0 m pc ls (st.map (ax_rv ad)))
/-! small things -/
theorem ax_cat (ad : Nat → Nat) (v : Value) : (ax_rv ad v).category = v.category := by cases v <;> rfl
theorem ax_cats (ad : Nat → Nat) (st : List Value) : ((st.map (ax_rv ad)).map fun v => v.category).sum = (st.map fun v => v.category).sum := by
  induction st with
  | nil => rfl
  | cons v r ih => simp only [List.map_cons, List.sum_cons, ax_cat, ih]
theorem ax_fm (ad : Nat → Nat) (f : Nat × Value → Bool) (hf : ∀ q, f (ax_rq ad q) = f q) (lv : ax_V) : (lv.filter f).map (ax_rq ad) = (lv.map (ax_rq ad)).filter f := by
  induction lv with
  | nil => rfl
  | cons q r ih =>
    simp only [List.map_cons, List.filter_cons, hf q]
    cases f q with
    | true => simp [ih]
    | false => simp [ih]
theorem ax_set1_map (ad : Nat → Nat) (lv : ax_V) (i : Nat) (v : Value) : (i, ax_rv ad v) :: (lv.map (ax_rq ad)).filter (fun q => !(q.1 == i) && !(q.1 + 1 == i && q.2.category == 2)) = (ax_set1 lv i v).map (ax_rq ad) := by
  rw [← ax_fm ad _ (fun q => by simp only [ax_rq, ax_cat])]; rfl
theorem ax_set2_map (ad : Nat → Nat) (lv : ax_V) (i : Nat) (v : Value) : (i, ax_rv ad v) :: (lv.map (ax_rq ad)).filter (fun q => !(q.1 == i) && (!(q.1 == i + 1) && !(q.1 + 1 == i && q.2.category == 2))) = (ax_set2 lv i v).map (ax_rq ad) := by
  rw [← ax_fm ad _ (fun q => by simp only [ax_rq, ax_cat])]; rfl
theorem ax_lok_f {n : Nat} (f : Nat × Value → Bool) : ∀ {lv : ax_V}, ax_lok n lv → ax_lok n (lv.filter f)
  | [], _ => trivial
  | q :: r, h => by
    simp only [List.filter_cons]
    cases f q with
    | true => exact ⟨h.1, ax_lok_f f h.2⟩
    | false => exact ax_lok_f f h.2
theorem ax_get_in : ∀ {lv : ax_V} {i : Nat} {v : Value}, ax_get lv i = some v → ∃ k : Nat, lv[k]? = some (i, v)
  | [], i, v, h => by cases h
  | q :: r, i, v, h => by
    unfold ax_get at h
    cases hb : Nat.beq q.1 i with
    | true =>
      rw [hb] at h
      obtain ⟨a, b⟩ := q
      have e1 : a = i := Nat.eq_of_beq_eq_true hb
      have e2 : some b = some v := h
      cases e1; cases e2
      exact ⟨0, rfl⟩
    | false =>
      rw [hb] at h
      obtain ⟨k, hk⟩ := ax_get_in (lv := r) h
      exact ⟨k + 1, hk⟩
theorem ax_lok_at {n : Nat} : ∀ {lv : ax_V} {k i : Nat} {v : Value}, ax_lok n lv → lv[k]? = some (i, v) → ax_vok n v
  | [], k, i, v, _, h => by simp at h
  | q :: r, 0, i, v, hl, h => by
    have e : q = (i, v) := by simpa using h
    rw [e] at hl; exact hl.1
  | q :: r, k + 1, i, v, hl, h => ax_lok_at (lv := r) hl.2 (by simpa using h)
theorem ax_lok_get {n : Nat} {lv : ax_V} {i : Nat} {v : Value} (hl : ax_lok n lv) (h : ax_get lv i = some v) : ax_vok n v := by
  obtain ⟨k, hk⟩ := ax_get_in h
  exact ax_lok_at hl hk
theorem ax_ls {ls : Array Slot} {n : Nat} {ad : Nat → Nat} {lv : ax_V} {i : Nat} {v : Value} (h : lv_has ls n (lv.map (ax_rq ad))) (hg : ax_get lv i = some v) : ls[i]? = some (.val (ax_rv ad v)) := by
  obtain ⟨k, hk⟩ := ax_get_in hg
  exact lv_at h k (by rw [List.getElem?_map, hk]; rfl)
theorem ax_sok_at {n : Nat} : ∀ {fs : List Value} {k : Nat} {v : Value}, ax_sok n fs → fs[k]? = some v → ax_vok n v
  | [], k, v, _, h => by simp at h
  | x :: r, 0, v, hl, h => by
    have e : x = v := by simpa using h
    rw [e] at hl; exact hl.1
  | x :: r, k + 1, v, hl, h => ax_sok_at (fs := r) hl.2 (by simpa using h)
theorem ax_vok_mono {n n' : Nat} (h : n ≤ n') : ∀ {v : Value}, ax_vok n v → ax_vok n' v
  | .ref _, hv => Nat.lt_of_lt_of_le hv h
  | .int _, _ => trivial
  | .long _, _ => trivial
  | .float _, _ => trivial
  | .double _, _ => trivial
  | .null, _ => trivial
  | .retAddr _, _ => trivial
theorem ax_sok_mono {n n' : Nat} (h : n ≤ n') : ∀ {fs : List Value}, ax_sok n fs → ax_sok n' fs
  | [], _ => trivial
  | _ :: _, hv => ⟨ax_vok_mono h hv.1, ax_sok_mono h hv.2⟩
theorem ax_lok_mono {n n' : Nat} (h : n ≤ n') : ∀ {lv : ax_V}, ax_lok n lv → ax_lok n' lv
  | [], _ => trivial
  | _ :: _, hv => ⟨ax_vok_mono h hv.1, ax_lok_mono h hv.2⟩
theorem ax_sok_set {n : Nat} {v : Value} (hv : ax_vok n v) : ∀ {fs : List Value} {k : Nat}, ax_sok n fs → ax_sok n (fs.set k v)
  | [], _, _ => trivial
  | _ :: _, 0, h => ⟨hv, h.2⟩
  | _ :: _, _ + 1, h => ⟨h.1, ax_sok_set hv h.2⟩
theorem ax_sok_app {n : Nat} {b : List Value} (hb : ax_sok n b) : ∀ {a : List Value}, ax_sok n a → ax_sok n (a ++ b)
  | [], _ => hb
  | _ :: _, h => ⟨h.1, ax_sok_app hb h.2⟩
theorem ax_sok_of {n : Nat} : ∀ {a b : List Value}, ax_sok n (a ++ b) → ax_sok n a ∧ ax_sok n b
  | [], _, h => ⟨trivial, h⟩
  | _ :: _, _, h => ⟨⟨h.1, (ax_sok_of h.2).1⟩, (ax_sok_of h.2).2⟩
theorem ax_sok_rev {n : Nat} : ∀ {a : List Value}, ax_sok n a.reverse → ax_sok n a
  | [], _ => trivial
  | v :: r, h => by
    rw [List.reverse_cons] at h
    obtain ⟨h1, h2⟩ := ax_sok_of h
    exact ⟨h2.1, ax_sok_rev h1⟩
theorem ax_rv_same {n : Nat} {ad ad' : Nat → Nat} (h : ∀ j : Nat, j < n → ad' j = ad j) : ∀ {v : Value}, ax_vok n v → ax_rv ad' v = ax_rv ad v
  | .ref k, hv => congrArg Value.ref (h k hv)
  | .int _, _ => rfl
  | .long _, _ => rfl
  | .float _, _ => rfl
  | .double _, _ => rfl
  | .null, _ => rfl
  | .retAddr _, _ => rfl
theorem ax_st_same {n : Nat} {ad ad' : Nat → Nat} (h : ∀ j : Nat, j < n → ad' j = ad j) : ∀ {st : List Value}, ax_sok n st → st.map (ax_rv ad') = st.map (ax_rv ad)
  | [], _ => rfl
  | _ :: _, hs => by rw [List.map_cons, List.map_cons, ax_rv_same h hs.1, ax_st_same h hs.2]
theorem ax_lv_same {n : Nat} {ad ad' : Nat → Nat} (h : ∀ j : Nat, j < n → ad' j = ad j) : ∀ {lv : ax_V}, ax_lok n lv → lv.map (ax_rq ad') = lv.map (ax_rq ad)
  | [], _ => rfl
  | q :: _, hs => by rw [List.map_cons, List.map_cons, ax_lv_same h hs.2]; simp only [ax_rq, ax_rv_same h hs.1]
theorem ax_rw_at (G : ax_G) (ad : Nat → Nat) {w : ax_W} {k : Nat} {e : ax_E} (h : w[k]? = some e) : (ax_rw G ad w)[k]? = some (ad k, ax_re G ad e) := by
  simp [ax_rw, h]
theorem ax_rw_len (G : ax_G) (ad : Nat → Nat) (w : ax_W) : (ax_rw G ad w).length = w.length := by simp [ax_rw]
theorem ax_rw_set (G : ax_G) (ad : Nat → Nat) (w : ax_W) (k : Nat) (e : ax_E) : (ax_rw G ad w).set k (ad k, ax_re G ad e) = ax_rw G ad (w.set k e) := by
  apply List.ext_getElem?
  intro j
  simp only [ax_rw, List.getElem?_set, List.getElem?_mapIdx, List.length_mapIdx]
  by_cases hj : k = j
  · subst hj
    by_cases hl : k < w.length
    · simp [hl]
    · simp [hl]
  · simp [hj]
theorem ax_wf_set {w : ax_W} {k : Nat} {e : ax_E} (h : ax_wf w) (he : ax_eok w.length e) : ax_wf (w.set k e) := by
  intro j x hx
  rw [List.length_set]
  rw [List.getElem?_set] at hx
  by_cases hj : k = j
  · rw [if_pos hj] at hx
    by_cases hl : k < w.length
    · rw [if_pos hl] at hx; cases hx; exact he
    · rw [if_neg hl] at hx; cases hx
  · rw [if_neg hj] at hx
    exact h j x hx
section AXR
variable {G : ax_G} {M : ax_M} {d nc ns pc : Nat} {lv : ax_V} {st : List Value} {w : ax_W} {o : ax_O}
theorem ax_K {p : Program} {s : State} {m : MethodId} {meth : Method} {c : Code} (hG : ax_G0 G) (hC : ax_C G M p s m meth c) : va_K G.D ax_cl (ax_tys G) s := va_K.moved hC.2.2.2.2.2.2.2.2.1.alike hG.2.1
theorem ax_wd {p : Program} {s : State} {m : MethodId} {meth : Method} {c : Code} {args : Array Value} {x : Cond} (hG : ax_G0 G) (hC : ax_C G M p s m meth c) (hx : x ∈ lw_tbl) (hg : goodWord x = true) : x.before args s = true := word_at hC.2.2.2.2.2.2.2.2.1 (good_of_word hg) (hG.1 x hx)
theorem ax_iconst {n : Int} {v : Int32} (q : Nat) (hd : decode M.2.1 pc = .ok (.iconst n, 1)) (hq : pc + 1 = q) (hv : Int32.ofInt n = v) (k : ax_Ex G M d nc ns q lv (.int v :: st) w o) : ax_Ex G M d nc ns pc lv st w o := by
  subst hq
  intro hG p e R s m args below meth c H locs cells slots mc ms n0 ad ad0 ls hC hR hH hl hs
  exact lv_iconst hC.1 hC.2.1 hd hv (k hG p e R s m args below meth c H locs cells slots mc ms n0 ad ad0 ls hC hR hH hl ⟨trivial, hs⟩)
theorem ax_bipush {n : Int} {v : Int32} (q : Nat) (hd : decode M.2.1 pc = .ok (.bipush n, 2)) (hq : pc + 2 = q) (hv : (Int8.ofInt n).toInt32 = v) (k : ax_Ex G M d nc ns q lv (.int v :: st) w o) : ax_Ex G M d nc ns pc lv st w o := by
  subst hq
  intro hG p e R s m args below meth c H locs cells slots mc ms n0 ad ad0 ls hC hR hH hl hs
  exact lv_bipush hC.1 hC.2.1 hd hv (k hG p e R s m args below meth c H locs cells slots mc ms n0 ad ad0 ls hC hR hH hl ⟨trivial, hs⟩)
theorem ax_sipush {n : Int} {v : Int32} (q : Nat) (hd : decode M.2.1 pc = .ok (.sipush n, 3)) (hq : pc + 3 = q) (hv : (Int16.ofInt n).toInt32 = v) (k : ax_Ex G M d nc ns q lv (.int v :: st) w o) : ax_Ex G M d nc ns pc lv st w o := by
  subst hq
  intro hG p e R s m args below meth c H locs cells slots mc ms n0 ad ad0 ls hC hR hH hl hs
  exact lv_sipush hC.1 hC.2.1 hd hv (k hG p e R s m args below meth c H locs cells slots mc ms n0 ad ad0 ls hC hR hH hl ⟨trivial, hs⟩)
theorem ax_lconst {n : Fin 2} {v : Int64} (q : Nat) (hd : decode M.2.1 pc = .ok (.lconst n, 1)) (hq : pc + 1 = q) (hv : Int64.ofNat (n : Nat) = v) (k : ax_Ex G M d nc ns q lv (.long v :: st) w o) : ax_Ex G M d nc ns pc lv st w o := by
  subst hq
  intro hG p e R s m args below meth c H locs cells slots mc ms n0 ad ad0 ls hC hR hH hl hs
  exact lv_lconst hC.1 hC.2.1 hd hv (k hG p e R s m args below meth c H locs cells slots mc ms n0 ad ad0 ls hC hR hH hl ⟨trivial, hs⟩)
theorem ax_ldc {index : Nat} {v : Int32} (q : Nat) (hd : decode M.2.1 pc = .ok (.ldc index, 2)) (hq : pc + 2 = q) (hw : Cond.constant M.1.cls index v ∈ lw_tbl) (k : ax_Ex G M d nc ns q lv (.int v :: st) w o) : ax_Ex G M d nc ns pc lv st w o := by
  subst hq
  intro hG p e R s m args below meth c H locs cells slots mc ms n0 ad ad0 ls hC hR hH hl hs
  exact lv_ldc hC.1 hC.2.1 hC.2.2.2.2.1 (ax_wd hG hC hw rfl) hd (k hG p e R s m args below meth c H locs cells slots mc ms n0 ad ad0 ls hC hR hH hl ⟨trivial, hs⟩)
theorem ax_ldc2 {index : Nat} {v : Int64} (q : Nat) (hd : decode M.2.1 pc = .ok (.ldc2_w index, 3)) (hq : pc + 3 = q) (hw : Cond.constantLong M.1.cls index v ∈ lw_tbl) (k : ax_Ex G M d nc ns q lv (.long v :: st) w o) : ax_Ex G M d nc ns pc lv st w o := by
  subst hq
  intro hG p e R s m args below meth c H locs cells slots mc ms n0 ad ad0 ls hC hR hH hl hs
  exact lv_ldc2 hC.1 hC.2.1 hC.2.2.2.2.1 (ax_wd hG hC hw rfl) hd (k hG p e R s m args below meth c H locs cells slots mc ms n0 ad ad0 ls hC hR hH hl ⟨trivial, hs⟩)
theorem ax_iload_n {x : Int32} {j : Fin 4} (i : Nat) (q : Nat) (hd : decode M.2.1 pc = .ok (.iload_n j, 1)) (hq : pc + 1 = q) (hi : (j : Nat) = i) (hv : ax_get lv i = some (.int x)) (k : ax_Ex G M d nc ns q lv (.int x :: st) w o) : ax_Ex G M d nc ns pc lv st w o := by
  subst hq
  intro hG p e R s m args below meth c H locs cells slots mc ms n0 ad ad0 ls hC hR hH hl hs
  exact lv_iload_n hC.1 hC.2.1 hd hi (ax_ls hl.1 hv) (k hG p e R s m args below meth c H locs cells slots mc ms n0 ad ad0 ls hC hR hH hl ⟨trivial, hs⟩)
theorem ax_iload {x : Int32} {i : Nat} (q : Nat) (hd : decode M.2.1 pc = .ok (.iload i, 2)) (hq : pc + 2 = q) (hv : ax_get lv i = some (.int x)) (k : ax_Ex G M d nc ns q lv (.int x :: st) w o) : ax_Ex G M d nc ns pc lv st w o := by
  subst hq
  intro hG p e R s m args below meth c H locs cells slots mc ms n0 ad ad0 ls hC hR hH hl hs
  exact lv_iload hC.1 hC.2.1 hd (ax_ls hl.1 hv) (k hG p e R s m args below meth c H locs cells slots mc ms n0 ad ad0 ls hC hR hH hl ⟨trivial, hs⟩)
theorem ax_lload_n {x : Int64} {j : Fin 4} (i : Nat) (q : Nat) (hd : decode M.2.1 pc = .ok (.lload_n j, 1)) (hq : pc + 1 = q) (hi : (j : Nat) = i) (hv : ax_get lv i = some (.long x)) (k : ax_Ex G M d nc ns q lv (.long x :: st) w o) : ax_Ex G M d nc ns pc lv st w o := by
  subst hq
  intro hG p e R s m args below meth c H locs cells slots mc ms n0 ad ad0 ls hC hR hH hl hs
  exact lv_lload_n hC.1 hC.2.1 hd hi (ax_ls hl.1 hv) (k hG p e R s m args below meth c H locs cells slots mc ms n0 ad ad0 ls hC hR hH hl ⟨trivial, hs⟩)
theorem ax_lload {x : Int64} {i : Nat} (q : Nat) (hd : decode M.2.1 pc = .ok (.lload i, 2)) (hq : pc + 2 = q) (hv : ax_get lv i = some (.long x)) (k : ax_Ex G M d nc ns q lv (.long x :: st) w o) : ax_Ex G M d nc ns pc lv st w o := by
  subst hq
  intro hG p e R s m args below meth c H locs cells slots mc ms n0 ad ad0 ls hC hR hH hl hs
  exact lv_lload hC.1 hC.2.1 hd (ax_ls hl.1 hv) (k hG p e R s m args below meth c H locs cells slots mc ms n0 ad ad0 ls hC hR hH hl ⟨trivial, hs⟩)
theorem ax_aload_n {x : Nat} {j : Fin 4} (i : Nat) (q : Nat) (hd : decode M.2.1 pc = .ok (.aload_n j, 1)) (hq : pc + 1 = q) (hi : (j : Nat) = i) (hv : ax_get lv i = some (.ref x)) (k : ax_Ex G M d nc ns q lv (.ref x :: st) w o) : ax_Ex G M d nc ns pc lv st w o := by
  subst hq
  intro hG p e R s m args below meth c H locs cells slots mc ms n0 ad ad0 ls hC hR hH hl hs
  exact lv_aload_n hC.1 hC.2.1 hd hi (ax_ls hl.1 hv) (k hG p e R s m args below meth c H locs cells slots mc ms n0 ad ad0 ls hC hR hH hl ⟨ax_lok_get hl.2 hv, hs⟩)
theorem ax_aload {x i : Nat} (q : Nat) (hd : decode M.2.1 pc = .ok (.aload i, 2)) (hq : pc + 2 = q) (hv : ax_get lv i = some (.ref x)) (k : ax_Ex G M d nc ns q lv (.ref x :: st) w o) : ax_Ex G M d nc ns pc lv st w o := by
  subst hq
  intro hG p e R s m args below meth c H locs cells slots mc ms n0 ad ad0 ls hC hR hH hl hs
  exact lv_aload hC.1 hC.2.1 hd (ax_ls hl.1 hv) (k hG p e R s m args below meth c H locs cells slots mc ms n0 ad ad0 ls hC hR hH hl ⟨ax_lok_get hl.2 hv, hs⟩)
theorem ax_aload_nR {x : Nat} {j : Fin 4} (i : Nat) (q : Nat) (hd : decode M.2.1 pc = .ok (.aload_n j, 1)) (hq : pc + 1 = q) (hi : (j : Nat) = i) (hv : ax_get lv i = some (.retAddr x)) (k : ax_Ex G M d nc ns q lv (.retAddr x :: st) w o) : ax_Ex G M d nc ns pc lv st w o := by
  subst hq
  intro hG p e R s m args below meth c H locs cells slots mc ms n0 ad ad0 ls hC hR hH hl hs
  exact lv_aload_n hC.1 hC.2.1 hd hi (ax_ls hl.1 hv) (k hG p e R s m args below meth c H locs cells slots mc ms n0 ad ad0 ls hC hR hH hl ⟨trivial, hs⟩)
theorem ax_istore_n {x : Int32} {j : Fin 4} (i : Nat) (q : Nat) (hd : decode M.2.1 pc = .ok (.istore_n j, 1)) (hq : pc + 1 = q) (hi : (j : Nat) = i) (hn : i < M.2.2.1) (k : ax_Ex G M d nc ns q (ax_set1 lv i (.int x)) st w o) : ax_Ex G M d nc ns pc lv (.int x :: st) w o := by
  subst hq
  intro hG p e R s m args below meth c H locs cells slots mc ms n0 ad ad0 ls hC hR hH hl hs
  exact lv_istore_n hC.1 hC.2.1 hd hi hl.1 hn (ax_set1_map ad lv i (.int x)) (fun ls' hl' => (k hG p e R s m args below meth c H locs cells slots mc ms n0 ad ad0 ls' hC hR hH ⟨hl', trivial, ax_lok_f _ hl.2⟩ hs.2))
theorem ax_istore {x : Int32} {i : Nat} (q : Nat) (hd : decode M.2.1 pc = .ok (.istore i, 2)) (hq : pc + 2 = q) (hn : i < M.2.2.1) (k : ax_Ex G M d nc ns q (ax_set1 lv i (.int x)) st w o) : ax_Ex G M d nc ns pc lv (.int x :: st) w o := by
  subst hq
  intro hG p e R s m args below meth c H locs cells slots mc ms n0 ad ad0 ls hC hR hH hl hs
  exact lv_istore hC.1 hC.2.1 hd hl.1 hn (ax_set1_map ad lv i (.int x)) (fun ls' hl' => (k hG p e R s m args below meth c H locs cells slots mc ms n0 ad ad0 ls' hC hR hH ⟨hl', trivial, ax_lok_f _ hl.2⟩ hs.2))
theorem ax_lstore_n {x : Int64} {j : Fin 4} (i : Nat) (q : Nat) (hd : decode M.2.1 pc = .ok (.lstore_n j, 1)) (hq : pc + 1 = q) (hi : (j : Nat) = i) (hn : i + 1 < M.2.2.1) (k : ax_Ex G M d nc ns q (ax_set2 lv i (.long x)) st w o) : ax_Ex G M d nc ns pc lv (.long x :: st) w o := by
  subst hq
  intro hG p e R s m args below meth c H locs cells slots mc ms n0 ad ad0 ls hC hR hH hl hs
  exact lv_lstore_n hC.1 hC.2.1 hd hi hl.1 hn (ax_set2_map ad lv i (.long x)) (fun ls' hl' => (k hG p e R s m args below meth c H locs cells slots mc ms n0 ad ad0 ls' hC hR hH ⟨hl', trivial, ax_lok_f _ hl.2⟩ hs.2))
theorem ax_lstore {x : Int64} {i : Nat} (q : Nat) (hd : decode M.2.1 pc = .ok (.lstore i, 2)) (hq : pc + 2 = q) (hn : i + 1 < M.2.2.1) (k : ax_Ex G M d nc ns q (ax_set2 lv i (.long x)) st w o) : ax_Ex G M d nc ns pc lv (.long x :: st) w o := by
  subst hq
  intro hG p e R s m args below meth c H locs cells slots mc ms n0 ad ad0 ls hC hR hH hl hs
  exact lv_lstore hC.1 hC.2.1 hd hl.1 hn (ax_set2_map ad lv i (.long x)) (fun ls' hl' => (k hG p e R s m args below meth c H locs cells slots mc ms n0 ad ad0 ls' hC hR hH ⟨hl', trivial, ax_lok_f _ hl.2⟩ hs.2))
theorem ax_astore_n {x : Nat} {j : Fin 4} (i : Nat) (q : Nat) (hd : decode M.2.1 pc = .ok (.astore_n j, 1)) (hq : pc + 1 = q) (hi : (j : Nat) = i) (hn : i < M.2.2.1) (k : ax_Ex G M d nc ns q (ax_set1 lv i (.ref x)) st w o) : ax_Ex G M d nc ns pc lv (.ref x :: st) w o := by
  subst hq
  intro hG p e R s m args below meth c H locs cells slots mc ms n0 ad ad0 ls hC hR hH hl hs
  exact lv_astore_n hC.1 hC.2.1 hd hi hl.1 hn (ax_set1_map ad lv i (.ref x)) (fun ls' hl' => (k hG p e R s m args below meth c H locs cells slots mc ms n0 ad ad0 ls' hC hR hH ⟨hl', hs.1, ax_lok_f _ hl.2⟩ hs.2))
theorem ax_astore_nR {x : Nat} {j : Fin 4} (i : Nat) (q : Nat) (hd : decode M.2.1 pc = .ok (.astore_n j, 1)) (hq : pc + 1 = q) (hi : (j : Nat) = i) (hn : i < M.2.2.1) (k : ax_Ex G M d nc ns q (ax_set1 lv i (.retAddr x)) st w o) : ax_Ex G M d nc ns pc lv (.retAddr x :: st) w o := by
  subst hq
  intro hG p e R s m args below meth c H locs cells slots mc ms n0 ad ad0 ls hC hR hH hl hs
  exact lv_astore_n hC.1 hC.2.1 hd hi hl.1 hn (ax_set1_map ad lv i (.retAddr x)) (fun ls' hl' => (k hG p e R s m args below meth c H locs cells slots mc ms n0 ad ad0 ls' hC hR hH ⟨hl', trivial, ax_lok_f _ hl.2⟩ hs.2))
theorem ax_astore {x : Nat} {i : Nat} (q : Nat) (hd : decode M.2.1 pc = .ok (.astore i, 2)) (hq : pc + 2 = q) (hn : i < M.2.2.1) (k : ax_Ex G M d nc ns q (ax_set1 lv i (.ref x)) st w o) : ax_Ex G M d nc ns pc lv (.ref x :: st) w o := by
  subst hq
  intro hG p e R s m args below meth c H locs cells slots mc ms n0 ad ad0 ls hC hR hH hl hs
  exact lv_astore hC.1 hC.2.1 hd hl.1 hn (ax_set1_map ad lv i (.ref x)) (fun ls' hl' => (k hG p e R s m args below meth c H locs cells slots mc ms n0 ad ad0 ls' hC hR hH ⟨hl', hs.1, ax_lok_f _ hl.2⟩ hs.2))
theorem ax_astoreR {x : Nat} {i : Nat} (q : Nat) (hd : decode M.2.1 pc = .ok (.astore i, 2)) (hq : pc + 2 = q) (hn : i < M.2.2.1) (k : ax_Ex G M d nc ns q (ax_set1 lv i (.retAddr x)) st w o) : ax_Ex G M d nc ns pc lv (.retAddr x :: st) w o := by
  subst hq
  intro hG p e R s m args below meth c H locs cells slots mc ms n0 ad ad0 ls hC hR hH hl hs
  exact lv_astore hC.1 hC.2.1 hd hl.1 hn (ax_set1_map ad lv i (.retAddr x)) (fun ls' hl' => (k hG p e R s m args below meth c H locs cells slots mc ms n0 ad ad0 ls' hC hR hH ⟨hl', trivial, ax_lok_f _ hl.2⟩ hs.2))
theorem ax_iinc {i : Nat} {n : Int} {x v : Int32} (q : Nat) (hd : decode M.2.1 pc = .ok (.iinc i n, 3)) (hq : pc + 3 = q) (hg : ax_get lv i = some (.int x)) (hv : x + Int32.ofInt n = v) (hn : i < M.2.2.1) (k : ax_Ex G M d nc ns q (ax_set1 lv i (.int v)) st w o) : ax_Ex G M d nc ns pc lv st w o := by
  subst hq
  intro hG p e R s m args below meth c H locs cells slots mc ms n0 ad ad0 ls hC hR hH hl hs
  obtain ⟨j, hj⟩ := ax_get_in hg
  exact lv_iinc (k := j) (v := v) hC.1 hC.2.1 hd hl.1 (by rw [List.getElem?_map, hj]; rfl) hv hn (ax_set1_map ad lv i (.int v)) (fun ls' hl' => (k hG p e R s m args below meth c H locs cells slots mc ms n0 ad ad0 ls' hC hR hH ⟨hl', trivial, ax_lok_f _ hl.2⟩ hs))
theorem ax_iadd {x y : Int32} (q : Nat) (hd : decode M.2.1 pc = .ok (.iadd, 1)) (hq : pc + 1 = q) (k : ax_Ex G M d nc ns q lv (.int (x + y) :: st) w o) : ax_Ex G M d nc ns pc lv (.int y :: .int x :: st) w o := by
  subst hq
  intro hG p e R s m args below meth c H locs cells slots mc ms n0 ad ad0 ls hC hR hH hl hs
  exact lv_iadd hC.1 hC.2.1 hd (k hG p e R s m args below meth c H locs cells slots mc ms n0 ad ad0 ls hC hR hH hl ⟨trivial, hs.2.2⟩)
theorem ax_isub {x y : Int32} (q : Nat) (hd : decode M.2.1 pc = .ok (.isub, 1)) (hq : pc + 1 = q) (k : ax_Ex G M d nc ns q lv (.int (x - y) :: st) w o) : ax_Ex G M d nc ns pc lv (.int y :: .int x :: st) w o := by
  subst hq
  intro hG p e R s m args below meth c H locs cells slots mc ms n0 ad ad0 ls hC hR hH hl hs
  exact lv_isub hC.1 hC.2.1 hd (k hG p e R s m args below meth c H locs cells slots mc ms n0 ad ad0 ls hC hR hH hl ⟨trivial, hs.2.2⟩)
theorem ax_imul {x y : Int32} (q : Nat) (hd : decode M.2.1 pc = .ok (.imul, 1)) (hq : pc + 1 = q) (k : ax_Ex G M d nc ns q lv (.int (x * y) :: st) w o) : ax_Ex G M d nc ns pc lv (.int y :: .int x :: st) w o := by
  subst hq
  intro hG p e R s m args below meth c H locs cells slots mc ms n0 ad ad0 ls hC hR hH hl hs
  exact lv_imul hC.1 hC.2.1 hd (k hG p e R s m args below meth c H locs cells slots mc ms n0 ad ad0 ls hC hR hH hl ⟨trivial, hs.2.2⟩)
theorem ax_iand {x y : Int32} (q : Nat) (hd : decode M.2.1 pc = .ok (.iand, 1)) (hq : pc + 1 = q) (k : ax_Ex G M d nc ns q lv (.int (x &&& y) :: st) w o) : ax_Ex G M d nc ns pc lv (.int y :: .int x :: st) w o := by
  subst hq
  intro hG p e R s m args below meth c H locs cells slots mc ms n0 ad ad0 ls hC hR hH hl hs
  exact lv_iand hC.1 hC.2.1 hd (k hG p e R s m args below meth c H locs cells slots mc ms n0 ad ad0 ls hC hR hH hl ⟨trivial, hs.2.2⟩)
theorem ax_ior {x y : Int32} (q : Nat) (hd : decode M.2.1 pc = .ok (.ior, 1)) (hq : pc + 1 = q) (k : ax_Ex G M d nc ns q lv (.int (x ||| y) :: st) w o) : ax_Ex G M d nc ns pc lv (.int y :: .int x :: st) w o := by
  subst hq
  intro hG p e R s m args below meth c H locs cells slots mc ms n0 ad ad0 ls hC hR hH hl hs
  exact lv_ior hC.1 hC.2.1 hd (k hG p e R s m args below meth c H locs cells slots mc ms n0 ad ad0 ls hC hR hH hl ⟨trivial, hs.2.2⟩)
theorem ax_ixor {x y : Int32} (q : Nat) (hd : decode M.2.1 pc = .ok (.ixor, 1)) (hq : pc + 1 = q) (k : ax_Ex G M d nc ns q lv (.int (x ^^^ y) :: st) w o) : ax_Ex G M d nc ns pc lv (.int y :: .int x :: st) w o := by
  subst hq
  intro hG p e R s m args below meth c H locs cells slots mc ms n0 ad ad0 ls hC hR hH hl hs
  exact lv_ixor hC.1 hC.2.1 hd (k hG p e R s m args below meth c H locs cells slots mc ms n0 ad ad0 ls hC hR hH hl ⟨trivial, hs.2.2⟩)
theorem ax_idiv {x y : Int32} (q : Nat) (hd : decode M.2.1 pc = .ok (.idiv, 1)) (hq : pc + 1 = q) (hz : ¬ y = 0) (k : ax_Ex G M d nc ns q lv (.int (x / y) :: st) w o) : ax_Ex G M d nc ns pc lv (.int y :: .int x :: st) w o := by
  subst hq
  intro hG p e R s m args below meth c H locs cells slots mc ms n0 ad ad0 ls hC hR hH hl hs
  exact lv_idiv hC.1 hC.2.1 hd hz (k hG p e R s m args below meth c H locs cells slots mc ms n0 ad ad0 ls hC hR hH hl ⟨trivial, hs.2.2⟩)
theorem ax_ineg {x : Int32} (q : Nat) (hd : decode M.2.1 pc = .ok (.ineg, 1)) (hq : pc + 1 = q) (k : ax_Ex G M d nc ns q lv (.int (-x) :: st) w o) : ax_Ex G M d nc ns pc lv (.int x :: st) w o := by
  subst hq
  intro hG p e R s m args below meth c H locs cells slots mc ms n0 ad ad0 ls hC hR hH hl hs
  exact lv_ineg hC.1 hC.2.1 hd (k hG p e R s m args below meth c H locs cells slots mc ms n0 ad ad0 ls hC hR hH hl ⟨trivial, hs.2⟩)
theorem ax_ishl {x y : Int32} (q : Nat) (hd : decode M.2.1 pc = .ok (.ishl, 1)) (hq : pc + 1 = q) (k : ax_Ex G M d nc ns q lv (.int (x <<< (y &&& 31)) :: st) w o) : ax_Ex G M d nc ns pc lv (.int y :: .int x :: st) w o := by
  subst hq
  intro hG p e R s m args below meth c H locs cells slots mc ms n0 ad ad0 ls hC hR hH hl hs
  exact lv_ishl hC.1 hC.2.1 hd (k hG p e R s m args below meth c H locs cells slots mc ms n0 ad ad0 ls hC hR hH hl ⟨trivial, hs.2.2⟩)
theorem ax_ladd {x y : Int64} (q : Nat) (hd : decode M.2.1 pc = .ok (.ladd, 1)) (hq : pc + 1 = q) (k : ax_Ex G M d nc ns q lv (.long (x + y) :: st) w o) : ax_Ex G M d nc ns pc lv (.long y :: .long x :: st) w o := by
  subst hq
  intro hG p e R s m args below meth c H locs cells slots mc ms n0 ad ad0 ls hC hR hH hl hs
  exact lv_ladd hC.1 hC.2.1 hd (k hG p e R s m args below meth c H locs cells slots mc ms n0 ad ad0 ls hC hR hH hl ⟨trivial, hs.2.2⟩)
theorem ax_lsub {x y : Int64} (q : Nat) (hd : decode M.2.1 pc = .ok (.lsub, 1)) (hq : pc + 1 = q) (k : ax_Ex G M d nc ns q lv (.long (x - y) :: st) w o) : ax_Ex G M d nc ns pc lv (.long y :: .long x :: st) w o := by
  subst hq
  intro hG p e R s m args below meth c H locs cells slots mc ms n0 ad ad0 ls hC hR hH hl hs
  exact lv_lsub hC.1 hC.2.1 hd (k hG p e R s m args below meth c H locs cells slots mc ms n0 ad ad0 ls hC hR hH hl ⟨trivial, hs.2.2⟩)
theorem ax_lmul {x y : Int64} (q : Nat) (hd : decode M.2.1 pc = .ok (.lmul, 1)) (hq : pc + 1 = q) (k : ax_Ex G M d nc ns q lv (.long (x * y) :: st) w o) : ax_Ex G M d nc ns pc lv (.long y :: .long x :: st) w o := by
  subst hq
  intro hG p e R s m args below meth c H locs cells slots mc ms n0 ad ad0 ls hC hR hH hl hs
  exact lv_lmul hC.1 hC.2.1 hd (k hG p e R s m args below meth c H locs cells slots mc ms n0 ad ad0 ls hC hR hH hl ⟨trivial, hs.2.2⟩)
theorem ax_ldiv {x y : Int64} (q : Nat) (hd : decode M.2.1 pc = .ok (.ldiv, 1)) (hq : pc + 1 = q) (hz : ¬ y = 0) (k : ax_Ex G M d nc ns q lv (.long (x / y) :: st) w o) : ax_Ex G M d nc ns pc lv (.long y :: .long x :: st) w o := by
  subst hq
  intro hG p e R s m args below meth c H locs cells slots mc ms n0 ad ad0 ls hC hR hH hl hs
  exact lv_ldiv hC.1 hC.2.1 hd hz (k hG p e R s m args below meth c H locs cells slots mc ms n0 ad ad0 ls hC hR hH hl ⟨trivial, hs.2.2⟩)
theorem ax_lrem {x y : Int64} (q : Nat) (hd : decode M.2.1 pc = .ok (.lrem, 1)) (hq : pc + 1 = q) (hz : ¬ y = 0) (k : ax_Ex G M d nc ns q lv (.long (x - x / y * y) :: st) w o) : ax_Ex G M d nc ns pc lv (.long y :: .long x :: st) w o := by
  subst hq
  intro hG p e R s m args below meth c H locs cells slots mc ms n0 ad ad0 ls hC hR hH hl hs
  exact lv_lrem hC.1 hC.2.1 hd hz (k hG p e R s m args below meth c H locs cells slots mc ms n0 ad ad0 ls hC hR hH hl ⟨trivial, hs.2.2⟩)
theorem ax_i2l {x : Int32} (q : Nat) (hd : decode M.2.1 pc = .ok (.i2l, 1)) (hq : pc + 1 = q) (k : ax_Ex G M d nc ns q lv (.long x.toInt64 :: st) w o) : ax_Ex G M d nc ns pc lv (.int x :: st) w o := by
  subst hq
  intro hG p e R s m args below meth c H locs cells slots mc ms n0 ad ad0 ls hC hR hH hl hs
  exact lv_i2l hC.1 hC.2.1 hd rfl (k hG p e R s m args below meth c H locs cells slots mc ms n0 ad ad0 ls hC hR hH hl ⟨trivial, hs.2⟩)
theorem ax_l2i {x : Int64} (q : Nat) (hd : decode M.2.1 pc = .ok (.l2i, 1)) (hq : pc + 1 = q) (k : ax_Ex G M d nc ns q lv (.int x.toInt32 :: st) w o) : ax_Ex G M d nc ns pc lv (.long x :: st) w o := by
  subst hq
  intro hG p e R s m args below meth c H locs cells slots mc ms n0 ad ad0 ls hC hR hH hl hs
  exact lv_l2i hC.1 hC.2.1 hd rfl (k hG p e R s m args below meth c H locs cells slots mc ms n0 ad ad0 ls hC hR hH hl ⟨trivial, hs.2⟩)
theorem ax_lcmp {x y : Int64} (q : Nat) (hd : decode M.2.1 pc = .ok (.lcmp, 1)) (hq : pc + 1 = q) (k : ax_Ex G M d nc ns q lv (.int (lg_cmp x y) :: st) w o) : ax_Ex G M d nc ns pc lv (.long y :: .long x :: st) w o := by
  subst hq
  intro hG p e R s m args below meth c H locs cells slots mc ms n0 ad ad0 ls hC hR hH hl hs
  exact W.lcmp hC.1 hC.2.1 hd (k hG p e R s m args below meth c H locs cells slots mc ms n0 ad ad0 ls hC hR hH hl ⟨trivial, hs.2.2⟩)
theorem ax_dup {v : Value} (q : Nat) (hd : decode M.2.1 pc = .ok (.dup, 1)) (hq : pc + 1 = q) (hv : v.category = 1) (k : ax_Ex G M d nc ns q lv (v :: v :: st) w o) : ax_Ex G M d nc ns pc lv (v :: st) w o := by
  subst hq
  intro hG p e R s m args below meth c H locs cells slots mc ms n0 ad ad0 ls hC hR hH hl hs
  exact lv_dup hC.1 hC.2.1 hd ((ax_cat ad v).trans hv) (k hG p e R s m args below meth c H locs cells slots mc ms n0 ad ad0 ls hC hR hH hl ⟨hs.1, hs⟩)
theorem ax_pop {v : Value} (q : Nat) (hd : decode M.2.1 pc = .ok (.pop, 1)) (hq : pc + 1 = q) (hv : v.category = 1) (k : ax_Ex G M d nc ns q lv st w o) : ax_Ex G M d nc ns pc lv (v :: st) w o := by
  subst hq
  intro hG p e R s m args below meth c H locs cells slots mc ms n0 ad ad0 ls hC hR hH hl hs
  exact lv_pop hC.1 hC.2.1 hd ((ax_cat ad v).trans hv) (k hG p e R s m args below meth c H locs cells slots mc ms n0 ad ad0 ls hC hR hH hl hs.2)
theorem ax_dup2 {v u : Value} (q : Nat) (hd : decode M.2.1 pc = .ok (.dup2, 1)) (hq : pc + 1 = q) (hv : v.category = 1) (hu : u.category = 1) (k : ax_Ex G M d nc ns q lv (v :: u :: v :: u :: st) w o) : ax_Ex G M d nc ns pc lv (v :: u :: st) w o := by
  subst hq
  intro hG p e R s m args below meth c H locs cells slots mc ms n0 ad ad0 ls hC hR hH hl hs
  exact lv_dup2_11 hC.1 hC.2.1 hd ((ax_cat ad v).trans hv) ((ax_cat ad u).trans hu) (k hG p e R s m args below meth c H locs cells slots mc ms n0 ad ad0 ls hC hR hH hl ⟨hs.1, hs.2.1, hs⟩)
theorem ax_if_eq {x : Int32} {off : Int} (tgt q : Nat) (hd : decode M.2.1 pc = .ok (.ifCond .eq off, 3)) (ht : (pc : Int) + off = (tgt : Int)) (hq : pc + 3 = q) (kt : x = 0 → ax_Ex G M d nc ns tgt lv st w o) (kf : ¬ x = 0 → ax_Ex G M d nc ns q lv st w o) : ax_Ex G M d nc ns pc lv (.int x :: st) w o := by
  subst hq
  intro hG p e R s m args below meth c H locs cells slots mc ms n0 ad ad0 ls hC hR hH hl hs
  exact lv_if_eq hC.1 hC.2.1 hd ht (fun h9 => (kt h9 hG p e R s m args below meth c H locs cells slots mc ms n0 ad ad0 ls hC hR hH hl hs.2)) (fun h9 => (kf h9 hG p e R s m args below meth c H locs cells slots mc ms n0 ad ad0 ls hC hR hH hl hs.2))
theorem ax_icmp_eq {x y : Int32} {off : Int} (tgt q : Nat) (hd : decode M.2.1 pc = .ok (.if_icmp .eq off, 3)) (ht : (pc : Int) + off = (tgt : Int)) (hq : pc + 3 = q) (kt : x = y → ax_Ex G M d nc ns tgt lv st w o) (kf : ¬ x = y → ax_Ex G M d nc ns q lv st w o) : ax_Ex G M d nc ns pc lv (.int y :: .int x :: st) w o := by
  subst hq
  intro hG p e R s m args below meth c H locs cells slots mc ms n0 ad ad0 ls hC hR hH hl hs
  exact lv_icmp_eq hC.1 hC.2.1 hd ht (fun h9 => (kt h9 hG p e R s m args below meth c H locs cells slots mc ms n0 ad ad0 ls hC hR hH hl hs.2.2)) (fun h9 => (kf h9 hG p e R s m args below meth c H locs cells slots mc ms n0 ad ad0 ls hC hR hH hl hs.2.2))
theorem ax_if_ne {x : Int32} {off : Int} (tgt q : Nat) (hd : decode M.2.1 pc = .ok (.ifCond .ne off, 3)) (ht : (pc : Int) + off = (tgt : Int)) (hq : pc + 3 = q) (kt : ¬ x = 0 → ax_Ex G M d nc ns tgt lv st w o) (kf : x = 0 → ax_Ex G M d nc ns q lv st w o) : ax_Ex G M d nc ns pc lv (.int x :: st) w o := by
  subst hq
  intro hG p e R s m args below meth c H locs cells slots mc ms n0 ad ad0 ls hC hR hH hl hs
  exact lv_if_ne hC.1 hC.2.1 hd ht (fun h9 => (kt h9 hG p e R s m args below meth c H locs cells slots mc ms n0 ad ad0 ls hC hR hH hl hs.2)) (fun h9 => (kf h9 hG p e R s m args below meth c H locs cells slots mc ms n0 ad ad0 ls hC hR hH hl hs.2))
theorem ax_icmp_ne {x y : Int32} {off : Int} (tgt q : Nat) (hd : decode M.2.1 pc = .ok (.if_icmp .ne off, 3)) (ht : (pc : Int) + off = (tgt : Int)) (hq : pc + 3 = q) (kt : ¬ x = y → ax_Ex G M d nc ns tgt lv st w o) (kf : x = y → ax_Ex G M d nc ns q lv st w o) : ax_Ex G M d nc ns pc lv (.int y :: .int x :: st) w o := by
  subst hq
  intro hG p e R s m args below meth c H locs cells slots mc ms n0 ad ad0 ls hC hR hH hl hs
  exact lv_icmp_ne hC.1 hC.2.1 hd ht (fun h9 => (kt h9 hG p e R s m args below meth c H locs cells slots mc ms n0 ad ad0 ls hC hR hH hl hs.2.2)) (fun h9 => (kf h9 hG p e R s m args below meth c H locs cells slots mc ms n0 ad ad0 ls hC hR hH hl hs.2.2))
theorem ax_if_lt {x : Int32} {off : Int} (tgt q : Nat) (hd : decode M.2.1 pc = .ok (.ifCond .lt off, 3)) (ht : (pc : Int) + off = (tgt : Int)) (hq : pc + 3 = q) (kt : x < 0 → ax_Ex G M d nc ns tgt lv st w o) (kf : ¬ x < 0 → ax_Ex G M d nc ns q lv st w o) : ax_Ex G M d nc ns pc lv (.int x :: st) w o := by
  subst hq
  intro hG p e R s m args below meth c H locs cells slots mc ms n0 ad ad0 ls hC hR hH hl hs
  exact lv_if_lt hC.1 hC.2.1 hd ht (fun h9 => (kt h9 hG p e R s m args below meth c H locs cells slots mc ms n0 ad ad0 ls hC hR hH hl hs.2)) (fun h9 => (kf h9 hG p e R s m args below meth c H locs cells slots mc ms n0 ad ad0 ls hC hR hH hl hs.2))
theorem ax_icmp_lt {x y : Int32} {off : Int} (tgt q : Nat) (hd : decode M.2.1 pc = .ok (.if_icmp .lt off, 3)) (ht : (pc : Int) + off = (tgt : Int)) (hq : pc + 3 = q) (kt : x < y → ax_Ex G M d nc ns tgt lv st w o) (kf : ¬ x < y → ax_Ex G M d nc ns q lv st w o) : ax_Ex G M d nc ns pc lv (.int y :: .int x :: st) w o := by
  subst hq
  intro hG p e R s m args below meth c H locs cells slots mc ms n0 ad ad0 ls hC hR hH hl hs
  exact lv_icmp_lt hC.1 hC.2.1 hd ht (fun h9 => (kt h9 hG p e R s m args below meth c H locs cells slots mc ms n0 ad ad0 ls hC hR hH hl hs.2.2)) (fun h9 => (kf h9 hG p e R s m args below meth c H locs cells slots mc ms n0 ad ad0 ls hC hR hH hl hs.2.2))
theorem ax_if_ge {x : Int32} {off : Int} (tgt q : Nat) (hd : decode M.2.1 pc = .ok (.ifCond .ge off, 3)) (ht : (pc : Int) + off = (tgt : Int)) (hq : pc + 3 = q) (kt : 0 ≤ x → ax_Ex G M d nc ns tgt lv st w o) (kf : ¬ 0 ≤ x → ax_Ex G M d nc ns q lv st w o) : ax_Ex G M d nc ns pc lv (.int x :: st) w o := by
  subst hq
  intro hG p e R s m args below meth c H locs cells slots mc ms n0 ad ad0 ls hC hR hH hl hs
  exact lv_if_ge hC.1 hC.2.1 hd ht (fun h9 => (kt h9 hG p e R s m args below meth c H locs cells slots mc ms n0 ad ad0 ls hC hR hH hl hs.2)) (fun h9 => (kf h9 hG p e R s m args below meth c H locs cells slots mc ms n0 ad ad0 ls hC hR hH hl hs.2))
theorem ax_icmp_ge {x y : Int32} {off : Int} (tgt q : Nat) (hd : decode M.2.1 pc = .ok (.if_icmp .ge off, 3)) (ht : (pc : Int) + off = (tgt : Int)) (hq : pc + 3 = q) (kt : y ≤ x → ax_Ex G M d nc ns tgt lv st w o) (kf : ¬ y ≤ x → ax_Ex G M d nc ns q lv st w o) : ax_Ex G M d nc ns pc lv (.int y :: .int x :: st) w o := by
  subst hq
  intro hG p e R s m args below meth c H locs cells slots mc ms n0 ad ad0 ls hC hR hH hl hs
  exact lv_icmp_ge hC.1 hC.2.1 hd ht (fun h9 => (kt h9 hG p e R s m args below meth c H locs cells slots mc ms n0 ad ad0 ls hC hR hH hl hs.2.2)) (fun h9 => (kf h9 hG p e R s m args below meth c H locs cells slots mc ms n0 ad ad0 ls hC hR hH hl hs.2.2))
theorem ax_if_gt {x : Int32} {off : Int} (tgt q : Nat) (hd : decode M.2.1 pc = .ok (.ifCond .gt off, 3)) (ht : (pc : Int) + off = (tgt : Int)) (hq : pc + 3 = q) (kt : 0 < x → ax_Ex G M d nc ns tgt lv st w o) (kf : ¬ 0 < x → ax_Ex G M d nc ns q lv st w o) : ax_Ex G M d nc ns pc lv (.int x :: st) w o := by
  subst hq
  intro hG p e R s m args below meth c H locs cells slots mc ms n0 ad ad0 ls hC hR hH hl hs
  exact lv_if_gt hC.1 hC.2.1 hd ht (fun h9 => (kt h9 hG p e R s m args below meth c H locs cells slots mc ms n0 ad ad0 ls hC hR hH hl hs.2)) (fun h9 => (kf h9 hG p e R s m args below meth c H locs cells slots mc ms n0 ad ad0 ls hC hR hH hl hs.2))
theorem ax_icmp_gt {x y : Int32} {off : Int} (tgt q : Nat) (hd : decode M.2.1 pc = .ok (.if_icmp .gt off, 3)) (ht : (pc : Int) + off = (tgt : Int)) (hq : pc + 3 = q) (kt : y < x → ax_Ex G M d nc ns tgt lv st w o) (kf : ¬ y < x → ax_Ex G M d nc ns q lv st w o) : ax_Ex G M d nc ns pc lv (.int y :: .int x :: st) w o := by
  subst hq
  intro hG p e R s m args below meth c H locs cells slots mc ms n0 ad ad0 ls hC hR hH hl hs
  exact lv_icmp_gt hC.1 hC.2.1 hd ht (fun h9 => (kt h9 hG p e R s m args below meth c H locs cells slots mc ms n0 ad ad0 ls hC hR hH hl hs.2.2)) (fun h9 => (kf h9 hG p e R s m args below meth c H locs cells slots mc ms n0 ad ad0 ls hC hR hH hl hs.2.2))
theorem ax_if_le {x : Int32} {off : Int} (tgt q : Nat) (hd : decode M.2.1 pc = .ok (.ifCond .le off, 3)) (ht : (pc : Int) + off = (tgt : Int)) (hq : pc + 3 = q) (kt : x ≤ 0 → ax_Ex G M d nc ns tgt lv st w o) (kf : ¬ x ≤ 0 → ax_Ex G M d nc ns q lv st w o) : ax_Ex G M d nc ns pc lv (.int x :: st) w o := by
  subst hq
  intro hG p e R s m args below meth c H locs cells slots mc ms n0 ad ad0 ls hC hR hH hl hs
  exact lv_if_le hC.1 hC.2.1 hd ht (fun h9 => (kt h9 hG p e R s m args below meth c H locs cells slots mc ms n0 ad ad0 ls hC hR hH hl hs.2)) (fun h9 => (kf h9 hG p e R s m args below meth c H locs cells slots mc ms n0 ad ad0 ls hC hR hH hl hs.2))
theorem ax_icmp_le {x y : Int32} {off : Int} (tgt q : Nat) (hd : decode M.2.1 pc = .ok (.if_icmp .le off, 3)) (ht : (pc : Int) + off = (tgt : Int)) (hq : pc + 3 = q) (kt : x ≤ y → ax_Ex G M d nc ns tgt lv st w o) (kf : ¬ x ≤ y → ax_Ex G M d nc ns q lv st w o) : ax_Ex G M d nc ns pc lv (.int y :: .int x :: st) w o := by
  subst hq
  intro hG p e R s m args below meth c H locs cells slots mc ms n0 ad ad0 ls hC hR hH hl hs
  exact lv_icmp_le hC.1 hC.2.1 hd ht (fun h9 => (kt h9 hG p e R s m args below meth c H locs cells slots mc ms n0 ad ad0 ls hC hR hH hl hs.2.2)) (fun h9 => (kf h9 hG p e R s m args below meth c H locs cells slots mc ms n0 ad ad0 ls hC hR hH hl hs.2.2))
theorem ax_goto {off : Int} (tgt : Nat) (hd : decode M.2.1 pc = .ok (.goto off, 3)) (ht : (pc : Int) + off = (tgt : Int)) (k : ax_Ex G M d nc ns tgt lv st w o) : ax_Ex G M d nc ns pc lv st w o := by
  intro hG p e R s m args below meth c H locs cells slots mc ms n0 ad ad0 ls hC hR hH hl hs
  exact lv_goto hC.1 hC.2.1 hd ht (k hG p e R s m args below meth c H locs cells slots mc ms n0 ad ad0 ls hC hR hH hl hs)
theorem ax_lookup {dflt : Int} {ps : Array (Int × Int)} {len : Nat} {x : Int32} {off : Int} (tgt : Nat) (hd : decode M.2.1 pc = .ok (.lookupswitch dflt ps, len)) (hp : (ps.toList.zip (ps.toList.drop 1)).all (fun (a, next) => a.1 < next.1) = true) (ho : Op.lookupswitch.offset ps.toList dflt x.toInt = off) (ht : (pc : Int) + off = (tgt : Int)) (k : ax_Ex G M d nc ns tgt lv st w o) : ax_Ex G M d nc ns pc lv (.int x :: st) w o := by
  intro hG p e R s m args below meth c H locs cells slots mc ms n0 ad ad0 ls hC hR hH hl hs
  exact lv_lookup hC.1 hC.2.1 hd hp ho ht (k hG p e R s m args below meth c H locs cells slots mc ms n0 ad ad0 ls hC hR hH hl hs.2)
theorem ax_tableOut {dflt lo hi : Int} {offs : Array Int} {len : Nat} {x : Int32} (tgt : Nat) (hd : decode M.2.1 pc = .ok (.tableswitch dflt lo hi offs, len)) (h : x.toInt < lo ∨ hi < x.toInt) (ht : (pc : Int) + dflt = (tgt : Int)) (k : ax_Ex G M d nc ns tgt lv st w o) : ax_Ex G M d nc ns pc lv (.int x :: st) w o := by
  intro hG p e R s m args below meth c H locs cells slots mc ms n0 ad ad0 ls hC hR hH hl hs
  exact lv_tableOut hC.1 hC.2.1 hd h ht (k hG p e R s m args below meth c H locs cells slots mc ms n0 ad ad0 ls hC hR hH hl hs.2)
theorem ax_tableIn {dflt lo hi : Int} {offs : Array Int} {len : Nat} {x : Int32} {off : Int} (tgt : Nat) (hd : decode M.2.1 pc = .ok (.tableswitch dflt lo hi offs, len)) (h1 : ¬ x.toInt < lo) (h2 : ¬ hi < x.toInt) (ho : offs[(x.toInt - lo).toNat]? = some off) (ht : (pc : Int) + off = (tgt : Int)) (k : ax_Ex G M d nc ns tgt lv st w o) : ax_Ex G M d nc ns pc lv (.int x :: st) w o := by
  intro hG p e R s m args below meth c H locs cells slots mc ms n0 ad ad0 ls hC hR hH hl hs
  exact lv_tableIn hC.1 hC.2.1 hd h1 h2 ho ht (k hG p e R s m args below meth c H locs cells slots mc ms n0 ad ad0 ls hC hR hH hl hs.2)
theorem ax_iald {a n : Nat} {f : Nat → Int32} {i : Int32} (q : Nat) (hd : decode M.2.1 pc = .ok (.iaload, 1)) (hq : pc + 1 = q) (he : w[a]? = some (.inl (0, n, .inl f))) (hi : vp_in i n) (k : ax_Ex G M d nc ns q lv (.int (f i.toNatClampNeg) :: st) w o) : ax_Ex G M d nc ns pc lv (.int i :: .ref a :: st) w o := by
  subst hq
  intro hG p e R s m args below meth c H locs cells slots mc ms n0 ad ad0 ls hC hR hH hl hs
  exact va_iald (D := G.D) (cl := ax_cl) (tys := ax_tys G) hC.1 hC.2.1 (ax_K hG hC) hH.2.2.2.1 a 0 (ax_rw_at G ad he) rfl hi hd (k hG p e R s m args below meth c H locs cells slots mc ms n0 ad ad0 ls hC hR hH hl ⟨trivial, hs.2.2⟩)
theorem ax_zald {a n : Nat} {f : Nat → Int32} {i : Int32} (q : Nat) (hd : decode M.2.1 pc = .ok (.baload, 1)) (hq : pc + 1 = q) (he : w[a]? = some (.inl (1, n, .inl f))) (hi : vp_in i n) (k : ax_Ex G M d nc ns q lv (.int (f i.toNatClampNeg) :: st) w o) : ax_Ex G M d nc ns pc lv (.int i :: .ref a :: st) w o := by
  subst hq
  intro hG p e R s m args below meth c H locs cells slots mc ms n0 ad ad0 ls hC hR hH hl hs
  exact va_zald (D := G.D) (cl := ax_cl) (tys := ax_tys G) hC.1 hC.2.1 (ax_K hG hC) hH.2.2.2.1 a 1 (ax_rw_at G ad he) rfl hi hd (k hG p e R s m args below meth c H locs cells slots mc ms n0 ad ad0 ls hC hR hH hl ⟨trivial, hs.2.2⟩)
theorem ax_lald {a n : Nat} {f : Nat → Int64} {i : Int32} (q : Nat) (hd : decode M.2.1 pc = .ok (.laload, 1)) (hq : pc + 1 = q) (he : w[a]? = some (.inl (2, n, .inr f))) (hi : vp_in i n) (k : ax_Ex G M d nc ns q lv (.long (f i.toNatClampNeg) :: st) w o) : ax_Ex G M d nc ns pc lv (.int i :: .ref a :: st) w o := by
  subst hq
  intro hG p e R s m args below meth c H locs cells slots mc ms n0 ad ad0 ls hC hR hH hl hs
  exact va_lald (D := G.D) (cl := ax_cl) (tys := ax_tys G) hC.1 hC.2.1 (ax_K hG hC) hH.2.2.2.1 a 2 (ax_rw_at G ad he) rfl hi hd (k hG p e R s m args below meth c H locs cells slots mc ms n0 ad ad0 ls hC hR hH hl ⟨trivial, hs.2.2⟩)
theorem ax_iast {a n : Nat} {f : Nat → Int32} {i : Int32} {x : Int32} (q : Nat) (hd : decode M.2.1 pc = .ok (.iastore, 1)) (hq : pc + 1 = q) (he : w[a]? = some (.inl (0, n, .inl f))) (hi : vp_in i n) (k : ax_Ex G M d nc ns q lv st (w.set a (.inl (0, n, .inl (upd f i.toNatClampNeg x)))) o) : ax_Ex G M d nc ns pc lv (.int x :: .int i :: .ref a :: st) w o := by
  subst hq
  intro hG p e R s m args below meth c H locs cells slots mc ms n0 ad ad0 ls hC hR hH hl hs
  refine va_iast (D := G.D) (cl := ax_cl) (tys := ax_tys G) (A := ax_A G) (H0 := s.heap) hC.1 hC.2.1 (ax_K hG hC) hH.2.2.2.1 hH.2.2.2.2.1 hH.2.2.2.2.2 a 0 (ax_rw_at G ad he) rfl hi hd (fun H' locs' hP' hD' hS' => ?_)
  have hh : ax_H G ad ad0 n0 (w.set a (.inl (0, n, .inl (upd f i.toNatClampNeg x)))) s H' locs' := ⟨by rw [List.length_set]; exact hH.1, hH.2.1, ax_wf_set hH.2.2.1 trivial, by rw [← ax_rw_set]; exact hP', by rw [← ax_rw_set]; exact hD', hS'⟩
  exact (k hG p e R s m args below meth c H' locs' cells slots mc ms n0 ad ad0 ls hC hR hh ⟨hl.1, by rw [List.length_set]; exact hl.2⟩ (by rw [List.length_set]; exact hs.2.2.2))
theorem ax_zast {a n : Nat} {f : Nat → Int32} {i : Int32} {x : Int32} (q : Nat) (hd : decode M.2.1 pc = .ok (.bastore, 1)) (hq : pc + 1 = q) (he : w[a]? = some (.inl (1, n, .inl f))) (hi : vp_in i n) (k : ax_Ex G M d nc ns q lv st (w.set a (.inl (1, n, .inl (upd f i.toNatClampNeg (vp_nar .boolean x))))) o) : ax_Ex G M d nc ns pc lv (.int x :: .int i :: .ref a :: st) w o := by
  subst hq
  intro hG p e R s m args below meth c H locs cells slots mc ms n0 ad ad0 ls hC hR hH hl hs
  refine va_zast (D := G.D) (cl := ax_cl) (tys := ax_tys G) (A := ax_A G) (H0 := s.heap) hC.1 hC.2.1 (ax_K hG hC) hH.2.2.2.1 hH.2.2.2.2.1 hH.2.2.2.2.2 a 1 (ax_rw_at G ad he) rfl hi hd (fun H' locs' hP' hD' hS' => ?_)
  have hh : ax_H G ad ad0 n0 (w.set a (.inl (1, n, .inl (upd f i.toNatClampNeg (vp_nar .boolean x))))) s H' locs' := ⟨by rw [List.length_set]; exact hH.1, hH.2.1, ax_wf_set hH.2.2.1 trivial, by rw [← ax_rw_set]; exact hP', by rw [← ax_rw_set]; exact hD', hS'⟩
  exact (k hG p e R s m args below meth c H' locs' cells slots mc ms n0 ad ad0 ls hC hR hh ⟨hl.1, by rw [List.length_set]; exact hl.2⟩ (by rw [List.length_set]; exact hs.2.2.2))
theorem ax_last {a n : Nat} {f : Nat → Int64} {i : Int32} {x : Int64} (q : Nat) (hd : decode M.2.1 pc = .ok (.lastore, 1)) (hq : pc + 1 = q) (he : w[a]? = some (.inl (2, n, .inr f))) (hi : vp_in i n) (k : ax_Ex G M d nc ns q lv st (w.set a (.inl (2, n, .inr (vp_updL f i.toNatClampNeg x)))) o) : ax_Ex G M d nc ns pc lv (.long x :: .int i :: .ref a :: st) w o := by
  subst hq
  intro hG p e R s m args below meth c H locs cells slots mc ms n0 ad ad0 ls hC hR hH hl hs
  refine va_last (D := G.D) (cl := ax_cl) (tys := ax_tys G) (A := ax_A G) (H0 := s.heap) hC.1 hC.2.1 (ax_K hG hC) hH.2.2.2.1 hH.2.2.2.2.1 hH.2.2.2.2.2 a 2 (ax_rw_at G ad he) rfl hi hd (fun H' locs' hP' hD' hS' => ?_)
  have hh : ax_H G ad ad0 n0 (w.set a (.inl (2, n, .inr (vp_updL f i.toNatClampNeg x)))) s H' locs' := ⟨by rw [List.length_set]; exact hH.1, hH.2.1, ax_wf_set hH.2.2.1 trivial, by rw [← ax_rw_set]; exact hP', by rw [← ax_rw_set]; exact hD', hS'⟩
  exact (k hG p e R s m args below meth c H' locs' cells slots mc ms n0 ad ad0 ls hC hR hh ⟨hl.1, by rw [List.length_set]; exact hl.2⟩ (by rw [List.length_set]; exact hs.2.2.2))
end AXR
