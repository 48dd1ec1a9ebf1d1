/-! AX, third part: contracts of methods (ax_Met), calls, throws and catching -/
def ax_cw (M : ax_M) : Cond := match M.2.2.2.2 with
  | [] => .code M.1 M.2.1 M.2.2.1 M.2.2.2.1
  | h :: t => .codeWith M.1 M.2.1 M.2.2.1 M.2.2.2.1 (h :: t)
abbrev ax_rm (d nc ns : Nat) : Room := { frames := d, cells := nc, slots := ns, locals := 40 * d }
def ax_Pc (G : ax_G) (ad : Nat → Nat) (as : List Value) (w : ax_W) : Array Value → State → Prop := fun v U =>
  v = (as.map (ax_rv ad)).toArray ∧ G.s0.WarmedH U.vm ∧ G.s0.heap.size ≤ U.heap.size ∧ (∀ q : Nat, q < G.s0.heap.size → U.heap[q]? = G.s0.heap[q]?) ∧ ax_wf w ∧ ax_sok w.length as ∧ va_P G.D ax_cl (ax_rw G ad w) U.heap ∧ va_D (ax_A G) (ax_rw G ad w)
/-- the method M, called with as in the world w, ends with o: at most nc new cells of ns slots, d frames deep -/
def ax_Met (G : ax_G) (M : ax_M) (d nc ns : Nat) (as : List Value) (w : ax_W) (o : ax_O) : Prop :=
  ax_G0 G → ∀ ad : Nat → Nat, vx_Met G.1 M.1 [ax_cw M] (ax_rm d nc ns) (ax_Pc G ad as w) (ax_Qc G ad w.length o) (ax_XC G ad w.length o) nc ns (ax_A G)
theorem ax_args (ad : Nat → Nat) : ∀ (as : List Value) (i : Nat), lv_args i (as.map (ax_rv ad)) = (lv_args i as).map (ax_rq ad)
  | [], _ => rfl
  | v :: r, i => by
    simp only [List.map_cons, lv_args, ax_cat, ax_args ad r]
    rfl
theorem ax_args_ok {n : Nat} : ∀ {as : List Value} (i : Nat), ax_sok n as → ax_lok n (lv_args i as)
  | [], _, _ => trivial
  | _ :: _, _, h => ⟨h.1, ax_args_ok _ h.2⟩
theorem ax_sl (ad : Nat → Nat) (as : List Value) : (lg_sl (as.map (ax_rv ad))).length = (lg_sl as).length := by
  induction as with
  | nil => rfl
  | cons v r ih =>
    simp only [lg_sl, List.map_cons, List.flatMap_cons, List.length_append, ax_cat] at ih ⊢
    rw [ih]
    by_cases h : v.category = 2
    · simp [h]
    · simp [h]
section AXT
variable {G : ax_G} {M M' : ax_M} {d d' nc ns nc1 ns1 nc2 ns2 pc : Nat} {lv : ax_V} {st : List Value} {w w1 : ax_W} {o : ax_O} {as : List Value}
theorem ax_of (hh : M.2.2.2.2 = []) (hy : plainName M.1.cls = true) (hlen : (lg_sl as).length ≤ M.2.2.1) (k : ax_Ex G M d nc ns 0 (lv_args 0 as) [] w o) : ax_Met G M d nc ns as w o := by
  intro hG ad
  refine vx_ofW (cc := M.2.1) (maxL := M.2.2.1) (ret := M.2.2.2.1) (ws' := []) hy (by simp only [ax_cw, hh]) ?_
  intro p e s m args below meth c s₁ B hml hne hv
  obtain ⟨rfl, h1, h2, h3, h4, h5, h6, h7⟩ := hv
  have hl := lv_entry (as.map (ax_rv ad)) (n := M.2.2.1) (by rw [ax_sl]; exact hlen)
  rw [lg_entry_eq]
  generalize (lg_sl (as.map (ax_rv ad)) ++ List.replicate (M.2.2.1 - (lg_sl (as.map (ax_rv ad))).length) Slot.unset).toArray = ls at hl ⊢
  rw [ax_args] at hl
  have het : c.exceptionTable.toList = tableOf M.2.2.2.2 := by
    rw [hh]
    exact List.eq_nil_iff_forall_not_mem.mpr fun x hx => hne x hx
  exact k hG p e (ax_rm d nc ns) s m _ below meth c s.heap [] 0 0 nc ns w.length ad ad ls ⟨B.exec, B.bytes, B.returns, hml, findClass_of_methodNamed B.named, B.notSynchronized, (name_of_methodNamed B.named B.method).1, het, h1, h2, h3⟩
    ⟨Nat.le_refl _, Nat.le_refl _, by omega, by omega, Nat.le_refl _, Nat.le_refl _⟩ ⟨Nat.le_refl _, fun _ _ => rfl, h4, h6, h7, va_S.rf⟩ ⟨hl, ax_args_ok 0 h5⟩ trivial
theorem ax_ofH {h9 : Nat × Nat × Nat × Nat} {t9 : List (Nat × Nat × Nat × Nat)} (hh : M.2.2.2.2 = h9 :: t9) (hy : plainName M.1.cls = true) (hlen : (lg_sl as).length ≤ M.2.2.1) (k : ax_Ex G M d nc ns 0 (lv_args 0 as) [] w o) : ax_Met G M d nc ns as w o := by
  intro hG ad
  have hcw : ax_cw M = .codeWith M.1 M.2.1 M.2.2.1 M.2.2.2.1 M.2.2.2.2 := by simp only [ax_cw, hh]
  refine vx_ofWH (cc := M.2.1) (maxL := M.2.2.1) (ret := M.2.2.2.1) (hh := M.2.2.2.2) (ws' := []) hy (by rw [hcw]) ?_
  intro p e s m args below meth c s₁ B hml hv
  obtain ⟨rfl, h1, h2, h3, h4, h5, h6, h7⟩ := hv
  have hl := lv_entry (as.map (ax_rv ad)) (n := M.2.2.1) (by rw [ax_sl]; exact hlen)
  rw [lg_entry_eq]
  generalize (lg_sl (as.map (ax_rv ad)) ++ List.replicate (M.2.2.1 - (lg_sl (as.map (ax_rv ad))).length) Slot.unset).toArray = ls at hl ⊢
  rw [ax_args] at hl
  have hwd := atoms_spec (ws := [ax_cw M]) B.pre (ax_cw M) List.mem_cons_self
  rw [hcw] at hwd
  have het : c.exceptionTable.toList = tableOf M.2.2.2.2 := vx_table (x := M.1) B hwd
  exact k hG p e (ax_rm d nc ns) s m _ below meth c s.heap [] 0 0 nc ns w.length ad ad ls ⟨B.exec, B.bytes, B.returns, hml, findClass_of_methodNamed B.named, B.notSynchronized, (name_of_methodNamed B.named B.method).1, het, h1, h2, h3⟩
    ⟨Nat.le_refl _, Nat.le_refl _, by omega, by omega, Nat.le_refl _, Nat.le_refl _⟩ ⟨Nat.le_refl _, fun _ _ => rfl, h4, h6, h7, va_S.rf⟩ ⟨hl, ax_args_ok 0 h5⟩ trivial
/-- a method that returns: its contract in the kit's form -/
theorem ax_ret {v : Option Value} (hM : ax_Met G M d nc ns as w (.inl v, w1)) (hG : ax_G0 G) (ad : Nat → Nat) : Met G.1 M.1 [ax_cw M] (ax_rm d nc ns) (ax_Pc G ad as w) (ax_Qc G ad w.length (.inl v, w1)) nc ns (ax_A G) := by
  intro p e a1 a2 a3 s m args below a4 a5 a6 a7
  obtain ⟨n, oc, h1, h2, h3, h4⟩ := hM hG ad p e a1 a2 a3 s m args below a4 a5 a6 a7
  refine ⟨n, oc, h1, h2, h3, ?_⟩
  rcases h4 with h4 | ⟨q, -, E, ce, L, ⟨hx, -⟩, -⟩
  · exact h4
  · cases hx
theorem ax_blind {ad : Nat → Nat} : FrameBlind (ax_Pc G ad as w) := fun _ _ _ _ h => h
/-- behind a call that returned -/
theorem ax_cont {v : Option Value} {a : Array Value} {p : Program} {e : Env} {R : Room} {s : State} {m : MethodId} {args : Array Value} {below : List Frame} {meth : Method} {c : Code} {H : Heap} {locs : List Loc} {cells slots mc ms n0 : Nat} {ad ad0 : Nat → Nat} {ls : Array Slot} {st0 : List Value}
    (hr : va_Run p G.1 e R s m args below meth c H locs cells slots nc1 ns1 (F0 m pc ls st0) (st.map (ax_rv ad)) (ax_Qc G ad w.length (.inl v, w1) a) (ax_A G)) (k : ax_Ex G M d nc2 ns2 (pc + 3) lv (v.toList ++ st) w1 o)
    (hG : ax_G0 G) (hC : ax_C G M p s m meth c) (hR : d ≤ R.frames ∧ 40 * d ≤ R.locals ∧ cells + (nc1 + nc2) ≤ mc ∧ slots + (ns1 + ns2) ≤ ms ∧ mc ≤ R.cells ∧ ms ≤ R.slots) (hH : ax_H G ad ad0 n0 w s H locs) (hl : lv_has ls M.2.2.1 (lv.map (ax_rq ad)) ∧ ax_lok w.length lv) (hs : ax_sok w.length st) :
    W p G.1 e R s m args below meth c H locs cells slots (vx_MQ below (ax_Qc G ad0 n0 o) (ax_XC G ad0 n0 o) args s mc ms (ax_A G)) (F0 m pc ls st0) := by
  intro T hT X
  obtain ⟨v', st₀, t, T', L, h0, X', hL, e1, e2, ⟨v9, ad', ho, hv', hok, hn, hsame, hwf, hP1, hD1, hz, hk⟩, st1⟩ := hr T hT X
  have ev : v = v9 := Sum.inl.inj ho
  subst ev
  have ev' : v' = v.map (ax_rv ad') := Outcome.returned.inj hv'
  subst ev'
  dsimp only at hok hn hwf hP1 hD1
  rw [h0] at hz hk
  have hS := hH.2.2.2.2.2
  have hS1 : va_S (ax_A G) s.heap T'.heap (locs ++ L) := ⟨Nat.le_trans hS.1 (by rw [e1]; exact hz), fun q h1 h2 => by rw [e1, hk q (Nat.lt_of_lt_of_le h1 hS.1) h2]; exact hS.2.1 q h1 h2, fun q hq => by
      rcases List.mem_append.mp hq with h | h
      · exact hS.2.2 q h
      · exact hL q h⟩
  have hH1 : ax_H G ad' ad0 n0 w1 s T'.heap (locs ++ L) := ⟨Nat.le_trans hH.1 hn, fun j hj => (hsame j (Nat.lt_of_lt_of_le hj hH.1)).trans (hH.2.1 j hj), hwf, by rw [e1]; exact hP1, hD1, hS1⟩
  obtain ⟨t2, a1, b1⟩ := k hG p e R s m args below meth c T'.heap (locs ++ L) (cells + nc1) (slots + ns1) mc ms n0 ad' ad0 ls hC (by omega) hH1 ⟨by rw [ax_lv_same hsame hl.2]; exact hl.1, ax_lok_mono hn hl.2⟩ (ax_sok_app (ax_sok_mono hn hs) hok) T' rfl X'
  refine ⟨t2, st1 t2 ?_, b1⟩
  have e9 : (v.toList ++ st).map (ax_rv ad') = (v.map (ax_rv ad')).toList ++ st.map (ax_rv ad) := by
    rw [List.map_append, ax_st_same hsame hs]
    cases v <;> rfl
  rw [e9] at a1
  exact a1
/-- what a static call needs of the tables -/
def ax_lks (own : String) (index : Nat) (M' : ax_M) (n : Nat) : Prop := Cond.methodLink own index M'.1 ∈ lw_tbl ∧ Cond.static M'.1 ∈ lw_tbl ∧ Cond.initialized M'.1.cls ∈ lw_tbl ∧ ax_cw M' ∈ lw_tbl ∧ (M'.1.cls ≠ "java/lang/invoke/MethodHandle" ∧ M'.1.cls ≠ "java/lang/invoke/VarHandle") ∧ (parseMethodDescriptor M'.1.desc).map (fun d => d.parameters.length) = some n ∧ M'.2.2.1 ≤ 21
theorem ax_cw_ok (M : ax_M) : goodWord (ax_cw M) = true := by
  unfold ax_cw
  split <;> rfl
theorem ax_len {n : Nat} {y : MethodName} (h : (parseMethodDescriptor y.desc).map (fun d => d.parameters.length) = some n) : ∀ sig, parseMethodDescriptor y.desc = some sig → n = sig.parameters.length := fun sig h9 => by
  rw [h9] at h
  exact (Option.some.inj h).symm
theorem ax_pcs {p : Program} {s : State} {m : MethodId} {meth : Method} {c : Code} {H : Heap} {locs : List Loc} {n0 : Nat} {ad ad0 : Nat → Nat} (hC : ax_C G M p s m meth c) (hH : ax_H G ad ad0 n0 w s H locs) (hok : ax_sok w.length as) : ∀ U : State, U.heap = H → s.WarmedH U.vm → ax_Pc G ad as w (as.map (ax_rv ad)).toArray U := fun U hU hW =>
  ⟨rfl, State.WarmedH.trans hC.2.2.2.2.2.2.2.2.1 hW, by rw [hU]; exact Nat.le_trans hC.2.2.2.2.2.2.2.2.2.1 hH.2.2.2.2.2.1, fun q hq => by rw [hU, hH.2.2.2.2.2.2.1 q (Nat.lt_of_lt_of_le hq hC.2.2.2.2.2.2.2.2.2.1) (Nat.not_le.mpr hq)]; exact hC.2.2.2.2.2.2.2.2.2.2 q hq, hH.2.2.1, hok, by rw [hU]; exact hH.2.2.2.1, hH.2.2.2.2.1⟩
theorem ax_stk (ad : Nat → Nat) (as st : List Value) : (as.reverse ++ st).map (ax_rv ad) = (as.map (ax_rv ad)).reverse ++ st.map (ax_rv ad) := by
  rw [List.map_append, List.map_reverse]
theorem ax_mr {m : MethodId} {pc : Nat} {ls : Array Slot} {st0 st : List Value} {ad : Nat → Nat} (hc : (st.map fun v => v.category).sum ≤ 8) : 2 * (F0 m pc ls st0).monitorRoom + ((st.map (ax_rv ad)).map fun v => v.category).sum ≤ 8 := by
  rw [ax_cats, show (F0 m pc ls st0).monitorRoom = 0 from rfl]
  omega
theorem ax_inv0 {index n : Nat} {v : Option Value} {st0 : List Value} (q : Nat) (hd : decode M.2.1 pc = .ok (.invokestatic index, 3)) (hq : pc + 3 = q) (hL : ax_lks M.1.cls index M' n) (hM : ax_Met G M' d' nc1 ns1 as w (.inl v, w1)) (hdd : d' + 1 ≤ d) (hn : as.length = n) (hst : as.reverse ++ st = st0) (hc : (st.map fun v => v.category).sum ≤ 8) (hnc : nc1 + nc2 ≤ nc) (hns : ns1 + ns2 ≤ ns)
    (k : ax_Ex G M d nc2 ns2 q lv (v.toList ++ st) w1 o) : ax_Ex G M d nc ns pc lv st0 w o := by
  subst hq; subst hst
  refine ax_more hnc hns ?_
  intro hG p e R s m args below meth c H locs cells slots mc ms n0 ad ad0 ls hC hR hH hl hs
  obtain ⟨h1, h2, h3, h4, h5, h6, h7⟩ := hL
  have hs2 := ax_sok_of hs
  have hcd : (ax_cw M').before args s = true := ax_wd hG hC h4 (ax_cw_ok M')
  have hws : ∀ x ∈ [ax_cw M'], ∀ (a' : Array Value) (U : State), s.WarmedH U.vm → x.before a' U = true := fun x hx a' U hW => by
    rw [List.mem_singleton.mp hx]
    exact word_at hW (good_of_word (ax_cw_ok M')) hcd
  have hRR : (ax_rm d' nc1 ns1).frames + 1 ≤ R.frames ∧ 8 + (M'.2.2.1 + 11) + (ax_rm d' nc1 ns1).locals ≤ R.locals := ⟨by show d' + 1 ≤ R.frames; omega, by show 8 + (M'.2.2.1 + 11) + 40 * d' ≤ R.locals; omega⟩
  refine ax_cont (a := (as.map (ax_rv ad)).toArray) ?_ k hG hC hR hH hl hs2.2
  by_cases hh : M'.2.2.2.2 = []
  · have hcw : ax_cw M' = .code M'.1 M'.2.1 M'.2.2.1 M'.2.2.2.1 := by simp only [ax_cw, hh]
    rw [hcw] at hcd
    exact va_runS (Ts := []) (cc := M.2.1) (nL := M.2.2.1) (bytes := M'.2.1) (maxL := M'.2.2.1) (ret := M'.2.2.2.1) (n := n) (own := M.1.cls) (index := index) ⟨hC.1, hC.2.1, hC.2.2.2.1, hC.2.2.2.2.1, fun _ h => by cases h⟩ (ax_ret hM hG ad)
      ⟨⟨rfl, rfl, hRR.1, hRR.2, hws, by rw [hcw]; exact List.mem_cons_self, hcd, ax_wd hG hC h3 rfl, h5, ax_len h6, ax_wd hG hC h1 rfl⟩, ax_wd hG hC h2 rfl⟩ ⟨ax_blind, ax_pcs hC hH (ax_sok_rev hs2.1)⟩ rfl (by rw [List.length_map]; exact hn) hl.1.1 (ax_stk ad as st) (ax_mr hc) hd ⟨by omega, by omega⟩
  · have hcw : ax_cw M' = .codeWith M'.1 M'.2.1 M'.2.2.1 M'.2.2.2.1 M'.2.2.2.2 := by
      unfold ax_cw
      split
      · rename_i h9; exact absurd h9 hh
      · rename_i h9; rw [h9]
    rw [hcw] at hcd
    exact vx_runSW (Ts := []) (cc := M.2.1) (nL := M.2.2.1) (bytes := M'.2.1) (maxL := M'.2.2.1) (ret := M'.2.2.2.1) (hh := M'.2.2.2.2) (n := n) (own := M.1.cls) (index := index) ⟨hC.1, hC.2.1, hC.2.2.2.1, hC.2.2.2.2.1, fun _ h => by cases h⟩ (ax_ret hM hG ad)
      ⟨⟨rfl, rfl, hRR.1, hRR.2, hws, by rw [hcw]; exact List.mem_cons_self⟩, hcd, ax_wd hG hC h3 rfl, h5, ax_len h6, ax_wd hG hC h1 rfl, ax_wd hG hC h2 rfl⟩ ⟨ax_blind, ax_pcs hC hH (ax_sok_rev hs2.1)⟩ rfl (by rw [List.length_map]; exact hn) hl.1.1 (ax_stk ad as st) (ax_mr hc) hd ⟨by omega, by omega⟩
/-- what a virtual call needs of the tables: the receiver is an object of the class ci, which is the method's own -/
def ax_lvr (own : String) (index : Nat) (M' : ax_M) (n ci : Nat) : Prop := Cond.methodLink own index M'.1 ∈ lw_tbl ∧ Cond.instanceMethod M'.1 ∈ lw_tbl ∧ Cond.selects M'.1.cls M'.1 M'.1 ∈ lw_tbl ∧ Cond.initialized M'.1.cls ∈ lw_tbl ∧ ax_cw M' ∈ lw_tbl ∧ M'.2.2.2.2 = [] ∧ (M'.1.cls ≠ "java/lang/invoke/MethodHandle" ∧ M'.1.cls ≠ "java/lang/invoke/VarHandle") ∧ (parseMethodDescriptor M'.1.desc).map (fun d => d.parameters.length) = some n ∧ M'.2.2.1 ≤ 21 ∧ ∃ r : vw_C, ax_cl[ci]? = some r ∧ r.1 = M'.1.cls
theorem ax_inv1 {index n ci a : Nat} {fs : List Value} {v : Option Value} {st0 : List Value} (q : Nat) (hd : decode M.2.1 pc = .ok (.invokevirtual index, 3)) (hq : pc + 3 = q) (hL : ax_lvr M.1.cls index M' n ci) (he : w[a]? = some (.inr (ci, fs))) (hM : ax_Met G M' d' nc1 ns1 (.ref a :: as) w (.inl v, w1)) (hdd : d' + 1 ≤ d) (hn : as.length = n) (hst : as.reverse ++ .ref a :: st = st0) (hc : (st.map fun v => v.category).sum ≤ 8) (hnc : nc1 + nc2 ≤ nc) (hns : ns1 + ns2 ≤ ns)
    (k : ax_Ex G M d nc2 ns2 q lv (v.toList ++ st) w1 o) : ax_Ex G M d nc ns pc lv st0 w o := by
  subst hq; subst hst
  refine ax_more hnc hns ?_
  intro hG p e R s m args below meth c H locs cells slots mc ms n0 ad ad0 ls hC hR hH hl hs
  obtain ⟨h1, h2, h3, h4, h5, hh, h6, h7, h8, r, h9, h10⟩ := hL
  have hs2 := ax_sok_of hs
  have hcd : (ax_cw M').before args s = true := ax_wd hG hC h5 (ax_cw_ok M')
  have hws : ∀ x ∈ [ax_cw M'], ∀ (a' : Array Value) (U : State), s.WarmedH U.vm → x.before a' U = true := fun x hx a' U hW => by
    rw [List.mem_singleton.mp hx]
    exact word_at hW (good_of_word (ax_cw_ok M')) hcd
  have hRR : (ax_rm d' nc1 ns1).frames + 1 ≤ R.frames ∧ 8 + (M'.2.2.1 + 11) + (ax_rm d' nc1 ns1).locals ≤ R.locals := ⟨by show d' + 1 ≤ R.frames; omega, by show 8 + (M'.2.2.1 + 11) + 40 * d' ≤ R.locals; omega⟩
  refine ax_cont (a := (Value.ref (ad a) :: as.map (ax_rv ad)).toArray) ?_ k hG hC hR hH hl hs2.2.2
  have hcw : ax_cw M' = .code M'.1 M'.2.1 M'.2.2.1 M'.2.2.2.1 := by simp only [ax_cw, hh]
  rw [hcw] at hcd
  obtain ⟨cell, g1, g2, g3⟩ := va_recv (ax_K hG hC) hH.2.2.2.1 h9 (ax_rw_at G ad he)
  rw [h10] at g3
  exact va_runV (Ts := []) (cc := M.2.1) (nL := M.2.2.1) (bytes := M'.2.1) (maxL := M'.2.2.1) (ret := M'.2.2.2.1) (n := n) (own := M.1.cls) (C := M'.1.cls) (index := index) ⟨hC.1, hC.2.1, hC.2.2.2.1, hC.2.2.2.2.1, fun _ h => by cases h⟩ (ax_ret hM hG ad)
    ⟨⟨rfl, rfl, hRR.1, hRR.2, hws, by rw [hcw]; exact List.mem_cons_self, hcd, ax_wd hG hC h4 rfl, h6, ax_len h7, ax_wd hG hC h1 rfl⟩, ax_wd hG hC h2 rfl, ax_wd hG hC h3 rfl⟩ ⟨ax_blind, ⟨cell, g1, g2, g3⟩, ax_pcs (as := .ref a :: as) hC hH ⟨hs2.2.1, ax_sok_rev hs2.1⟩⟩ rfl (by rw [List.length_map]; exact hn) hl.1.1 (ax_stk ad as (.ref a :: st)) (ax_mr hc) hd ⟨by omega, by omega⟩
/-- what a constructor's call needs of the tables -/
def ax_li (own : String) (index : Nat) (M' : ax_M) (n : Nat) : Prop := Cond.methodLink own index M'.1 ∈ lw_tbl ∧ Cond.instanceMethod M'.1 ∈ lw_tbl ∧ Cond.initialized M'.1.cls ∈ lw_tbl ∧ ax_cw M' ∈ lw_tbl ∧ M'.2.2.2.2 = [] ∧ (M'.1.cls ≠ "java/lang/invoke/MethodHandle" ∧ M'.1.cls ≠ "java/lang/invoke/VarHandle") ∧ (parseMethodDescriptor M'.1.desc).map (fun d => d.parameters.length) = some n ∧ M'.2.2.1 ≤ 21 ∧ M'.1.name = "<init>" ∧ M'.2.2.2.1 = none
theorem ax_inv2 {index n a : Nat} {st0 : List Value} (q : Nat) (hd : decode M.2.1 pc = .ok (.invokespecial index, 3)) (hq : pc + 3 = q) (hL : ax_li M.1.cls index M' n) (hM : ax_Met G M' d' nc1 ns1 (.ref a :: as) w (.inl none, w1)) (hdd : d' + 1 ≤ d) (hn : as.length = n) (hst : as.reverse ++ .ref a :: st = st0) (hc : (st.map fun v => v.category).sum ≤ 8) (hnc : nc1 + nc2 ≤ nc) (hns : ns1 + ns2 ≤ ns)
    (k : ax_Ex G M d nc2 ns2 q lv st w1 o) : ax_Ex G M d nc ns pc lv st0 w o := by
  subst hq; subst hst
  refine ax_more hnc hns ?_
  intro hG p e R s m args below meth c H locs cells slots mc ms n0 ad ad0 ls hC hR hH hl hs
  obtain ⟨h1, h2, h4, h5, hh, h6, h7, h8, h9, h10⟩ := hL
  have hs2 := ax_sok_of hs
  have hcd : (ax_cw M').before args s = true := ax_wd hG hC h5 (ax_cw_ok M')
  have hws : ∀ x ∈ [ax_cw M'], ∀ (a' : Array Value) (U : State), s.WarmedH U.vm → x.before a' U = true := fun x hx a' U hW => by
    rw [List.mem_singleton.mp hx]
    exact word_at hW (good_of_word (ax_cw_ok M')) hcd
  have hRR : (ax_rm d' nc1 ns1).frames + 1 ≤ R.frames ∧ 8 + (M'.2.2.1 + 11) + (ax_rm d' nc1 ns1).locals ≤ R.locals := ⟨by show d' + 1 ≤ R.frames; omega, by show 8 + (M'.2.2.1 + 11) + 40 * d' ≤ R.locals; omega⟩
  refine ax_cont (v := none) (a := (Value.ref (ad a) :: as.map (ax_rv ad)).toArray) ?_ k hG hC hR hH hl hs2.2.2
  have hcw : ax_cw M' = .code M'.1 M'.2.1 M'.2.2.1 none := by simp only [ax_cw, hh, h10]
  rw [hcw] at hcd
  exact va_runI (Ts := []) (cc := M.2.1) (nL := M.2.2.1) (bytes := M'.2.1) (maxL := M'.2.2.1) (n := n) (own := M.1.cls) (index := index) ⟨hC.1, hC.2.1, hC.2.2.2.1, hC.2.2.2.2.1, fun _ h => by cases h⟩ (ax_ret hM hG ad)
    ⟨⟨rfl, rfl, hRR.1, hRR.2, hws, by rw [hcw]; exact List.mem_cons_self, hcd, ax_wd hG hC h4 rfl, h6, ax_len h7, ax_wd hG hC h1 rfl⟩, h9, ax_wd hG hC h2 rfl⟩ ⟨ax_blind, ax_pcs (as := .ref a :: as) hC hH ⟨hs2.2.1, ax_sok_rev hs2.1⟩⟩ rfl (by rw [List.length_map]; exact hn) hl.1.1 (ax_stk ad as (.ref a :: st)) (ax_mr hc) hd ⟨by omega, by omega⟩
/-- calls between nest mates: a constructor, a static method -/
def ax_ln (own : String) (index : Nat) (host : String) (M' : ax_M) (n : Nat) : Prop := Cond.methodLinkNest own index M'.1 host ∈ lw_tbl ∧ Cond.initialized M'.1.cls ∈ lw_tbl ∧ ax_cw M' ∈ lw_tbl ∧ M'.2.2.2.2 = [] ∧ (M'.1.cls ≠ "java/lang/invoke/MethodHandle" ∧ M'.1.cls ≠ "java/lang/invoke/VarHandle") ∧ (parseMethodDescriptor M'.1.desc).map (fun d => d.parameters.length) = some n ∧ M'.2.2.1 ≤ 21
theorem ax_inv2N {index n a : Nat} {host : String} {st0 : List Value} (q : Nat) (hd : decode M.2.1 pc = .ok (.invokespecial index, 3)) (hq : pc + 3 = q) (hL : ax_ln M.1.cls index host M' n) (hi : M'.1.name = "<init>" ∧ M'.2.2.2.1 = none ∧ Cond.instanceMethod M'.1 ∈ lw_tbl) (hM : ax_Met G M' d' nc1 ns1 (.ref a :: as) w (.inl none, w1)) (hdd : d' + 1 ≤ d) (hn : as.length = n) (hst : as.reverse ++ .ref a :: st = st0) (hc : (st.map fun v => v.category).sum ≤ 8) (hnc : nc1 + nc2 ≤ nc) (hns : ns1 + ns2 ≤ ns)
    (k : ax_Ex G M d nc2 ns2 q lv st w1 o) : ax_Ex G M d nc ns pc lv st0 w o := by
  subst hq; subst hst
  refine ax_more hnc hns ?_
  intro hG p e R s m args below meth c H locs cells slots mc ms n0 ad ad0 ls hC hR hH hl hs
  obtain ⟨h1, h4, h5, hh, h6, h7, h8⟩ := hL
  have hs2 := ax_sok_of hs
  have hcd : (ax_cw M').before args s = true := ax_wd hG hC h5 (ax_cw_ok M')
  have hws : ∀ x ∈ [ax_cw M'], ∀ (a' : Array Value) (U : State), s.WarmedH U.vm → x.before a' U = true := fun x hx a' U hW => by
    rw [List.mem_singleton.mp hx]
    exact word_at hW (good_of_word (ax_cw_ok M')) hcd
  have hRR : (ax_rm d' nc1 ns1).frames + 1 ≤ R.frames ∧ 8 + (M'.2.2.1 + 11) + (ax_rm d' nc1 ns1).locals ≤ R.locals := ⟨by show d' + 1 ≤ R.frames; omega, by show 8 + (M'.2.2.1 + 11) + 40 * d' ≤ R.locals; omega⟩
  refine ax_cont (v := none) (a := (Value.ref (ad a) :: as.map (ax_rv ad)).toArray) ?_ k hG hC hR hH hl hs2.2.2
  have hcw : ax_cw M' = .code M'.1 M'.2.1 M'.2.2.1 none := by simp only [ax_cw, hh, hi.2.1]
  rw [hcw] at hcd
  exact va_runIN (Ts := []) (cc := M.2.1) (nL := M.2.2.1) (bytes := M'.2.1) (maxL := M'.2.2.1) (n := n) (own := M.1.cls) (host := host) (index := index) ⟨hC.1, hC.2.1, hC.2.2.2.1, hC.2.2.2.2.1, fun _ h => by cases h⟩ (ax_ret hM hG ad)
    ⟨⟨⟨rfl, rfl, hRR.1, hRR.2, hws, by rw [hcw]; exact List.mem_cons_self⟩, hcd, ax_wd hG hC h4 rfl, h6, ax_len h7, ax_wk hG hC h1 rfl⟩, hi.1, ax_wd hG hC hi.2.2 rfl⟩ ⟨ax_blind, ax_pcs (as := .ref a :: as) hC hH ⟨hs2.2.1, ax_sok_rev hs2.1⟩⟩ rfl (by rw [List.length_map]; exact hn) hl.1.1 (ax_stk ad as (.ref a :: st)) (ax_mr hc) hd ⟨by omega, by omega⟩
theorem ax_inv0N {index n : Nat} {host : String} {v : Option Value} {st0 : List Value} (q : Nat) (hd : decode M.2.1 pc = .ok (.invokestatic index, 3)) (hq : pc + 3 = q) (hL : ax_ln M.1.cls index host M' n) (hi : Cond.static M'.1 ∈ lw_tbl) (hM : ax_Met G M' d' nc1 ns1 as w (.inl v, w1)) (hdd : d' + 1 ≤ d) (hn : as.length = n) (hst : as.reverse ++ st = st0) (hc : (st.map fun v => v.category).sum ≤ 8) (hnc : nc1 + nc2 ≤ nc) (hns : ns1 + ns2 ≤ ns)
    (k : ax_Ex G M d nc2 ns2 q lv (v.toList ++ st) w1 o) : ax_Ex G M d nc ns pc lv st0 w o := by
  subst hq; subst hst
  refine ax_more hnc hns ?_
  intro hG p e R s m args below meth c H locs cells slots mc ms n0 ad ad0 ls hC hR hH hl hs
  obtain ⟨h1, h4, h5, hh, h6, h7, h8⟩ := hL
  have hs2 := ax_sok_of hs
  have hcd : (ax_cw M').before args s = true := ax_wd hG hC h5 (ax_cw_ok M')
  have hws : ∀ x ∈ [ax_cw M'], ∀ (a' : Array Value) (U : State), s.WarmedH U.vm → x.before a' U = true := fun x hx a' U hW => by
    rw [List.mem_singleton.mp hx]
    exact word_at hW (good_of_word (ax_cw_ok M')) hcd
  have hRR : (ax_rm d' nc1 ns1).frames + 1 ≤ R.frames ∧ 8 + (M'.2.2.1 + 11) + (ax_rm d' nc1 ns1).locals ≤ R.locals := ⟨by show d' + 1 ≤ R.frames; omega, by show 8 + (M'.2.2.1 + 11) + 40 * d' ≤ R.locals; omega⟩
  refine ax_cont (a := (as.map (ax_rv ad)).toArray) ?_ k hG hC hR hH hl hs2.2
  have hcw : ax_cw M' = .code M'.1 M'.2.1 M'.2.2.1 M'.2.2.2.1 := by simp only [ax_cw, hh]
  rw [hcw] at hcd
  exact va_runSN (Ts := []) (cc := M.2.1) (nL := M.2.2.1) (bytes := M'.2.1) (maxL := M'.2.2.1) (ret := M'.2.2.2.1) (n := n) (own := M.1.cls) (host := host) (index := index) ⟨hC.1, hC.2.1, hC.2.2.2.1, hC.2.2.2.2.1, fun _ h => by cases h⟩ (ax_ret hM hG ad)
    ⟨⟨⟨rfl, rfl, hRR.1, hRR.2, hws, by rw [hcw]; exact List.mem_cons_self⟩, hcd, ax_wd hG hC h4 rfl, h6, ax_len h7, ax_wk hG hC h1 rfl⟩, ax_wd hG hC hi rfl, trivial⟩ ⟨ax_blind, ax_pcs hC hH (ax_sok_rev hs2.1)⟩ rfl (by rw [List.length_map]; exact hn) hl.1.1 (ax_stk ad as st) (ax_mr hc) hd ⟨by omega, by omega⟩
/-- 'throw new E("text")': what it needs of the tables -/
def ax_th (own : String) (ik is ic : Nat) (cls text : String) : Prop := ∃ names : List String, names.length = 2 ∧ Bundle.fit cls = true ∧ (∀ n ∈ names, Bundle.fit n = true) ∧ Cond.classLink own ik cls ∈ lw_tbl ∧ Cond.initialized cls ∈ lw_tbl ∧ Cond.stringRef own is text ∈ lw_tbl ∧ (∀ x ∈ vx_atS own ic cls names, x ∈ lw_tbl ∧ ax_kw x = true) ∧ ∀ x ∈ Cond.classLink own ik cls :: Cond.initialized cls :: vx_atS own ic cls names, vx_ot x = true
theorem ax_zq {p : Program} {s : State} {m : MethodId} {meth : Method} {c : Code} {C n dd : String} (hC : ax_C G M p s m meth c) (h : vx_Zq C n dd (ax_A G) G.s0 G.s0.heap) : vx_Zq C n dd (ax_A G) s s.heap :=
  (h.moved hC.2.2.2.2.2.2.2.2.1.alike).kept (fun a ha _ => hC.2.2.2.2.2.2.2.2.2.2 a ha)
theorem ax_xc {E : String} {s : State} {H : Heap} {locs : List Loc} {n0 : Nat} {ad ad0 : Nat → Nat} (hH : ax_H G ad ad0 n0 w s H locs) {t : State} (hz : H.size ≤ t.heap.size) (hk : ∀ q : Nat, q < H.size → t.heap[q]? = H[q]?) : ax_XC G ad0 n0 (.inr E, w) E s t :=
  ⟨rfl, ad, hH.1, hH.2.1, hH.2.2.1, hH.2.2.2.1.kept (fun k q hq => hk q.1 ((hH.2.2.2.1 k q hq).lt)), hH.2.2.2.2.1, Nat.le_trans hH.2.2.2.2.2.1 hz, fun q h1 h2 => (hk q (Nat.lt_of_lt_of_le h1 hH.2.2.2.2.2.1)).trans (hH.2.2.2.2.2.2.1 q h1 h2)⟩
theorem ax_throw {cls text : String} {ik is ic : Nat} (hT : ax_th M.1.cls ik is ic cls text) (hh : M.2.2.2.2 = []) (hd6 : 6 ≤ d) (d0 : decode M.2.1 pc = .ok (.new ik, 3)) (d3 : decode M.2.1 (pc + 3) = .ok (.dup, 1)) (d4 : decode M.2.1 (pc + 4) = .ok (.ldc is, 2)) (d6 : decode M.2.1 (pc + 6) = .ok (.invokespecial ic, 3)) (d9 : decode M.2.1 (pc + 9) = .ok (.athrow, 1))
    (hnc : 1 ≤ nc) (hns : 6 ≤ ns) (ho : o = (.inr cls, w)) : ax_Ex G M d nc ns pc lv [] w o := by
  subst ho
  intro hG p e R s m args below meth c H locs cells slots mc ms n0 ad ad0 ls hC hR hH hl hs
  obtain ⟨names, h1, h2, h3, h4, h5, h6, h7, h8⟩ := hT
  obtain ⟨sa, hsa⟩ := hG.2.2.2.2.2.2.2.1 _ _ _ h6
  refine vx_throwS (A := ax_A G) (own := M.1.cls) (names := names) (rest := []) hC.1 hC.2.1 hG.2.2.2.2.1 hC.2.2.2.2.1 h2 h3 (ax_wd hG hC h4 rfl) (ax_wd hG hC h5 rfl) (vk_R.warm hC.2.2.2.2.2.2.2.2.1 hsa) (fun x hx => ax_wk hG hC (h7 x hx).1 (h7 x hx).2) h8 (ax_zq hC hG.2.2.2.2.2.1) (ax_zq hC hG.2.2.2.2.2.2.1) hH.2.2.2.2.2 (by rw [hC.2.2.2.1]; exact hl.1.1) d0 d3 d4 d6 d9 ?_ (by omega) (by rw [h1]; show 0 + (13 * (2 + 1) + 43) ≤ R.locals; omega) (by omega) (by omega) hC.2.2.2.2.2.1 (fun t _ hz hk => ax_xc hH hz hk) hH.2.2.2.2.2.2.2 (by omega) (by omega)
  intro x hx
  rw [hC.2.2.2.2.2.2.2.1, hh] at hx
  cases hx
theorem ax_throwW {cls text : String} {ik is ic : Nat} (hT : ax_th M.1.cls ik is ic cls text) (hh : M.2.2.2.2 = []) (hd6 : 6 ≤ d) (d0 : decode M.2.1 pc = .ok (.new ik, 3)) (d3 : decode M.2.1 (pc + 3) = .ok (.dup, 1)) (d4 : decode M.2.1 (pc + 4) = .ok (.ldc_w is, 3)) (d7 : decode M.2.1 (pc + 7) = .ok (.invokespecial ic, 3)) (d10 : decode M.2.1 (pc + 10) = .ok (.athrow, 1))
    (hnc : 1 ≤ nc) (hns : 6 ≤ ns) (ho : o = (.inr cls, w)) : ax_Ex G M d nc ns pc lv [] w o := by
  subst ho
  intro hG p e R s m args below meth c H locs cells slots mc ms n0 ad ad0 ls hC hR hH hl hs
  obtain ⟨names, h1, h2, h3, h4, h5, h6, h7, h8⟩ := hT
  obtain ⟨sa, hsa⟩ := hG.2.2.2.2.2.2.2.1 _ _ _ h6
  refine vx_throwSW (A := ax_A G) (own := M.1.cls) (names := names) (rest := []) hC.1 hC.2.1 hG.2.2.2.2.1 hC.2.2.2.2.1 h2 h3 (ax_wd hG hC h4 rfl) (ax_wd hG hC h5 rfl) (vk_R.warm hC.2.2.2.2.2.2.2.2.1 hsa) (fun x hx => ax_wk hG hC (h7 x hx).1 (h7 x hx).2) h8 (ax_zq hC hG.2.2.2.2.2.1) (ax_zq hC hG.2.2.2.2.2.2.1) hH.2.2.2.2.2 (by rw [hC.2.2.2.1]; exact hl.1.1) d0 d3 d4 d7 d10 ?_ (by omega) (by rw [h1]; show 0 + (13 * (2 + 1) + 43) ≤ R.locals; omega) (by omega) (by omega) hC.2.2.2.2.2.1 (fun t _ hz hk => ax_xc hH hz hk) hH.2.2.2.2.2.2.2 (by omega) (by omega)
  intro x hx
  rw [hC.2.2.2.2.2.2.2.1, hh] at hx
  cases hx
/-- a virtual call that throws E, caught by a row of this method's table -/
theorem ax_inv1X {index n ci a : Nat} {fs : List Value} {E name : String} {st0 : List Value} (hp : Nat) (pre : List ExceptionTableEntry) (x : ExceptionTableEntry) (suf : List ExceptionTableEntry) (hd : decode M.2.1 pc = .ok (.invokevirtual index, 3)) (hL : ax_lvr M.1.cls index M' n ci) (he : w[a]? = some (.inr (ci, fs))) (hM : ax_Met G M' d' nc1 ns1 (.ref a :: as) w (.inr E, w1)) (hdd : d' + 1 ≤ d) (hn : as.length = n) (hst : as.reverse ++ .ref a :: st = st0) (hc : (st.map fun v => v.category).sum ≤ 8) (hnc : nc1 + nc2 ≤ nc) (hns : ns1 + ns2 ≤ ns)
    (hsplit : tableOf M.2.2.2.2 = pre ++ x :: suf) (hpass : ax_G0 G → ∀ z ∈ pre, covers z pc = false ∨ (z.catchType ≠ 0 ∧ ∃ nm : String, Cond.classLink M.1.cls z.catchType nm ∈ lw_tbl ∧ va_Nc E nm G.s0)) (hx : covers x pc = true) (h0 : x.catchType ≠ 0) (hlink : Cond.classLink M.1.cls x.catchType name ∈ lw_tbl) (hcast : Cond.castable E name ∈ lw_tbl) (hhp : x.handlerPc = hp)
    (k : ∀ q : Nat, ax_Ex G M d nc2 ns2 hp lv [.retAddr q] w1 o) : ax_Ex G M d nc ns pc lv st0 w o := by
  subst hst; subst hhp
  refine ax_more hnc hns ?_
  intro hG p e R s m args below meth c H locs cells slots mc ms n0 ad ad0 ls hC hR hH hl hs
  obtain ⟨h1, h2, h3, h4, h5, hh, h6, h7, h8, r, h9, h10⟩ := hL
  have hs2 := ax_sok_of hs
  have hcd : (ax_cw M').before args s = true := ax_wd hG hC h5 (ax_cw_ok M')
  have hws : ∀ x ∈ [ax_cw M'], ∀ (a' : Array Value) (U : State), s.WarmedH U.vm → x.before a' U = true := fun x hx a' U hW => by
    rw [List.mem_singleton.mp hx]
    exact word_at hW (good_of_word (ax_cw_ok M')) hcd
  have hRR : (ax_rm d' nc1 ns1).frames + 1 ≤ R.frames ∧ 8 + (M'.2.2.1 + 11) + (ax_rm d' nc1 ns1).locals ≤ R.locals := ⟨by show d' + 1 ≤ R.frames; omega, by show 8 + (M'.2.2.1 + 11) + 40 * d' ≤ R.locals; omega⟩
  have hcw : ax_cw M' = .code M'.1 M'.2.1 M'.2.2.1 M'.2.2.2.1 := by simp only [ax_cw, hh]
  rw [hcw] at hcd
  obtain ⟨cell, g1, g2, g3⟩ := va_recv (ax_K hG hC) hH.2.2.2.1 h9 (ax_rw_at G ad he)
  rw [h10] at g3
  have hrun := vx_runV (p := p) (e := e) (below := below) (meth := meth) (locs := locs) (cells := cells) (slots := slots) (Ts := []) (cc := M.2.1) (nL := M.2.2.1) (bytes := M'.2.1) (maxL := M'.2.2.1) (ret := M'.2.2.2.1) (n := n) (own := M.1.cls) (C := M'.1.cls) (index := index) (g := F0 m pc ls (List.map (ax_rv ad) (as.reverse ++ .ref a :: st))) (rest := st.map (ax_rv ad)) ⟨hC.1, hC.2.1, hC.2.2.2.1, hC.2.2.2.2.1, fun _ h => by cases h⟩ (hM hG ad)
    ⟨⟨rfl, rfl, hRR.1, hRR.2, hws, by rw [hcw]; exact List.mem_cons_self, hcd, ax_wd hG hC h4 rfl, h6, ax_len h7, ax_wd hG hC h1 rfl⟩, ax_wd hG hC h2 rfl, ax_wd hG hC h3 rfl⟩ ⟨ax_blind, ⟨cell, g1, g2, g3⟩, ax_pcs (as := .ref a :: as) hC hH ⟨hs2.2.1, ax_sok_rev hs2.1⟩⟩ rfl (by rw [List.length_map]; exact hn) hl.1.1 (ax_stk ad as (.ref a :: st)) (ax_mr hc) hd ⟨by omega, by omega⟩
  intro T hT X
  rcases hrun T hT X with ⟨v, st₀, t, T', L, -, -, -, -, -, ⟨v9, ad', hv9, -⟩, -⟩ | ⟨q, st₀, t, T', L, E', ce, e0, X', hL9, e1, e2, ⟨hE, ad', hn9, hsame, hwf, hP1, hD1, hz, hk⟩, hce, hcv, hcl, st1⟩
  · cases hv9
  · have eE : E = E' := Sum.inr.inj hE
    subst eE
    dsimp only at hn9 hwf hP1 hD1
    rw [e0] at hz hk
    have hS := hH.2.2.2.2.2
    have hS1 : va_S (ax_A G) s.heap T'.heap (locs ++ L) := ⟨Nat.le_trans hS.1 (by rw [e1]; exact hz), fun q h1 h2 => by rw [e1, hk q (Nat.lt_of_lt_of_le h1 hS.1) h2]; exact hS.2.1 q h1 h2, fun q hq => by
        rcases List.mem_append.mp hq with h | h
        · exact hS.2.2 q h
        · exact hL9 q h⟩
    have hH1 : ax_H G ad' ad0 n0 w1 s T'.heap (locs ++ L) := ⟨Nat.le_trans hH.1 hn9, fun j hj => (hsame j (Nat.lt_of_lt_of_le hj hH.1)).trans (hH.2.1 j hj), hwf, by rw [e1]; exact hP1, hD1, hS1⟩
    have hW9 := k q hG p e R s m args below meth c T'.heap (locs ++ L) (cells + nc1) (slots + ns1) mc ms n0 ad' ad0 ls hC (by omega) hH1 ⟨by rw [ax_lv_same hsame hl.2]; exact hl.1, ax_lok_mono hn9 hl.2⟩ ⟨trivial, trivial⟩
    obtain ⟨t2, a1, b1⟩ := ax_catch (rest := st.map (ax_rv ad)) hC.2.2.2.2.1 pre x suf (hC.2.2.2.2.2.2.2.1.trans hsplit) (fun z hz9 => by
      rcases hpass hG z hz9 with h | ⟨hz0, nm, hl1, hn1⟩
      · exact Or.inl h
      · exact Or.inr ⟨hz0, nm, ax_wd hG hC hl1 rfl, hn1.moved hC.2.2.2.2.2.2.2.2.1.alike⟩) hx h0 (ax_wd hG hC hlink rfl) (ax_wk hG hC hcast rfl) (by rw [e1]; exact hce) hcv hcl hW9 T' rfl X'
    exact ⟨t2, st1.trans a1, b1⟩
end AXT
