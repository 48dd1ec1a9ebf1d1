section
-- ===== PART A: goes FIRST, ahead of the names: the tables' words, and 'selects' of the private methods out of them =====
/-- a private method of a class that the tables say can be made, by its rows of tables_1 -/
def lw_okq (q : MethodName × Nat) : Prop := (q.1.cls ≠ "java/lang/invoke/MethodHandle" ∧ q.1.cls ≠ "java/lang/invoke/VarHandle") ∧ Cond.instantiable q.1.cls q.2 ∈ tables_1 ∧ Cond.privateMethod q.1 ∈ tables_1 ∧ Cond.instanceMethod q.1 ∈ tables_1
theorem lw_p0 : lw_okq (⟨"java/lang/Throwable", "fillInStackTrace", "(I)Ljava/lang/Throwable;"⟩, 6) := ⟨⟨by decide +kernel, by decide +kernel⟩, List.mem_of_getElem? (i := 204) (by decide +kernel), List.mem_of_getElem? (i := 202) (by decide +kernel), List.mem_of_getElem? (i := 203) (by decide +kernel)⟩
theorem lw_p1 : lw_okq (⟨"QuotaRegister$Accounts", "greatestRemainder", "()I"⟩, 10) := ⟨⟨by decide +kernel, by decide +kernel⟩, List.mem_of_getElem? (i := 50) (by decide +kernel), List.mem_of_getElem? (i := 424) (by decide +kernel), List.mem_of_getElem? (i := 425) (by decide +kernel)⟩
theorem lw_p2 : lw_okq (⟨"QuotaRegister$Accounts", "leftOn", "(I)I"⟩, 10) := ⟨⟨by decide +kernel, by decide +kernel⟩, List.mem_of_getElem? (i := 50) (by decide +kernel), List.mem_of_getElem? (i := 444) (by decide +kernel), List.mem_of_getElem? (i := 445) (by decide +kernel)⟩
theorem lw_p3 : lw_okq (⟨"QuotaRegister$Events", "workLease", "(ILQuotaRegister$Accounts;)Z"⟩, 10) := ⟨⟨by decide +kernel, by decide +kernel⟩, List.mem_of_getElem? (i := 87) (by decide +kernel), List.mem_of_getElem? (i := 487) (by decide +kernel), List.mem_of_getElem? (i := 488) (by decide +kernel)⟩
theorem lw_p4 : lw_okq (⟨"QuotaRegister$Events", "workLanding", "(ILQuotaRegister$Accounts;)Z"⟩, 10) := ⟨⟨by decide +kernel, by decide +kernel⟩, List.mem_of_getElem? (i := 87) (by decide +kernel), List.mem_of_getElem? (i := 496) (by decide +kernel), List.mem_of_getElem? (i := 497) (by decide +kernel)⟩
theorem lw_p5 : lw_okq (⟨"QuotaRegister$Events", "workEquivalent", "(ILQuotaRegister$Accounts;)Z"⟩, 10) := ⟨⟨by decide +kernel, by decide +kernel⟩, List.mem_of_getElem? (i := 87) (by decide +kernel), List.mem_of_getElem? (i := 504) (by decide +kernel), List.mem_of_getElem? (i := 505) (by decide +kernel)⟩
theorem lw_p6 : lw_okq (⟨"QuotaRegister", "wasOpened", "(I)Z"⟩, 8) := ⟨⟨by decide +kernel, by decide +kernel⟩, List.mem_of_getElem? (i := 15) (by decide +kernel), List.mem_of_getElem? (i := 524) (by decide +kernel), List.mem_of_getElem? (i := 525) (by decide +kernel)⟩
theorem lw_p7 : lw_okq (⟨"QuotaRegister", "takesChanges", "(I)Z"⟩, 8) := ⟨⟨by decide +kernel, by decide +kernel⟩, List.mem_of_getElem? (i := 15) (by decide +kernel), List.mem_of_getElem? (i := 530) (by decide +kernel), List.mem_of_getElem? (i := 531) (by decide +kernel)⟩
theorem lw_p8 : lw_okq (⟨"QuotaRegister", "isOpen", "(I)Z"⟩, 8) := ⟨⟨by decide +kernel, by decide +kernel⟩, List.mem_of_getElem? (i := 15) (by decide +kernel), List.mem_of_getElem? (i := 534) (by decide +kernel), List.mem_of_getElem? (i := 535) (by decide +kernel)⟩
theorem lw_p9 : lw_okq (⟨"QuotaRegister", "workAnew", "(I)V"⟩, 8) := ⟨⟨by decide +kernel, by decide +kernel⟩, List.mem_of_getElem? (i := 15) (by decide +kernel), List.mem_of_getElem? (i := 544) (by decide +kernel), List.mem_of_getElem? (i := 545) (by decide +kernel)⟩
theorem lw_p10 : lw_okq (⟨"QuotaRegister", "levyOfVessel", "(II)J"⟩, 8) := ⟨⟨by decide +kernel, by decide +kernel⟩, List.mem_of_getElem? (i := 15) (by decide +kernel), List.mem_of_getElem? (i := 642) (by decide +kernel), List.mem_of_getElem? (i := 643) (by decide +kernel)⟩
theorem lw_p11 : lw_okq (⟨"QuotaRegisterModel", "fits", "(II)Z"⟩, 31) := ⟨⟨by decide +kernel, by decide +kernel⟩, List.mem_of_getElem? (i := 688) (by decide +kernel), List.mem_of_getElem? (i := 807) (by decide +kernel), List.mem_of_getElem? (i := 808) (by decide +kernel)⟩
theorem lw_p12 : lw_okq (⟨"QuotaRegisterModel", "ofGroup", "(II)I"⟩, 31) := ⟨⟨by decide +kernel, by decide +kernel⟩, List.mem_of_getElem? (i := 688) (by decide +kernel), List.mem_of_getElem? (i := 811) (by decide +kernel), List.mem_of_getElem? (i := 812) (by decide +kernel)⟩
theorem lw_p13 : lw_okq (⟨"QuotaRegisterModel", "gather", "(I)V"⟩, 31) := ⟨⟨by decide +kernel, by decide +kernel⟩, List.mem_of_getElem? (i := 688) (by decide +kernel), List.mem_of_getElem? (i := 815) (by decide +kernel), List.mem_of_getElem? (i := 816) (by decide +kernel)⟩
theorem lw_p14 : lw_okq (⟨"QuotaRegisterModel", "refuse", "(ZZ)Z"⟩, 31) := ⟨⟨by decide +kernel, by decide +kernel⟩, List.mem_of_getElem? (i := 688) (by decide +kernel), List.mem_of_getElem? (i := 819) (by decide +kernel), List.mem_of_getElem? (i := 820) (by decide +kernel)⟩
theorem lw_p15 : lw_okq (⟨"QuotaRegisterModel", "setLink", "(IIZ)V"⟩, 31) := ⟨⟨by decide +kernel, by decide +kernel⟩, List.mem_of_getElem? (i := 688) (by decide +kernel), List.mem_of_getElem? (i := 841) (by decide +kernel), List.mem_of_getElem? (i := 842) (by decide +kernel)⟩
def lw_privs_1 : List (MethodName × Nat) := [(⟨"java/lang/Throwable", "fillInStackTrace", "(I)Ljava/lang/Throwable;"⟩, 6), (⟨"QuotaRegister$Accounts", "greatestRemainder", "()I"⟩, 10), (⟨"QuotaRegister$Accounts", "leftOn", "(I)I"⟩, 10), (⟨"QuotaRegister$Events", "workLease", "(ILQuotaRegister$Accounts;)Z"⟩, 10), (⟨"QuotaRegister$Events", "workLanding", "(ILQuotaRegister$Accounts;)Z"⟩, 10), (⟨"QuotaRegister$Events", "workEquivalent", "(ILQuotaRegister$Accounts;)Z"⟩, 10), (⟨"QuotaRegister", "wasOpened", "(I)Z"⟩, 8), (⟨"QuotaRegister", "takesChanges", "(I)Z"⟩, 8), (⟨"QuotaRegister", "isOpen", "(I)Z"⟩, 8), (⟨"QuotaRegister", "workAnew", "(I)V"⟩, 8), (⟨"QuotaRegister", "levyOfVessel", "(II)J"⟩, 8), (⟨"QuotaRegisterModel", "fits", "(II)Z"⟩, 31), (⟨"QuotaRegisterModel", "ofGroup", "(II)I"⟩, 31), (⟨"QuotaRegisterModel", "gather", "(I)V"⟩, 31), (⟨"QuotaRegisterModel", "refuse", "(ZZ)Z"⟩, 31), (⟨"QuotaRegisterModel", "setLink", "(IIZ)V"⟩, 31)]
theorem lw_r1 : ∀ q ∈ lw_privs_1, lw_okq q := List.forall_mem_cons.mpr ⟨lw_p0, List.forall_mem_cons.mpr ⟨lw_p1, List.forall_mem_cons.mpr ⟨lw_p2, List.forall_mem_cons.mpr ⟨lw_p3, List.forall_mem_cons.mpr ⟨lw_p4, List.forall_mem_cons.mpr ⟨lw_p5, List.forall_mem_cons.mpr ⟨lw_p6, List.forall_mem_cons.mpr ⟨lw_p7, List.forall_mem_cons.mpr ⟨lw_p8, List.forall_mem_cons.mpr ⟨lw_p9, List.forall_mem_cons.mpr ⟨lw_p10, List.forall_mem_cons.mpr ⟨lw_p11, List.forall_mem_cons.mpr ⟨lw_p12, List.forall_mem_cons.mpr ⟨lw_p13, List.forall_mem_cons.mpr ⟨lw_p14, List.forall_mem_cons.mpr ⟨lw_p15, fun _ h => absurd h List.not_mem_nil⟩⟩⟩⟩⟩⟩⟩⟩⟩⟩⟩⟩⟩⟩⟩⟩
theorem lw_p16 : lw_okq (⟨"QuotaRegisterModel", "free", "(II)I"⟩, 31) := ⟨⟨by decide +kernel, by decide +kernel⟩, List.mem_of_getElem? (i := 688) (by decide +kernel), List.mem_of_getElem? (i := 857) (by decide +kernel), List.mem_of_getElem? (i := 858) (by decide +kernel)⟩
theorem lw_p17 : lw_okq (⟨"QuotaRegisterModel", "allot", "(III)V"⟩, 31) := ⟨⟨by decide +kernel, by decide +kernel⟩, List.mem_of_getElem? (i := 688) (by decide +kernel), List.mem_of_getElem? (i := 869) (by decide +kernel), List.mem_of_getElem? (i := 870) (by decide +kernel)⟩
theorem lw_p18 : lw_okq (⟨"QuotaRegisterModel", "work", "()V"⟩, 31) := ⟨⟨by decide +kernel, by decide +kernel⟩, List.mem_of_getElem? (i := 688) (by decide +kernel), List.mem_of_getElem? (i := 877) (by decide +kernel), List.mem_of_getElem? (i := 878) (by decide +kernel)⟩
theorem lw_p19 : lw_okq (⟨"QuotaRegisterModel", "may", "(I)Z"⟩, 31) := ⟨⟨by decide +kernel, by decide +kernel⟩, List.mem_of_getElem? (i := 688) (by decide +kernel), List.mem_of_getElem? (i := 881) (by decide +kernel), List.mem_of_getElem? (i := 882) (by decide +kernel)⟩
theorem lw_p20 : lw_okq (⟨"QuotaRegisterModel", "left", "(I)I"⟩, 31) := ⟨⟨by decide +kernel, by decide +kernel⟩, List.mem_of_getElem? (i := 688) (by decide +kernel), List.mem_of_getElem? (i := 885) (by decide +kernel), List.mem_of_getElem? (i := 886) (by decide +kernel)⟩
theorem lw_p21 : lw_okq (⟨"QuotaRegisterModel", "moved", "(III)I"⟩, 31) := ⟨⟨by decide +kernel, by decide +kernel⟩, List.mem_of_getElem? (i := 688) (by decide +kernel), List.mem_of_getElem? (i := 889) (by decide +kernel), List.mem_of_getElem? (i := 890) (by decide +kernel)⟩
theorem lw_p22 : lw_okq (⟨"QuotaRegisterModel", "act", "(I)V"⟩, 31) := ⟨⟨by decide +kernel, by decide +kernel⟩, List.mem_of_getElem? (i := 688) (by decide +kernel), List.mem_of_getElem? (i := 893) (by decide +kernel), List.mem_of_getElem? (i := 894) (by decide +kernel)⟩
theorem lw_p23 : lw_okq (⟨"QuotaRegisterModel", "close", "(I)V"⟩, 31) := ⟨⟨by decide +kernel, by decide +kernel⟩, List.mem_of_getElem? (i := 688) (by decide +kernel), List.mem_of_getElem? (i := 897) (by decide +kernel), List.mem_of_getElem? (i := 898) (by decide +kernel)⟩
theorem lw_p24 : lw_okq (⟨"QuotaRegisterModel", "tell", "(IIIIIII)V"⟩, 31) := ⟨⟨by decide +kernel, by decide +kernel⟩, List.mem_of_getElem? (i := 688) (by decide +kernel), List.mem_of_getElem? (i := 911) (by decide +kernel), List.mem_of_getElem? (i := 912) (by decide +kernel)⟩
theorem lw_p25 : lw_okq (⟨"QuotaRegisterModel", "put", "()I"⟩, 31) := ⟨⟨by decide +kernel, by decide +kernel⟩, List.mem_of_getElem? (i := 688) (by decide +kernel), List.mem_of_getElem? (i := 915) (by decide +kernel), List.mem_of_getElem? (i := 916) (by decide +kernel)⟩
theorem lw_p26 : lw_okq (⟨"QuotaRegisterModel", "wasYear", "(I)Z"⟩, 31) := ⟨⟨by decide +kernel, by decide +kernel⟩, List.mem_of_getElem? (i := 688) (by decide +kernel), List.mem_of_getElem? (i := 923) (by decide +kernel), List.mem_of_getElem? (i := 924) (by decide +kernel)⟩
theorem lw_p27 : lw_okq (⟨"QuotaRegisterModel", "takes", "(I)Z"⟩, 31) := ⟨⟨by decide +kernel, by decide +kernel⟩, List.mem_of_getElem? (i := 688) (by decide +kernel), List.mem_of_getElem? (i := 927) (by decide +kernel), List.mem_of_getElem? (i := 928) (by decide +kernel)⟩
def lw_privs_2 : List (MethodName × Nat) := [(⟨"QuotaRegisterModel", "free", "(II)I"⟩, 31), (⟨"QuotaRegisterModel", "allot", "(III)V"⟩, 31), (⟨"QuotaRegisterModel", "work", "()V"⟩, 31), (⟨"QuotaRegisterModel", "may", "(I)Z"⟩, 31), (⟨"QuotaRegisterModel", "left", "(I)I"⟩, 31), (⟨"QuotaRegisterModel", "moved", "(III)I"⟩, 31), (⟨"QuotaRegisterModel", "act", "(I)V"⟩, 31), (⟨"QuotaRegisterModel", "close", "(I)V"⟩, 31), (⟨"QuotaRegisterModel", "tell", "(IIIIIII)V"⟩, 31), (⟨"QuotaRegisterModel", "put", "()I"⟩, 31), (⟨"QuotaRegisterModel", "wasYear", "(I)Z"⟩, 31), (⟨"QuotaRegisterModel", "takes", "(I)Z"⟩, 31)]
theorem lw_r2 : ∀ q ∈ lw_privs_2, lw_okq q := List.forall_mem_cons.mpr ⟨lw_p16, List.forall_mem_cons.mpr ⟨lw_p17, List.forall_mem_cons.mpr ⟨lw_p18, List.forall_mem_cons.mpr ⟨lw_p19, List.forall_mem_cons.mpr ⟨lw_p20, List.forall_mem_cons.mpr ⟨lw_p21, List.forall_mem_cons.mpr ⟨lw_p22, List.forall_mem_cons.mpr ⟨lw_p23, List.forall_mem_cons.mpr ⟨lw_p24, List.forall_mem_cons.mpr ⟨lw_p25, List.forall_mem_cons.mpr ⟨lw_p26, List.forall_mem_cons.mpr ⟨lw_p27, fun _ h => absurd h List.not_mem_nil⟩⟩⟩⟩⟩⟩⟩⟩⟩⟩⟩⟩
def lw_privs : List (MethodName × Nat) := lw_privs_1 ++ (lw_privs_2)
def lw_tbl : List Cond := k2_sels lw_privs ++ tables_1
theorem lw_privs_ok : ∀ q ∈ lw_privs, lw_okq q := by
  show ∀ q ∈ lw_privs_1 ++ (lw_privs_2), lw_okq q
  exact List.forall_mem_append.mpr ⟨lw_r1, lw_r2⟩
end
section
/-! ===== BEGIN words of one list among another's, by their places ===== -/
theorem goodIn_r {big : List Cond} (ws : List Cond) (ps : List Nat) (hp : ws = ps.filterMap (fun i => big[i]?)) (h : ws.all goodWord = true) : GoodIn big ws := by
  intro w hw
  have h1 := List.all_eq_true.mp h w hw
  rw [hp] at hw
  obtain ⟨i, -, hi⟩ := List.mem_filterMap.mp hw
  have hm : w ∈ big := by first | exact List.mem_of_getElem? hi | exact List.getElem?_mem hi
  exact ⟨hm, good_of_word h1⟩
theorem goodIn_app {big a b : List Cond} (ha : GoodIn big a) (hb : GoodIn big b) : GoodIn big (a ++ b) := fun w h => (List.mem_append.mp h).elim (ha w) (hb w)
theorem goodIn_ca {big a b : List Cond} {c : Cond} (ha : GoodIn big (c :: a)) (hb : GoodIn big b) : GoodIn big (c :: (a ++ b)) := fun w h => (List.mem_cons.mp h).elim (fun e => ha w (List.mem_cons.mpr (Or.inl e))) (fun h => (List.mem_append.mp h).elim (fun h => ha w (List.mem_cons.mpr (Or.inr h))) (hb w))
theorem goodIn_sub {big ws : List Cond} (hm : ∀ w ∈ ws, w ∈ big) (h : ws.all goodWord = true) : GoodIn big ws := fun w hw => ⟨hm w hw, good_of_word (List.all_eq_true.mp h w hw)⟩
/-! ===== END ===== -/

/-! ===== BEGIN exceptions that leave a method, and their catching by the caller (launches without stack traces) ===== -/
section VXA
/-! The laws vx_back, vx_callV, vx_callS, vx_callSW, vx_throw0, vx_throwS follow proofs of the library, with one case more: JvmDerived/Free/Laws.lean (Back.of_free), Shelf42/LK1.lean (callV, callS), Shelf/KitTraced.lean (throwNew0V, throwNewS). -/

/-- where a method has thrown q: the class by its name, the cell, what was written, the world -/
def vx_T (XC : String → State → State → Prop) (st : State) (q : Addr) (t : State) (mc ms : Nat) (free : Addr → Prop) : Prop :=
  ∃ (E : String) (ce : Cell) (L : List Loc), XC E st t ∧ t.heap[q]? = some ce ∧ ce.vm = .none ∧ st.vm.findClass E = some ce.cls ∧ st.WarmedH t.vm ∧ st.sameButNew ({ t with vm := st.vm } : State) L mc ms ∧ ∀ z ∈ L, free z.base
def vx_Q (Qc : Array Value → State → Outcome → State → Prop) (XC : String → State → State → Prop) (mc ms : Nat) (free : Addr → Prop) : Array Value → State → Outcome → State → Prop := fun a st o t =>
  (Qc a st o t ∧ ∃ L, FrameEnd st o t L mc ms ∧ ∀ q ∈ L, free q.base) ∨ ∃ q, o = .threw q ∧ vx_T XC st q t mc ms free
/-- a callee that returns or throws -/
def vx_Met (l : Launch) (y : MethodName) (ws : List Cond) (rm : Room) (Pc : Array Value → State → Prop) (Qc : Array Value → State → Outcome → State → Prop) (XC : String → State → State → Prop) (mc ms : Nat) (free : Addr → Prop) : Prop :=
  MetFree l y (headSpec ws rm) Pc (fun _ _ _ _ _ => True) (vx_Q Qc XC mc ms free)
def vx_Post (XC : String → State → State → Prop) (mc ms : Nat) (free : Addr → Prop) : Pt → Array Value → Addr → Pt → Prop := fun A a q B =>
  ∃ (g : JFrame) (mk : MethodId) (t : State) (L : List Loc) (E : String) (ce : Cell), B.U.heap = t.heap ∧ B.U.vm = t.vm ∧ XC E (A.U.calling g mk a) t ∧ t.heap[q]? = some ce ∧ ce.vm = .none ∧ A.U.vm.findClass E = some ce.cls ∧ B.locs = A.locs ++ L ∧ (∀ z ∈ L, free z.base) ∧ B.cells = A.cells + mc ∧ B.slots = A.slots + ms
def vx_Back (l : Launch) (R : Room) (p : Program) (e : Env) (below : List Frame) (s : State) (sargs : Array Value) (y : MethodName) (len W9 : Nat)
    (Pre : Pt → Array Value → Prop) (Post : Pt → Array Value → Option Value → Pt → Prop) (PostX : Pt → Array Value → Addr → Pt → Prop) : Prop :=
  ∀ (m : MethodId) (meth : Method) (c : Code) (A : Pt) (g : JFrame) (ig : Instr) (mk : MethodId) (a : Array Value),
    Stand p l e R s m sargs below meth c A.U A.locs A.cells A.slots → g.method = m → g.locals.size = c.maxLocals → decode c.code g.pc = .ok (ig, len) →
    2 * g.monitorRoom + (g.stack.map fun v => v.category).sum ≤ W9 → A.U.methodNamed? y = some mk → Pre A a →
    (∃ (v : Option Value) (B : Pt), Stand p l e R s m sargs below meth c B.U B.locs B.cells B.slots ∧ Post A a v B ∧
      Steps p.tables e below (doInvoke e (A.U.setTop g) [] mk a).1 (B.U.setTop { g with pc := g.pc + len, stack := v.toList ++ g.stack })) ∨
    (∃ (q : Addr) (B : Pt), Stand p l e R s m sargs below meth c B.U B.locs B.cells B.slots ∧ PostX A a q B ∧
      Steps p.tables e below (doInvoke e (A.U.setTop g) [] mk a).1 ((B.U.setTop g).pushFrame (.throwing q)))
section Payer
variable {l : Launch} {R : Room} {p : Program} {e : Env} {below : List Frame} {s : State} {sargs : Array Value} {y : MethodName} {len W9 : Nat}
theorem vx_back {ws : List Cond} {rm : Room} {Pc : Array Value → State → Prop} {Qc : Array Value → State → Outcome → State → Prop} {XC : String → State → State → Prop} {mc ms : Nat} {free : Addr → Prop} {bytes : ByteArray} {maxL : Nat} {ret : Option FieldType}
    (hM : vx_Met l y ws rm Pc Qc XC mc ms free) (hblind : FrameBlind Pc) (hrc : rm.cells = mc) (hrs : rm.slots = ms)
    (hframes : rm.frames + 1 ≤ R.frames) (hlocals : W9 + (maxL + 11) + rm.locals ≤ R.locals)
    (hws : ∀ w ∈ ws, ∀ a' U, s.WarmedH U.vm → w.before a' U = true) (hcode : Cond.code y bytes maxL ret ∈ ws) (hinit : ∀ a' U, s.WarmedH U.vm → (Cond.initialized y.cls).before a' U = true) :
    vx_Back l R p e below s sargs y len W9 (PreOf R mc ms Pc) (PostOf Qc mc ms free) (vx_Post XC mc ms free) := by
  intro m meth c A g ig mk a X hg hsize hdg hW hn hp
  have h1 : (headSpec ws rm).pre.before a A.U = true := atoms_intro fun w hw => hws w hw _ _ X.warmed
  have h2 : (Cond.code y bytes maxL ret).before a A.U = true := hws _ hcode _ _ X.warmed
  have h3 : (Cond.initialized y.cls).before a A.U = true := hinit _ _ X.warmed
  have h4 : A.cells + (headSpec ws rm).room.cells ≤ R.cells := by rw [show (headSpec ws rm).room.cells = mc from hrc]; exact hp.1
  have h5 : A.slots + (headSpec ws rm).room.slots ≤ R.slots := by rw [show (headSpec ws rm).room.slots = ms from hrs]; exact hp.2.1
  have hPc : Pc a (A.U.calling g mk a) := hblind _ _ _ _ hp.2.2
  obtain ⟨U, Ls, c0, s0⟩ := A
  dsimp only [Pt.U, Pt.locs, Pt.cells, Pt.slots] at h1 h2 h3 h4 h5 X hn hPc ⊢
  obtain ⟨methY, cY, hmY, hcY, -, hlY, -, -, -, -⟩ := Cond.code_spec hn h2
  obtain ⟨kY, hkY, -⟩ := className_of_methodNamed hn
  have hinitY : kY.init = .initialized := Cond.initialized_spec (findClass_of_methodNamed hn) hkY h3
  have h : At U g.method c below := by rw [hg]; exact X.here
  have hlocals9 : W9 + (maxL + 11) + (headSpec ws rm).room.locals ≤ R.locals := hlocals
  have happ : (headSpec ws rm).appliesLoose y e.platform (U.calling g mk a) = true :=
    Spec.appliesLoose_calling (g := g) h hdg hn hkY hinitY
      (X.room_calling (g := g) (R' := (headSpec ws rm).room) hsize hmY hcY hframes (by rw [hlY]; omega) h4 h5) h1
  obtain ⟨mid, hmid⟩ := h.above
  have hfr : (U.setTop g).frames = (.java g :: mid) ++ below := by rw [State.frames_setTop' g h.top, hmid]; rfl
  obtain ⟨o, s₂, hsteps, -, hend, hq⟩ := Steps.callFree hM p X.admits X.cas X.clock (acts := []) hfr happ hPc trivial
  have hq' : vx_Q Qc XC mc ms free a (U.calling g mk a) o s₂ := hq
  rw [State.frames_setTop' g h.top] at hend
  obtain ⟨g₀, hg0⟩ := Option.isSome_iff_exists.mp h.top
  obtain ⟨r, hr⟩ := State.topJava?_eq_some.mp hg0
  have hr' : (({ U with heap := s₂.heap, slotsUsed := s₂.slotsUsed } : State).setVm s₂.vm).frames = .java g₀ :: r := hr
  rcases hq' with ⟨hqc, L, hfe, hL⟩ | ⟨q, rfl, E, ce, L, hx, hce, hcv, hcl, hW₂, hsm, hL⟩
  · obtain ⟨⟨v, rfl⟩, hW₂, e2, q2, q3, q4, q5, q6⟩ := id hfe
    have e3 : s₂ = ({ (U.calling g mk a).setFrames s₂.frames with heap := s₂.heap, slotsUsed := s₂.slotsUsed } : State).setVm s₂.vm := by
      have : s₂ = ({ s₂ with vm := (U.calling g mk a).vm } : State).setVm s₂.vm := rfl
      rw [e2] at this
      exact this
    obtain ⟨c₂, i₂, len₂, hc₂, hd₂, hf₂⟩ := hend
    have hW' : U.WarmedH s₂.vm := hW₂
    have hcc : c₂ = c := by
      have h1 : s₂.code? g.method = U.code? g.method := by
        rw [State.code?_eq, State.code?_eq, hW'.alike.method?]
      exact Option.some.inj (hc₂.symm.trans (h1.trans h.code))
    subst hcc
    have hlen : len₂ = len := by rw [hdg] at hd₂; cases hd₂; rfl
    subst hlen
    have hs₂ : s₂ = (({ U with heap := s₂.heap, slotsUsed := s₂.slotsUsed } : State).setVm s₂.vm).setTop { g with pc := g.pc + len₂, stack := v.toList ++ g.stack } := by
      refine e3.trans ?_
      rw [hf₂, State.calling_eq h.top, State.setFrames_setFrames, State.setTop_of_frames _ hr', hr]
      rfl
    have hsame : U.sameButNew ({ U with heap := s₂.heap, slotsUsed := s₂.slotsUsed } : State) L mc ms := by
      refine ⟨?_, q2, q3, q4, q5, q6⟩
      obtain ⟨t, ht, -⟩ := State.frames_cons hr
      show ({ U with heap := s₂.heap, slotsUsed := s₂.slotsUsed } : State) = { U.setFrames U.frames with heap := s₂.heap, slotsUsed := s₂.slotsUsed }
      rw [State.setFrames_self ht]
    subst hg
    refine Or.inl ⟨v, ⟨(({ U with heap := s₂.heap, slotsUsed := s₂.slotsUsed } : State).setVm s₂.vm), Ls ++ L, c0 + mc, s0 + ms⟩,
      ⟨X.admits, X.cas, X.clock, X.frames, X.room, X.hears, X.method, X.code, (X.here.setHeapUsed s₂.heap s₂.slotsUsed).setVm hW'.alike, X.tail, State.WarmedH.trans X.warmed hW', X.limits, X.bytes, X.same.trans (hsame.setVm s.vm)⟩,
      ⟨g, mk, s₂, L, rfl, rfl, hqc, rfl, hL, rfl, rfl⟩, ?_⟩
    show Steps p.tables e below _ ((({ U with heap := s₂.heap, slotsUsed := s₂.slotsUsed } : State).setVm s₂.vm).setTop { g with pc := g.pc + len₂, stack := v.toList ++ g.stack })
    rw [← hs₂]
    exact hsteps
  · obtain ⟨e2, q2, q3, q4, q5, q6⟩ := id hsm
    have e3 : s₂ = ({ (U.calling g mk a).setFrames s₂.frames with heap := s₂.heap, slotsUsed := s₂.slotsUsed } : State).setVm s₂.vm := by
      have : s₂ = ({ s₂ with vm := (U.calling g mk a).vm } : State).setVm s₂.vm := rfl
      rw [e2] at this
      exact this
    have hf₂ : s₂.frames = .throwing q :: .java g :: U.frames.tail := hend
    have hW' : U.WarmedH s₂.vm := hW₂
    have hs₂ : s₂ = ((({ U with heap := s₂.heap, slotsUsed := s₂.slotsUsed } : State).setVm s₂.vm).setTop g).pushFrame (.throwing q) := by
      refine e3.trans ?_
      rw [hf₂, State.calling_eq h.top, State.setFrames_setFrames, State.pushFrame, State.frames_setTop _ hr', State.setTop_of_frames _ hr', State.setFrames_setFrames, hr]
      rfl
    have hsame : U.sameButNew ({ U with heap := s₂.heap, slotsUsed := s₂.slotsUsed } : State) L mc ms := by
      refine ⟨?_, q2, q3, q4, q5, q6⟩
      obtain ⟨t, ht, -⟩ := State.frames_cons hr
      show ({ U with heap := s₂.heap, slotsUsed := s₂.slotsUsed } : State) = { U.setFrames U.frames with heap := s₂.heap, slotsUsed := s₂.slotsUsed }
      rw [State.setFrames_self ht]
    subst hg
    refine Or.inr ⟨q, ⟨(({ U with heap := s₂.heap, slotsUsed := s₂.slotsUsed } : State).setVm s₂.vm), Ls ++ L, c0 + mc, s0 + ms⟩,
      ⟨X.admits, X.cas, X.clock, X.frames, X.room, X.hears, X.method, X.code, (X.here.setHeapUsed s₂.heap s₂.slotsUsed).setVm hW'.alike, X.tail, State.WarmedH.trans X.warmed hW', X.limits, X.bytes, X.same.trans (hsame.setVm s.vm)⟩,
      ⟨g, mk, s₂, L, E, ce, rfl, rfl, hx, hce, hcv, hcl, rfl, hL, rfl, rfl⟩, ?_⟩
    show Steps p.tables e below _ (((({ U with heap := s₂.heap, slotsUsed := s₂.slotsUsed } : State).setVm s₂.vm).setTop g).pushFrame (.throwing q))
    rw [← hs₂]
    exact hsteps
end Payer
section Calls
variable {p : Program} {l : Launch} {e : Env} {R : Room} {s : State} {m : MethodId} {args : Array Value} {below : List Frame} {meth : Method} {c : Code} {T : State} {locs : List Loc} {cells slots : Nat}
theorem vx_callV (X : Stand p l e R s m args below meth c T locs cells slots) (hexec : p.tables.exec = Jvm.exec) {own C : String} {index : Nat} {y : MethodName} {bytes : ByteArray} {maxL : Nat} {ret : Option FieldType}
    (hown : s.vm.findClass own = some m.cls) (hlink : (Cond.methodLink own index y).before args s = true) (hinst : (Cond.instanceMethod y).before args s = true) (hsel : (Cond.selects C y y).before args s = true)
    (hcode : (Cond.code y bytes maxL ret).before args s = true) (hy : y.cls ≠ "java/lang/invoke/MethodHandle" ∧ y.cls ≠ "java/lang/invoke/VarHandle")
    {W9 : Nat} {Pre : Pt → Array Value → Prop} {Post : Pt → Array Value → Option Value → Pt → Prop} {PostX : Pt → Array Value → Addr → Pt → Prop} (hK : vx_Back l R p e below s args y 3 W9 Pre Post PostX)
    {b : Addr} {cellB : Cell} (hcell : T.heap[b]? = some cellB) (hobj : cellB.vm.isStatics = false) (hcls : s.vm.findClass C = some cellB.cls)
    {g : JFrame} (hg : g.method = m) (hsize : g.locals.size = c.maxLocals) {argsL rest : List Value} (hlen : ∀ sig, parseMethodDescriptor y.desc = some sig → argsL.length = sig.parameters.length)
    (hstack : g.stack = argsL.reverse ++ .ref b :: rest) (hW : 2 * g.monitorRoom + (rest.map fun v => v.category).sum ≤ W9) (hdg : decode c.code g.pc = .ok (.invokevirtual index, 3))
    (hpre : ∀ vm₁, s.WarmedH vm₁ → Pre ⟨T.setVm vm₁, locs, cells, slots⟩ (Value.ref b :: argsL).toArray) :
    (∃ (v : Option Value) (vm₁ : Vm) (B : Pt), s.WarmedH vm₁ ∧ Stand p l e R s m args below meth c B.U B.locs B.cells B.slots ∧ Post ⟨T.setVm vm₁, locs, cells, slots⟩ (Value.ref b :: argsL).toArray v B ∧
      ∀ target, Steps p.tables e below (B.U.setTop { g with pc := g.pc + 3, stack := v.toList ++ rest }) target → Steps p.tables e below (T.setTop g) target) ∨
    (∃ (q : Addr) (vm₁ : Vm) (B : Pt), s.WarmedH vm₁ ∧ Stand p l e R s m args below meth c B.U B.locs B.cells B.slots ∧ PostX ⟨T.setVm vm₁, locs, cells, slots⟩ (Value.ref b :: argsL).toArray q B ∧
      Steps p.tables e below (T.setTop g) ((B.U.setTop { g with stack := rest }).pushFrame (.throwing q))) := by
  obtain ⟨mk, methM, hnamed, hmethM, hstM, habM⟩ := Cond.instanceMethod_spec hinst
  obtain ⟨methM', cM, hmethM', -, -, -, -, -, -, hsigM⟩ := Cond.code_spec hnamed hcode
  cases hmethM.symm.trans hmethM'
  obtain ⟨c2, r2, m2, q1, q2, q3, q4, kP, hkP, hkPi⟩ := Cond.selects_spec hsel
  cases hcls.symm.trans q1
  cases (State.methodFound?_of_named hnamed hy).symm.trans q2
  cases hnamed.symm.trans q3
  have hselP : selectMethod e.platform s.vm cellB.cls mk = .method mk := by rw [Launch.admits_selectMethod X.admits]; exact q4
  obtain ⟨vm₁, X₁, hstep₁⟩ := X.invokevirtual hexec hown hlink hnamed hmethM hstM hkP hkPi hy (a := b) (cell := cellB) hcell
    (fun z h => by rw [h] at hobj; cases hobj) hselP hmethM habM hkP hkPi (g := g) hg (argsL := argsL) (rest := rest) (hlen _ hsigM) hstack hdg
  rcases hK m meth c ⟨T.setVm vm₁, locs, cells, slots⟩ { g with stack := rest } (.invokevirtual index) mk (Value.ref b :: argsL).toArray X₁ hg hsize hdg hW (X₁.named hnamed) (hpre vm₁ X₁.warmed) with ⟨v, B, X', hpost, hsteps⟩ | ⟨q, B, X', hpost, hsteps⟩
  · exact Or.inl ⟨v, vm₁, B, X₁.warmed, X', hpost, fun target h => hstep₁ _ fun acts => by rw [doInvoke_state]; exact hsteps.trans h⟩
  · exact Or.inr ⟨q, vm₁, B, X₁.warmed, X', hpost, hstep₁ _ fun acts => by rw [doInvoke_state]; exact hsteps⟩
theorem vx_callS (X : Stand p l e R s m args below meth c T locs cells slots) (hexec : p.tables.exec = Jvm.exec) {own : String} {index : Nat} {y : MethodName} {bytes : ByteArray} {maxL : Nat} {ret : Option FieldType}
    (hown : s.vm.findClass own = some m.cls) (hlink : (Cond.methodLink own index y).before args s = true) (hstat : (Cond.static y).before args s = true) (hinit : (Cond.initialized y.cls).before args s = true)
    (hcode : (Cond.code y bytes maxL ret).before args s = true) (hy : y.cls ≠ "java/lang/invoke/MethodHandle" ∧ y.cls ≠ "java/lang/invoke/VarHandle")
    {W9 : Nat} {Pre : Pt → Array Value → Prop} {Post : Pt → Array Value → Option Value → Pt → Prop} {PostX : Pt → Array Value → Addr → Pt → Prop} (hK : vx_Back l R p e below s args y 3 W9 Pre Post PostX)
    {g : JFrame} (hg : g.method = m) (hsize : g.locals.size = c.maxLocals) {argsL rest : List Value} (hlen : ∀ sig, parseMethodDescriptor y.desc = some sig → argsL.length = sig.parameters.length)
    (hstack : g.stack = argsL.reverse ++ rest) (hW : 2 * g.monitorRoom + (rest.map fun v => v.category).sum ≤ W9) (hdg : decode c.code g.pc = .ok (.invokestatic index, 3))
    (hpre : ∀ vm₁, s.WarmedH vm₁ → Pre ⟨T.setVm vm₁, locs, cells, slots⟩ argsL.toArray) :
    (∃ (v : Option Value) (vm₁ : Vm) (B : Pt), s.WarmedH vm₁ ∧ Stand p l e R s m args below meth c B.U B.locs B.cells B.slots ∧ Post ⟨T.setVm vm₁, locs, cells, slots⟩ argsL.toArray v B ∧
      ∀ target, Steps p.tables e below (B.U.setTop { g with pc := g.pc + 3, stack := v.toList ++ rest }) target → Steps p.tables e below (T.setTop g) target) ∨
    (∃ (q : Addr) (vm₁ : Vm) (B : Pt), s.WarmedH vm₁ ∧ Stand p l e R s m args below meth c B.U B.locs B.cells B.slots ∧ PostX ⟨T.setVm vm₁, locs, cells, slots⟩ argsL.toArray q B ∧
      Steps p.tables e below (T.setTop g) ((B.U.setTop { g with stack := rest }).pushFrame (.throwing q))) := by
  obtain ⟨mk, hnamed⟩ := Cond.code_named hcode
  obtain ⟨methM, cM, hmethM, -, -, -, -, -, -, hsigM⟩ := Cond.code_spec hnamed hcode
  have hstatic : methM.isStatic = true := Cond.static_spec hnamed hmethM hstat
  obtain ⟨kP, hkP, -⟩ := className_of_methodNamed hnamed
  have hinitP : kP.init = .initialized := Cond.initialized_spec (findClass_of_methodNamed hnamed) hkP hinit
  obtain ⟨vm₁, X₁, hstep₁⟩ := X.invokestatic hexec hown hlink hnamed hmethM hstatic hkP hinitP hy (g := g) hg (argsL := argsL) (rest := rest) (hlen _ hsigM) hstack hdg
  rcases hK m meth c ⟨T.setVm vm₁, locs, cells, slots⟩ { g with stack := rest } (.invokestatic index) mk argsL.toArray X₁ hg hsize hdg hW (X₁.named hnamed) (hpre vm₁ X₁.warmed) with ⟨v, B, X', hpost, hsteps⟩ | ⟨q, B, X', hpost, hsteps⟩
  · exact Or.inl ⟨v, vm₁, B, X₁.warmed, X', hpost, fun target h => hstep₁ _ fun acts => by rw [doInvoke_state]; exact hsteps.trans h⟩
  · exact Or.inr ⟨q, vm₁, B, X₁.warmed, X', hpost, hstep₁ _ fun acts => by rw [doInvoke_state]; exact hsteps⟩
end Calls
theorem vx_cls {s : State} {T : State} {vm₁ : Vm} {E : String} {k : ClassId} (hW : s.WarmedH vm₁) (h : (T.setVm vm₁).vm.findClass E = some k) : s.vm.findClass E = some k := by
  have h1 : vm₁.findClass E = some k := h
  rw [hW.alike.findClass] at h1
  exact h1
/-- the method's frame g, with q thrown over it -/
def vx_W (p : Program) (l : Launch) (e : Env) (R : Room) (s : State) (m : MethodId) (args : Array Value) (below : List Frame) (meth : Method) (c : Code) (H : Heap) (locs : List Loc) (cells slots : Nat) (Q : State → Prop) (g : JFrame) (q : Addr) : Prop :=
  ∀ T : State, T.heap = H → Stand p l e R s m args below meth c T locs cells slots → ∃ t, Steps p.tables e below ((T.setTop g).pushFrame (.throwing q)) t ∧ Q t
def vx_Run (p : Program) (l : Launch) (e : Env) (R : Room) (s : State) (m : MethodId) (args : Array Value) (below : List Frame) (meth : Method) (c : Code) (H : Heap) (locs : List Loc) (cells slots mc ms : Nat) (g : JFrame) (rest : List Value) (Qa : State → Outcome → State → Prop) (XC : String → State → State → Prop) (free : Addr → Prop) : Prop :=
  ∀ T : State, T.heap = H → Stand p l e R s m args below meth c T locs cells slots →
    (∃ (v : Option Value) (st₀ t T' : State) (L : List Loc), st₀.heap = H ∧ Stand p l e R s m args below meth c T' (locs ++ L) (cells + mc) (slots + ms) ∧ (∀ q ∈ L, free q.base) ∧ T'.heap = t.heap ∧ T'.vm = t.vm ∧ Qa st₀ (.returned v) t ∧
      Goes p e below T g T' { g with pc := g.pc + 3, stack := v.toList ++ rest }) ∨
    (∃ (q : Addr) (st₀ t T' : State) (L : List Loc) (E : String) (ce : Cell), st₀.heap = H ∧ Stand p l e R s m args below meth c T' (locs ++ L) (cells + mc) (slots + ms) ∧ (∀ z ∈ L, free z.base) ∧ T'.heap = t.heap ∧ T'.vm = t.vm ∧ XC E st₀ t ∧ t.heap[q]? = some ce ∧ ce.vm = .none ∧ s.vm.findClass E = some ce.cls ∧
      Steps p.tables e below (T.setTop g) ((T'.setTop { g with stack := rest }).pushFrame (.throwing q)))
def vx_X {S : Type} (px : S → Prop) (B : String → S → State → Prop) (A : Nat → Prop) : String → State → State → Prop := fun E st t => ∃ u : S, px u ∧ B E u t ∧ va_F A st t
section Runs
variable {p : Program} {l : Launch} {e : Env} {R : Room} {s : State} {m : MethodId} {args : Array Value} {below : List Frame} {meth : Method} {c : Code} {H : Heap} {locs : List Loc} {cells slots : Nat}
variable {y : MethodName} {bytes cc : ByteArray} {maxL nL mc ms n index : Nat} {ret : Option FieldType} {ws : List Cond} {rm : Room} {Pc : Array Value → State → Prop} {Qc : Array Value → State → Outcome → State → Prop} {XC : String → State → State → Prop} {free : Addr → Prop} {Ts : List Cond} {own C : String} {b : Addr} {As rest : List Value} {g : JFrame}
theorem vx_callBack (cb : CallB R s args own index y bytes maxL ret ws rm mc ms n) (hM : vx_Met l y ws rm Pc Qc XC mc ms free) (hbl : FrameBlind Pc) : vx_Back l R p e below s args y 3 8 (PreOf R mc ms Pc) (PostOf Qc mc ms free) (vx_Post XC mc ms free) := by
  obtain ⟨hrc, hrs, hfr, hlo, hws, hcw, -, hini, -⟩ := cb
  exact vx_back (bytes := bytes) (maxL := maxL) (ret := ret) hM hbl hrc hrs hfr hlo hws hcw (fun a' U hW => word_at hW (Or.inl (by first | rfl | simp [Cond.onTables, Cond.keeps, Cond.steady])) hini)
theorem vx_runV (S : CallFix p m c cc nL s args Ts own) (hM : vx_Met l y ws rm Pc Qc XC mc ms free) (cw : CallW R s args own C index y bytes maxL ret ws rm mc ms n) (hp : PreV s H C b Pc As)
    (hg : g.method = m) (hn : As.length = n) (hsize : g.locals.size = nL) (hstack : g.stack = As.reverse ++ .ref b :: rest) (hW : 2 * g.monitorRoom + (rest.map fun v => v.category).sum ≤ 8) (hdg : decode cc g.pc = .ok (.invokevirtual index, 3)) (hf : cells + mc ≤ R.cells ∧ slots + ms ≤ R.slots) :
    vx_Run p l e R s m args below meth c H locs cells slots mc ms g rest (Qc (Value.ref b :: As).toArray) XC free := by
  have hK : vx_Back l R p e below s args y 3 8 (PreOf R mc ms Pc) (PostOf Qc mc ms free) (vx_Post XC mc ms free) := vx_callBack cw.1 hM hp.1
  obtain ⟨⟨-, -, -, -, -, -, hcode, -, hy, hlen, hl⟩, hin, hse⟩ := cw
  obtain ⟨hx, hb, hml, ho, -⟩ := S
  obtain ⟨-, ⟨cellB, hcB, hoB, hclB⟩, hPc⟩ := hp
  intro T hT X
  rcases vx_callV X hx (C := C) (bytes := bytes) (maxL := maxL) (ret := ret) ho hl hin hse hcode hy hK (by rw [hT]; exact hcB) hoB hclB hg (hsize.trans hml.symm) (argsL := As) (rest := rest) (fun sig h => hn.trans (hlen sig h)) hstack hW (by rw [hb]; exact hdg)
    (fun vm₁ hW₁ => ⟨hf.1, hf.2, hPc (T.setVm vm₁) hT hW₁⟩) with ⟨v, vm₁, ⟨U', l2, c2, s2⟩, hW₁, X', ⟨g', mk, t, L, e1, e2, hq, h1, hL, h2, h3⟩, st⟩ | ⟨q, vm₁, ⟨U', l2, c2, s2⟩, hW₁, X', ⟨g', mk, t, L, E, ce, e1, e2, hq, hce, hcv, hcl, h1, hL, h2, h3⟩, st⟩
  · dsimp only [Pt.U, Pt.locs, Pt.cells, Pt.slots] at X' e1 e2 h1 h2 h3 st
    subst h1; subst h2; subst h3
    exact Or.inl ⟨v, (T.setVm vm₁).calling g' mk (Value.ref b :: As).toArray, t, U', L, hT, X', hL, e1, e2, hq, st⟩
  · dsimp only [Pt.U, Pt.locs, Pt.cells, Pt.slots] at X' e1 e2 h1 h2 h3 st hcl
    subst h1; subst h2; subst h3
    exact Or.inr ⟨q, (T.setVm vm₁).calling g' mk (Value.ref b :: As).toArray, t, U', L, E, ce, hT, X', hL, e1, e2, hq, hce, hcv, vx_cls hW₁ hcl, st⟩
theorem vx_runS (S : CallFix p m c cc nL s args Ts own) (hM : vx_Met l y ws rm Pc Qc XC mc ms free) (cw : CallB R s args own index y bytes maxL ret ws rm mc ms n ∧ (Cond.static y).before args s = true) (hp : PreS s H Pc As)
    (hg : g.method = m) (hn : As.length = n) (hsize : g.locals.size = nL) (hstack : g.stack = As.reverse ++ rest) (hW : 2 * g.monitorRoom + (rest.map fun v => v.category).sum ≤ 8) (hdg : decode cc g.pc = .ok (.invokestatic index, 3)) (hf : cells + mc ≤ R.cells ∧ slots + ms ≤ R.slots) :
    vx_Run p l e R s m args below meth c H locs cells slots mc ms g rest (Qc As.toArray) XC free := by
  have hK : vx_Back l R p e below s args y 3 8 (PreOf R mc ms Pc) (PostOf Qc mc ms free) (vx_Post XC mc ms free) := vx_callBack cw.1 hM hp.1
  obtain ⟨⟨-, -, -, -, -, -, hcode, hini, hy, hlen, hl⟩, hstt⟩ := cw
  obtain ⟨hx, hb, hml, ho, -⟩ := S
  intro T hT X
  rcases vx_callS X hx (bytes := bytes) (maxL := maxL) (ret := ret) ho hl hstt hini hcode hy hK hg (hsize.trans hml.symm) (argsL := As) (rest := rest) (fun sig h => hn.trans (hlen sig h)) hstack hW (by rw [hb]; exact hdg)
    (fun vm₁ hW₁ => ⟨hf.1, hf.2, hp.2 (T.setVm vm₁) hT hW₁⟩) with ⟨v, vm₁, ⟨U', l2, c2, s2⟩, hW₁, X', ⟨g', mk, t, L, e1, e2, hq, h1, hL, h2, h3⟩, st⟩ | ⟨q, vm₁, ⟨U', l2, c2, s2⟩, hW₁, X', ⟨g', mk, t, L, E, ce, e1, e2, hq, hce, hcv, hcl, h1, hL, h2, h3⟩, st⟩
  · dsimp only [Pt.U, Pt.locs, Pt.cells, Pt.slots] at X' e1 e2 h1 h2 h3 st
    subst h1; subst h2; subst h3
    exact Or.inl ⟨v, (T.setVm vm₁).calling g' mk As.toArray, t, U', L, hT, X', hL, e1, e2, hq, st⟩
  · dsimp only [Pt.U, Pt.locs, Pt.cells, Pt.slots] at X' e1 e2 h1 h2 h3 st hcl
    subst h1; subst h2; subst h3
    exact Or.inr ⟨q, (T.setVm vm₁).calling g' mk As.toArray, t, U', L, E, ce, hT, X', hL, e1, e2, hq, hce, hcv, vx_cls hW₁ hcl, st⟩
end Runs
section Rows
variable {p : Program} {l : Launch} {e : Env} {R : Room} {s : State} {m : MethodId} {args : Array Value} {below : List Frame} {meth : Method} {c : Code} {H : Heap} {locs : List Loc} {cells slots : Nat} {Q : State → Prop}
variable {mc ms : Nat} {free : Addr → Prop} {A0 A1 : Nat → Prop} {H0 : Heap} {a : Array Value} {pc : Nat} {ls : Array Slot} {st0 rest : List Value}
theorem vx_keep {st₀ t T' : State} {L : List Loc} (h0 : st₀.heap = H) (e1 : T'.heap = t.heap) (hS : va_S A0 H0 H locs) (hA : ∀ q, q < H.size → A1 q → A0 q) (hf : ∀ q, free q → A0 q) (hL : ∀ q ∈ L, free q.base) (hF : va_F A1 st₀ t) :
    H.size ≤ T'.heap.size ∧ (∀ q : Nat, q < H.size → ¬ A1 q → T'.heap[q]? = H[q]?) ∧ va_S A0 H0 T'.heap (locs ++ L) := by
  obtain ⟨hz, hk⟩ := hF
  rw [h0] at hz hk
  exact ⟨by rw [e1]; exact hz, fun q h1 h2 => by rw [e1]; exact hk q h1 h2,
    ⟨Nat.le_trans hS.1 (by rw [e1]; exact hz), fun q h1 h2 => by rw [e1, hk q (Nat.lt_of_lt_of_le h1 hS.1) (fun z => h2 (hA q (Nat.lt_of_lt_of_le h1 hS.1) z))]; exact hS.2.1 q h1 h2, fun q hq => by
      rcases List.mem_append.mp hq with h | h
      · exact hS.2.2 q h
      · exact hf _ (hL q h)⟩⟩
theorem vx_calli {S SX : Type} {post : Int32 → S → Prop} {px : SX → Prop} {B : S → State → Prop} {BX : String → SX → State → Prop} {AX : Nat → Prop} (hr : vx_Run p l e R s m args below meth c H locs cells slots mc ms (F0 m pc ls st0) rest (va_Qi post B A1 a) (vx_X px BX AX) free) (hS : va_S A0 H0 H locs) (hA : ∀ q, q < H.size → A1 q → A0 q) (hf : ∀ q, free q → A0 q) (hAX : ∀ q, q < H.size → AX q → A0 q)
    (kx : ∀ (E : String) (ce : Cell) (q9 : Addr) (u : SX) (t : State) (H1 : Heap) (locs1 : List Loc), t.heap = H1 → s.vm.Alike t.vm → px u → BX E u t → H.size ≤ H1.size → (∀ q : Nat, q < H.size → ¬ AX q → H1[q]? = H[q]?) → va_S A0 H0 H1 locs1 → H1[q9]? = some ce → ce.vm = .none → s.vm.findClass E = some ce.cls → vx_W p l e R s m args below meth c H1 locs1 (cells + mc) (slots + ms) Q (F0 m pc ls rest) q9)
    (kk : ∀ (r : Int32) (u : S) (t : State) (H1 : Heap) (locs1 : List Loc), t.heap = H1 → s.vm.Alike t.vm → post r u → B u t → H.size ≤ H1.size → (∀ q : Nat, q < H.size → ¬ A1 q → H1[q]? = H[q]?) → va_S A0 H0 H1 locs1 → W p l e R s m args below meth c H1 locs1 (cells + mc) (slots + ms) Q (F0 m (pc + 3) ls (.int r :: rest))) : W p l e R s m args below meth c H locs cells slots Q (F0 m pc ls st0) := by
  intro T hT X
  rcases hr T hT X with ⟨v, st₀, t, T', L, h0, X', hL, e1, e2, ⟨⟨r, u, hv, hp, hb⟩, hF⟩, st⟩ | ⟨q, st₀, t, T', L, E, ce, h0, X', hL, e1, e2, ⟨u, hp, hb, hF⟩, hce, hcv, hcl, st⟩
  · cases hv
    obtain ⟨k1, k2, k3⟩ := vx_keep h0 e1 hS hA hf hL hF
    obtain ⟨t2, a1, b1⟩ := kk r u t T'.heap (locs ++ L) e1.symm (by rw [← e2]; exact X'.warmed.alike) hp hb k1 k2 k3 T' rfl X'
    exact ⟨t2, st t2 a1, b1⟩
  · obtain ⟨k1, k2, k3⟩ := vx_keep h0 e1 hS hAX hf hL hF
    obtain ⟨t2, a1, b1⟩ := kx E ce q u t T'.heap (locs ++ L) e1.symm (by rw [← e2]; exact X'.warmed.alike) hp hb k1 k2 k3 (by rw [e1]; exact hce) hcv hcl T' rfl X'
    exact ⟨t2, st.trans a1, b1⟩
theorem vx_calll {S SX : Type} {post : Int64 → S → Prop} {px : SX → Prop} {B : S → State → Prop} {BX : String → SX → State → Prop} {AX : Nat → Prop} (hr : vx_Run p l e R s m args below meth c H locs cells slots mc ms (F0 m pc ls st0) rest (va_Ql post B A1 a) (vx_X px BX AX) free) (hS : va_S A0 H0 H locs) (hA : ∀ q, q < H.size → A1 q → A0 q) (hf : ∀ q, free q → A0 q) (hAX : ∀ q, q < H.size → AX q → A0 q)
    (kx : ∀ (E : String) (ce : Cell) (q9 : Addr) (u : SX) (t : State) (H1 : Heap) (locs1 : List Loc), t.heap = H1 → s.vm.Alike t.vm → px u → BX E u t → H.size ≤ H1.size → (∀ q : Nat, q < H.size → ¬ AX q → H1[q]? = H[q]?) → va_S A0 H0 H1 locs1 → H1[q9]? = some ce → ce.vm = .none → s.vm.findClass E = some ce.cls → vx_W p l e R s m args below meth c H1 locs1 (cells + mc) (slots + ms) Q (F0 m pc ls rest) q9)
    (kk : ∀ (r : Int64) (u : S) (t : State) (H1 : Heap) (locs1 : List Loc), t.heap = H1 → s.vm.Alike t.vm → post r u → B u t → H.size ≤ H1.size → (∀ q : Nat, q < H.size → ¬ A1 q → H1[q]? = H[q]?) → va_S A0 H0 H1 locs1 → W p l e R s m args below meth c H1 locs1 (cells + mc) (slots + ms) Q (F0 m (pc + 3) ls (.long r :: rest))) : W p l e R s m args below meth c H locs cells slots Q (F0 m pc ls st0) := by
  intro T hT X
  rcases hr T hT X with ⟨v, st₀, t, T', L, h0, X', hL, e1, e2, ⟨⟨r, u, hv, hp, hb⟩, hF⟩, st⟩ | ⟨q, st₀, t, T', L, E, ce, h0, X', hL, e1, e2, ⟨u, hp, hb, hF⟩, hce, hcv, hcl, st⟩
  · cases hv
    obtain ⟨k1, k2, k3⟩ := vx_keep h0 e1 hS hA hf hL hF
    obtain ⟨t2, a1, b1⟩ := kk r u t T'.heap (locs ++ L) e1.symm (by rw [← e2]; exact X'.warmed.alike) hp hb k1 k2 k3 T' rfl X'
    exact ⟨t2, st t2 a1, b1⟩
  · obtain ⟨k1, k2, k3⟩ := vx_keep h0 e1 hS hAX hf hL hF
    obtain ⟨t2, a1, b1⟩ := kx E ce q u t T'.heap (locs ++ L) e1.symm (by rw [← e2]; exact X'.warmed.alike) hp hb k1 k2 k3 (by rw [e1]; exact hce) hcv hcl T' rfl X'
    exact ⟨t2, st.trans a1, b1⟩
theorem vx_callf {S SX : Type} {post : UInt32 → S → Prop} {px : SX → Prop} {B : S → State → Prop} {BX : String → SX → State → Prop} {AX : Nat → Prop} (hr : vx_Run p l e R s m args below meth c H locs cells slots mc ms (F0 m pc ls st0) rest (va_Qf post B A1 a) (vx_X px BX AX) free) (hS : va_S A0 H0 H locs) (hA : ∀ q, q < H.size → A1 q → A0 q) (hf : ∀ q, free q → A0 q) (hAX : ∀ q, q < H.size → AX q → A0 q)
    (kx : ∀ (E : String) (ce : Cell) (q9 : Addr) (u : SX) (t : State) (H1 : Heap) (locs1 : List Loc), t.heap = H1 → s.vm.Alike t.vm → px u → BX E u t → H.size ≤ H1.size → (∀ q : Nat, q < H.size → ¬ AX q → H1[q]? = H[q]?) → va_S A0 H0 H1 locs1 → H1[q9]? = some ce → ce.vm = .none → s.vm.findClass E = some ce.cls → vx_W p l e R s m args below meth c H1 locs1 (cells + mc) (slots + ms) Q (F0 m pc ls rest) q9)
    (kk : ∀ (r : UInt32) (u : S) (t : State) (H1 : Heap) (locs1 : List Loc), t.heap = H1 → s.vm.Alike t.vm → post r u → B u t → H.size ≤ H1.size → (∀ q : Nat, q < H.size → ¬ A1 q → H1[q]? = H[q]?) → va_S A0 H0 H1 locs1 → W p l e R s m args below meth c H1 locs1 (cells + mc) (slots + ms) Q (F0 m (pc + 3) ls (.float r :: rest))) : W p l e R s m args below meth c H locs cells slots Q (F0 m pc ls st0) := by
  intro T hT X
  rcases hr T hT X with ⟨v, st₀, t, T', L, h0, X', hL, e1, e2, ⟨⟨r, u, hv, hp, hb⟩, hF⟩, st⟩ | ⟨q, st₀, t, T', L, E, ce, h0, X', hL, e1, e2, ⟨u, hp, hb, hF⟩, hce, hcv, hcl, st⟩
  · cases hv
    obtain ⟨k1, k2, k3⟩ := vx_keep h0 e1 hS hA hf hL hF
    obtain ⟨t2, a1, b1⟩ := kk r u t T'.heap (locs ++ L) e1.symm (by rw [← e2]; exact X'.warmed.alike) hp hb k1 k2 k3 T' rfl X'
    exact ⟨t2, st t2 a1, b1⟩
  · obtain ⟨k1, k2, k3⟩ := vx_keep h0 e1 hS hAX hf hL hF
    obtain ⟨t2, a1, b1⟩ := kx E ce q u t T'.heap (locs ++ L) e1.symm (by rw [← e2]; exact X'.warmed.alike) hp hb k1 k2 k3 (by rw [e1]; exact hce) hcv hcl T' rfl X'
    exact ⟨t2, st.trans a1, b1⟩
theorem vx_calld {S SX : Type} {post : UInt64 → S → Prop} {px : SX → Prop} {B : S → State → Prop} {BX : String → SX → State → Prop} {AX : Nat → Prop} (hr : vx_Run p l e R s m args below meth c H locs cells slots mc ms (F0 m pc ls st0) rest (va_Qd post B A1 a) (vx_X px BX AX) free) (hS : va_S A0 H0 H locs) (hA : ∀ q, q < H.size → A1 q → A0 q) (hf : ∀ q, free q → A0 q) (hAX : ∀ q, q < H.size → AX q → A0 q)
    (kx : ∀ (E : String) (ce : Cell) (q9 : Addr) (u : SX) (t : State) (H1 : Heap) (locs1 : List Loc), t.heap = H1 → s.vm.Alike t.vm → px u → BX E u t → H.size ≤ H1.size → (∀ q : Nat, q < H.size → ¬ AX q → H1[q]? = H[q]?) → va_S A0 H0 H1 locs1 → H1[q9]? = some ce → ce.vm = .none → s.vm.findClass E = some ce.cls → vx_W p l e R s m args below meth c H1 locs1 (cells + mc) (slots + ms) Q (F0 m pc ls rest) q9)
    (kk : ∀ (r : UInt64) (u : S) (t : State) (H1 : Heap) (locs1 : List Loc), t.heap = H1 → s.vm.Alike t.vm → post r u → B u t → H.size ≤ H1.size → (∀ q : Nat, q < H.size → ¬ A1 q → H1[q]? = H[q]?) → va_S A0 H0 H1 locs1 → W p l e R s m args below meth c H1 locs1 (cells + mc) (slots + ms) Q (F0 m (pc + 3) ls (.double r :: rest))) : W p l e R s m args below meth c H locs cells slots Q (F0 m pc ls st0) := by
  intro T hT X
  rcases hr T hT X with ⟨v, st₀, t, T', L, h0, X', hL, e1, e2, ⟨⟨r, u, hv, hp, hb⟩, hF⟩, st⟩ | ⟨q, st₀, t, T', L, E, ce, h0, X', hL, e1, e2, ⟨u, hp, hb, hF⟩, hce, hcv, hcl, st⟩
  · cases hv
    obtain ⟨k1, k2, k3⟩ := vx_keep h0 e1 hS hA hf hL hF
    obtain ⟨t2, a1, b1⟩ := kk r u t T'.heap (locs ++ L) e1.symm (by rw [← e2]; exact X'.warmed.alike) hp hb k1 k2 k3 T' rfl X'
    exact ⟨t2, st t2 a1, b1⟩
  · obtain ⟨k1, k2, k3⟩ := vx_keep h0 e1 hS hAX hf hL hF
    obtain ⟨t2, a1, b1⟩ := kx E ce q u t T'.heap (locs ++ L) e1.symm (by rw [← e2]; exact X'.warmed.alike) hp hb k1 k2 k3 (by rw [e1]; exact hce) hcv hcl T' rfl X'
    exact ⟨t2, st.trans a1, b1⟩
theorem vx_callv {S SX : Type} {post : S → Prop} {px : SX → Prop} {B : S → State → Prop} {BX : String → SX → State → Prop} {AX : Nat → Prop} (hr : vx_Run p l e R s m args below meth c H locs cells slots mc ms (F0 m pc ls st0) rest (va_Qv post B A1 a) (vx_X px BX AX) free) (hS : va_S A0 H0 H locs) (hA : ∀ q, q < H.size → A1 q → A0 q) (hf : ∀ q, free q → A0 q) (hAX : ∀ q, q < H.size → AX q → A0 q)
    (kx : ∀ (E : String) (ce : Cell) (q9 : Addr) (u : SX) (t : State) (H1 : Heap) (locs1 : List Loc), t.heap = H1 → s.vm.Alike t.vm → px u → BX E u t → H.size ≤ H1.size → (∀ q : Nat, q < H.size → ¬ AX q → H1[q]? = H[q]?) → va_S A0 H0 H1 locs1 → H1[q9]? = some ce → ce.vm = .none → s.vm.findClass E = some ce.cls → vx_W p l e R s m args below meth c H1 locs1 (cells + mc) (slots + ms) Q (F0 m pc ls rest) q9)
    (kk : ∀ (u : S) (t : State) (H1 : Heap) (locs1 : List Loc), t.heap = H1 → s.vm.Alike t.vm → post u → B u t → H.size ≤ H1.size → (∀ q : Nat, q < H.size → ¬ A1 q → H1[q]? = H[q]?) → va_S A0 H0 H1 locs1 → W p l e R s m args below meth c H1 locs1 (cells + mc) (slots + ms) Q (F0 m (pc + 3) ls (rest))) : W p l e R s m args below meth c H locs cells slots Q (F0 m pc ls st0) := by
  intro T hT X
  rcases hr T hT X with ⟨v, st₀, t, T', L, h0, X', hL, e1, e2, ⟨⟨u, hv, hp, hb⟩, hF⟩, st⟩ | ⟨q, st₀, t, T', L, E, ce, h0, X', hL, e1, e2, ⟨u, hp, hb, hF⟩, hce, hcv, hcl, st⟩
  · cases hv
    obtain ⟨k1, k2, k3⟩ := vx_keep h0 e1 hS hA hf hL hF
    obtain ⟨t2, a1, b1⟩ := kk u t T'.heap (locs ++ L) e1.symm (by rw [← e2]; exact X'.warmed.alike) hp hb k1 k2 k3 T' rfl X'
    exact ⟨t2, st t2 a1, b1⟩
  · obtain ⟨k1, k2, k3⟩ := vx_keep h0 e1 hS hAX hf hL hF
    obtain ⟨t2, a1, b1⟩ := kx E ce q u t T'.heap (locs ++ L) e1.symm (by rw [← e2]; exact X'.warmed.alike) hp hb k1 k2 k3 (by rw [e1]; exact hce) hcv hcl T' rfl X'
    exact ⟨t2, st.trans a1, b1⟩
end Rows
section Ends
variable {p : Program} {l : Launch} {e : Env} {R : Room} {s : State} {m : MethodId} {args : Array Value} {below : List Frame} {meth : Method} {c : Code} {H : Heap} {locs : List Loc} {cells slots : Nat} {Q : State → Prop}
variable {mc ms : Nat} {free : Addr → Prop} {A0 A1 : Nat → Prop} {H0 : Heap} {a : Array Value} {ls : Array Slot} {st0 rest : List Value}
variable {Qc : Array Value → State → Outcome → State → Prop} {XC : String → State → State → Prop}
/-- what a body that may throw owes at its end -/
def vx_MQ (below : List Frame) (Qc : Array Value → State → Outcome → State → Prop) (XC : String → State → State → Prop) (a : Array Value) (s : State) (mc ms : Nat) (free : Addr → Prop) : State → Prop := fun t =>
  ∃ o, t.status = .running ∧ Ended t below o ∧ vx_Q Qc XC mc ms free a s o t
theorem vx_ret {g : JFrame} {mc ms : Nat} (k : W p l e R s m args below meth c H locs cells slots (MQ below Qc args s mc ms free) g) : W p l e R s m args below meth c H locs cells slots (vx_MQ below Qc XC args s mc ms free) g := by
  intro T hT X
  obtain ⟨t, a1, o, b1, b2, b3, b4⟩ := k T hT X
  exact ⟨t, a1, o, b1, b2, Or.inl ⟨b3, b4⟩⟩
/-- not caught here: it goes on to the caller -/
theorem vx_widen {g : JFrame} {q : Addr} {k n : Nat} (h1 : cells ≤ k) (h2 : slots ≤ n) (kk : vx_W p l e R s m args below meth c H locs k n Q g q) : vx_W p l e R s m args below meth c H locs cells slots Q g q := fun T hT X => kk T hT (stand_widen X h1 h2)
theorem vx_out {pc : Nat} {E : String} {ce : Cell} {q : Addr} {mc ms : Nat} (hout : ∀ x ∈ c.exceptionTable.toList, covers x pc = false) (hlocks : meth.locks = false) (hcell : H[q]? = some ce) (hv : ce.vm = .none) (hcl : s.vm.findClass E = some ce.cls)
    (hx : ∀ t : State, t.heap = H → s.vm.Alike t.vm → XC E s t) (hf : ∀ z ∈ locs, free z.base) (hc : cells ≤ mc) (hs : slots ≤ ms) :
    vx_W p l e R s m args below meth c H locs cells slots (vx_MQ below Qc XC args s mc ms free) (F0 m pc ls rest) q := by
  intro T hT X
  obtain ⟨st1, hrun, hend, hW, hsm⟩ := X.leaveThrown q (g := F0 m pc ls rest) rfl rfl rfl hout hlocks
  have hcell9 : (T.setFrames (.throwing q :: below)).heap[q]? = some ce := by
    show T.heap[q]? = some ce
    rw [hT]; exact hcell
  exact ⟨_, st1, .threw q, hrun, hend, Or.inr ⟨q, rfl, E, ce, locs, hx _ hT hW.alike, hcell9, hv, hcl, hW, hsm.mono hc hs, hf⟩⟩
theorem vx_frame {U : State} {k n : Nat} (h : s.sameButNew ({ U with vm := s.vm } : State) locs k n) : s.heap.size ≤ U.heap.size ∧ ∀ q : Nat, q < s.heap.size → (∀ z ∈ locs, z.base ≠ q) → U.heap[q]? = s.heap[q]? := by
  obtain ⟨-, h2, -, -, -, h6⟩ := h
  refine ⟨h2, fun q hq hz => ?_⟩
  obtain ⟨c9, e1, e2, e3, e4⟩ := h6 q _ (Array.getElem?_eq_getElem hq)
  have hs : c9.slots = (s.heap[q]).slots := Array.ext_getElem? fun i => e4 i fun hm => hz _ hm rfl
  have h9 : c9 = s.heap[q] := by
    rw [hs] at e2
    exact e2
  have e5 : U.heap[q]? = some c9 := e1
  rw [e5, h9, Array.getElem?_eq_getElem hq]
/-- the words of a throw but the four that speak of the heap -/
def vx_no (w : Cond) : Bool := decide (w ≠ .isRef (.static Bundle.tN "UNASSIGNED_STACK" Bundle.steD)) && decide (w ≠ .isRef (.static Bundle.tN "SUPPRESSED_SENTINEL" Bundle.listD)) && decide (w ≠ .laysStatic Bundle.tN "UNASSIGNED_STACK" Bundle.steD) && decide (w ≠ .laysStatic Bundle.tN "SUPPRESSED_SENTINEL" Bundle.listD)
def vx_at0 (own : String) (ic : Nat) (X : String) (names : List String) : List Cond := (Bundle.ownAtoms0 own ic X names).filter vx_no
def vx_atS (own : String) (ic : Nat) (X : String) (names : List String) : List Cond := (Bundle.ownAtoms own ic X names).filter vx_no
/-- a word that the tables alone decide, or a good one -/
def vx_ot (w : Cond) : Bool := w.onTables || goodWord w
theorem vx_ot_at {args a' : Array Value} {s U : State} {w : Cond} (hW : s.WarmedH U.vm) (hvm : s.vm = U.vm) (hg : vx_ot w = true) (h : w.before args s = true) : w.before a' U = true := by
  simp only [vx_ot, Bool.or_eq_true] at hg
  rcases hg with hg | hg
  · exact va_tabs hg hvm h
  · exact word_at hW (good_of_word hg) h
/-- a list's words: the good ones out of the method's own list, the others by premises of their own -/
theorem vx_hat {args : Array Value} {s : State} {L B : List Cond} (h1 : ∀ w ∈ L.filter goodWord, w.before args s = true) (h2 : ∀ w ∈ L.filter (fun w => !goodWord w), w ∈ B) (h3 : ∀ w ∈ B, w.before args s = true) : ∀ w ∈ L, w.before args s = true := by
  intro w hw
  by_cases g : goodWord w = true
  · exact h1 w (List.mem_filter.mpr ⟨hw, g⟩)
  · refine h3 w (h2 w (List.mem_filter.mpr ⟨hw, ?_⟩))
    show (!goodWord w) = true
    cases hgw : goodWord w
    · rfl
    · exact absurd hgw g
theorem vx_c {args : Array Value} {s : State} {w : Cond} {B : List Cond} (h : w.before args s = true) (t : ∀ w ∈ B, w.before args s = true) : ∀ w' ∈ w :: B, w'.before args s = true := fun w' h' => (List.mem_cons.mp h').elim (fun e => by rw [e]; exact h) (t w')
theorem vx_n {args : Array Value} {s : State} : ∀ w ∈ ([] : List Cond), w.before args s = true := fun _ h => nomatch h
theorem vx_own {args : Array Value} {s : State} {L : List Cond} (h1 : ∀ w ∈ L.filter vx_no, w.before args s = true)
    (hU : (Cond.isRef (.static Bundle.tN "UNASSIGNED_STACK" Bundle.steD)).before args s = true) (hN : (Cond.isRef (.static Bundle.tN "SUPPRESSED_SENTINEL" Bundle.listD)).before args s = true)
    (lU : (Cond.laysStatic Bundle.tN "UNASSIGNED_STACK" Bundle.steD).before args s = true) (lN : (Cond.laysStatic Bundle.tN "SUPPRESSED_SENTINEL" Bundle.listD).before args s = true) : ∀ w ∈ L, w.before args s = true := by
  intro w hw
  by_cases e1 : w = .isRef (.static Bundle.tN "UNASSIGNED_STACK" Bundle.steD)
  · rw [e1]; exact hU
  · by_cases e2 : w = .isRef (.static Bundle.tN "SUPPRESSED_SENTINEL" Bundle.listD)
    · rw [e2]; exact hN
    · by_cases e3 : w = .laysStatic Bundle.tN "UNASSIGNED_STACK" Bundle.steD
      · rw [e3]; exact lU
      · by_cases e4 : w = .laysStatic Bundle.tN "SUPPRESSED_SENTINEL" Bundle.listD
        · rw [e4]; exact lN
        · exact h1 w (List.mem_filter.mpr ⟨hw, by unfold vx_no; rw [decide_eq_true e1, decide_eq_true e2, decide_eq_true e3, decide_eq_true e4]; rfl⟩)
/-- where a static field lies, its class's statics cell in H -/
def vx_L (C n d : String) (A : Nat → Prop) (U : State) (H : Heap) : Prop := ∃ (c : ClassId) (k : Class) (i : Nat) (f : Field) (a : Nat) (cell : Cell), U.vm.findClass C = some c ∧ U.fieldFound? C n d = some (c, k, i, f) ∧ f.isStatic = true ∧ k.statics = some a ∧ H[a]? = some cell ∧ cell.vm.isStatics = true ∧ cell.cls = c ∧ f.slot < cell.slots.size ∧ k.staticTypes[f.slot]? = some f.type ∧ ¬ A a
theorem vx_L.moved {C n d : String} {A : Nat → Prop} {u U : State} {H : Heap} (hvm : u.vm.Alike U.vm) (h : vx_L C n d A u H) : vx_L C n d A U H := by
  obtain ⟨c, k, i, f, a, cell, h1, h2, h3, h4, h5, h6, h7, h8, h9, h10⟩ := h
  obtain ⟨k', hi', he⟩ := State.fieldFound?_setVm hvm h2
  exact ⟨c, k', i, f, a, cell, by rw [hvm.findClass]; exact h1, hi', h3, by rw [he]; exact h4, h5, h6, h7, h8, by rw [he]; exact h9, h10⟩
theorem vx_L.kept {C n d : String} {A : Nat → Prop} {U : State} {H H1 : Heap} (h : vx_L C n d A U H) (hq : ∀ a : Nat, a < H.size → ¬ A a → H1[a]? = H[a]?) : vx_L C n d A U H1 := by
  obtain ⟨c, k, i, f, a, cell, h1, h2, h3, h4, h5, h6, h7, h8, h9, h10⟩ := h
  exact ⟨c, k, i, f, a, cell, h1, h2, h3, h4, by rw [hq a (Array.getElem?_eq_some_iff.mp h5).1 h10]; exact h5, h6, h7, h8, h9, h10⟩
theorem vx_L.narrow {C n d : String} {A B : Nat → Prop} {U : State} {H : Heap} (h : vx_L C n d A U H) (hAB : ∀ q, B q → A q) : vx_L C n d B U H := by
  obtain ⟨c, k, i, f, a, cell, h1, h2, h3, h4, h5, h6, h7, h8, h9, h10⟩ := h
  exact ⟨c, k, i, f, a, cell, h1, h2, h3, h4, h5, h6, h7, h8, h9, fun z => h10 (hAB _ z)⟩
theorem vx_L.word {C n d : String} {A : Nat → Prop} {s : State} {args : Array Value} (h : vx_L C n d A s s.heap) : (Cond.laysStatic C n d).before args s = true := by
  obtain ⟨c, k, i, f, a, cell, h1, h2, h3, h4, h5, h6, h7, h8, h9, -⟩ := h
  show (Cond.laysStatic C n d).holds args s none s [] = true
  exact Cond.laysStatic_of h1 h2 h3 h4 h5 h6 h7 h8 h9
/-- .. and what it holds: null or some reference -/
def vx_Zq (C n d : String) (A : Nat → Prop) (U : State) (H : Heap) : Prop := va_Zq C n d A U H ∧ vx_L C n d A U H
theorem vx_Zq.moved {C n d : String} {A : Nat → Prop} {u U : State} {H : Heap} (hvm : u.vm.Alike U.vm) (h : vx_Zq C n d A u H) : vx_Zq C n d A U H := ⟨va_Zq.moved hvm h.1, vx_L.moved hvm h.2⟩
theorem vx_Zq.kept {C n d : String} {A : Nat → Prop} {U : State} {H H1 : Heap} (h : vx_Zq C n d A U H) (hq : ∀ a : Nat, a < H.size → ¬ A a → H1[a]? = H[a]?) : vx_Zq C n d A U H1 := ⟨va_Zq.kept h.1 hq, vx_L.kept h.2 hq⟩
theorem vx_Zq.narrow {C n d : String} {A B : Nat → Prop} {U : State} {H : Heap} (h : vx_Zq C n d A U H) (hAB : ∀ q, B q → A q) : vx_Zq C n d B U H := ⟨va_Zq.narrow h.1 hAB, vx_L.narrow h.2 hAB⟩
theorem vx_Zqof {args : Array Value} {s : State} {C n d : String} {A : Nat → Prop} (hl : (Cond.laysStatic C n d).before args s = true) (hini : (Cond.initialized C).before args s = true) (h : (Cond.isRef (.static C n d)).before args s = true) (hA : ∀ a : Nat, a < s.heap.size → ¬ A a) : vx_Zq C n d A s s.heap := by
  refine ⟨va_Zqof hl hini h hA, ?_⟩
  obtain ⟨c, k, i, f, a, cell, h1, h2, h3, h4, h5, h6, h7, h8, h9⟩ := Cond.laysStatic_spec hl
  exact ⟨c, k, i, f, a, cell, h1, h2, h3, h4, h5, h6, h7, h8, h9, hA a (Array.getElem?_eq_some_iff.mp h5).1⟩
theorem vx_isRef {C n d : String} {v : Value} {A : Nat → Prop} {s : State} {args : Array Value} (h : va_Z C n d v A s s.heap) (hv : v.isRef = true) : (Cond.isRef (.static C n d)).before args s = true := by
  obtain ⟨cf, kf, fi, f, a, cell, h1, h2, h3, h4, h5, h6, h7, -⟩ := h
  have he : (Term.static C n d).eval args s none [] s = some v := by
    simp [Term.eval, State.fieldNamed?, h1, h2, h4, h5, h6, h7]
  simp only [Cond.before, Cond.holds, Cond.value, he]
  cases v <;> simp_all [Value.isRef]
theorem vx_isRefq {C n d : String} {A : Nat → Prop} {s : State} {args : Array Value} (h : va_Zq C n d A s s.heap) : (Cond.isRef (.static C n d)).before args s = true := by
  rcases h with h | ⟨t, h⟩
  · exact vx_isRef h rfl
  · exact vx_isRef h rfl
/-- the same frame, seen from here: as if the method were called anew in this heap -/
theorem vx_rebase {T : State} (X : Stand p l e R s m args below meth c T locs cells slots) {R' : Room} (hf : R'.frames ≤ R.frames) (hl : R'.locals ≤ R.locals) (hc : cells + R'.cells ≤ R.cells) (hs : slots + R'.slots ≤ R.slots) :
    Stand p l e R' ((T.setVm s.vm).setFrames (.invoking m args :: below)) m args below meth c T [] 0 0 := by
  have htop : (T.setVm s.vm).topJava?.isSome := X.here.top
  have hF : ((T.setVm s.vm).setFrames (.invoking m args :: below)).frames = .invoking m args :: below := State.frames_setFrames _ (State.cur_lt_of_top htop)
  obtain ⟨g₀, hg0⟩ := Option.isSome_iff_exists.mp htop
  obtain ⟨r, hr⟩ := State.topJava?_eq_some.mp hg0
  have hl9 : e.platform.stackLimits (T.setVm s.vm).me = e.platform.stackLimits s.me := X.limits
  have hb9 : (T.setVm s.vm).me.stackBytes = s.me.stackBytes := X.bytes
  refine ⟨X.admits, X.cas, X.clock, hF, ?_, X.hears, X.method, X.code, X.here, X.tail, X.warmed, ?_, ?_, ?_⟩
  · have h := X.room
    have hU : ((T.setVm s.vm).setFrames (.invoking m args :: below)).localsInUse = s.localsInUse := by
      rw [State.localsInUse_invoking hF (meth := meth) (c := c) X.method X.code, State.localsInUse_invoking X.frames X.method X.code]
    simp only [State.hasRoom, Bool.and_eq_true, decide_eq_true_eq] at h ⊢
    obtain ⟨⟨⟨⟨h1, h2, h3, h4, h5, h6⟩, h7⟩, h8⟩, h9⟩ := h
    rw [X.frames, List.length_cons] at h2 h3
    have q1 := X.heapSize
    have q2 := X.used
    simp only [hF, hU, List.length_cons, State.stackLimits_setFrames, State.stackBytes_setFrames, hl9, hb9]
    refine ⟨⟨⟨⟨by omega, by omega, by omega, by omega, by omega, h6⟩, ?_⟩, ?_⟩, X.book⟩
    · show T.heap.size + R'.cells ≤ e.platform.maxCells
      omega
    · show T.slotsUsed + R'.slots ≤ e.platform.maxSlots
      omega
  · rw [State.stackLimits_setFrames]; rfl
  · rw [State.stackBytes_setFrames]; rfl
  · refine ⟨?_, Nat.le_refl _, Nat.le_refl _, ?_, ?_, fun a c9 h9 => ⟨c9, h9, rfl, rfl, fun _ _ => rfl⟩⟩
    · obtain ⟨t, ht, -⟩ := State.frames_cons hr
      show T.setVm s.vm = { ((T.setVm s.vm).setFrames (.invoking m args :: below)).setFrames (T.setVm s.vm).frames with heap := T.heap, slotsUsed := T.slotsUsed }
      rw [State.setFrames_setFrames, State.setFrames_self ht]
      rfl
    · show T.slotsUsed = T.slotsUsed + ((T.heap.toList.drop T.heap.size).map (·.slots.size)).sum
      rw [List.drop_eq_nil_of_le (Nat.le_of_eq Array.length_toList)]
      rfl
    · show ((T.heap.toList.drop T.heap.size).map (·.slots.size)).sum ≤ 0
      rw [List.drop_eq_nil_of_le (Nat.le_of_eq Array.length_toList)]
      exact Nat.le_refl _
/-- 'throw new E()': new; dup; invokespecial; athrow -/
theorem vx_throw0 {cc : ByteArray} {pc : Nat} (hexec : p.tables.exec = Jvm.exec) (hb : c.code = cc) (hl : l.stackTraces = false) {own cls : String} {names : List String} {ik ic mc ms : Nat} {A : Nat → Prop}
    (hown : s.vm.findClass own = some m.cls) (hcls : Bundle.fit cls = true) (hnames : ∀ n ∈ names, Bundle.fit n = true)
    (hk : (Cond.classLink own ik cls).before args s = true) (hini : (Cond.initialized cls).before args s = true) (hat : ∀ w ∈ vx_at0 own ic cls names, w.before args s = true)
    (hgood : ∀ w ∈ Cond.classLink own ik cls :: Cond.initialized cls :: vx_at0 own ic cls names, vx_ot w = true)
    (hU : vx_Zq Bundle.tN "UNASSIGNED_STACK" Bundle.steD A s s.heap) (hN : vx_Zq Bundle.tN "SUPPRESSED_SENTINEL" Bundle.listD A s s.heap) (hS : va_S A s.heap H locs) (hsize : ls.size = c.maxLocals)
    (d0 : decode cc pc = .ok (.new ik, 3)) (d3 : decode cc (pc + 3) = .ok (.dup, 1)) (d4 : decode cc (pc + 4) = .ok (.invokespecial ic, 3)) (d7 : decode cc (pc + 7) = .ok (.athrow, 1))
    (hout : ∀ x ∈ c.exceptionTable.toList, covers x (pc + 7) = false)
    (hRframes : names.length + 3 < R.frames) (hRlocals : (rest.map fun v => v.category).sum + (13 * (names.length + 1) + 42) ≤ R.locals) (hRcells : cells + 1 ≤ R.cells) (hRslots : slots + 6 ≤ R.slots) (hlocks : meth.locks = false)
    (hx : ∀ t : State, s.vm.Alike t.vm → H.size ≤ t.heap.size → (∀ q : Nat, q < H.size → t.heap[q]? = H[q]?) → XC cls s t)
    (hf : ∀ z ∈ locs, free z.base) (hc : cells + 1 ≤ mc) (hs : slots + 6 ≤ ms) :
    W p l e R s m args below meth c H locs cells slots (vx_MQ below Qc XC args s mc ms free) (F0 m pc ls rest) := by
  intro T hT X
  have htr : e.platform.stackTraces = false := (show e.platform.stackTraces = l.stackTraces by rw [X.admits.platform]).trans hl
  have Y := vx_rebase X (R' := { frames := R.frames, locals := R.locals, cells := 1, slots := 6 }) (Nat.le_refl _) (Nat.le_refl _) hRcells hRslots
  obtain ⟨s', hA⟩ : ∃ z, z = (T.setVm s.vm).setFrames (.invoking m args :: below) := ⟨_, rfl⟩
  rw [← hA] at Y
  have hvm : s'.vm = s.vm := by rw [hA]; rfl
  have hhp : s'.heap = H := by rw [hA]; exact hT
  have hW0 : s.WarmedH s'.vm := by rw [hvm]; exact State.WarmedH.refl s
  have hat' : ∀ w ∈ vx_at0 own ic cls names, w.before args s' = true := fun w hw => vx_ot_at hW0 hvm.symm (hgood w (List.mem_cons_of_mem _ (List.mem_cons_of_mem _ hw))) (hat w hw)
  have hk' : (Cond.classLink own ik cls).before args s' = true := vx_ot_at hW0 hvm.symm (hgood _ List.mem_cons_self) hk
  have hini' : (Cond.initialized cls).before args s' = true := vx_ot_at hW0 hvm.symm (hgood _ (List.mem_cons_of_mem _ List.mem_cons_self)) hini
  have hU' : vx_Zq Bundle.tN "UNASSIGNED_STACK" Bundle.steD A s' s'.heap := by rw [hhp]; exact vx_Zq.moved hW0.alike (hU.kept hS.2.1)
  have hN' : vx_Zq Bundle.tN "SUPPRESSED_SENTINEL" Bundle.listD A s' s'.heap := by rw [hhp]; exact vx_Zq.moved hW0.alike (hN.kept hS.2.1)
  have h : ∀ w ∈ Bundle.ownAtoms0 own ic cls names, w.before args s' = true := vx_own hat' (vx_isRefq hU'.1) (vx_isRefq hN'.1) hU'.2.word hN'.2.word
  have hown' : s'.vm.findClass own = some m.cls := by rw [hvm]; exact hown
  have hins : (Cond.instantiable cls 6).before args s' = true := h _ (by simp [Bundle.ownAtoms0])
  obtain ⟨vm₁, cX, kX, hfX, hkX, -, -, X₁, st1⟩ := Y.newCold hexec (own := own) (C := cls) (index := ik) (n := 6) hown' hk' hins hini'
    (g := F0 m pc ls rest) rfl (by rw [hb]; exact d0) (Nat.le_refl _) (Nat.le_refl _)
  generalize hT1 : (T.setVm vm₁).pushCell { cls := cX, slots := kX.instanceTypes.map defaultValue, vm := .none } = T1 at X₁ st1
  have hcat : (Value.ref T.heap.size).category = 1 := rfl
  have hcellA : T1.heap[T.heap.size]? = some (freshCell cX kX) := by rw [← hT1]; exact State.heap_pushCell_size _ _
  have d3' : decode c.code (pc + 3) = .ok (.dup, 1) := by rw [hb]; exact d3
  obtain ⟨U, hsteps, hrun, hend, hW, hsame, ce, hce, hO⟩ := X₁.ctorThrow0 hexec htr (own := own) (cls := cls) (names := names) (ic := ic) hown' hcls hnames h (fun x hx => nomatch hx) hfX hkX hcellA (by rw [hhp, hT]; exact Nat.le_refl _)
    (g := { method := m, pc := pc + 4, locals := ls, stack := .ref T.heap.size :: .ref T.heap.size :: rest, locked := none }) rfl hsize rfl rfl (rest := rest) rfl
    (by rw [hb]; exact d4) (by rw [hb]; exact d7) hout hRframes (by simp only [List.map_cons, List.sum_cons, hcat]; omega) hlocks
  obtain ⟨f1, f2⟩ := vx_frame hsame
  rw [hhp] at f1 f2
  have hWs : s.WarmedH U.vm := State.WarmedH.trans hW0 hW
  have hcl : s.vm.findClass cls = some ce.cls := by
    have h9 := hO.cls
    rw [hvm] at h9
    exact h9
  have hall : s.sameButNew ({ U with vm := s.vm } : State) locs mc ms := by
    subst hA
    obtain ⟨e1, e2⟩ := hsame
    rw [State.setFrames_setFrames] at e1
    have h2 : (T.setVm s.vm).sameButNew ({ U with vm := s.vm } : State) [] (0 + 1) (0 + 6) := ⟨e1, e2⟩
    have h3 := X.same.trans h2
    rw [List.append_nil] at h3
    exact h3.mono hc hs
  refine ⟨U, ?_, .threw T.heap.size, hrun, hend, Or.inr ⟨T.heap.size, rfl, cls, ce, locs, hx U hWs.alike f1 (fun q hq => f2 q hq (fun z hz => nomatch hz)), hce, hO.vm, hcl, hWs, hall, hf⟩⟩
  refine st1 _ ?_
  show Steps p.tables e below (T1.setTop { method := m, pc := pc + 3, locals := ls, stack := .ref T.heap.size :: rest, locked := none }) _
  jvm_step X₁.here [X₁.here.top, hexec, d3', Value.category]
  exact hsteps
/-- 'throw new E("text")': new; dup; ldc; invokespecial; athrow -/
theorem vx_throwS {cc : ByteArray} {pc : Nat} (hexec : p.tables.exec = Jvm.exec) (hb : c.code = cc) (hl : l.stackTraces = false) {own cls text : String} {names : List String} {ik is ic mc ms sa : Nat} {A : Nat → Prop}
    (hown : s.vm.findClass own = some m.cls) (hcls : Bundle.fit cls = true) (hnames : ∀ n ∈ names, Bundle.fit n = true)
    (hk : (Cond.classLink own ik cls).before args s = true) (hini : (Cond.initialized cls).before args s = true) (hstr : vk_R own is text sa s) (hat : ∀ w ∈ vx_atS own ic cls names, w.before args s = true)
    (hgood : ∀ w ∈ Cond.classLink own ik cls :: Cond.initialized cls :: vx_atS own ic cls names, vx_ot w = true)
    (hU : vx_Zq Bundle.tN "UNASSIGNED_STACK" Bundle.steD A s s.heap) (hN : vx_Zq Bundle.tN "SUPPRESSED_SENTINEL" Bundle.listD A s s.heap) (hS : va_S A s.heap H locs) (hsize : ls.size = c.maxLocals)
    (d0 : decode cc pc = .ok (.new ik, 3)) (d3 : decode cc (pc + 3) = .ok (.dup, 1)) (d4 : decode cc (pc + 4) = .ok (.ldc is, 2)) (d6 : decode cc (pc + 6) = .ok (.invokespecial ic, 3)) (d9 : decode cc (pc + 9) = .ok (.athrow, 1))
    (hout : ∀ x ∈ c.exceptionTable.toList, covers x (pc + 9) = false)
    (hRframes : names.length + 3 < R.frames) (hRlocals : (rest.map fun v => v.category).sum + (13 * (names.length + 1) + 43) ≤ R.locals) (hRcells : cells + 1 ≤ R.cells) (hRslots : slots + 6 ≤ R.slots) (hlocks : meth.locks = false)
    (hx : ∀ t : State, s.vm.Alike t.vm → H.size ≤ t.heap.size → (∀ q : Nat, q < H.size → t.heap[q]? = H[q]?) → XC cls s t)
    (hf : ∀ z ∈ locs, free z.base) (hc : cells + 1 ≤ mc) (hs : slots + 6 ≤ ms) :
    W p l e R s m args below meth c H locs cells slots (vx_MQ below Qc XC args s mc ms free) (F0 m pc ls rest) := by
  intro T hT X
  have htr : e.platform.stackTraces = false := (show e.platform.stackTraces = l.stackTraces by rw [X.admits.platform]).trans hl
  have Y := vx_rebase X (R' := { frames := R.frames, locals := R.locals, cells := 1, slots := 6 }) (Nat.le_refl _) (Nat.le_refl _) hRcells hRslots
  obtain ⟨s', hA⟩ : ∃ z, z = (T.setVm s.vm).setFrames (.invoking m args :: below) := ⟨_, rfl⟩
  rw [← hA] at Y
  have hvm : s'.vm = s.vm := by rw [hA]; rfl
  have hhp : s'.heap = H := by rw [hA]; exact hT
  have hW0 : s.WarmedH s'.vm := by rw [hvm]; exact State.WarmedH.refl s
  have hat' : ∀ w ∈ vx_atS own ic cls names, w.before args s' = true := fun w hw => vx_ot_at hW0 hvm.symm (hgood w (List.mem_cons_of_mem _ (List.mem_cons_of_mem _ hw))) (hat w hw)
  have hk' : (Cond.classLink own ik cls).before args s' = true := vx_ot_at hW0 hvm.symm (hgood _ List.mem_cons_self) hk
  have hini' : (Cond.initialized cls).before args s' = true := vx_ot_at hW0 hvm.symm (hgood _ (List.mem_cons_of_mem _ List.mem_cons_self)) hini
  have hU' : vx_Zq Bundle.tN "UNASSIGNED_STACK" Bundle.steD A s' s'.heap := by rw [hhp]; exact vx_Zq.moved hW0.alike (hU.kept hS.2.1)
  have hN' : vx_Zq Bundle.tN "SUPPRESSED_SENTINEL" Bundle.listD A s' s'.heap := by rw [hhp]; exact vx_Zq.moved hW0.alike (hN.kept hS.2.1)
  have h : ∀ w ∈ Bundle.ownAtoms own ic cls names, w.before args s' = true := vx_own hat' (vx_isRefq hU'.1) (vx_isRefq hN'.1) hU'.2.word hN'.2.word
  have hown' : s'.vm.findClass own = some m.cls := by rw [hvm]; exact hown
  have hins : (Cond.instantiable cls 6).before args s' = true := h _ (by simp [Bundle.ownAtoms])
  obtain ⟨vm₁, cX, kX, hfX, hkX, -, -, X₁, st1⟩ := Y.newCold hexec (own := own) (C := cls) (index := ik) (n := 6) hown' hk' hins hini'
    (g := F0 m pc ls rest) rfl (by rw [hb]; exact d0) (Nat.le_refl _) (Nat.le_refl _)
  generalize hT1 : (T.setVm vm₁).pushCell { cls := cX, slots := kX.instanceTypes.map defaultValue, vm := .none } = T1 at X₁ st1
  have hcat : (Value.ref T.heap.size).category = 1 := rfl
  have hcellA : T1.heap[T.heap.size]? = some (freshCell cX kX) := by rw [← hT1]; exact State.heap_pushCell_size _ _
  have d3' : decode c.code (pc + 3) = .ok (.dup, 1) := by rw [hb]; exact d3
  have d4' : decode c.code (pc + 4) = .ok (.ldc is, 2) := by rw [hb]; exact d4
  have hstr' : vk_R own is text sa s' := vk_R.warm hW0 hstr
  obtain ⟨U, hsteps, hrun, hend, hW, hsame, ce, hce, hO⟩ := X₁.ctorThrowS hexec htr (own := own) (cls := cls) (names := names) (ic := ic) hown' hcls hnames h (fun x hx => nomatch hx) hfX hkX hcellA (by rw [hhp, hT]; exact Nat.le_refl _) (msg := .ref sa) rfl
    (g := { method := m, pc := pc + 6, locals := ls, stack := .ref sa :: .ref T.heap.size :: .ref T.heap.size :: rest, locked := none }) rfl hsize rfl rfl (rest := rest) rfl
    (by rw [hb]; exact d6) (by rw [hb]; exact d9) hout hRframes (by simp only [List.map_cons, List.sum_cons, hcat]; omega) hlocks
  obtain ⟨f1, f2⟩ := vx_frame hsame
  rw [hhp] at f1 f2
  have hWs : s.WarmedH U.vm := State.WarmedH.trans hW0 hW
  have hcl : s.vm.findClass cls = some ce.cls := by
    have h9 := hO.cls
    rw [hvm] at h9
    exact h9
  have hall : s.sameButNew ({ U with vm := s.vm } : State) locs mc ms := by
    subst hA
    obtain ⟨e1, e2⟩ := hsame
    rw [State.setFrames_setFrames] at e1
    have h2 : (T.setVm s.vm).sameButNew ({ U with vm := s.vm } : State) [] (0 + 1) (0 + 6) := ⟨e1, e2⟩
    have h3 := X.same.trans h2
    rw [List.append_nil] at h3
    exact h3.mono hc hs
  refine ⟨U, ?_, .threw T.heap.size, hrun, hend, Or.inr ⟨T.heap.size, rfl, cls, ce, locs, hx U hWs.alike f1 (fun q hq => f2 q hq (fun z hz => nomatch hz)), hce, hO.vm, hcl, hWs, hall, hf⟩⟩
  refine st1 _ ?_
  show Steps p.tables e below (T1.setTop { method := m, pc := pc + 3, locals := ls, stack := .ref T.heap.size :: rest, locked := none }) _
  jvm_step X₁.here [X₁.here.top, hexec, d3', Value.category]
  exact X₁.ldcString hexec (own := own) (text := text) (index := is) (a := sa) hown' hstr'.1 hstr'.2
    (g := { method := m, pc := pc + 4, locals := ls, stack := .ref T.heap.size :: .ref T.heap.size :: rest, locked := none }) rfl d4' _ hsteps
/-- 'throw new E("text")', the text by a wide index -/
theorem vx_throwSW {cc : ByteArray} {pc : Nat} (hexec : p.tables.exec = Jvm.exec) (hb : c.code = cc) (hl : l.stackTraces = false) {own cls text : String} {names : List String} {ik is ic mc ms sa : Nat} {A : Nat → Prop}
    (hown : s.vm.findClass own = some m.cls) (hcls : Bundle.fit cls = true) (hnames : ∀ n ∈ names, Bundle.fit n = true)
    (hk : (Cond.classLink own ik cls).before args s = true) (hini : (Cond.initialized cls).before args s = true) (hstr : vk_R own is text sa s) (hat : ∀ w ∈ vx_atS own ic cls names, w.before args s = true)
    (hgood : ∀ w ∈ Cond.classLink own ik cls :: Cond.initialized cls :: vx_atS own ic cls names, vx_ot w = true)
    (hU : vx_Zq Bundle.tN "UNASSIGNED_STACK" Bundle.steD A s s.heap) (hN : vx_Zq Bundle.tN "SUPPRESSED_SENTINEL" Bundle.listD A s s.heap) (hS : va_S A s.heap H locs) (hsize : ls.size = c.maxLocals)
    (d0 : decode cc pc = .ok (.new ik, 3)) (d3 : decode cc (pc + 3) = .ok (.dup, 1)) (d4 : decode cc (pc + 4) = .ok (.ldc_w is, 3)) (d7 : decode cc (pc + 7) = .ok (.invokespecial ic, 3)) (d10 : decode cc (pc + 10) = .ok (.athrow, 1))
    (hout : ∀ x ∈ c.exceptionTable.toList, covers x (pc + 10) = false)
    (hRframes : names.length + 3 < R.frames) (hRlocals : (rest.map fun v => v.category).sum + (13 * (names.length + 1) + 43) ≤ R.locals) (hRcells : cells + 1 ≤ R.cells) (hRslots : slots + 6 ≤ R.slots) (hlocks : meth.locks = false)
    (hx : ∀ t : State, s.vm.Alike t.vm → H.size ≤ t.heap.size → (∀ q : Nat, q < H.size → t.heap[q]? = H[q]?) → XC cls s t)
    (hf : ∀ z ∈ locs, free z.base) (hc : cells + 1 ≤ mc) (hs : slots + 6 ≤ ms) :
    W p l e R s m args below meth c H locs cells slots (vx_MQ below Qc XC args s mc ms free) (F0 m pc ls rest) := by
  intro T hT X
  have htr : e.platform.stackTraces = false := (show e.platform.stackTraces = l.stackTraces by rw [X.admits.platform]).trans hl
  have Y := vx_rebase X (R' := { frames := R.frames, locals := R.locals, cells := 1, slots := 6 }) (Nat.le_refl _) (Nat.le_refl _) hRcells hRslots
  obtain ⟨s', hA⟩ : ∃ z, z = (T.setVm s.vm).setFrames (.invoking m args :: below) := ⟨_, rfl⟩
  rw [← hA] at Y
  have hvm : s'.vm = s.vm := by rw [hA]; rfl
  have hhp : s'.heap = H := by rw [hA]; exact hT
  have hW0 : s.WarmedH s'.vm := by rw [hvm]; exact State.WarmedH.refl s
  have hat' : ∀ w ∈ vx_atS own ic cls names, w.before args s' = true := fun w hw => vx_ot_at hW0 hvm.symm (hgood w (List.mem_cons_of_mem _ (List.mem_cons_of_mem _ hw))) (hat w hw)
  have hk' : (Cond.classLink own ik cls).before args s' = true := vx_ot_at hW0 hvm.symm (hgood _ List.mem_cons_self) hk
  have hini' : (Cond.initialized cls).before args s' = true := vx_ot_at hW0 hvm.symm (hgood _ (List.mem_cons_of_mem _ List.mem_cons_self)) hini
  have hU' : vx_Zq Bundle.tN "UNASSIGNED_STACK" Bundle.steD A s' s'.heap := by rw [hhp]; exact vx_Zq.moved hW0.alike (hU.kept hS.2.1)
  have hN' : vx_Zq Bundle.tN "SUPPRESSED_SENTINEL" Bundle.listD A s' s'.heap := by rw [hhp]; exact vx_Zq.moved hW0.alike (hN.kept hS.2.1)
  have h : ∀ w ∈ Bundle.ownAtoms own ic cls names, w.before args s' = true := vx_own hat' (vx_isRefq hU'.1) (vx_isRefq hN'.1) hU'.2.word hN'.2.word
  have hown' : s'.vm.findClass own = some m.cls := by rw [hvm]; exact hown
  have hins : (Cond.instantiable cls 6).before args s' = true := h _ (by simp [Bundle.ownAtoms])
  obtain ⟨vm₁, cX, kX, hfX, hkX, -, -, X₁, st1⟩ := Y.newCold hexec (own := own) (C := cls) (index := ik) (n := 6) hown' hk' hins hini'
    (g := F0 m pc ls rest) rfl (by rw [hb]; exact d0) (Nat.le_refl _) (Nat.le_refl _)
  generalize hT1 : (T.setVm vm₁).pushCell { cls := cX, slots := kX.instanceTypes.map defaultValue, vm := .none } = T1 at X₁ st1
  have hcat : (Value.ref T.heap.size).category = 1 := rfl
  have hcellA : T1.heap[T.heap.size]? = some (freshCell cX kX) := by rw [← hT1]; exact State.heap_pushCell_size _ _
  have d3' : decode c.code (pc + 3) = .ok (.dup, 1) := by rw [hb]; exact d3
  have d4' : decode c.code (pc + 4) = .ok (.ldc_w is, 3) := by rw [hb]; exact d4
  have hstr' : vk_R own is text sa s' := vk_R.warm hW0 hstr
  obtain ⟨U, hsteps, hrun, hend, hW, hsame, ce, hce, hO⟩ := X₁.ctorThrowS hexec htr (own := own) (cls := cls) (names := names) (ic := ic) hown' hcls hnames h (fun x hx => nomatch hx) hfX hkX hcellA (by rw [hhp, hT]; exact Nat.le_refl _) (msg := .ref sa) rfl
    (g := { method := m, pc := pc + 7, locals := ls, stack := .ref sa :: .ref T.heap.size :: .ref T.heap.size :: rest, locked := none }) rfl hsize rfl rfl (rest := rest) rfl
    (by rw [hb]; exact d7) (by rw [hb]; exact d10) hout hRframes (by simp only [List.map_cons, List.sum_cons, hcat]; omega) hlocks
  obtain ⟨f1, f2⟩ := vx_frame hsame
  rw [hhp] at f1 f2
  have hWs : s.WarmedH U.vm := State.WarmedH.trans hW0 hW
  have hcl : s.vm.findClass cls = some ce.cls := by
    have h9 := hO.cls
    rw [hvm] at h9
    exact h9
  have hall : s.sameButNew ({ U with vm := s.vm } : State) locs mc ms := by
    subst hA
    obtain ⟨e1, e2⟩ := hsame
    rw [State.setFrames_setFrames] at e1
    have h2 : (T.setVm s.vm).sameButNew ({ U with vm := s.vm } : State) [] (0 + 1) (0 + 6) := ⟨e1, e2⟩
    have h3 := X.same.trans h2
    rw [List.append_nil] at h3
    exact h3.mono hc hs
  refine ⟨U, ?_, .threw T.heap.size, hrun, hend, Or.inr ⟨T.heap.size, rfl, cls, ce, locs, hx U hWs.alike f1 (fun q hq => f2 q hq (fun z hz => nomatch hz)), hce, hO.vm, hcl, hWs, hall, hf⟩⟩
  refine st1 _ ?_
  show Steps p.tables e below (T1.setTop { method := m, pc := pc + 3, locals := ls, stack := .ref T.heap.size :: rest, locked := none }) _
  jvm_step X₁.here [X₁.here.top, hexec, d3', Value.category]
  exact X₁.ldcStringW hexec (own := own) (text := text) (index := is) (a := sa) hown' hstr'.1 hstr'.2
    (g := { method := m, pc := pc + 4, locals := ls, stack := .ref T.heap.size :: .ref T.heap.size :: rest, locked := none }) rfl d4' _ hsteps
end Ends
section Bodies
variable {l : Launch}
theorem vx_ofW {y : MethodName} {ws ws' : List Cond} {rm : Room} {Pc : Array Value → State → Prop} {Qc : Array Value → State → Outcome → State → Prop} {XC : String → State → State → Prop} {mc ms : Nat} {free : Addr → Prop} {cc : ByteArray} {maxL : Nat} {ret : Option FieldType}
    (hy : plainName y.cls = true) (hw : ws = Cond.code y cc maxL ret :: ws')
    (body : ∀ p e s m args below meth c s₁, BodyLoose p l y (headSpec ws rm) cc maxL ret e s m args below meth c s₁ → c.maxLocals = maxL → (∀ x ∈ c.exceptionTable.toList, False) → Pc args s →
      W p l e (headSpec ws rm).room s m args below meth c s.heap [] 0 0 (vx_MQ below Qc XC args s mc ms free) (entryFrame m args maxL)) : vx_Met l y ws rm Pc Qc XC mc ms free := by
  refine MetFree.of_bodyS (code := cc) (maxLocals := maxL) (ret := ret) hy ?_ ?_
  · intro args s m h hn
    obtain ⟨meth, c, h1, h2, h3, h4, h5, h6, -, -⟩ := Cond.code_spec hn (atoms_spec (ws := ws) h _ (by rw [hw]; exact List.mem_cons_self))
    exact ⟨meth, c, h1, h2, h3, h4, h5, h6⟩
  · intro p e s m args below meth c s₁ B hml hP _
    have hh0 : s₁.heap = s.heap := by rw [B.state]; rfl
    have ht : ∀ x ∈ c.exceptionTable.toList, False := by
      obtain ⟨meth9, c9, h1, h2, -, -, -, -, h7, -⟩ := Cond.code_spec B.named (atoms_spec (ws := ws) B.pre _ (by rw [hw]; exact List.mem_cons_self))
      cases Option.some.inj (h1.symm.trans B.method)
      cases Option.some.inj (h2.symm.trans (Stand.of_body B).code)
      intro x hx
      rw [Array.isEmpty_iff.mp h7] at hx
      cases hx
    obtain ⟨t, a1, o, b1, b2, b3⟩ := body p e s m args below meth c s₁ B hml ht hP s₁ hh0 (Stand.of_body B)
    exact ⟨t, o, a1, b1, b2, b3⟩
/-- the table of a body with handlers -/
theorem vx_table {p : Program} {x y : MethodName} {S : Spec} {cc bytes : ByteArray} {maxL maxL' : Nat} {ret ret' : Option FieldType} {e : Env} {s s₁ : State} {m : MethodId} {args : Array Value} {below : List Frame} {meth : Method} {c : Code} {hh : List (Nat × Nat × Nat × Nat)}
    (B : BodyLoose p l y S cc maxL ret e s m args below meth c s₁) (h : (Cond.codeWith y bytes maxL' ret' hh).before args s = true) : c.exceptionTable.toList = tableOf hh := by
  obtain ⟨m9, meth9, c9, hn9, h1, h2, -, -, h6, -⟩ := Cond.codeWith_spec h
  cases Option.some.inj (hn9.symm.trans B.named)
  cases Option.some.inj (h1.symm.trans B.method)
  cases Option.some.inj (h2.symm.trans (Stand.of_body B).code)
  rw [← h6, table_eq]
end Bodies
end VXA
/-! ===== END ===== -/
/-! ===== BEGIN a static call of a method with an exception table ===== -/
section VXS
variable {p : Program} {l : Launch} {e : Env} {R : Room} {s : State} {m : MethodId} {args : Array Value} {below : List Frame} {meth : Method} {c : Code} {T : State} {H : Heap} {locs : List Loc} {cells slots : Nat}
abbrev vx_CSW (R : Room) (s : State) (args : Array Value) (own : String) (index : Nat) (y : MethodName) (bytes : ByteArray) (maxL : Nat) (ret : Option FieldType) (hh : List (Nat × Nat × Nat × Nat)) (ws : List Cond) (rm : Room) (mc ms n : Nat) : Prop :=
  (rm.cells = mc ∧ rm.slots = ms ∧ rm.frames + 1 ≤ R.frames ∧ 8 + (maxL + 11) + rm.locals ≤ R.locals ∧ (∀ w ∈ ws, ∀ (a' : Array Value) (U : State), s.WarmedH U.vm → w.before a' U = true) ∧ Cond.codeWith y bytes maxL ret hh ∈ ws) ∧
  (Cond.codeWith y bytes maxL ret hh).before args s = true ∧ (Cond.initialized y.cls).before args s = true ∧ (y.cls ≠ "java/lang/invoke/MethodHandle" ∧ y.cls ≠ "java/lang/invoke/VarHandle") ∧
  (∀ sig, parseMethodDescriptor y.desc = some sig → n = sig.parameters.length) ∧ (Cond.methodLink own index y).before args s = true ∧ (Cond.static y).before args s = true
theorem vx_cwSW {own : String} {index maxL mc ms : Nat} {y : MethodName} {bytes : ByteArray} {ret : Option FieldType} {hh : List (Nat × Nat × Nat × Nat)} {Ts ws ws' : List Cond} {rm : Room} (n : Nat) (ht : ∀ w ∈ Ts, w.before args s = true) (hT : GoodIn Ts (va_wsS own index y ws)) (hw : ws = Cond.codeWith y bytes maxL ret hh :: ws') (hrc : rm.cells = mc) (hrs : rm.slots = ms)
    (hd : y.cls ≠ "java/lang/invoke/MethodHandle" ∧ y.cls ≠ "java/lang/invoke/VarHandle" ∧ (parseMethodDescriptor y.desc).map (fun d => d.parameters.length) = some n) (hR : rm.frames + 1 ≤ R.frames ∧ 8 + (maxL + 11) + rm.locals ≤ R.locals) :
    vx_CSW R s args own index y bytes maxL ret hh ws rm mc ms n := by
  have ok : ∀ w ∈ va_wsS own index y ws, w.before args s = true := fun w h => ht w (hT w h).1
  have hG : GoodIn Ts ws := fun w h => hT w (by unfold va_wsS; exact List.mem_append_right _ h)
  have hc : Cond.codeWith y bytes maxL ret hh ∈ ws := by rw [hw]; exact List.mem_cons_self
  refine ⟨⟨hrc, hrs, hR.1, hR.2, pay_in ht hG, hc⟩, ht _ (hG _ hc).1, ok _ (by simp [va_wsS]), ⟨hd.1, hd.2.1⟩, fun sig h => ?_, ok _ (by simp [va_wsS]), ok _ (by simp [va_wsS])⟩
  have h2 := hd.2.2
  rw [h] at h2
  exact (Option.some.inj h2).symm
theorem vx_callSW (X : Stand p l e R s m args below meth c T locs cells slots) (hexec : p.tables.exec = Jvm.exec) {own : String} {index : Nat} {y : MethodName} {bytes : ByteArray} {maxL : Nat} {ret : Option FieldType} {hh : List (Nat × Nat × Nat × Nat)}
    (hown : s.vm.findClass own = some m.cls) (hlink : (Cond.methodLink own index y).before args s = true) (hstat : (Cond.static y).before args s = true) (hinit : (Cond.initialized y.cls).before args s = true)
    (hcode : (Cond.codeWith y bytes maxL ret hh).before args s = true) (hy : y.cls ≠ "java/lang/invoke/MethodHandle" ∧ y.cls ≠ "java/lang/invoke/VarHandle")
    {W9 : Nat} {Pre : Pt → Array Value → Prop} {Post : Pt → Array Value → Option Value → Pt → Prop} (hK : Back l R p e below s args y 3 W9 Pre Post)
    {g : JFrame} (hg : g.method = m) (hsize : g.locals.size = c.maxLocals) {argsL rest : List Value} (hlen : ∀ sig, parseMethodDescriptor y.desc = some sig → argsL.length = sig.parameters.length)
    (hstack : g.stack = argsL.reverse ++ rest) (hW : 2 * g.monitorRoom + (rest.map fun v => v.category).sum ≤ W9) (hdg : decode c.code g.pc = .ok (.invokestatic index, 3))
    (hpre : ∀ vm₁, s.WarmedH vm₁ → Pre ⟨T.setVm vm₁, locs, cells, slots⟩ argsL.toArray) :
    ∃ (v : Option Value) (vm₁ : Vm) (B : Pt), s.WarmedH vm₁ ∧ Stand p l e R s m args below meth c B.U B.locs B.cells B.slots ∧ Post ⟨T.setVm vm₁, locs, cells, slots⟩ argsL.toArray v B ∧
      ∀ target, Steps p.tables e below (B.U.setTop { g with pc := g.pc + 3, stack := v.toList ++ rest }) target → Steps p.tables e below (T.setTop g) target := by
  obtain ⟨mk, methM, cM, hnamed, hmethM, -, -, -, -, -, -, hsigM⟩ := Cond.codeWith_spec hcode
  have hstatic : methM.isStatic = true := Cond.static_spec hnamed hmethM hstat
  obtain ⟨kP, hkP, -⟩ := className_of_methodNamed hnamed
  have hinitP : kP.init = .initialized := Cond.initialized_spec (findClass_of_methodNamed hnamed) hkP hinit
  obtain ⟨vm₁, X₁, hstep₁⟩ := X.invokestatic hexec hown hlink hnamed hmethM hstatic hkP hinitP hy (g := g) hg (argsL := argsL) (rest := rest) (hlen _ hsigM) hstack hdg
  obtain ⟨v, B, X', hpost, hsteps⟩ := hK m meth c ⟨T.setVm vm₁, locs, cells, slots⟩ { g with stack := rest } (.invokestatic index) mk argsL.toArray X₁ hg hsize hdg hW (X₁.named hnamed) (hpre vm₁ X₁.warmed)
  exact ⟨v, vm₁, B, X₁.warmed, X', hpost, fun target h => hstep₁ _ fun acts => by rw [doInvoke_state]; exact hsteps.trans h⟩
theorem vx_runSW {y : MethodName} {bytes cc : ByteArray} {maxL nL mc ms n index : Nat} {ret : Option FieldType} {hh : List (Nat × Nat × Nat × Nat)} {ws : List Cond} {rm : Room} {Pc : Array Value → State → Prop} {Qc : Array Value → State → Outcome → State → Prop} {free : Addr → Prop} {Ts : List Cond} {own : String} {As rest : List Value} {g : JFrame}
    (S : CallFix p m c cc nL s args Ts own) (hM : Met l y ws rm Pc Qc mc ms free) (cw : vx_CSW R s args own index y bytes maxL ret hh ws rm mc ms n) (hp : PreS s H Pc As)
    (hg : g.method = m) (hn : As.length = n) (hsize : g.locals.size = nL) (hstack : g.stack = As.reverse ++ rest) (hW : 2 * g.monitorRoom + (rest.map fun v => v.category).sum ≤ 8) (hdg : decode cc g.pc = .ok (.invokestatic index, 3)) (hf : cells + mc ≤ R.cells ∧ slots + ms ≤ R.slots) :
    va_Run p l e R s m args below meth c H locs cells slots mc ms g rest (Qc As.toArray) (free) := by
  obtain ⟨⟨hrc, hrs, hfr, hlo, hws, hcw⟩, hcode, hini, hy, hlen, hl, hstt⟩ := cw
  have hK : Back l R p e below s args y 3 8 (PreOf R mc ms Pc) (PostOf Qc mc ms free) := va_backW (hh := hh) (bytes := bytes) (maxL := maxL) (ret := ret) hM hp.1 hrc hrs hfr hlo hws hcw (fun a' U hW => word_at hW (Or.inl (by first | rfl | simp [Cond.onTables, Cond.keeps, Cond.steady])) hini)
  obtain ⟨hx, hb, hml, ho, -⟩ := S
  intro T hT X
  obtain ⟨v, vm₁, ⟨U', l2, c2, s2⟩, hW₁, X', ⟨g', mk, t, L, e1, e2, hq, h1, hL, h2, h3⟩, st⟩ := vx_callSW X hx (hh := hh) (bytes := bytes) (maxL := maxL) (ret := ret) ho hl hstt hini hcode hy hK hg (hsize.trans hml.symm) (argsL := As) (rest := rest) (fun sig h => hn.trans (hlen sig h)) hstack hW (by rw [hb]; exact hdg)
    (fun vm₁ hW₁ => ⟨hf.1, hf.2, hp.2 (T.setVm vm₁) hT hW₁⟩)
  dsimp only [Pt.U, Pt.locs, Pt.cells, Pt.slots] at X' e1 e2 h1 h2 h3 st
  subst h1; subst h2; subst h3
  exact ⟨v, (T.setVm vm₁).calling g' mk As.toArray, t, U', L, hT, X', hL, e1, e2, hq, st⟩
/-- a thing of a world lies in the heap -/
theorem vx_lt {D : va_G} {cl : List vw_C} {ws : va_W} {H1 : Heap} (h : va_P D cl ws H1) {k : Nat} {q : Nat × va_E} (hk : ws[k]? = some q) : q.1 < H1.size := (h k q hk).lt
end VXS
/-! ===== END ===== -/
/-! ===== BEGIN methods with a table of their own: called by a name, returning or throwing ===== -/
section VXH
/-! vx_backW, vx_callVX, vx_callSX, vx_callVW, vx_runVW, vx_runVX, vx_runSX, vx_ofWH follow the same proofs as their sisters above (Free/Laws.lean, Shelf42/LK1.lean); vx_outP calls Shelf42/NT130.lean (outThrough). -/
section
variable {l : Launch} {R : Room} {p : Program} {e : Env} {below : List Frame} {s : State} {sargs : Array Value} {y : MethodName} {len W9 : Nat}
theorem vx_backW {ws : List Cond} {rm : Room} {Pc : Array Value → State → Prop} {Qc : Array Value → State → Outcome → State → Prop} {XC : String → State → State → Prop} {mc ms : Nat} {free : Addr → Prop} {bytes : ByteArray} {maxL : Nat} {ret : Option FieldType} {hh : List (Nat × Nat × Nat × Nat)}
    (hM : vx_Met l y ws rm Pc Qc XC mc ms free) (hblind : FrameBlind Pc) (hrc : rm.cells = mc) (hrs : rm.slots = ms)
    (hframes : rm.frames + 1 ≤ R.frames) (hlocals : W9 + (maxL + 11) + rm.locals ≤ R.locals)
    (hws : ∀ w ∈ ws, ∀ a' U, s.WarmedH U.vm → w.before a' U = true) (hcode : Cond.codeWith y bytes maxL ret hh ∈ ws) (hinit : ∀ a' U, s.WarmedH U.vm → (Cond.initialized y.cls).before a' U = true) :
    vx_Back l R p e below s sargs y len W9 (PreOf R mc ms Pc) (PostOf Qc mc ms free) (vx_Post XC mc ms free) := by
  intro m meth c A g ig mk a X hg hsize hdg hW hn hp
  have h1 : (headSpec ws rm).pre.before a A.U = true := atoms_intro fun w hw => hws w hw _ _ X.warmed
  have h2 : (Cond.codeWith y bytes maxL ret hh).before a A.U = true := hws _ hcode _ _ X.warmed
  have h3 : (Cond.initialized y.cls).before a A.U = true := hinit _ _ X.warmed
  have h4 : A.cells + (headSpec ws rm).room.cells ≤ R.cells := by rw [show (headSpec ws rm).room.cells = mc from hrc]; exact hp.1
  have h5 : A.slots + (headSpec ws rm).room.slots ≤ R.slots := by rw [show (headSpec ws rm).room.slots = ms from hrs]; exact hp.2.1
  have hPc : Pc a (A.U.calling g mk a) := hblind _ _ _ _ hp.2.2
  obtain ⟨U, Ls, c0, s0⟩ := A
  dsimp only [Pt.U, Pt.locs, Pt.cells, Pt.slots] at h1 h2 h3 h4 h5 X hn hPc ⊢
  obtain ⟨m9, methY, cY, hn9, hmY, hcY, -, hlY, -⟩ := Cond.codeWith_spec h2
  cases Option.some.inj (hn9.symm.trans hn)
  obtain ⟨kY, hkY, -⟩ := className_of_methodNamed hn
  have hinitY : kY.init = .initialized := Cond.initialized_spec (findClass_of_methodNamed hn) hkY h3
  have h : At U g.method c below := by rw [hg]; exact X.here
  have hlocals9 : W9 + (maxL + 11) + (headSpec ws rm).room.locals ≤ R.locals := hlocals
  have happ : (headSpec ws rm).appliesLoose y e.platform (U.calling g mk a) = true :=
    Spec.appliesLoose_calling (g := g) h hdg hn hkY hinitY
      (X.room_calling (g := g) (R' := (headSpec ws rm).room) hsize hmY hcY hframes (by rw [hlY]; omega) h4 h5) h1
  obtain ⟨mid, hmid⟩ := h.above
  have hfr : (U.setTop g).frames = (.java g :: mid) ++ below := by rw [State.frames_setTop' g h.top, hmid]; rfl
  obtain ⟨o, s₂, hsteps, -, hend, hq⟩ := Steps.callFree hM p X.admits X.cas X.clock (acts := []) hfr happ hPc trivial
  have hq' : vx_Q Qc XC mc ms free a (U.calling g mk a) o s₂ := hq
  rw [State.frames_setTop' g h.top] at hend
  obtain ⟨g₀, hg0⟩ := Option.isSome_iff_exists.mp h.top
  obtain ⟨r, hr⟩ := State.topJava?_eq_some.mp hg0
  have hr' : (({ U with heap := s₂.heap, slotsUsed := s₂.slotsUsed } : State).setVm s₂.vm).frames = .java g₀ :: r := hr
  rcases hq' with ⟨hqc, L, hfe, hL⟩ | ⟨q, rfl, E, ce, L, hx, hce, hcv, hcl, hW₂, hsm, hL⟩
  · obtain ⟨⟨v, rfl⟩, hW₂, e2, q2, q3, q4, q5, q6⟩ := id hfe
    have e3 : s₂ = ({ (U.calling g mk a).setFrames s₂.frames with heap := s₂.heap, slotsUsed := s₂.slotsUsed } : State).setVm s₂.vm := by
      have : s₂ = ({ s₂ with vm := (U.calling g mk a).vm } : State).setVm s₂.vm := rfl
      rw [e2] at this
      exact this
    obtain ⟨c₂, i₂, len₂, hc₂, hd₂, hf₂⟩ := hend
    have hW' : U.WarmedH s₂.vm := hW₂
    have hcc : c₂ = c := by
      have h1 : s₂.code? g.method = U.code? g.method := by
        rw [State.code?_eq, State.code?_eq, hW'.alike.method?]
      exact Option.some.inj (hc₂.symm.trans (h1.trans h.code))
    subst hcc
    have hlen : len₂ = len := by rw [hdg] at hd₂; cases hd₂; rfl
    subst hlen
    have hs₂ : s₂ = (({ U with heap := s₂.heap, slotsUsed := s₂.slotsUsed } : State).setVm s₂.vm).setTop { g with pc := g.pc + len₂, stack := v.toList ++ g.stack } := by
      refine e3.trans ?_
      rw [hf₂, State.calling_eq h.top, State.setFrames_setFrames, State.setTop_of_frames _ hr', hr]
      rfl
    have hsame : U.sameButNew ({ U with heap := s₂.heap, slotsUsed := s₂.slotsUsed } : State) L mc ms := by
      refine ⟨?_, q2, q3, q4, q5, q6⟩
      obtain ⟨t, ht, -⟩ := State.frames_cons hr
      show ({ U with heap := s₂.heap, slotsUsed := s₂.slotsUsed } : State) = { U.setFrames U.frames with heap := s₂.heap, slotsUsed := s₂.slotsUsed }
      rw [State.setFrames_self ht]
    subst hg
    refine Or.inl ⟨v, ⟨(({ U with heap := s₂.heap, slotsUsed := s₂.slotsUsed } : State).setVm s₂.vm), Ls ++ L, c0 + mc, s0 + ms⟩,
      ⟨X.admits, X.cas, X.clock, X.frames, X.room, X.hears, X.method, X.code, (X.here.setHeapUsed s₂.heap s₂.slotsUsed).setVm hW'.alike, X.tail, State.WarmedH.trans X.warmed hW', X.limits, X.bytes, X.same.trans (hsame.setVm s.vm)⟩,
      ⟨g, mk, s₂, L, rfl, rfl, hqc, rfl, hL, rfl, rfl⟩, ?_⟩
    show Steps p.tables e below _ ((({ U with heap := s₂.heap, slotsUsed := s₂.slotsUsed } : State).setVm s₂.vm).setTop { g with pc := g.pc + len₂, stack := v.toList ++ g.stack })
    rw [← hs₂]
    exact hsteps
  · obtain ⟨e2, q2, q3, q4, q5, q6⟩ := id hsm
    have e3 : s₂ = ({ (U.calling g mk a).setFrames s₂.frames with heap := s₂.heap, slotsUsed := s₂.slotsUsed } : State).setVm s₂.vm := by
      have : s₂ = ({ s₂ with vm := (U.calling g mk a).vm } : State).setVm s₂.vm := rfl
      rw [e2] at this
      exact this
    have hf₂ : s₂.frames = .throwing q :: .java g :: U.frames.tail := hend
    have hW' : U.WarmedH s₂.vm := hW₂
    have hs₂ : s₂ = ((({ U with heap := s₂.heap, slotsUsed := s₂.slotsUsed } : State).setVm s₂.vm).setTop g).pushFrame (.throwing q) := by
      refine e3.trans ?_
      rw [hf₂, State.calling_eq h.top, State.setFrames_setFrames, State.pushFrame, State.frames_setTop _ hr', State.setTop_of_frames _ hr', State.setFrames_setFrames, hr]
      rfl
    have hsame : U.sameButNew ({ U with heap := s₂.heap, slotsUsed := s₂.slotsUsed } : State) L mc ms := by
      refine ⟨?_, q2, q3, q4, q5, q6⟩
      obtain ⟨t, ht, -⟩ := State.frames_cons hr
      show ({ U with heap := s₂.heap, slotsUsed := s₂.slotsUsed } : State) = { U.setFrames U.frames with heap := s₂.heap, slotsUsed := s₂.slotsUsed }
      rw [State.setFrames_self ht]
    subst hg
    refine Or.inr ⟨q, ⟨(({ U with heap := s₂.heap, slotsUsed := s₂.slotsUsed } : State).setVm s₂.vm), Ls ++ L, c0 + mc, s0 + ms⟩,
      ⟨X.admits, X.cas, X.clock, X.frames, X.room, X.hears, X.method, X.code, (X.here.setHeapUsed s₂.heap s₂.slotsUsed).setVm hW'.alike, X.tail, State.WarmedH.trans X.warmed hW', X.limits, X.bytes, X.same.trans (hsame.setVm s.vm)⟩,
      ⟨g, mk, s₂, L, E, ce, rfl, rfl, hx, hce, hcv, hcl, rfl, hL, rfl, rfl⟩, ?_⟩
    show Steps p.tables e below _ (((({ U with heap := s₂.heap, slotsUsed := s₂.slotsUsed } : State).setVm s₂.vm).setTop g).pushFrame (.throwing q))
    rw [← hs₂]
    exact hsteps
end
variable {p : Program} {l : Launch} {e : Env} {R : Room} {s : State} {m : MethodId} {args : Array Value} {below : List Frame} {meth : Method} {c : Code} {T : State} {H : Heap} {locs : List Loc} {cells slots : Nat}
theorem vx_callVX (X : Stand p l e R s m args below meth c T locs cells slots) (hexec : p.tables.exec = Jvm.exec) {own C : String} {index : Nat} {y : MethodName} {bytes : ByteArray} {maxL : Nat} {ret : Option FieldType} {hh : List (Nat × Nat × Nat × Nat)}
    (hown : s.vm.findClass own = some m.cls) (hlink : (Cond.methodLink own index y).before args s = true) (hinst : (Cond.instanceMethod y).before args s = true) (hsel : (Cond.selects C y y).before args s = true)
    (hcode : (Cond.codeWith y bytes maxL ret hh).before args s = true) (hy : y.cls ≠ "java/lang/invoke/MethodHandle" ∧ y.cls ≠ "java/lang/invoke/VarHandle")
    {W9 : Nat} {Pre : Pt → Array Value → Prop} {Post : Pt → Array Value → Option Value → Pt → Prop} {PostX : Pt → Array Value → Addr → Pt → Prop} (hK : vx_Back l R p e below s args y 3 W9 Pre Post PostX)
    {b : Addr} {cellB : Cell} (hcell : T.heap[b]? = some cellB) (hobj : cellB.vm.isStatics = false) (hcls : s.vm.findClass C = some cellB.cls)
    {g : JFrame} (hg : g.method = m) (hsize : g.locals.size = c.maxLocals) {argsL rest : List Value} (hlen : ∀ sig, parseMethodDescriptor y.desc = some sig → argsL.length = sig.parameters.length)
    (hstack : g.stack = argsL.reverse ++ .ref b :: rest) (hW : 2 * g.monitorRoom + (rest.map fun v => v.category).sum ≤ W9) (hdg : decode c.code g.pc = .ok (.invokevirtual index, 3))
    (hpre : ∀ vm₁, s.WarmedH vm₁ → Pre ⟨T.setVm vm₁, locs, cells, slots⟩ (Value.ref b :: argsL).toArray) :
    (∃ (v : Option Value) (vm₁ : Vm) (B : Pt), s.WarmedH vm₁ ∧ Stand p l e R s m args below meth c B.U B.locs B.cells B.slots ∧ Post ⟨T.setVm vm₁, locs, cells, slots⟩ (Value.ref b :: argsL).toArray v B ∧
      ∀ target, Steps p.tables e below (B.U.setTop { g with pc := g.pc + 3, stack := v.toList ++ rest }) target → Steps p.tables e below (T.setTop g) target) ∨
    (∃ (q : Addr) (vm₁ : Vm) (B : Pt), s.WarmedH vm₁ ∧ Stand p l e R s m args below meth c B.U B.locs B.cells B.slots ∧ PostX ⟨T.setVm vm₁, locs, cells, slots⟩ (Value.ref b :: argsL).toArray q B ∧
      Steps p.tables e below (T.setTop g) ((B.U.setTop { g with stack := rest }).pushFrame (.throwing q))) := by
  obtain ⟨mk, methM, hnamed, hmethM, hstM, habM⟩ := Cond.instanceMethod_spec hinst
  obtain ⟨m8, methM', cM, hn8, hmethM', -, -, -, -, -, -, hsigM⟩ := Cond.codeWith_spec hcode
  cases Option.some.inj (hn8.symm.trans hnamed)
  cases hmethM.symm.trans hmethM'
  obtain ⟨c2, r2, m2, q1, q2, q3, q4, kP, hkP, hkPi⟩ := Cond.selects_spec hsel
  cases hcls.symm.trans q1
  cases (State.methodFound?_of_named hnamed hy).symm.trans q2
  cases hnamed.symm.trans q3
  have hselP : selectMethod e.platform s.vm cellB.cls mk = .method mk := by rw [Launch.admits_selectMethod X.admits]; exact q4
  obtain ⟨vm₁, X₁, hstep₁⟩ := X.invokevirtual hexec hown hlink hnamed hmethM hstM hkP hkPi hy (a := b) (cell := cellB) hcell
    (fun z h => by rw [h] at hobj; cases hobj) hselP hmethM habM hkP hkPi (g := g) hg (argsL := argsL) (rest := rest) (hlen _ hsigM) hstack hdg
  rcases hK m meth c ⟨T.setVm vm₁, locs, cells, slots⟩ { g with stack := rest } (.invokevirtual index) mk (Value.ref b :: argsL).toArray X₁ hg hsize hdg hW (X₁.named hnamed) (hpre vm₁ X₁.warmed) with ⟨v, B, X', hpost, hsteps⟩ | ⟨q, B, X', hpost, hsteps⟩
  · exact Or.inl ⟨v, vm₁, B, X₁.warmed, X', hpost, fun target h => hstep₁ _ fun acts => by rw [doInvoke_state]; exact hsteps.trans h⟩
  · exact Or.inr ⟨q, vm₁, B, X₁.warmed, X', hpost, hstep₁ _ fun acts => by rw [doInvoke_state]; exact hsteps⟩
theorem vx_callSX (X : Stand p l e R s m args below meth c T locs cells slots) (hexec : p.tables.exec = Jvm.exec) {own : String} {index : Nat} {y : MethodName} {bytes : ByteArray} {maxL : Nat} {ret : Option FieldType} {hh : List (Nat × Nat × Nat × Nat)}
    (hown : s.vm.findClass own = some m.cls) (hlink : (Cond.methodLink own index y).before args s = true) (hstat : (Cond.static y).before args s = true) (hinit : (Cond.initialized y.cls).before args s = true)
    (hcode : (Cond.codeWith y bytes maxL ret hh).before args s = true) (hy : y.cls ≠ "java/lang/invoke/MethodHandle" ∧ y.cls ≠ "java/lang/invoke/VarHandle")
    {W9 : Nat} {Pre : Pt → Array Value → Prop} {Post : Pt → Array Value → Option Value → Pt → Prop} {PostX : Pt → Array Value → Addr → Pt → Prop} (hK : vx_Back l R p e below s args y 3 W9 Pre Post PostX)
    {g : JFrame} (hg : g.method = m) (hsize : g.locals.size = c.maxLocals) {argsL rest : List Value} (hlen : ∀ sig, parseMethodDescriptor y.desc = some sig → argsL.length = sig.parameters.length)
    (hstack : g.stack = argsL.reverse ++ rest) (hW : 2 * g.monitorRoom + (rest.map fun v => v.category).sum ≤ W9) (hdg : decode c.code g.pc = .ok (.invokestatic index, 3))
    (hpre : ∀ vm₁, s.WarmedH vm₁ → Pre ⟨T.setVm vm₁, locs, cells, slots⟩ argsL.toArray) :
    (∃ (v : Option Value) (vm₁ : Vm) (B : Pt), s.WarmedH vm₁ ∧ Stand p l e R s m args below meth c B.U B.locs B.cells B.slots ∧ Post ⟨T.setVm vm₁, locs, cells, slots⟩ argsL.toArray v B ∧
      ∀ target, Steps p.tables e below (B.U.setTop { g with pc := g.pc + 3, stack := v.toList ++ rest }) target → Steps p.tables e below (T.setTop g) target) ∨
    (∃ (q : Addr) (vm₁ : Vm) (B : Pt), s.WarmedH vm₁ ∧ Stand p l e R s m args below meth c B.U B.locs B.cells B.slots ∧ PostX ⟨T.setVm vm₁, locs, cells, slots⟩ argsL.toArray q B ∧
      Steps p.tables e below (T.setTop g) ((B.U.setTop { g with stack := rest }).pushFrame (.throwing q))) := by
  obtain ⟨mk, methM, cM, hnamed, hmethM, -, -, -, -, -, -, hsigM⟩ := Cond.codeWith_spec hcode
  have hstatic : methM.isStatic = true := Cond.static_spec hnamed hmethM hstat
  obtain ⟨kP, hkP, -⟩ := className_of_methodNamed hnamed
  have hinitP : kP.init = .initialized := Cond.initialized_spec (findClass_of_methodNamed hnamed) hkP hinit
  obtain ⟨vm₁, X₁, hstep₁⟩ := X.invokestatic hexec hown hlink hnamed hmethM hstatic hkP hinitP hy (g := g) hg (argsL := argsL) (rest := rest) (hlen _ hsigM) hstack hdg
  rcases hK m meth c ⟨T.setVm vm₁, locs, cells, slots⟩ { g with stack := rest } (.invokestatic index) mk argsL.toArray X₁ hg hsize hdg hW (X₁.named hnamed) (hpre vm₁ X₁.warmed) with ⟨v, B, X', hpost, hsteps⟩ | ⟨q, B, X', hpost, hsteps⟩
  · exact Or.inl ⟨v, vm₁, B, X₁.warmed, X', hpost, fun target h => hstep₁ _ fun acts => by rw [doInvoke_state]; exact hsteps.trans h⟩
  · exact Or.inr ⟨q, vm₁, B, X₁.warmed, X', hpost, hstep₁ _ fun acts => by rw [doInvoke_state]; exact hsteps⟩
theorem vx_callVW (X : Stand p l e R s m args below meth c T locs cells slots) (hexec : p.tables.exec = Jvm.exec) {own C : String} {index : Nat} {y : MethodName} {bytes : ByteArray} {maxL : Nat} {ret : Option FieldType} {hh : List (Nat × Nat × Nat × Nat)}
    (hown : s.vm.findClass own = some m.cls) (hlink : (Cond.methodLink own index y).before args s = true) (hinst : (Cond.instanceMethod y).before args s = true) (hsel : (Cond.selects C y y).before args s = true)
    (hcode : (Cond.codeWith y bytes maxL ret hh).before args s = true) (hy : y.cls ≠ "java/lang/invoke/MethodHandle" ∧ y.cls ≠ "java/lang/invoke/VarHandle")
    {W9 : Nat} {Pre : Pt → Array Value → Prop} {Post : Pt → Array Value → Option Value → Pt → Prop} (hK : Back l R p e below s args y 3 W9 Pre Post)
    {b : Addr} {cellB : Cell} (hcell : T.heap[b]? = some cellB) (hobj : cellB.vm.isStatics = false) (hcls : s.vm.findClass C = some cellB.cls)
    {g : JFrame} (hg : g.method = m) (hsize : g.locals.size = c.maxLocals) {argsL rest : List Value} (hlen : ∀ sig, parseMethodDescriptor y.desc = some sig → argsL.length = sig.parameters.length)
    (hstack : g.stack = argsL.reverse ++ .ref b :: rest) (hW : 2 * g.monitorRoom + (rest.map fun v => v.category).sum ≤ W9) (hdg : decode c.code g.pc = .ok (.invokevirtual index, 3))
    (hpre : ∀ vm₁, s.WarmedH vm₁ → Pre ⟨T.setVm vm₁, locs, cells, slots⟩ (Value.ref b :: argsL).toArray) :
    ∃ (v : Option Value) (vm₁ : Vm) (B : Pt), s.WarmedH vm₁ ∧ Stand p l e R s m args below meth c B.U B.locs B.cells B.slots ∧ Post ⟨T.setVm vm₁, locs, cells, slots⟩ (Value.ref b :: argsL).toArray v B ∧
      ∀ target, Steps p.tables e below (B.U.setTop { g with pc := g.pc + 3, stack := v.toList ++ rest }) target → Steps p.tables e below (T.setTop g) target := by
  obtain ⟨mk, methM, hnamed, hmethM, hstM, habM⟩ := Cond.instanceMethod_spec hinst
  obtain ⟨m8, methM', cM, hn8, hmethM', -, -, -, -, -, -, hsigM⟩ := Cond.codeWith_spec hcode
  cases Option.some.inj (hn8.symm.trans hnamed)
  cases hmethM.symm.trans hmethM'
  obtain ⟨c2, r2, m2, q1, q2, q3, q4, kP, hkP, hkPi⟩ := Cond.selects_spec hsel
  cases hcls.symm.trans q1
  cases (State.methodFound?_of_named hnamed hy).symm.trans q2
  cases hnamed.symm.trans q3
  have hselP : selectMethod e.platform s.vm cellB.cls mk = .method mk := by rw [Launch.admits_selectMethod X.admits]; exact q4
  obtain ⟨vm₁, X₁, hstep₁⟩ := X.invokevirtual hexec hown hlink hnamed hmethM hstM hkP hkPi hy (a := b) (cell := cellB) hcell
    (fun z h => by rw [h] at hobj; cases hobj) hselP hmethM habM hkP hkPi (g := g) hg (argsL := argsL) (rest := rest) (hlen _ hsigM) hstack hdg
  obtain ⟨v, B, X', hpost, hsteps⟩ := hK m meth c ⟨T.setVm vm₁, locs, cells, slots⟩ { g with stack := rest } (.invokevirtual index) mk (Value.ref b :: argsL).toArray X₁ hg hsize hdg hW (X₁.named hnamed) (hpre vm₁ X₁.warmed)
  exact ⟨v, vm₁, B, X₁.warmed, X', hpost, fun target h => hstep₁ _ fun acts => by rw [doInvoke_state]; exact hsteps.trans h⟩
abbrev vx_CVW (R : Room) (s : State) (args : Array Value) (own C : String) (index : Nat) (y : MethodName) (bytes : ByteArray) (maxL : Nat) (ret : Option FieldType) (hh : List (Nat × Nat × Nat × Nat)) (ws : List Cond) (rm : Room) (mc ms n : Nat) : Prop :=
  (rm.cells = mc ∧ rm.slots = ms ∧ rm.frames + 1 ≤ R.frames ∧ 8 + (maxL + 11) + rm.locals ≤ R.locals ∧ (∀ w ∈ ws, ∀ (a' : Array Value) (U : State), s.WarmedH U.vm → w.before a' U = true) ∧ Cond.codeWith y bytes maxL ret hh ∈ ws) ∧
  (Cond.codeWith y bytes maxL ret hh).before args s = true ∧ (Cond.initialized y.cls).before args s = true ∧ (y.cls ≠ "java/lang/invoke/MethodHandle" ∧ y.cls ≠ "java/lang/invoke/VarHandle") ∧
  (∀ sig, parseMethodDescriptor y.desc = some sig → n = sig.parameters.length) ∧ (Cond.methodLink own index y).before args s = true ∧ (Cond.instanceMethod y).before args s = true ∧ (Cond.selects C y y).before args s = true
theorem vx_cwVW {own C : String} {index maxL mc ms : Nat} {y : MethodName} {bytes : ByteArray} {ret : Option FieldType} {hh : List (Nat × Nat × Nat × Nat)} {Ts ws ws' : List Cond} {rm : Room} (n : Nat) (ht : ∀ w ∈ Ts, w.before args s = true) (hT : GoodIn Ts (wsV own index C y ws)) (hw : ws = Cond.codeWith y bytes maxL ret hh :: ws') (hrc : rm.cells = mc) (hrs : rm.slots = ms)
    (hd : y.cls = C ∧ y.cls ≠ "java/lang/invoke/MethodHandle" ∧ y.cls ≠ "java/lang/invoke/VarHandle" ∧ (parseMethodDescriptor y.desc).map (fun d => d.parameters.length) = some n) (hR : rm.frames + 1 ≤ R.frames ∧ 8 + (maxL + 11) + rm.locals ≤ R.locals) :
    vx_CVW R s args own C index y bytes maxL ret hh ws rm mc ms n := by
  obtain ⟨hC, hd⟩ := hd
  subst hC
  have ok : ∀ w ∈ wsV own index y.cls y ws, w.before args s = true := fun w h => ht w (hT w h).1
  have hG : GoodIn Ts ws := fun w h => hT w (by unfold wsV; exact List.mem_append_right _ h)
  have hc : Cond.codeWith y bytes maxL ret hh ∈ ws := by rw [hw]; exact List.mem_cons_self
  refine ⟨⟨hrc, hrs, hR.1, hR.2, pay_in ht hG, hc⟩, ht _ (hG _ hc).1, ok _ (by simp [wsV]), ⟨hd.1, hd.2.1⟩, fun sig h => ?_, ok _ (by simp [wsV]), ok _ (by simp [wsV]), ok _ (by simp [wsV])⟩
  have h2 := hd.2.2
  rw [h] at h2
  exact (Option.some.inj h2).symm
theorem vx_runVW {y : MethodName} {bytes cc : ByteArray} {maxL nL mc ms n index : Nat} {ret : Option FieldType} {hh : List (Nat × Nat × Nat × Nat)} {ws : List Cond} {rm : Room} {Pc : Array Value → State → Prop} {Qc : Array Value → State → Outcome → State → Prop} {free : Addr → Prop} {Ts : List Cond} {own C : String} {b : Addr} {As rest : List Value} {g : JFrame}
    (S : CallFix p m c cc nL s args Ts own) (hM : Met l y ws rm Pc Qc mc ms free) (cw : vx_CVW R s args own C index y bytes maxL ret hh ws rm mc ms n) (hp : PreV s H C b Pc As)
    (hg : g.method = m) (hn : As.length = n) (hsize : g.locals.size = nL) (hstack : g.stack = As.reverse ++ .ref b :: rest) (hW : 2 * g.monitorRoom + (rest.map fun v => v.category).sum ≤ 8) (hdg : decode cc g.pc = .ok (.invokevirtual index, 3)) (hf : cells + mc ≤ R.cells ∧ slots + ms ≤ R.slots) :
    va_Run p l e R s m args below meth c H locs cells slots mc ms g rest (Qc (Value.ref b :: As).toArray) free := by
  obtain ⟨⟨hrc, hrs, hfr, hlo, hws, hcw⟩, hcode, hini, hy, hlen, hl, hin, hse⟩ := cw
  have hK : Back l R p e below s args y 3 8 (PreOf R mc ms Pc) (PostOf Qc mc ms free) := va_backW (hh := hh) (bytes := bytes) (maxL := maxL) (ret := ret) hM hp.1 hrc hrs hfr hlo hws hcw (fun a' U hW => word_at hW (Or.inl (by first | rfl | simp [Cond.onTables, Cond.keeps, Cond.steady])) hini)
  obtain ⟨hx, hb, hml, ho, -⟩ := S
  obtain ⟨-, ⟨cellB, hcB, hoB, hclB⟩, hPc⟩ := hp
  intro T hT X
  obtain ⟨v, vm₁, ⟨U', l2, c2, s2⟩, hW₁, X', ⟨g', mk, t, L, e1, e2, hq, h1, hL, h2, h3⟩, st⟩ := vx_callVW X hx (C := C) (hh := hh) (bytes := bytes) (maxL := maxL) (ret := ret) ho hl hin hse hcode hy hK (by rw [hT]; exact hcB) hoB hclB hg (hsize.trans hml.symm) (argsL := As) (rest := rest) (fun sig h => hn.trans (hlen sig h)) hstack hW (by rw [hb]; exact hdg)
    (fun vm₁ hW₁ => ⟨hf.1, hf.2, hPc (T.setVm vm₁) hT hW₁⟩)
  dsimp only [Pt.U, Pt.locs, Pt.cells, Pt.slots] at X' e1 e2 h1 h2 h3 st
  subst h1; subst h2; subst h3
  exact ⟨v, (T.setVm vm₁).calling g' mk (Value.ref b :: As).toArray, t, U', L, hT, X', hL, e1, e2, hq, st⟩
section
variable {y : MethodName} {bytes cc : ByteArray} {maxL nL mc ms n index : Nat} {ret : Option FieldType} {ws : List Cond} {rm : Room} {Pc : Array Value → State → Prop} {Qc : Array Value → State → Outcome → State → Prop} {XC : String → State → State → Prop} {free : Addr → Prop} {Ts : List Cond} {own C : String} {b : Addr} {As rest : List Value} {g : JFrame}
theorem vx_runVX {hh : List (Nat × Nat × Nat × Nat)} (S : CallFix p m c cc nL s args Ts own) (hM : vx_Met l y ws rm Pc Qc XC mc ms free) (cw : vx_CVW R s args own C index y bytes maxL ret hh ws rm mc ms n) (hp : PreV s H C b Pc As)
    (hg : g.method = m) (hn : As.length = n) (hsize : g.locals.size = nL) (hstack : g.stack = As.reverse ++ .ref b :: rest) (hW : 2 * g.monitorRoom + (rest.map fun v => v.category).sum ≤ 8) (hdg : decode cc g.pc = .ok (.invokevirtual index, 3)) (hf : cells + mc ≤ R.cells ∧ slots + ms ≤ R.slots) :
    vx_Run p l e R s m args below meth c H locs cells slots mc ms g rest (Qc (Value.ref b :: As).toArray) XC free := by
  obtain ⟨⟨hrc, hrs, hfr, hlo, hws, hcw⟩, hcode, hini, hy, hlen, hl, hin, hse⟩ := cw
  have hK : vx_Back l R p e below s args y 3 8 (PreOf R mc ms Pc) (PostOf Qc mc ms free) (vx_Post XC mc ms free) := vx_backW (hh := hh) (bytes := bytes) (maxL := maxL) (ret := ret) hM hp.1 hrc hrs hfr hlo hws hcw (fun a' U hW => word_at hW (Or.inl (by first | rfl | simp [Cond.onTables, Cond.keeps, Cond.steady])) hini)
  obtain ⟨hx, hb, hml, ho, -⟩ := S
  obtain ⟨-, ⟨cellB, hcB, hoB, hclB⟩, hPc⟩ := hp
  intro T hT X
  rcases vx_callVX X hx (C := C) (hh := hh) (bytes := bytes) (maxL := maxL) (ret := ret) ho hl hin hse hcode hy hK (by rw [hT]; exact hcB) hoB hclB hg (hsize.trans hml.symm) (argsL := As) (rest := rest) (fun sig h => hn.trans (hlen sig h)) hstack hW (by rw [hb]; exact hdg)
    (fun vm₁ hW₁ => ⟨hf.1, hf.2, hPc (T.setVm vm₁) hT hW₁⟩) with ⟨v, vm₁, ⟨U', l2, c2, s2⟩, hW₁, X', ⟨g', mk, t, L, e1, e2, hq, h1, hL, h2, h3⟩, st⟩ | ⟨q, vm₁, ⟨U', l2, c2, s2⟩, hW₁, X', ⟨g', mk, t, L, E, ce, e1, e2, hq, hce, hcv, hcl, h1, hL, h2, h3⟩, st⟩
  · dsimp only [Pt.U, Pt.locs, Pt.cells, Pt.slots] at X' e1 e2 h1 h2 h3 st
    subst h1; subst h2; subst h3
    exact Or.inl ⟨v, (T.setVm vm₁).calling g' mk (Value.ref b :: As).toArray, t, U', L, hT, X', hL, e1, e2, hq, st⟩
  · dsimp only [Pt.U, Pt.locs, Pt.cells, Pt.slots] at X' e1 e2 h1 h2 h3 st hcl
    subst h1; subst h2; subst h3
    exact Or.inr ⟨q, (T.setVm vm₁).calling g' mk (Value.ref b :: As).toArray, t, U', L, E, ce, hT, X', hL, e1, e2, hq, hce, hcv, vx_cls hW₁ hcl, st⟩
theorem vx_runSX {hh : List (Nat × Nat × Nat × Nat)} (S : CallFix p m c cc nL s args Ts own) (hM : vx_Met l y ws rm Pc Qc XC mc ms free) (cw : vx_CSW R s args own index y bytes maxL ret hh ws rm mc ms n) (hp : PreS s H Pc As)
    (hg : g.method = m) (hn : As.length = n) (hsize : g.locals.size = nL) (hstack : g.stack = As.reverse ++ rest) (hW : 2 * g.monitorRoom + (rest.map fun v => v.category).sum ≤ 8) (hdg : decode cc g.pc = .ok (.invokestatic index, 3)) (hf : cells + mc ≤ R.cells ∧ slots + ms ≤ R.slots) :
    vx_Run p l e R s m args below meth c H locs cells slots mc ms g rest (Qc As.toArray) XC free := by
  obtain ⟨⟨hrc, hrs, hfr, hlo, hws, hcw⟩, hcode, hini, hy, hlen, hl, hstt⟩ := cw
  have hK : vx_Back l R p e below s args y 3 8 (PreOf R mc ms Pc) (PostOf Qc mc ms free) (vx_Post XC mc ms free) := vx_backW (hh := hh) (bytes := bytes) (maxL := maxL) (ret := ret) hM hp.1 hrc hrs hfr hlo hws hcw (fun a' U hW => word_at hW (Or.inl (by first | rfl | simp [Cond.onTables, Cond.keeps, Cond.steady])) hini)
  obtain ⟨hx, hb, hml, ho, -⟩ := S
  intro T hT X
  rcases vx_callSX X hx (hh := hh) (bytes := bytes) (maxL := maxL) (ret := ret) ho hl hstt hini hcode hy hK hg (hsize.trans hml.symm) (argsL := As) (rest := rest) (fun sig h => hn.trans (hlen sig h)) hstack hW (by rw [hb]; exact hdg)
    (fun vm₁ hW₁ => ⟨hf.1, hf.2, hp.2 (T.setVm vm₁) hT hW₁⟩) with ⟨v, vm₁, ⟨U', l2, c2, s2⟩, hW₁, X', ⟨g', mk, t, L, e1, e2, hq, h1, hL, h2, h3⟩, st⟩ | ⟨q, vm₁, ⟨U', l2, c2, s2⟩, hW₁, X', ⟨g', mk, t, L, E, ce, e1, e2, hq, hce, hcv, hcl, h1, hL, h2, h3⟩, st⟩
  · dsimp only [Pt.U, Pt.locs, Pt.cells, Pt.slots] at X' e1 e2 h1 h2 h3 st
    subst h1; subst h2; subst h3
    exact Or.inl ⟨v, (T.setVm vm₁).calling g' mk As.toArray, t, U', L, hT, X', hL, e1, e2, hq, st⟩
  · dsimp only [Pt.U, Pt.locs, Pt.cells, Pt.slots] at X' e1 e2 h1 h2 h3 st hcl
    subst h1; subst h2; subst h3
    exact Or.inr ⟨q, (T.setVm vm₁).calling g' mk As.toArray, t, U', L, E, ce, hT, X', hL, e1, e2, hq, hce, hcv, vx_cls hW₁ hcl, st⟩
end
end VXH
theorem vx_ofWH {l : Launch} {y : MethodName} {ws ws' : List Cond} {rm : Room} {Pc : Array Value → State → Prop} {Qc : Array Value → State → Outcome → State → Prop} {XC : String → State → State → Prop} {mc ms : Nat} {free : Addr → Prop} {cc : ByteArray} {maxL : Nat} {ret : Option FieldType} {hh : List (Nat × Nat × Nat × Nat)}
    (hy : plainName y.cls = true) (hw : ws = Cond.codeWith y cc maxL ret hh :: ws')
    (body : ∀ p e s m args below meth c s₁, BodyLoose p l y (headSpec ws rm) cc maxL ret e s m args below meth c s₁ → c.maxLocals = maxL → Pc args s →
      W p l e (headSpec ws rm).room s m args below meth c s.heap [] 0 0 (vx_MQ below Qc XC args s mc ms free) (entryFrame m args maxL)) : vx_Met l y ws rm Pc Qc XC mc ms free := by
  refine MetFree.of_bodyS (code := cc) (maxLocals := maxL) (ret := ret) hy ?_ ?_
  · intro args s m h hn
    obtain ⟨m9, meth, c, hn9, h1, h2, h3, h4, -, h5, h6, -⟩ := Cond.codeWith_spec (atoms_spec (ws := ws) h _ (by rw [hw]; exact List.mem_cons_self))
    cases hn.symm.trans hn9
    exact ⟨meth, c, h1, h2, h3, h4, h5, h6⟩
  · intro p e s m args below meth c s₁ B hml hP _
    have hh0 : s₁.heap = s.heap := by rw [B.state]; rfl
    obtain ⟨t, a1, o, b1, b2, b3⟩ := body p e s m args below meth c s₁ B hml hP s₁ hh0 (Stand.of_body B)
    exact ⟨t, o, a1, b1, b2, b3⟩
/-! ===== END ===== -/

/-! my own: a thrown thing is caught by a row of the walked method's table, whether or not the rows' classes have been resolved before (no law of Shelf42 is used) -/
section AXC
variable {e : Env} {f : JFrame} {a : Addr}
/-- one row that covers the pc: its class is resolved on the way; it takes the object or passes it on -/
theorem ax_row {Q : Handler → Pre} {E : CtlPost} {d : Bool} {acts : List Action} {u : State} {x : ExceptionTableEntry} {t : List ExceptionTableEntry} {c : ClassId} {cell : Cell} (hx : covers x f.pc = true) (h0 : x.catchType ≠ 0)
    (hl : u.vm.ClassLinks e.platform f.method.cls x.catchType c) (hcell : u.heap[a]? = some cell) (hobj : ∀ k, cell.vm ≠ .statics k)
    (hk : ∃ k, u.vm.classes[cell.cls]? = some k) (hc : ∃ k, u.vm.classes[c]? = some k) :
    wp (findHandler.go f a (x :: t)) Q E e d acts u ↔
      if u.vm.assignable cell.cls c = true then Q (.found x.handlerPc) d acts (u.setVm (u.vm.noted f.method.cls x.catchType (.cls c)))
      else wp (findHandler.go f a t) Q E e d acts (u.setVm (u.vm.noted f.method.cls x.catchType (.cls c))) := by
  simp only [covers] at hx
  obtain ⟨g1, g2⟩ := (resolveClass_links e.toSetting hl).op (op := VmOp.resolveClass f.method.cls x.catchType) rfl
  have al : u.vm.Alike (u.vm.noted f.method.cls x.catchType (.cls c)) := (Vm.Alike.refl u.vm).noted _ _ _
  obtain ⟨k1, hk1⟩ := hk
  obtain ⟨k2, hk2⟩ := hc
  obtain ⟨j1, hj1, -⟩ := al.2.2 _ _ hk1
  obtain ⟨j2, hj2, -⟩ := al.2.2 _ _ hk2
  cases hb : u.vm.assignable cell.cls c with
  | true =>
    have hb' : (u.vm.noted f.method.cls x.catchType (.cls c)).assignable cell.cls c = true := by rw [al.assignable]; exact hb
    simp [findHandler.go, hx, h0, g1, g2, hcell, hobj, hj1, hj2, hb', VmOp.dirties, VmOp.acts]
  | false =>
    have hb' : (u.vm.noted f.method.cls x.catchType (.cls c)).assignable cell.cls c = false := by rw [al.assignable]; exact hb
    simp [findHandler.go, hx, h0, g1, g2, hcell, hobj, hj1, hj2, hb', VmOp.dirties, VmOp.acts]
/-- the search through rows that don't take it, up to the one that does: what it answers, and the tables that it leaves -/
theorem ax_search {s0 : State} {cell : Cell} (hobj : ∀ k, cell.vm ≠ .statics k) (hk0 : ∃ k, s0.vm.classes[cell.cls]? = some k) {x : ExceptionTableEntry} {suf : List ExceptionTableEntry} (hx : covers x f.pc = true) (h0 : x.catchType ≠ 0)
    {c : ClassId} (hl : s0.vm.ClassLinks e.platform f.method.cls x.catchType c) (hfit : s0.vm.assignable cell.cls c = true) (pre : List ExceptionTableEntry)
    (hpass : ∀ y ∈ pre, covers y f.pc = false ∨ (y.catchType ≠ 0 ∧ ∃ c', s0.vm.ClassLinks e.platform f.method.cls y.catchType c' ∧ s0.vm.assignable cell.cls c' = false)) :
    ∀ u : State, s0.WarmedH u.vm → u.heap[a]? = some cell →
      ∃ vm', s0.WarmedH vm' ∧ ∀ (Q : Handler → Pre) (E : CtlPost) (d : Bool) (acts : List Action), wp (findHandler.go f a (pre ++ x :: suf)) Q E e d acts u ↔ Q (.found x.handlerPc) d acts (u.setVm vm') := by
  obtain ⟨k0, hk0⟩ := hk0
  induction pre with
  | nil =>
    intro u hW hcell
    obtain ⟨j0, hj0, -⟩ := hW.alike.2.2 _ _ hk0
    obtain ⟨dk, _, _, kt, hd, _, _, _, _, hkt, _, hopen⟩ := hl.here
    obtain ⟨jt, hjt, -⟩ := hW.alike.2.2 _ _ hkt
    refine ⟨_, hW.noted hd hopen (State.rightAt_cls hl), fun Q E d acts => ?_⟩
    rw [List.nil_append, ax_row hx h0 (hW.classLinks hl) hcell hobj ⟨j0, hj0⟩ ⟨jt, hjt⟩, if_pos (by rw [hW.alike.assignable]; exact hfit)]
  | cons y ys ih =>
    intro u hW hcell
    have ih := ih (fun z hz => hpass z (List.mem_cons_of_mem _ hz))
    cases hcov : covers y f.pc with
    | false =>
      obtain ⟨vm', q1, q2⟩ := ih u hW hcell
      exact ⟨vm', q1, fun Q E d acts => by rw [List.cons_append, W.findHandler_go_skip hcov]; exact q2 Q E d acts⟩
    | true =>
      rcases hpass y List.mem_cons_self with h | ⟨hy0, c', hl', hno⟩
      · rw [h] at hcov; cases hcov
      · obtain ⟨j0, hj0, -⟩ := hW.alike.2.2 _ _ hk0
        obtain ⟨dk, _, _, kt, hd, _, _, _, _, hkt, _, hopen⟩ := hl'.here
        obtain ⟨jt, hjt, -⟩ := hW.alike.2.2 _ _ hkt
        obtain ⟨vm', q1, q2⟩ := ih (u.setVm (u.vm.noted f.method.cls y.catchType (.cls c'))) (hW.noted hd hopen (State.rightAt_cls hl')) hcell
        refine ⟨vm', q1, fun Q E d acts => ?_⟩
        rw [List.cons_append, ax_row hcov hy0 (hW.classLinks hl') hcell hobj ⟨j0, hj0⟩ ⟨jt, hjt⟩, if_neg (by rw [hW.alike.assignable, hno]; decide)]
        exact q2 Q E d acts
end AXC
section AXD
variable {p : Program} {l : Launch} {e : Env} {R : Room} {s : State} {m : MethodId} {args : Array Value} {below : List Frame} {meth : Method} {c : Code} {H : Heap} {locs : List Loc} {cells slots : Nat} {Q : State → Prop} {pc : Nat} {ls : Array Slot} {rest : List Value}
/-- caught by the row x of this method's table; the rows ahead don't take it -/
theorem ax_catch {own name E : String} {ce : Cell} {q : Addr} (hown : s.vm.findClass own = some m.cls) (pre : List ExceptionTableEntry) (x : ExceptionTableEntry) (suf : List ExceptionTableEntry) (hsplit : c.exceptionTable.toList = pre ++ x :: suf)
    (hpass : ∀ z ∈ pre, covers z pc = false ∨ (z.catchType ≠ 0 ∧ ∃ nm : String, (Cond.classLink own z.catchType nm).before args s = true ∧ va_Nc E nm s)) (hx : covers x pc = true) (h0 : x.catchType ≠ 0)
    (hlink : (Cond.classLink own x.catchType name).before args s = true) (hcast : (Cond.castable E name).before args s = true) (hcell : H[q]? = some ce) (hv : ce.vm = .none) (hcl : s.vm.findClass E = some ce.cls)
    (kk : W p l e R s m args below meth c H locs cells slots Q (F0 m x.handlerPc ls [.ref q])) : vx_W p l e R s m args below meth c H locs cells slots Q (F0 m pc ls rest) q := by
  intro T hT X
  have hpl : e.platform.magicAccessors = ({} : Platform).magicAccessors := by rw [X.admits.platform]
  obtain ⟨c3, c4, hc3, hc4, hasg⟩ := Cond.castable_spec hcast
  cases Option.some.inj (hc3.symm.trans hcl)
  obtain ⟨c5, hc5, hcl5⟩ := Cond.classLink_spec hown hlink e.platform hpl
  cases Option.some.inj (hc4.symm.trans hc5)
  have hst : ∀ k, ce.vm ≠ .statics k := fun k h => by rw [hv] at h; cases h
  have hkE : ∃ k, s.vm.classes[ce.cls]? = some k := by obtain ⟨k9, h9, -⟩ := Vm.findClass_spec hcl; exact ⟨k9, h9⟩
  have hps : ∀ y ∈ pre, covers y (F0 m pc ls rest).pc = false ∨ (y.catchType ≠ 0 ∧ ∃ c', s.vm.ClassLinks e.platform (F0 m pc ls rest).method.cls y.catchType c' ∧ s.vm.assignable ce.cls c' = false) := by
    intro z hz
    rcases hpass z hz with h | ⟨hz0, nm, hl1, hn1⟩
    · exact Or.inl h
    · obtain ⟨c6, hc6, hcl6⟩ := Cond.classLink_spec hown hl1 e.platform hpl
      obtain ⟨a8, b8, h1, h2, h3⟩ := hn1
      cases Option.some.inj (h1.symm.trans hcl)
      cases Option.some.inj (h2.symm.trans hc6)
      exact Or.inr ⟨hz0, _, hcl6, h3⟩
  obtain ⟨vm', hW', hq⟩ := ax_search (e := e) (f := F0 m pc ls rest) (a := q) (s0 := s) hst hkE (x := x) (suf := suf) hx h0 hcl5 hasg pre hps ((T.setTop (F0 m pc ls rest)).pushFrame (.throwing q)) X.warmed (show T.heap[q]? = some ce by rw [hT]; exact hcell)
  obtain ⟨t, a1, b1⟩ := kk (T.setVm vm') hT (X.noted hW')
  refine ⟨t, ?_, b1⟩
  have hh := X.here
  obtain ⟨hgo, hw⟩ := At.throwing (g := F0 m pc ls rest) hh q
  refine Steps.head hgo hw ?_
  obtain ⟨g0, hg⟩ := Option.isSome_iff_exists.mp hh.top
  obtain ⟨r, hr⟩ := State.topJava?_eq_some.mp hg
  have key : (stepThrowing e ((T.setTop (F0 m pc ls rest)).pushFrame (.throwing q)) q (.java (F0 m pc ls rest) :: T.frames.tail)).Is ((((T.setTop (F0 m pc ls rest)).pushFrame (.throwing q)).setVm vm').setFrames (.java { F0 m pc ls rest with pc := x.handlerPc, stack := [.ref q] } :: T.frames.tail)) [] := by
    simp only [stepThrowing, searchFrame, vmDo]
    generalize hres : Sem.go _ e false [] ((T.setTop (F0 m pc ls rest)).pushFrame (.throwing q)) = res
    obtain ⟨as, rfl, ha⟩ := Sem.eq_ok_of hres (a := Handler.found x.handlerPc) (s' := ((T.setTop (F0 m pc ls rest)).pushFrame (.throwing q)).setVm vm') (acts' := []) (by
      have hfe : ∀ (Q : Handler → Pre) (E : CtlPost) (d : Bool) (acts : List Action), wp (findHandler (F0 m pc ls rest) q) Q E e d acts ((T.setTop (F0 m pc ls rest)).pushFrame (.throwing q)) ↔ Q (.found x.handlerPc) d acts (((T.setTop (F0 m pc ls rest)).pushFrame (.throwing q)).setVm vm') := fun Q E d acts => by
        rw [W.findHandler_eq (meth := meth) (code := c) X.method' X.code, hsplit]
        exact hq Q E d acts
      simp [hfe _ _ _ _])
    exact ⟨rfl, ha⟩
  rw [stepThread_throwing (frames_entered hh.top _), key.1]
  have hr' : (T.setVm vm').frames = .java g0 :: r := hr
  rw [State.setTop_of_frames _ hr'] at a1
  have e1 : (((T.setTop (F0 m pc ls rest)).pushFrame (.throwing q)).setVm vm').setFrames (.java { F0 m pc ls rest with pc := x.handlerPc, stack := [.ref q] } :: T.frames.tail) = (T.setVm vm').setFrames (.java { F0 m pc ls rest with pc := x.handlerPc, stack := [.ref q] } :: r) := by
    rw [State.pushFrame, State.setTop_of_frames _ hr, State.setFrames_setFrames, hr]
    have key2 : ∀ F G : List Frame, ((T.setFrames F).setVm vm').setFrames G = (T.setVm vm').setFrames G := fun F G => by
      show ((T.setVm vm').setFrames F).setFrames G = _
      rw [State.setFrames_setFrames]
    rw [key2]
    rfl
  rw [e1]
  exact a1
end AXD
end
section
def RX0 : String := "QuotaRegister$Accounts"
def TX0 : u_T := fun k => match k with
  | 0 => ("QuotaRegister$Accounts", "allotted", "[I", true)
  | 1 => ("QuotaRegister$Accounts", "leased", "[I", true)
  | 2 => ("QuotaRegister$Accounts", "banked", "[I", true)
  | 3 => ("QuotaRegister$Accounts", "takenOff", "[I", true)
  | 4 => ("QuotaRegister$Accounts", "charged", "[I", true)
  | 5 => ("QuotaRegister$Accounts", "toBank", "[I", true)
  | 6 => ("QuotaRegister$Accounts", "advanced", "[I", true)
  | 7 => ("QuotaRegister$Accounts", "levied", "[I", true)
  | 8 => ("QuotaRegister$Accounts", "exchanged", "[I", true)
  | _ => ("QuotaRegister$Accounts", "remainders", "[I", true)
def tyX0 : Nat → FieldType := fun k => match k with
  | 0 => .array .int
  | 1 => .array .int
  | 2 => .array .int
  | 3 => .array .int
  | 4 => .array .int
  | 5 => .array .int
  | 6 => .array .int
  | 7 => .array .int
  | 8 => .array .int
  | _ => .array .int
theorem nmX0 : ∀ a, a < 10 → ∀ b, b < 10 → a ≠ b → (TX0 a).2.1 ≠ (TX0 b).2.1 := by decide +kernel
theorem tyX0_ok : ∀ k, k < 10 → parseFieldDescriptor (TX0 k).2.2.1 = some (tyX0 k) := by decide +kernel
abbrev cX0_init : ByteArray := prog_2_method_1_code
def yX0_init : MethodName := ⟨RX0, "<init>", "()V"⟩
abbrev cX0_row : ByteArray := prog_2_method_2_code
def yX0_row : MethodName := ⟨RX0, "row", "(III)I"⟩
abbrev cX0_allot : ByteArray := prog_2_method_3_code
def yX0_allot : MethodName := ⟨RX0, "allot", "(IIILQuotaRegister$Shares;)V"⟩
abbrev cX0_greatestRemainder : ByteArray := prog_2_method_4_code
def yX0_greatestRemainder : MethodName := ⟨RX0, "greatestRemainder", "()I"⟩
abbrev cX0_begin : ByteArray := prog_2_method_5_code
def yX0_begin : MethodName := ⟨RX0, "begin", "(I)V"⟩
abbrev cX0_settle : ByteArray := prog_2_method_6_code
def yX0_settle : MethodName := ⟨RX0, "settle", "(I)V"⟩
abbrev cX0_countLevied : ByteArray := prog_2_method_7_code
def yX0_countLevied : MethodName := ⟨RX0, "countLevied", "(I)I"⟩
abbrev cX0_leviedOn : ByteArray := prog_2_method_8_code
def yX0_leviedOn : MethodName := ⟨RX0, "leviedOn", "(III)I"⟩
abbrev cX0_hasLeft : ByteArray := prog_2_method_9_code
def yX0_hasLeft : MethodName := ⟨RX0, "hasLeft", "(IIII)Z"⟩
abbrev cX0_canExchange : ByteArray := prog_2_method_10_code
def yX0_canExchange : MethodName := ⟨RX0, "canExchange", "(IIIIII)Z"⟩
abbrev cX0_moveLeased : ByteArray := prog_2_method_11_code
def yX0_moveLeased : MethodName := ⟨RX0, "moveLeased", "(IIIII)V"⟩
abbrev cX0_charge : ByteArray := prog_2_method_12_code
def yX0_charge : MethodName := ⟨RX0, "charge", "(IIII)V"⟩
abbrev cX0_exchange : ByteArray := prog_2_method_13_code
def yX0_exchange : MethodName := ⟨RX0, "exchange", "(IIIIII)V"⟩
abbrev cX0_figure : ByteArray := prog_2_method_14_code
def yX0_figure : MethodName := ⟨RX0, "figure", "(II)I"⟩
abbrev cX0_leftOn : ByteArray := prog_2_method_15_code
def yX0_leftOn : MethodName := ⟨RX0, "leftOn", "(I)I"⟩
def RX1 : String := "QuotaRegister$Events"
def TX1 : u_T := fun k => match k with
  | 0 => ("QuotaRegister$Events", "kinds", "[I", true)
  | 1 => ("QuotaRegister$Events", "years", "[I", true)
  | 2 => ("QuotaRegister$Events", "vessels", "[I", true)
  | 3 => ("QuotaRegister$Events", "species", "[I", true)
  | 4 => ("QuotaRegister$Events", "others", "[I", true)
  | 5 => ("QuotaRegister$Events", "kilograms", "[I", true)
  | 6 => ("QuotaRegister$Events", "weights", "[I", true)
  | 7 => ("QuotaRegister$Events", "struck", "[Z", true)
  | 8 => ("QuotaRegister$Events", "counting", "[Z", true)
  | _ => ("QuotaRegister$Events", "count", "I", false)
def tyX1 : Nat → FieldType := fun k => match k with
  | 0 => .array .int
  | 1 => .array .int
  | 2 => .array .int
  | 3 => .array .int
  | 4 => .array .int
  | 5 => .array .int
  | 6 => .array .int
  | 7 => .array .boolean
  | 8 => .array .boolean
  | _ => .int
theorem nmX1 : ∀ a, a < 10 → ∀ b, b < 10 → a ≠ b → (TX1 a).2.1 ≠ (TX1 b).2.1 := by decide +kernel
theorem tyX1_ok : ∀ k, k < 10 → parseFieldDescriptor (TX1 k).2.2.1 = some (tyX1 k) := by decide +kernel
abbrev cX1_init : ByteArray := prog_3_method_1_code
def yX1_init : MethodName := ⟨RX1, "<init>", "()V"⟩
abbrev cX1_size : ByteArray := prog_3_method_2_code
def yX1_size : MethodName := ⟨RX1, "size", "()I"⟩
abbrev cX1_areFull : ByteArray := prog_3_method_3_code
def yX1_areFull : MethodName := ⟨RX1, "areFull", "()Z"⟩
abbrev cX1_has : ByteArray := prog_3_method_4_code
def yX1_has : MethodName := ⟨RX1, "has", "(I)Z"⟩
abbrev cX1_add : ByteArray := prog_3_method_5_code
def yX1_add : MethodName := ⟨RX1, "add", "(IIIIIII)I"⟩
abbrev cX1_yearOf : ByteArray := prog_3_method_6_code
def yX1_yearOf : MethodName := ⟨RX1, "yearOf", "(I)I"⟩
abbrev cX1_canBeStruck : ByteArray := prog_3_method_7_code
def yX1_canBeStruck : MethodName := ⟨RX1, "canBeStruck", "(I)Z"⟩
abbrev cX1_markStruck : ByteArray := prog_3_method_8_code
def yX1_markStruck : MethodName := ⟨RX1, "markStruck", "(I)V"⟩
abbrev cX1_workYear : ByteArray := prog_3_method_9_code
def yX1_workYear : MethodName := ⟨RX1, "workYear", "(ILQuotaRegister$Accounts;)V"⟩
abbrev cX1_work : ByteArray := prog_3_method_10_code
def yX1_work : MethodName := ⟨RX1, "work", "(ILQuotaRegister$Accounts;)V"⟩
abbrev cX1_workLease : ByteArray := prog_3_method_11_code
def yX1_workLease : MethodName := ⟨RX1, "workLease", "(ILQuotaRegister$Accounts;)Z"⟩
abbrev cX1_workLanding : ByteArray := prog_3_method_12_code
def yX1_workLanding : MethodName := ⟨RX1, "workLanding", "(ILQuotaRegister$Accounts;)Z"⟩
abbrev cX1_workEquivalent : ByteArray := prog_3_method_13_code
def yX1_workEquivalent : MethodName := ⟨RX1, "workEquivalent", "(ILQuotaRegister$Accounts;)Z"⟩
abbrev cX1_countCounting : ByteArray := prog_3_method_14_code
def yX1_countCounting : MethodName := ⟨RX1, "countCounting", "()I"⟩
abbrev cX1_figure : ByteArray := prog_3_method_15_code
def yX1_figure : MethodName := ⟨RX1, "figure", "(II)I"⟩
def RX2 : String := "QuotaRegister$Shares"
def TX2 : u_T := fun k => match k with
  | 0 => ("QuotaRegister$Shares", "caps", "[I", true)
  | 1 => ("QuotaRegister$Shares", "links", "[I", true)
  | 2 => ("QuotaRegister$Shares", "vesselOwners", "[I", true)
  | 3 => ("QuotaRegister$Shares", "parts", "[I", true)
  | _ => ("QuotaRegister$Shares", "placed", "[I", true)
def tyX2 : Nat → FieldType := fun k => match k with
  | 0 => .array .int
  | 1 => .array .int
  | 2 => .array .int
  | 3 => .array .int
  | _ => .array .int
theorem nmX2 : ∀ a, a < 5 → ∀ b, b < 5 → a ≠ b → (TX2 a).2.1 ≠ (TX2 b).2.1 := by decide +kernel
theorem tyX2_ok : ∀ k, k < 5 → parseFieldDescriptor (TX2 k).2.2.1 = some (tyX2 k) := by decide +kernel
abbrev cX2_init : ByteArray := prog_4_method_1_code
def yX2_init : MethodName := ⟨RX2, "<init>", "()V"⟩
abbrev cX2_setCap : ByteArray := prog_4_method_2_code
def yX2_setCap : MethodName := ⟨RX2, "setCap", "(II)V"⟩
abbrev cX2_setOwner : ByteArray := prog_4_method_3_code
def yX2_setOwner : MethodName := ⟨RX2, "setOwner", "(II)V"⟩
abbrev cX2_ownerOf : ByteArray := prog_4_method_4_code
def yX2_ownerOf : MethodName := ⟨RX2, "ownerOf", "(I)I"⟩
abbrev cX2_join : ByteArray := prog_4_method_5_code
def yX2_join : MethodName := ⟨RX2, "join", "(II)V"⟩
abbrev cX2_part : ByteArray := prog_4_method_6_code
def yX2_part : MethodName := ⟨RX2, "part", "(II)V"⟩
abbrev cX2_areJoined : ByteArray := prog_4_method_7_code
def yX2_areJoined : MethodName := ⟨RX2, "areJoined", "(II)Z"⟩
abbrev cX2_inOneGroup : ByteArray := prog_4_method_8_code
def yX2_inOneGroup : MethodName := ⟨RX2, "inOneGroup", "(II)Z"⟩
abbrev cX2_groupOf : ByteArray := prog_4_method_9_code
def yX2_groupOf : MethodName := ⟨RX2, "groupOf", "(I)I"⟩
abbrev cX2_partsOf : ByteArray := prog_4_method_10_code
def yX2_partsOf : MethodName := ⟨RX2, "partsOf", "(II)I"⟩
abbrev cX2_partsOfGroup : ByteArray := prog_4_method_11_code
def yX2_partsOfGroup : MethodName := ⟨RX2, "partsOfGroup", "(II)I"⟩
abbrev cX2_partsInAll : ByteArray := prog_4_method_12_code
def yX2_partsInAll : MethodName := ⟨RX2, "partsInAll", "(I)I"⟩
abbrev cX2_addParts : ByteArray := prog_4_method_13_code
def yX2_addParts : MethodName := ⟨RX2, "addParts", "(III)I"⟩
abbrev cX2_placedOn : ByteArray := prog_4_method_14_code
def yX2_placedOn : MethodName := ⟨RX2, "placedOn", "(II)I"⟩
abbrev cX2_addPlaced : ByteArray := prog_4_method_15_code
def yX2_addPlaced : MethodName := ⟨RX2, "addPlaced", "(III)I"⟩
abbrev cX2_carriesParts : ByteArray := prog_4_method_16_code
def yX2_carriesParts : MethodName := ⟨RX2, "carriesParts", "(I)Z"⟩
abbrev cX2_freeParts : ByteArray := prog_4_method_17_code
def yX2_freeParts : MethodName := ⟨RX2, "freeParts", "(II)I"⟩
abbrev cX2_someGroupHoldsMore : ByteArray := prog_4_method_18_code
def yX2_someGroupHoldsMore : MethodName := ⟨RX2, "someGroupHoldsMore", "(II)Z"⟩
abbrev cX2_groupWouldPassCap : ByteArray := prog_4_method_19_code
def yX2_groupWouldPassCap : MethodName := ⟨RX2, "groupWouldPassCap", "(III)Z"⟩
abbrev cX2_joinedWouldPassCap : ByteArray := prog_4_method_20_code
def yX2_joinedWouldPassCap : MethodName := ⟨RX2, "joinedWouldPassCap", "(II)Z"⟩
def RX3 : String := "QuotaRegister"
def TX3 : u_T := fun k => match k with
  | 0 => ("QuotaRegister", "values", "[I", true)
  | 1 => ("QuotaRegister", "factors", "[I", true)
  | 2 => ("QuotaRegister", "shares", "LQuotaRegister$Shares;", true)
  | 3 => ("QuotaRegister", "accounts", "LQuotaRegister$Accounts;", true)
  | 4 => ("QuotaRegister", "events", "LQuotaRegister$Events;", true)
  | 5 => ("QuotaRegister", "reopened", "[Z", true)
  | 6 => ("QuotaRegister", "latestYear", "I", false)
  | _ => ("QuotaRegister", "latestIsOpen", "Z", false)
def tyX3 : Nat → FieldType := fun k => match k with
  | 0 => .array .int
  | 1 => .array .int
  | 2 => .object "QuotaRegister$Shares"
  | 3 => .object "QuotaRegister$Accounts"
  | 4 => .object "QuotaRegister$Events"
  | 5 => .array .boolean
  | 6 => .int
  | _ => .boolean
theorem nmX3 : ∀ a, a < 8 → ∀ b, b < 8 → a ≠ b → (TX3 a).2.1 ≠ (TX3 b).2.1 := by decide +kernel
theorem tyX3_ok : ∀ k, k < 8 → parseFieldDescriptor (TX3 k).2.2.1 = some (tyX3 k) := by decide +kernel
abbrev cX3_init : ByteArray := prog_1_method_1_code
def yX3_init : MethodName := ⟨RX3, "<init>", "()V"⟩
abbrev cX3_species : ByteArray := prog_1_method_2_code
def yX3_species : MethodName := ⟨RX3, "species", "(III)V"⟩
abbrev cX3_factor : ByteArray := prog_1_method_3_code
def yX3_factor : MethodName := ⟨RX3, "factor", "(III)V"⟩
abbrev cX3_vessel : ByteArray := prog_1_method_4_code
def yX3_vessel : MethodName := ⟨RX3, "vessel", "(II)V"⟩
abbrev cX3_link : ByteArray := prog_1_method_5_code
def yX3_link : MethodName := ⟨RX3, "link", "(II)V"⟩
abbrev cX3_unlink : ByteArray := prog_1_method_6_code
def yX3_unlink : MethodName := ⟨RX3, "unlink", "(II)V"⟩
abbrev cX3_issue : ByteArray := prog_1_method_7_code
def yX3_issue : MethodName := ⟨RX3, "issue", "(III)I"⟩
abbrev cX3_sell : ByteArray := prog_1_method_8_code
def yX3_sell : MethodName := ⟨RX3, "sell", "(IIII)V"⟩
abbrev cX3_place : ByteArray := prog_1_method_9_code
def yX3_place : MethodName := ⟨RX3, "place", "(III)I"⟩
abbrev cX3_open : ByteArray := prog_1_method_10_code
def yX3_open : MethodName := ⟨RX3, "open", "(IIII)I"⟩
abbrev cX3_end : ByteArray := prog_1_method_11_code
def yX3_end : MethodName := ⟨RX3, "end", "()I"⟩
abbrev cX3_lease : ByteArray := prog_1_method_12_code
def yX3_lease : MethodName := ⟨RX3, "lease", "(IIII)I"⟩
abbrev cX3_land : ByteArray := prog_1_method_13_code
def yX3_land : MethodName := ⟨RX3, "land", "(IIIIIZ)I"⟩
abbrev cX3_equivalent : ByteArray := prog_1_method_14_code
def yX3_equivalent : MethodName := ⟨RX3, "equivalent", "(IIII)I"⟩
abbrev cX3_strike : ByteArray := prog_1_method_15_code
def yX3_strike : MethodName := ⟨RX3, "strike", "(I)V"⟩
abbrev cX3_reopen : ByteArray := prog_1_method_16_code
def yX3_reopen : MethodName := ⟨RX3, "reopen", "(I)V"⟩
abbrev cX3_account : ByteArray := prog_1_method_17_code
def yX3_account : MethodName := ⟨RX3, "account", "(IIII)I"⟩
abbrev cX3_levy : ByteArray := prog_1_method_18_code
def yX3_levy : MethodName := ⟨RX3, "levy", "(II)J"⟩
abbrev cX3_held : ByteArray := prog_1_method_19_code
def yX3_held : MethodName := ⟨RX3, "held", "(III)I"⟩
abbrev cX3_event : ByteArray := prog_1_method_20_code
def yX3_event : MethodName := ⟨RX3, "event", "(II)I"⟩
abbrev cX3_about : ByteArray := prog_1_method_21_code
def yX3_about : MethodName := ⟨RX3, "about", "(I)I"⟩
abbrev cX3_isWithin : ByteArray := prog_1_method_22_code
def yX3_isWithin : MethodName := ⟨RX3, "isWithin", "(III)Z"⟩
abbrev cX3_isSpecies : ByteArray := prog_1_method_23_code
def yX3_isSpecies : MethodName := ⟨RX3, "isSpecies", "(I)Z"⟩
abbrev cX3_areTwoSpecies : ByteArray := prog_1_method_24_code
def yX3_areTwoSpecies : MethodName := ⟨RX3, "areTwoSpecies", "(II)Z"⟩
abbrev cX3_isForm : ByteArray := prog_1_method_25_code
def yX3_isForm : MethodName := ⟨RX3, "isForm", "(I)Z"⟩
abbrev cX3_isOwner : ByteArray := prog_1_method_26_code
def yX3_isOwner : MethodName := ⟨RX3, "isOwner", "(I)Z"⟩
abbrev cX3_areTwoOwners : ByteArray := prog_1_method_27_code
def yX3_areTwoOwners : MethodName := ⟨RX3, "areTwoOwners", "(II)Z"⟩
abbrev cX3_isVessel : ByteArray := prog_1_method_28_code
def yX3_isVessel : MethodName := ⟨RX3, "isVessel", "(I)Z"⟩
abbrev cX3_areTwoVessels : ByteArray := prog_1_method_29_code
def yX3_areTwoVessels : MethodName := ⟨RX3, "areTwoVessels", "(II)Z"⟩
abbrev cX3_isLimit : ByteArray := prog_1_method_30_code
def yX3_isLimit : MethodName := ⟨RX3, "isLimit", "(I)Z"⟩
abbrev cX3_wasOpened : ByteArray := prog_1_method_31_code
def yX3_wasOpened : MethodName := ⟨RX3, "wasOpened", "(I)Z"⟩
abbrev cX3_isOpen : ByteArray := prog_1_method_32_code
def yX3_isOpen : MethodName := ⟨RX3, "isOpen", "(I)Z"⟩
abbrev cX3_takesChanges : ByteArray := prog_1_method_33_code
def yX3_takesChanges : MethodName := ⟨RX3, "takesChanges", "(I)Z"⟩
abbrev cX3_liveWeight : ByteArray := prog_1_method_34_code
def yX3_liveWeight : MethodName := ⟨RX3, "liveWeight", "(IIZ)I"⟩
abbrev cX3_equalWeight : ByteArray := prog_1_method_35_code
def yX3_equalWeight : MethodName := ⟨RX3, "equalWeight", "(III)I"⟩
abbrev cX3_workAnew : ByteArray := prog_1_method_36_code
def yX3_workAnew : MethodName := ⟨RX3, "workAnew", "(I)V"⟩
abbrev cX3_levyOfVessel : ByteArray := prog_1_method_37_code
def yX3_levyOfVessel : MethodName := ⟨RX3, "levyOfVessel", "(II)J"⟩
def RX4 : String := "QuotaRegisterModel"
def TX4 : u_T := fun k => match k with
  | 0 => ("QuotaRegisterModel", "thrown", "I", false)
  | 1 => ("QuotaRegisterModel", "values", "[I", true)
  | 2 => ("QuotaRegisterModel", "caps", "[I", true)
  | 3 => ("QuotaRegisterModel", "factors", "[I", true)
  | 4 => ("QuotaRegisterModel", "ownerOf", "[I", true)
  | 5 => ("QuotaRegisterModel", "parts", "[I", true)
  | 6 => ("QuotaRegisterModel", "placed", "[I", true)
  | 7 => ("QuotaRegisterModel", "linked", "[Z", true)
  | 8 => ("QuotaRegisterModel", "group", "[Z", true)
  | 9 => ("QuotaRegisterModel", "latest", "I", false)
  | 10 => ("QuotaRegisterModel", "isOpen", "Z", false)
  | 11 => ("QuotaRegisterModel", "reopened", "[Z", true)
  | 12 => ("QuotaRegisterModel", "allotted", "[I", true)
  | 13 => ("QuotaRegisterModel", "leased", "[I", true)
  | 14 => ("QuotaRegisterModel", "banked", "[I", true)
  | 15 => ("QuotaRegisterModel", "taken", "[I", true)
  | 16 => ("QuotaRegisterModel", "charged", "[I", true)
  | 17 => ("QuotaRegisterModel", "kept", "[I", true)
  | 18 => ("QuotaRegisterModel", "advanced", "[I", true)
  | 19 => ("QuotaRegisterModel", "levied", "[I", true)
  | 20 => ("QuotaRegisterModel", "events", "I", false)
  | 21 => ("QuotaRegisterModel", "kinds", "[I", true)
  | 22 => ("QuotaRegisterModel", "years", "[I", true)
  | 23 => ("QuotaRegisterModel", "vessels", "[I", true)
  | 24 => ("QuotaRegisterModel", "kindsOfFish", "[I", true)
  | 25 => ("QuotaRegisterModel", "others", "[I", true)
  | 26 => ("QuotaRegisterModel", "told", "[I", true)
  | 27 => ("QuotaRegisterModel", "weights", "[I", true)
  | 28 => ("QuotaRegisterModel", "struck", "[Z", true)
  | 29 => ("QuotaRegisterModel", "counts", "[Z", true)
  | _ => ("QuotaRegisterModel", "remainders", "[J", true)
def tyX4 : Nat → FieldType := fun k => match k with
  | 0 => .int
  | 1 => .array .int
  | 2 => .array .int
  | 3 => .array .int
  | 4 => .array .int
  | 5 => .array .int
  | 6 => .array .int
  | 7 => .array .boolean
  | 8 => .array .boolean
  | 9 => .int
  | 10 => .boolean
  | 11 => .array .boolean
  | 12 => .array .int
  | 13 => .array .int
  | 14 => .array .int
  | 15 => .array .int
  | 16 => .array .int
  | 17 => .array .int
  | 18 => .array .int
  | 19 => .array .int
  | 20 => .int
  | 21 => .array .int
  | 22 => .array .int
  | 23 => .array .int
  | 24 => .array .int
  | 25 => .array .int
  | 26 => .array .int
  | 27 => .array .int
  | 28 => .array .boolean
  | 29 => .array .boolean
  | _ => .array .long
theorem nmX4 : ∀ a, a < 31 → ∀ b, b < 31 → a ≠ b → (TX4 a).2.1 ≠ (TX4 b).2.1 := by decide +kernel
theorem tyX4_ok : ∀ k, k < 31 → parseFieldDescriptor (TX4 k).2.2.1 = some (tyX4 k) := by decide +kernel
abbrev cX4_init : ByteArray := prog_6_method_1_code
def yX4_init : MethodName := ⟨RX4, "<init>", "()V"⟩
abbrev cX4_thrown : ByteArray := prog_6_method_2_code
def yX4_thrown : MethodName := ⟨RX4, "thrown", "()I"⟩
abbrev cX4_refuse : ByteArray := prog_6_method_3_code
def yX4_refuse : MethodName := ⟨RX4, "refuse", "(ZZ)Z"⟩
abbrev cX4_in : ByteArray := prog_6_method_4_code
def yX4_in : MethodName := ⟨RX4, "in", "(JJJ)Z"⟩
abbrev cX4_isSpecies : ByteArray := prog_6_method_5_code
def yX4_isSpecies : MethodName := ⟨RX4, "isSpecies", "(I)Z"⟩
abbrev cX4_isOne : ByteArray := prog_6_method_6_code
def yX4_isOne : MethodName := ⟨RX4, "isOne", "(I)Z"⟩
abbrev cX4_gather : ByteArray := prog_6_method_7_code
def yX4_gather : MethodName := ⟨RX4, "gather", "(I)V"⟩
abbrev cX4_ofGroup : ByteArray := prog_6_method_8_code
def yX4_ofGroup : MethodName := ⟨RX4, "ofGroup", "(II)I"⟩
abbrev cX4_fits : ByteArray := prog_6_method_9_code
def yX4_fits : MethodName := ⟨RX4, "fits", "(II)Z"⟩
abbrev cX4_free : ByteArray := prog_6_method_10_code
def yX4_free : MethodName := ⟨RX4, "free", "(II)I"⟩
abbrev cX4_species : ByteArray := prog_6_method_11_code
def yX4_species : MethodName := ⟨RX4, "species", "(III)V"⟩
abbrev cX4_factor : ByteArray := prog_6_method_12_code
def yX4_factor : MethodName := ⟨RX4, "factor", "(III)V"⟩
abbrev cX4_vessel : ByteArray := prog_6_method_13_code
def yX4_vessel : MethodName := ⟨RX4, "vessel", "(II)V"⟩
abbrev cX4_setLink : ByteArray := prog_6_method_14_code
def yX4_setLink : MethodName := ⟨RX4, "setLink", "(IIZ)V"⟩
abbrev cX4_link : ByteArray := prog_6_method_15_code
def yX4_link : MethodName := ⟨RX4, "link", "(II)V"⟩
abbrev cX4_unlink : ByteArray := prog_6_method_16_code
def yX4_unlink : MethodName := ⟨RX4, "unlink", "(II)V"⟩
abbrev cX4_issue : ByteArray := prog_6_method_17_code
def yX4_issue : MethodName := ⟨RX4, "issue", "(III)I"⟩
abbrev cX4_sell : ByteArray := prog_6_method_18_code
def yX4_sell : MethodName := ⟨RX4, "sell", "(IIII)V"⟩
abbrev cX4_place : ByteArray := prog_6_method_19_code
def yX4_place : MethodName := ⟨RX4, "place", "(III)I"⟩
abbrev cX4_at : ByteArray := prog_6_method_20_code
def yX4_at : MethodName := ⟨RX4, "at", "(III)I"⟩
abbrev cX4_allot : ByteArray := prog_6_method_21_code
def yX4_allot : MethodName := ⟨RX4, "allot", "(III)V"⟩
abbrev cX4_left : ByteArray := prog_6_method_22_code
def yX4_left : MethodName := ⟨RX4, "left", "(I)I"⟩
abbrev cX4_moved : ByteArray := prog_6_method_23_code
def yX4_moved : MethodName := ⟨RX4, "moved", "(III)I"⟩
abbrev cX4_may : ByteArray := prog_6_method_24_code
def yX4_may : MethodName := ⟨RX4, "may", "(I)Z"⟩
abbrev cX4_act : ByteArray := prog_6_method_25_code
def yX4_act : MethodName := ⟨RX4, "act", "(I)V"⟩
abbrev cX4_close : ByteArray := prog_6_method_26_code
def yX4_close : MethodName := ⟨RX4, "close", "(I)V"⟩
abbrev cX4_work : ByteArray := prog_6_method_27_code
def yX4_work : MethodName := ⟨RX4, "work", "()V"⟩
abbrev cX4_open : ByteArray := prog_6_method_28_code
def yX4_open : MethodName := ⟨RX4, "open", "(IIII)I"⟩
abbrev cX4_end : ByteArray := prog_6_method_29_code
def yX4_end : MethodName := ⟨RX4, "end", "()I"⟩
abbrev cX4_tell : ByteArray := prog_6_method_30_code
def yX4_tell : MethodName := ⟨RX4, "tell", "(IIIIIII)V"⟩
abbrev cX4_put : ByteArray := prog_6_method_31_code
def yX4_put : MethodName := ⟨RX4, "put", "()I"⟩
abbrev cX4_lease : ByteArray := prog_6_method_32_code
def yX4_lease : MethodName := ⟨RX4, "lease", "(IIII)I"⟩
abbrev cX4_wasYear : ByteArray := prog_6_method_33_code
def yX4_wasYear : MethodName := ⟨RX4, "wasYear", "(I)Z"⟩
abbrev cX4_takes : ByteArray := prog_6_method_34_code
def yX4_takes : MethodName := ⟨RX4, "takes", "(I)Z"⟩
abbrev cX4_land : ByteArray := prog_6_method_35_code
def yX4_land : MethodName := ⟨RX4, "land", "(IIIIIZ)I"⟩
abbrev cX4_equivalent : ByteArray := prog_6_method_36_code
def yX4_equivalent : MethodName := ⟨RX4, "equivalent", "(IIII)I"⟩
abbrev cX4_strike : ByteArray := prog_6_method_37_code
def yX4_strike : MethodName := ⟨RX4, "strike", "(I)V"⟩
abbrev cX4_reopen : ByteArray := prog_6_method_38_code
def yX4_reopen : MethodName := ⟨RX4, "reopen", "(I)V"⟩
abbrev cX4_account : ByteArray := prog_6_method_39_code
def yX4_account : MethodName := ⟨RX4, "account", "(IIII)I"⟩
abbrev cX4_levy : ByteArray := prog_6_method_40_code
def yX4_levy : MethodName := ⟨RX4, "levy", "(II)J"⟩
abbrev cX4_held : ByteArray := prog_6_method_41_code
def yX4_held : MethodName := ⟨RX4, "held", "(III)I"⟩
abbrev cX4_event : ByteArray := prog_6_method_42_code
def yX4_event : MethodName := ⟨RX4, "event", "(II)I"⟩
abbrev cX4_about : ByteArray := prog_6_method_43_code
def yX4_about : MethodName := ⟨RX4, "about", "(I)I"⟩
def RJ9 : String := "java/lang/Math"
def TJ9 : u_T := fun k => match k with
  | _ => ("", "", "", false)
def tyJ9 : Nat → FieldType := fun k => match k with
  | _ => .int
theorem nmJ9 : ∀ a, a < 0 → ∀ b, b < 0 → a ≠ b → (TJ9 a).2.1 ≠ (TJ9 b).2.1 := by decide +kernel
theorem tyJ9_ok : ∀ k, k < 0 → parseFieldDescriptor (TJ9 k).2.2.1 = some (tyJ9 k) := by decide +kernel
abbrev cJ9_max_7cf53 : ByteArray := prog_11_method_65_code
def yJ9_max_7cf53 : MethodName := ⟨RJ9, "max", "(II)I"⟩
abbrev cJ9_min_7cf53 : ByteArray := prog_11_method_69_code
def yJ9_min_7cf53 : MethodName := ⟨RJ9, "min", "(II)I"⟩
def RJ0 : String := "java/lang/String"
def TJ0 : u_T := fun k => match k with
  | _ => ("", "", "", false)
def tyJ0 : Nat → FieldType := fun k => match k with
  | _ => .int
theorem nmJ0 : ∀ a, a < 0 → ∀ b, b < 0 → a ≠ b → (TJ0 a).2.1 ≠ (TJ0 b).2.1 := by decide +kernel
theorem tyJ0_ok : ∀ k, k < 0 → parseFieldDescriptor (TJ0 k).2.2.1 = some (tyJ0 k) := by decide +kernel
def RJ7 : String := "java/util/Arrays"
def TJ7 : u_T := fun k => match k with
  | _ => ("", "", "", false)
def tyJ7 : Nat → FieldType := fun k => match k with
  | _ => .int
theorem nmJ7 : ∀ a, a < 0 → ∀ b, b < 0 → a ≠ b → (TJ7 a).2.1 ≠ (TJ7 b).2.1 := by decide +kernel
theorem tyJ7_ok : ∀ k, k < 0 → parseFieldDescriptor (TJ7 k).2.2.1 = some (tyJ7 k) := by decide +kernel
abbrev cJ7_fill_53178 : ByteArray := prog_15_method_103_code
def yJ7_fill_53178 : MethodName := ⟨RJ7, "fill", "([II)V"⟩
def RL : String := "QuotaRegisterLaw"
abbrev cL_species : ByteArray := method_3_code
def yL_species : MethodName := ⟨RL, "species", "(LQuotaRegister;III)I"⟩
abbrev cL_factor : ByteArray := method_4_code
def yL_factor : MethodName := ⟨RL, "factor", "(LQuotaRegister;III)I"⟩
abbrev cL_vessel : ByteArray := method_5_code
def yL_vessel : MethodName := ⟨RL, "vessel", "(LQuotaRegister;II)I"⟩
abbrev cL_link : ByteArray := method_6_code
def yL_link : MethodName := ⟨RL, "link", "(LQuotaRegister;II)I"⟩
abbrev cL_unlink : ByteArray := method_7_code
def yL_unlink : MethodName := ⟨RL, "unlink", "(LQuotaRegister;II)I"⟩
abbrev cL_issue : ByteArray := method_8_code
def yL_issue : MethodName := ⟨RL, "issue", "(LQuotaRegister;III[J)I"⟩
abbrev cL_sell : ByteArray := method_9_code
def yL_sell : MethodName := ⟨RL, "sell", "(LQuotaRegister;IIII)I"⟩
abbrev cL_place : ByteArray := method_10_code
def yL_place : MethodName := ⟨RL, "place", "(LQuotaRegister;III[J)I"⟩
abbrev cL_open : ByteArray := method_11_code
def yL_open : MethodName := ⟨RL, "open", "(LQuotaRegister;IIII[J)I"⟩
abbrev cL_end : ByteArray := method_12_code
def yL_end : MethodName := ⟨RL, "end", "(LQuotaRegister;[J)I"⟩
abbrev cL_lease : ByteArray := method_13_code
def yL_lease : MethodName := ⟨RL, "lease", "(LQuotaRegister;IIII[J)I"⟩
abbrev cL_land : ByteArray := method_14_code
def yL_land : MethodName := ⟨RL, "land", "(LQuotaRegister;IIIIIZ[J)I"⟩
abbrev cL_equivalent : ByteArray := method_15_code
def yL_equivalent : MethodName := ⟨RL, "equivalent", "(LQuotaRegister;IIII[J)I"⟩
abbrev cL_strike : ByteArray := method_16_code
def yL_strike : MethodName := ⟨RL, "strike", "(LQuotaRegister;I)I"⟩
abbrev cL_reopen : ByteArray := method_17_code
def yL_reopen : MethodName := ⟨RL, "reopen", "(LQuotaRegister;I)I"⟩
abbrev cL_account : ByteArray := method_18_code
def yL_account : MethodName := ⟨RL, "account", "(LQuotaRegister;IIII[J)I"⟩
abbrev cL_levy : ByteArray := method_19_code
def yL_levy : MethodName := ⟨RL, "levy", "(LQuotaRegister;II[J)I"⟩
abbrev cL_held : ByteArray := method_20_code
def yL_held : MethodName := ⟨RL, "held", "(LQuotaRegister;III[J)I"⟩
abbrev cL_event : ByteArray := method_21_code
def yL_event : MethodName := ⟨RL, "event", "(LQuotaRegister;II[J)I"⟩
abbrev cL_about : ByteArray := method_22_code
def yL_about : MethodName := ⟨RL, "about", "(LQuotaRegister;I[J)I"⟩
abbrev cL_law : ByteArray := code
def yL_law : MethodName := ⟨RL, "law", "([I)Z"⟩
end
section
theorem dX0_init_0 : decode cX0_init 0 = .ok (.aload_n 0, 1) := by decide +kernel
theorem dX0_init_1 : decode cX0_init 1 = .ok (.invokespecial 5, 3) := by decide +kernel
theorem dX0_init_4 : decode cX0_init 4 = .ok (.aload_n 0, 1) := by decide +kernel
theorem dX0_init_5 : decode cX0_init 5 = .ok (.sipush 216, 3) := by decide +kernel
theorem dX0_init_8 : decode cX0_init 8 = .ok (.newarray .int, 2) := by decide +kernel
theorem dX0_init_10 : decode cX0_init 10 = .ok (.putfield 11, 3) := by decide +kernel
theorem dX0_init_13 : decode cX0_init 13 = .ok (.aload_n 0, 1) := by decide +kernel
theorem dX0_init_14 : decode cX0_init 14 = .ok (.sipush 216, 3) := by decide +kernel
theorem dX0_init_17 : decode cX0_init 17 = .ok (.newarray .int, 2) := by decide +kernel
theorem dX0_init_19 : decode cX0_init 19 = .ok (.putfield 15, 3) := by decide +kernel
theorem dX0_init_22 : decode cX0_init 22 = .ok (.aload_n 0, 1) := by decide +kernel
theorem dX0_init_23 : decode cX0_init 23 = .ok (.sipush 216, 3) := by decide +kernel
theorem dX0_init_26 : decode cX0_init 26 = .ok (.newarray .int, 2) := by decide +kernel
theorem dX0_init_28 : decode cX0_init 28 = .ok (.putfield 18, 3) := by decide +kernel
theorem dX0_init_31 : decode cX0_init 31 = .ok (.aload_n 0, 1) := by decide +kernel
theorem dX0_init_32 : decode cX0_init 32 = .ok (.sipush 216, 3) := by decide +kernel
theorem dX0_init_35 : decode cX0_init 35 = .ok (.newarray .int, 2) := by decide +kernel
theorem dX0_init_37 : decode cX0_init 37 = .ok (.putfield 21, 3) := by decide +kernel
theorem dX0_init_40 : decode cX0_init 40 = .ok (.aload_n 0, 1) := by decide +kernel
theorem dX0_init_41 : decode cX0_init 41 = .ok (.sipush 216, 3) := by decide +kernel
theorem dX0_init_44 : decode cX0_init 44 = .ok (.newarray .int, 2) := by decide +kernel
theorem dX0_init_46 : decode cX0_init 46 = .ok (.putfield 24, 3) := by decide +kernel
theorem dX0_init_49 : decode cX0_init 49 = .ok (.aload_n 0, 1) := by decide +kernel
theorem dX0_init_50 : decode cX0_init 50 = .ok (.sipush 216, 3) := by decide +kernel
theorem dX0_init_53 : decode cX0_init 53 = .ok (.newarray .int, 2) := by decide +kernel
theorem dX0_init_55 : decode cX0_init 55 = .ok (.putfield 27, 3) := by decide +kernel
theorem dX0_init_58 : decode cX0_init 58 = .ok (.aload_n 0, 1) := by decide +kernel
theorem dX0_init_59 : decode cX0_init 59 = .ok (.sipush 216, 3) := by decide +kernel
theorem dX0_init_62 : decode cX0_init 62 = .ok (.newarray .int, 2) := by decide +kernel
theorem dX0_init_64 : decode cX0_init 64 = .ok (.putfield 30, 3) := by decide +kernel
theorem dX0_init_67 : decode cX0_init 67 = .ok (.aload_n 0, 1) := by decide +kernel
theorem dX0_init_68 : decode cX0_init 68 = .ok (.sipush 216, 3) := by decide +kernel
theorem dX0_init_71 : decode cX0_init 71 = .ok (.newarray .int, 2) := by decide +kernel
theorem dX0_init_73 : decode cX0_init 73 = .ok (.putfield 33, 3) := by decide +kernel
theorem dX0_init_76 : decode cX0_init 76 = .ok (.aload_n 0, 1) := by decide +kernel
theorem dX0_init_77 : decode cX0_init 77 = .ok (.bipush 54, 2) := by decide +kernel
theorem dX0_init_79 : decode cX0_init 79 = .ok (.newarray .int, 2) := by decide +kernel
theorem dX0_init_81 : decode cX0_init 81 = .ok (.putfield 36, 3) := by decide +kernel
theorem dX0_init_84 : decode cX0_init 84 = .ok (.aload_n 0, 1) := by decide +kernel
theorem dX0_init_85 : decode cX0_init 85 = .ok (.bipush 6, 2) := by decide +kernel
theorem dX0_init_87 : decode cX0_init 87 = .ok (.newarray .int, 2) := by decide +kernel
theorem dX0_init_89 : decode cX0_init 89 = .ok (.putfield 39, 3) := by decide +kernel
theorem dX0_init_92 : decode cX0_init 92 = .ok (.return_, 1) := by decide +kernel
theorem dX0_row_0 : decode cX0_row 0 = .ok (.iload_n 0, 1) := by decide +kernel
theorem dX0_row_1 : decode cX0_row 1 = .ok (.bipush 6, 2) := by decide +kernel
theorem dX0_row_3 : decode cX0_row 3 = .ok (.imul, 1) := by decide +kernel
theorem dX0_row_4 : decode cX0_row 4 = .ok (.iload_n 1, 1) := by decide +kernel
theorem dX0_row_5 : decode cX0_row 5 = .ok (.iadd, 1) := by decide +kernel
theorem dX0_row_6 : decode cX0_row 6 = .ok (.iconst 4, 1) := by decide +kernel
theorem dX0_row_7 : decode cX0_row 7 = .ok (.imul, 1) := by decide +kernel
theorem dX0_row_8 : decode cX0_row 8 = .ok (.iload_n 2, 1) := by decide +kernel
theorem dX0_row_9 : decode cX0_row 9 = .ok (.iadd, 1) := by decide +kernel
theorem dX0_row_10 : decode cX0_row 10 = .ok (.ireturn, 1) := by decide +kernel
theorem dX0_allot_0 : decode cX0_allot 0 = .ok (.lconst 0, 1) := by decide +kernel
theorem dX0_allot_1 : decode cX0_allot 1 = .ok (.lstore 5, 2) := by decide +kernel
theorem dX0_allot_3 : decode cX0_allot 3 = .ok (.iconst 0, 1) := by decide +kernel
theorem dX0_allot_4 : decode cX0_allot 4 = .ok (.istore 7, 2) := by decide +kernel
theorem dX0_allot_6 : decode cX0_allot 6 = .ok (.iconst 0, 1) := by decide +kernel
theorem dX0_allot_7 : decode cX0_allot 7 = .ok (.istore 8, 2) := by decide +kernel
theorem dX0_allot_9 : decode cX0_allot 9 = .ok (.iload 8, 2) := by decide +kernel
theorem dX0_allot_11 : decode cX0_allot 11 = .ok (.bipush 6, 2) := by decide +kernel
theorem dX0_allot_13 : decode cX0_allot 13 = .ok (.if_icmp .ge 74, 3) := by decide +kernel
theorem dX0_allot_16 : decode cX0_allot 16 = .ok (.iload_n 3, 1) := by decide +kernel
theorem dX0_allot_17 : decode cX0_allot 17 = .ok (.i2l, 1) := by decide +kernel
theorem dX0_allot_18 : decode cX0_allot 18 = .ok (.aload 4, 2) := by decide +kernel
theorem dX0_allot_20 : decode cX0_allot 20 = .ok (.iload_n 2, 1) := by decide +kernel
theorem dX0_allot_21 : decode cX0_allot 21 = .ok (.iload 8, 2) := by decide +kernel
theorem dX0_allot_23 : decode cX0_allot 23 = .ok (.invokevirtual 42, 3) := by decide +kernel
theorem dX0_allot_26 : decode cX0_allot 26 = .ok (.i2l, 1) := by decide +kernel
theorem dX0_allot_27 : decode cX0_allot 27 = .ok (.lmul, 1) := by decide +kernel
theorem dX0_allot_28 : decode cX0_allot 28 = .ok (.lstore 9, 2) := by decide +kernel
theorem dX0_allot_30 : decode cX0_allot 30 = .ok (.lload 9, 2) := by decide +kernel
theorem dX0_allot_32 : decode cX0_allot 32 = .ok (.ldc2_w 48, 3) := by decide +kernel
theorem dX0_allot_35 : decode cX0_allot 35 = .ok (.ldiv, 1) := by decide +kernel
theorem dX0_allot_36 : decode cX0_allot 36 = .ok (.l2i, 1) := by decide +kernel
theorem dX0_allot_37 : decode cX0_allot 37 = .ok (.istore 11, 2) := by decide +kernel
theorem dX0_allot_39 : decode cX0_allot 39 = .ok (.aload_n 0, 1) := by decide +kernel
theorem dX0_allot_40 : decode cX0_allot 40 = .ok (.getfield 11, 3) := by decide +kernel
theorem dX0_allot_43 : decode cX0_allot 43 = .ok (.iload_n 1, 1) := by decide +kernel
theorem dX0_allot_44 : decode cX0_allot 44 = .ok (.iload 8, 2) := by decide +kernel
theorem dX0_allot_46 : decode cX0_allot 46 = .ok (.iload_n 2, 1) := by decide +kernel
theorem dX0_allot_47 : decode cX0_allot 47 = .ok (.invokestatic 50, 3) := by decide +kernel
theorem dX0_allot_50 : decode cX0_allot 50 = .ok (.iload 11, 2) := by decide +kernel
theorem dX0_allot_52 : decode cX0_allot 52 = .ok (.iastore, 1) := by decide +kernel
theorem dX0_allot_53 : decode cX0_allot 53 = .ok (.aload_n 0, 1) := by decide +kernel
theorem dX0_allot_54 : decode cX0_allot 54 = .ok (.getfield 39, 3) := by decide +kernel
theorem dX0_allot_57 : decode cX0_allot 57 = .ok (.iload 8, 2) := by decide +kernel
theorem dX0_allot_59 : decode cX0_allot 59 = .ok (.lload 9, 2) := by decide +kernel
theorem dX0_allot_61 : decode cX0_allot 61 = .ok (.ldc2_w 48, 3) := by decide +kernel
theorem dX0_allot_64 : decode cX0_allot 64 = .ok (.lrem, 1) := by decide +kernel
theorem dX0_allot_65 : decode cX0_allot 65 = .ok (.l2i, 1) := by decide +kernel
theorem dX0_allot_66 : decode cX0_allot 66 = .ok (.iastore, 1) := by decide +kernel
theorem dX0_allot_67 : decode cX0_allot 67 = .ok (.lload 5, 2) := by decide +kernel
theorem dX0_allot_69 : decode cX0_allot 69 = .ok (.lload 9, 2) := by decide +kernel
theorem dX0_allot_71 : decode cX0_allot 71 = .ok (.ladd, 1) := by decide +kernel
theorem dX0_allot_72 : decode cX0_allot 72 = .ok (.lstore 5, 2) := by decide +kernel
theorem dX0_allot_74 : decode cX0_allot 74 = .ok (.iload 7, 2) := by decide +kernel
theorem dX0_allot_76 : decode cX0_allot 76 = .ok (.iload 11, 2) := by decide +kernel
theorem dX0_allot_78 : decode cX0_allot 78 = .ok (.iadd, 1) := by decide +kernel
theorem dX0_allot_79 : decode cX0_allot 79 = .ok (.istore 7, 2) := by decide +kernel
theorem dX0_allot_81 : decode cX0_allot 81 = .ok (.iinc 8 1, 3) := by decide +kernel
theorem dX0_allot_84 : decode cX0_allot 84 = .ok (.goto (-75), 3) := by decide +kernel
theorem dX0_allot_87 : decode cX0_allot 87 = .ok (.lload 5, 2) := by decide +kernel
theorem dX0_allot_89 : decode cX0_allot 89 = .ok (.ldc2_w 48, 3) := by decide +kernel
theorem dX0_allot_92 : decode cX0_allot 92 = .ok (.ldiv, 1) := by decide +kernel
theorem dX0_allot_93 : decode cX0_allot 93 = .ok (.l2i, 1) := by decide +kernel
theorem dX0_allot_94 : decode cX0_allot 94 = .ok (.istore 8, 2) := by decide +kernel
theorem dX0_allot_96 : decode cX0_allot 96 = .ok (.iload 7, 2) := by decide +kernel
theorem dX0_allot_98 : decode cX0_allot 98 = .ok (.istore 9, 2) := by decide +kernel
theorem dX0_allot_100 : decode cX0_allot 100 = .ok (.iload 9, 2) := by decide +kernel
theorem dX0_allot_102 : decode cX0_allot 102 = .ok (.iload 8, 2) := by decide +kernel
theorem dX0_allot_104 : decode cX0_allot 104 = .ok (.if_icmp .ge 39, 3) := by decide +kernel
theorem dX0_allot_107 : decode cX0_allot 107 = .ok (.aload_n 0, 1) := by decide +kernel
theorem dX0_allot_108 : decode cX0_allot 108 = .ok (.invokevirtual 54, 3) := by decide +kernel
theorem dX0_allot_111 : decode cX0_allot 111 = .ok (.istore 10, 2) := by decide +kernel
theorem dX0_allot_113 : decode cX0_allot 113 = .ok (.aload_n 0, 1) := by decide +kernel
theorem dX0_allot_114 : decode cX0_allot 114 = .ok (.getfield 11, 3) := by decide +kernel
theorem dX0_allot_117 : decode cX0_allot 117 = .ok (.iload_n 1, 1) := by decide +kernel
theorem dX0_allot_118 : decode cX0_allot 118 = .ok (.iload 10, 2) := by decide +kernel
theorem dX0_allot_120 : decode cX0_allot 120 = .ok (.iload_n 2, 1) := by decide +kernel
theorem dX0_allot_121 : decode cX0_allot 121 = .ok (.invokestatic 50, 3) := by decide +kernel
theorem dX0_allot_124 : decode cX0_allot 124 = .ok (.dup2, 1) := by decide +kernel
theorem dX0_allot_125 : decode cX0_allot 125 = .ok (.iaload, 1) := by decide +kernel
theorem dX0_allot_126 : decode cX0_allot 126 = .ok (.iconst 1, 1) := by decide +kernel
theorem dX0_allot_127 : decode cX0_allot 127 = .ok (.iadd, 1) := by decide +kernel
theorem dX0_allot_128 : decode cX0_allot 128 = .ok (.iastore, 1) := by decide +kernel
theorem dX0_allot_129 : decode cX0_allot 129 = .ok (.aload_n 0, 1) := by decide +kernel
theorem dX0_allot_130 : decode cX0_allot 130 = .ok (.getfield 39, 3) := by decide +kernel
theorem dX0_allot_133 : decode cX0_allot 133 = .ok (.iload 10, 2) := by decide +kernel
theorem dX0_allot_135 : decode cX0_allot 135 = .ok (.iconst (-1), 1) := by decide +kernel
theorem dX0_allot_136 : decode cX0_allot 136 = .ok (.iastore, 1) := by decide +kernel
theorem dX0_allot_137 : decode cX0_allot 137 = .ok (.iinc 9 1, 3) := by decide +kernel
theorem dX0_allot_140 : decode cX0_allot 140 = .ok (.goto (-40), 3) := by decide +kernel
theorem dX0_allot_143 : decode cX0_allot 143 = .ok (.return_, 1) := by decide +kernel
theorem dX0_greatestRemainder_0 : decode cX0_greatestRemainder 0 = .ok (.iconst 0, 1) := by decide +kernel
theorem dX0_greatestRemainder_1 : decode cX0_greatestRemainder 1 = .ok (.istore_n 1, 1) := by decide +kernel
theorem dX0_greatestRemainder_2 : decode cX0_greatestRemainder 2 = .ok (.iconst 1, 1) := by decide +kernel
theorem dX0_greatestRemainder_3 : decode cX0_greatestRemainder 3 = .ok (.istore_n 2, 1) := by decide +kernel
theorem dX0_greatestRemainder_4 : decode cX0_greatestRemainder 4 = .ok (.iload_n 2, 1) := by decide +kernel
theorem dX0_greatestRemainder_5 : decode cX0_greatestRemainder 5 = .ok (.bipush 6, 2) := by decide +kernel
theorem dX0_greatestRemainder_7 : decode cX0_greatestRemainder 7 = .ok (.if_icmp .ge 26, 3) := by decide +kernel
theorem dX0_greatestRemainder_10 : decode cX0_greatestRemainder 10 = .ok (.aload_n 0, 1) := by decide +kernel
theorem dX0_greatestRemainder_11 : decode cX0_greatestRemainder 11 = .ok (.getfield 39, 3) := by decide +kernel
theorem dX0_greatestRemainder_14 : decode cX0_greatestRemainder 14 = .ok (.iload_n 2, 1) := by decide +kernel
theorem dX0_greatestRemainder_15 : decode cX0_greatestRemainder 15 = .ok (.iaload, 1) := by decide +kernel
theorem dX0_greatestRemainder_16 : decode cX0_greatestRemainder 16 = .ok (.aload_n 0, 1) := by decide +kernel
theorem dX0_greatestRemainder_17 : decode cX0_greatestRemainder 17 = .ok (.getfield 39, 3) := by decide +kernel
theorem dX0_greatestRemainder_20 : decode cX0_greatestRemainder 20 = .ok (.iload_n 1, 1) := by decide +kernel
theorem dX0_greatestRemainder_21 : decode cX0_greatestRemainder 21 = .ok (.iaload, 1) := by decide +kernel
theorem dX0_greatestRemainder_22 : decode cX0_greatestRemainder 22 = .ok (.if_icmp .le 5, 3) := by decide +kernel
theorem dX0_greatestRemainder_25 : decode cX0_greatestRemainder 25 = .ok (.iload_n 2, 1) := by decide +kernel
theorem dX0_greatestRemainder_26 : decode cX0_greatestRemainder 26 = .ok (.istore_n 1, 1) := by decide +kernel
theorem dX0_greatestRemainder_27 : decode cX0_greatestRemainder 27 = .ok (.iinc 2 1, 3) := by decide +kernel
theorem dX0_greatestRemainder_30 : decode cX0_greatestRemainder 30 = .ok (.goto (-26), 3) := by decide +kernel
theorem dX0_greatestRemainder_33 : decode cX0_greatestRemainder 33 = .ok (.iload_n 1, 1) := by decide +kernel
theorem dX0_greatestRemainder_34 : decode cX0_greatestRemainder 34 = .ok (.ireturn, 1) := by decide +kernel
theorem dX0_begin_0 : decode cX0_begin 0 = .ok (.iload_n 1, 1) := by decide +kernel
theorem dX0_begin_1 : decode cX0_begin 1 = .ok (.iconst 0, 1) := by decide +kernel
theorem dX0_begin_2 : decode cX0_begin 2 = .ok (.iconst 0, 1) := by decide +kernel
theorem dX0_begin_3 : decode cX0_begin 3 = .ok (.invokestatic 50, 3) := by decide +kernel
theorem dX0_begin_6 : decode cX0_begin 6 = .ok (.istore_n 2, 1) := by decide +kernel
theorem dX0_begin_7 : decode cX0_begin 7 = .ok (.iload_n 2, 1) := by decide +kernel
theorem dX0_begin_8 : decode cX0_begin 8 = .ok (.istore_n 3, 1) := by decide +kernel
theorem dX0_begin_9 : decode cX0_begin 9 = .ok (.iload_n 3, 1) := by decide +kernel
theorem dX0_begin_10 : decode cX0_begin 10 = .ok (.iload_n 2, 1) := by decide +kernel
theorem dX0_begin_11 : decode cX0_begin 11 = .ok (.bipush 24, 2) := by decide +kernel
theorem dX0_begin_13 : decode cX0_begin 13 = .ok (.iadd, 1) := by decide +kernel
theorem dX0_begin_14 : decode cX0_begin 14 = .ok (.if_icmp .ge 53, 3) := by decide +kernel
theorem dX0_begin_17 : decode cX0_begin 17 = .ok (.aload_n 0, 1) := by decide +kernel
theorem dX0_begin_18 : decode cX0_begin 18 = .ok (.getfield 15, 3) := by decide +kernel
theorem dX0_begin_21 : decode cX0_begin 21 = .ok (.iload_n 3, 1) := by decide +kernel
theorem dX0_begin_22 : decode cX0_begin 22 = .ok (.iconst 0, 1) := by decide +kernel
theorem dX0_begin_23 : decode cX0_begin 23 = .ok (.iastore, 1) := by decide +kernel
theorem dX0_begin_24 : decode cX0_begin 24 = .ok (.aload_n 0, 1) := by decide +kernel
theorem dX0_begin_25 : decode cX0_begin 25 = .ok (.getfield 24, 3) := by decide +kernel
theorem dX0_begin_28 : decode cX0_begin 28 = .ok (.iload_n 3, 1) := by decide +kernel
theorem dX0_begin_29 : decode cX0_begin 29 = .ok (.iconst 0, 1) := by decide +kernel
theorem dX0_begin_30 : decode cX0_begin 30 = .ok (.iastore, 1) := by decide +kernel
theorem dX0_begin_31 : decode cX0_begin 31 = .ok (.aload_n 0, 1) := by decide +kernel
theorem dX0_begin_32 : decode cX0_begin 32 = .ok (.getfield 18, 3) := by decide +kernel
theorem dX0_begin_35 : decode cX0_begin 35 = .ok (.iload_n 3, 1) := by decide +kernel
theorem dX0_begin_36 : decode cX0_begin 36 = .ok (.aload_n 0, 1) := by decide +kernel
theorem dX0_begin_37 : decode cX0_begin 37 = .ok (.getfield 27, 3) := by decide +kernel
theorem dX0_begin_40 : decode cX0_begin 40 = .ok (.iload_n 3, 1) := by decide +kernel
theorem dX0_begin_41 : decode cX0_begin 41 = .ok (.bipush 24, 2) := by decide +kernel
theorem dX0_begin_43 : decode cX0_begin 43 = .ok (.isub, 1) := by decide +kernel
theorem dX0_begin_44 : decode cX0_begin 44 = .ok (.iaload, 1) := by decide +kernel
theorem dX0_begin_45 : decode cX0_begin 45 = .ok (.iastore, 1) := by decide +kernel
theorem dX0_begin_46 : decode cX0_begin 46 = .ok (.aload_n 0, 1) := by decide +kernel
theorem dX0_begin_47 : decode cX0_begin 47 = .ok (.getfield 21, 3) := by decide +kernel
theorem dX0_begin_50 : decode cX0_begin 50 = .ok (.iload_n 3, 1) := by decide +kernel
theorem dX0_begin_51 : decode cX0_begin 51 = .ok (.aload_n 0, 1) := by decide +kernel
theorem dX0_begin_52 : decode cX0_begin 52 = .ok (.getfield 30, 3) := by decide +kernel
theorem dX0_begin_55 : decode cX0_begin 55 = .ok (.iload_n 3, 1) := by decide +kernel
theorem dX0_begin_56 : decode cX0_begin 56 = .ok (.bipush 24, 2) := by decide +kernel
theorem dX0_begin_58 : decode cX0_begin 58 = .ok (.isub, 1) := by decide +kernel
theorem dX0_begin_59 : decode cX0_begin 59 = .ok (.iaload, 1) := by decide +kernel
theorem dX0_begin_60 : decode cX0_begin 60 = .ok (.iastore, 1) := by decide +kernel
theorem dX0_begin_61 : decode cX0_begin 61 = .ok (.iinc 3 1, 3) := by decide +kernel
theorem dX0_begin_64 : decode cX0_begin 64 = .ok (.goto (-55), 3) := by decide +kernel
theorem dX0_begin_67 : decode cX0_begin 67 = .ok (.iconst 0, 1) := by decide +kernel
theorem dX0_begin_68 : decode cX0_begin 68 = .ok (.istore_n 3, 1) := by decide +kernel
theorem dX0_begin_69 : decode cX0_begin 69 = .ok (.iload_n 3, 1) := by decide +kernel
theorem dX0_begin_70 : decode cX0_begin 70 = .ok (.bipush 6, 2) := by decide +kernel
theorem dX0_begin_72 : decode cX0_begin 72 = .ok (.if_icmp .ge 21, 3) := by decide +kernel
theorem dX0_begin_75 : decode cX0_begin 75 = .ok (.aload_n 0, 1) := by decide +kernel
theorem dX0_begin_76 : decode cX0_begin 76 = .ok (.getfield 36, 3) := by decide +kernel
theorem dX0_begin_79 : decode cX0_begin 79 = .ok (.iload_n 1, 1) := by decide +kernel
theorem dX0_begin_80 : decode cX0_begin 80 = .ok (.bipush 6, 2) := by decide +kernel
theorem dX0_begin_82 : decode cX0_begin 82 = .ok (.imul, 1) := by decide +kernel
theorem dX0_begin_83 : decode cX0_begin 83 = .ok (.iload_n 3, 1) := by decide +kernel
theorem dX0_begin_84 : decode cX0_begin 84 = .ok (.iadd, 1) := by decide +kernel
theorem dX0_begin_85 : decode cX0_begin 85 = .ok (.iconst 0, 1) := by decide +kernel
theorem dX0_begin_86 : decode cX0_begin 86 = .ok (.iastore, 1) := by decide +kernel
theorem dX0_begin_87 : decode cX0_begin 87 = .ok (.iinc 3 1, 3) := by decide +kernel
theorem dX0_begin_90 : decode cX0_begin 90 = .ok (.goto (-21), 3) := by decide +kernel
theorem dX0_begin_93 : decode cX0_begin 93 = .ok (.return_, 1) := by decide +kernel
theorem dX0_settle_0 : decode cX0_settle 0 = .ok (.iload_n 1, 1) := by decide +kernel
theorem dX0_settle_1 : decode cX0_settle 1 = .ok (.iconst 0, 1) := by decide +kernel
theorem dX0_settle_2 : decode cX0_settle 2 = .ok (.iconst 0, 1) := by decide +kernel
theorem dX0_settle_3 : decode cX0_settle 3 = .ok (.invokestatic 50, 3) := by decide +kernel
theorem dX0_settle_6 : decode cX0_settle 6 = .ok (.istore_n 2, 1) := by decide +kernel
theorem dX0_settle_7 : decode cX0_settle 7 = .ok (.iload_n 2, 1) := by decide +kernel
theorem dX0_settle_8 : decode cX0_settle 8 = .ok (.istore_n 3, 1) := by decide +kernel
theorem dX0_settle_9 : decode cX0_settle 9 = .ok (.iload_n 3, 1) := by decide +kernel
theorem dX0_settle_10 : decode cX0_settle 10 = .ok (.iload_n 2, 1) := by decide +kernel
theorem dX0_settle_11 : decode cX0_settle 11 = .ok (.bipush 24, 2) := by decide +kernel
theorem dX0_settle_13 : decode cX0_settle 13 = .ok (.iadd, 1) := by decide +kernel
theorem dX0_settle_14 : decode cX0_settle 14 = .ok (.if_icmp .ge 89, 3) := by decide +kernel
theorem dX0_settle_17 : decode cX0_settle 17 = .ok (.aload_n 0, 1) := by decide +kernel
theorem dX0_settle_18 : decode cX0_settle 18 = .ok (.iload_n 3, 1) := by decide +kernel
theorem dX0_settle_19 : decode cX0_settle 19 = .ok (.invokevirtual 58, 3) := by decide +kernel
theorem dX0_settle_22 : decode cX0_settle 22 = .ok (.istore 4, 2) := by decide +kernel
theorem dX0_settle_24 : decode cX0_settle 24 = .ok (.iconst 0, 1) := by decide +kernel
theorem dX0_settle_25 : decode cX0_settle 25 = .ok (.iload 4, 2) := by decide +kernel
theorem dX0_settle_27 : decode cX0_settle 27 = .ok (.ineg, 1) := by decide +kernel
theorem dX0_settle_28 : decode cX0_settle 28 = .ok (.invokestatic 62, 3) := by decide +kernel
theorem dX0_settle_31 : decode cX0_settle 31 = .ok (.istore 5, 2) := by decide +kernel
theorem dX0_settle_33 : decode cX0_settle 33 = .ok (.aload_n 0, 1) := by decide +kernel
theorem dX0_settle_34 : decode cX0_settle 34 = .ok (.getfield 27, 3) := by decide +kernel
theorem dX0_settle_37 : decode cX0_settle 37 = .ok (.iload_n 3, 1) := by decide +kernel
theorem dX0_settle_38 : decode cX0_settle 38 = .ok (.aload_n 0, 1) := by decide +kernel
theorem dX0_settle_39 : decode cX0_settle 39 = .ok (.getfield 11, 3) := by decide +kernel
theorem dX0_settle_42 : decode cX0_settle 42 = .ok (.iload_n 3, 1) := by decide +kernel
theorem dX0_settle_43 : decode cX0_settle 43 = .ok (.iaload, 1) := by decide +kernel
theorem dX0_settle_44 : decode cX0_settle 44 = .ok (.bipush 15, 2) := by decide +kernel
theorem dX0_settle_46 : decode cX0_settle 46 = .ok (.imul, 1) := by decide +kernel
theorem dX0_settle_47 : decode cX0_settle 47 = .ok (.bipush 100, 2) := by decide +kernel
theorem dX0_settle_49 : decode cX0_settle 49 = .ok (.idiv, 1) := by decide +kernel
theorem dX0_settle_50 : decode cX0_settle 50 = .ok (.iconst 0, 1) := by decide +kernel
theorem dX0_settle_51 : decode cX0_settle 51 = .ok (.iload 4, 2) := by decide +kernel
theorem dX0_settle_53 : decode cX0_settle 53 = .ok (.invokestatic 62, 3) := by decide +kernel
theorem dX0_settle_56 : decode cX0_settle 56 = .ok (.invokestatic 67, 3) := by decide +kernel
theorem dX0_settle_59 : decode cX0_settle 59 = .ok (.iastore, 1) := by decide +kernel
theorem dX0_settle_60 : decode cX0_settle 60 = .ok (.aload_n 0, 1) := by decide +kernel
theorem dX0_settle_61 : decode cX0_settle 61 = .ok (.getfield 30, 3) := by decide +kernel
theorem dX0_settle_64 : decode cX0_settle 64 = .ok (.iload_n 3, 1) := by decide +kernel
theorem dX0_settle_65 : decode cX0_settle 65 = .ok (.aload_n 0, 1) := by decide +kernel
theorem dX0_settle_66 : decode cX0_settle 66 = .ok (.getfield 11, 3) := by decide +kernel
theorem dX0_settle_69 : decode cX0_settle 69 = .ok (.iload_n 3, 1) := by decide +kernel
theorem dX0_settle_70 : decode cX0_settle 70 = .ok (.iaload, 1) := by decide +kernel
theorem dX0_settle_71 : decode cX0_settle 71 = .ok (.iconst 5, 1) := by decide +kernel
theorem dX0_settle_72 : decode cX0_settle 72 = .ok (.imul, 1) := by decide +kernel
theorem dX0_settle_73 : decode cX0_settle 73 = .ok (.bipush 100, 2) := by decide +kernel
theorem dX0_settle_75 : decode cX0_settle 75 = .ok (.idiv, 1) := by decide +kernel
theorem dX0_settle_76 : decode cX0_settle 76 = .ok (.iload 5, 2) := by decide +kernel
theorem dX0_settle_78 : decode cX0_settle 78 = .ok (.invokestatic 67, 3) := by decide +kernel
theorem dX0_settle_81 : decode cX0_settle 81 = .ok (.iastore, 1) := by decide +kernel
theorem dX0_settle_82 : decode cX0_settle 82 = .ok (.aload_n 0, 1) := by decide +kernel
theorem dX0_settle_83 : decode cX0_settle 83 = .ok (.getfield 33, 3) := by decide +kernel
theorem dX0_settle_86 : decode cX0_settle 86 = .ok (.iload_n 3, 1) := by decide +kernel
theorem dX0_settle_87 : decode cX0_settle 87 = .ok (.iload 5, 2) := by decide +kernel
theorem dX0_settle_89 : decode cX0_settle 89 = .ok (.aload_n 0, 1) := by decide +kernel
theorem dX0_settle_90 : decode cX0_settle 90 = .ok (.getfield 30, 3) := by decide +kernel
theorem dX0_settle_93 : decode cX0_settle 93 = .ok (.iload_n 3, 1) := by decide +kernel
theorem dX0_settle_94 : decode cX0_settle 94 = .ok (.iaload, 1) := by decide +kernel
theorem dX0_settle_95 : decode cX0_settle 95 = .ok (.isub, 1) := by decide +kernel
theorem dX0_settle_96 : decode cX0_settle 96 = .ok (.iastore, 1) := by decide +kernel
theorem dX0_settle_97 : decode cX0_settle 97 = .ok (.iinc 3 1, 3) := by decide +kernel
theorem dX0_settle_100 : decode cX0_settle 100 = .ok (.goto (-91), 3) := by decide +kernel
theorem dX0_settle_103 : decode cX0_settle 103 = .ok (.return_, 1) := by decide +kernel
theorem dX0_countLevied_0 : decode cX0_countLevied 0 = .ok (.iconst 0, 1) := by decide +kernel
theorem dX0_countLevied_1 : decode cX0_countLevied 1 = .ok (.istore_n 2, 1) := by decide +kernel
theorem dX0_countLevied_2 : decode cX0_countLevied 2 = .ok (.iload_n 1, 1) := by decide +kernel
theorem dX0_countLevied_3 : decode cX0_countLevied 3 = .ok (.iconst 0, 1) := by decide +kernel
theorem dX0_countLevied_4 : decode cX0_countLevied 4 = .ok (.iconst 0, 1) := by decide +kernel
theorem dX0_countLevied_5 : decode cX0_countLevied 5 = .ok (.invokestatic 50, 3) := by decide +kernel
theorem dX0_countLevied_8 : decode cX0_countLevied 8 = .ok (.istore_n 3, 1) := by decide +kernel
theorem dX0_countLevied_9 : decode cX0_countLevied 9 = .ok (.iload_n 3, 1) := by decide +kernel
theorem dX0_countLevied_10 : decode cX0_countLevied 10 = .ok (.istore 4, 2) := by decide +kernel
theorem dX0_countLevied_12 : decode cX0_countLevied 12 = .ok (.iload 4, 2) := by decide +kernel
theorem dX0_countLevied_14 : decode cX0_countLevied 14 = .ok (.iload_n 3, 1) := by decide +kernel
theorem dX0_countLevied_15 : decode cX0_countLevied 15 = .ok (.bipush 24, 2) := by decide +kernel
theorem dX0_countLevied_17 : decode cX0_countLevied 17 = .ok (.iadd, 1) := by decide +kernel
theorem dX0_countLevied_18 : decode cX0_countLevied 18 = .ok (.if_icmp .ge 22, 3) := by decide +kernel
theorem dX0_countLevied_21 : decode cX0_countLevied 21 = .ok (.aload_n 0, 1) := by decide +kernel
theorem dX0_countLevied_22 : decode cX0_countLevied 22 = .ok (.getfield 33, 3) := by decide +kernel
theorem dX0_countLevied_25 : decode cX0_countLevied 25 = .ok (.iload 4, 2) := by decide +kernel
theorem dX0_countLevied_27 : decode cX0_countLevied 27 = .ok (.iaload, 1) := by decide +kernel
theorem dX0_countLevied_28 : decode cX0_countLevied 28 = .ok (.ifCond .le 6, 3) := by decide +kernel
theorem dX0_countLevied_31 : decode cX0_countLevied 31 = .ok (.iinc 2 1, 3) := by decide +kernel
theorem dX0_countLevied_34 : decode cX0_countLevied 34 = .ok (.iinc 4 1, 3) := by decide +kernel
theorem dX0_countLevied_37 : decode cX0_countLevied 37 = .ok (.goto (-25), 3) := by decide +kernel
theorem dX0_countLevied_40 : decode cX0_countLevied 40 = .ok (.iload_n 2, 1) := by decide +kernel
theorem dX0_countLevied_41 : decode cX0_countLevied 41 = .ok (.ireturn, 1) := by decide +kernel
theorem dX0_leviedOn_0 : decode cX0_leviedOn 0 = .ok (.aload_n 0, 1) := by decide +kernel
theorem dX0_leviedOn_1 : decode cX0_leviedOn 1 = .ok (.getfield 33, 3) := by decide +kernel
theorem dX0_leviedOn_4 : decode cX0_leviedOn 4 = .ok (.iload_n 1, 1) := by decide +kernel
theorem dX0_leviedOn_5 : decode cX0_leviedOn 5 = .ok (.iload_n 2, 1) := by decide +kernel
theorem dX0_leviedOn_6 : decode cX0_leviedOn 6 = .ok (.iload_n 3, 1) := by decide +kernel
theorem dX0_leviedOn_7 : decode cX0_leviedOn 7 = .ok (.invokestatic 50, 3) := by decide +kernel
theorem dX0_leviedOn_10 : decode cX0_leviedOn 10 = .ok (.iaload, 1) := by decide +kernel
theorem dX0_leviedOn_11 : decode cX0_leviedOn 11 = .ok (.ireturn, 1) := by decide +kernel
theorem dX0_hasLeft_0 : decode cX0_hasLeft 0 = .ok (.aload_n 0, 1) := by decide +kernel
theorem dX0_hasLeft_1 : decode cX0_hasLeft 1 = .ok (.iload_n 1, 1) := by decide +kernel
theorem dX0_hasLeft_2 : decode cX0_hasLeft 2 = .ok (.iload_n 2, 1) := by decide +kernel
theorem dX0_hasLeft_3 : decode cX0_hasLeft 3 = .ok (.iload_n 3, 1) := by decide +kernel
theorem dX0_hasLeft_4 : decode cX0_hasLeft 4 = .ok (.invokestatic 50, 3) := by decide +kernel
theorem dX0_hasLeft_7 : decode cX0_hasLeft 7 = .ok (.invokevirtual 58, 3) := by decide +kernel
theorem dX0_hasLeft_10 : decode cX0_hasLeft 10 = .ok (.iload 4, 2) := by decide +kernel
theorem dX0_hasLeft_12 : decode cX0_hasLeft 12 = .ok (.if_icmp .lt 7, 3) := by decide +kernel
theorem dX0_hasLeft_15 : decode cX0_hasLeft 15 = .ok (.iconst 1, 1) := by decide +kernel
theorem dX0_hasLeft_16 : decode cX0_hasLeft 16 = .ok (.goto 4, 3) := by decide +kernel
theorem dX0_hasLeft_19 : decode cX0_hasLeft 19 = .ok (.iconst 0, 1) := by decide +kernel
theorem dX0_hasLeft_20 : decode cX0_hasLeft 20 = .ok (.ireturn, 1) := by decide +kernel
theorem dX0_canExchange_0 : decode cX0_canExchange 0 = .ok (.aload_n 0, 1) := by decide +kernel
theorem dX0_canExchange_1 : decode cX0_canExchange 1 = .ok (.getfield 24, 3) := by decide +kernel
theorem dX0_canExchange_4 : decode cX0_canExchange 4 = .ok (.iload_n 1, 1) := by decide +kernel
theorem dX0_canExchange_5 : decode cX0_canExchange 5 = .ok (.iload_n 2, 1) := by decide +kernel
theorem dX0_canExchange_6 : decode cX0_canExchange 6 = .ok (.iload_n 3, 1) := by decide +kernel
theorem dX0_canExchange_7 : decode cX0_canExchange 7 = .ok (.invokestatic 50, 3) := by decide +kernel
theorem dX0_canExchange_10 : decode cX0_canExchange 10 = .ok (.iaload, 1) := by decide +kernel
theorem dX0_canExchange_11 : decode cX0_canExchange 11 = .ok (.iload 5, 2) := by decide +kernel
theorem dX0_canExchange_13 : decode cX0_canExchange 13 = .ok (.if_icmp .lt 40, 3) := by decide +kernel
theorem dX0_canExchange_16 : decode cX0_canExchange 16 = .ok (.aload_n 0, 1) := by decide +kernel
theorem dX0_canExchange_17 : decode cX0_canExchange 17 = .ok (.iload_n 1, 1) := by decide +kernel
theorem dX0_canExchange_18 : decode cX0_canExchange 18 = .ok (.iload_n 2, 1) := by decide +kernel
theorem dX0_canExchange_19 : decode cX0_canExchange 19 = .ok (.iload 4, 2) := by decide +kernel
theorem dX0_canExchange_21 : decode cX0_canExchange 21 = .ok (.iload 6, 2) := by decide +kernel
theorem dX0_canExchange_23 : decode cX0_canExchange 23 = .ok (.invokevirtual 70, 3) := by decide +kernel
theorem dX0_canExchange_26 : decode cX0_canExchange 26 = .ok (.ifCond .eq 27, 3) := by decide +kernel
theorem dX0_canExchange_29 : decode cX0_canExchange 29 = .ok (.aload_n 0, 1) := by decide +kernel
theorem dX0_canExchange_30 : decode cX0_canExchange 30 = .ok (.getfield 36, 3) := by decide +kernel
theorem dX0_canExchange_33 : decode cX0_canExchange 33 = .ok (.iload_n 1, 1) := by decide +kernel
theorem dX0_canExchange_34 : decode cX0_canExchange 34 = .ok (.bipush 6, 2) := by decide +kernel
theorem dX0_canExchange_36 : decode cX0_canExchange 36 = .ok (.imul, 1) := by decide +kernel
theorem dX0_canExchange_37 : decode cX0_canExchange 37 = .ok (.iload_n 2, 1) := by decide +kernel
theorem dX0_canExchange_38 : decode cX0_canExchange 38 = .ok (.iadd, 1) := by decide +kernel
theorem dX0_canExchange_39 : decode cX0_canExchange 39 = .ok (.iaload, 1) := by decide +kernel
theorem dX0_canExchange_40 : decode cX0_canExchange 40 = .ok (.iload 5, 2) := by decide +kernel
theorem dX0_canExchange_42 : decode cX0_canExchange 42 = .ok (.iadd, 1) := by decide +kernel
theorem dX0_canExchange_43 : decode cX0_canExchange 43 = .ok (.sipush 1000, 3) := by decide +kernel
theorem dX0_canExchange_46 : decode cX0_canExchange 46 = .ok (.if_icmp .gt 7, 3) := by decide +kernel
theorem dX0_canExchange_49 : decode cX0_canExchange 49 = .ok (.iconst 1, 1) := by decide +kernel
theorem dX0_canExchange_50 : decode cX0_canExchange 50 = .ok (.goto 4, 3) := by decide +kernel
theorem dX0_canExchange_53 : decode cX0_canExchange 53 = .ok (.iconst 0, 1) := by decide +kernel
theorem dX0_canExchange_54 : decode cX0_canExchange 54 = .ok (.ireturn, 1) := by decide +kernel
theorem dX0_moveLeased_0 : decode cX0_moveLeased 0 = .ok (.aload_n 0, 1) := by decide +kernel
theorem dX0_moveLeased_1 : decode cX0_moveLeased 1 = .ok (.getfield 15, 3) := by decide +kernel
theorem dX0_moveLeased_4 : decode cX0_moveLeased 4 = .ok (.iload_n 1, 1) := by decide +kernel
theorem dX0_moveLeased_5 : decode cX0_moveLeased 5 = .ok (.iload_n 3, 1) := by decide +kernel
theorem dX0_moveLeased_6 : decode cX0_moveLeased 6 = .ok (.iload_n 2, 1) := by decide +kernel
theorem dX0_moveLeased_7 : decode cX0_moveLeased 7 = .ok (.invokestatic 50, 3) := by decide +kernel
theorem dX0_moveLeased_10 : decode cX0_moveLeased 10 = .ok (.dup2, 1) := by decide +kernel
theorem dX0_moveLeased_11 : decode cX0_moveLeased 11 = .ok (.iaload, 1) := by decide +kernel
theorem dX0_moveLeased_12 : decode cX0_moveLeased 12 = .ok (.iload 5, 2) := by decide +kernel
theorem dX0_moveLeased_14 : decode cX0_moveLeased 14 = .ok (.isub, 1) := by decide +kernel
theorem dX0_moveLeased_15 : decode cX0_moveLeased 15 = .ok (.iastore, 1) := by decide +kernel
theorem dX0_moveLeased_16 : decode cX0_moveLeased 16 = .ok (.aload_n 0, 1) := by decide +kernel
theorem dX0_moveLeased_17 : decode cX0_moveLeased 17 = .ok (.getfield 15, 3) := by decide +kernel
theorem dX0_moveLeased_20 : decode cX0_moveLeased 20 = .ok (.iload_n 1, 1) := by decide +kernel
theorem dX0_moveLeased_21 : decode cX0_moveLeased 21 = .ok (.iload 4, 2) := by decide +kernel
theorem dX0_moveLeased_23 : decode cX0_moveLeased 23 = .ok (.iload_n 2, 1) := by decide +kernel
theorem dX0_moveLeased_24 : decode cX0_moveLeased 24 = .ok (.invokestatic 50, 3) := by decide +kernel
theorem dX0_moveLeased_27 : decode cX0_moveLeased 27 = .ok (.dup2, 1) := by decide +kernel
theorem dX0_moveLeased_28 : decode cX0_moveLeased 28 = .ok (.iaload, 1) := by decide +kernel
theorem dX0_moveLeased_29 : decode cX0_moveLeased 29 = .ok (.iload 5, 2) := by decide +kernel
theorem dX0_moveLeased_31 : decode cX0_moveLeased 31 = .ok (.iadd, 1) := by decide +kernel
theorem dX0_moveLeased_32 : decode cX0_moveLeased 32 = .ok (.iastore, 1) := by decide +kernel
theorem dX0_moveLeased_33 : decode cX0_moveLeased 33 = .ok (.return_, 1) := by decide +kernel
theorem dX0_charge_0 : decode cX0_charge 0 = .ok (.aload_n 0, 1) := by decide +kernel
theorem dX0_charge_1 : decode cX0_charge 1 = .ok (.getfield 24, 3) := by decide +kernel
theorem dX0_charge_4 : decode cX0_charge 4 = .ok (.iload_n 1, 1) := by decide +kernel
theorem dX0_charge_5 : decode cX0_charge 5 = .ok (.iload_n 2, 1) := by decide +kernel
theorem dX0_charge_6 : decode cX0_charge 6 = .ok (.iload_n 3, 1) := by decide +kernel
theorem dX0_charge_7 : decode cX0_charge 7 = .ok (.invokestatic 50, 3) := by decide +kernel
theorem dX0_charge_10 : decode cX0_charge 10 = .ok (.dup2, 1) := by decide +kernel
theorem dX0_charge_11 : decode cX0_charge 11 = .ok (.iaload, 1) := by decide +kernel
theorem dX0_charge_12 : decode cX0_charge 12 = .ok (.iload 4, 2) := by decide +kernel
theorem dX0_charge_14 : decode cX0_charge 14 = .ok (.iadd, 1) := by decide +kernel
theorem dX0_charge_15 : decode cX0_charge 15 = .ok (.iastore, 1) := by decide +kernel
theorem dX0_charge_16 : decode cX0_charge 16 = .ok (.return_, 1) := by decide +kernel
theorem dX0_exchange_0 : decode cX0_exchange 0 = .ok (.aload_n 0, 1) := by decide +kernel
theorem dX0_exchange_1 : decode cX0_exchange 1 = .ok (.getfield 24, 3) := by decide +kernel
theorem dX0_exchange_4 : decode cX0_exchange 4 = .ok (.iload_n 1, 1) := by decide +kernel
theorem dX0_exchange_5 : decode cX0_exchange 5 = .ok (.iload_n 2, 1) := by decide +kernel
theorem dX0_exchange_6 : decode cX0_exchange 6 = .ok (.iload_n 3, 1) := by decide +kernel
theorem dX0_exchange_7 : decode cX0_exchange 7 = .ok (.invokestatic 50, 3) := by decide +kernel
theorem dX0_exchange_10 : decode cX0_exchange 10 = .ok (.dup2, 1) := by decide +kernel
theorem dX0_exchange_11 : decode cX0_exchange 11 = .ok (.iaload, 1) := by decide +kernel
theorem dX0_exchange_12 : decode cX0_exchange 12 = .ok (.iload 5, 2) := by decide +kernel
theorem dX0_exchange_14 : decode cX0_exchange 14 = .ok (.isub, 1) := by decide +kernel
theorem dX0_exchange_15 : decode cX0_exchange 15 = .ok (.iastore, 1) := by decide +kernel
theorem dX0_exchange_16 : decode cX0_exchange 16 = .ok (.aload_n 0, 1) := by decide +kernel
theorem dX0_exchange_17 : decode cX0_exchange 17 = .ok (.getfield 24, 3) := by decide +kernel
theorem dX0_exchange_20 : decode cX0_exchange 20 = .ok (.iload_n 1, 1) := by decide +kernel
theorem dX0_exchange_21 : decode cX0_exchange 21 = .ok (.iload_n 2, 1) := by decide +kernel
theorem dX0_exchange_22 : decode cX0_exchange 22 = .ok (.iload 4, 2) := by decide +kernel
theorem dX0_exchange_24 : decode cX0_exchange 24 = .ok (.invokestatic 50, 3) := by decide +kernel
theorem dX0_exchange_27 : decode cX0_exchange 27 = .ok (.dup2, 1) := by decide +kernel
theorem dX0_exchange_28 : decode cX0_exchange 28 = .ok (.iaload, 1) := by decide +kernel
theorem dX0_exchange_29 : decode cX0_exchange 29 = .ok (.iload 6, 2) := by decide +kernel
theorem dX0_exchange_31 : decode cX0_exchange 31 = .ok (.iadd, 1) := by decide +kernel
theorem dX0_exchange_32 : decode cX0_exchange 32 = .ok (.iastore, 1) := by decide +kernel
theorem dX0_exchange_33 : decode cX0_exchange 33 = .ok (.aload_n 0, 1) := by decide +kernel
theorem dX0_exchange_34 : decode cX0_exchange 34 = .ok (.getfield 36, 3) := by decide +kernel
theorem dX0_exchange_37 : decode cX0_exchange 37 = .ok (.iload_n 1, 1) := by decide +kernel
theorem dX0_exchange_38 : decode cX0_exchange 38 = .ok (.bipush 6, 2) := by decide +kernel
theorem dX0_exchange_40 : decode cX0_exchange 40 = .ok (.imul, 1) := by decide +kernel
theorem dX0_exchange_41 : decode cX0_exchange 41 = .ok (.iload_n 2, 1) := by decide +kernel
theorem dX0_exchange_42 : decode cX0_exchange 42 = .ok (.iadd, 1) := by decide +kernel
theorem dX0_exchange_43 : decode cX0_exchange 43 = .ok (.dup2, 1) := by decide +kernel
theorem dX0_exchange_44 : decode cX0_exchange 44 = .ok (.iaload, 1) := by decide +kernel
theorem dX0_exchange_45 : decode cX0_exchange 45 = .ok (.iload 5, 2) := by decide +kernel
theorem dX0_exchange_47 : decode cX0_exchange 47 = .ok (.iadd, 1) := by decide +kernel
theorem dX0_exchange_48 : decode cX0_exchange 48 = .ok (.iastore, 1) := by decide +kernel
theorem dX0_exchange_49 : decode cX0_exchange 49 = .ok (.return_, 1) := by decide +kernel
theorem dX0_figure_0 : decode cX0_figure 0 = .ok (.iload_n 2, 1) := by decide +kernel
theorem dX0_figure_1 : decode cX0_figure 1 = .ok (.tableswitch 102 0 7 #[47, 54, 61, 68, 75, 82, 88, 95], 47) := by decide +kernel
theorem dX0_figure_48 : decode cX0_figure 48 = .ok (.aload_n 0, 1) := by decide +kernel
theorem dX0_figure_49 : decode cX0_figure 49 = .ok (.getfield 11, 3) := by decide +kernel
theorem dX0_figure_52 : decode cX0_figure 52 = .ok (.iload_n 1, 1) := by decide +kernel
theorem dX0_figure_53 : decode cX0_figure 53 = .ok (.iaload, 1) := by decide +kernel
theorem dX0_figure_54 : decode cX0_figure 54 = .ok (.ireturn, 1) := by decide +kernel
theorem dX0_figure_55 : decode cX0_figure 55 = .ok (.aload_n 0, 1) := by decide +kernel
theorem dX0_figure_56 : decode cX0_figure 56 = .ok (.getfield 15, 3) := by decide +kernel
theorem dX0_figure_59 : decode cX0_figure 59 = .ok (.iload_n 1, 1) := by decide +kernel
theorem dX0_figure_60 : decode cX0_figure 60 = .ok (.iaload, 1) := by decide +kernel
theorem dX0_figure_61 : decode cX0_figure 61 = .ok (.ireturn, 1) := by decide +kernel
theorem dX0_figure_62 : decode cX0_figure 62 = .ok (.aload_n 0, 1) := by decide +kernel
theorem dX0_figure_63 : decode cX0_figure 63 = .ok (.getfield 18, 3) := by decide +kernel
theorem dX0_figure_66 : decode cX0_figure 66 = .ok (.iload_n 1, 1) := by decide +kernel
theorem dX0_figure_67 : decode cX0_figure 67 = .ok (.iaload, 1) := by decide +kernel
theorem dX0_figure_68 : decode cX0_figure 68 = .ok (.ireturn, 1) := by decide +kernel
theorem dX0_figure_69 : decode cX0_figure 69 = .ok (.aload_n 0, 1) := by decide +kernel
theorem dX0_figure_70 : decode cX0_figure 70 = .ok (.getfield 21, 3) := by decide +kernel
theorem dX0_figure_73 : decode cX0_figure 73 = .ok (.iload_n 1, 1) := by decide +kernel
theorem dX0_figure_74 : decode cX0_figure 74 = .ok (.iaload, 1) := by decide +kernel
theorem dX0_figure_75 : decode cX0_figure 75 = .ok (.ireturn, 1) := by decide +kernel
theorem dX0_figure_76 : decode cX0_figure 76 = .ok (.aload_n 0, 1) := by decide +kernel
theorem dX0_figure_77 : decode cX0_figure 77 = .ok (.getfield 24, 3) := by decide +kernel
theorem dX0_figure_80 : decode cX0_figure 80 = .ok (.iload_n 1, 1) := by decide +kernel
theorem dX0_figure_81 : decode cX0_figure 81 = .ok (.iaload, 1) := by decide +kernel
theorem dX0_figure_82 : decode cX0_figure 82 = .ok (.ireturn, 1) := by decide +kernel
theorem dX0_figure_83 : decode cX0_figure 83 = .ok (.aload_n 0, 1) := by decide +kernel
theorem dX0_figure_84 : decode cX0_figure 84 = .ok (.iload_n 1, 1) := by decide +kernel
theorem dX0_figure_85 : decode cX0_figure 85 = .ok (.invokevirtual 58, 3) := by decide +kernel
theorem dX0_figure_88 : decode cX0_figure 88 = .ok (.ireturn, 1) := by decide +kernel
theorem dX0_figure_89 : decode cX0_figure 89 = .ok (.aload_n 0, 1) := by decide +kernel
theorem dX0_figure_90 : decode cX0_figure 90 = .ok (.getfield 27, 3) := by decide +kernel
theorem dX0_figure_93 : decode cX0_figure 93 = .ok (.iload_n 1, 1) := by decide +kernel
theorem dX0_figure_94 : decode cX0_figure 94 = .ok (.iaload, 1) := by decide +kernel
theorem dX0_figure_95 : decode cX0_figure 95 = .ok (.ireturn, 1) := by decide +kernel
theorem dX0_figure_96 : decode cX0_figure 96 = .ok (.aload_n 0, 1) := by decide +kernel
theorem dX0_figure_97 : decode cX0_figure 97 = .ok (.getfield 30, 3) := by decide +kernel
theorem dX0_figure_100 : decode cX0_figure 100 = .ok (.iload_n 1, 1) := by decide +kernel
theorem dX0_figure_101 : decode cX0_figure 101 = .ok (.iaload, 1) := by decide +kernel
theorem dX0_figure_102 : decode cX0_figure 102 = .ok (.ireturn, 1) := by decide +kernel
theorem dX0_figure_103 : decode cX0_figure 103 = .ok (.aload_n 0, 1) := by decide +kernel
theorem dX0_figure_104 : decode cX0_figure 104 = .ok (.getfield 33, 3) := by decide +kernel
theorem dX0_figure_107 : decode cX0_figure 107 = .ok (.iload_n 1, 1) := by decide +kernel
theorem dX0_figure_108 : decode cX0_figure 108 = .ok (.iaload, 1) := by decide +kernel
theorem dX0_figure_109 : decode cX0_figure 109 = .ok (.ireturn, 1) := by decide +kernel
theorem dX0_leftOn_0 : decode cX0_leftOn 0 = .ok (.aload_n 0, 1) := by decide +kernel
theorem dX0_leftOn_1 : decode cX0_leftOn 1 = .ok (.getfield 11, 3) := by decide +kernel
theorem dX0_leftOn_4 : decode cX0_leftOn 4 = .ok (.iload_n 1, 1) := by decide +kernel
theorem dX0_leftOn_5 : decode cX0_leftOn 5 = .ok (.iaload, 1) := by decide +kernel
theorem dX0_leftOn_6 : decode cX0_leftOn 6 = .ok (.aload_n 0, 1) := by decide +kernel
theorem dX0_leftOn_7 : decode cX0_leftOn 7 = .ok (.getfield 15, 3) := by decide +kernel
theorem dX0_leftOn_10 : decode cX0_leftOn 10 = .ok (.iload_n 1, 1) := by decide +kernel
theorem dX0_leftOn_11 : decode cX0_leftOn 11 = .ok (.iaload, 1) := by decide +kernel
theorem dX0_leftOn_12 : decode cX0_leftOn 12 = .ok (.iadd, 1) := by decide +kernel
theorem dX0_leftOn_13 : decode cX0_leftOn 13 = .ok (.aload_n 0, 1) := by decide +kernel
theorem dX0_leftOn_14 : decode cX0_leftOn 14 = .ok (.getfield 18, 3) := by decide +kernel
theorem dX0_leftOn_17 : decode cX0_leftOn 17 = .ok (.iload_n 1, 1) := by decide +kernel
theorem dX0_leftOn_18 : decode cX0_leftOn 18 = .ok (.iaload, 1) := by decide +kernel
theorem dX0_leftOn_19 : decode cX0_leftOn 19 = .ok (.iadd, 1) := by decide +kernel
theorem dX0_leftOn_20 : decode cX0_leftOn 20 = .ok (.aload_n 0, 1) := by decide +kernel
theorem dX0_leftOn_21 : decode cX0_leftOn 21 = .ok (.getfield 21, 3) := by decide +kernel
theorem dX0_leftOn_24 : decode cX0_leftOn 24 = .ok (.iload_n 1, 1) := by decide +kernel
theorem dX0_leftOn_25 : decode cX0_leftOn 25 = .ok (.iaload, 1) := by decide +kernel
theorem dX0_leftOn_26 : decode cX0_leftOn 26 = .ok (.isub, 1) := by decide +kernel
theorem dX0_leftOn_27 : decode cX0_leftOn 27 = .ok (.aload_n 0, 1) := by decide +kernel
theorem dX0_leftOn_28 : decode cX0_leftOn 28 = .ok (.getfield 24, 3) := by decide +kernel
theorem dX0_leftOn_31 : decode cX0_leftOn 31 = .ok (.iload_n 1, 1) := by decide +kernel
theorem dX0_leftOn_32 : decode cX0_leftOn 32 = .ok (.iaload, 1) := by decide +kernel
theorem dX0_leftOn_33 : decode cX0_leftOn 33 = .ok (.isub, 1) := by decide +kernel
theorem dX0_leftOn_34 : decode cX0_leftOn 34 = .ok (.ireturn, 1) := by decide +kernel
theorem dX1_init_0 : decode cX1_init 0 = .ok (.aload_n 0, 1) := by decide +kernel
theorem dX1_init_1 : decode cX1_init 1 = .ok (.invokespecial 3, 3) := by decide +kernel
theorem dX1_init_4 : decode cX1_init 4 = .ok (.aload_n 0, 1) := by decide +kernel
theorem dX1_init_5 : decode cX1_init 5 = .ok (.sipush 200, 3) := by decide +kernel
theorem dX1_init_8 : decode cX1_init 8 = .ok (.newarray .int, 2) := by decide +kernel
theorem dX1_init_10 : decode cX1_init 10 = .ok (.putfield 9, 3) := by decide +kernel
theorem dX1_init_13 : decode cX1_init 13 = .ok (.aload_n 0, 1) := by decide +kernel
theorem dX1_init_14 : decode cX1_init 14 = .ok (.sipush 200, 3) := by decide +kernel
theorem dX1_init_17 : decode cX1_init 17 = .ok (.newarray .int, 2) := by decide +kernel
theorem dX1_init_19 : decode cX1_init 19 = .ok (.putfield 15, 3) := by decide +kernel
theorem dX1_init_22 : decode cX1_init 22 = .ok (.aload_n 0, 1) := by decide +kernel
theorem dX1_init_23 : decode cX1_init 23 = .ok (.sipush 200, 3) := by decide +kernel
theorem dX1_init_26 : decode cX1_init 26 = .ok (.newarray .int, 2) := by decide +kernel
theorem dX1_init_28 : decode cX1_init 28 = .ok (.putfield 18, 3) := by decide +kernel
theorem dX1_init_31 : decode cX1_init 31 = .ok (.aload_n 0, 1) := by decide +kernel
theorem dX1_init_32 : decode cX1_init 32 = .ok (.sipush 200, 3) := by decide +kernel
theorem dX1_init_35 : decode cX1_init 35 = .ok (.newarray .int, 2) := by decide +kernel
theorem dX1_init_37 : decode cX1_init 37 = .ok (.putfield 21, 3) := by decide +kernel
theorem dX1_init_40 : decode cX1_init 40 = .ok (.aload_n 0, 1) := by decide +kernel
theorem dX1_init_41 : decode cX1_init 41 = .ok (.sipush 200, 3) := by decide +kernel
theorem dX1_init_44 : decode cX1_init 44 = .ok (.newarray .int, 2) := by decide +kernel
theorem dX1_init_46 : decode cX1_init 46 = .ok (.putfield 24, 3) := by decide +kernel
theorem dX1_init_49 : decode cX1_init 49 = .ok (.aload_n 0, 1) := by decide +kernel
theorem dX1_init_50 : decode cX1_init 50 = .ok (.sipush 200, 3) := by decide +kernel
theorem dX1_init_53 : decode cX1_init 53 = .ok (.newarray .int, 2) := by decide +kernel
theorem dX1_init_55 : decode cX1_init 55 = .ok (.putfield 27, 3) := by decide +kernel
theorem dX1_init_58 : decode cX1_init 58 = .ok (.aload_n 0, 1) := by decide +kernel
theorem dX1_init_59 : decode cX1_init 59 = .ok (.sipush 200, 3) := by decide +kernel
theorem dX1_init_62 : decode cX1_init 62 = .ok (.newarray .int, 2) := by decide +kernel
theorem dX1_init_64 : decode cX1_init 64 = .ok (.putfield 30, 3) := by decide +kernel
theorem dX1_init_67 : decode cX1_init 67 = .ok (.aload_n 0, 1) := by decide +kernel
theorem dX1_init_68 : decode cX1_init 68 = .ok (.sipush 200, 3) := by decide +kernel
theorem dX1_init_71 : decode cX1_init 71 = .ok (.newarray .boolean, 2) := by decide +kernel
theorem dX1_init_73 : decode cX1_init 73 = .ok (.putfield 33, 3) := by decide +kernel
theorem dX1_init_76 : decode cX1_init 76 = .ok (.aload_n 0, 1) := by decide +kernel
theorem dX1_init_77 : decode cX1_init 77 = .ok (.sipush 200, 3) := by decide +kernel
theorem dX1_init_80 : decode cX1_init 80 = .ok (.newarray .boolean, 2) := by decide +kernel
theorem dX1_init_82 : decode cX1_init 82 = .ok (.putfield 37, 3) := by decide +kernel
theorem dX1_init_85 : decode cX1_init 85 = .ok (.aload_n 0, 1) := by decide +kernel
theorem dX1_init_86 : decode cX1_init 86 = .ok (.iconst 0, 1) := by decide +kernel
theorem dX1_init_87 : decode cX1_init 87 = .ok (.putfield 40, 3) := by decide +kernel
theorem dX1_init_90 : decode cX1_init 90 = .ok (.return_, 1) := by decide +kernel
theorem dX1_size_0 : decode cX1_size 0 = .ok (.aload_n 0, 1) := by decide +kernel
theorem dX1_size_1 : decode cX1_size 1 = .ok (.getfield 40, 3) := by decide +kernel
theorem dX1_size_4 : decode cX1_size 4 = .ok (.ireturn, 1) := by decide +kernel
theorem dX1_areFull_0 : decode cX1_areFull 0 = .ok (.aload_n 0, 1) := by decide +kernel
theorem dX1_areFull_1 : decode cX1_areFull 1 = .ok (.getfield 40, 3) := by decide +kernel
theorem dX1_areFull_4 : decode cX1_areFull 4 = .ok (.sipush 200, 3) := by decide +kernel
theorem dX1_areFull_7 : decode cX1_areFull 7 = .ok (.if_icmp .lt 7, 3) := by decide +kernel
theorem dX1_areFull_10 : decode cX1_areFull 10 = .ok (.iconst 1, 1) := by decide +kernel
theorem dX1_areFull_11 : decode cX1_areFull 11 = .ok (.goto 4, 3) := by decide +kernel
theorem dX1_areFull_14 : decode cX1_areFull 14 = .ok (.iconst 0, 1) := by decide +kernel
theorem dX1_areFull_15 : decode cX1_areFull 15 = .ok (.ireturn, 1) := by decide +kernel
theorem dX1_has_0 : decode cX1_has 0 = .ok (.iload_n 1, 1) := by decide +kernel
theorem dX1_has_1 : decode cX1_has 1 = .ok (.iconst 0, 1) := by decide +kernel
theorem dX1_has_2 : decode cX1_has 2 = .ok (.aload_n 0, 1) := by decide +kernel
theorem dX1_has_3 : decode cX1_has 3 = .ok (.getfield 40, 3) := by decide +kernel
theorem dX1_has_6 : decode cX1_has 6 = .ok (.iconst 1, 1) := by decide +kernel
theorem dX1_has_7 : decode cX1_has 7 = .ok (.isub, 1) := by decide +kernel
theorem dX1_has_8 : decode cX1_has 8 = .ok (.invokestatic 44, 3) := by decide +kernel
theorem dX1_has_11 : decode cX1_has 11 = .ok (.ireturn, 1) := by decide +kernel
theorem dX1_add_0 : decode cX1_add 0 = .ok (.aload_n 0, 1) := by decide +kernel
theorem dX1_add_1 : decode cX1_add 1 = .ok (.getfield 40, 3) := by decide +kernel
theorem dX1_add_4 : decode cX1_add 4 = .ok (.istore 8, 2) := by decide +kernel
theorem dX1_add_6 : decode cX1_add 6 = .ok (.aload_n 0, 1) := by decide +kernel
theorem dX1_add_7 : decode cX1_add 7 = .ok (.getfield 9, 3) := by decide +kernel
theorem dX1_add_10 : decode cX1_add 10 = .ok (.iload 8, 2) := by decide +kernel
theorem dX1_add_12 : decode cX1_add 12 = .ok (.iload_n 1, 1) := by decide +kernel
theorem dX1_add_13 : decode cX1_add 13 = .ok (.iastore, 1) := by decide +kernel
theorem dX1_add_14 : decode cX1_add 14 = .ok (.aload_n 0, 1) := by decide +kernel
theorem dX1_add_15 : decode cX1_add 15 = .ok (.getfield 15, 3) := by decide +kernel
theorem dX1_add_18 : decode cX1_add 18 = .ok (.iload 8, 2) := by decide +kernel
theorem dX1_add_20 : decode cX1_add 20 = .ok (.iload_n 2, 1) := by decide +kernel
theorem dX1_add_21 : decode cX1_add 21 = .ok (.iastore, 1) := by decide +kernel
theorem dX1_add_22 : decode cX1_add 22 = .ok (.aload_n 0, 1) := by decide +kernel
theorem dX1_add_23 : decode cX1_add 23 = .ok (.getfield 18, 3) := by decide +kernel
theorem dX1_add_26 : decode cX1_add 26 = .ok (.iload 8, 2) := by decide +kernel
theorem dX1_add_28 : decode cX1_add 28 = .ok (.iload_n 3, 1) := by decide +kernel
theorem dX1_add_29 : decode cX1_add 29 = .ok (.iastore, 1) := by decide +kernel
theorem dX1_add_30 : decode cX1_add 30 = .ok (.aload_n 0, 1) := by decide +kernel
theorem dX1_add_31 : decode cX1_add 31 = .ok (.getfield 21, 3) := by decide +kernel
theorem dX1_add_34 : decode cX1_add 34 = .ok (.iload 8, 2) := by decide +kernel
theorem dX1_add_36 : decode cX1_add 36 = .ok (.iload 4, 2) := by decide +kernel
theorem dX1_add_38 : decode cX1_add 38 = .ok (.iastore, 1) := by decide +kernel
theorem dX1_add_39 : decode cX1_add 39 = .ok (.aload_n 0, 1) := by decide +kernel
theorem dX1_add_40 : decode cX1_add 40 = .ok (.getfield 24, 3) := by decide +kernel
theorem dX1_add_43 : decode cX1_add 43 = .ok (.iload 8, 2) := by decide +kernel
theorem dX1_add_45 : decode cX1_add 45 = .ok (.iload 5, 2) := by decide +kernel
theorem dX1_add_47 : decode cX1_add 47 = .ok (.iastore, 1) := by decide +kernel
theorem dX1_add_48 : decode cX1_add 48 = .ok (.aload_n 0, 1) := by decide +kernel
theorem dX1_add_49 : decode cX1_add 49 = .ok (.getfield 27, 3) := by decide +kernel
theorem dX1_add_52 : decode cX1_add 52 = .ok (.iload 8, 2) := by decide +kernel
theorem dX1_add_54 : decode cX1_add 54 = .ok (.iload 6, 2) := by decide +kernel
theorem dX1_add_56 : decode cX1_add 56 = .ok (.iastore, 1) := by decide +kernel
theorem dX1_add_57 : decode cX1_add 57 = .ok (.aload_n 0, 1) := by decide +kernel
theorem dX1_add_58 : decode cX1_add 58 = .ok (.getfield 30, 3) := by decide +kernel
theorem dX1_add_61 : decode cX1_add 61 = .ok (.iload 8, 2) := by decide +kernel
theorem dX1_add_63 : decode cX1_add 63 = .ok (.iload 7, 2) := by decide +kernel
theorem dX1_add_65 : decode cX1_add 65 = .ok (.iastore, 1) := by decide +kernel
theorem dX1_add_66 : decode cX1_add 66 = .ok (.aload_n 0, 1) := by decide +kernel
theorem dX1_add_67 : decode cX1_add 67 = .ok (.dup, 1) := by decide +kernel
theorem dX1_add_68 : decode cX1_add 68 = .ok (.getfield 40, 3) := by decide +kernel
theorem dX1_add_71 : decode cX1_add 71 = .ok (.iconst 1, 1) := by decide +kernel
theorem dX1_add_72 : decode cX1_add 72 = .ok (.iadd, 1) := by decide +kernel
theorem dX1_add_73 : decode cX1_add 73 = .ok (.putfield 40, 3) := by decide +kernel
theorem dX1_add_76 : decode cX1_add 76 = .ok (.iload 8, 2) := by decide +kernel
theorem dX1_add_78 : decode cX1_add 78 = .ok (.ireturn, 1) := by decide +kernel
theorem dX1_yearOf_0 : decode cX1_yearOf 0 = .ok (.aload_n 0, 1) := by decide +kernel
theorem dX1_yearOf_1 : decode cX1_yearOf 1 = .ok (.getfield 15, 3) := by decide +kernel
theorem dX1_yearOf_4 : decode cX1_yearOf 4 = .ok (.iload_n 1, 1) := by decide +kernel
theorem dX1_yearOf_5 : decode cX1_yearOf 5 = .ok (.iaload, 1) := by decide +kernel
theorem dX1_yearOf_6 : decode cX1_yearOf 6 = .ok (.ireturn, 1) := by decide +kernel
theorem dX1_canBeStruck_0 : decode cX1_canBeStruck 0 = .ok (.aload_n 0, 1) := by decide +kernel
theorem dX1_canBeStruck_1 : decode cX1_canBeStruck 1 = .ok (.getfield 9, 3) := by decide +kernel
theorem dX1_canBeStruck_4 : decode cX1_canBeStruck 4 = .ok (.iload_n 1, 1) := by decide +kernel
theorem dX1_canBeStruck_5 : decode cX1_canBeStruck 5 = .ok (.iaload, 1) := by decide +kernel
theorem dX1_canBeStruck_6 : decode cX1_canBeStruck 6 = .ok (.iconst 1, 1) := by decide +kernel
theorem dX1_canBeStruck_7 : decode cX1_canBeStruck 7 = .ok (.if_icmp .ne 16, 3) := by decide +kernel
theorem dX1_canBeStruck_10 : decode cX1_canBeStruck 10 = .ok (.aload_n 0, 1) := by decide +kernel
theorem dX1_canBeStruck_11 : decode cX1_canBeStruck 11 = .ok (.getfield 33, 3) := by decide +kernel
theorem dX1_canBeStruck_14 : decode cX1_canBeStruck 14 = .ok (.iload_n 1, 1) := by decide +kernel
theorem dX1_canBeStruck_15 : decode cX1_canBeStruck 15 = .ok (.baload, 1) := by decide +kernel
theorem dX1_canBeStruck_16 : decode cX1_canBeStruck 16 = .ok (.ifCond .ne 7, 3) := by decide +kernel
theorem dX1_canBeStruck_19 : decode cX1_canBeStruck 19 = .ok (.iconst 1, 1) := by decide +kernel
theorem dX1_canBeStruck_20 : decode cX1_canBeStruck 20 = .ok (.goto 4, 3) := by decide +kernel
theorem dX1_canBeStruck_23 : decode cX1_canBeStruck 23 = .ok (.iconst 0, 1) := by decide +kernel
theorem dX1_canBeStruck_24 : decode cX1_canBeStruck 24 = .ok (.ireturn, 1) := by decide +kernel
theorem dX1_markStruck_0 : decode cX1_markStruck 0 = .ok (.aload_n 0, 1) := by decide +kernel
theorem dX1_markStruck_1 : decode cX1_markStruck 1 = .ok (.getfield 33, 3) := by decide +kernel
theorem dX1_markStruck_4 : decode cX1_markStruck 4 = .ok (.iload_n 1, 1) := by decide +kernel
theorem dX1_markStruck_5 : decode cX1_markStruck 5 = .ok (.iconst 1, 1) := by decide +kernel
theorem dX1_markStruck_6 : decode cX1_markStruck 6 = .ok (.bastore, 1) := by decide +kernel
theorem dX1_markStruck_7 : decode cX1_markStruck 7 = .ok (.return_, 1) := by decide +kernel
theorem dX1_workYear_0 : decode cX1_workYear 0 = .ok (.iconst 0, 1) := by decide +kernel
theorem dX1_workYear_1 : decode cX1_workYear 1 = .ok (.istore_n 3, 1) := by decide +kernel
theorem dX1_workYear_2 : decode cX1_workYear 2 = .ok (.iload_n 3, 1) := by decide +kernel
theorem dX1_workYear_3 : decode cX1_workYear 3 = .ok (.aload_n 0, 1) := by decide +kernel
theorem dX1_workYear_4 : decode cX1_workYear 4 = .ok (.getfield 40, 3) := by decide +kernel
theorem dX1_workYear_7 : decode cX1_workYear 7 = .ok (.if_icmp .ge 25, 3) := by decide +kernel
theorem dX1_workYear_10 : decode cX1_workYear 10 = .ok (.aload_n 0, 1) := by decide +kernel
theorem dX1_workYear_11 : decode cX1_workYear 11 = .ok (.getfield 15, 3) := by decide +kernel
theorem dX1_workYear_14 : decode cX1_workYear 14 = .ok (.iload_n 3, 1) := by decide +kernel
theorem dX1_workYear_15 : decode cX1_workYear 15 = .ok (.iaload, 1) := by decide +kernel
theorem dX1_workYear_16 : decode cX1_workYear 16 = .ok (.iload_n 1, 1) := by decide +kernel
theorem dX1_workYear_17 : decode cX1_workYear 17 = .ok (.if_icmp .ne 9, 3) := by decide +kernel
theorem dX1_workYear_20 : decode cX1_workYear 20 = .ok (.aload_n 0, 1) := by decide +kernel
theorem dX1_workYear_21 : decode cX1_workYear 21 = .ok (.iload_n 3, 1) := by decide +kernel
theorem dX1_workYear_22 : decode cX1_workYear 22 = .ok (.aload_n 2, 1) := by decide +kernel
theorem dX1_workYear_23 : decode cX1_workYear 23 = .ok (.invokevirtual 48, 3) := by decide +kernel
theorem dX1_workYear_26 : decode cX1_workYear 26 = .ok (.iinc 3 1, 3) := by decide +kernel
theorem dX1_workYear_29 : decode cX1_workYear 29 = .ok (.goto (-27), 3) := by decide +kernel
theorem dX1_workYear_32 : decode cX1_workYear 32 = .ok (.return_, 1) := by decide +kernel
theorem dX1_work_0 : decode cX1_work 0 = .ok (.aload_n 0, 1) := by decide +kernel
theorem dX1_work_1 : decode cX1_work 1 = .ok (.getfield 9, 3) := by decide +kernel
theorem dX1_work_4 : decode cX1_work 4 = .ok (.iload_n 1, 1) := by decide +kernel
theorem dX1_work_5 : decode cX1_work 5 = .ok (.iaload, 1) := by decide +kernel
theorem dX1_work_6 : decode cX1_work 6 = .ok (.lookupswitch 56 #[(0, 26), (1, 41)], 26) := by decide +kernel
theorem dX1_work_32 : decode cX1_work 32 = .ok (.aload_n 0, 1) := by decide +kernel
theorem dX1_work_33 : decode cX1_work 33 = .ok (.getfield 37, 3) := by decide +kernel
theorem dX1_work_36 : decode cX1_work 36 = .ok (.iload_n 1, 1) := by decide +kernel
theorem dX1_work_37 : decode cX1_work 37 = .ok (.aload_n 0, 1) := by decide +kernel
theorem dX1_work_38 : decode cX1_work 38 = .ok (.iload_n 1, 1) := by decide +kernel
theorem dX1_work_39 : decode cX1_work 39 = .ok (.aload_n 2, 1) := by decide +kernel
theorem dX1_work_40 : decode cX1_work 40 = .ok (.invokevirtual 52, 3) := by decide +kernel
theorem dX1_work_43 : decode cX1_work 43 = .ok (.bastore, 1) := by decide +kernel
theorem dX1_work_44 : decode cX1_work 44 = .ok (.goto 30, 3) := by decide +kernel
theorem dX1_work_47 : decode cX1_work 47 = .ok (.aload_n 0, 1) := by decide +kernel
theorem dX1_work_48 : decode cX1_work 48 = .ok (.getfield 37, 3) := by decide +kernel
theorem dX1_work_51 : decode cX1_work 51 = .ok (.iload_n 1, 1) := by decide +kernel
theorem dX1_work_52 : decode cX1_work 52 = .ok (.aload_n 0, 1) := by decide +kernel
theorem dX1_work_53 : decode cX1_work 53 = .ok (.iload_n 1, 1) := by decide +kernel
theorem dX1_work_54 : decode cX1_work 54 = .ok (.aload_n 2, 1) := by decide +kernel
theorem dX1_work_55 : decode cX1_work 55 = .ok (.invokevirtual 56, 3) := by decide +kernel
theorem dX1_work_58 : decode cX1_work 58 = .ok (.bastore, 1) := by decide +kernel
theorem dX1_work_59 : decode cX1_work 59 = .ok (.goto 15, 3) := by decide +kernel
theorem dX1_work_62 : decode cX1_work 62 = .ok (.aload_n 0, 1) := by decide +kernel
theorem dX1_work_63 : decode cX1_work 63 = .ok (.getfield 37, 3) := by decide +kernel
theorem dX1_work_66 : decode cX1_work 66 = .ok (.iload_n 1, 1) := by decide +kernel
theorem dX1_work_67 : decode cX1_work 67 = .ok (.aload_n 0, 1) := by decide +kernel
theorem dX1_work_68 : decode cX1_work 68 = .ok (.iload_n 1, 1) := by decide +kernel
theorem dX1_work_69 : decode cX1_work 69 = .ok (.aload_n 2, 1) := by decide +kernel
theorem dX1_work_70 : decode cX1_work 70 = .ok (.invokevirtual 59, 3) := by decide +kernel
theorem dX1_work_73 : decode cX1_work 73 = .ok (.bastore, 1) := by decide +kernel
theorem dX1_work_74 : decode cX1_work 74 = .ok (.return_, 1) := by decide +kernel
theorem dX1_workLease_0 : decode cX1_workLease 0 = .ok (.aload_n 2, 1) := by decide +kernel
theorem dX1_workLease_1 : decode cX1_workLease 1 = .ok (.aload_n 0, 1) := by decide +kernel
theorem dX1_workLease_2 : decode cX1_workLease 2 = .ok (.getfield 15, 3) := by decide +kernel
theorem dX1_workLease_5 : decode cX1_workLease 5 = .ok (.iload_n 1, 1) := by decide +kernel
theorem dX1_workLease_6 : decode cX1_workLease 6 = .ok (.iaload, 1) := by decide +kernel
theorem dX1_workLease_7 : decode cX1_workLease 7 = .ok (.aload_n 0, 1) := by decide +kernel
theorem dX1_workLease_8 : decode cX1_workLease 8 = .ok (.getfield 18, 3) := by decide +kernel
theorem dX1_workLease_11 : decode cX1_workLease 11 = .ok (.iload_n 1, 1) := by decide +kernel
theorem dX1_workLease_12 : decode cX1_workLease 12 = .ok (.iaload, 1) := by decide +kernel
theorem dX1_workLease_13 : decode cX1_workLease 13 = .ok (.aload_n 0, 1) := by decide +kernel
theorem dX1_workLease_14 : decode cX1_workLease 14 = .ok (.getfield 21, 3) := by decide +kernel
theorem dX1_workLease_17 : decode cX1_workLease 17 = .ok (.iload_n 1, 1) := by decide +kernel
theorem dX1_workLease_18 : decode cX1_workLease 18 = .ok (.iaload, 1) := by decide +kernel
theorem dX1_workLease_19 : decode cX1_workLease 19 = .ok (.aload_n 0, 1) := by decide +kernel
theorem dX1_workLease_20 : decode cX1_workLease 20 = .ok (.getfield 30, 3) := by decide +kernel
theorem dX1_workLease_23 : decode cX1_workLease 23 = .ok (.iload_n 1, 1) := by decide +kernel
theorem dX1_workLease_24 : decode cX1_workLease 24 = .ok (.iaload, 1) := by decide +kernel
theorem dX1_workLease_25 : decode cX1_workLease 25 = .ok (.invokevirtual 62, 3) := by decide +kernel
theorem dX1_workLease_28 : decode cX1_workLease 28 = .ok (.ifCond .ne 5, 3) := by decide +kernel
theorem dX1_workLease_31 : decode cX1_workLease 31 = .ok (.iconst 0, 1) := by decide +kernel
theorem dX1_workLease_32 : decode cX1_workLease 32 = .ok (.ireturn, 1) := by decide +kernel
theorem dX1_workLease_33 : decode cX1_workLease 33 = .ok (.aload_n 2, 1) := by decide +kernel
theorem dX1_workLease_34 : decode cX1_workLease 34 = .ok (.aload_n 0, 1) := by decide +kernel
theorem dX1_workLease_35 : decode cX1_workLease 35 = .ok (.getfield 15, 3) := by decide +kernel
theorem dX1_workLease_38 : decode cX1_workLease 38 = .ok (.iload_n 1, 1) := by decide +kernel
theorem dX1_workLease_39 : decode cX1_workLease 39 = .ok (.iaload, 1) := by decide +kernel
theorem dX1_workLease_40 : decode cX1_workLease 40 = .ok (.aload_n 0, 1) := by decide +kernel
theorem dX1_workLease_41 : decode cX1_workLease 41 = .ok (.getfield 21, 3) := by decide +kernel
theorem dX1_workLease_44 : decode cX1_workLease 44 = .ok (.iload_n 1, 1) := by decide +kernel
theorem dX1_workLease_45 : decode cX1_workLease 45 = .ok (.iaload, 1) := by decide +kernel
theorem dX1_workLease_46 : decode cX1_workLease 46 = .ok (.aload_n 0, 1) := by decide +kernel
theorem dX1_workLease_47 : decode cX1_workLease 47 = .ok (.getfield 18, 3) := by decide +kernel
theorem dX1_workLease_50 : decode cX1_workLease 50 = .ok (.iload_n 1, 1) := by decide +kernel
theorem dX1_workLease_51 : decode cX1_workLease 51 = .ok (.iaload, 1) := by decide +kernel
theorem dX1_workLease_52 : decode cX1_workLease 52 = .ok (.aload_n 0, 1) := by decide +kernel
theorem dX1_workLease_53 : decode cX1_workLease 53 = .ok (.getfield 24, 3) := by decide +kernel
theorem dX1_workLease_56 : decode cX1_workLease 56 = .ok (.iload_n 1, 1) := by decide +kernel
theorem dX1_workLease_57 : decode cX1_workLease 57 = .ok (.iaload, 1) := by decide +kernel
theorem dX1_workLease_58 : decode cX1_workLease 58 = .ok (.aload_n 0, 1) := by decide +kernel
theorem dX1_workLease_59 : decode cX1_workLease 59 = .ok (.getfield 30, 3) := by decide +kernel
theorem dX1_workLease_62 : decode cX1_workLease 62 = .ok (.iload_n 1, 1) := by decide +kernel
theorem dX1_workLease_63 : decode cX1_workLease 63 = .ok (.iaload, 1) := by decide +kernel
theorem dX1_workLease_64 : decode cX1_workLease 64 = .ok (.invokevirtual 68, 3) := by decide +kernel
theorem dX1_workLease_67 : decode cX1_workLease 67 = .ok (.iconst 1, 1) := by decide +kernel
theorem dX1_workLease_68 : decode cX1_workLease 68 = .ok (.ireturn, 1) := by decide +kernel
theorem dX1_workLanding_0 : decode cX1_workLanding 0 = .ok (.aload_n 0, 1) := by decide +kernel
theorem dX1_workLanding_1 : decode cX1_workLanding 1 = .ok (.getfield 33, 3) := by decide +kernel
theorem dX1_workLanding_4 : decode cX1_workLanding 4 = .ok (.iload_n 1, 1) := by decide +kernel
theorem dX1_workLanding_5 : decode cX1_workLanding 5 = .ok (.baload, 1) := by decide +kernel
theorem dX1_workLanding_6 : decode cX1_workLanding 6 = .ok (.ifCond .eq 5, 3) := by decide +kernel
theorem dX1_workLanding_9 : decode cX1_workLanding 9 = .ok (.iconst 0, 1) := by decide +kernel
theorem dX1_workLanding_10 : decode cX1_workLanding 10 = .ok (.ireturn, 1) := by decide +kernel
theorem dX1_workLanding_11 : decode cX1_workLanding 11 = .ok (.aload_n 2, 1) := by decide +kernel
theorem dX1_workLanding_12 : decode cX1_workLanding 12 = .ok (.aload_n 0, 1) := by decide +kernel
theorem dX1_workLanding_13 : decode cX1_workLanding 13 = .ok (.getfield 15, 3) := by decide +kernel
theorem dX1_workLanding_16 : decode cX1_workLanding 16 = .ok (.iload_n 1, 1) := by decide +kernel
theorem dX1_workLanding_17 : decode cX1_workLanding 17 = .ok (.iaload, 1) := by decide +kernel
theorem dX1_workLanding_18 : decode cX1_workLanding 18 = .ok (.aload_n 0, 1) := by decide +kernel
theorem dX1_workLanding_19 : decode cX1_workLanding 19 = .ok (.getfield 18, 3) := by decide +kernel
theorem dX1_workLanding_22 : decode cX1_workLanding 22 = .ok (.iload_n 1, 1) := by decide +kernel
theorem dX1_workLanding_23 : decode cX1_workLanding 23 = .ok (.iaload, 1) := by decide +kernel
theorem dX1_workLanding_24 : decode cX1_workLanding 24 = .ok (.aload_n 0, 1) := by decide +kernel
theorem dX1_workLanding_25 : decode cX1_workLanding 25 = .ok (.getfield 21, 3) := by decide +kernel
theorem dX1_workLanding_28 : decode cX1_workLanding 28 = .ok (.iload_n 1, 1) := by decide +kernel
theorem dX1_workLanding_29 : decode cX1_workLanding 29 = .ok (.iaload, 1) := by decide +kernel
theorem dX1_workLanding_30 : decode cX1_workLanding 30 = .ok (.aload_n 0, 1) := by decide +kernel
theorem dX1_workLanding_31 : decode cX1_workLanding 31 = .ok (.getfield 30, 3) := by decide +kernel
theorem dX1_workLanding_34 : decode cX1_workLanding 34 = .ok (.iload_n 1, 1) := by decide +kernel
theorem dX1_workLanding_35 : decode cX1_workLanding 35 = .ok (.iaload, 1) := by decide +kernel
theorem dX1_workLanding_36 : decode cX1_workLanding 36 = .ok (.invokevirtual 72, 3) := by decide +kernel
theorem dX1_workLanding_39 : decode cX1_workLanding 39 = .ok (.iconst 1, 1) := by decide +kernel
theorem dX1_workLanding_40 : decode cX1_workLanding 40 = .ok (.ireturn, 1) := by decide +kernel
theorem dX1_workEquivalent_0 : decode cX1_workEquivalent 0 = .ok (.aload_n 2, 1) := by decide +kernel
theorem dX1_workEquivalent_1 : decode cX1_workEquivalent 1 = .ok (.aload_n 0, 1) := by decide +kernel
theorem dX1_workEquivalent_2 : decode cX1_workEquivalent 2 = .ok (.getfield 15, 3) := by decide +kernel
theorem dX1_workEquivalent_5 : decode cX1_workEquivalent 5 = .ok (.iload_n 1, 1) := by decide +kernel
theorem dX1_workEquivalent_6 : decode cX1_workEquivalent 6 = .ok (.iaload, 1) := by decide +kernel
theorem dX1_workEquivalent_7 : decode cX1_workEquivalent 7 = .ok (.aload_n 0, 1) := by decide +kernel
theorem dX1_workEquivalent_8 : decode cX1_workEquivalent 8 = .ok (.getfield 18, 3) := by decide +kernel
theorem dX1_workEquivalent_11 : decode cX1_workEquivalent 11 = .ok (.iload_n 1, 1) := by decide +kernel
theorem dX1_workEquivalent_12 : decode cX1_workEquivalent 12 = .ok (.iaload, 1) := by decide +kernel
theorem dX1_workEquivalent_13 : decode cX1_workEquivalent 13 = .ok (.aload_n 0, 1) := by decide +kernel
theorem dX1_workEquivalent_14 : decode cX1_workEquivalent 14 = .ok (.getfield 21, 3) := by decide +kernel
theorem dX1_workEquivalent_17 : decode cX1_workEquivalent 17 = .ok (.iload_n 1, 1) := by decide +kernel
theorem dX1_workEquivalent_18 : decode cX1_workEquivalent 18 = .ok (.iaload, 1) := by decide +kernel
theorem dX1_workEquivalent_19 : decode cX1_workEquivalent 19 = .ok (.aload_n 0, 1) := by decide +kernel
theorem dX1_workEquivalent_20 : decode cX1_workEquivalent 20 = .ok (.getfield 24, 3) := by decide +kernel
theorem dX1_workEquivalent_23 : decode cX1_workEquivalent 23 = .ok (.iload_n 1, 1) := by decide +kernel
theorem dX1_workEquivalent_24 : decode cX1_workEquivalent 24 = .ok (.iaload, 1) := by decide +kernel
theorem dX1_workEquivalent_25 : decode cX1_workEquivalent 25 = .ok (.aload_n 0, 1) := by decide +kernel
theorem dX1_workEquivalent_26 : decode cX1_workEquivalent 26 = .ok (.getfield 27, 3) := by decide +kernel
theorem dX1_workEquivalent_29 : decode cX1_workEquivalent 29 = .ok (.iload_n 1, 1) := by decide +kernel
theorem dX1_workEquivalent_30 : decode cX1_workEquivalent 30 = .ok (.iaload, 1) := by decide +kernel
theorem dX1_workEquivalent_31 : decode cX1_workEquivalent 31 = .ok (.aload_n 0, 1) := by decide +kernel
theorem dX1_workEquivalent_32 : decode cX1_workEquivalent 32 = .ok (.getfield 30, 3) := by decide +kernel
theorem dX1_workEquivalent_35 : decode cX1_workEquivalent 35 = .ok (.iload_n 1, 1) := by decide +kernel
theorem dX1_workEquivalent_36 : decode cX1_workEquivalent 36 = .ok (.iaload, 1) := by decide +kernel
theorem dX1_workEquivalent_37 : decode cX1_workEquivalent 37 = .ok (.invokevirtual 76, 3) := by decide +kernel
theorem dX1_workEquivalent_40 : decode cX1_workEquivalent 40 = .ok (.ifCond .ne 5, 3) := by decide +kernel
theorem dX1_workEquivalent_43 : decode cX1_workEquivalent 43 = .ok (.iconst 0, 1) := by decide +kernel
theorem dX1_workEquivalent_44 : decode cX1_workEquivalent 44 = .ok (.ireturn, 1) := by decide +kernel
theorem dX1_workEquivalent_45 : decode cX1_workEquivalent 45 = .ok (.aload_n 2, 1) := by decide +kernel
theorem dX1_workEquivalent_46 : decode cX1_workEquivalent 46 = .ok (.aload_n 0, 1) := by decide +kernel
theorem dX1_workEquivalent_47 : decode cX1_workEquivalent 47 = .ok (.getfield 15, 3) := by decide +kernel
theorem dX1_workEquivalent_50 : decode cX1_workEquivalent 50 = .ok (.iload_n 1, 1) := by decide +kernel
theorem dX1_workEquivalent_51 : decode cX1_workEquivalent 51 = .ok (.iaload, 1) := by decide +kernel
theorem dX1_workEquivalent_52 : decode cX1_workEquivalent 52 = .ok (.aload_n 0, 1) := by decide +kernel
theorem dX1_workEquivalent_53 : decode cX1_workEquivalent 53 = .ok (.getfield 18, 3) := by decide +kernel
theorem dX1_workEquivalent_56 : decode cX1_workEquivalent 56 = .ok (.iload_n 1, 1) := by decide +kernel
theorem dX1_workEquivalent_57 : decode cX1_workEquivalent 57 = .ok (.iaload, 1) := by decide +kernel
theorem dX1_workEquivalent_58 : decode cX1_workEquivalent 58 = .ok (.aload_n 0, 1) := by decide +kernel
theorem dX1_workEquivalent_59 : decode cX1_workEquivalent 59 = .ok (.getfield 21, 3) := by decide +kernel
theorem dX1_workEquivalent_62 : decode cX1_workEquivalent 62 = .ok (.iload_n 1, 1) := by decide +kernel
theorem dX1_workEquivalent_63 : decode cX1_workEquivalent 63 = .ok (.iaload, 1) := by decide +kernel
theorem dX1_workEquivalent_64 : decode cX1_workEquivalent 64 = .ok (.aload_n 0, 1) := by decide +kernel
theorem dX1_workEquivalent_65 : decode cX1_workEquivalent 65 = .ok (.getfield 24, 3) := by decide +kernel
theorem dX1_workEquivalent_68 : decode cX1_workEquivalent 68 = .ok (.iload_n 1, 1) := by decide +kernel
theorem dX1_workEquivalent_69 : decode cX1_workEquivalent 69 = .ok (.iaload, 1) := by decide +kernel
theorem dX1_workEquivalent_70 : decode cX1_workEquivalent 70 = .ok (.aload_n 0, 1) := by decide +kernel
theorem dX1_workEquivalent_71 : decode cX1_workEquivalent 71 = .ok (.getfield 27, 3) := by decide +kernel
theorem dX1_workEquivalent_74 : decode cX1_workEquivalent 74 = .ok (.iload_n 1, 1) := by decide +kernel
theorem dX1_workEquivalent_75 : decode cX1_workEquivalent 75 = .ok (.iaload, 1) := by decide +kernel
theorem dX1_workEquivalent_76 : decode cX1_workEquivalent 76 = .ok (.aload_n 0, 1) := by decide +kernel
theorem dX1_workEquivalent_77 : decode cX1_workEquivalent 77 = .ok (.getfield 30, 3) := by decide +kernel
theorem dX1_workEquivalent_80 : decode cX1_workEquivalent 80 = .ok (.iload_n 1, 1) := by decide +kernel
theorem dX1_workEquivalent_81 : decode cX1_workEquivalent 81 = .ok (.iaload, 1) := by decide +kernel
theorem dX1_workEquivalent_82 : decode cX1_workEquivalent 82 = .ok (.invokevirtual 80, 3) := by decide +kernel
theorem dX1_workEquivalent_85 : decode cX1_workEquivalent 85 = .ok (.iconst 1, 1) := by decide +kernel
theorem dX1_workEquivalent_86 : decode cX1_workEquivalent 86 = .ok (.ireturn, 1) := by decide +kernel
theorem dX1_countCounting_0 : decode cX1_countCounting 0 = .ok (.iconst 0, 1) := by decide +kernel
theorem dX1_countCounting_1 : decode cX1_countCounting 1 = .ok (.istore_n 1, 1) := by decide +kernel
theorem dX1_countCounting_2 : decode cX1_countCounting 2 = .ok (.iconst 0, 1) := by decide +kernel
theorem dX1_countCounting_3 : decode cX1_countCounting 3 = .ok (.istore_n 2, 1) := by decide +kernel
theorem dX1_countCounting_4 : decode cX1_countCounting 4 = .ok (.iload_n 2, 1) := by decide +kernel
theorem dX1_countCounting_5 : decode cX1_countCounting 5 = .ok (.aload_n 0, 1) := by decide +kernel
theorem dX1_countCounting_6 : decode cX1_countCounting 6 = .ok (.getfield 40, 3) := by decide +kernel
theorem dX1_countCounting_9 : decode cX1_countCounting 9 = .ok (.if_icmp .ge 21, 3) := by decide +kernel
theorem dX1_countCounting_12 : decode cX1_countCounting 12 = .ok (.aload_n 0, 1) := by decide +kernel
theorem dX1_countCounting_13 : decode cX1_countCounting 13 = .ok (.getfield 37, 3) := by decide +kernel
theorem dX1_countCounting_16 : decode cX1_countCounting 16 = .ok (.iload_n 2, 1) := by decide +kernel
theorem dX1_countCounting_17 : decode cX1_countCounting 17 = .ok (.baload, 1) := by decide +kernel
theorem dX1_countCounting_18 : decode cX1_countCounting 18 = .ok (.ifCond .eq 6, 3) := by decide +kernel
theorem dX1_countCounting_21 : decode cX1_countCounting 21 = .ok (.iinc 1 1, 3) := by decide +kernel
theorem dX1_countCounting_24 : decode cX1_countCounting 24 = .ok (.iinc 2 1, 3) := by decide +kernel
theorem dX1_countCounting_27 : decode cX1_countCounting 27 = .ok (.goto (-23), 3) := by decide +kernel
theorem dX1_countCounting_30 : decode cX1_countCounting 30 = .ok (.iload_n 1, 1) := by decide +kernel
theorem dX1_countCounting_31 : decode cX1_countCounting 31 = .ok (.ireturn, 1) := by decide +kernel
theorem dX1_figure_0 : decode cX1_figure 0 = .ok (.iload_n 2, 1) := by decide +kernel
theorem dX1_figure_1 : decode cX1_figure 1 = .ok (.tableswitch 56 0 2 #[27, 34, 41], 27) := by decide +kernel
theorem dX1_figure_28 : decode cX1_figure 28 = .ok (.aload_n 0, 1) := by decide +kernel
theorem dX1_figure_29 : decode cX1_figure 29 = .ok (.getfield 9, 3) := by decide +kernel
theorem dX1_figure_32 : decode cX1_figure 32 = .ok (.iload_n 1, 1) := by decide +kernel
theorem dX1_figure_33 : decode cX1_figure 33 = .ok (.iaload, 1) := by decide +kernel
theorem dX1_figure_34 : decode cX1_figure 34 = .ok (.ireturn, 1) := by decide +kernel
theorem dX1_figure_35 : decode cX1_figure 35 = .ok (.aload_n 0, 1) := by decide +kernel
theorem dX1_figure_36 : decode cX1_figure 36 = .ok (.getfield 15, 3) := by decide +kernel
theorem dX1_figure_39 : decode cX1_figure 39 = .ok (.iload_n 1, 1) := by decide +kernel
theorem dX1_figure_40 : decode cX1_figure 40 = .ok (.iaload, 1) := by decide +kernel
theorem dX1_figure_41 : decode cX1_figure 41 = .ok (.ireturn, 1) := by decide +kernel
theorem dX1_figure_42 : decode cX1_figure 42 = .ok (.aload_n 0, 1) := by decide +kernel
theorem dX1_figure_43 : decode cX1_figure 43 = .ok (.getfield 37, 3) := by decide +kernel
theorem dX1_figure_46 : decode cX1_figure 46 = .ok (.iload_n 1, 1) := by decide +kernel
theorem dX1_figure_47 : decode cX1_figure 47 = .ok (.baload, 1) := by decide +kernel
theorem dX1_figure_48 : decode cX1_figure 48 = .ok (.ifCond .eq 7, 3) := by decide +kernel
theorem dX1_figure_51 : decode cX1_figure 51 = .ok (.iconst 1, 1) := by decide +kernel
theorem dX1_figure_52 : decode cX1_figure 52 = .ok (.goto 4, 3) := by decide +kernel
theorem dX1_figure_55 : decode cX1_figure 55 = .ok (.iconst 0, 1) := by decide +kernel
theorem dX1_figure_56 : decode cX1_figure 56 = .ok (.ireturn, 1) := by decide +kernel
theorem dX1_figure_57 : decode cX1_figure 57 = .ok (.aload_n 0, 1) := by decide +kernel
theorem dX1_figure_58 : decode cX1_figure 58 = .ok (.getfield 30, 3) := by decide +kernel
theorem dX1_figure_61 : decode cX1_figure 61 = .ok (.iload_n 1, 1) := by decide +kernel
theorem dX1_figure_62 : decode cX1_figure 62 = .ok (.iaload, 1) := by decide +kernel
theorem dX1_figure_63 : decode cX1_figure 63 = .ok (.ireturn, 1) := by decide +kernel
theorem dX2_init_0 : decode cX2_init 0 = .ok (.aload_n 0, 1) := by decide +kernel
theorem dX2_init_1 : decode cX2_init 1 = .ok (.invokespecial 3, 3) := by decide +kernel
theorem dX2_init_4 : decode cX2_init 4 = .ok (.aload_n 0, 1) := by decide +kernel
theorem dX2_init_5 : decode cX2_init 5 = .ok (.iconst 4, 1) := by decide +kernel
theorem dX2_init_6 : decode cX2_init 6 = .ok (.newarray .int, 2) := by decide +kernel
theorem dX2_init_8 : decode cX2_init 8 = .ok (.putfield 9, 3) := by decide +kernel
theorem dX2_init_11 : decode cX2_init 11 = .ok (.aload_n 0, 1) := by decide +kernel
theorem dX2_init_12 : decode cX2_init 12 = .ok (.bipush 6, 2) := by decide +kernel
theorem dX2_init_14 : decode cX2_init 14 = .ok (.newarray .int, 2) := by decide +kernel
theorem dX2_init_16 : decode cX2_init 16 = .ok (.putfield 15, 3) := by decide +kernel
theorem dX2_init_19 : decode cX2_init 19 = .ok (.aload_n 0, 1) := by decide +kernel
theorem dX2_init_20 : decode cX2_init 20 = .ok (.bipush 6, 2) := by decide +kernel
theorem dX2_init_22 : decode cX2_init 22 = .ok (.newarray .int, 2) := by decide +kernel
theorem dX2_init_24 : decode cX2_init 24 = .ok (.putfield 18, 3) := by decide +kernel
theorem dX2_init_27 : decode cX2_init 27 = .ok (.aload_n 0, 1) := by decide +kernel
theorem dX2_init_28 : decode cX2_init 28 = .ok (.bipush 24, 2) := by decide +kernel
theorem dX2_init_30 : decode cX2_init 30 = .ok (.newarray .int, 2) := by decide +kernel
theorem dX2_init_32 : decode cX2_init 32 = .ok (.putfield 21, 3) := by decide +kernel
theorem dX2_init_35 : decode cX2_init 35 = .ok (.aload_n 0, 1) := by decide +kernel
theorem dX2_init_36 : decode cX2_init 36 = .ok (.bipush 24, 2) := by decide +kernel
theorem dX2_init_38 : decode cX2_init 38 = .ok (.newarray .int, 2) := by decide +kernel
theorem dX2_init_40 : decode cX2_init 40 = .ok (.putfield 24, 3) := by decide +kernel
theorem dX2_init_43 : decode cX2_init 43 = .ok (.aload_n 0, 1) := by decide +kernel
theorem dX2_init_44 : decode cX2_init 44 = .ok (.getfield 9, 3) := by decide +kernel
theorem dX2_init_47 : decode cX2_init 47 = .ok (.ldc 27, 2) := by decide +kernel
theorem dX2_init_49 : decode cX2_init 49 = .ok (.invokestatic 28, 3) := by decide +kernel
theorem dX2_init_52 : decode cX2_init 52 = .ok (.iconst 0, 1) := by decide +kernel
theorem dX2_init_53 : decode cX2_init 53 = .ok (.istore_n 1, 1) := by decide +kernel
theorem dX2_init_54 : decode cX2_init 54 = .ok (.iload_n 1, 1) := by decide +kernel
theorem dX2_init_55 : decode cX2_init 55 = .ok (.bipush 6, 2) := by decide +kernel
theorem dX2_init_57 : decode cX2_init 57 = .ok (.if_icmp .ge 16, 3) := by decide +kernel
theorem dX2_init_60 : decode cX2_init 60 = .ok (.aload_n 0, 1) := by decide +kernel
theorem dX2_init_61 : decode cX2_init 61 = .ok (.getfield 18, 3) := by decide +kernel
theorem dX2_init_64 : decode cX2_init 64 = .ok (.iload_n 1, 1) := by decide +kernel
theorem dX2_init_65 : decode cX2_init 65 = .ok (.iload_n 1, 1) := by decide +kernel
theorem dX2_init_66 : decode cX2_init 66 = .ok (.iastore, 1) := by decide +kernel
theorem dX2_init_67 : decode cX2_init 67 = .ok (.iinc 1 1, 3) := by decide +kernel
theorem dX2_init_70 : decode cX2_init 70 = .ok (.goto (-16), 3) := by decide +kernel
theorem dX2_init_73 : decode cX2_init 73 = .ok (.return_, 1) := by decide +kernel
theorem dX2_setCap_0 : decode cX2_setCap 0 = .ok (.aload_n 0, 1) := by decide +kernel
theorem dX2_setCap_1 : decode cX2_setCap 1 = .ok (.getfield 9, 3) := by decide +kernel
theorem dX2_setCap_4 : decode cX2_setCap 4 = .ok (.iload_n 1, 1) := by decide +kernel
theorem dX2_setCap_5 : decode cX2_setCap 5 = .ok (.iload_n 2, 1) := by decide +kernel
theorem dX2_setCap_6 : decode cX2_setCap 6 = .ok (.iastore, 1) := by decide +kernel
theorem dX2_setCap_7 : decode cX2_setCap 7 = .ok (.return_, 1) := by decide +kernel
theorem dX2_setOwner_0 : decode cX2_setOwner 0 = .ok (.aload_n 0, 1) := by decide +kernel
theorem dX2_setOwner_1 : decode cX2_setOwner 1 = .ok (.getfield 18, 3) := by decide +kernel
theorem dX2_setOwner_4 : decode cX2_setOwner 4 = .ok (.iload_n 1, 1) := by decide +kernel
theorem dX2_setOwner_5 : decode cX2_setOwner 5 = .ok (.iload_n 2, 1) := by decide +kernel
theorem dX2_setOwner_6 : decode cX2_setOwner 6 = .ok (.iastore, 1) := by decide +kernel
theorem dX2_setOwner_7 : decode cX2_setOwner 7 = .ok (.return_, 1) := by decide +kernel
theorem dX2_ownerOf_0 : decode cX2_ownerOf 0 = .ok (.aload_n 0, 1) := by decide +kernel
theorem dX2_ownerOf_1 : decode cX2_ownerOf 1 = .ok (.getfield 18, 3) := by decide +kernel
theorem dX2_ownerOf_4 : decode cX2_ownerOf 4 = .ok (.iload_n 1, 1) := by decide +kernel
theorem dX2_ownerOf_5 : decode cX2_ownerOf 5 = .ok (.iaload, 1) := by decide +kernel
theorem dX2_ownerOf_6 : decode cX2_ownerOf 6 = .ok (.ireturn, 1) := by decide +kernel
theorem dX2_join_0 : decode cX2_join 0 = .ok (.aload_n 0, 1) := by decide +kernel
theorem dX2_join_1 : decode cX2_join 1 = .ok (.getfield 15, 3) := by decide +kernel
theorem dX2_join_4 : decode cX2_join 4 = .ok (.iload_n 1, 1) := by decide +kernel
theorem dX2_join_5 : decode cX2_join 5 = .ok (.dup2, 1) := by decide +kernel
theorem dX2_join_6 : decode cX2_join 6 = .ok (.iaload, 1) := by decide +kernel
theorem dX2_join_7 : decode cX2_join 7 = .ok (.iconst 1, 1) := by decide +kernel
theorem dX2_join_8 : decode cX2_join 8 = .ok (.iload_n 2, 1) := by decide +kernel
theorem dX2_join_9 : decode cX2_join 9 = .ok (.ishl, 1) := by decide +kernel
theorem dX2_join_10 : decode cX2_join 10 = .ok (.ior, 1) := by decide +kernel
theorem dX2_join_11 : decode cX2_join 11 = .ok (.iastore, 1) := by decide +kernel
theorem dX2_join_12 : decode cX2_join 12 = .ok (.aload_n 0, 1) := by decide +kernel
theorem dX2_join_13 : decode cX2_join 13 = .ok (.getfield 15, 3) := by decide +kernel
theorem dX2_join_16 : decode cX2_join 16 = .ok (.iload_n 2, 1) := by decide +kernel
theorem dX2_join_17 : decode cX2_join 17 = .ok (.dup2, 1) := by decide +kernel
theorem dX2_join_18 : decode cX2_join 18 = .ok (.iaload, 1) := by decide +kernel
theorem dX2_join_19 : decode cX2_join 19 = .ok (.iconst 1, 1) := by decide +kernel
theorem dX2_join_20 : decode cX2_join 20 = .ok (.iload_n 1, 1) := by decide +kernel
theorem dX2_join_21 : decode cX2_join 21 = .ok (.ishl, 1) := by decide +kernel
theorem dX2_join_22 : decode cX2_join 22 = .ok (.ior, 1) := by decide +kernel
theorem dX2_join_23 : decode cX2_join 23 = .ok (.iastore, 1) := by decide +kernel
theorem dX2_join_24 : decode cX2_join 24 = .ok (.return_, 1) := by decide +kernel
theorem dX2_part_0 : decode cX2_part 0 = .ok (.aload_n 0, 1) := by decide +kernel
theorem dX2_part_1 : decode cX2_part 1 = .ok (.getfield 15, 3) := by decide +kernel
theorem dX2_part_4 : decode cX2_part 4 = .ok (.iload_n 1, 1) := by decide +kernel
theorem dX2_part_5 : decode cX2_part 5 = .ok (.dup2, 1) := by decide +kernel
theorem dX2_part_6 : decode cX2_part 6 = .ok (.iaload, 1) := by decide +kernel
theorem dX2_part_7 : decode cX2_part 7 = .ok (.iconst 1, 1) := by decide +kernel
theorem dX2_part_8 : decode cX2_part 8 = .ok (.iload_n 2, 1) := by decide +kernel
theorem dX2_part_9 : decode cX2_part 9 = .ok (.ishl, 1) := by decide +kernel
theorem dX2_part_10 : decode cX2_part 10 = .ok (.iconst (-1), 1) := by decide +kernel
theorem dX2_part_11 : decode cX2_part 11 = .ok (.ixor, 1) := by decide +kernel
theorem dX2_part_12 : decode cX2_part 12 = .ok (.iand, 1) := by decide +kernel
theorem dX2_part_13 : decode cX2_part 13 = .ok (.iastore, 1) := by decide +kernel
theorem dX2_part_14 : decode cX2_part 14 = .ok (.aload_n 0, 1) := by decide +kernel
theorem dX2_part_15 : decode cX2_part 15 = .ok (.getfield 15, 3) := by decide +kernel
theorem dX2_part_18 : decode cX2_part 18 = .ok (.iload_n 2, 1) := by decide +kernel
theorem dX2_part_19 : decode cX2_part 19 = .ok (.dup2, 1) := by decide +kernel
theorem dX2_part_20 : decode cX2_part 20 = .ok (.iaload, 1) := by decide +kernel
theorem dX2_part_21 : decode cX2_part 21 = .ok (.iconst 1, 1) := by decide +kernel
theorem dX2_part_22 : decode cX2_part 22 = .ok (.iload_n 1, 1) := by decide +kernel
theorem dX2_part_23 : decode cX2_part 23 = .ok (.ishl, 1) := by decide +kernel
theorem dX2_part_24 : decode cX2_part 24 = .ok (.iconst (-1), 1) := by decide +kernel
theorem dX2_part_25 : decode cX2_part 25 = .ok (.ixor, 1) := by decide +kernel
theorem dX2_part_26 : decode cX2_part 26 = .ok (.iand, 1) := by decide +kernel
theorem dX2_part_27 : decode cX2_part 27 = .ok (.iastore, 1) := by decide +kernel
theorem dX2_part_28 : decode cX2_part 28 = .ok (.return_, 1) := by decide +kernel
theorem dX2_areJoined_0 : decode cX2_areJoined 0 = .ok (.aload_n 0, 1) := by decide +kernel
theorem dX2_areJoined_1 : decode cX2_areJoined 1 = .ok (.getfield 15, 3) := by decide +kernel
theorem dX2_areJoined_4 : decode cX2_areJoined 4 = .ok (.iload_n 1, 1) := by decide +kernel
theorem dX2_areJoined_5 : decode cX2_areJoined 5 = .ok (.iaload, 1) := by decide +kernel
theorem dX2_areJoined_6 : decode cX2_areJoined 6 = .ok (.iconst 1, 1) := by decide +kernel
theorem dX2_areJoined_7 : decode cX2_areJoined 7 = .ok (.iload_n 2, 1) := by decide +kernel
theorem dX2_areJoined_8 : decode cX2_areJoined 8 = .ok (.ishl, 1) := by decide +kernel
theorem dX2_areJoined_9 : decode cX2_areJoined 9 = .ok (.iand, 1) := by decide +kernel
theorem dX2_areJoined_10 : decode cX2_areJoined 10 = .ok (.ifCond .eq 7, 3) := by decide +kernel
theorem dX2_areJoined_13 : decode cX2_areJoined 13 = .ok (.iconst 1, 1) := by decide +kernel
theorem dX2_areJoined_14 : decode cX2_areJoined 14 = .ok (.goto 4, 3) := by decide +kernel
theorem dX2_areJoined_17 : decode cX2_areJoined 17 = .ok (.iconst 0, 1) := by decide +kernel
theorem dX2_areJoined_18 : decode cX2_areJoined 18 = .ok (.ireturn, 1) := by decide +kernel
theorem dX2_inOneGroup_0 : decode cX2_inOneGroup 0 = .ok (.aload_n 0, 1) := by decide +kernel
theorem dX2_inOneGroup_1 : decode cX2_inOneGroup 1 = .ok (.iload_n 1, 1) := by decide +kernel
theorem dX2_inOneGroup_2 : decode cX2_inOneGroup 2 = .ok (.invokevirtual 34, 3) := by decide +kernel
theorem dX2_inOneGroup_5 : decode cX2_inOneGroup 5 = .ok (.iconst 1, 1) := by decide +kernel
theorem dX2_inOneGroup_6 : decode cX2_inOneGroup 6 = .ok (.iload_n 2, 1) := by decide +kernel
theorem dX2_inOneGroup_7 : decode cX2_inOneGroup 7 = .ok (.ishl, 1) := by decide +kernel
theorem dX2_inOneGroup_8 : decode cX2_inOneGroup 8 = .ok (.iand, 1) := by decide +kernel
theorem dX2_inOneGroup_9 : decode cX2_inOneGroup 9 = .ok (.ifCond .eq 7, 3) := by decide +kernel
theorem dX2_inOneGroup_12 : decode cX2_inOneGroup 12 = .ok (.iconst 1, 1) := by decide +kernel
theorem dX2_inOneGroup_13 : decode cX2_inOneGroup 13 = .ok (.goto 4, 3) := by decide +kernel
theorem dX2_inOneGroup_16 : decode cX2_inOneGroup 16 = .ok (.iconst 0, 1) := by decide +kernel
theorem dX2_inOneGroup_17 : decode cX2_inOneGroup 17 = .ok (.ireturn, 1) := by decide +kernel
theorem dX2_groupOf_0 : decode cX2_groupOf 0 = .ok (.iconst 1, 1) := by decide +kernel
theorem dX2_groupOf_1 : decode cX2_groupOf 1 = .ok (.iload_n 1, 1) := by decide +kernel
theorem dX2_groupOf_2 : decode cX2_groupOf 2 = .ok (.ishl, 1) := by decide +kernel
theorem dX2_groupOf_3 : decode cX2_groupOf 3 = .ok (.istore_n 2, 1) := by decide +kernel
theorem dX2_groupOf_4 : decode cX2_groupOf 4 = .ok (.iconst 1, 1) := by decide +kernel
theorem dX2_groupOf_5 : decode cX2_groupOf 5 = .ok (.istore_n 3, 1) := by decide +kernel
theorem dX2_groupOf_6 : decode cX2_groupOf 6 = .ok (.iload_n 3, 1) := by decide +kernel
theorem dX2_groupOf_7 : decode cX2_groupOf 7 = .ok (.bipush 6, 2) := by decide +kernel
theorem dX2_groupOf_9 : decode cX2_groupOf 9 = .ok (.if_icmp .ge 44, 3) := by decide +kernel
theorem dX2_groupOf_12 : decode cX2_groupOf 12 = .ok (.iconst 0, 1) := by decide +kernel
theorem dX2_groupOf_13 : decode cX2_groupOf 13 = .ok (.istore 4, 2) := by decide +kernel
theorem dX2_groupOf_15 : decode cX2_groupOf 15 = .ok (.iload 4, 2) := by decide +kernel
theorem dX2_groupOf_17 : decode cX2_groupOf 17 = .ok (.bipush 6, 2) := by decide +kernel
theorem dX2_groupOf_19 : decode cX2_groupOf 19 = .ok (.if_icmp .ge 28, 3) := by decide +kernel
theorem dX2_groupOf_22 : decode cX2_groupOf 22 = .ok (.iload_n 2, 1) := by decide +kernel
theorem dX2_groupOf_23 : decode cX2_groupOf 23 = .ok (.iconst 1, 1) := by decide +kernel
end
section
theorem dX2_groupOf_24 : decode cX2_groupOf 24 = .ok (.iload 4, 2) := by decide +kernel
theorem dX2_groupOf_26 : decode cX2_groupOf 26 = .ok (.ishl, 1) := by decide +kernel
theorem dX2_groupOf_27 : decode cX2_groupOf 27 = .ok (.iand, 1) := by decide +kernel
theorem dX2_groupOf_28 : decode cX2_groupOf 28 = .ok (.ifCond .eq 13, 3) := by decide +kernel
theorem dX2_groupOf_31 : decode cX2_groupOf 31 = .ok (.iload_n 2, 1) := by decide +kernel
theorem dX2_groupOf_32 : decode cX2_groupOf 32 = .ok (.aload_n 0, 1) := by decide +kernel
theorem dX2_groupOf_33 : decode cX2_groupOf 33 = .ok (.getfield 15, 3) := by decide +kernel
theorem dX2_groupOf_36 : decode cX2_groupOf 36 = .ok (.iload 4, 2) := by decide +kernel
theorem dX2_groupOf_38 : decode cX2_groupOf 38 = .ok (.iaload, 1) := by decide +kernel
theorem dX2_groupOf_39 : decode cX2_groupOf 39 = .ok (.ior, 1) := by decide +kernel
theorem dX2_groupOf_40 : decode cX2_groupOf 40 = .ok (.istore_n 2, 1) := by decide +kernel
theorem dX2_groupOf_41 : decode cX2_groupOf 41 = .ok (.iinc 4 1, 3) := by decide +kernel
theorem dX2_groupOf_44 : decode cX2_groupOf 44 = .ok (.goto (-29), 3) := by decide +kernel
theorem dX2_groupOf_47 : decode cX2_groupOf 47 = .ok (.iinc 3 1, 3) := by decide +kernel
theorem dX2_groupOf_50 : decode cX2_groupOf 50 = .ok (.goto (-44), 3) := by decide +kernel
theorem dX2_groupOf_53 : decode cX2_groupOf 53 = .ok (.iload_n 2, 1) := by decide +kernel
theorem dX2_groupOf_54 : decode cX2_groupOf 54 = .ok (.ireturn, 1) := by decide +kernel
theorem dX2_partsOf_0 : decode cX2_partsOf 0 = .ok (.aload_n 0, 1) := by decide +kernel
theorem dX2_partsOf_1 : decode cX2_partsOf 1 = .ok (.getfield 21, 3) := by decide +kernel
theorem dX2_partsOf_4 : decode cX2_partsOf 4 = .ok (.iload_n 1, 1) := by decide +kernel
theorem dX2_partsOf_5 : decode cX2_partsOf 5 = .ok (.bipush 6, 2) := by decide +kernel
theorem dX2_partsOf_7 : decode cX2_partsOf 7 = .ok (.imul, 1) := by decide +kernel
theorem dX2_partsOf_8 : decode cX2_partsOf 8 = .ok (.iload_n 2, 1) := by decide +kernel
theorem dX2_partsOf_9 : decode cX2_partsOf 9 = .ok (.iadd, 1) := by decide +kernel
theorem dX2_partsOf_10 : decode cX2_partsOf 10 = .ok (.iaload, 1) := by decide +kernel
theorem dX2_partsOf_11 : decode cX2_partsOf 11 = .ok (.ireturn, 1) := by decide +kernel
theorem dX2_partsOfGroup_0 : decode cX2_partsOfGroup 0 = .ok (.iconst 0, 1) := by decide +kernel
theorem dX2_partsOfGroup_1 : decode cX2_partsOfGroup 1 = .ok (.istore_n 3, 1) := by decide +kernel
theorem dX2_partsOfGroup_2 : decode cX2_partsOfGroup 2 = .ok (.iconst 0, 1) := by decide +kernel
theorem dX2_partsOfGroup_3 : decode cX2_partsOfGroup 3 = .ok (.istore 4, 2) := by decide +kernel
theorem dX2_partsOfGroup_5 : decode cX2_partsOfGroup 5 = .ok (.iload 4, 2) := by decide +kernel
theorem dX2_partsOfGroup_7 : decode cX2_partsOfGroup 7 = .ok (.bipush 6, 2) := by decide +kernel
theorem dX2_partsOfGroup_9 : decode cX2_partsOfGroup 9 = .ok (.if_icmp .ge 28, 3) := by decide +kernel
theorem dX2_partsOfGroup_12 : decode cX2_partsOfGroup 12 = .ok (.iload_n 2, 1) := by decide +kernel
theorem dX2_partsOfGroup_13 : decode cX2_partsOfGroup 13 = .ok (.iconst 1, 1) := by decide +kernel
theorem dX2_partsOfGroup_14 : decode cX2_partsOfGroup 14 = .ok (.iload 4, 2) := by decide +kernel
theorem dX2_partsOfGroup_16 : decode cX2_partsOfGroup 16 = .ok (.ishl, 1) := by decide +kernel
theorem dX2_partsOfGroup_17 : decode cX2_partsOfGroup 17 = .ok (.iand, 1) := by decide +kernel
theorem dX2_partsOfGroup_18 : decode cX2_partsOfGroup 18 = .ok (.ifCond .eq 13, 3) := by decide +kernel
theorem dX2_partsOfGroup_21 : decode cX2_partsOfGroup 21 = .ok (.iload_n 3, 1) := by decide +kernel
theorem dX2_partsOfGroup_22 : decode cX2_partsOfGroup 22 = .ok (.aload_n 0, 1) := by decide +kernel
theorem dX2_partsOfGroup_23 : decode cX2_partsOfGroup 23 = .ok (.iload_n 1, 1) := by decide +kernel
theorem dX2_partsOfGroup_24 : decode cX2_partsOfGroup 24 = .ok (.iload 4, 2) := by decide +kernel
theorem dX2_partsOfGroup_26 : decode cX2_partsOfGroup 26 = .ok (.invokevirtual 38, 3) := by decide +kernel
theorem dX2_partsOfGroup_29 : decode cX2_partsOfGroup 29 = .ok (.iadd, 1) := by decide +kernel
theorem dX2_partsOfGroup_30 : decode cX2_partsOfGroup 30 = .ok (.istore_n 3, 1) := by decide +kernel
theorem dX2_partsOfGroup_31 : decode cX2_partsOfGroup 31 = .ok (.iinc 4 1, 3) := by decide +kernel
theorem dX2_partsOfGroup_34 : decode cX2_partsOfGroup 34 = .ok (.goto (-29), 3) := by decide +kernel
theorem dX2_partsOfGroup_37 : decode cX2_partsOfGroup 37 = .ok (.iload_n 3, 1) := by decide +kernel
theorem dX2_partsOfGroup_38 : decode cX2_partsOfGroup 38 = .ok (.ireturn, 1) := by decide +kernel
theorem dX2_partsInAll_0 : decode cX2_partsInAll 0 = .ok (.aload_n 0, 1) := by decide +kernel
theorem dX2_partsInAll_1 : decode cX2_partsInAll 1 = .ok (.iload_n 1, 1) := by decide +kernel
theorem dX2_partsInAll_2 : decode cX2_partsInAll 2 = .ok (.bipush 63, 2) := by decide +kernel
theorem dX2_partsInAll_4 : decode cX2_partsInAll 4 = .ok (.invokevirtual 42, 3) := by decide +kernel
theorem dX2_partsInAll_7 : decode cX2_partsInAll 7 = .ok (.ireturn, 1) := by decide +kernel
theorem dX2_addParts_0 : decode cX2_addParts 0 = .ok (.aload_n 0, 1) := by decide +kernel
theorem dX2_addParts_1 : decode cX2_addParts 1 = .ok (.getfield 21, 3) := by decide +kernel
theorem dX2_addParts_4 : decode cX2_addParts 4 = .ok (.iload_n 1, 1) := by decide +kernel
theorem dX2_addParts_5 : decode cX2_addParts 5 = .ok (.bipush 6, 2) := by decide +kernel
theorem dX2_addParts_7 : decode cX2_addParts 7 = .ok (.imul, 1) := by decide +kernel
theorem dX2_addParts_8 : decode cX2_addParts 8 = .ok (.iload_n 2, 1) := by decide +kernel
theorem dX2_addParts_9 : decode cX2_addParts 9 = .ok (.iadd, 1) := by decide +kernel
theorem dX2_addParts_10 : decode cX2_addParts 10 = .ok (.dup2, 1) := by decide +kernel
theorem dX2_addParts_11 : decode cX2_addParts 11 = .ok (.iaload, 1) := by decide +kernel
theorem dX2_addParts_12 : decode cX2_addParts 12 = .ok (.iload_n 3, 1) := by decide +kernel
theorem dX2_addParts_13 : decode cX2_addParts 13 = .ok (.iadd, 1) := by decide +kernel
theorem dX2_addParts_14 : decode cX2_addParts 14 = .ok (.iastore, 1) := by decide +kernel
theorem dX2_addParts_15 : decode cX2_addParts 15 = .ok (.aload_n 0, 1) := by decide +kernel
theorem dX2_addParts_16 : decode cX2_addParts 16 = .ok (.iload_n 1, 1) := by decide +kernel
theorem dX2_addParts_17 : decode cX2_addParts 17 = .ok (.iload_n 2, 1) := by decide +kernel
theorem dX2_addParts_18 : decode cX2_addParts 18 = .ok (.invokevirtual 38, 3) := by decide +kernel
theorem dX2_addParts_21 : decode cX2_addParts 21 = .ok (.ireturn, 1) := by decide +kernel
theorem dX2_placedOn_0 : decode cX2_placedOn 0 = .ok (.aload_n 0, 1) := by decide +kernel
theorem dX2_placedOn_1 : decode cX2_placedOn 1 = .ok (.getfield 24, 3) := by decide +kernel
theorem dX2_placedOn_4 : decode cX2_placedOn 4 = .ok (.iload_n 1, 1) := by decide +kernel
theorem dX2_placedOn_5 : decode cX2_placedOn 5 = .ok (.bipush 6, 2) := by decide +kernel
theorem dX2_placedOn_7 : decode cX2_placedOn 7 = .ok (.imul, 1) := by decide +kernel
theorem dX2_placedOn_8 : decode cX2_placedOn 8 = .ok (.iload_n 2, 1) := by decide +kernel
theorem dX2_placedOn_9 : decode cX2_placedOn 9 = .ok (.iadd, 1) := by decide +kernel
theorem dX2_placedOn_10 : decode cX2_placedOn 10 = .ok (.iaload, 1) := by decide +kernel
theorem dX2_placedOn_11 : decode cX2_placedOn 11 = .ok (.ireturn, 1) := by decide +kernel
theorem dX2_addPlaced_0 : decode cX2_addPlaced 0 = .ok (.aload_n 0, 1) := by decide +kernel
theorem dX2_addPlaced_1 : decode cX2_addPlaced 1 = .ok (.getfield 24, 3) := by decide +kernel
theorem dX2_addPlaced_4 : decode cX2_addPlaced 4 = .ok (.iload_n 1, 1) := by decide +kernel
theorem dX2_addPlaced_5 : decode cX2_addPlaced 5 = .ok (.bipush 6, 2) := by decide +kernel
theorem dX2_addPlaced_7 : decode cX2_addPlaced 7 = .ok (.imul, 1) := by decide +kernel
theorem dX2_addPlaced_8 : decode cX2_addPlaced 8 = .ok (.iload_n 2, 1) := by decide +kernel
theorem dX2_addPlaced_9 : decode cX2_addPlaced 9 = .ok (.iadd, 1) := by decide +kernel
theorem dX2_addPlaced_10 : decode cX2_addPlaced 10 = .ok (.dup2, 1) := by decide +kernel
theorem dX2_addPlaced_11 : decode cX2_addPlaced 11 = .ok (.iaload, 1) := by decide +kernel
theorem dX2_addPlaced_12 : decode cX2_addPlaced 12 = .ok (.iload_n 3, 1) := by decide +kernel
theorem dX2_addPlaced_13 : decode cX2_addPlaced 13 = .ok (.iadd, 1) := by decide +kernel
theorem dX2_addPlaced_14 : decode cX2_addPlaced 14 = .ok (.iastore, 1) := by decide +kernel
theorem dX2_addPlaced_15 : decode cX2_addPlaced 15 = .ok (.aload_n 0, 1) := by decide +kernel
theorem dX2_addPlaced_16 : decode cX2_addPlaced 16 = .ok (.iload_n 1, 1) := by decide +kernel
theorem dX2_addPlaced_17 : decode cX2_addPlaced 17 = .ok (.iload_n 2, 1) := by decide +kernel
theorem dX2_addPlaced_18 : decode cX2_addPlaced 18 = .ok (.invokevirtual 45, 3) := by decide +kernel
theorem dX2_addPlaced_21 : decode cX2_addPlaced 21 = .ok (.ireturn, 1) := by decide +kernel
theorem dX2_carriesParts_0 : decode cX2_carriesParts 0 = .ok (.iconst 0, 1) := by decide +kernel
theorem dX2_carriesParts_1 : decode cX2_carriesParts 1 = .ok (.istore_n 2, 1) := by decide +kernel
theorem dX2_carriesParts_2 : decode cX2_carriesParts 2 = .ok (.iload_n 2, 1) := by decide +kernel
theorem dX2_carriesParts_3 : decode cX2_carriesParts 3 = .ok (.iconst 4, 1) := by decide +kernel
theorem dX2_carriesParts_4 : decode cX2_carriesParts 4 = .ok (.if_icmp .ge 20, 3) := by decide +kernel
theorem dX2_carriesParts_7 : decode cX2_carriesParts 7 = .ok (.aload_n 0, 1) := by decide +kernel
theorem dX2_carriesParts_8 : decode cX2_carriesParts 8 = .ok (.iload_n 2, 1) := by decide +kernel
theorem dX2_carriesParts_9 : decode cX2_carriesParts 9 = .ok (.iload_n 1, 1) := by decide +kernel
theorem dX2_carriesParts_10 : decode cX2_carriesParts 10 = .ok (.invokevirtual 45, 3) := by decide +kernel
theorem dX2_carriesParts_13 : decode cX2_carriesParts 13 = .ok (.ifCond .le 5, 3) := by decide +kernel
theorem dX2_carriesParts_16 : decode cX2_carriesParts 16 = .ok (.iconst 1, 1) := by decide +kernel
theorem dX2_carriesParts_17 : decode cX2_carriesParts 17 = .ok (.ireturn, 1) := by decide +kernel
theorem dX2_carriesParts_18 : decode cX2_carriesParts 18 = .ok (.iinc 2 1, 3) := by decide +kernel
theorem dX2_carriesParts_21 : decode cX2_carriesParts 21 = .ok (.goto (-19), 3) := by decide +kernel
theorem dX2_carriesParts_24 : decode cX2_carriesParts 24 = .ok (.iconst 0, 1) := by decide +kernel
theorem dX2_carriesParts_25 : decode cX2_carriesParts 25 = .ok (.ireturn, 1) := by decide +kernel
theorem dX2_freeParts_0 : decode cX2_freeParts 0 = .ok (.aload_n 0, 1) := by decide +kernel
theorem dX2_freeParts_1 : decode cX2_freeParts 1 = .ok (.iload_n 1, 1) := by decide +kernel
theorem dX2_freeParts_2 : decode cX2_freeParts 2 = .ok (.iload_n 2, 1) := by decide +kernel
theorem dX2_freeParts_3 : decode cX2_freeParts 3 = .ok (.invokevirtual 38, 3) := by decide +kernel
theorem dX2_freeParts_6 : decode cX2_freeParts 6 = .ok (.istore_n 3, 1) := by decide +kernel
theorem dX2_freeParts_7 : decode cX2_freeParts 7 = .ok (.iconst 0, 1) := by decide +kernel
theorem dX2_freeParts_8 : decode cX2_freeParts 8 = .ok (.istore 4, 2) := by decide +kernel
theorem dX2_freeParts_10 : decode cX2_freeParts 10 = .ok (.iload 4, 2) := by decide +kernel
theorem dX2_freeParts_12 : decode cX2_freeParts 12 = .ok (.bipush 6, 2) := by decide +kernel
theorem dX2_freeParts_14 : decode cX2_freeParts 14 = .ok (.if_icmp .ge 30, 3) := by decide +kernel
theorem dX2_freeParts_17 : decode cX2_freeParts 17 = .ok (.aload_n 0, 1) := by decide +kernel
theorem dX2_freeParts_18 : decode cX2_freeParts 18 = .ok (.getfield 18, 3) := by decide +kernel
theorem dX2_freeParts_21 : decode cX2_freeParts 21 = .ok (.iload 4, 2) := by decide +kernel
theorem dX2_freeParts_23 : decode cX2_freeParts 23 = .ok (.iaload, 1) := by decide +kernel
theorem dX2_freeParts_24 : decode cX2_freeParts 24 = .ok (.iload_n 2, 1) := by decide +kernel
theorem dX2_freeParts_25 : decode cX2_freeParts 25 = .ok (.if_icmp .ne 13, 3) := by decide +kernel
theorem dX2_freeParts_28 : decode cX2_freeParts 28 = .ok (.iload_n 3, 1) := by decide +kernel
theorem dX2_freeParts_29 : decode cX2_freeParts 29 = .ok (.aload_n 0, 1) := by decide +kernel
theorem dX2_freeParts_30 : decode cX2_freeParts 30 = .ok (.iload_n 1, 1) := by decide +kernel
theorem dX2_freeParts_31 : decode cX2_freeParts 31 = .ok (.iload 4, 2) := by decide +kernel
theorem dX2_freeParts_33 : decode cX2_freeParts 33 = .ok (.invokevirtual 45, 3) := by decide +kernel
theorem dX2_freeParts_36 : decode cX2_freeParts 36 = .ok (.isub, 1) := by decide +kernel
theorem dX2_freeParts_37 : decode cX2_freeParts 37 = .ok (.istore_n 3, 1) := by decide +kernel
theorem dX2_freeParts_38 : decode cX2_freeParts 38 = .ok (.iinc 4 1, 3) := by decide +kernel
theorem dX2_freeParts_41 : decode cX2_freeParts 41 = .ok (.goto (-31), 3) := by decide +kernel
theorem dX2_freeParts_44 : decode cX2_freeParts 44 = .ok (.iload_n 3, 1) := by decide +kernel
theorem dX2_freeParts_45 : decode cX2_freeParts 45 = .ok (.ireturn, 1) := by decide +kernel
theorem dX2_someGroupHoldsMore_0 : decode cX2_someGroupHoldsMore 0 = .ok (.iconst 0, 1) := by decide +kernel
theorem dX2_someGroupHoldsMore_1 : decode cX2_someGroupHoldsMore 1 = .ok (.istore_n 3, 1) := by decide +kernel
theorem dX2_someGroupHoldsMore_2 : decode cX2_someGroupHoldsMore 2 = .ok (.iload_n 3, 1) := by decide +kernel
theorem dX2_someGroupHoldsMore_3 : decode cX2_someGroupHoldsMore 3 = .ok (.bipush 6, 2) := by decide +kernel
theorem dX2_someGroupHoldsMore_5 : decode cX2_someGroupHoldsMore 5 = .ok (.if_icmp .ge 25, 3) := by decide +kernel
theorem dX2_someGroupHoldsMore_8 : decode cX2_someGroupHoldsMore 8 = .ok (.aload_n 0, 1) := by decide +kernel
theorem dX2_someGroupHoldsMore_9 : decode cX2_someGroupHoldsMore 9 = .ok (.iload_n 1, 1) := by decide +kernel
theorem dX2_someGroupHoldsMore_10 : decode cX2_someGroupHoldsMore 10 = .ok (.aload_n 0, 1) := by decide +kernel
theorem dX2_someGroupHoldsMore_11 : decode cX2_someGroupHoldsMore 11 = .ok (.iload_n 3, 1) := by decide +kernel
theorem dX2_someGroupHoldsMore_12 : decode cX2_someGroupHoldsMore 12 = .ok (.invokevirtual 34, 3) := by decide +kernel
theorem dX2_someGroupHoldsMore_15 : decode cX2_someGroupHoldsMore 15 = .ok (.invokevirtual 42, 3) := by decide +kernel
theorem dX2_someGroupHoldsMore_18 : decode cX2_someGroupHoldsMore 18 = .ok (.iload_n 2, 1) := by decide +kernel
theorem dX2_someGroupHoldsMore_19 : decode cX2_someGroupHoldsMore 19 = .ok (.if_icmp .le 5, 3) := by decide +kernel
theorem dX2_someGroupHoldsMore_22 : decode cX2_someGroupHoldsMore 22 = .ok (.iconst 1, 1) := by decide +kernel
theorem dX2_someGroupHoldsMore_23 : decode cX2_someGroupHoldsMore 23 = .ok (.ireturn, 1) := by decide +kernel
theorem dX2_someGroupHoldsMore_24 : decode cX2_someGroupHoldsMore 24 = .ok (.iinc 3 1, 3) := by decide +kernel
theorem dX2_someGroupHoldsMore_27 : decode cX2_someGroupHoldsMore 27 = .ok (.goto (-25), 3) := by decide +kernel
theorem dX2_someGroupHoldsMore_30 : decode cX2_someGroupHoldsMore 30 = .ok (.iconst 0, 1) := by decide +kernel
theorem dX2_someGroupHoldsMore_31 : decode cX2_someGroupHoldsMore 31 = .ok (.ireturn, 1) := by decide +kernel
theorem dX2_groupWouldPassCap_0 : decode cX2_groupWouldPassCap 0 = .ok (.aload_n 0, 1) := by decide +kernel
theorem dX2_groupWouldPassCap_1 : decode cX2_groupWouldPassCap 1 = .ok (.iload_n 1, 1) := by decide +kernel
theorem dX2_groupWouldPassCap_2 : decode cX2_groupWouldPassCap 2 = .ok (.aload_n 0, 1) := by decide +kernel
theorem dX2_groupWouldPassCap_3 : decode cX2_groupWouldPassCap 3 = .ok (.iload_n 2, 1) := by decide +kernel
theorem dX2_groupWouldPassCap_4 : decode cX2_groupWouldPassCap 4 = .ok (.invokevirtual 34, 3) := by decide +kernel
theorem dX2_groupWouldPassCap_7 : decode cX2_groupWouldPassCap 7 = .ok (.invokevirtual 42, 3) := by decide +kernel
theorem dX2_groupWouldPassCap_10 : decode cX2_groupWouldPassCap 10 = .ok (.iload_n 3, 1) := by decide +kernel
theorem dX2_groupWouldPassCap_11 : decode cX2_groupWouldPassCap 11 = .ok (.iadd, 1) := by decide +kernel
theorem dX2_groupWouldPassCap_12 : decode cX2_groupWouldPassCap 12 = .ok (.aload_n 0, 1) := by decide +kernel
theorem dX2_groupWouldPassCap_13 : decode cX2_groupWouldPassCap 13 = .ok (.getfield 9, 3) := by decide +kernel
theorem dX2_groupWouldPassCap_16 : decode cX2_groupWouldPassCap 16 = .ok (.iload_n 1, 1) := by decide +kernel
theorem dX2_groupWouldPassCap_17 : decode cX2_groupWouldPassCap 17 = .ok (.iaload, 1) := by decide +kernel
theorem dX2_groupWouldPassCap_18 : decode cX2_groupWouldPassCap 18 = .ok (.if_icmp .le 7, 3) := by decide +kernel
theorem dX2_groupWouldPassCap_21 : decode cX2_groupWouldPassCap 21 = .ok (.iconst 1, 1) := by decide +kernel
theorem dX2_groupWouldPassCap_22 : decode cX2_groupWouldPassCap 22 = .ok (.goto 4, 3) := by decide +kernel
theorem dX2_groupWouldPassCap_25 : decode cX2_groupWouldPassCap 25 = .ok (.iconst 0, 1) := by decide +kernel
theorem dX2_groupWouldPassCap_26 : decode cX2_groupWouldPassCap 26 = .ok (.ireturn, 1) := by decide +kernel
theorem dX2_joinedWouldPassCap_0 : decode cX2_joinedWouldPassCap 0 = .ok (.aload_n 0, 1) := by decide +kernel
theorem dX2_joinedWouldPassCap_1 : decode cX2_joinedWouldPassCap 1 = .ok (.iload_n 1, 1) := by decide +kernel
theorem dX2_joinedWouldPassCap_2 : decode cX2_joinedWouldPassCap 2 = .ok (.invokevirtual 34, 3) := by decide +kernel
theorem dX2_joinedWouldPassCap_5 : decode cX2_joinedWouldPassCap 5 = .ok (.aload_n 0, 1) := by decide +kernel
theorem dX2_joinedWouldPassCap_6 : decode cX2_joinedWouldPassCap 6 = .ok (.iload_n 2, 1) := by decide +kernel
theorem dX2_joinedWouldPassCap_7 : decode cX2_joinedWouldPassCap 7 = .ok (.invokevirtual 34, 3) := by decide +kernel
theorem dX2_joinedWouldPassCap_10 : decode cX2_joinedWouldPassCap 10 = .ok (.ior, 1) := by decide +kernel
theorem dX2_joinedWouldPassCap_11 : decode cX2_joinedWouldPassCap 11 = .ok (.istore_n 3, 1) := by decide +kernel
theorem dX2_joinedWouldPassCap_12 : decode cX2_joinedWouldPassCap 12 = .ok (.iconst 0, 1) := by decide +kernel
theorem dX2_joinedWouldPassCap_13 : decode cX2_joinedWouldPassCap 13 = .ok (.istore 4, 2) := by decide +kernel
theorem dX2_joinedWouldPassCap_15 : decode cX2_joinedWouldPassCap 15 = .ok (.iload 4, 2) := by decide +kernel
theorem dX2_joinedWouldPassCap_17 : decode cX2_joinedWouldPassCap 17 = .ok (.iconst 4, 1) := by decide +kernel
theorem dX2_joinedWouldPassCap_18 : decode cX2_joinedWouldPassCap 18 = .ok (.if_icmp .ge 28, 3) := by decide +kernel
theorem dX2_joinedWouldPassCap_21 : decode cX2_joinedWouldPassCap 21 = .ok (.aload_n 0, 1) := by decide +kernel
theorem dX2_joinedWouldPassCap_22 : decode cX2_joinedWouldPassCap 22 = .ok (.iload 4, 2) := by decide +kernel
theorem dX2_joinedWouldPassCap_24 : decode cX2_joinedWouldPassCap 24 = .ok (.iload_n 3, 1) := by decide +kernel
theorem dX2_joinedWouldPassCap_25 : decode cX2_joinedWouldPassCap 25 = .ok (.invokevirtual 42, 3) := by decide +kernel
theorem dX2_joinedWouldPassCap_28 : decode cX2_joinedWouldPassCap 28 = .ok (.aload_n 0, 1) := by decide +kernel
theorem dX2_joinedWouldPassCap_29 : decode cX2_joinedWouldPassCap 29 = .ok (.getfield 9, 3) := by decide +kernel
theorem dX2_joinedWouldPassCap_32 : decode cX2_joinedWouldPassCap 32 = .ok (.iload 4, 2) := by decide +kernel
theorem dX2_joinedWouldPassCap_34 : decode cX2_joinedWouldPassCap 34 = .ok (.iaload, 1) := by decide +kernel
theorem dX2_joinedWouldPassCap_35 : decode cX2_joinedWouldPassCap 35 = .ok (.if_icmp .le 5, 3) := by decide +kernel
theorem dX2_joinedWouldPassCap_38 : decode cX2_joinedWouldPassCap 38 = .ok (.iconst 1, 1) := by decide +kernel
theorem dX2_joinedWouldPassCap_39 : decode cX2_joinedWouldPassCap 39 = .ok (.ireturn, 1) := by decide +kernel
theorem dX2_joinedWouldPassCap_40 : decode cX2_joinedWouldPassCap 40 = .ok (.iinc 4 1, 3) := by decide +kernel
theorem dX2_joinedWouldPassCap_43 : decode cX2_joinedWouldPassCap 43 = .ok (.goto (-28), 3) := by decide +kernel
theorem dX2_joinedWouldPassCap_46 : decode cX2_joinedWouldPassCap 46 = .ok (.iconst 0, 1) := by decide +kernel
theorem dX2_joinedWouldPassCap_47 : decode cX2_joinedWouldPassCap 47 = .ok (.ireturn, 1) := by decide +kernel
theorem dX3_init_0 : decode cX3_init 0 = .ok (.aload_n 0, 1) := by decide +kernel
theorem dX3_init_1 : decode cX3_init 1 = .ok (.invokespecial 1, 3) := by decide +kernel
theorem dX3_init_4 : decode cX3_init 4 = .ok (.aload_n 0, 1) := by decide +kernel
theorem dX3_init_5 : decode cX3_init 5 = .ok (.iconst 4, 1) := by decide +kernel
theorem dX3_init_6 : decode cX3_init 6 = .ok (.newarray .int, 2) := by decide +kernel
theorem dX3_init_8 : decode cX3_init 8 = .ok (.putfield 9, 3) := by decide +kernel
theorem dX3_init_11 : decode cX3_init 11 = .ok (.aload_n 0, 1) := by decide +kernel
theorem dX3_init_12 : decode cX3_init 12 = .ok (.bipush 12, 2) := by decide +kernel
theorem dX3_init_14 : decode cX3_init 14 = .ok (.newarray .int, 2) := by decide +kernel
theorem dX3_init_16 : decode cX3_init 16 = .ok (.putfield 13, 3) := by decide +kernel
theorem dX3_init_19 : decode cX3_init 19 = .ok (.aload_n 0, 1) := by decide +kernel
theorem dX3_init_20 : decode cX3_init 20 = .ok (.new 16, 3) := by decide +kernel
theorem dX3_init_23 : decode cX3_init 23 = .ok (.dup, 1) := by decide +kernel
theorem dX3_init_24 : decode cX3_init 24 = .ok (.invokespecial 18, 3) := by decide +kernel
theorem dX3_init_27 : decode cX3_init 27 = .ok (.putfield 19, 3) := by decide +kernel
theorem dX3_init_30 : decode cX3_init 30 = .ok (.aload_n 0, 1) := by decide +kernel
theorem dX3_init_31 : decode cX3_init 31 = .ok (.new 23, 3) := by decide +kernel
theorem dX3_init_34 : decode cX3_init 34 = .ok (.dup, 1) := by decide +kernel
theorem dX3_init_35 : decode cX3_init 35 = .ok (.invokespecial 25, 3) := by decide +kernel
theorem dX3_init_38 : decode cX3_init 38 = .ok (.putfield 26, 3) := by decide +kernel
theorem dX3_init_41 : decode cX3_init 41 = .ok (.aload_n 0, 1) := by decide +kernel
theorem dX3_init_42 : decode cX3_init 42 = .ok (.new 30, 3) := by decide +kernel
theorem dX3_init_45 : decode cX3_init 45 = .ok (.dup, 1) := by decide +kernel
theorem dX3_init_46 : decode cX3_init 46 = .ok (.invokespecial 32, 3) := by decide +kernel
theorem dX3_init_49 : decode cX3_init 49 = .ok (.putfield 33, 3) := by decide +kernel
theorem dX3_init_52 : decode cX3_init 52 = .ok (.aload_n 0, 1) := by decide +kernel
theorem dX3_init_53 : decode cX3_init 53 = .ok (.bipush 9, 2) := by decide +kernel
theorem dX3_init_55 : decode cX3_init 55 = .ok (.newarray .boolean, 2) := by decide +kernel
theorem dX3_init_57 : decode cX3_init 57 = .ok (.putfield 37, 3) := by decide +kernel
theorem dX3_init_60 : decode cX3_init 60 = .ok (.aload_n 0, 1) := by decide +kernel
theorem dX3_init_61 : decode cX3_init 61 = .ok (.iconst 0, 1) := by decide +kernel
theorem dX3_init_62 : decode cX3_init 62 = .ok (.putfield 41, 3) := by decide +kernel
theorem dX3_init_65 : decode cX3_init 65 = .ok (.aload_n 0, 1) := by decide +kernel
theorem dX3_init_66 : decode cX3_init 66 = .ok (.iconst 0, 1) := by decide +kernel
theorem dX3_init_67 : decode cX3_init 67 = .ok (.putfield 45, 3) := by decide +kernel
theorem dX3_init_70 : decode cX3_init 70 = .ok (.aload_n 0, 1) := by decide +kernel
theorem dX3_init_71 : decode cX3_init 71 = .ok (.getfield 9, 3) := by decide +kernel
theorem dX3_init_74 : decode cX3_init 74 = .ok (.iconst 1, 1) := by decide +kernel
theorem dX3_init_75 : decode cX3_init 75 = .ok (.invokestatic 49, 3) := by decide +kernel
theorem dX3_init_78 : decode cX3_init 78 = .ok (.aload_n 0, 1) := by decide +kernel
theorem dX3_init_79 : decode cX3_init 79 = .ok (.getfield 13, 3) := by decide +kernel
theorem dX3_init_82 : decode cX3_init 82 = .ok (.sipush 1000, 3) := by decide +kernel
theorem dX3_init_85 : decode cX3_init 85 = .ok (.invokestatic 49, 3) := by decide +kernel
theorem dX3_init_88 : decode cX3_init 88 = .ok (.return_, 1) := by decide +kernel
theorem dX3_species_0 : decode cX3_species 0 = .ok (.iload_n 1, 1) := by decide +kernel
theorem dX3_species_1 : decode cX3_species 1 = .ok (.invokestatic 55, 3) := by decide +kernel
theorem dX3_species_4 : decode cX3_species 4 = .ok (.ifCond .eq 24, 3) := by decide +kernel
theorem dX3_species_7 : decode cX3_species 7 = .ok (.iload_n 2, 1) := by decide +kernel
theorem dX3_species_8 : decode cX3_species 8 = .ok (.iconst 1, 1) := by decide +kernel
theorem dX3_species_9 : decode cX3_species 9 = .ok (.sipush 1000, 3) := by decide +kernel
theorem dX3_species_12 : decode cX3_species 12 = .ok (.invokestatic 59, 3) := by decide +kernel
theorem dX3_species_15 : decode cX3_species 15 = .ok (.ifCond .eq 13, 3) := by decide +kernel
theorem dX3_species_18 : decode cX3_species 18 = .ok (.iload_n 3, 1) := by decide +kernel
theorem dX3_species_19 : decode cX3_species 19 = .ok (.iconst 0, 1) := by decide +kernel
theorem dX3_species_20 : decode cX3_species 20 = .ok (.ldc 63, 2) := by decide +kernel
theorem dX3_species_22 : decode cX3_species 22 = .ok (.invokestatic 59, 3) := by decide +kernel
theorem dX3_species_25 : decode cX3_species 25 = .ok (.ifCond .ne 13, 3) := by decide +kernel
theorem dX3_species_28 : decode cX3_species 28 = .ok (.new 64, 3) := by decide +kernel
theorem dX3_species_31 : decode cX3_species 31 = .ok (.dup, 1) := by decide +kernel
theorem dX3_species_32 : decode cX3_species 32 = .ok (.ldc 66, 2) := by decide +kernel
theorem dX3_species_34 : decode cX3_species 34 = .ok (.invokespecial 68, 3) := by decide +kernel
theorem dX3_species_37 : decode cX3_species 37 = .ok (.athrow, 1) := by decide +kernel
theorem dX3_species_38 : decode cX3_species 38 = .ok (.aload_n 0, 1) := by decide +kernel
theorem dX3_species_39 : decode cX3_species 39 = .ok (.getfield 19, 3) := by decide +kernel
theorem dX3_species_42 : decode cX3_species 42 = .ok (.iload_n 1, 1) := by decide +kernel
theorem dX3_species_43 : decode cX3_species 43 = .ok (.iload_n 3, 1) := by decide +kernel
theorem dX3_species_44 : decode cX3_species 44 = .ok (.invokevirtual 71, 3) := by decide +kernel
theorem dX3_species_47 : decode cX3_species 47 = .ok (.ifCond .eq 13, 3) := by decide +kernel
theorem dX3_species_50 : decode cX3_species 50 = .ok (.new 64, 3) := by decide +kernel
theorem dX3_species_53 : decode cX3_species 53 = .ok (.dup, 1) := by decide +kernel
theorem dX3_species_54 : decode cX3_species 54 = .ok (.ldc 75, 2) := by decide +kernel
theorem dX3_species_56 : decode cX3_species 56 = .ok (.invokespecial 68, 3) := by decide +kernel
theorem dX3_species_59 : decode cX3_species 59 = .ok (.athrow, 1) := by decide +kernel
theorem dX3_species_60 : decode cX3_species 60 = .ok (.aload_n 0, 1) := by decide +kernel
theorem dX3_species_61 : decode cX3_species 61 = .ok (.getfield 9, 3) := by decide +kernel
theorem dX3_species_64 : decode cX3_species 64 = .ok (.iload_n 1, 1) := by decide +kernel
theorem dX3_species_65 : decode cX3_species 65 = .ok (.iload_n 2, 1) := by decide +kernel
theorem dX3_species_66 : decode cX3_species 66 = .ok (.iastore, 1) := by decide +kernel
theorem dX3_species_67 : decode cX3_species 67 = .ok (.aload_n 0, 1) := by decide +kernel
theorem dX3_species_68 : decode cX3_species 68 = .ok (.getfield 19, 3) := by decide +kernel
theorem dX3_species_71 : decode cX3_species 71 = .ok (.iload_n 1, 1) := by decide +kernel
theorem dX3_species_72 : decode cX3_species 72 = .ok (.iload_n 3, 1) := by decide +kernel
theorem dX3_species_73 : decode cX3_species 73 = .ok (.invokevirtual 77, 3) := by decide +kernel
theorem dX3_species_76 : decode cX3_species 76 = .ok (.return_, 1) := by decide +kernel
theorem dX3_factor_0 : decode cX3_factor 0 = .ok (.iload_n 1, 1) := by decide +kernel
theorem dX3_factor_1 : decode cX3_factor 1 = .ok (.invokestatic 55, 3) := by decide +kernel
theorem dX3_factor_4 : decode cX3_factor 4 = .ok (.ifCond .eq 21, 3) := by decide +kernel
theorem dX3_factor_7 : decode cX3_factor 7 = .ok (.iload_n 2, 1) := by decide +kernel
theorem dX3_factor_8 : decode cX3_factor 8 = .ok (.invokestatic 81, 3) := by decide +kernel
theorem dX3_factor_11 : decode cX3_factor 11 = .ok (.ifCond .eq 14, 3) := by decide +kernel
theorem dX3_factor_14 : decode cX3_factor 14 = .ok (.iload_n 3, 1) := by decide +kernel
theorem dX3_factor_15 : decode cX3_factor 15 = .ok (.iconst 0, 1) := by decide +kernel
theorem dX3_factor_16 : decode cX3_factor 16 = .ok (.sipush 5000, 3) := by decide +kernel
theorem dX3_factor_19 : decode cX3_factor 19 = .ok (.invokestatic 59, 3) := by decide +kernel
theorem dX3_factor_22 : decode cX3_factor 22 = .ok (.ifCond .ne 13, 3) := by decide +kernel
theorem dX3_factor_25 : decode cX3_factor 25 = .ok (.new 64, 3) := by decide +kernel
theorem dX3_factor_28 : decode cX3_factor 28 = .ok (.dup, 1) := by decide +kernel
theorem dX3_factor_29 : decode cX3_factor 29 = .ok (.ldc 84, 2) := by decide +kernel
theorem dX3_factor_31 : decode cX3_factor 31 = .ok (.invokespecial 68, 3) := by decide +kernel
theorem dX3_factor_34 : decode cX3_factor 34 = .ok (.athrow, 1) := by decide +kernel
theorem dX3_factor_35 : decode cX3_factor 35 = .ok (.aload_n 0, 1) := by decide +kernel
theorem dX3_factor_36 : decode cX3_factor 36 = .ok (.getfield 13, 3) := by decide +kernel
theorem dX3_factor_39 : decode cX3_factor 39 = .ok (.iload_n 1, 1) := by decide +kernel
theorem dX3_factor_40 : decode cX3_factor 40 = .ok (.iconst 3, 1) := by decide +kernel
theorem dX3_factor_41 : decode cX3_factor 41 = .ok (.imul, 1) := by decide +kernel
theorem dX3_factor_42 : decode cX3_factor 42 = .ok (.iload_n 2, 1) := by decide +kernel
theorem dX3_factor_43 : decode cX3_factor 43 = .ok (.iadd, 1) := by decide +kernel
theorem dX3_factor_44 : decode cX3_factor 44 = .ok (.iload_n 3, 1) := by decide +kernel
theorem dX3_factor_45 : decode cX3_factor 45 = .ok (.iastore, 1) := by decide +kernel
theorem dX3_factor_46 : decode cX3_factor 46 = .ok (.return_, 1) := by decide +kernel
theorem dX3_vessel_0 : decode cX3_vessel 0 = .ok (.iload_n 1, 1) := by decide +kernel
theorem dX3_vessel_1 : decode cX3_vessel 1 = .ok (.invokestatic 86, 3) := by decide +kernel
theorem dX3_vessel_4 : decode cX3_vessel 4 = .ok (.ifCond .eq 10, 3) := by decide +kernel
theorem dX3_vessel_7 : decode cX3_vessel 7 = .ok (.iload_n 2, 1) := by decide +kernel
theorem dX3_vessel_8 : decode cX3_vessel 8 = .ok (.invokestatic 89, 3) := by decide +kernel
theorem dX3_vessel_11 : decode cX3_vessel 11 = .ok (.ifCond .ne 13, 3) := by decide +kernel
theorem dX3_vessel_14 : decode cX3_vessel 14 = .ok (.new 64, 3) := by decide +kernel
theorem dX3_vessel_17 : decode cX3_vessel 17 = .ok (.dup, 1) := by decide +kernel
theorem dX3_vessel_18 : decode cX3_vessel 18 = .ok (.ldc 92, 2) := by decide +kernel
theorem dX3_vessel_20 : decode cX3_vessel 20 = .ok (.invokespecial 68, 3) := by decide +kernel
theorem dX3_vessel_23 : decode cX3_vessel 23 = .ok (.athrow, 1) := by decide +kernel
theorem dX3_vessel_24 : decode cX3_vessel 24 = .ok (.aload_n 0, 1) := by decide +kernel
theorem dX3_vessel_25 : decode cX3_vessel 25 = .ok (.getfield 19, 3) := by decide +kernel
theorem dX3_vessel_28 : decode cX3_vessel 28 = .ok (.iload_n 1, 1) := by decide +kernel
theorem dX3_vessel_29 : decode cX3_vessel 29 = .ok (.invokevirtual 94, 3) := by decide +kernel
theorem dX3_vessel_32 : decode cX3_vessel 32 = .ok (.ifCond .eq 13, 3) := by decide +kernel
theorem dX3_vessel_35 : decode cX3_vessel 35 = .ok (.new 97, 3) := by decide +kernel
theorem dX3_vessel_38 : decode cX3_vessel 38 = .ok (.dup, 1) := by decide +kernel
theorem dX3_vessel_39 : decode cX3_vessel 39 = .ok (.ldc 99, 2) := by decide +kernel
theorem dX3_vessel_41 : decode cX3_vessel 41 = .ok (.invokespecial 101, 3) := by decide +kernel
theorem dX3_vessel_44 : decode cX3_vessel 44 = .ok (.athrow, 1) := by decide +kernel
theorem dX3_vessel_45 : decode cX3_vessel 45 = .ok (.aload_n 0, 1) := by decide +kernel
theorem dX3_vessel_46 : decode cX3_vessel 46 = .ok (.getfield 19, 3) := by decide +kernel
theorem dX3_vessel_49 : decode cX3_vessel 49 = .ok (.iload_n 1, 1) := by decide +kernel
theorem dX3_vessel_50 : decode cX3_vessel 50 = .ok (.iload_n 2, 1) := by decide +kernel
theorem dX3_vessel_51 : decode cX3_vessel 51 = .ok (.invokevirtual 102, 3) := by decide +kernel
theorem dX3_vessel_54 : decode cX3_vessel 54 = .ok (.return_, 1) := by decide +kernel
theorem dX3_link_0 : decode cX3_link 0 = .ok (.iload_n 1, 1) := by decide +kernel
theorem dX3_link_1 : decode cX3_link 1 = .ok (.iload_n 2, 1) := by decide +kernel
theorem dX3_link_2 : decode cX3_link 2 = .ok (.invokestatic 105, 3) := by decide +kernel
theorem dX3_link_5 : decode cX3_link 5 = .ok (.ifCond .ne 13, 3) := by decide +kernel
theorem dX3_link_8 : decode cX3_link 8 = .ok (.new 64, 3) := by decide +kernel
theorem dX3_link_11 : decode cX3_link 11 = .ok (.dup, 1) := by decide +kernel
theorem dX3_link_12 : decode cX3_link 12 = .ok (.ldc 108, 2) := by decide +kernel
theorem dX3_link_14 : decode cX3_link 14 = .ok (.invokespecial 68, 3) := by decide +kernel
theorem dX3_link_17 : decode cX3_link 17 = .ok (.athrow, 1) := by decide +kernel
theorem dX3_link_18 : decode cX3_link 18 = .ok (.aload_n 0, 1) := by decide +kernel
theorem dX3_link_19 : decode cX3_link 19 = .ok (.getfield 19, 3) := by decide +kernel
theorem dX3_link_22 : decode cX3_link 22 = .ok (.iload_n 1, 1) := by decide +kernel
theorem dX3_link_23 : decode cX3_link 23 = .ok (.iload_n 2, 1) := by decide +kernel
theorem dX3_link_24 : decode cX3_link 24 = .ok (.invokevirtual 110, 3) := by decide +kernel
theorem dX3_link_27 : decode cX3_link 27 = .ok (.ifCond .eq 13, 3) := by decide +kernel
theorem dX3_link_30 : decode cX3_link 30 = .ok (.new 97, 3) := by decide +kernel
theorem dX3_link_33 : decode cX3_link 33 = .ok (.dup, 1) := by decide +kernel
theorem dX3_link_34 : decode cX3_link 34 = .ok (.ldc 113, 2) := by decide +kernel
theorem dX3_link_36 : decode cX3_link 36 = .ok (.invokespecial 101, 3) := by decide +kernel
theorem dX3_link_39 : decode cX3_link 39 = .ok (.athrow, 1) := by decide +kernel
theorem dX3_link_40 : decode cX3_link 40 = .ok (.aload_n 0, 1) := by decide +kernel
theorem dX3_link_41 : decode cX3_link 41 = .ok (.getfield 19, 3) := by decide +kernel
theorem dX3_link_44 : decode cX3_link 44 = .ok (.iload_n 1, 1) := by decide +kernel
theorem dX3_link_45 : decode cX3_link 45 = .ok (.iload_n 2, 1) := by decide +kernel
theorem dX3_link_46 : decode cX3_link 46 = .ok (.invokevirtual 115, 3) := by decide +kernel
theorem dX3_link_49 : decode cX3_link 49 = .ok (.return_, 1) := by decide +kernel
theorem dX3_unlink_0 : decode cX3_unlink 0 = .ok (.iload_n 1, 1) := by decide +kernel
theorem dX3_unlink_1 : decode cX3_unlink 1 = .ok (.iload_n 2, 1) := by decide +kernel
theorem dX3_unlink_2 : decode cX3_unlink 2 = .ok (.invokestatic 105, 3) := by decide +kernel
theorem dX3_unlink_5 : decode cX3_unlink 5 = .ok (.ifCond .ne 13, 3) := by decide +kernel
theorem dX3_unlink_8 : decode cX3_unlink 8 = .ok (.new 64, 3) := by decide +kernel
theorem dX3_unlink_11 : decode cX3_unlink 11 = .ok (.dup, 1) := by decide +kernel
theorem dX3_unlink_12 : decode cX3_unlink 12 = .ok (.ldc 108, 2) := by decide +kernel
theorem dX3_unlink_14 : decode cX3_unlink 14 = .ok (.invokespecial 68, 3) := by decide +kernel
theorem dX3_unlink_17 : decode cX3_unlink 17 = .ok (.athrow, 1) := by decide +kernel
theorem dX3_unlink_18 : decode cX3_unlink 18 = .ok (.aload_n 0, 1) := by decide +kernel
theorem dX3_unlink_19 : decode cX3_unlink 19 = .ok (.getfield 19, 3) := by decide +kernel
theorem dX3_unlink_22 : decode cX3_unlink 22 = .ok (.iload_n 1, 1) := by decide +kernel
theorem dX3_unlink_23 : decode cX3_unlink 23 = .ok (.iload_n 2, 1) := by decide +kernel
theorem dX3_unlink_24 : decode cX3_unlink 24 = .ok (.invokevirtual 118, 3) := by decide +kernel
theorem dX3_unlink_27 : decode cX3_unlink 27 = .ok (.ifCond .ne 13, 3) := by decide +kernel
theorem dX3_unlink_30 : decode cX3_unlink 30 = .ok (.new 97, 3) := by decide +kernel
theorem dX3_unlink_33 : decode cX3_unlink 33 = .ok (.dup, 1) := by decide +kernel
theorem dX3_unlink_34 : decode cX3_unlink 34 = .ok (.ldc 121, 2) := by decide +kernel
theorem dX3_unlink_36 : decode cX3_unlink 36 = .ok (.invokespecial 101, 3) := by decide +kernel
theorem dX3_unlink_39 : decode cX3_unlink 39 = .ok (.athrow, 1) := by decide +kernel
theorem dX3_unlink_40 : decode cX3_unlink 40 = .ok (.aload_n 0, 1) := by decide +kernel
theorem dX3_unlink_41 : decode cX3_unlink 41 = .ok (.getfield 19, 3) := by decide +kernel
theorem dX3_unlink_44 : decode cX3_unlink 44 = .ok (.iload_n 1, 1) := by decide +kernel
theorem dX3_unlink_45 : decode cX3_unlink 45 = .ok (.iload_n 2, 1) := by decide +kernel
theorem dX3_unlink_46 : decode cX3_unlink 46 = .ok (.invokevirtual 123, 3) := by decide +kernel
theorem dX3_unlink_49 : decode cX3_unlink 49 = .ok (.return_, 1) := by decide +kernel
theorem dX3_issue_0 : decode cX3_issue 0 = .ok (.iload_n 1, 1) := by decide +kernel
theorem dX3_issue_1 : decode cX3_issue 1 = .ok (.invokestatic 55, 3) := by decide +kernel
theorem dX3_issue_4 : decode cX3_issue 4 = .ok (.ifCond .eq 20, 3) := by decide +kernel
theorem dX3_issue_7 : decode cX3_issue 7 = .ok (.iload_n 2, 1) := by decide +kernel
theorem dX3_issue_8 : decode cX3_issue 8 = .ok (.invokestatic 89, 3) := by decide +kernel
theorem dX3_issue_11 : decode cX3_issue 11 = .ok (.ifCond .eq 13, 3) := by decide +kernel
theorem dX3_issue_14 : decode cX3_issue 14 = .ok (.iload_n 3, 1) := by decide +kernel
theorem dX3_issue_15 : decode cX3_issue 15 = .ok (.iconst 1, 1) := by decide +kernel
theorem dX3_issue_16 : decode cX3_issue 16 = .ok (.ldc 63, 2) := by decide +kernel
theorem dX3_issue_18 : decode cX3_issue 18 = .ok (.invokestatic 59, 3) := by decide +kernel
theorem dX3_issue_21 : decode cX3_issue 21 = .ok (.ifCond .ne 13, 3) := by decide +kernel
theorem dX3_issue_24 : decode cX3_issue 24 = .ok (.new 64, 3) := by decide +kernel
theorem dX3_issue_27 : decode cX3_issue 27 = .ok (.dup, 1) := by decide +kernel
theorem dX3_issue_28 : decode cX3_issue 28 = .ok (.ldc 126, 2) := by decide +kernel
theorem dX3_issue_30 : decode cX3_issue 30 = .ok (.invokespecial 68, 3) := by decide +kernel
theorem dX3_issue_33 : decode cX3_issue 33 = .ok (.athrow, 1) := by decide +kernel
theorem dX3_issue_34 : decode cX3_issue 34 = .ok (.aload_n 0, 1) := by decide +kernel
theorem dX3_issue_35 : decode cX3_issue 35 = .ok (.getfield 41, 3) := by decide +kernel
theorem dX3_issue_38 : decode cX3_issue 38 = .ok (.ifCond .le 13, 3) := by decide +kernel
theorem dX3_issue_41 : decode cX3_issue 41 = .ok (.new 97, 3) := by decide +kernel
theorem dX3_issue_44 : decode cX3_issue 44 = .ok (.dup, 1) := by decide +kernel
theorem dX3_issue_45 : decode cX3_issue 45 = .ok (.ldc 128, 2) := by decide +kernel
theorem dX3_issue_47 : decode cX3_issue 47 = .ok (.invokespecial 101, 3) := by decide +kernel
theorem dX3_issue_50 : decode cX3_issue 50 = .ok (.athrow, 1) := by decide +kernel
theorem dX3_issue_51 : decode cX3_issue 51 = .ok (.aload_n 0, 1) := by decide +kernel
theorem dX3_issue_52 : decode cX3_issue 52 = .ok (.getfield 19, 3) := by decide +kernel
theorem dX3_issue_55 : decode cX3_issue 55 = .ok (.iload_n 1, 1) := by decide +kernel
theorem dX3_issue_56 : decode cX3_issue 56 = .ok (.invokevirtual 130, 3) := by decide +kernel
theorem dX3_issue_59 : decode cX3_issue 59 = .ok (.iload_n 3, 1) := by decide +kernel
theorem dX3_issue_60 : decode cX3_issue 60 = .ok (.iadd, 1) := by decide +kernel
theorem dX3_issue_61 : decode cX3_issue 61 = .ok (.ldc 63, 2) := by decide +kernel
theorem dX3_issue_63 : decode cX3_issue 63 = .ok (.if_icmp .gt 16, 3) := by decide +kernel
theorem dX3_issue_66 : decode cX3_issue 66 = .ok (.aload_n 0, 1) := by decide +kernel
theorem dX3_issue_67 : decode cX3_issue 67 = .ok (.getfield 19, 3) := by decide +kernel
theorem dX3_issue_70 : decode cX3_issue 70 = .ok (.iload_n 1, 1) := by decide +kernel
theorem dX3_issue_71 : decode cX3_issue 71 = .ok (.iload_n 2, 1) := by decide +kernel
theorem dX3_issue_72 : decode cX3_issue 72 = .ok (.iload_n 3, 1) := by decide +kernel
theorem dX3_issue_73 : decode cX3_issue 73 = .ok (.invokevirtual 134, 3) := by decide +kernel
theorem dX3_issue_76 : decode cX3_issue 76 = .ok (.ifCond .eq 13, 3) := by decide +kernel
theorem dX3_issue_79 : decode cX3_issue 79 = .ok (.new 97, 3) := by decide +kernel
theorem dX3_issue_82 : decode cX3_issue 82 = .ok (.dup, 1) := by decide +kernel
theorem dX3_issue_83 : decode cX3_issue 83 = .ok (.ldc 137, 2) := by decide +kernel
theorem dX3_issue_85 : decode cX3_issue 85 = .ok (.invokespecial 101, 3) := by decide +kernel
theorem dX3_issue_88 : decode cX3_issue 88 = .ok (.athrow, 1) := by decide +kernel
theorem dX3_issue_89 : decode cX3_issue 89 = .ok (.aload_n 0, 1) := by decide +kernel
theorem dX3_issue_90 : decode cX3_issue 90 = .ok (.getfield 19, 3) := by decide +kernel
theorem dX3_issue_93 : decode cX3_issue 93 = .ok (.iload_n 1, 1) := by decide +kernel
theorem dX3_issue_94 : decode cX3_issue 94 = .ok (.iload_n 2, 1) := by decide +kernel
theorem dX3_issue_95 : decode cX3_issue 95 = .ok (.iload_n 3, 1) := by decide +kernel
theorem dX3_issue_96 : decode cX3_issue 96 = .ok (.invokevirtual 139, 3) := by decide +kernel
theorem dX3_issue_99 : decode cX3_issue 99 = .ok (.ireturn, 1) := by decide +kernel
theorem dX3_sell_0 : decode cX3_sell 0 = .ok (.iload_n 1, 1) := by decide +kernel
theorem dX3_sell_1 : decode cX3_sell 1 = .ok (.invokestatic 55, 3) := by decide +kernel
theorem dX3_sell_4 : decode cX3_sell 4 = .ok (.ifCond .eq 22, 3) := by decide +kernel
theorem dX3_sell_7 : decode cX3_sell 7 = .ok (.iload_n 2, 1) := by decide +kernel
theorem dX3_sell_8 : decode cX3_sell 8 = .ok (.iload_n 3, 1) := by decide +kernel
theorem dX3_sell_9 : decode cX3_sell 9 = .ok (.invokestatic 105, 3) := by decide +kernel
theorem dX3_sell_12 : decode cX3_sell 12 = .ok (.ifCond .eq 14, 3) := by decide +kernel
theorem dX3_sell_15 : decode cX3_sell 15 = .ok (.iload 4, 2) := by decide +kernel
theorem dX3_sell_17 : decode cX3_sell 17 = .ok (.iconst 1, 1) := by decide +kernel
theorem dX3_sell_18 : decode cX3_sell 18 = .ok (.ldc 63, 2) := by decide +kernel
theorem dX3_sell_20 : decode cX3_sell 20 = .ok (.invokestatic 59, 3) := by decide +kernel
theorem dX3_sell_23 : decode cX3_sell 23 = .ok (.ifCond .ne 13, 3) := by decide +kernel
theorem dX3_sell_26 : decode cX3_sell 26 = .ok (.new 64, 3) := by decide +kernel
theorem dX3_sell_29 : decode cX3_sell 29 = .ok (.dup, 1) := by decide +kernel
theorem dX3_sell_30 : decode cX3_sell 30 = .ok (.ldc 143, 2) := by decide +kernel
theorem dX3_sell_32 : decode cX3_sell 32 = .ok (.invokespecial 68, 3) := by decide +kernel
theorem dX3_sell_35 : decode cX3_sell 35 = .ok (.athrow, 1) := by decide +kernel
theorem dX3_sell_36 : decode cX3_sell 36 = .ok (.aload_n 0, 1) := by decide +kernel
theorem dX3_sell_37 : decode cX3_sell 37 = .ok (.getfield 19, 3) := by decide +kernel
theorem dX3_sell_40 : decode cX3_sell 40 = .ok (.iload_n 1, 1) := by decide +kernel
theorem dX3_sell_41 : decode cX3_sell 41 = .ok (.iload_n 2, 1) := by decide +kernel
theorem dX3_sell_42 : decode cX3_sell 42 = .ok (.invokevirtual 145, 3) := by decide +kernel
theorem dX3_sell_45 : decode cX3_sell 45 = .ok (.iload 4, 2) := by decide +kernel
theorem dX3_sell_47 : decode cX3_sell 47 = .ok (.if_icmp .ge 13, 3) := by decide +kernel
theorem dX3_sell_50 : decode cX3_sell 50 = .ok (.new 97, 3) := by decide +kernel
theorem dX3_sell_53 : decode cX3_sell 53 = .ok (.dup, 1) := by decide +kernel
theorem dX3_sell_54 : decode cX3_sell 54 = .ok (.ldc 149, 2) := by decide +kernel
theorem dX3_sell_56 : decode cX3_sell 56 = .ok (.invokespecial 101, 3) := by decide +kernel
theorem dX3_sell_59 : decode cX3_sell 59 = .ok (.athrow, 1) := by decide +kernel
theorem dX3_sell_60 : decode cX3_sell 60 = .ok (.aload_n 0, 1) := by decide +kernel
theorem dX3_sell_61 : decode cX3_sell 61 = .ok (.getfield 19, 3) := by decide +kernel
theorem dX3_sell_64 : decode cX3_sell 64 = .ok (.iload_n 2, 1) := by decide +kernel
theorem dX3_sell_65 : decode cX3_sell 65 = .ok (.iload_n 3, 1) := by decide +kernel
theorem dX3_sell_66 : decode cX3_sell 66 = .ok (.invokevirtual 151, 3) := by decide +kernel
theorem dX3_sell_69 : decode cX3_sell 69 = .ok (.ifCond .ne 27, 3) := by decide +kernel
theorem dX3_sell_72 : decode cX3_sell 72 = .ok (.aload_n 0, 1) := by decide +kernel
theorem dX3_sell_73 : decode cX3_sell 73 = .ok (.getfield 19, 3) := by decide +kernel
theorem dX3_sell_76 : decode cX3_sell 76 = .ok (.iload_n 1, 1) := by decide +kernel
theorem dX3_sell_77 : decode cX3_sell 77 = .ok (.iload_n 3, 1) := by decide +kernel
theorem dX3_sell_78 : decode cX3_sell 78 = .ok (.iload 4, 2) := by decide +kernel
theorem dX3_sell_80 : decode cX3_sell 80 = .ok (.invokevirtual 134, 3) := by decide +kernel
theorem dX3_sell_83 : decode cX3_sell 83 = .ok (.ifCond .eq 13, 3) := by decide +kernel
theorem dX3_sell_86 : decode cX3_sell 86 = .ok (.new 97, 3) := by decide +kernel
theorem dX3_sell_89 : decode cX3_sell 89 = .ok (.dup, 1) := by decide +kernel
theorem dX3_sell_90 : decode cX3_sell 90 = .ok (.ldc 154, 2) := by decide +kernel
theorem dX3_sell_92 : decode cX3_sell 92 = .ok (.invokespecial 101, 3) := by decide +kernel
theorem dX3_sell_95 : decode cX3_sell 95 = .ok (.athrow, 1) := by decide +kernel
theorem dX3_sell_96 : decode cX3_sell 96 = .ok (.aload_n 0, 1) := by decide +kernel
theorem dX3_sell_97 : decode cX3_sell 97 = .ok (.getfield 19, 3) := by decide +kernel
theorem dX3_sell_100 : decode cX3_sell 100 = .ok (.iload_n 1, 1) := by decide +kernel
theorem dX3_sell_101 : decode cX3_sell 101 = .ok (.iload_n 2, 1) := by decide +kernel
theorem dX3_sell_102 : decode cX3_sell 102 = .ok (.iload 4, 2) := by decide +kernel
theorem dX3_sell_104 : decode cX3_sell 104 = .ok (.ineg, 1) := by decide +kernel
theorem dX3_sell_105 : decode cX3_sell 105 = .ok (.invokevirtual 139, 3) := by decide +kernel
theorem dX3_sell_108 : decode cX3_sell 108 = .ok (.pop, 1) := by decide +kernel
theorem dX3_sell_109 : decode cX3_sell 109 = .ok (.aload_n 0, 1) := by decide +kernel
theorem dX3_sell_110 : decode cX3_sell 110 = .ok (.getfield 19, 3) := by decide +kernel
theorem dX3_sell_113 : decode cX3_sell 113 = .ok (.iload_n 1, 1) := by decide +kernel
theorem dX3_sell_114 : decode cX3_sell 114 = .ok (.iload_n 3, 1) := by decide +kernel
theorem dX3_sell_115 : decode cX3_sell 115 = .ok (.iload 4, 2) := by decide +kernel
theorem dX3_sell_117 : decode cX3_sell 117 = .ok (.invokevirtual 139, 3) := by decide +kernel
theorem dX3_sell_120 : decode cX3_sell 120 = .ok (.pop, 1) := by decide +kernel
theorem dX3_sell_121 : decode cX3_sell 121 = .ok (.return_, 1) := by decide +kernel
theorem dX3_place_0 : decode cX3_place 0 = .ok (.iload_n 1, 1) := by decide +kernel
theorem dX3_place_1 : decode cX3_place 1 = .ok (.invokestatic 55, 3) := by decide +kernel
theorem dX3_place_4 : decode cX3_place 4 = .ok (.ifCond .eq 10, 3) := by decide +kernel
theorem dX3_place_7 : decode cX3_place 7 = .ok (.iload_n 2, 1) := by decide +kernel
theorem dX3_place_8 : decode cX3_place 8 = .ok (.invokestatic 86, 3) := by decide +kernel
theorem dX3_place_11 : decode cX3_place 11 = .ok (.ifCond .ne 13, 3) := by decide +kernel
theorem dX3_place_14 : decode cX3_place 14 = .ok (.new 64, 3) := by decide +kernel
theorem dX3_place_17 : decode cX3_place 17 = .ok (.dup, 1) := by decide +kernel
theorem dX3_place_18 : decode cX3_place 18 = .ok (.ldc 156, 2) := by decide +kernel
theorem dX3_place_20 : decode cX3_place 20 = .ok (.invokespecial 68, 3) := by decide +kernel
theorem dX3_place_23 : decode cX3_place 23 = .ok (.athrow, 1) := by decide +kernel
theorem dX3_place_24 : decode cX3_place 24 = .ok (.iload_n 3, 1) := by decide +kernel
theorem dX3_place_25 : decode cX3_place 25 = .ok (.aload_n 0, 1) := by decide +kernel
theorem dX3_place_26 : decode cX3_place 26 = .ok (.getfield 19, 3) := by decide +kernel
theorem dX3_place_29 : decode cX3_place 29 = .ok (.iload_n 1, 1) := by decide +kernel
theorem dX3_place_30 : decode cX3_place 30 = .ok (.aload_n 0, 1) := by decide +kernel
theorem dX3_place_31 : decode cX3_place 31 = .ok (.getfield 19, 3) := by decide +kernel
theorem dX3_place_34 : decode cX3_place 34 = .ok (.iload_n 2, 1) := by decide +kernel
theorem dX3_place_35 : decode cX3_place 35 = .ok (.invokevirtual 158, 3) := by decide +kernel
theorem dX3_place_38 : decode cX3_place 38 = .ok (.invokevirtual 145, 3) := by decide +kernel
theorem dX3_place_41 : decode cX3_place 41 = .ok (.if_icmp .le 13, 3) := by decide +kernel
theorem dX3_place_44 : decode cX3_place 44 = .ok (.new 97, 3) := by decide +kernel
theorem dX3_place_47 : decode cX3_place 47 = .ok (.dup, 1) := by decide +kernel
theorem dX3_place_48 : decode cX3_place 48 = .ok (.ldc 149, 2) := by decide +kernel
theorem dX3_place_50 : decode cX3_place 50 = .ok (.invokespecial 101, 3) := by decide +kernel
theorem dX3_place_53 : decode cX3_place 53 = .ok (.athrow, 1) := by decide +kernel
theorem dX3_place_54 : decode cX3_place 54 = .ok (.iload_n 3, 1) := by decide +kernel
theorem dX3_place_55 : decode cX3_place 55 = .ok (.aload_n 0, 1) := by decide +kernel
theorem dX3_place_56 : decode cX3_place 56 = .ok (.getfield 19, 3) := by decide +kernel
theorem dX3_place_59 : decode cX3_place 59 = .ok (.iload_n 1, 1) := by decide +kernel
theorem dX3_place_60 : decode cX3_place 60 = .ok (.iload_n 2, 1) := by decide +kernel
theorem dX3_place_61 : decode cX3_place 61 = .ok (.invokevirtual 161, 3) := by decide +kernel
theorem dX3_place_64 : decode cX3_place 64 = .ok (.ineg, 1) := by decide +kernel
theorem dX3_place_65 : decode cX3_place 65 = .ok (.if_icmp .ge 13, 3) := by decide +kernel
theorem dX3_place_68 : decode cX3_place 68 = .ok (.new 97, 3) := by decide +kernel
theorem dX3_place_71 : decode cX3_place 71 = .ok (.dup, 1) := by decide +kernel
theorem dX3_place_72 : decode cX3_place 72 = .ok (.ldc 164, 2) := by decide +kernel
theorem dX3_place_74 : decode cX3_place 74 = .ok (.invokespecial 101, 3) := by decide +kernel
theorem dX3_place_77 : decode cX3_place 77 = .ok (.athrow, 1) := by decide +kernel
theorem dX3_place_78 : decode cX3_place 78 = .ok (.aload_n 0, 1) := by decide +kernel
theorem dX3_place_79 : decode cX3_place 79 = .ok (.getfield 19, 3) := by decide +kernel
theorem dX3_place_82 : decode cX3_place 82 = .ok (.iload_n 1, 1) := by decide +kernel
theorem dX3_place_83 : decode cX3_place 83 = .ok (.iload_n 2, 1) := by decide +kernel
theorem dX3_place_84 : decode cX3_place 84 = .ok (.iload_n 3, 1) := by decide +kernel
theorem dX3_place_85 : decode cX3_place 85 = .ok (.invokevirtual 166, 3) := by decide +kernel
theorem dX3_place_88 : decode cX3_place 88 = .ok (.ireturn, 1) := by decide +kernel
theorem dX3_open_0 : decode cX3_open 0 = .ok (.iload_n 1, 1) := by decide +kernel
theorem dX3_open_1 : decode cX3_open 1 = .ok (.invokestatic 169, 3) := by decide +kernel
theorem dX3_open_4 : decode cX3_open 4 = .ok (.ifCond .eq 25, 3) := by decide +kernel
theorem dX3_open_7 : decode cX3_open 7 = .ok (.iload_n 2, 1) := by decide +kernel
theorem dX3_open_8 : decode cX3_open 8 = .ok (.invokestatic 169, 3) := by decide +kernel
theorem dX3_open_11 : decode cX3_open 11 = .ok (.ifCond .eq 18, 3) := by decide +kernel
theorem dX3_open_14 : decode cX3_open 14 = .ok (.iload_n 3, 1) := by decide +kernel
theorem dX3_open_15 : decode cX3_open 15 = .ok (.invokestatic 169, 3) := by decide +kernel
theorem dX3_open_18 : decode cX3_open 18 = .ok (.ifCond .eq 11, 3) := by decide +kernel
theorem dX3_open_21 : decode cX3_open 21 = .ok (.iload 4, 2) := by decide +kernel
theorem dX3_open_23 : decode cX3_open 23 = .ok (.invokestatic 169, 3) := by decide +kernel
theorem dX3_open_26 : decode cX3_open 26 = .ok (.ifCond .ne 13, 3) := by decide +kernel
theorem dX3_open_29 : decode cX3_open 29 = .ok (.new 64, 3) := by decide +kernel
theorem dX3_open_32 : decode cX3_open 32 = .ok (.dup, 1) := by decide +kernel
theorem dX3_open_33 : decode cX3_open 33 = .ok (.ldc 172, 2) := by decide +kernel
theorem dX3_open_35 : decode cX3_open 35 = .ok (.invokespecial 68, 3) := by decide +kernel
theorem dX3_open_38 : decode cX3_open 38 = .ok (.athrow, 1) := by decide +kernel
theorem dX3_open_39 : decode cX3_open 39 = .ok (.aload_n 0, 1) := by decide +kernel
theorem dX3_open_40 : decode cX3_open 40 = .ok (.getfield 45, 3) := by decide +kernel
theorem dX3_open_43 : decode cX3_open 43 = .ok (.ifCond .ne 12, 3) := by decide +kernel
theorem dX3_open_46 : decode cX3_open 46 = .ok (.aload_n 0, 1) := by decide +kernel
theorem dX3_open_47 : decode cX3_open 47 = .ok (.getfield 41, 3) := by decide +kernel
theorem dX3_open_50 : decode cX3_open 50 = .ok (.bipush 8, 2) := by decide +kernel
theorem dX3_open_52 : decode cX3_open 52 = .ok (.if_icmp .lt 13, 3) := by decide +kernel
theorem dX3_open_55 : decode cX3_open 55 = .ok (.new 97, 3) := by decide +kernel
theorem dX3_open_58 : decode cX3_open 58 = .ok (.dup, 1) := by decide +kernel
theorem dX3_open_59 : decode cX3_open 59 = .ok (.ldc 174, 2) := by decide +kernel
theorem dX3_open_61 : decode cX3_open 61 = .ok (.invokespecial 101, 3) := by decide +kernel
theorem dX3_open_64 : decode cX3_open 64 = .ok (.athrow, 1) := by decide +kernel
theorem dX3_open_65 : decode cX3_open 65 = .ok (.aload_n 0, 1) := by decide +kernel
theorem dX3_open_66 : decode cX3_open 66 = .ok (.dup, 1) := by decide +kernel
theorem dX3_open_67 : decode cX3_open 67 = .ok (.getfield 41, 3) := by decide +kernel
theorem dX3_open_70 : decode cX3_open 70 = .ok (.iconst 1, 1) := by decide +kernel
theorem dX3_open_71 : decode cX3_open 71 = .ok (.iadd, 1) := by decide +kernel
theorem dX3_open_72 : decode cX3_open 72 = .ok (.putfield 41, 3) := by decide +kernel
theorem dX3_open_75 : decode cX3_open 75 = .ok (.aload_n 0, 1) := by decide +kernel
theorem dX3_open_76 : decode cX3_open 76 = .ok (.iconst 1, 1) := by decide +kernel
theorem dX3_open_77 : decode cX3_open 77 = .ok (.putfield 45, 3) := by decide +kernel
theorem dX3_open_80 : decode cX3_open 80 = .ok (.aload_n 0, 1) := by decide +kernel
theorem dX3_open_81 : decode cX3_open 81 = .ok (.getfield 26, 3) := by decide +kernel
theorem dX3_open_84 : decode cX3_open 84 = .ok (.aload_n 0, 1) := by decide +kernel
theorem dX3_open_85 : decode cX3_open 85 = .ok (.getfield 41, 3) := by decide +kernel
theorem dX3_open_88 : decode cX3_open 88 = .ok (.iconst 0, 1) := by decide +kernel
theorem dX3_open_89 : decode cX3_open 89 = .ok (.iload_n 1, 1) := by decide +kernel
theorem dX3_open_90 : decode cX3_open 90 = .ok (.aload_n 0, 1) := by decide +kernel
theorem dX3_open_91 : decode cX3_open 91 = .ok (.getfield 19, 3) := by decide +kernel
theorem dX3_open_94 : decode cX3_open 94 = .ok (.invokevirtual 176, 3) := by decide +kernel
theorem dX3_open_97 : decode cX3_open 97 = .ok (.aload_n 0, 1) := by decide +kernel
theorem dX3_open_98 : decode cX3_open 98 = .ok (.getfield 26, 3) := by decide +kernel
theorem dX3_open_101 : decode cX3_open 101 = .ok (.aload_n 0, 1) := by decide +kernel
theorem dX3_open_102 : decode cX3_open 102 = .ok (.getfield 41, 3) := by decide +kernel
theorem dX3_open_105 : decode cX3_open 105 = .ok (.iconst 1, 1) := by decide +kernel
theorem dX3_open_106 : decode cX3_open 106 = .ok (.iload_n 2, 1) := by decide +kernel
theorem dX3_open_107 : decode cX3_open 107 = .ok (.aload_n 0, 1) := by decide +kernel
theorem dX3_open_108 : decode cX3_open 108 = .ok (.getfield 19, 3) := by decide +kernel
theorem dX3_open_111 : decode cX3_open 111 = .ok (.invokevirtual 176, 3) := by decide +kernel
theorem dX3_open_114 : decode cX3_open 114 = .ok (.aload_n 0, 1) := by decide +kernel
theorem dX3_open_115 : decode cX3_open 115 = .ok (.getfield 26, 3) := by decide +kernel
theorem dX3_open_118 : decode cX3_open 118 = .ok (.aload_n 0, 1) := by decide +kernel
theorem dX3_open_119 : decode cX3_open 119 = .ok (.getfield 41, 3) := by decide +kernel
theorem dX3_open_122 : decode cX3_open 122 = .ok (.iconst 2, 1) := by decide +kernel
theorem dX3_open_123 : decode cX3_open 123 = .ok (.iload_n 3, 1) := by decide +kernel
theorem dX3_open_124 : decode cX3_open 124 = .ok (.aload_n 0, 1) := by decide +kernel
theorem dX3_open_125 : decode cX3_open 125 = .ok (.getfield 19, 3) := by decide +kernel
theorem dX3_open_128 : decode cX3_open 128 = .ok (.invokevirtual 176, 3) := by decide +kernel
theorem dX3_open_131 : decode cX3_open 131 = .ok (.aload_n 0, 1) := by decide +kernel
theorem dX3_open_132 : decode cX3_open 132 = .ok (.getfield 26, 3) := by decide +kernel
theorem dX3_open_135 : decode cX3_open 135 = .ok (.aload_n 0, 1) := by decide +kernel
theorem dX3_open_136 : decode cX3_open 136 = .ok (.getfield 41, 3) := by decide +kernel
theorem dX3_open_139 : decode cX3_open 139 = .ok (.iconst 3, 1) := by decide +kernel
theorem dX3_open_140 : decode cX3_open 140 = .ok (.iload 4, 2) := by decide +kernel
theorem dX3_open_142 : decode cX3_open 142 = .ok (.aload_n 0, 1) := by decide +kernel
theorem dX3_open_143 : decode cX3_open 143 = .ok (.getfield 19, 3) := by decide +kernel
theorem dX3_open_146 : decode cX3_open 146 = .ok (.invokevirtual 176, 3) := by decide +kernel
theorem dX3_open_149 : decode cX3_open 149 = .ok (.aload_n 0, 1) := by decide +kernel
theorem dX3_open_150 : decode cX3_open 150 = .ok (.getfield 26, 3) := by decide +kernel
theorem dX3_open_153 : decode cX3_open 153 = .ok (.aload_n 0, 1) := by decide +kernel
theorem dX3_open_154 : decode cX3_open 154 = .ok (.getfield 41, 3) := by decide +kernel
theorem dX3_open_157 : decode cX3_open 157 = .ok (.invokevirtual 180, 3) := by decide +kernel
theorem dX3_open_160 : decode cX3_open 160 = .ok (.aload_n 0, 1) := by decide +kernel
theorem dX3_open_161 : decode cX3_open 161 = .ok (.getfield 41, 3) := by decide +kernel
theorem dX3_open_164 : decode cX3_open 164 = .ok (.ireturn, 1) := by decide +kernel
theorem dX3_end_0 : decode cX3_end 0 = .ok (.aload_n 0, 1) := by decide +kernel
theorem dX3_end_1 : decode cX3_end 1 = .ok (.getfield 45, 3) := by decide +kernel
theorem dX3_end_4 : decode cX3_end 4 = .ok (.ifCond .ne 13, 3) := by decide +kernel
theorem dX3_end_7 : decode cX3_end 7 = .ok (.new 97, 3) := by decide +kernel
theorem dX3_end_10 : decode cX3_end 10 = .ok (.dup, 1) := by decide +kernel
theorem dX3_end_11 : decode cX3_end 11 = .ok (.ldc 184, 2) := by decide +kernel
theorem dX3_end_13 : decode cX3_end 13 = .ok (.invokespecial 101, 3) := by decide +kernel
theorem dX3_end_16 : decode cX3_end 16 = .ok (.athrow, 1) := by decide +kernel
theorem dX3_end_17 : decode cX3_end 17 = .ok (.aload_n 0, 1) := by decide +kernel
theorem dX3_end_18 : decode cX3_end 18 = .ok (.iconst 0, 1) := by decide +kernel
theorem dX3_end_19 : decode cX3_end 19 = .ok (.putfield 45, 3) := by decide +kernel
theorem dX3_end_22 : decode cX3_end 22 = .ok (.aload_n 0, 1) := by decide +kernel
theorem dX3_end_23 : decode cX3_end 23 = .ok (.getfield 26, 3) := by decide +kernel
theorem dX3_end_26 : decode cX3_end 26 = .ok (.aload_n 0, 1) := by decide +kernel
theorem dX3_end_27 : decode cX3_end 27 = .ok (.getfield 41, 3) := by decide +kernel
theorem dX3_end_30 : decode cX3_end 30 = .ok (.invokevirtual 186, 3) := by decide +kernel
theorem dX3_end_33 : decode cX3_end 33 = .ok (.aload_n 0, 1) := by decide +kernel
theorem dX3_end_34 : decode cX3_end 34 = .ok (.getfield 26, 3) := by decide +kernel
theorem dX3_end_37 : decode cX3_end 37 = .ok (.aload_n 0, 1) := by decide +kernel
theorem dX3_end_38 : decode cX3_end 38 = .ok (.getfield 41, 3) := by decide +kernel
theorem dX3_end_41 : decode cX3_end 41 = .ok (.invokevirtual 189, 3) := by decide +kernel
theorem dX3_end_44 : decode cX3_end 44 = .ok (.ireturn, 1) := by decide +kernel
theorem dX3_lease_0 : decode cX3_lease 0 = .ok (.iload_n 1, 1) := by decide +kernel
theorem dX3_lease_1 : decode cX3_lease 1 = .ok (.invokestatic 55, 3) := by decide +kernel
theorem dX3_lease_4 : decode cX3_lease 4 = .ok (.ifCond .eq 22, 3) := by decide +kernel
theorem dX3_lease_7 : decode cX3_lease 7 = .ok (.iload_n 2, 1) := by decide +kernel
theorem dX3_lease_8 : decode cX3_lease 8 = .ok (.iload_n 3, 1) := by decide +kernel
theorem dX3_lease_9 : decode cX3_lease 9 = .ok (.invokestatic 192, 3) := by decide +kernel
theorem dX3_lease_12 : decode cX3_lease 12 = .ok (.ifCond .eq 14, 3) := by decide +kernel
theorem dX3_lease_15 : decode cX3_lease 15 = .ok (.iload 4, 2) := by decide +kernel
theorem dX3_lease_17 : decode cX3_lease 17 = .ok (.iconst 1, 1) := by decide +kernel
theorem dX3_lease_18 : decode cX3_lease 18 = .ok (.ldc 63, 2) := by decide +kernel
theorem dX3_lease_20 : decode cX3_lease 20 = .ok (.invokestatic 59, 3) := by decide +kernel
theorem dX3_lease_23 : decode cX3_lease 23 = .ok (.ifCond .ne 13, 3) := by decide +kernel
theorem dX3_lease_26 : decode cX3_lease 26 = .ok (.new 64, 3) := by decide +kernel
theorem dX3_lease_29 : decode cX3_lease 29 = .ok (.dup, 1) := by decide +kernel
theorem dX3_lease_30 : decode cX3_lease 30 = .ok (.ldc 195, 2) := by decide +kernel
theorem dX3_lease_32 : decode cX3_lease 32 = .ok (.invokespecial 68, 3) := by decide +kernel
theorem dX3_lease_35 : decode cX3_lease 35 = .ok (.athrow, 1) := by decide +kernel
theorem dX3_lease_36 : decode cX3_lease 36 = .ok (.aload_n 0, 1) := by decide +kernel
theorem dX3_lease_37 : decode cX3_lease 37 = .ok (.getfield 45, 3) := by decide +kernel
theorem dX3_lease_40 : decode cX3_lease 40 = .ok (.ifCond .eq 13, 3) := by decide +kernel
theorem dX3_lease_43 : decode cX3_lease 43 = .ok (.aload_n 0, 1) := by decide +kernel
theorem dX3_lease_44 : decode cX3_lease 44 = .ok (.getfield 33, 3) := by decide +kernel
theorem dX3_lease_47 : decode cX3_lease 47 = .ok (.invokevirtual 197, 3) := by decide +kernel
theorem dX3_lease_50 : decode cX3_lease 50 = .ok (.ifCond .eq 13, 3) := by decide +kernel
theorem dX3_lease_53 : decode cX3_lease 53 = .ok (.new 97, 3) := by decide +kernel
theorem dX3_lease_56 : decode cX3_lease 56 = .ok (.dup, 1) := by decide +kernel
theorem dX3_lease_57 : decode cX3_lease 57 = .ok (.ldc 201, 2) := by decide +kernel
theorem dX3_lease_59 : decode cX3_lease 59 = .ok (.invokespecial 101, 3) := by decide +kernel
theorem dX3_lease_62 : decode cX3_lease 62 = .ok (.athrow, 1) := by decide +kernel
theorem dX3_lease_63 : decode cX3_lease 63 = .ok (.aload_n 0, 1) := by decide +kernel
theorem dX3_lease_64 : decode cX3_lease 64 = .ok (.getfield 26, 3) := by decide +kernel
theorem dX3_lease_67 : decode cX3_lease 67 = .ok (.aload_n 0, 1) := by decide +kernel
theorem dX3_lease_68 : decode cX3_lease 68 = .ok (.getfield 41, 3) := by decide +kernel
theorem dX3_lease_71 : decode cX3_lease 71 = .ok (.iload_n 2, 1) := by decide +kernel
theorem dX3_lease_72 : decode cX3_lease 72 = .ok (.iload_n 1, 1) := by decide +kernel
theorem dX3_lease_73 : decode cX3_lease 73 = .ok (.iload 4, 2) := by decide +kernel
theorem dX3_lease_75 : decode cX3_lease 75 = .ok (.invokevirtual 203, 3) := by decide +kernel
theorem dX3_lease_78 : decode cX3_lease 78 = .ok (.ifCond .ne 13, 3) := by decide +kernel
theorem dX3_lease_81 : decode cX3_lease 81 = .ok (.new 97, 3) := by decide +kernel
theorem dX3_lease_84 : decode cX3_lease 84 = .ok (.dup, 1) := by decide +kernel
theorem dX3_lease_85 : decode cX3_lease 85 = .ok (.ldc 207, 2) := by decide +kernel
theorem dX3_lease_87 : decode cX3_lease 87 = .ok (.invokespecial 101, 3) := by decide +kernel
theorem dX3_lease_90 : decode cX3_lease 90 = .ok (.athrow, 1) := by decide +kernel
theorem dX3_lease_91 : decode cX3_lease 91 = .ok (.aload_n 0, 1) := by decide +kernel
theorem dX3_lease_92 : decode cX3_lease 92 = .ok (.getfield 33, 3) := by decide +kernel
theorem dX3_lease_95 : decode cX3_lease 95 = .ok (.iconst 0, 1) := by decide +kernel
theorem dX3_lease_96 : decode cX3_lease 96 = .ok (.aload_n 0, 1) := by decide +kernel
theorem dX3_lease_97 : decode cX3_lease 97 = .ok (.getfield 41, 3) := by decide +kernel
theorem dX3_lease_100 : decode cX3_lease 100 = .ok (.iload_n 2, 1) := by decide +kernel
theorem dX3_lease_101 : decode cX3_lease 101 = .ok (.iload_n 1, 1) := by decide +kernel
theorem dX3_lease_102 : decode cX3_lease 102 = .ok (.iload_n 3, 1) := by decide +kernel
theorem dX3_lease_103 : decode cX3_lease 103 = .ok (.iload 4, 2) := by decide +kernel
theorem dX3_lease_105 : decode cX3_lease 105 = .ok (.iload 4, 2) := by decide +kernel
theorem dX3_lease_107 : decode cX3_lease 107 = .ok (.invokevirtual 209, 3) := by decide +kernel
theorem dX3_lease_110 : decode cX3_lease 110 = .ok (.istore 5, 2) := by decide +kernel
theorem dX3_lease_112 : decode cX3_lease 112 = .ok (.aload_n 0, 1) := by decide +kernel
theorem dX3_lease_113 : decode cX3_lease 113 = .ok (.getfield 33, 3) := by decide +kernel
theorem dX3_lease_116 : decode cX3_lease 116 = .ok (.iload 5, 2) := by decide +kernel
theorem dX3_lease_118 : decode cX3_lease 118 = .ok (.aload_n 0, 1) := by decide +kernel
theorem dX3_lease_119 : decode cX3_lease 119 = .ok (.getfield 26, 3) := by decide +kernel
theorem dX3_lease_122 : decode cX3_lease 122 = .ok (.invokevirtual 213, 3) := by decide +kernel
theorem dX3_lease_125 : decode cX3_lease 125 = .ok (.iload 5, 2) := by decide +kernel
theorem dX3_lease_127 : decode cX3_lease 127 = .ok (.ireturn, 1) := by decide +kernel
theorem dX3_land_0 : decode cX3_land 0 = .ok (.aload_n 0, 1) := by decide +kernel
theorem dX3_land_1 : decode cX3_land 1 = .ok (.iload_n 1, 1) := by decide +kernel
theorem dX3_land_2 : decode cX3_land 2 = .ok (.invokevirtual 217, 3) := by decide +kernel
theorem dX3_land_5 : decode cX3_land 5 = .ok (.ifCond .eq 36, 3) := by decide +kernel
theorem dX3_land_8 : decode cX3_land 8 = .ok (.iload_n 2, 1) := by decide +kernel
theorem dX3_land_9 : decode cX3_land 9 = .ok (.invokestatic 86, 3) := by decide +kernel
theorem dX3_land_12 : decode cX3_land 12 = .ok (.ifCond .eq 29, 3) := by decide +kernel
theorem dX3_land_15 : decode cX3_land 15 = .ok (.iload_n 3, 1) := by decide +kernel
theorem dX3_land_16 : decode cX3_land 16 = .ok (.invokestatic 55, 3) := by decide +kernel
theorem dX3_land_19 : decode cX3_land 19 = .ok (.ifCond .eq 22, 3) := by decide +kernel
theorem dX3_land_22 : decode cX3_land 22 = .ok (.iload 4, 2) := by decide +kernel
theorem dX3_land_24 : decode cX3_land 24 = .ok (.invokestatic 81, 3) := by decide +kernel
theorem dX3_land_27 : decode cX3_land 27 = .ok (.ifCond .eq 14, 3) := by decide +kernel
theorem dX3_land_30 : decode cX3_land 30 = .ok (.iload 5, 2) := by decide +kernel
theorem dX3_land_32 : decode cX3_land 32 = .ok (.iconst 1, 1) := by decide +kernel
theorem dX3_land_33 : decode cX3_land 33 = .ok (.ldc 63, 2) := by decide +kernel
theorem dX3_land_35 : decode cX3_land 35 = .ok (.invokestatic 59, 3) := by decide +kernel
theorem dX3_land_38 : decode cX3_land 38 = .ok (.ifCond .ne 13, 3) := by decide +kernel
theorem dX3_land_41 : decode cX3_land 41 = .ok (.new 64, 3) := by decide +kernel
theorem dX3_land_44 : decode cX3_land 44 = .ok (.dup, 1) := by decide +kernel
theorem dX3_land_45 : decode cX3_land 45 = .ok (.ldc 220, 2) := by decide +kernel
theorem dX3_land_47 : decode cX3_land 47 = .ok (.invokespecial 68, 3) := by decide +kernel
theorem dX3_land_50 : decode cX3_land 50 = .ok (.athrow, 1) := by decide +kernel
theorem dX3_land_51 : decode cX3_land 51 = .ok (.aload_n 0, 1) := by decide +kernel
theorem dX3_land_52 : decode cX3_land 52 = .ok (.getfield 13, 3) := by decide +kernel
theorem dX3_land_55 : decode cX3_land 55 = .ok (.iload_n 3, 1) := by decide +kernel
theorem dX3_land_56 : decode cX3_land 56 = .ok (.iconst 3, 1) := by decide +kernel
theorem dX3_land_57 : decode cX3_land 57 = .ok (.imul, 1) := by decide +kernel
theorem dX3_land_58 : decode cX3_land 58 = .ok (.iload 4, 2) := by decide +kernel
theorem dX3_land_60 : decode cX3_land 60 = .ok (.iadd, 1) := by decide +kernel
theorem dX3_land_61 : decode cX3_land 61 = .ok (.iaload, 1) := by decide +kernel
theorem dX3_land_62 : decode cX3_land 62 = .ok (.istore 7, 2) := by decide +kernel
theorem dX3_land_64 : decode cX3_land 64 = .ok (.iload 7, 2) := by decide +kernel
theorem dX3_land_66 : decode cX3_land 66 = .ok (.ifCond .ne 13, 3) := by decide +kernel
theorem dX3_land_69 : decode cX3_land 69 = .ok (.new 64, 3) := by decide +kernel
theorem dX3_land_72 : decode cX3_land 72 = .ok (.dup, 1) := by decide +kernel
theorem dX3_land_73 : decode cX3_land 73 = .ok (.ldc 222, 2) := by decide +kernel
theorem dX3_land_75 : decode cX3_land 75 = .ok (.invokespecial 68, 3) := by decide +kernel
theorem dX3_land_78 : decode cX3_land 78 = .ok (.athrow, 1) := by decide +kernel
theorem dX3_land_79 : decode cX3_land 79 = .ok (.aload_n 0, 1) := by decide +kernel
theorem dX3_land_80 : decode cX3_land 80 = .ok (.iload_n 1, 1) := by decide +kernel
theorem dX3_land_81 : decode cX3_land 81 = .ok (.invokevirtual 224, 3) := by decide +kernel
theorem dX3_land_84 : decode cX3_land 84 = .ok (.ifCond .eq 13, 3) := by decide +kernel
theorem dX3_land_87 : decode cX3_land 87 = .ok (.aload_n 0, 1) := by decide +kernel
theorem dX3_land_88 : decode cX3_land 88 = .ok (.getfield 33, 3) := by decide +kernel
theorem dX3_land_91 : decode cX3_land 91 = .ok (.invokevirtual 197, 3) := by decide +kernel
theorem dX3_land_94 : decode cX3_land 94 = .ok (.ifCond .eq 13, 3) := by decide +kernel
theorem dX3_land_97 : decode cX3_land 97 = .ok (.new 97, 3) := by decide +kernel
theorem dX3_land_100 : decode cX3_land 100 = .ok (.dup, 1) := by decide +kernel
theorem dX3_land_101 : decode cX3_land 101 = .ok (.ldc 227, 2) := by decide +kernel
theorem dX3_land_103 : decode cX3_land 103 = .ok (.invokespecial 101, 3) := by decide +kernel
theorem dX3_land_106 : decode cX3_land 106 = .ok (.athrow, 1) := by decide +kernel
theorem dX3_land_107 : decode cX3_land 107 = .ok (.aload_n 0, 1) := by decide +kernel
theorem dX3_land_108 : decode cX3_land 108 = .ok (.getfield 33, 3) := by decide +kernel
theorem dX3_land_111 : decode cX3_land 111 = .ok (.iconst 1, 1) := by decide +kernel
theorem dX3_land_112 : decode cX3_land 112 = .ok (.iload_n 1, 1) := by decide +kernel
theorem dX3_land_113 : decode cX3_land 113 = .ok (.iload_n 2, 1) := by decide +kernel
theorem dX3_land_114 : decode cX3_land 114 = .ok (.iload_n 3, 1) := by decide +kernel
theorem dX3_land_115 : decode cX3_land 115 = .ok (.iconst (-1), 1) := by decide +kernel
theorem dX3_land_116 : decode cX3_land 116 = .ok (.iload 5, 2) := by decide +kernel
theorem dX3_land_118 : decode cX3_land 118 = .ok (.iload 5, 2) := by decide +kernel
theorem dX3_land_120 : decode cX3_land 120 = .ok (.iload 7, 2) := by decide +kernel
theorem dX3_land_122 : decode cX3_land 122 = .ok (.iload 6, 2) := by decide +kernel
theorem dX3_land_124 : decode cX3_land 124 = .ok (.invokestatic 229, 3) := by decide +kernel
theorem dX3_land_127 : decode cX3_land 127 = .ok (.invokevirtual 209, 3) := by decide +kernel
theorem dX3_land_130 : decode cX3_land 130 = .ok (.istore 8, 2) := by decide +kernel
theorem dX3_land_132 : decode cX3_land 132 = .ok (.aload_n 0, 1) := by decide +kernel
theorem dX3_land_133 : decode cX3_land 133 = .ok (.iload_n 1, 1) := by decide +kernel
theorem dX3_land_134 : decode cX3_land 134 = .ok (.invokevirtual 233, 3) := by decide +kernel
theorem dX3_land_137 : decode cX3_land 137 = .ok (.iload 8, 2) := by decide +kernel
theorem dX3_land_139 : decode cX3_land 139 = .ok (.ireturn, 1) := by decide +kernel
theorem dX3_equivalent_0 : decode cX3_equivalent 0 = .ok (.iload_n 1, 1) := by decide +kernel
theorem dX3_equivalent_1 : decode cX3_equivalent 1 = .ok (.invokestatic 86, 3) := by decide +kernel
theorem dX3_equivalent_4 : decode cX3_equivalent 4 = .ok (.ifCond .eq 23, 3) := by decide +kernel
theorem dX3_equivalent_7 : decode cX3_equivalent 7 = .ok (.iload_n 2, 1) := by decide +kernel
theorem dX3_equivalent_8 : decode cX3_equivalent 8 = .ok (.iload_n 3, 1) := by decide +kernel
theorem dX3_equivalent_9 : decode cX3_equivalent 9 = .ok (.invokestatic 236, 3) := by decide +kernel
theorem dX3_equivalent_12 : decode cX3_equivalent 12 = .ok (.ifCond .eq 15, 3) := by decide +kernel
theorem dX3_equivalent_15 : decode cX3_equivalent 15 = .ok (.iload 4, 2) := by decide +kernel
theorem dX3_equivalent_17 : decode cX3_equivalent 17 = .ok (.iconst 1, 1) := by decide +kernel
theorem dX3_equivalent_18 : decode cX3_equivalent 18 = .ok (.sipush 1000, 3) := by decide +kernel
theorem dX3_equivalent_21 : decode cX3_equivalent 21 = .ok (.invokestatic 59, 3) := by decide +kernel
theorem dX3_equivalent_24 : decode cX3_equivalent 24 = .ok (.ifCond .ne 13, 3) := by decide +kernel
theorem dX3_equivalent_27 : decode cX3_equivalent 27 = .ok (.new 64, 3) := by decide +kernel
theorem dX3_equivalent_30 : decode cX3_equivalent 30 = .ok (.dup, 1) := by decide +kernel
theorem dX3_equivalent_31 : decode cX3_equivalent 31 = .ok (.ldc 239, 2) := by decide +kernel
theorem dX3_equivalent_33 : decode cX3_equivalent 33 = .ok (.invokespecial 68, 3) := by decide +kernel
theorem dX3_equivalent_36 : decode cX3_equivalent 36 = .ok (.athrow, 1) := by decide +kernel
theorem dX3_equivalent_37 : decode cX3_equivalent 37 = .ok (.aload_n 0, 1) := by decide +kernel
theorem dX3_equivalent_38 : decode cX3_equivalent 38 = .ok (.getfield 45, 3) := by decide +kernel
theorem dX3_equivalent_41 : decode cX3_equivalent 41 = .ok (.ifCond .eq 13, 3) := by decide +kernel
theorem dX3_equivalent_44 : decode cX3_equivalent 44 = .ok (.aload_n 0, 1) := by decide +kernel
theorem dX3_equivalent_45 : decode cX3_equivalent 45 = .ok (.getfield 33, 3) := by decide +kernel
theorem dX3_equivalent_48 : decode cX3_equivalent 48 = .ok (.invokevirtual 197, 3) := by decide +kernel
theorem dX3_equivalent_51 : decode cX3_equivalent 51 = .ok (.ifCond .eq 13, 3) := by decide +kernel
theorem dX3_equivalent_54 : decode cX3_equivalent 54 = .ok (.new 97, 3) := by decide +kernel
theorem dX3_equivalent_57 : decode cX3_equivalent 57 = .ok (.dup, 1) := by decide +kernel
theorem dX3_equivalent_58 : decode cX3_equivalent 58 = .ok (.ldc 201, 2) := by decide +kernel
theorem dX3_equivalent_60 : decode cX3_equivalent 60 = .ok (.invokespecial 101, 3) := by decide +kernel
theorem dX3_equivalent_63 : decode cX3_equivalent 63 = .ok (.athrow, 1) := by decide +kernel
theorem dX3_equivalent_64 : decode cX3_equivalent 64 = .ok (.iload 4, 2) := by decide +kernel
theorem dX3_equivalent_66 : decode cX3_equivalent 66 = .ok (.aload_n 0, 1) := by decide +kernel
theorem dX3_equivalent_67 : decode cX3_equivalent 67 = .ok (.getfield 9, 3) := by decide +kernel
theorem dX3_equivalent_70 : decode cX3_equivalent 70 = .ok (.iload_n 2, 1) := by decide +kernel
theorem dX3_equivalent_71 : decode cX3_equivalent 71 = .ok (.iaload, 1) := by decide +kernel
theorem dX3_equivalent_72 : decode cX3_equivalent 72 = .ok (.aload_n 0, 1) := by decide +kernel
theorem dX3_equivalent_73 : decode cX3_equivalent 73 = .ok (.getfield 9, 3) := by decide +kernel
theorem dX3_equivalent_76 : decode cX3_equivalent 76 = .ok (.iload_n 3, 1) := by decide +kernel
theorem dX3_equivalent_77 : decode cX3_equivalent 77 = .ok (.iaload, 1) := by decide +kernel
theorem dX3_equivalent_78 : decode cX3_equivalent 78 = .ok (.invokestatic 241, 3) := by decide +kernel
theorem dX3_equivalent_81 : decode cX3_equivalent 81 = .ok (.istore 5, 2) := by decide +kernel
theorem dX3_equivalent_83 : decode cX3_equivalent 83 = .ok (.aload_n 0, 1) := by decide +kernel
theorem dX3_equivalent_84 : decode cX3_equivalent 84 = .ok (.getfield 26, 3) := by decide +kernel
theorem dX3_equivalent_87 : decode cX3_equivalent 87 = .ok (.aload_n 0, 1) := by decide +kernel
theorem dX3_equivalent_88 : decode cX3_equivalent 88 = .ok (.getfield 41, 3) := by decide +kernel
theorem dX3_equivalent_91 : decode cX3_equivalent 91 = .ok (.iload_n 1, 1) := by decide +kernel
theorem dX3_equivalent_92 : decode cX3_equivalent 92 = .ok (.iload_n 2, 1) := by decide +kernel
theorem dX3_equivalent_93 : decode cX3_equivalent 93 = .ok (.iload_n 3, 1) := by decide +kernel
theorem dX3_equivalent_94 : decode cX3_equivalent 94 = .ok (.iload 4, 2) := by decide +kernel
theorem dX3_equivalent_96 : decode cX3_equivalent 96 = .ok (.iload 5, 2) := by decide +kernel
theorem dX3_equivalent_98 : decode cX3_equivalent 98 = .ok (.invokevirtual 244, 3) := by decide +kernel
theorem dX3_equivalent_101 : decode cX3_equivalent 101 = .ok (.ifCond .ne 13, 3) := by decide +kernel
theorem dX3_equivalent_104 : decode cX3_equivalent 104 = .ok (.new 97, 3) := by decide +kernel
theorem dX3_equivalent_107 : decode cX3_equivalent 107 = .ok (.dup, 1) := by decide +kernel
theorem dX3_equivalent_108 : decode cX3_equivalent 108 = .ok (.ldc 248, 2) := by decide +kernel
theorem dX3_equivalent_110 : decode cX3_equivalent 110 = .ok (.invokespecial 101, 3) := by decide +kernel
theorem dX3_equivalent_113 : decode cX3_equivalent 113 = .ok (.athrow, 1) := by decide +kernel
theorem dX3_equivalent_114 : decode cX3_equivalent 114 = .ok (.aload_n 0, 1) := by decide +kernel
theorem dX3_equivalent_115 : decode cX3_equivalent 115 = .ok (.getfield 33, 3) := by decide +kernel
theorem dX3_equivalent_118 : decode cX3_equivalent 118 = .ok (.iconst 2, 1) := by decide +kernel
theorem dX3_equivalent_119 : decode cX3_equivalent 119 = .ok (.aload_n 0, 1) := by decide +kernel
theorem dX3_equivalent_120 : decode cX3_equivalent 120 = .ok (.getfield 41, 3) := by decide +kernel
theorem dX3_equivalent_123 : decode cX3_equivalent 123 = .ok (.iload_n 1, 1) := by decide +kernel
theorem dX3_equivalent_124 : decode cX3_equivalent 124 = .ok (.iload_n 2, 1) := by decide +kernel
theorem dX3_equivalent_125 : decode cX3_equivalent 125 = .ok (.iload_n 3, 1) := by decide +kernel
theorem dX3_equivalent_126 : decode cX3_equivalent 126 = .ok (.iload 4, 2) := by decide +kernel
theorem dX3_equivalent_128 : decode cX3_equivalent 128 = .ok (.iload 5, 2) := by decide +kernel
theorem dX3_equivalent_130 : decode cX3_equivalent 130 = .ok (.invokevirtual 209, 3) := by decide +kernel
theorem dX3_equivalent_133 : decode cX3_equivalent 133 = .ok (.istore 6, 2) := by decide +kernel
theorem dX3_equivalent_135 : decode cX3_equivalent 135 = .ok (.aload_n 0, 1) := by decide +kernel
theorem dX3_equivalent_136 : decode cX3_equivalent 136 = .ok (.getfield 33, 3) := by decide +kernel
theorem dX3_equivalent_139 : decode cX3_equivalent 139 = .ok (.iload 6, 2) := by decide +kernel
theorem dX3_equivalent_141 : decode cX3_equivalent 141 = .ok (.aload_n 0, 1) := by decide +kernel
theorem dX3_equivalent_142 : decode cX3_equivalent 142 = .ok (.getfield 26, 3) := by decide +kernel
theorem dX3_equivalent_145 : decode cX3_equivalent 145 = .ok (.invokevirtual 213, 3) := by decide +kernel
theorem dX3_equivalent_148 : decode cX3_equivalent 148 = .ok (.iload 6, 2) := by decide +kernel
theorem dX3_equivalent_150 : decode cX3_equivalent 150 = .ok (.ireturn, 1) := by decide +kernel
theorem dX3_strike_0 : decode cX3_strike 0 = .ok (.aload_n 0, 1) := by decide +kernel
theorem dX3_strike_1 : decode cX3_strike 1 = .ok (.getfield 33, 3) := by decide +kernel
theorem dX3_strike_4 : decode cX3_strike 4 = .ok (.iload_n 1, 1) := by decide +kernel
theorem dX3_strike_5 : decode cX3_strike 5 = .ok (.invokevirtual 250, 3) := by decide +kernel
theorem dX3_strike_8 : decode cX3_strike 8 = .ok (.ifCond .ne 13, 3) := by decide +kernel
theorem dX3_strike_11 : decode cX3_strike 11 = .ok (.new 253, 3) := by decide +kernel
theorem dX3_strike_14 : decode cX3_strike 14 = .ok (.dup, 1) := by decide +kernel
theorem dX3_strike_15 : decode cX3_strike 15 = .ok (.ldc 255, 2) := by decide +kernel
theorem dX3_strike_17 : decode cX3_strike 17 = .ok (.invokespecial 257, 3) := by decide +kernel
theorem dX3_strike_20 : decode cX3_strike 20 = .ok (.athrow, 1) := by decide +kernel
theorem dX3_strike_21 : decode cX3_strike 21 = .ok (.aload_n 0, 1) := by decide +kernel
theorem dX3_strike_22 : decode cX3_strike 22 = .ok (.getfield 33, 3) := by decide +kernel
theorem dX3_strike_25 : decode cX3_strike 25 = .ok (.iload_n 1, 1) := by decide +kernel
theorem dX3_strike_26 : decode cX3_strike 26 = .ok (.invokevirtual 258, 3) := by decide +kernel
theorem dX3_strike_29 : decode cX3_strike 29 = .ok (.ifCond .ne 14, 3) := by decide +kernel
theorem dX3_strike_32 : decode cX3_strike 32 = .ok (.new 97, 3) := by decide +kernel
theorem dX3_strike_35 : decode cX3_strike 35 = .ok (.dup, 1) := by decide +kernel
theorem dX3_strike_36 : decode cX3_strike 36 = .ok (.ldc_w 261, 3) := by decide +kernel
theorem dX3_strike_39 : decode cX3_strike 39 = .ok (.invokespecial 101, 3) := by decide +kernel
theorem dX3_strike_42 : decode cX3_strike 42 = .ok (.athrow, 1) := by decide +kernel
theorem dX3_strike_43 : decode cX3_strike 43 = .ok (.aload_n 0, 1) := by decide +kernel
theorem dX3_strike_44 : decode cX3_strike 44 = .ok (.getfield 33, 3) := by decide +kernel
theorem dX3_strike_47 : decode cX3_strike 47 = .ok (.iload_n 1, 1) := by decide +kernel
theorem dX3_strike_48 : decode cX3_strike 48 = .ok (.invokevirtual 263, 3) := by decide +kernel
theorem dX3_strike_51 : decode cX3_strike 51 = .ok (.istore_n 2, 1) := by decide +kernel
theorem dX3_strike_52 : decode cX3_strike 52 = .ok (.aload_n 0, 1) := by decide +kernel
theorem dX3_strike_53 : decode cX3_strike 53 = .ok (.iload_n 2, 1) := by decide +kernel
theorem dX3_strike_54 : decode cX3_strike 54 = .ok (.invokevirtual 224, 3) := by decide +kernel
theorem dX3_strike_57 : decode cX3_strike 57 = .ok (.ifCond .ne 14, 3) := by decide +kernel
theorem dX3_strike_60 : decode cX3_strike 60 = .ok (.new 97, 3) := by decide +kernel
theorem dX3_strike_63 : decode cX3_strike 63 = .ok (.dup, 1) := by decide +kernel
theorem dX3_strike_64 : decode cX3_strike 64 = .ok (.ldc_w 266, 3) := by decide +kernel
theorem dX3_strike_67 : decode cX3_strike 67 = .ok (.invokespecial 101, 3) := by decide +kernel
theorem dX3_strike_70 : decode cX3_strike 70 = .ok (.athrow, 1) := by decide +kernel
theorem dX3_strike_71 : decode cX3_strike 71 = .ok (.aload_n 0, 1) := by decide +kernel
theorem dX3_strike_72 : decode cX3_strike 72 = .ok (.getfield 33, 3) := by decide +kernel
theorem dX3_strike_75 : decode cX3_strike 75 = .ok (.iload_n 1, 1) := by decide +kernel
theorem dX3_strike_76 : decode cX3_strike 76 = .ok (.invokevirtual 268, 3) := by decide +kernel
theorem dX3_strike_79 : decode cX3_strike 79 = .ok (.aload_n 0, 1) := by decide +kernel
theorem dX3_strike_80 : decode cX3_strike 80 = .ok (.iload_n 2, 1) := by decide +kernel
theorem dX3_strike_81 : decode cX3_strike 81 = .ok (.invokevirtual 233, 3) := by decide +kernel
theorem dX3_strike_84 : decode cX3_strike 84 = .ok (.return_, 1) := by decide +kernel
theorem dX3_reopen_0 : decode cX3_reopen 0 = .ok (.aload_n 0, 1) := by decide +kernel
theorem dX3_reopen_1 : decode cX3_reopen 1 = .ok (.iload_n 1, 1) := by decide +kernel
theorem dX3_reopen_2 : decode cX3_reopen 2 = .ok (.invokevirtual 217, 3) := by decide +kernel
theorem dX3_reopen_5 : decode cX3_reopen 5 = .ok (.ifCond .ne 14, 3) := by decide +kernel
theorem dX3_reopen_8 : decode cX3_reopen 8 = .ok (.new 64, 3) := by decide +kernel
theorem dX3_reopen_11 : decode cX3_reopen 11 = .ok (.dup, 1) := by decide +kernel
theorem dX3_reopen_12 : decode cX3_reopen 12 = .ok (.ldc_w 271, 3) := by decide +kernel
theorem dX3_reopen_15 : decode cX3_reopen 15 = .ok (.invokespecial 68, 3) := by decide +kernel
theorem dX3_reopen_18 : decode cX3_reopen 18 = .ok (.athrow, 1) := by decide +kernel
theorem dX3_reopen_19 : decode cX3_reopen 19 = .ok (.aload_n 0, 1) := by decide +kernel
theorem dX3_reopen_20 : decode cX3_reopen 20 = .ok (.iload_n 1, 1) := by decide +kernel
theorem dX3_reopen_21 : decode cX3_reopen 21 = .ok (.invokevirtual 224, 3) := by decide +kernel
theorem dX3_reopen_24 : decode cX3_reopen 24 = .ok (.ifCond .eq 14, 3) := by decide +kernel
theorem dX3_reopen_27 : decode cX3_reopen 27 = .ok (.new 97, 3) := by decide +kernel
theorem dX3_reopen_30 : decode cX3_reopen 30 = .ok (.dup, 1) := by decide +kernel
theorem dX3_reopen_31 : decode cX3_reopen 31 = .ok (.ldc_w 273, 3) := by decide +kernel
theorem dX3_reopen_34 : decode cX3_reopen 34 = .ok (.invokespecial 101, 3) := by decide +kernel
theorem dX3_reopen_37 : decode cX3_reopen 37 = .ok (.athrow, 1) := by decide +kernel
theorem dX3_reopen_38 : decode cX3_reopen 38 = .ok (.aload_n 0, 1) := by decide +kernel
theorem dX3_reopen_39 : decode cX3_reopen 39 = .ok (.getfield 37, 3) := by decide +kernel
theorem dX3_reopen_42 : decode cX3_reopen 42 = .ok (.iload_n 1, 1) := by decide +kernel
theorem dX3_reopen_43 : decode cX3_reopen 43 = .ok (.iconst 1, 1) := by decide +kernel
theorem dX3_reopen_44 : decode cX3_reopen 44 = .ok (.bastore, 1) := by decide +kernel
theorem dX3_reopen_45 : decode cX3_reopen 45 = .ok (.return_, 1) := by decide +kernel
theorem dX3_account_0 : decode cX3_account 0 = .ok (.aload_n 0, 1) := by decide +kernel
theorem dX3_account_1 : decode cX3_account 1 = .ok (.iload_n 1, 1) := by decide +kernel
theorem dX3_account_2 : decode cX3_account 2 = .ok (.invokevirtual 217, 3) := by decide +kernel
theorem dX3_account_5 : decode cX3_account 5 = .ok (.ifCond .eq 28, 3) := by decide +kernel
theorem dX3_account_8 : decode cX3_account 8 = .ok (.iload_n 2, 1) := by decide +kernel
theorem dX3_account_9 : decode cX3_account 9 = .ok (.invokestatic 86, 3) := by decide +kernel
theorem dX3_account_12 : decode cX3_account 12 = .ok (.ifCond .eq 21, 3) := by decide +kernel
theorem dX3_account_15 : decode cX3_account 15 = .ok (.iload_n 3, 1) := by decide +kernel
theorem dX3_account_16 : decode cX3_account 16 = .ok (.invokestatic 55, 3) := by decide +kernel
theorem dX3_account_19 : decode cX3_account 19 = .ok (.ifCond .eq 14, 3) := by decide +kernel
theorem dX3_account_22 : decode cX3_account 22 = .ok (.iload 4, 2) := by decide +kernel
theorem dX3_account_24 : decode cX3_account 24 = .ok (.iconst 0, 1) := by decide +kernel
theorem dX3_account_25 : decode cX3_account 25 = .ok (.bipush 8, 2) := by decide +kernel
theorem dX3_account_27 : decode cX3_account 27 = .ok (.invokestatic 59, 3) := by decide +kernel
theorem dX3_account_30 : decode cX3_account 30 = .ok (.ifCond .ne 14, 3) := by decide +kernel
theorem dX3_account_33 : decode cX3_account 33 = .ok (.new 64, 3) := by decide +kernel
theorem dX3_account_36 : decode cX3_account 36 = .ok (.dup, 1) := by decide +kernel
theorem dX3_account_37 : decode cX3_account 37 = .ok (.ldc_w 275, 3) := by decide +kernel
theorem dX3_account_40 : decode cX3_account 40 = .ok (.invokespecial 68, 3) := by decide +kernel
theorem dX3_account_43 : decode cX3_account 43 = .ok (.athrow, 1) := by decide +kernel
theorem dX3_account_44 : decode cX3_account 44 = .ok (.aload_n 0, 1) := by decide +kernel
theorem dX3_account_45 : decode cX3_account 45 = .ok (.getfield 26, 3) := by decide +kernel
theorem dX3_account_48 : decode cX3_account 48 = .ok (.iload_n 1, 1) := by decide +kernel
theorem dX3_account_49 : decode cX3_account 49 = .ok (.iload_n 2, 1) := by decide +kernel
theorem dX3_account_50 : decode cX3_account 50 = .ok (.iload_n 3, 1) := by decide +kernel
theorem dX3_account_51 : decode cX3_account 51 = .ok (.invokestatic 277, 3) := by decide +kernel
theorem dX3_account_54 : decode cX3_account 54 = .ok (.iload 4, 2) := by decide +kernel
theorem dX3_account_56 : decode cX3_account 56 = .ok (.invokevirtual 280, 3) := by decide +kernel
theorem dX3_account_59 : decode cX3_account 59 = .ok (.ireturn, 1) := by decide +kernel
theorem dX3_levy_0 : decode cX3_levy 0 = .ok (.iload_n 1, 1) := by decide +kernel
theorem dX3_levy_1 : decode cX3_levy 1 = .ok (.invokestatic 89, 3) := by decide +kernel
theorem dX3_levy_4 : decode cX3_levy 4 = .ok (.ifCond .eq 11, 3) := by decide +kernel
theorem dX3_levy_7 : decode cX3_levy 7 = .ok (.aload_n 0, 1) := by decide +kernel
theorem dX3_levy_8 : decode cX3_levy 8 = .ok (.iload_n 2, 1) := by decide +kernel
theorem dX3_levy_9 : decode cX3_levy 9 = .ok (.invokevirtual 217, 3) := by decide +kernel
theorem dX3_levy_12 : decode cX3_levy 12 = .ok (.ifCond .ne 14, 3) := by decide +kernel
theorem dX3_levy_15 : decode cX3_levy 15 = .ok (.new 64, 3) := by decide +kernel
theorem dX3_levy_18 : decode cX3_levy 18 = .ok (.dup, 1) := by decide +kernel
theorem dX3_levy_19 : decode cX3_levy 19 = .ok (.ldc_w 283, 3) := by decide +kernel
theorem dX3_levy_22 : decode cX3_levy 22 = .ok (.invokespecial 68, 3) := by decide +kernel
theorem dX3_levy_25 : decode cX3_levy 25 = .ok (.athrow, 1) := by decide +kernel
theorem dX3_levy_26 : decode cX3_levy 26 = .ok (.lconst 0, 1) := by decide +kernel
theorem dX3_levy_27 : decode cX3_levy 27 = .ok (.lstore_n 3, 1) := by decide +kernel
theorem dX3_levy_28 : decode cX3_levy 28 = .ok (.iconst 0, 1) := by decide +kernel
theorem dX3_levy_29 : decode cX3_levy 29 = .ok (.istore 5, 2) := by decide +kernel
theorem dX3_levy_31 : decode cX3_levy 31 = .ok (.iload 5, 2) := by decide +kernel
theorem dX3_levy_33 : decode cX3_levy 33 = .ok (.bipush 6, 2) := by decide +kernel
theorem dX3_levy_35 : decode cX3_levy 35 = .ok (.if_icmp .ge 32, 3) := by decide +kernel
theorem dX3_levy_38 : decode cX3_levy 38 = .ok (.aload_n 0, 1) := by decide +kernel
theorem dX3_levy_39 : decode cX3_levy 39 = .ok (.getfield 19, 3) := by decide +kernel
theorem dX3_levy_42 : decode cX3_levy 42 = .ok (.iload 5, 2) := by decide +kernel
theorem dX3_levy_44 : decode cX3_levy 44 = .ok (.invokevirtual 158, 3) := by decide +kernel
theorem dX3_levy_47 : decode cX3_levy 47 = .ok (.iload_n 1, 1) := by decide +kernel
theorem dX3_levy_48 : decode cX3_levy 48 = .ok (.if_icmp .ne 13, 3) := by decide +kernel
theorem dX3_levy_51 : decode cX3_levy 51 = .ok (.lload_n 3, 1) := by decide +kernel
theorem dX3_levy_52 : decode cX3_levy 52 = .ok (.aload_n 0, 1) := by decide +kernel
theorem dX3_levy_53 : decode cX3_levy 53 = .ok (.iload 5, 2) := by decide +kernel
theorem dX3_levy_55 : decode cX3_levy 55 = .ok (.iload_n 2, 1) := by decide +kernel
theorem dX3_levy_56 : decode cX3_levy 56 = .ok (.invokevirtual 285, 3) := by decide +kernel
theorem dX3_levy_59 : decode cX3_levy 59 = .ok (.ladd, 1) := by decide +kernel
theorem dX3_levy_60 : decode cX3_levy 60 = .ok (.lstore_n 3, 1) := by decide +kernel
theorem dX3_levy_61 : decode cX3_levy 61 = .ok (.iinc 5 1, 3) := by decide +kernel
theorem dX3_levy_64 : decode cX3_levy 64 = .ok (.goto (-33), 3) := by decide +kernel
theorem dX3_levy_67 : decode cX3_levy 67 = .ok (.lload_n 3, 1) := by decide +kernel
end
section
theorem dX3_levy_68 : decode cX3_levy 68 = .ok (.lreturn, 1) := by decide +kernel
theorem dX3_held_0 : decode cX3_held 0 = .ok (.iload_n 1, 1) := by decide +kernel
theorem dX3_held_1 : decode cX3_held 1 = .ok (.invokestatic 55, 3) := by decide +kernel
theorem dX3_held_4 : decode cX3_held 4 = .ok (.ifCond .eq 19, 3) := by decide +kernel
theorem dX3_held_7 : decode cX3_held 7 = .ok (.iload_n 2, 1) := by decide +kernel
theorem dX3_held_8 : decode cX3_held 8 = .ok (.invokestatic 89, 3) := by decide +kernel
theorem dX3_held_11 : decode cX3_held 11 = .ok (.ifCond .eq 12, 3) := by decide +kernel
theorem dX3_held_14 : decode cX3_held 14 = .ok (.iload_n 3, 1) := by decide +kernel
theorem dX3_held_15 : decode cX3_held 15 = .ok (.iconst 0, 1) := by decide +kernel
theorem dX3_held_16 : decode cX3_held 16 = .ok (.iconst 2, 1) := by decide +kernel
theorem dX3_held_17 : decode cX3_held 17 = .ok (.invokestatic 59, 3) := by decide +kernel
theorem dX3_held_20 : decode cX3_held 20 = .ok (.ifCond .ne 14, 3) := by decide +kernel
theorem dX3_held_23 : decode cX3_held 23 = .ok (.new 64, 3) := by decide +kernel
theorem dX3_held_26 : decode cX3_held 26 = .ok (.dup, 1) := by decide +kernel
theorem dX3_held_27 : decode cX3_held 27 = .ok (.ldc_w 289, 3) := by decide +kernel
theorem dX3_held_30 : decode cX3_held 30 = .ok (.invokespecial 68, 3) := by decide +kernel
theorem dX3_held_33 : decode cX3_held 33 = .ok (.athrow, 1) := by decide +kernel
theorem dX3_held_34 : decode cX3_held 34 = .ok (.iload_n 3, 1) := by decide +kernel
theorem dX3_held_35 : decode cX3_held 35 = .ok (.lookupswitch 45 #[(0, 25), (1, 35)], 25) := by decide +kernel
theorem dX3_held_60 : decode cX3_held 60 = .ok (.aload_n 0, 1) := by decide +kernel
theorem dX3_held_61 : decode cX3_held 61 = .ok (.getfield 19, 3) := by decide +kernel
theorem dX3_held_64 : decode cX3_held 64 = .ok (.iload_n 1, 1) := by decide +kernel
theorem dX3_held_65 : decode cX3_held 65 = .ok (.iload_n 2, 1) := by decide +kernel
theorem dX3_held_66 : decode cX3_held 66 = .ok (.invokevirtual 291, 3) := by decide +kernel
theorem dX3_held_69 : decode cX3_held 69 = .ok (.ireturn, 1) := by decide +kernel
theorem dX3_held_70 : decode cX3_held 70 = .ok (.aload_n 0, 1) := by decide +kernel
theorem dX3_held_71 : decode cX3_held 71 = .ok (.getfield 19, 3) := by decide +kernel
theorem dX3_held_74 : decode cX3_held 74 = .ok (.iload_n 1, 1) := by decide +kernel
theorem dX3_held_75 : decode cX3_held 75 = .ok (.iload_n 2, 1) := by decide +kernel
theorem dX3_held_76 : decode cX3_held 76 = .ok (.invokevirtual 145, 3) := by decide +kernel
theorem dX3_held_79 : decode cX3_held 79 = .ok (.ireturn, 1) := by decide +kernel
theorem dX3_held_80 : decode cX3_held 80 = .ok (.aload_n 0, 1) := by decide +kernel
theorem dX3_held_81 : decode cX3_held 81 = .ok (.getfield 19, 3) := by decide +kernel
theorem dX3_held_84 : decode cX3_held 84 = .ok (.iload_n 1, 1) := by decide +kernel
theorem dX3_held_85 : decode cX3_held 85 = .ok (.aload_n 0, 1) := by decide +kernel
theorem dX3_held_86 : decode cX3_held 86 = .ok (.getfield 19, 3) := by decide +kernel
theorem dX3_held_89 : decode cX3_held 89 = .ok (.iload_n 2, 1) := by decide +kernel
theorem dX3_held_90 : decode cX3_held 90 = .ok (.invokevirtual 294, 3) := by decide +kernel
theorem dX3_held_93 : decode cX3_held 93 = .ok (.invokevirtual 297, 3) := by decide +kernel
theorem dX3_held_96 : decode cX3_held 96 = .ok (.ireturn, 1) := by decide +kernel
theorem dX3_event_0 : decode cX3_event 0 = .ok (.aload_n 0, 1) := by decide +kernel
theorem dX3_event_1 : decode cX3_event 1 = .ok (.getfield 33, 3) := by decide +kernel
theorem dX3_event_4 : decode cX3_event 4 = .ok (.iload_n 1, 1) := by decide +kernel
theorem dX3_event_5 : decode cX3_event 5 = .ok (.invokevirtual 250, 3) := by decide +kernel
theorem dX3_event_8 : decode cX3_event 8 = .ok (.ifCond .ne 13, 3) := by decide +kernel
theorem dX3_event_11 : decode cX3_event 11 = .ok (.new 253, 3) := by decide +kernel
theorem dX3_event_14 : decode cX3_event 14 = .ok (.dup, 1) := by decide +kernel
theorem dX3_event_15 : decode cX3_event 15 = .ok (.ldc 255, 2) := by decide +kernel
theorem dX3_event_17 : decode cX3_event 17 = .ok (.invokespecial 257, 3) := by decide +kernel
theorem dX3_event_20 : decode cX3_event 20 = .ok (.athrow, 1) := by decide +kernel
theorem dX3_event_21 : decode cX3_event 21 = .ok (.iload_n 2, 1) := by decide +kernel
theorem dX3_event_22 : decode cX3_event 22 = .ok (.iconst 0, 1) := by decide +kernel
theorem dX3_event_23 : decode cX3_event 23 = .ok (.iconst 3, 1) := by decide +kernel
theorem dX3_event_24 : decode cX3_event 24 = .ok (.invokestatic 59, 3) := by decide +kernel
theorem dX3_event_27 : decode cX3_event 27 = .ok (.ifCond .ne 14, 3) := by decide +kernel
theorem dX3_event_30 : decode cX3_event 30 = .ok (.new 64, 3) := by decide +kernel
theorem dX3_event_33 : decode cX3_event 33 = .ok (.dup, 1) := by decide +kernel
theorem dX3_event_34 : decode cX3_event 34 = .ok (.ldc_w 300, 3) := by decide +kernel
theorem dX3_event_37 : decode cX3_event 37 = .ok (.invokespecial 68, 3) := by decide +kernel
theorem dX3_event_40 : decode cX3_event 40 = .ok (.athrow, 1) := by decide +kernel
theorem dX3_event_41 : decode cX3_event 41 = .ok (.aload_n 0, 1) := by decide +kernel
theorem dX3_event_42 : decode cX3_event 42 = .ok (.getfield 33, 3) := by decide +kernel
theorem dX3_event_45 : decode cX3_event 45 = .ok (.iload_n 1, 1) := by decide +kernel
theorem dX3_event_46 : decode cX3_event 46 = .ok (.iload_n 2, 1) := by decide +kernel
theorem dX3_event_47 : decode cX3_event 47 = .ok (.invokevirtual 302, 3) := by decide +kernel
theorem dX3_event_50 : decode cX3_event 50 = .ok (.ireturn, 1) := by decide +kernel
theorem dX3_about_0 : decode cX3_about 0 = .ok (.iload_n 1, 1) := by decide +kernel
theorem dX3_about_1 : decode cX3_about 1 = .ok (.tableswitch 65 0 3 #[31, 36, 49, 57], 31) := by decide +kernel
theorem dX3_about_32 : decode cX3_about 32 = .ok (.aload_n 0, 1) := by decide +kernel
theorem dX3_about_33 : decode cX3_about 33 = .ok (.getfield 41, 3) := by decide +kernel
theorem dX3_about_36 : decode cX3_about 36 = .ok (.ireturn, 1) := by decide +kernel
theorem dX3_about_37 : decode cX3_about 37 = .ok (.aload_n 0, 1) := by decide +kernel
theorem dX3_about_38 : decode cX3_about 38 = .ok (.getfield 45, 3) := by decide +kernel
theorem dX3_about_41 : decode cX3_about 41 = .ok (.ifCond .eq 7, 3) := by decide +kernel
theorem dX3_about_44 : decode cX3_about 44 = .ok (.iconst 1, 1) := by decide +kernel
theorem dX3_about_45 : decode cX3_about 45 = .ok (.goto 4, 3) := by decide +kernel
theorem dX3_about_48 : decode cX3_about 48 = .ok (.iconst 0, 1) := by decide +kernel
theorem dX3_about_49 : decode cX3_about 49 = .ok (.ireturn, 1) := by decide +kernel
theorem dX3_about_50 : decode cX3_about 50 = .ok (.aload_n 0, 1) := by decide +kernel
theorem dX3_about_51 : decode cX3_about 51 = .ok (.getfield 33, 3) := by decide +kernel
theorem dX3_about_54 : decode cX3_about 54 = .ok (.invokevirtual 303, 3) := by decide +kernel
theorem dX3_about_57 : decode cX3_about 57 = .ok (.ireturn, 1) := by decide +kernel
theorem dX3_about_58 : decode cX3_about 58 = .ok (.aload_n 0, 1) := by decide +kernel
theorem dX3_about_59 : decode cX3_about 59 = .ok (.getfield 33, 3) := by decide +kernel
theorem dX3_about_62 : decode cX3_about 62 = .ok (.invokevirtual 307, 3) := by decide +kernel
theorem dX3_about_65 : decode cX3_about 65 = .ok (.ireturn, 1) := by decide +kernel
theorem dX3_about_66 : decode cX3_about 66 = .ok (.new 64, 3) := by decide +kernel
theorem dX3_about_69 : decode cX3_about 69 = .ok (.dup, 1) := by decide +kernel
theorem dX3_about_70 : decode cX3_about 70 = .ok (.ldc_w 300, 3) := by decide +kernel
theorem dX3_about_73 : decode cX3_about 73 = .ok (.invokespecial 68, 3) := by decide +kernel
theorem dX3_about_76 : decode cX3_about 76 = .ok (.athrow, 1) := by decide +kernel
theorem dX3_isWithin_0 : decode cX3_isWithin 0 = .ok (.iload_n 0, 1) := by decide +kernel
theorem dX3_isWithin_1 : decode cX3_isWithin 1 = .ok (.iload_n 1, 1) := by decide +kernel
theorem dX3_isWithin_2 : decode cX3_isWithin 2 = .ok (.if_icmp .lt 12, 3) := by decide +kernel
theorem dX3_isWithin_5 : decode cX3_isWithin 5 = .ok (.iload_n 0, 1) := by decide +kernel
theorem dX3_isWithin_6 : decode cX3_isWithin 6 = .ok (.iload_n 2, 1) := by decide +kernel
theorem dX3_isWithin_7 : decode cX3_isWithin 7 = .ok (.if_icmp .gt 7, 3) := by decide +kernel
theorem dX3_isWithin_10 : decode cX3_isWithin 10 = .ok (.iconst 1, 1) := by decide +kernel
theorem dX3_isWithin_11 : decode cX3_isWithin 11 = .ok (.goto 4, 3) := by decide +kernel
theorem dX3_isWithin_14 : decode cX3_isWithin 14 = .ok (.iconst 0, 1) := by decide +kernel
theorem dX3_isWithin_15 : decode cX3_isWithin 15 = .ok (.ireturn, 1) := by decide +kernel
theorem dX3_isSpecies_0 : decode cX3_isSpecies 0 = .ok (.iload_n 0, 1) := by decide +kernel
theorem dX3_isSpecies_1 : decode cX3_isSpecies 1 = .ok (.iconst 0, 1) := by decide +kernel
theorem dX3_isSpecies_2 : decode cX3_isSpecies 2 = .ok (.iconst 3, 1) := by decide +kernel
theorem dX3_isSpecies_3 : decode cX3_isSpecies 3 = .ok (.invokestatic 59, 3) := by decide +kernel
theorem dX3_isSpecies_6 : decode cX3_isSpecies 6 = .ok (.ireturn, 1) := by decide +kernel
theorem dX3_areTwoSpecies_0 : decode cX3_areTwoSpecies 0 = .ok (.iload_n 0, 1) := by decide +kernel
theorem dX3_areTwoSpecies_1 : decode cX3_areTwoSpecies 1 = .ok (.invokestatic 55, 3) := by decide +kernel
theorem dX3_areTwoSpecies_4 : decode cX3_areTwoSpecies 4 = .ok (.ifCond .eq 19, 3) := by decide +kernel
theorem dX3_areTwoSpecies_7 : decode cX3_areTwoSpecies 7 = .ok (.iload_n 1, 1) := by decide +kernel
theorem dX3_areTwoSpecies_8 : decode cX3_areTwoSpecies 8 = .ok (.invokestatic 55, 3) := by decide +kernel
theorem dX3_areTwoSpecies_11 : decode cX3_areTwoSpecies 11 = .ok (.ifCond .eq 12, 3) := by decide +kernel
theorem dX3_areTwoSpecies_14 : decode cX3_areTwoSpecies 14 = .ok (.iload_n 0, 1) := by decide +kernel
theorem dX3_areTwoSpecies_15 : decode cX3_areTwoSpecies 15 = .ok (.iload_n 1, 1) := by decide +kernel
theorem dX3_areTwoSpecies_16 : decode cX3_areTwoSpecies 16 = .ok (.if_icmp .eq 7, 3) := by decide +kernel
theorem dX3_areTwoSpecies_19 : decode cX3_areTwoSpecies 19 = .ok (.iconst 1, 1) := by decide +kernel
theorem dX3_areTwoSpecies_20 : decode cX3_areTwoSpecies 20 = .ok (.goto 4, 3) := by decide +kernel
theorem dX3_areTwoSpecies_23 : decode cX3_areTwoSpecies 23 = .ok (.iconst 0, 1) := by decide +kernel
theorem dX3_areTwoSpecies_24 : decode cX3_areTwoSpecies 24 = .ok (.ireturn, 1) := by decide +kernel
theorem dX3_isForm_0 : decode cX3_isForm 0 = .ok (.iload_n 0, 1) := by decide +kernel
theorem dX3_isForm_1 : decode cX3_isForm 1 = .ok (.iconst 0, 1) := by decide +kernel
theorem dX3_isForm_2 : decode cX3_isForm 2 = .ok (.iconst 2, 1) := by decide +kernel
theorem dX3_isForm_3 : decode cX3_isForm 3 = .ok (.invokestatic 59, 3) := by decide +kernel
theorem dX3_isForm_6 : decode cX3_isForm 6 = .ok (.ireturn, 1) := by decide +kernel
theorem dX3_isOwner_0 : decode cX3_isOwner 0 = .ok (.iload_n 0, 1) := by decide +kernel
theorem dX3_isOwner_1 : decode cX3_isOwner 1 = .ok (.iconst 0, 1) := by decide +kernel
theorem dX3_isOwner_2 : decode cX3_isOwner 2 = .ok (.iconst 5, 1) := by decide +kernel
theorem dX3_isOwner_3 : decode cX3_isOwner 3 = .ok (.invokestatic 59, 3) := by decide +kernel
theorem dX3_isOwner_6 : decode cX3_isOwner 6 = .ok (.ireturn, 1) := by decide +kernel
theorem dX3_areTwoOwners_0 : decode cX3_areTwoOwners 0 = .ok (.iload_n 0, 1) := by decide +kernel
theorem dX3_areTwoOwners_1 : decode cX3_areTwoOwners 1 = .ok (.invokestatic 89, 3) := by decide +kernel
theorem dX3_areTwoOwners_4 : decode cX3_areTwoOwners 4 = .ok (.ifCond .eq 19, 3) := by decide +kernel
theorem dX3_areTwoOwners_7 : decode cX3_areTwoOwners 7 = .ok (.iload_n 1, 1) := by decide +kernel
theorem dX3_areTwoOwners_8 : decode cX3_areTwoOwners 8 = .ok (.invokestatic 89, 3) := by decide +kernel
theorem dX3_areTwoOwners_11 : decode cX3_areTwoOwners 11 = .ok (.ifCond .eq 12, 3) := by decide +kernel
theorem dX3_areTwoOwners_14 : decode cX3_areTwoOwners 14 = .ok (.iload_n 0, 1) := by decide +kernel
theorem dX3_areTwoOwners_15 : decode cX3_areTwoOwners 15 = .ok (.iload_n 1, 1) := by decide +kernel
theorem dX3_areTwoOwners_16 : decode cX3_areTwoOwners 16 = .ok (.if_icmp .eq 7, 3) := by decide +kernel
theorem dX3_areTwoOwners_19 : decode cX3_areTwoOwners 19 = .ok (.iconst 1, 1) := by decide +kernel
theorem dX3_areTwoOwners_20 : decode cX3_areTwoOwners 20 = .ok (.goto 4, 3) := by decide +kernel
theorem dX3_areTwoOwners_23 : decode cX3_areTwoOwners 23 = .ok (.iconst 0, 1) := by decide +kernel
theorem dX3_areTwoOwners_24 : decode cX3_areTwoOwners 24 = .ok (.ireturn, 1) := by decide +kernel
theorem dX3_isVessel_0 : decode cX3_isVessel 0 = .ok (.iload_n 0, 1) := by decide +kernel
theorem dX3_isVessel_1 : decode cX3_isVessel 1 = .ok (.iconst 0, 1) := by decide +kernel
theorem dX3_isVessel_2 : decode cX3_isVessel 2 = .ok (.iconst 5, 1) := by decide +kernel
theorem dX3_isVessel_3 : decode cX3_isVessel 3 = .ok (.invokestatic 59, 3) := by decide +kernel
theorem dX3_isVessel_6 : decode cX3_isVessel 6 = .ok (.ireturn, 1) := by decide +kernel
theorem dX3_areTwoVessels_0 : decode cX3_areTwoVessels 0 = .ok (.iload_n 0, 1) := by decide +kernel
theorem dX3_areTwoVessels_1 : decode cX3_areTwoVessels 1 = .ok (.invokestatic 86, 3) := by decide +kernel
theorem dX3_areTwoVessels_4 : decode cX3_areTwoVessels 4 = .ok (.ifCond .eq 19, 3) := by decide +kernel
theorem dX3_areTwoVessels_7 : decode cX3_areTwoVessels 7 = .ok (.iload_n 1, 1) := by decide +kernel
theorem dX3_areTwoVessels_8 : decode cX3_areTwoVessels 8 = .ok (.invokestatic 86, 3) := by decide +kernel
theorem dX3_areTwoVessels_11 : decode cX3_areTwoVessels 11 = .ok (.ifCond .eq 12, 3) := by decide +kernel
theorem dX3_areTwoVessels_14 : decode cX3_areTwoVessels 14 = .ok (.iload_n 0, 1) := by decide +kernel
theorem dX3_areTwoVessels_15 : decode cX3_areTwoVessels 15 = .ok (.iload_n 1, 1) := by decide +kernel
theorem dX3_areTwoVessels_16 : decode cX3_areTwoVessels 16 = .ok (.if_icmp .eq 7, 3) := by decide +kernel
theorem dX3_areTwoVessels_19 : decode cX3_areTwoVessels 19 = .ok (.iconst 1, 1) := by decide +kernel
theorem dX3_areTwoVessels_20 : decode cX3_areTwoVessels 20 = .ok (.goto 4, 3) := by decide +kernel
theorem dX3_areTwoVessels_23 : decode cX3_areTwoVessels 23 = .ok (.iconst 0, 1) := by decide +kernel
theorem dX3_areTwoVessels_24 : decode cX3_areTwoVessels 24 = .ok (.ireturn, 1) := by decide +kernel
theorem dX3_isLimit_0 : decode cX3_isLimit 0 = .ok (.iload_n 0, 1) := by decide +kernel
theorem dX3_isLimit_1 : decode cX3_isLimit 1 = .ok (.iconst 0, 1) := by decide +kernel
theorem dX3_isLimit_2 : decode cX3_isLimit 2 = .ok (.ldc 63, 2) := by decide +kernel
theorem dX3_isLimit_4 : decode cX3_isLimit 4 = .ok (.invokestatic 59, 3) := by decide +kernel
theorem dX3_isLimit_7 : decode cX3_isLimit 7 = .ok (.ireturn, 1) := by decide +kernel
theorem dX3_wasOpened_0 : decode cX3_wasOpened 0 = .ok (.iload_n 1, 1) := by decide +kernel
theorem dX3_wasOpened_1 : decode cX3_wasOpened 1 = .ok (.iconst 1, 1) := by decide +kernel
theorem dX3_wasOpened_2 : decode cX3_wasOpened 2 = .ok (.aload_n 0, 1) := by decide +kernel
theorem dX3_wasOpened_3 : decode cX3_wasOpened 3 = .ok (.getfield 41, 3) := by decide +kernel
theorem dX3_wasOpened_6 : decode cX3_wasOpened 6 = .ok (.invokestatic 59, 3) := by decide +kernel
theorem dX3_wasOpened_9 : decode cX3_wasOpened 9 = .ok (.ireturn, 1) := by decide +kernel
theorem dX3_isOpen_0 : decode cX3_isOpen 0 = .ok (.aload_n 0, 1) := by decide +kernel
theorem dX3_isOpen_1 : decode cX3_isOpen 1 = .ok (.getfield 45, 3) := by decide +kernel
theorem dX3_isOpen_4 : decode cX3_isOpen 4 = .ok (.ifCond .eq 15, 3) := by decide +kernel
theorem dX3_isOpen_7 : decode cX3_isOpen 7 = .ok (.iload_n 1, 1) := by decide +kernel
theorem dX3_isOpen_8 : decode cX3_isOpen 8 = .ok (.aload_n 0, 1) := by decide +kernel
theorem dX3_isOpen_9 : decode cX3_isOpen 9 = .ok (.getfield 41, 3) := by decide +kernel
theorem dX3_isOpen_12 : decode cX3_isOpen 12 = .ok (.if_icmp .ne 7, 3) := by decide +kernel
theorem dX3_isOpen_15 : decode cX3_isOpen 15 = .ok (.iconst 1, 1) := by decide +kernel
theorem dX3_isOpen_16 : decode cX3_isOpen 16 = .ok (.goto 4, 3) := by decide +kernel
theorem dX3_isOpen_19 : decode cX3_isOpen 19 = .ok (.iconst 0, 1) := by decide +kernel
theorem dX3_isOpen_20 : decode cX3_isOpen 20 = .ok (.ireturn, 1) := by decide +kernel
theorem dX3_takesChanges_0 : decode cX3_takesChanges 0 = .ok (.aload_n 0, 1) := by decide +kernel
theorem dX3_takesChanges_1 : decode cX3_takesChanges 1 = .ok (.iload_n 1, 1) := by decide +kernel
theorem dX3_takesChanges_2 : decode cX3_takesChanges 2 = .ok (.invokevirtual 310, 3) := by decide +kernel
theorem dX3_takesChanges_5 : decode cX3_takesChanges 5 = .ok (.ifCond .ne 12, 3) := by decide +kernel
theorem dX3_takesChanges_8 : decode cX3_takesChanges 8 = .ok (.aload_n 0, 1) := by decide +kernel
theorem dX3_takesChanges_9 : decode cX3_takesChanges 9 = .ok (.getfield 37, 3) := by decide +kernel
theorem dX3_takesChanges_12 : decode cX3_takesChanges 12 = .ok (.iload_n 1, 1) := by decide +kernel
theorem dX3_takesChanges_13 : decode cX3_takesChanges 13 = .ok (.baload, 1) := by decide +kernel
theorem dX3_takesChanges_14 : decode cX3_takesChanges 14 = .ok (.ifCond .eq 7, 3) := by decide +kernel
theorem dX3_takesChanges_17 : decode cX3_takesChanges 17 = .ok (.iconst 1, 1) := by decide +kernel
theorem dX3_takesChanges_18 : decode cX3_takesChanges 18 = .ok (.goto 4, 3) := by decide +kernel
theorem dX3_takesChanges_21 : decode cX3_takesChanges 21 = .ok (.iconst 0, 1) := by decide +kernel
theorem dX3_takesChanges_22 : decode cX3_takesChanges 22 = .ok (.ireturn, 1) := by decide +kernel
theorem dX3_liveWeight_0 : decode cX3_liveWeight 0 = .ok (.iload_n 0, 1) := by decide +kernel
theorem dX3_liveWeight_1 : decode cX3_liveWeight 1 = .ok (.i2l, 1) := by decide +kernel
theorem dX3_liveWeight_2 : decode cX3_liveWeight 2 = .ok (.iload_n 1, 1) := by decide +kernel
theorem dX3_liveWeight_3 : decode cX3_liveWeight 3 = .ok (.i2l, 1) := by decide +kernel
theorem dX3_liveWeight_4 : decode cX3_liveWeight 4 = .ok (.lmul, 1) := by decide +kernel
theorem dX3_liveWeight_5 : decode cX3_liveWeight 5 = .ok (.ldc2_w 313, 3) := by decide +kernel
theorem dX3_liveWeight_8 : decode cX3_liveWeight 8 = .ok (.ladd, 1) := by decide +kernel
theorem dX3_liveWeight_9 : decode cX3_liveWeight 9 = .ok (.ldc2_w 315, 3) := by decide +kernel
theorem dX3_liveWeight_12 : decode cX3_liveWeight 12 = .ok (.ldiv, 1) := by decide +kernel
theorem dX3_liveWeight_13 : decode cX3_liveWeight 13 = .ok (.l2i, 1) := by decide +kernel
theorem dX3_liveWeight_14 : decode cX3_liveWeight 14 = .ok (.istore_n 3, 1) := by decide +kernel
theorem dX3_liveWeight_15 : decode cX3_liveWeight 15 = .ok (.iload_n 2, 1) := by decide +kernel
theorem dX3_liveWeight_16 : decode cX3_liveWeight 16 = .ok (.ifCond .eq 11, 3) := by decide +kernel
theorem dX3_liveWeight_19 : decode cX3_liveWeight 19 = .ok (.iload_n 3, 1) := by decide +kernel
theorem dX3_liveWeight_20 : decode cX3_liveWeight 20 = .ok (.iconst 1, 1) := by decide +kernel
theorem dX3_liveWeight_21 : decode cX3_liveWeight 21 = .ok (.iadd, 1) := by decide +kernel
theorem dX3_liveWeight_22 : decode cX3_liveWeight 22 = .ok (.iconst 2, 1) := by decide +kernel
theorem dX3_liveWeight_23 : decode cX3_liveWeight 23 = .ok (.idiv, 1) := by decide +kernel
theorem dX3_liveWeight_24 : decode cX3_liveWeight 24 = .ok (.goto 4, 3) := by decide +kernel
theorem dX3_liveWeight_27 : decode cX3_liveWeight 27 = .ok (.iload_n 3, 1) := by decide +kernel
theorem dX3_liveWeight_28 : decode cX3_liveWeight 28 = .ok (.ireturn, 1) := by decide +kernel
theorem dX3_equalWeight_0 : decode cX3_equalWeight 0 = .ok (.iload_n 0, 1) := by decide +kernel
theorem dX3_equalWeight_1 : decode cX3_equalWeight 1 = .ok (.iload_n 1, 1) := by decide +kernel
theorem dX3_equalWeight_2 : decode cX3_equalWeight 2 = .ok (.imul, 1) := by decide +kernel
theorem dX3_equalWeight_3 : decode cX3_equalWeight 3 = .ok (.iload_n 2, 1) := by decide +kernel
theorem dX3_equalWeight_4 : decode cX3_equalWeight 4 = .ok (.iadd, 1) := by decide +kernel
theorem dX3_equalWeight_5 : decode cX3_equalWeight 5 = .ok (.iconst 1, 1) := by decide +kernel
theorem dX3_equalWeight_6 : decode cX3_equalWeight 6 = .ok (.isub, 1) := by decide +kernel
theorem dX3_equalWeight_7 : decode cX3_equalWeight 7 = .ok (.iload_n 2, 1) := by decide +kernel
theorem dX3_equalWeight_8 : decode cX3_equalWeight 8 = .ok (.idiv, 1) := by decide +kernel
theorem dX3_equalWeight_9 : decode cX3_equalWeight 9 = .ok (.ireturn, 1) := by decide +kernel
theorem dX3_workAnew_0 : decode cX3_workAnew 0 = .ok (.iload_n 1, 1) := by decide +kernel
theorem dX3_workAnew_1 : decode cX3_workAnew 1 = .ok (.istore_n 2, 1) := by decide +kernel
theorem dX3_workAnew_2 : decode cX3_workAnew 2 = .ok (.iload_n 2, 1) := by decide +kernel
theorem dX3_workAnew_3 : decode cX3_workAnew 3 = .ok (.aload_n 0, 1) := by decide +kernel
theorem dX3_workAnew_4 : decode cX3_workAnew 4 = .ok (.getfield 41, 3) := by decide +kernel
theorem dX3_workAnew_7 : decode cX3_workAnew 7 = .ok (.if_icmp .gt 45, 3) := by decide +kernel
theorem dX3_workAnew_10 : decode cX3_workAnew 10 = .ok (.aload_n 0, 1) := by decide +kernel
theorem dX3_workAnew_11 : decode cX3_workAnew 11 = .ok (.getfield 26, 3) := by decide +kernel
theorem dX3_workAnew_14 : decode cX3_workAnew 14 = .ok (.iload_n 2, 1) := by decide +kernel
theorem dX3_workAnew_15 : decode cX3_workAnew 15 = .ok (.invokevirtual 180, 3) := by decide +kernel
theorem dX3_workAnew_18 : decode cX3_workAnew 18 = .ok (.aload_n 0, 1) := by decide +kernel
theorem dX3_workAnew_19 : decode cX3_workAnew 19 = .ok (.getfield 33, 3) := by decide +kernel
theorem dX3_workAnew_22 : decode cX3_workAnew 22 = .ok (.iload_n 2, 1) := by decide +kernel
theorem dX3_workAnew_23 : decode cX3_workAnew 23 = .ok (.aload_n 0, 1) := by decide +kernel
theorem dX3_workAnew_24 : decode cX3_workAnew 24 = .ok (.getfield 26, 3) := by decide +kernel
theorem dX3_workAnew_27 : decode cX3_workAnew 27 = .ok (.invokevirtual 317, 3) := by decide +kernel
theorem dX3_workAnew_30 : decode cX3_workAnew 30 = .ok (.aload_n 0, 1) := by decide +kernel
theorem dX3_workAnew_31 : decode cX3_workAnew 31 = .ok (.iload_n 2, 1) := by decide +kernel
theorem dX3_workAnew_32 : decode cX3_workAnew 32 = .ok (.invokevirtual 310, 3) := by decide +kernel
theorem dX3_workAnew_35 : decode cX3_workAnew 35 = .ok (.ifCond .ne 11, 3) := by decide +kernel
theorem dX3_workAnew_38 : decode cX3_workAnew 38 = .ok (.aload_n 0, 1) := by decide +kernel
theorem dX3_workAnew_39 : decode cX3_workAnew 39 = .ok (.getfield 26, 3) := by decide +kernel
theorem dX3_workAnew_42 : decode cX3_workAnew 42 = .ok (.iload_n 2, 1) := by decide +kernel
theorem dX3_workAnew_43 : decode cX3_workAnew 43 = .ok (.invokevirtual 186, 3) := by decide +kernel
theorem dX3_workAnew_46 : decode cX3_workAnew 46 = .ok (.iinc 2 1, 3) := by decide +kernel
theorem dX3_workAnew_49 : decode cX3_workAnew 49 = .ok (.goto (-47), 3) := by decide +kernel
theorem dX3_workAnew_52 : decode cX3_workAnew 52 = .ok (.return_, 1) := by decide +kernel
theorem dX3_levyOfVessel_0 : decode cX3_levyOfVessel 0 = .ok (.lconst 0, 1) := by decide +kernel
theorem dX3_levyOfVessel_1 : decode cX3_levyOfVessel 1 = .ok (.lstore_n 3, 1) := by decide +kernel
theorem dX3_levyOfVessel_2 : decode cX3_levyOfVessel 2 = .ok (.iconst 0, 1) := by decide +kernel
theorem dX3_levyOfVessel_3 : decode cX3_levyOfVessel 3 = .ok (.istore 5, 2) := by decide +kernel
theorem dX3_levyOfVessel_5 : decode cX3_levyOfVessel 5 = .ok (.iload 5, 2) := by decide +kernel
theorem dX3_levyOfVessel_7 : decode cX3_levyOfVessel 7 = .ok (.iconst 4, 1) := by decide +kernel
theorem dX3_levyOfVessel_8 : decode cX3_levyOfVessel 8 = .ok (.if_icmp .ge 33, 3) := by decide +kernel
theorem dX3_levyOfVessel_11 : decode cX3_levyOfVessel 11 = .ok (.lload_n 3, 1) := by decide +kernel
theorem dX3_levyOfVessel_12 : decode cX3_levyOfVessel 12 = .ok (.aload_n 0, 1) := by decide +kernel
theorem dX3_levyOfVessel_13 : decode cX3_levyOfVessel 13 = .ok (.getfield 26, 3) := by decide +kernel
theorem dX3_levyOfVessel_16 : decode cX3_levyOfVessel 16 = .ok (.iload_n 2, 1) := by decide +kernel
theorem dX3_levyOfVessel_17 : decode cX3_levyOfVessel 17 = .ok (.iload_n 1, 1) := by decide +kernel
theorem dX3_levyOfVessel_18 : decode cX3_levyOfVessel 18 = .ok (.iload 5, 2) := by decide +kernel
theorem dX3_levyOfVessel_20 : decode cX3_levyOfVessel 20 = .ok (.invokevirtual 320, 3) := by decide +kernel
theorem dX3_levyOfVessel_23 : decode cX3_levyOfVessel 23 = .ok (.i2l, 1) := by decide +kernel
theorem dX3_levyOfVessel_24 : decode cX3_levyOfVessel 24 = .ok (.aload_n 0, 1) := by decide +kernel
theorem dX3_levyOfVessel_25 : decode cX3_levyOfVessel 25 = .ok (.getfield 9, 3) := by decide +kernel
theorem dX3_levyOfVessel_28 : decode cX3_levyOfVessel 28 = .ok (.iload 5, 2) := by decide +kernel
theorem dX3_levyOfVessel_30 : decode cX3_levyOfVessel 30 = .ok (.iaload, 1) := by decide +kernel
theorem dX3_levyOfVessel_31 : decode cX3_levyOfVessel 31 = .ok (.i2l, 1) := by decide +kernel
theorem dX3_levyOfVessel_32 : decode cX3_levyOfVessel 32 = .ok (.lmul, 1) := by decide +kernel
theorem dX3_levyOfVessel_33 : decode cX3_levyOfVessel 33 = .ok (.ladd, 1) := by decide +kernel
theorem dX3_levyOfVessel_34 : decode cX3_levyOfVessel 34 = .ok (.lstore_n 3, 1) := by decide +kernel
theorem dX3_levyOfVessel_35 : decode cX3_levyOfVessel 35 = .ok (.iinc 5 1, 3) := by decide +kernel
theorem dX3_levyOfVessel_38 : decode cX3_levyOfVessel 38 = .ok (.goto (-33), 3) := by decide +kernel
theorem dX3_levyOfVessel_41 : decode cX3_levyOfVessel 41 = .ok (.lload_n 3, 1) := by decide +kernel
theorem dX3_levyOfVessel_42 : decode cX3_levyOfVessel 42 = .ok (.lreturn, 1) := by decide +kernel
theorem dX4_init_0 : decode cX4_init 0 = .ok (.aload_n 0, 1) := by decide +kernel
theorem dX4_init_1 : decode cX4_init 1 = .ok (.invokespecial 1, 3) := by decide +kernel
theorem dX4_init_4 : decode cX4_init 4 = .ok (.aload_n 0, 1) := by decide +kernel
theorem dX4_init_5 : decode cX4_init 5 = .ok (.iconst 4, 1) := by decide +kernel
theorem dX4_init_6 : decode cX4_init 6 = .ok (.newarray .int, 2) := by decide +kernel
theorem dX4_init_8 : decode cX4_init 8 = .ok (.putfield 7, 3) := by decide +kernel
theorem dX4_init_11 : decode cX4_init 11 = .ok (.aload_n 0, 1) := by decide +kernel
theorem dX4_init_12 : decode cX4_init 12 = .ok (.iconst 4, 1) := by decide +kernel
theorem dX4_init_13 : decode cX4_init 13 = .ok (.newarray .int, 2) := by decide +kernel
theorem dX4_init_15 : decode cX4_init 15 = .ok (.putfield 13, 3) := by decide +kernel
theorem dX4_init_18 : decode cX4_init 18 = .ok (.aload_n 0, 1) := by decide +kernel
theorem dX4_init_19 : decode cX4_init 19 = .ok (.bipush 12, 2) := by decide +kernel
theorem dX4_init_21 : decode cX4_init 21 = .ok (.newarray .int, 2) := by decide +kernel
theorem dX4_init_23 : decode cX4_init 23 = .ok (.putfield 16, 3) := by decide +kernel
theorem dX4_init_26 : decode cX4_init 26 = .ok (.aload_n 0, 1) := by decide +kernel
theorem dX4_init_27 : decode cX4_init 27 = .ok (.bipush 6, 2) := by decide +kernel
theorem dX4_init_29 : decode cX4_init 29 = .ok (.newarray .int, 2) := by decide +kernel
theorem dX4_init_31 : decode cX4_init 31 = .ok (.putfield 19, 3) := by decide +kernel
theorem dX4_init_34 : decode cX4_init 34 = .ok (.aload_n 0, 1) := by decide +kernel
theorem dX4_init_35 : decode cX4_init 35 = .ok (.bipush 24, 2) := by decide +kernel
theorem dX4_init_37 : decode cX4_init 37 = .ok (.newarray .int, 2) := by decide +kernel
theorem dX4_init_39 : decode cX4_init 39 = .ok (.putfield 22, 3) := by decide +kernel
theorem dX4_init_42 : decode cX4_init 42 = .ok (.aload_n 0, 1) := by decide +kernel
theorem dX4_init_43 : decode cX4_init 43 = .ok (.bipush 24, 2) := by decide +kernel
theorem dX4_init_45 : decode cX4_init 45 = .ok (.newarray .int, 2) := by decide +kernel
theorem dX4_init_47 : decode cX4_init 47 = .ok (.putfield 25, 3) := by decide +kernel
theorem dX4_init_50 : decode cX4_init 50 = .ok (.aload_n 0, 1) := by decide +kernel
theorem dX4_init_51 : decode cX4_init 51 = .ok (.bipush 36, 2) := by decide +kernel
theorem dX4_init_53 : decode cX4_init 53 = .ok (.newarray .boolean, 2) := by decide +kernel
theorem dX4_init_55 : decode cX4_init 55 = .ok (.putfield 28, 3) := by decide +kernel
theorem dX4_init_58 : decode cX4_init 58 = .ok (.aload_n 0, 1) := by decide +kernel
theorem dX4_init_59 : decode cX4_init 59 = .ok (.bipush 6, 2) := by decide +kernel
theorem dX4_init_61 : decode cX4_init 61 = .ok (.newarray .boolean, 2) := by decide +kernel
theorem dX4_init_63 : decode cX4_init 63 = .ok (.putfield 32, 3) := by decide +kernel
theorem dX4_init_66 : decode cX4_init 66 = .ok (.aload_n 0, 1) := by decide +kernel
theorem dX4_init_67 : decode cX4_init 67 = .ok (.bipush 9, 2) := by decide +kernel
theorem dX4_init_69 : decode cX4_init 69 = .ok (.newarray .boolean, 2) := by decide +kernel
theorem dX4_init_71 : decode cX4_init 71 = .ok (.putfield 35, 3) := by decide +kernel
theorem dX4_init_74 : decode cX4_init 74 = .ok (.aload_n 0, 1) := by decide +kernel
theorem dX4_init_75 : decode cX4_init 75 = .ok (.sipush 216, 3) := by decide +kernel
theorem dX4_init_78 : decode cX4_init 78 = .ok (.newarray .int, 2) := by decide +kernel
theorem dX4_init_80 : decode cX4_init 80 = .ok (.putfield 38, 3) := by decide +kernel
theorem dX4_init_83 : decode cX4_init 83 = .ok (.aload_n 0, 1) := by decide +kernel
theorem dX4_init_84 : decode cX4_init 84 = .ok (.sipush 216, 3) := by decide +kernel
theorem dX4_init_87 : decode cX4_init 87 = .ok (.newarray .int, 2) := by decide +kernel
theorem dX4_init_89 : decode cX4_init 89 = .ok (.putfield 41, 3) := by decide +kernel
theorem dX4_init_92 : decode cX4_init 92 = .ok (.aload_n 0, 1) := by decide +kernel
theorem dX4_init_93 : decode cX4_init 93 = .ok (.sipush 216, 3) := by decide +kernel
theorem dX4_init_96 : decode cX4_init 96 = .ok (.newarray .int, 2) := by decide +kernel
theorem dX4_init_98 : decode cX4_init 98 = .ok (.putfield 44, 3) := by decide +kernel
theorem dX4_init_101 : decode cX4_init 101 = .ok (.aload_n 0, 1) := by decide +kernel
theorem dX4_init_102 : decode cX4_init 102 = .ok (.sipush 216, 3) := by decide +kernel
theorem dX4_init_105 : decode cX4_init 105 = .ok (.newarray .int, 2) := by decide +kernel
theorem dX4_init_107 : decode cX4_init 107 = .ok (.putfield 47, 3) := by decide +kernel
theorem dX4_init_110 : decode cX4_init 110 = .ok (.aload_n 0, 1) := by decide +kernel
theorem dX4_init_111 : decode cX4_init 111 = .ok (.sipush 216, 3) := by decide +kernel
theorem dX4_init_114 : decode cX4_init 114 = .ok (.newarray .int, 2) := by decide +kernel
theorem dX4_init_116 : decode cX4_init 116 = .ok (.putfield 50, 3) := by decide +kernel
theorem dX4_init_119 : decode cX4_init 119 = .ok (.aload_n 0, 1) := by decide +kernel
theorem dX4_init_120 : decode cX4_init 120 = .ok (.sipush 216, 3) := by decide +kernel
theorem dX4_init_123 : decode cX4_init 123 = .ok (.newarray .int, 2) := by decide +kernel
theorem dX4_init_125 : decode cX4_init 125 = .ok (.putfield 53, 3) := by decide +kernel
theorem dX4_init_128 : decode cX4_init 128 = .ok (.aload_n 0, 1) := by decide +kernel
theorem dX4_init_129 : decode cX4_init 129 = .ok (.sipush 216, 3) := by decide +kernel
theorem dX4_init_132 : decode cX4_init 132 = .ok (.newarray .int, 2) := by decide +kernel
theorem dX4_init_134 : decode cX4_init 134 = .ok (.putfield 56, 3) := by decide +kernel
theorem dX4_init_137 : decode cX4_init 137 = .ok (.aload_n 0, 1) := by decide +kernel
theorem dX4_init_138 : decode cX4_init 138 = .ok (.sipush 216, 3) := by decide +kernel
theorem dX4_init_141 : decode cX4_init 141 = .ok (.newarray .int, 2) := by decide +kernel
theorem dX4_init_143 : decode cX4_init 143 = .ok (.putfield 59, 3) := by decide +kernel
theorem dX4_init_146 : decode cX4_init 146 = .ok (.aload_n 0, 1) := by decide +kernel
theorem dX4_init_147 : decode cX4_init 147 = .ok (.sipush 200, 3) := by decide +kernel
theorem dX4_init_150 : decode cX4_init 150 = .ok (.newarray .int, 2) := by decide +kernel
theorem dX4_init_152 : decode cX4_init 152 = .ok (.putfield 62, 3) := by decide +kernel
theorem dX4_init_155 : decode cX4_init 155 = .ok (.aload_n 0, 1) := by decide +kernel
theorem dX4_init_156 : decode cX4_init 156 = .ok (.sipush 200, 3) := by decide +kernel
theorem dX4_init_159 : decode cX4_init 159 = .ok (.newarray .int, 2) := by decide +kernel
theorem dX4_init_161 : decode cX4_init 161 = .ok (.putfield 65, 3) := by decide +kernel
theorem dX4_init_164 : decode cX4_init 164 = .ok (.aload_n 0, 1) := by decide +kernel
theorem dX4_init_165 : decode cX4_init 165 = .ok (.sipush 200, 3) := by decide +kernel
theorem dX4_init_168 : decode cX4_init 168 = .ok (.newarray .int, 2) := by decide +kernel
theorem dX4_init_170 : decode cX4_init 170 = .ok (.putfield 68, 3) := by decide +kernel
theorem dX4_init_173 : decode cX4_init 173 = .ok (.aload_n 0, 1) := by decide +kernel
theorem dX4_init_174 : decode cX4_init 174 = .ok (.sipush 200, 3) := by decide +kernel
theorem dX4_init_177 : decode cX4_init 177 = .ok (.newarray .int, 2) := by decide +kernel
theorem dX4_init_179 : decode cX4_init 179 = .ok (.putfield 71, 3) := by decide +kernel
theorem dX4_init_182 : decode cX4_init 182 = .ok (.aload_n 0, 1) := by decide +kernel
theorem dX4_init_183 : decode cX4_init 183 = .ok (.sipush 200, 3) := by decide +kernel
theorem dX4_init_186 : decode cX4_init 186 = .ok (.newarray .int, 2) := by decide +kernel
theorem dX4_init_188 : decode cX4_init 188 = .ok (.putfield 74, 3) := by decide +kernel
theorem dX4_init_191 : decode cX4_init 191 = .ok (.aload_n 0, 1) := by decide +kernel
theorem dX4_init_192 : decode cX4_init 192 = .ok (.sipush 200, 3) := by decide +kernel
theorem dX4_init_195 : decode cX4_init 195 = .ok (.newarray .int, 2) := by decide +kernel
theorem dX4_init_197 : decode cX4_init 197 = .ok (.putfield 77, 3) := by decide +kernel
theorem dX4_init_200 : decode cX4_init 200 = .ok (.aload_n 0, 1) := by decide +kernel
theorem dX4_init_201 : decode cX4_init 201 = .ok (.sipush 200, 3) := by decide +kernel
theorem dX4_init_204 : decode cX4_init 204 = .ok (.newarray .int, 2) := by decide +kernel
theorem dX4_init_206 : decode cX4_init 206 = .ok (.putfield 80, 3) := by decide +kernel
theorem dX4_init_209 : decode cX4_init 209 = .ok (.aload_n 0, 1) := by decide +kernel
theorem dX4_init_210 : decode cX4_init 210 = .ok (.sipush 200, 3) := by decide +kernel
theorem dX4_init_213 : decode cX4_init 213 = .ok (.newarray .boolean, 2) := by decide +kernel
theorem dX4_init_215 : decode cX4_init 215 = .ok (.putfield 83, 3) := by decide +kernel
theorem dX4_init_218 : decode cX4_init 218 = .ok (.aload_n 0, 1) := by decide +kernel
theorem dX4_init_219 : decode cX4_init 219 = .ok (.sipush 200, 3) := by decide +kernel
theorem dX4_init_222 : decode cX4_init 222 = .ok (.newarray .boolean, 2) := by decide +kernel
theorem dX4_init_224 : decode cX4_init 224 = .ok (.putfield 86, 3) := by decide +kernel
theorem dX4_init_227 : decode cX4_init 227 = .ok (.aload_n 0, 1) := by decide +kernel
theorem dX4_init_228 : decode cX4_init 228 = .ok (.bipush 6, 2) := by decide +kernel
theorem dX4_init_230 : decode cX4_init 230 = .ok (.newarray .long, 2) := by decide +kernel
theorem dX4_init_232 : decode cX4_init 232 = .ok (.putfield 89, 3) := by decide +kernel
theorem dX4_init_235 : decode cX4_init 235 = .ok (.iconst 0, 1) := by decide +kernel
theorem dX4_init_236 : decode cX4_init 236 = .ok (.istore_n 1, 1) := by decide +kernel
theorem dX4_init_237 : decode cX4_init 237 = .ok (.iload_n 1, 1) := by decide +kernel
theorem dX4_init_238 : decode cX4_init 238 = .ok (.iconst 4, 1) := by decide +kernel
theorem dX4_init_239 : decode cX4_init 239 = .ok (.if_icmp .ge 24, 3) := by decide +kernel
theorem dX4_init_242 : decode cX4_init 242 = .ok (.aload_n 0, 1) := by decide +kernel
theorem dX4_init_243 : decode cX4_init 243 = .ok (.getfield 7, 3) := by decide +kernel
theorem dX4_init_246 : decode cX4_init 246 = .ok (.iload_n 1, 1) := by decide +kernel
theorem dX4_init_247 : decode cX4_init 247 = .ok (.iconst 1, 1) := by decide +kernel
theorem dX4_init_248 : decode cX4_init 248 = .ok (.iastore, 1) := by decide +kernel
theorem dX4_init_249 : decode cX4_init 249 = .ok (.aload_n 0, 1) := by decide +kernel
theorem dX4_init_250 : decode cX4_init 250 = .ok (.getfield 13, 3) := by decide +kernel
theorem dX4_init_253 : decode cX4_init 253 = .ok (.iload_n 1, 1) := by decide +kernel
theorem dX4_init_254 : decode cX4_init 254 = .ok (.ldc 93, 2) := by decide +kernel
theorem dX4_init_256 : decode cX4_init 256 = .ok (.iastore, 1) := by decide +kernel
theorem dX4_init_257 : decode cX4_init 257 = .ok (.iinc 1 1, 3) := by decide +kernel
theorem dX4_init_260 : decode cX4_init 260 = .ok (.goto (-23), 3) := by decide +kernel
theorem dX4_init_263 : decode cX4_init 263 = .ok (.iconst 0, 1) := by decide +kernel
theorem dX4_init_264 : decode cX4_init 264 = .ok (.istore_n 1, 1) := by decide +kernel
theorem dX4_init_265 : decode cX4_init 265 = .ok (.iload_n 1, 1) := by decide +kernel
theorem dX4_init_266 : decode cX4_init 266 = .ok (.bipush 12, 2) := by decide +kernel
theorem dX4_init_268 : decode cX4_init 268 = .ok (.if_icmp .ge 18, 3) := by decide +kernel
theorem dX4_init_271 : decode cX4_init 271 = .ok (.aload_n 0, 1) := by decide +kernel
theorem dX4_init_272 : decode cX4_init 272 = .ok (.getfield 16, 3) := by decide +kernel
theorem dX4_init_275 : decode cX4_init 275 = .ok (.iload_n 1, 1) := by decide +kernel
theorem dX4_init_276 : decode cX4_init 276 = .ok (.sipush 1000, 3) := by decide +kernel
theorem dX4_init_279 : decode cX4_init 279 = .ok (.iastore, 1) := by decide +kernel
theorem dX4_init_280 : decode cX4_init 280 = .ok (.iinc 1 1, 3) := by decide +kernel
theorem dX4_init_283 : decode cX4_init 283 = .ok (.goto (-18), 3) := by decide +kernel
theorem dX4_init_286 : decode cX4_init 286 = .ok (.iconst 0, 1) := by decide +kernel
theorem dX4_init_287 : decode cX4_init 287 = .ok (.istore_n 1, 1) := by decide +kernel
theorem dX4_init_288 : decode cX4_init 288 = .ok (.iload_n 1, 1) := by decide +kernel
theorem dX4_init_289 : decode cX4_init 289 = .ok (.bipush 6, 2) := by decide +kernel
theorem dX4_init_291 : decode cX4_init 291 = .ok (.if_icmp .ge 16, 3) := by decide +kernel
theorem dX4_init_294 : decode cX4_init 294 = .ok (.aload_n 0, 1) := by decide +kernel
theorem dX4_init_295 : decode cX4_init 295 = .ok (.getfield 19, 3) := by decide +kernel
theorem dX4_init_298 : decode cX4_init 298 = .ok (.iload_n 1, 1) := by decide +kernel
theorem dX4_init_299 : decode cX4_init 299 = .ok (.iload_n 1, 1) := by decide +kernel
theorem dX4_init_300 : decode cX4_init 300 = .ok (.iastore, 1) := by decide +kernel
theorem dX4_init_301 : decode cX4_init 301 = .ok (.iinc 1 1, 3) := by decide +kernel
theorem dX4_init_304 : decode cX4_init 304 = .ok (.goto (-16), 3) := by decide +kernel
theorem dX4_init_307 : decode cX4_init 307 = .ok (.return_, 1) := by decide +kernel
theorem dX4_thrown_0 : decode cX4_thrown 0 = .ok (.aload_n 0, 1) := by decide +kernel
theorem dX4_thrown_1 : decode cX4_thrown 1 = .ok (.getfield 94, 3) := by decide +kernel
theorem dX4_thrown_4 : decode cX4_thrown 4 = .ok (.ireturn, 1) := by decide +kernel
theorem dX4_refuse_0 : decode cX4_refuse 0 = .ok (.aload_n 0, 1) := by decide +kernel
theorem dX4_refuse_1 : decode cX4_refuse 1 = .ok (.iload_n 1, 1) := by decide +kernel
theorem dX4_refuse_2 : decode cX4_refuse 2 = .ok (.ifCond .eq 7, 3) := by decide +kernel
theorem dX4_refuse_5 : decode cX4_refuse 5 = .ok (.iconst 1, 1) := by decide +kernel
theorem dX4_refuse_6 : decode cX4_refuse 6 = .ok (.goto 12, 3) := by decide +kernel
theorem dX4_refuse_9 : decode cX4_refuse 9 = .ok (.iload_n 2, 1) := by decide +kernel
theorem dX4_refuse_10 : decode cX4_refuse 10 = .ok (.ifCond .eq 7, 3) := by decide +kernel
theorem dX4_refuse_13 : decode cX4_refuse 13 = .ok (.iconst 2, 1) := by decide +kernel
theorem dX4_refuse_14 : decode cX4_refuse 14 = .ok (.goto 4, 3) := by decide +kernel
theorem dX4_refuse_17 : decode cX4_refuse 17 = .ok (.iconst 0, 1) := by decide +kernel
theorem dX4_refuse_18 : decode cX4_refuse 18 = .ok (.putfield 94, 3) := by decide +kernel
theorem dX4_refuse_21 : decode cX4_refuse 21 = .ok (.aload_n 0, 1) := by decide +kernel
theorem dX4_refuse_22 : decode cX4_refuse 22 = .ok (.getfield 94, 3) := by decide +kernel
theorem dX4_refuse_25 : decode cX4_refuse 25 = .ok (.ifCond .le 7, 3) := by decide +kernel
theorem dX4_refuse_28 : decode cX4_refuse 28 = .ok (.iconst 1, 1) := by decide +kernel
theorem dX4_refuse_29 : decode cX4_refuse 29 = .ok (.goto 4, 3) := by decide +kernel
theorem dX4_refuse_32 : decode cX4_refuse 32 = .ok (.iconst 0, 1) := by decide +kernel
theorem dX4_refuse_33 : decode cX4_refuse 33 = .ok (.ireturn, 1) := by decide +kernel
theorem dX4_in_0 : decode cX4_in 0 = .ok (.lload_n 0, 1) := by decide +kernel
theorem dX4_in_1 : decode cX4_in 1 = .ok (.lload_n 2, 1) := by decide +kernel
theorem dX4_in_2 : decode cX4_in 2 = .ok (.lcmp, 1) := by decide +kernel
theorem dX4_in_3 : decode cX4_in 3 = .ok (.ifCond .lt 14, 3) := by decide +kernel
theorem dX4_in_6 : decode cX4_in 6 = .ok (.lload_n 0, 1) := by decide +kernel
theorem dX4_in_7 : decode cX4_in 7 = .ok (.lload 4, 2) := by decide +kernel
theorem dX4_in_9 : decode cX4_in 9 = .ok (.lcmp, 1) := by decide +kernel
theorem dX4_in_10 : decode cX4_in 10 = .ok (.ifCond .gt 7, 3) := by decide +kernel
theorem dX4_in_13 : decode cX4_in 13 = .ok (.iconst 1, 1) := by decide +kernel
theorem dX4_in_14 : decode cX4_in 14 = .ok (.goto 4, 3) := by decide +kernel
theorem dX4_in_17 : decode cX4_in 17 = .ok (.iconst 0, 1) := by decide +kernel
theorem dX4_in_18 : decode cX4_in 18 = .ok (.ireturn, 1) := by decide +kernel
theorem dX4_isSpecies_0 : decode cX4_isSpecies 0 = .ok (.iload_n 0, 1) := by decide +kernel
theorem dX4_isSpecies_1 : decode cX4_isSpecies 1 = .ok (.i2l, 1) := by decide +kernel
theorem dX4_isSpecies_2 : decode cX4_isSpecies 2 = .ok (.lconst 0, 1) := by decide +kernel
theorem dX4_isSpecies_3 : decode cX4_isSpecies 3 = .ok (.ldc2_w 98, 3) := by decide +kernel
theorem dX4_isSpecies_6 : decode cX4_isSpecies 6 = .ok (.invokestatic 100, 3) := by decide +kernel
theorem dX4_isSpecies_9 : decode cX4_isSpecies 9 = .ok (.ireturn, 1) := by decide +kernel
theorem dX4_isOne_0 : decode cX4_isOne 0 = .ok (.iload_n 0, 1) := by decide +kernel
theorem dX4_isOne_1 : decode cX4_isOne 1 = .ok (.i2l, 1) := by decide +kernel
theorem dX4_isOne_2 : decode cX4_isOne 2 = .ok (.lconst 0, 1) := by decide +kernel
theorem dX4_isOne_3 : decode cX4_isOne 3 = .ok (.ldc2_w 104, 3) := by decide +kernel
theorem dX4_isOne_6 : decode cX4_isOne 6 = .ok (.invokestatic 100, 3) := by decide +kernel
theorem dX4_isOne_9 : decode cX4_isOne 9 = .ok (.ireturn, 1) := by decide +kernel
theorem dX4_gather_0 : decode cX4_gather 0 = .ok (.iconst 0, 1) := by decide +kernel
theorem dX4_gather_1 : decode cX4_gather 1 = .ok (.istore_n 2, 1) := by decide +kernel
theorem dX4_gather_2 : decode cX4_gather 2 = .ok (.iload_n 2, 1) := by decide +kernel
theorem dX4_gather_3 : decode cX4_gather 3 = .ok (.bipush 6, 2) := by decide +kernel
theorem dX4_gather_5 : decode cX4_gather 5 = .ok (.if_icmp .ge 25, 3) := by decide +kernel
theorem dX4_gather_8 : decode cX4_gather 8 = .ok (.aload_n 0, 1) := by decide +kernel
theorem dX4_gather_9 : decode cX4_gather 9 = .ok (.getfield 32, 3) := by decide +kernel
theorem dX4_gather_12 : decode cX4_gather 12 = .ok (.iload_n 2, 1) := by decide +kernel
theorem dX4_gather_13 : decode cX4_gather 13 = .ok (.iload_n 2, 1) := by decide +kernel
theorem dX4_gather_14 : decode cX4_gather 14 = .ok (.iload_n 1, 1) := by decide +kernel
theorem dX4_gather_15 : decode cX4_gather 15 = .ok (.if_icmp .ne 7, 3) := by decide +kernel
theorem dX4_gather_18 : decode cX4_gather 18 = .ok (.iconst 1, 1) := by decide +kernel
theorem dX4_gather_19 : decode cX4_gather 19 = .ok (.goto 4, 3) := by decide +kernel
theorem dX4_gather_22 : decode cX4_gather 22 = .ok (.iconst 0, 1) := by decide +kernel
theorem dX4_gather_23 : decode cX4_gather 23 = .ok (.bastore, 1) := by decide +kernel
theorem dX4_gather_24 : decode cX4_gather 24 = .ok (.iinc 2 1, 3) := by decide +kernel
theorem dX4_gather_27 : decode cX4_gather 27 = .ok (.goto (-25), 3) := by decide +kernel
theorem dX4_gather_30 : decode cX4_gather 30 = .ok (.iconst 0, 1) := by decide +kernel
theorem dX4_gather_31 : decode cX4_gather 31 = .ok (.istore_n 2, 1) := by decide +kernel
theorem dX4_gather_32 : decode cX4_gather 32 = .ok (.iload_n 2, 1) := by decide +kernel
theorem dX4_gather_33 : decode cX4_gather 33 = .ok (.bipush 6, 2) := by decide +kernel
theorem dX4_gather_35 : decode cX4_gather 35 = .ok (.if_icmp .ge 85, 3) := by decide +kernel
theorem dX4_gather_38 : decode cX4_gather 38 = .ok (.iconst 0, 1) := by decide +kernel
theorem dX4_gather_39 : decode cX4_gather 39 = .ok (.istore_n 3, 1) := by decide +kernel
theorem dX4_gather_40 : decode cX4_gather 40 = .ok (.iload_n 3, 1) := by decide +kernel
theorem dX4_gather_41 : decode cX4_gather 41 = .ok (.bipush 6, 2) := by decide +kernel
theorem dX4_gather_43 : decode cX4_gather 43 = .ok (.if_icmp .ge 71, 3) := by decide +kernel
theorem dX4_gather_46 : decode cX4_gather 46 = .ok (.iconst 0, 1) := by decide +kernel
theorem dX4_gather_47 : decode cX4_gather 47 = .ok (.istore 4, 2) := by decide +kernel
theorem dX4_gather_49 : decode cX4_gather 49 = .ok (.iload 4, 2) := by decide +kernel
theorem dX4_gather_51 : decode cX4_gather 51 = .ok (.bipush 6, 2) := by decide +kernel
theorem dX4_gather_53 : decode cX4_gather 53 = .ok (.if_icmp .ge 55, 3) := by decide +kernel
theorem dX4_gather_56 : decode cX4_gather 56 = .ok (.aload_n 0, 1) := by decide +kernel
theorem dX4_gather_57 : decode cX4_gather 57 = .ok (.getfield 32, 3) := by decide +kernel
theorem dX4_gather_60 : decode cX4_gather 60 = .ok (.iload 4, 2) := by decide +kernel
theorem dX4_gather_62 : decode cX4_gather 62 = .ok (.aload_n 0, 1) := by decide +kernel
theorem dX4_gather_63 : decode cX4_gather 63 = .ok (.getfield 32, 3) := by decide +kernel
theorem dX4_gather_66 : decode cX4_gather 66 = .ok (.iload 4, 2) := by decide +kernel
theorem dX4_gather_68 : decode cX4_gather 68 = .ok (.baload, 1) := by decide +kernel
theorem dX4_gather_69 : decode cX4_gather 69 = .ok (.ifCond .ne 27, 3) := by decide +kernel
theorem dX4_gather_72 : decode cX4_gather 72 = .ok (.aload_n 0, 1) := by decide +kernel
theorem dX4_gather_73 : decode cX4_gather 73 = .ok (.getfield 32, 3) := by decide +kernel
theorem dX4_gather_76 : decode cX4_gather 76 = .ok (.iload_n 3, 1) := by decide +kernel
theorem dX4_gather_77 : decode cX4_gather 77 = .ok (.baload, 1) := by decide +kernel
theorem dX4_gather_78 : decode cX4_gather 78 = .ok (.ifCond .eq 22, 3) := by decide +kernel
theorem dX4_gather_81 : decode cX4_gather 81 = .ok (.aload_n 0, 1) := by decide +kernel
theorem dX4_gather_82 : decode cX4_gather 82 = .ok (.getfield 28, 3) := by decide +kernel
theorem dX4_gather_85 : decode cX4_gather 85 = .ok (.bipush 6, 2) := by decide +kernel
theorem dX4_gather_87 : decode cX4_gather 87 = .ok (.iload_n 3, 1) := by decide +kernel
theorem dX4_gather_88 : decode cX4_gather 88 = .ok (.imul, 1) := by decide +kernel
theorem dX4_gather_89 : decode cX4_gather 89 = .ok (.iload 4, 2) := by decide +kernel
theorem dX4_gather_91 : decode cX4_gather 91 = .ok (.iadd, 1) := by decide +kernel
theorem dX4_gather_92 : decode cX4_gather 92 = .ok (.baload, 1) := by decide +kernel
theorem dX4_gather_93 : decode cX4_gather 93 = .ok (.ifCond .eq 7, 3) := by decide +kernel
theorem dX4_gather_96 : decode cX4_gather 96 = .ok (.iconst 1, 1) := by decide +kernel
theorem dX4_gather_97 : decode cX4_gather 97 = .ok (.goto 4, 3) := by decide +kernel
theorem dX4_gather_100 : decode cX4_gather 100 = .ok (.iconst 0, 1) := by decide +kernel
theorem dX4_gather_101 : decode cX4_gather 101 = .ok (.bastore, 1) := by decide +kernel
theorem dX4_gather_102 : decode cX4_gather 102 = .ok (.iinc 4 1, 3) := by decide +kernel
theorem dX4_gather_105 : decode cX4_gather 105 = .ok (.goto (-56), 3) := by decide +kernel
theorem dX4_gather_108 : decode cX4_gather 108 = .ok (.iinc 3 1, 3) := by decide +kernel
theorem dX4_gather_111 : decode cX4_gather 111 = .ok (.goto (-71), 3) := by decide +kernel
theorem dX4_gather_114 : decode cX4_gather 114 = .ok (.iinc 2 1, 3) := by decide +kernel
theorem dX4_gather_117 : decode cX4_gather 117 = .ok (.goto (-85), 3) := by decide +kernel
theorem dX4_gather_120 : decode cX4_gather 120 = .ok (.return_, 1) := by decide +kernel
theorem dX4_ofGroup_0 : decode cX4_ofGroup 0 = .ok (.aload_n 0, 1) := by decide +kernel
theorem dX4_ofGroup_1 : decode cX4_ofGroup 1 = .ok (.iload_n 2, 1) := by decide +kernel
theorem dX4_ofGroup_2 : decode cX4_ofGroup 2 = .ok (.invokevirtual 106, 3) := by decide +kernel
theorem dX4_ofGroup_5 : decode cX4_ofGroup 5 = .ok (.iconst 0, 1) := by decide +kernel
theorem dX4_ofGroup_6 : decode cX4_ofGroup 6 = .ok (.istore_n 3, 1) := by decide +kernel
theorem dX4_ofGroup_7 : decode cX4_ofGroup 7 = .ok (.iconst 0, 1) := by decide +kernel
theorem dX4_ofGroup_8 : decode cX4_ofGroup 8 = .ok (.istore 4, 2) := by decide +kernel
theorem dX4_ofGroup_10 : decode cX4_ofGroup 10 = .ok (.iload 4, 2) := by decide +kernel
theorem dX4_ofGroup_12 : decode cX4_ofGroup 12 = .ok (.bipush 6, 2) := by decide +kernel
theorem dX4_ofGroup_14 : decode cX4_ofGroup 14 = .ok (.if_icmp .ge 38, 3) := by decide +kernel
theorem dX4_ofGroup_17 : decode cX4_ofGroup 17 = .ok (.aload_n 0, 1) := by decide +kernel
theorem dX4_ofGroup_18 : decode cX4_ofGroup 18 = .ok (.getfield 32, 3) := by decide +kernel
theorem dX4_ofGroup_21 : decode cX4_ofGroup 21 = .ok (.iload 4, 2) := by decide +kernel
theorem dX4_ofGroup_23 : decode cX4_ofGroup 23 = .ok (.baload, 1) := by decide +kernel
theorem dX4_ofGroup_24 : decode cX4_ofGroup 24 = .ok (.ifCond .eq 20, 3) := by decide +kernel
theorem dX4_ofGroup_27 : decode cX4_ofGroup 27 = .ok (.iload_n 3, 1) := by decide +kernel
theorem dX4_ofGroup_28 : decode cX4_ofGroup 28 = .ok (.aload_n 0, 1) := by decide +kernel
theorem dX4_ofGroup_29 : decode cX4_ofGroup 29 = .ok (.getfield 22, 3) := by decide +kernel
theorem dX4_ofGroup_32 : decode cX4_ofGroup 32 = .ok (.bipush 6, 2) := by decide +kernel
theorem dX4_ofGroup_34 : decode cX4_ofGroup 34 = .ok (.iload_n 1, 1) := by decide +kernel
theorem dX4_ofGroup_35 : decode cX4_ofGroup 35 = .ok (.imul, 1) := by decide +kernel
theorem dX4_ofGroup_36 : decode cX4_ofGroup 36 = .ok (.iload 4, 2) := by decide +kernel
theorem dX4_ofGroup_38 : decode cX4_ofGroup 38 = .ok (.iadd, 1) := by decide +kernel
theorem dX4_ofGroup_39 : decode cX4_ofGroup 39 = .ok (.iaload, 1) := by decide +kernel
theorem dX4_ofGroup_40 : decode cX4_ofGroup 40 = .ok (.iadd, 1) := by decide +kernel
theorem dX4_ofGroup_41 : decode cX4_ofGroup 41 = .ok (.goto 4, 3) := by decide +kernel
theorem dX4_ofGroup_44 : decode cX4_ofGroup 44 = .ok (.iload_n 3, 1) := by decide +kernel
theorem dX4_ofGroup_45 : decode cX4_ofGroup 45 = .ok (.istore_n 3, 1) := by decide +kernel
theorem dX4_ofGroup_46 : decode cX4_ofGroup 46 = .ok (.iinc 4 1, 3) := by decide +kernel
theorem dX4_ofGroup_49 : decode cX4_ofGroup 49 = .ok (.goto (-39), 3) := by decide +kernel
theorem dX4_ofGroup_52 : decode cX4_ofGroup 52 = .ok (.iload_n 3, 1) := by decide +kernel
theorem dX4_ofGroup_53 : decode cX4_ofGroup 53 = .ok (.ireturn, 1) := by decide +kernel
theorem dX4_fits_0 : decode cX4_fits 0 = .ok (.iconst 1, 1) := by decide +kernel
theorem dX4_fits_1 : decode cX4_fits 1 = .ok (.istore_n 3, 1) := by decide +kernel
theorem dX4_fits_2 : decode cX4_fits 2 = .ok (.iconst 0, 1) := by decide +kernel
theorem dX4_fits_3 : decode cX4_fits 3 = .ok (.istore 4, 2) := by decide +kernel
theorem dX4_fits_5 : decode cX4_fits 5 = .ok (.iload 4, 2) := by decide +kernel
theorem dX4_fits_7 : decode cX4_fits 7 = .ok (.bipush 6, 2) := by decide +kernel
theorem dX4_fits_9 : decode cX4_fits 9 = .ok (.if_icmp .ge 30, 3) := by decide +kernel
theorem dX4_fits_12 : decode cX4_fits 12 = .ok (.iload_n 3, 1) := by decide +kernel
theorem dX4_fits_13 : decode cX4_fits 13 = .ok (.ifCond .eq 18, 3) := by decide +kernel
theorem dX4_fits_16 : decode cX4_fits 16 = .ok (.aload_n 0, 1) := by decide +kernel
theorem dX4_fits_17 : decode cX4_fits 17 = .ok (.iload_n 1, 1) := by decide +kernel
theorem dX4_fits_18 : decode cX4_fits 18 = .ok (.iload 4, 2) := by decide +kernel
theorem dX4_fits_20 : decode cX4_fits 20 = .ok (.invokevirtual 110, 3) := by decide +kernel
theorem dX4_fits_23 : decode cX4_fits 23 = .ok (.iload_n 2, 1) := by decide +kernel
theorem dX4_fits_24 : decode cX4_fits 24 = .ok (.if_icmp .gt 7, 3) := by decide +kernel
theorem dX4_fits_27 : decode cX4_fits 27 = .ok (.iconst 1, 1) := by decide +kernel
theorem dX4_fits_28 : decode cX4_fits 28 = .ok (.goto 4, 3) := by decide +kernel
theorem dX4_fits_31 : decode cX4_fits 31 = .ok (.iconst 0, 1) := by decide +kernel
theorem dX4_fits_32 : decode cX4_fits 32 = .ok (.istore_n 3, 1) := by decide +kernel
theorem dX4_fits_33 : decode cX4_fits 33 = .ok (.iinc 4 1, 3) := by decide +kernel
theorem dX4_fits_36 : decode cX4_fits 36 = .ok (.goto (-31), 3) := by decide +kernel
theorem dX4_fits_39 : decode cX4_fits 39 = .ok (.iload_n 3, 1) := by decide +kernel
theorem dX4_fits_40 : decode cX4_fits 40 = .ok (.ireturn, 1) := by decide +kernel
theorem dX4_free_0 : decode cX4_free 0 = .ok (.aload_n 0, 1) := by decide +kernel
theorem dX4_free_1 : decode cX4_free 1 = .ok (.getfield 22, 3) := by decide +kernel
theorem dX4_free_4 : decode cX4_free 4 = .ok (.bipush 6, 2) := by decide +kernel
theorem dX4_free_6 : decode cX4_free 6 = .ok (.iload_n 1, 1) := by decide +kernel
theorem dX4_free_7 : decode cX4_free 7 = .ok (.imul, 1) := by decide +kernel
theorem dX4_free_8 : decode cX4_free 8 = .ok (.iload_n 2, 1) := by decide +kernel
theorem dX4_free_9 : decode cX4_free 9 = .ok (.iadd, 1) := by decide +kernel
theorem dX4_free_10 : decode cX4_free 10 = .ok (.iaload, 1) := by decide +kernel
theorem dX4_free_11 : decode cX4_free 11 = .ok (.istore_n 3, 1) := by decide +kernel
theorem dX4_free_12 : decode cX4_free 12 = .ok (.iconst 0, 1) := by decide +kernel
theorem dX4_free_13 : decode cX4_free 13 = .ok (.istore 4, 2) := by decide +kernel
theorem dX4_free_15 : decode cX4_free 15 = .ok (.iload 4, 2) := by decide +kernel
theorem dX4_free_17 : decode cX4_free 17 = .ok (.bipush 6, 2) := by decide +kernel
theorem dX4_free_19 : decode cX4_free 19 = .ok (.if_icmp .ge 39, 3) := by decide +kernel
theorem dX4_free_22 : decode cX4_free 22 = .ok (.aload_n 0, 1) := by decide +kernel
theorem dX4_free_23 : decode cX4_free 23 = .ok (.getfield 19, 3) := by decide +kernel
theorem dX4_free_26 : decode cX4_free 26 = .ok (.iload 4, 2) := by decide +kernel
theorem dX4_free_28 : decode cX4_free 28 = .ok (.iaload, 1) := by decide +kernel
theorem dX4_free_29 : decode cX4_free 29 = .ok (.iload_n 2, 1) := by decide +kernel
theorem dX4_free_30 : decode cX4_free 30 = .ok (.if_icmp .ne 20, 3) := by decide +kernel
theorem dX4_free_33 : decode cX4_free 33 = .ok (.iload_n 3, 1) := by decide +kernel
theorem dX4_free_34 : decode cX4_free 34 = .ok (.aload_n 0, 1) := by decide +kernel
theorem dX4_free_35 : decode cX4_free 35 = .ok (.getfield 25, 3) := by decide +kernel
theorem dX4_free_38 : decode cX4_free 38 = .ok (.bipush 6, 2) := by decide +kernel
theorem dX4_free_40 : decode cX4_free 40 = .ok (.iload_n 1, 1) := by decide +kernel
theorem dX4_free_41 : decode cX4_free 41 = .ok (.imul, 1) := by decide +kernel
theorem dX4_free_42 : decode cX4_free 42 = .ok (.iload 4, 2) := by decide +kernel
theorem dX4_free_44 : decode cX4_free 44 = .ok (.iadd, 1) := by decide +kernel
theorem dX4_free_45 : decode cX4_free 45 = .ok (.iaload, 1) := by decide +kernel
theorem dX4_free_46 : decode cX4_free 46 = .ok (.isub, 1) := by decide +kernel
theorem dX4_free_47 : decode cX4_free 47 = .ok (.goto 4, 3) := by decide +kernel
theorem dX4_free_50 : decode cX4_free 50 = .ok (.iload_n 3, 1) := by decide +kernel
theorem dX4_free_51 : decode cX4_free 51 = .ok (.istore_n 3, 1) := by decide +kernel
theorem dX4_free_52 : decode cX4_free 52 = .ok (.iinc 4 1, 3) := by decide +kernel
theorem dX4_free_55 : decode cX4_free 55 = .ok (.goto (-40), 3) := by decide +kernel
theorem dX4_free_58 : decode cX4_free 58 = .ok (.iload_n 3, 1) := by decide +kernel
theorem dX4_free_59 : decode cX4_free 59 = .ok (.ireturn, 1) := by decide +kernel
theorem dX4_species_0 : decode cX4_species 0 = .ok (.iload_n 1, 1) := by decide +kernel
theorem dX4_species_1 : decode cX4_species 1 = .ok (.invokestatic 114, 3) := by decide +kernel
theorem dX4_species_4 : decode cX4_species 4 = .ok (.ifCond .eq 40, 3) := by decide +kernel
theorem dX4_species_7 : decode cX4_species 7 = .ok (.iload_n 2, 1) := by decide +kernel
theorem dX4_species_8 : decode cX4_species 8 = .ok (.i2l, 1) := by decide +kernel
theorem dX4_species_9 : decode cX4_species 9 = .ok (.lconst 1, 1) := by decide +kernel
theorem dX4_species_10 : decode cX4_species 10 = .ok (.ldc2_w 118, 3) := by decide +kernel
theorem dX4_species_13 : decode cX4_species 13 = .ok (.invokestatic 100, 3) := by decide +kernel
theorem dX4_species_16 : decode cX4_species 16 = .ok (.ifCond .eq 28, 3) := by decide +kernel
theorem dX4_species_19 : decode cX4_species 19 = .ok (.iload_n 3, 1) := by decide +kernel
theorem dX4_species_20 : decode cX4_species 20 = .ok (.i2l, 1) := by decide +kernel
theorem dX4_species_21 : decode cX4_species 21 = .ok (.lconst 0, 1) := by decide +kernel
theorem dX4_species_22 : decode cX4_species 22 = .ok (.ldc2_w 120, 3) := by decide +kernel
theorem dX4_species_25 : decode cX4_species 25 = .ok (.invokestatic 100, 3) := by decide +kernel
theorem dX4_species_28 : decode cX4_species 28 = .ok (.ifCond .eq 16, 3) := by decide +kernel
theorem dX4_species_31 : decode cX4_species 31 = .ok (.aload_n 0, 1) := by decide +kernel
theorem dX4_species_32 : decode cX4_species 32 = .ok (.iload_n 1, 1) := by decide +kernel
theorem dX4_species_33 : decode cX4_species 33 = .ok (.iload_n 3, 1) := by decide +kernel
theorem dX4_species_34 : decode cX4_species 34 = .ok (.invokevirtual 122, 3) := by decide +kernel
theorem dX4_species_37 : decode cX4_species 37 = .ok (.ifCond .eq 7, 3) := by decide +kernel
theorem dX4_species_40 : decode cX4_species 40 = .ok (.iconst 1, 1) := by decide +kernel
theorem dX4_species_41 : decode cX4_species 41 = .ok (.goto 4, 3) := by decide +kernel
theorem dX4_species_44 : decode cX4_species 44 = .ok (.iconst 0, 1) := by decide +kernel
theorem dX4_species_45 : decode cX4_species 45 = .ok (.istore 4, 2) := by decide +kernel
theorem dX4_species_47 : decode cX4_species 47 = .ok (.aload_n 0, 1) := by decide +kernel
theorem dX4_species_48 : decode cX4_species 48 = .ok (.iload 4, 2) := by decide +kernel
theorem dX4_species_50 : decode cX4_species 50 = .ok (.ifCond .ne 7, 3) := by decide +kernel
theorem dX4_species_53 : decode cX4_species 53 = .ok (.iconst 1, 1) := by decide +kernel
theorem dX4_species_54 : decode cX4_species 54 = .ok (.goto 4, 3) := by decide +kernel
theorem dX4_species_57 : decode cX4_species 57 = .ok (.iconst 0, 1) := by decide +kernel
theorem dX4_species_58 : decode cX4_species 58 = .ok (.iconst 0, 1) := by decide +kernel
theorem dX4_species_59 : decode cX4_species 59 = .ok (.invokevirtual 126, 3) := by decide +kernel
theorem dX4_species_62 : decode cX4_species 62 = .ok (.ifCond .eq 4, 3) := by decide +kernel
theorem dX4_species_65 : decode cX4_species 65 = .ok (.return_, 1) := by decide +kernel
theorem dX4_species_66 : decode cX4_species 66 = .ok (.aload_n 0, 1) := by decide +kernel
theorem dX4_species_67 : decode cX4_species 67 = .ok (.getfield 7, 3) := by decide +kernel
theorem dX4_species_70 : decode cX4_species 70 = .ok (.iload_n 1, 1) := by decide +kernel
theorem dX4_species_71 : decode cX4_species 71 = .ok (.iload_n 2, 1) := by decide +kernel
theorem dX4_species_72 : decode cX4_species 72 = .ok (.iastore, 1) := by decide +kernel
theorem dX4_species_73 : decode cX4_species 73 = .ok (.aload_n 0, 1) := by decide +kernel
theorem dX4_species_74 : decode cX4_species 74 = .ok (.getfield 13, 3) := by decide +kernel
theorem dX4_species_77 : decode cX4_species 77 = .ok (.iload_n 1, 1) := by decide +kernel
theorem dX4_species_78 : decode cX4_species 78 = .ok (.iload_n 3, 1) := by decide +kernel
theorem dX4_species_79 : decode cX4_species 79 = .ok (.iastore, 1) := by decide +kernel
theorem dX4_species_80 : decode cX4_species 80 = .ok (.return_, 1) := by decide +kernel
theorem dX4_factor_0 : decode cX4_factor 0 = .ok (.aload_n 0, 1) := by decide +kernel
theorem dX4_factor_1 : decode cX4_factor 1 = .ok (.iload_n 1, 1) := by decide +kernel
theorem dX4_factor_2 : decode cX4_factor 2 = .ok (.invokestatic 114, 3) := by decide +kernel
theorem dX4_factor_5 : decode cX4_factor 5 = .ok (.ifCond .eq 27, 3) := by decide +kernel
theorem dX4_factor_8 : decode cX4_factor 8 = .ok (.iload_n 2, 1) := by decide +kernel
theorem dX4_factor_9 : decode cX4_factor 9 = .ok (.i2l, 1) := by decide +kernel
theorem dX4_factor_10 : decode cX4_factor 10 = .ok (.lconst 0, 1) := by decide +kernel
theorem dX4_factor_11 : decode cX4_factor 11 = .ok (.ldc2_w 130, 3) := by decide +kernel
theorem dX4_factor_14 : decode cX4_factor 14 = .ok (.invokestatic 100, 3) := by decide +kernel
theorem dX4_factor_17 : decode cX4_factor 17 = .ok (.ifCond .eq 15, 3) := by decide +kernel
theorem dX4_factor_20 : decode cX4_factor 20 = .ok (.iload_n 3, 1) := by decide +kernel
theorem dX4_factor_21 : decode cX4_factor 21 = .ok (.i2l, 1) := by decide +kernel
theorem dX4_factor_22 : decode cX4_factor 22 = .ok (.lconst 0, 1) := by decide +kernel
theorem dX4_factor_23 : decode cX4_factor 23 = .ok (.ldc2_w 132, 3) := by decide +kernel
theorem dX4_factor_26 : decode cX4_factor 26 = .ok (.invokestatic 100, 3) := by decide +kernel
theorem dX4_factor_29 : decode cX4_factor 29 = .ok (.ifCond .ne 7, 3) := by decide +kernel
theorem dX4_factor_32 : decode cX4_factor 32 = .ok (.iconst 1, 1) := by decide +kernel
theorem dX4_factor_33 : decode cX4_factor 33 = .ok (.goto 4, 3) := by decide +kernel
theorem dX4_factor_36 : decode cX4_factor 36 = .ok (.iconst 0, 1) := by decide +kernel
theorem dX4_factor_37 : decode cX4_factor 37 = .ok (.iconst 0, 1) := by decide +kernel
theorem dX4_factor_38 : decode cX4_factor 38 = .ok (.invokevirtual 126, 3) := by decide +kernel
theorem dX4_factor_41 : decode cX4_factor 41 = .ok (.ifCond .eq 4, 3) := by decide +kernel
theorem dX4_factor_44 : decode cX4_factor 44 = .ok (.return_, 1) := by decide +kernel
theorem dX4_factor_45 : decode cX4_factor 45 = .ok (.aload_n 0, 1) := by decide +kernel
theorem dX4_factor_46 : decode cX4_factor 46 = .ok (.getfield 16, 3) := by decide +kernel
theorem dX4_factor_49 : decode cX4_factor 49 = .ok (.iconst 3, 1) := by decide +kernel
theorem dX4_factor_50 : decode cX4_factor 50 = .ok (.iload_n 1, 1) := by decide +kernel
theorem dX4_factor_51 : decode cX4_factor 51 = .ok (.imul, 1) := by decide +kernel
theorem dX4_factor_52 : decode cX4_factor 52 = .ok (.iload_n 2, 1) := by decide +kernel
theorem dX4_factor_53 : decode cX4_factor 53 = .ok (.iadd, 1) := by decide +kernel
theorem dX4_factor_54 : decode cX4_factor 54 = .ok (.iload_n 3, 1) := by decide +kernel
theorem dX4_factor_55 : decode cX4_factor 55 = .ok (.iastore, 1) := by decide +kernel
theorem dX4_factor_56 : decode cX4_factor 56 = .ok (.return_, 1) := by decide +kernel
theorem dX4_vessel_0 : decode cX4_vessel 0 = .ok (.iload_n 1, 1) := by decide +kernel
theorem dX4_vessel_1 : decode cX4_vessel 1 = .ok (.invokestatic 134, 3) := by decide +kernel
theorem dX4_vessel_4 : decode cX4_vessel 4 = .ok (.ifCond .eq 14, 3) := by decide +kernel
theorem dX4_vessel_7 : decode cX4_vessel 7 = .ok (.iload_n 2, 1) := by decide +kernel
theorem dX4_vessel_8 : decode cX4_vessel 8 = .ok (.invokestatic 134, 3) := by decide +kernel
theorem dX4_vessel_11 : decode cX4_vessel 11 = .ok (.ifCond .eq 7, 3) := by decide +kernel
theorem dX4_vessel_14 : decode cX4_vessel 14 = .ok (.iconst 1, 1) := by decide +kernel
theorem dX4_vessel_15 : decode cX4_vessel 15 = .ok (.goto 4, 3) := by decide +kernel
theorem dX4_vessel_18 : decode cX4_vessel 18 = .ok (.iconst 0, 1) := by decide +kernel
theorem dX4_vessel_19 : decode cX4_vessel 19 = .ok (.istore_n 3, 1) := by decide +kernel
theorem dX4_vessel_20 : decode cX4_vessel 20 = .ok (.iconst 0, 1) := by decide +kernel
theorem dX4_vessel_21 : decode cX4_vessel 21 = .ok (.istore 4, 2) := by decide +kernel
theorem dX4_vessel_23 : decode cX4_vessel 23 = .ok (.iconst 0, 1) := by decide +kernel
theorem dX4_vessel_24 : decode cX4_vessel 24 = .ok (.istore 5, 2) := by decide +kernel
theorem dX4_vessel_26 : decode cX4_vessel 26 = .ok (.iload 5, 2) := by decide +kernel
theorem dX4_vessel_28 : decode cX4_vessel 28 = .ok (.iconst 4, 1) := by decide +kernel
theorem dX4_vessel_29 : decode cX4_vessel 29 = .ok (.if_icmp .ge 40, 3) := by decide +kernel
theorem dX4_vessel_32 : decode cX4_vessel 32 = .ok (.iload_n 3, 1) := by decide +kernel
theorem dX4_vessel_33 : decode cX4_vessel 33 = .ok (.ifCond .eq 36, 3) := by decide +kernel
theorem dX4_vessel_36 : decode cX4_vessel 36 = .ok (.iload 4, 2) := by decide +kernel
theorem dX4_vessel_38 : decode cX4_vessel 38 = .ok (.ifCond .ne 18, 3) := by decide +kernel
theorem dX4_vessel_41 : decode cX4_vessel 41 = .ok (.aload_n 0, 1) := by decide +kernel
theorem dX4_vessel_42 : decode cX4_vessel 42 = .ok (.getfield 25, 3) := by decide +kernel
theorem dX4_vessel_45 : decode cX4_vessel 45 = .ok (.bipush 6, 2) := by decide +kernel
theorem dX4_vessel_47 : decode cX4_vessel 47 = .ok (.iload 5, 2) := by decide +kernel
theorem dX4_vessel_49 : decode cX4_vessel 49 = .ok (.imul, 1) := by decide +kernel
theorem dX4_vessel_50 : decode cX4_vessel 50 = .ok (.iload_n 1, 1) := by decide +kernel
theorem dX4_vessel_51 : decode cX4_vessel 51 = .ok (.iadd, 1) := by decide +kernel
theorem dX4_vessel_52 : decode cX4_vessel 52 = .ok (.iaload, 1) := by decide +kernel
theorem dX4_vessel_53 : decode cX4_vessel 53 = .ok (.ifCond .le 7, 3) := by decide +kernel
theorem dX4_vessel_56 : decode cX4_vessel 56 = .ok (.iconst 1, 1) := by decide +kernel
theorem dX4_vessel_57 : decode cX4_vessel 57 = .ok (.goto 4, 3) := by decide +kernel
theorem dX4_vessel_60 : decode cX4_vessel 60 = .ok (.iconst 0, 1) := by decide +kernel
theorem dX4_vessel_61 : decode cX4_vessel 61 = .ok (.istore 4, 2) := by decide +kernel
theorem dX4_vessel_63 : decode cX4_vessel 63 = .ok (.iinc 5 1, 3) := by decide +kernel
theorem dX4_vessel_66 : decode cX4_vessel 66 = .ok (.goto (-40), 3) := by decide +kernel
theorem dX4_vessel_69 : decode cX4_vessel 69 = .ok (.aload_n 0, 1) := by decide +kernel
theorem dX4_vessel_70 : decode cX4_vessel 70 = .ok (.iload_n 3, 1) := by decide +kernel
theorem dX4_vessel_71 : decode cX4_vessel 71 = .ok (.ifCond .ne 7, 3) := by decide +kernel
theorem dX4_vessel_74 : decode cX4_vessel 74 = .ok (.iconst 1, 1) := by decide +kernel
theorem dX4_vessel_75 : decode cX4_vessel 75 = .ok (.goto 4, 3) := by decide +kernel
theorem dX4_vessel_78 : decode cX4_vessel 78 = .ok (.iconst 0, 1) := by decide +kernel
theorem dX4_vessel_79 : decode cX4_vessel 79 = .ok (.iload 4, 2) := by decide +kernel
theorem dX4_vessel_81 : decode cX4_vessel 81 = .ok (.invokevirtual 126, 3) := by decide +kernel
theorem dX4_vessel_84 : decode cX4_vessel 84 = .ok (.ifCond .eq 4, 3) := by decide +kernel
theorem dX4_vessel_87 : decode cX4_vessel 87 = .ok (.return_, 1) := by decide +kernel
theorem dX4_vessel_88 : decode cX4_vessel 88 = .ok (.aload_n 0, 1) := by decide +kernel
theorem dX4_vessel_89 : decode cX4_vessel 89 = .ok (.getfield 19, 3) := by decide +kernel
theorem dX4_vessel_92 : decode cX4_vessel 92 = .ok (.iload_n 1, 1) := by decide +kernel
theorem dX4_vessel_93 : decode cX4_vessel 93 = .ok (.iload_n 2, 1) := by decide +kernel
theorem dX4_vessel_94 : decode cX4_vessel 94 = .ok (.iastore, 1) := by decide +kernel
theorem dX4_vessel_95 : decode cX4_vessel 95 = .ok (.return_, 1) := by decide +kernel
theorem dX4_setLink_0 : decode cX4_setLink 0 = .ok (.aload_n 0, 1) := by decide +kernel
theorem dX4_setLink_1 : decode cX4_setLink 1 = .ok (.getfield 28, 3) := by decide +kernel
theorem dX4_setLink_4 : decode cX4_setLink 4 = .ok (.bipush 6, 2) := by decide +kernel
theorem dX4_setLink_6 : decode cX4_setLink 6 = .ok (.iload_n 1, 1) := by decide +kernel
theorem dX4_setLink_7 : decode cX4_setLink 7 = .ok (.imul, 1) := by decide +kernel
theorem dX4_setLink_8 : decode cX4_setLink 8 = .ok (.iload_n 2, 1) := by decide +kernel
theorem dX4_setLink_9 : decode cX4_setLink 9 = .ok (.iadd, 1) := by decide +kernel
theorem dX4_setLink_10 : decode cX4_setLink 10 = .ok (.iload_n 3, 1) := by decide +kernel
theorem dX4_setLink_11 : decode cX4_setLink 11 = .ok (.bastore, 1) := by decide +kernel
theorem dX4_setLink_12 : decode cX4_setLink 12 = .ok (.aload_n 0, 1) := by decide +kernel
theorem dX4_setLink_13 : decode cX4_setLink 13 = .ok (.getfield 28, 3) := by decide +kernel
theorem dX4_setLink_16 : decode cX4_setLink 16 = .ok (.bipush 6, 2) := by decide +kernel
theorem dX4_setLink_18 : decode cX4_setLink 18 = .ok (.iload_n 2, 1) := by decide +kernel
theorem dX4_setLink_19 : decode cX4_setLink 19 = .ok (.imul, 1) := by decide +kernel
theorem dX4_setLink_20 : decode cX4_setLink 20 = .ok (.iload_n 1, 1) := by decide +kernel
theorem dX4_setLink_21 : decode cX4_setLink 21 = .ok (.iadd, 1) := by decide +kernel
theorem dX4_setLink_22 : decode cX4_setLink 22 = .ok (.iload_n 3, 1) := by decide +kernel
theorem dX4_setLink_23 : decode cX4_setLink 23 = .ok (.bastore, 1) := by decide +kernel
theorem dX4_setLink_24 : decode cX4_setLink 24 = .ok (.return_, 1) := by decide +kernel
theorem dX4_link_0 : decode cX4_link 0 = .ok (.aload_n 0, 1) := by decide +kernel
theorem dX4_link_1 : decode cX4_link 1 = .ok (.iload_n 1, 1) := by decide +kernel
theorem dX4_link_2 : decode cX4_link 2 = .ok (.invokestatic 134, 3) := by decide +kernel
theorem dX4_link_5 : decode cX4_link 5 = .ok (.ifCond .eq 15, 3) := by decide +kernel
theorem dX4_link_8 : decode cX4_link 8 = .ok (.iload_n 2, 1) := by decide +kernel
theorem dX4_link_9 : decode cX4_link 9 = .ok (.invokestatic 134, 3) := by decide +kernel
theorem dX4_link_12 : decode cX4_link 12 = .ok (.ifCond .eq 8, 3) := by decide +kernel
theorem dX4_link_15 : decode cX4_link 15 = .ok (.iload_n 1, 1) := by decide +kernel
theorem dX4_link_16 : decode cX4_link 16 = .ok (.iload_n 2, 1) := by decide +kernel
theorem dX4_link_17 : decode cX4_link 17 = .ok (.if_icmp .ne 7, 3) := by decide +kernel
theorem dX4_link_20 : decode cX4_link 20 = .ok (.iconst 1, 1) := by decide +kernel
theorem dX4_link_21 : decode cX4_link 21 = .ok (.goto 4, 3) := by decide +kernel
theorem dX4_link_24 : decode cX4_link 24 = .ok (.iconst 0, 1) := by decide +kernel
theorem dX4_link_25 : decode cX4_link 25 = .ok (.iconst 0, 1) := by decide +kernel
theorem dX4_link_26 : decode cX4_link 26 = .ok (.invokevirtual 126, 3) := by decide +kernel
theorem dX4_link_29 : decode cX4_link 29 = .ok (.ifCond .eq 4, 3) := by decide +kernel
theorem dX4_link_32 : decode cX4_link 32 = .ok (.return_, 1) := by decide +kernel
theorem dX4_link_33 : decode cX4_link 33 = .ok (.aload_n 0, 1) := by decide +kernel
theorem dX4_link_34 : decode cX4_link 34 = .ok (.getfield 28, 3) := by decide +kernel
theorem dX4_link_37 : decode cX4_link 37 = .ok (.bipush 6, 2) := by decide +kernel
theorem dX4_link_39 : decode cX4_link 39 = .ok (.iload_n 1, 1) := by decide +kernel
theorem dX4_link_40 : decode cX4_link 40 = .ok (.imul, 1) := by decide +kernel
theorem dX4_link_41 : decode cX4_link 41 = .ok (.iload_n 2, 1) := by decide +kernel
theorem dX4_link_42 : decode cX4_link 42 = .ok (.iadd, 1) := by decide +kernel
theorem dX4_link_43 : decode cX4_link 43 = .ok (.baload, 1) := by decide +kernel
theorem dX4_link_44 : decode cX4_link 44 = .ok (.istore_n 3, 1) := by decide +kernel
theorem dX4_link_45 : decode cX4_link 45 = .ok (.aload_n 0, 1) := by decide +kernel
theorem dX4_link_46 : decode cX4_link 46 = .ok (.iload_n 1, 1) := by decide +kernel
theorem dX4_link_47 : decode cX4_link 47 = .ok (.iload_n 2, 1) := by decide +kernel
theorem dX4_link_48 : decode cX4_link 48 = .ok (.iconst 1, 1) := by decide +kernel
theorem dX4_link_49 : decode cX4_link 49 = .ok (.invokevirtual 137, 3) := by decide +kernel
theorem dX4_link_52 : decode cX4_link 52 = .ok (.iconst 1, 1) := by decide +kernel
theorem dX4_link_53 : decode cX4_link 53 = .ok (.istore 4, 2) := by decide +kernel
theorem dX4_link_55 : decode cX4_link 55 = .ok (.iconst 0, 1) := by decide +kernel
theorem dX4_link_56 : decode cX4_link 56 = .ok (.istore 5, 2) := by decide +kernel
theorem dX4_link_58 : decode cX4_link 58 = .ok (.iload 5, 2) := by decide +kernel
theorem dX4_link_60 : decode cX4_link 60 = .ok (.iconst 4, 1) := by decide +kernel
theorem dX4_link_61 : decode cX4_link 61 = .ok (.if_icmp .ge 37, 3) := by decide +kernel
theorem dX4_link_64 : decode cX4_link 64 = .ok (.iload 4, 2) := by decide +kernel
theorem dX4_link_66 : decode cX4_link 66 = .ok (.ifCond .eq 23, 3) := by decide +kernel
theorem dX4_link_69 : decode cX4_link 69 = .ok (.aload_n 0, 1) := by decide +kernel
theorem dX4_link_70 : decode cX4_link 70 = .ok (.iload 5, 2) := by decide +kernel
theorem dX4_link_72 : decode cX4_link 72 = .ok (.aload_n 0, 1) := by decide +kernel
theorem dX4_link_73 : decode cX4_link 73 = .ok (.getfield 13, 3) := by decide +kernel
theorem dX4_link_76 : decode cX4_link 76 = .ok (.iload 5, 2) := by decide +kernel
theorem dX4_link_78 : decode cX4_link 78 = .ok (.iaload, 1) := by decide +kernel
theorem dX4_link_79 : decode cX4_link 79 = .ok (.invokevirtual 122, 3) := by decide +kernel
theorem dX4_link_82 : decode cX4_link 82 = .ok (.ifCond .eq 7, 3) := by decide +kernel
theorem dX4_link_85 : decode cX4_link 85 = .ok (.iconst 1, 1) := by decide +kernel
theorem dX4_link_86 : decode cX4_link 86 = .ok (.goto 4, 3) := by decide +kernel
theorem dX4_link_89 : decode cX4_link 89 = .ok (.iconst 0, 1) := by decide +kernel
theorem dX4_link_90 : decode cX4_link 90 = .ok (.istore 4, 2) := by decide +kernel
theorem dX4_link_92 : decode cX4_link 92 = .ok (.iinc 5 1, 3) := by decide +kernel
theorem dX4_link_95 : decode cX4_link 95 = .ok (.goto (-37), 3) := by decide +kernel
theorem dX4_link_98 : decode cX4_link 98 = .ok (.aload_n 0, 1) := by decide +kernel
theorem dX4_link_99 : decode cX4_link 99 = .ok (.iconst 0, 1) := by decide +kernel
theorem dX4_link_100 : decode cX4_link 100 = .ok (.iload 4, 2) := by decide +kernel
theorem dX4_link_102 : decode cX4_link 102 = .ok (.ifCond .ne 7, 3) := by decide +kernel
theorem dX4_link_105 : decode cX4_link 105 = .ok (.iconst 1, 1) := by decide +kernel
theorem dX4_link_106 : decode cX4_link 106 = .ok (.goto 4, 3) := by decide +kernel
theorem dX4_link_109 : decode cX4_link 109 = .ok (.iconst 0, 1) := by decide +kernel
theorem dX4_link_110 : decode cX4_link 110 = .ok (.invokevirtual 126, 3) := by decide +kernel
theorem dX4_link_113 : decode cX4_link 113 = .ok (.ifCond .eq 10, 3) := by decide +kernel
theorem dX4_link_116 : decode cX4_link 116 = .ok (.aload_n 0, 1) := by decide +kernel
theorem dX4_link_117 : decode cX4_link 117 = .ok (.iload_n 1, 1) := by decide +kernel
theorem dX4_link_118 : decode cX4_link 118 = .ok (.iload_n 2, 1) := by decide +kernel
theorem dX4_link_119 : decode cX4_link 119 = .ok (.iload_n 3, 1) := by decide +kernel
theorem dX4_link_120 : decode cX4_link 120 = .ok (.invokevirtual 137, 3) := by decide +kernel
theorem dX4_link_123 : decode cX4_link 123 = .ok (.return_, 1) := by decide +kernel
theorem dX4_unlink_0 : decode cX4_unlink 0 = .ok (.iload_n 1, 1) := by decide +kernel
theorem dX4_unlink_1 : decode cX4_unlink 1 = .ok (.invokestatic 134, 3) := by decide +kernel
theorem dX4_unlink_4 : decode cX4_unlink 4 = .ok (.ifCond .eq 19, 3) := by decide +kernel
theorem dX4_unlink_7 : decode cX4_unlink 7 = .ok (.iload_n 2, 1) := by decide +kernel
theorem dX4_unlink_8 : decode cX4_unlink 8 = .ok (.invokestatic 134, 3) := by decide +kernel
theorem dX4_unlink_11 : decode cX4_unlink 11 = .ok (.ifCond .eq 12, 3) := by decide +kernel
theorem dX4_unlink_14 : decode cX4_unlink 14 = .ok (.iload_n 1, 1) := by decide +kernel
theorem dX4_unlink_15 : decode cX4_unlink 15 = .ok (.iload_n 2, 1) := by decide +kernel
theorem dX4_unlink_16 : decode cX4_unlink 16 = .ok (.if_icmp .eq 7, 3) := by decide +kernel
theorem dX4_unlink_19 : decode cX4_unlink 19 = .ok (.iconst 1, 1) := by decide +kernel
theorem dX4_unlink_20 : decode cX4_unlink 20 = .ok (.goto 4, 3) := by decide +kernel
theorem dX4_unlink_23 : decode cX4_unlink 23 = .ok (.iconst 0, 1) := by decide +kernel
theorem dX4_unlink_24 : decode cX4_unlink 24 = .ok (.istore_n 3, 1) := by decide +kernel
theorem dX4_unlink_25 : decode cX4_unlink 25 = .ok (.aload_n 0, 1) := by decide +kernel
theorem dX4_unlink_26 : decode cX4_unlink 26 = .ok (.iload_n 3, 1) := by decide +kernel
theorem dX4_unlink_27 : decode cX4_unlink 27 = .ok (.ifCond .ne 7, 3) := by decide +kernel
theorem dX4_unlink_30 : decode cX4_unlink 30 = .ok (.iconst 1, 1) := by decide +kernel
theorem dX4_unlink_31 : decode cX4_unlink 31 = .ok (.goto 4, 3) := by decide +kernel
theorem dX4_unlink_34 : decode cX4_unlink 34 = .ok (.iconst 0, 1) := by decide +kernel
theorem dX4_unlink_35 : decode cX4_unlink 35 = .ok (.iload_n 3, 1) := by decide +kernel
theorem dX4_unlink_36 : decode cX4_unlink 36 = .ok (.ifCond .eq 21, 3) := by decide +kernel
theorem dX4_unlink_39 : decode cX4_unlink 39 = .ok (.aload_n 0, 1) := by decide +kernel
theorem dX4_unlink_40 : decode cX4_unlink 40 = .ok (.getfield 28, 3) := by decide +kernel
theorem dX4_unlink_43 : decode cX4_unlink 43 = .ok (.bipush 6, 2) := by decide +kernel
theorem dX4_unlink_45 : decode cX4_unlink 45 = .ok (.iload_n 1, 1) := by decide +kernel
theorem dX4_unlink_46 : decode cX4_unlink 46 = .ok (.imul, 1) := by decide +kernel
theorem dX4_unlink_47 : decode cX4_unlink 47 = .ok (.iload_n 2, 1) := by decide +kernel
theorem dX4_unlink_48 : decode cX4_unlink 48 = .ok (.iadd, 1) := by decide +kernel
theorem dX4_unlink_49 : decode cX4_unlink 49 = .ok (.baload, 1) := by decide +kernel
theorem dX4_unlink_50 : decode cX4_unlink 50 = .ok (.ifCond .ne 7, 3) := by decide +kernel
theorem dX4_unlink_53 : decode cX4_unlink 53 = .ok (.iconst 1, 1) := by decide +kernel
theorem dX4_unlink_54 : decode cX4_unlink 54 = .ok (.goto 4, 3) := by decide +kernel
theorem dX4_unlink_57 : decode cX4_unlink 57 = .ok (.iconst 0, 1) := by decide +kernel
theorem dX4_unlink_58 : decode cX4_unlink 58 = .ok (.invokevirtual 126, 3) := by decide +kernel
theorem dX4_unlink_61 : decode cX4_unlink 61 = .ok (.ifCond .eq 4, 3) := by decide +kernel
theorem dX4_unlink_64 : decode cX4_unlink 64 = .ok (.return_, 1) := by decide +kernel
theorem dX4_unlink_65 : decode cX4_unlink 65 = .ok (.aload_n 0, 1) := by decide +kernel
theorem dX4_unlink_66 : decode cX4_unlink 66 = .ok (.iload_n 1, 1) := by decide +kernel
theorem dX4_unlink_67 : decode cX4_unlink 67 = .ok (.iload_n 2, 1) := by decide +kernel
theorem dX4_unlink_68 : decode cX4_unlink 68 = .ok (.iconst 0, 1) := by decide +kernel
theorem dX4_unlink_69 : decode cX4_unlink 69 = .ok (.invokevirtual 137, 3) := by decide +kernel
theorem dX4_unlink_72 : decode cX4_unlink 72 = .ok (.return_, 1) := by decide +kernel
theorem dX4_issue_0 : decode cX4_issue 0 = .ok (.iload_n 1, 1) := by decide +kernel
theorem dX4_issue_1 : decode cX4_issue 1 = .ok (.invokestatic 114, 3) := by decide +kernel
theorem dX4_issue_4 : decode cX4_issue 4 = .ok (.ifCond .eq 26, 3) := by decide +kernel
theorem dX4_issue_7 : decode cX4_issue 7 = .ok (.iload_n 2, 1) := by decide +kernel
theorem dX4_issue_8 : decode cX4_issue 8 = .ok (.invokestatic 134, 3) := by decide +kernel
theorem dX4_issue_11 : decode cX4_issue 11 = .ok (.ifCond .eq 19, 3) := by decide +kernel
theorem dX4_issue_14 : decode cX4_issue 14 = .ok (.iload_n 3, 1) := by decide +kernel
theorem dX4_issue_15 : decode cX4_issue 15 = .ok (.i2l, 1) := by decide +kernel
theorem dX4_issue_16 : decode cX4_issue 16 = .ok (.lconst 1, 1) := by decide +kernel
theorem dX4_issue_17 : decode cX4_issue 17 = .ok (.ldc2_w 120, 3) := by decide +kernel
theorem dX4_issue_20 : decode cX4_issue 20 = .ok (.invokestatic 100, 3) := by decide +kernel
theorem dX4_issue_23 : decode cX4_issue 23 = .ok (.ifCond .eq 7, 3) := by decide +kernel
theorem dX4_issue_26 : decode cX4_issue 26 = .ok (.iconst 1, 1) := by decide +kernel
theorem dX4_issue_27 : decode cX4_issue 27 = .ok (.goto 4, 3) := by decide +kernel
theorem dX4_issue_30 : decode cX4_issue 30 = .ok (.iconst 0, 1) := by decide +kernel
theorem dX4_issue_31 : decode cX4_issue 31 = .ok (.istore 4, 2) := by decide +kernel
theorem dX4_issue_33 : decode cX4_issue 33 = .ok (.aload_n 0, 1) := by decide +kernel
theorem dX4_issue_34 : decode cX4_issue 34 = .ok (.iload 4, 2) := by decide +kernel
theorem dX4_issue_36 : decode cX4_issue 36 = .ok (.ifCond .ne 7, 3) := by decide +kernel
theorem dX4_issue_39 : decode cX4_issue 39 = .ok (.iconst 1, 1) := by decide +kernel
theorem dX4_issue_40 : decode cX4_issue 40 = .ok (.goto 4, 3) := by decide +kernel
theorem dX4_issue_43 : decode cX4_issue 43 = .ok (.iconst 0, 1) := by decide +kernel
theorem dX4_issue_44 : decode cX4_issue 44 = .ok (.aload_n 0, 1) := by decide +kernel
theorem dX4_issue_45 : decode cX4_issue 45 = .ok (.getfield 141, 3) := by decide +kernel
theorem dX4_issue_48 : decode cX4_issue 48 = .ok (.ifCond .le 7, 3) := by decide +kernel
theorem dX4_issue_51 : decode cX4_issue 51 = .ok (.iconst 1, 1) := by decide +kernel
theorem dX4_issue_52 : decode cX4_issue 52 = .ok (.goto 4, 3) := by decide +kernel
theorem dX4_issue_55 : decode cX4_issue 55 = .ok (.iconst 0, 1) := by decide +kernel
theorem dX4_issue_56 : decode cX4_issue 56 = .ok (.invokevirtual 126, 3) := by decide +kernel
theorem dX4_issue_59 : decode cX4_issue 59 = .ok (.ifCond .eq 5, 3) := by decide +kernel
theorem dX4_issue_62 : decode cX4_issue 62 = .ok (.iconst 0, 1) := by decide +kernel
theorem dX4_issue_63 : decode cX4_issue 63 = .ok (.ireturn, 1) := by decide +kernel
theorem dX4_issue_64 : decode cX4_issue 64 = .ok (.iload_n 3, 1) := by decide +kernel
theorem dX4_issue_65 : decode cX4_issue 65 = .ok (.istore 5, 2) := by decide +kernel
theorem dX4_issue_67 : decode cX4_issue 67 = .ok (.iconst 0, 1) := by decide +kernel
theorem dX4_issue_68 : decode cX4_issue 68 = .ok (.istore 6, 2) := by decide +kernel
theorem dX4_issue_70 : decode cX4_issue 70 = .ok (.iload 6, 2) := by decide +kernel
theorem dX4_issue_72 : decode cX4_issue 72 = .ok (.bipush 6, 2) := by decide +kernel
theorem dX4_issue_74 : decode cX4_issue 74 = .ok (.if_icmp .ge 26, 3) := by decide +kernel
theorem dX4_issue_77 : decode cX4_issue 77 = .ok (.iload 5, 2) := by decide +kernel
theorem dX4_issue_79 : decode cX4_issue 79 = .ok (.aload_n 0, 1) := by decide +kernel
theorem dX4_issue_80 : decode cX4_issue 80 = .ok (.getfield 22, 3) := by decide +kernel
theorem dX4_issue_83 : decode cX4_issue 83 = .ok (.bipush 6, 2) := by decide +kernel
theorem dX4_issue_85 : decode cX4_issue 85 = .ok (.iload_n 1, 1) := by decide +kernel
theorem dX4_issue_86 : decode cX4_issue 86 = .ok (.imul, 1) := by decide +kernel
theorem dX4_issue_87 : decode cX4_issue 87 = .ok (.iload 6, 2) := by decide +kernel
theorem dX4_issue_89 : decode cX4_issue 89 = .ok (.iadd, 1) := by decide +kernel
theorem dX4_issue_90 : decode cX4_issue 90 = .ok (.iaload, 1) := by decide +kernel
theorem dX4_issue_91 : decode cX4_issue 91 = .ok (.iadd, 1) := by decide +kernel
theorem dX4_issue_92 : decode cX4_issue 92 = .ok (.istore 5, 2) := by decide +kernel
theorem dX4_issue_94 : decode cX4_issue 94 = .ok (.iinc 6 1, 3) := by decide +kernel
theorem dX4_issue_97 : decode cX4_issue 97 = .ok (.goto (-27), 3) := by decide +kernel
theorem dX4_issue_100 : decode cX4_issue 100 = .ok (.aload_n 0, 1) := by decide +kernel
theorem dX4_issue_101 : decode cX4_issue 101 = .ok (.getfield 22, 3) := by decide +kernel
theorem dX4_issue_104 : decode cX4_issue 104 = .ok (.bipush 6, 2) := by decide +kernel
theorem dX4_issue_106 : decode cX4_issue 106 = .ok (.iload_n 1, 1) := by decide +kernel
theorem dX4_issue_107 : decode cX4_issue 107 = .ok (.imul, 1) := by decide +kernel
theorem dX4_issue_108 : decode cX4_issue 108 = .ok (.iload_n 2, 1) := by decide +kernel
theorem dX4_issue_109 : decode cX4_issue 109 = .ok (.iadd, 1) := by decide +kernel
theorem dX4_issue_110 : decode cX4_issue 110 = .ok (.aload_n 0, 1) := by decide +kernel
theorem dX4_issue_111 : decode cX4_issue 111 = .ok (.getfield 22, 3) := by decide +kernel
theorem dX4_issue_114 : decode cX4_issue 114 = .ok (.bipush 6, 2) := by decide +kernel
theorem dX4_issue_116 : decode cX4_issue 116 = .ok (.iload_n 1, 1) := by decide +kernel
theorem dX4_issue_117 : decode cX4_issue 117 = .ok (.imul, 1) := by decide +kernel
theorem dX4_issue_118 : decode cX4_issue 118 = .ok (.iload_n 2, 1) := by decide +kernel
theorem dX4_issue_119 : decode cX4_issue 119 = .ok (.iadd, 1) := by decide +kernel
theorem dX4_issue_120 : decode cX4_issue 120 = .ok (.iaload, 1) := by decide +kernel
theorem dX4_issue_121 : decode cX4_issue 121 = .ok (.iload_n 3, 1) := by decide +kernel
theorem dX4_issue_122 : decode cX4_issue 122 = .ok (.iadd, 1) := by decide +kernel
theorem dX4_issue_123 : decode cX4_issue 123 = .ok (.iastore, 1) := by decide +kernel
theorem dX4_issue_124 : decode cX4_issue 124 = .ok (.aload_n 0, 1) := by decide +kernel
theorem dX4_issue_125 : decode cX4_issue 125 = .ok (.iconst 0, 1) := by decide +kernel
theorem dX4_issue_126 : decode cX4_issue 126 = .ok (.iload 5, 2) := by decide +kernel
theorem dX4_issue_128 : decode cX4_issue 128 = .ok (.ldc 93, 2) := by decide +kernel
theorem dX4_issue_130 : decode cX4_issue 130 = .ok (.if_icmp .gt 17, 3) := by decide +kernel
theorem dX4_issue_133 : decode cX4_issue 133 = .ok (.aload_n 0, 1) := by decide +kernel
theorem dX4_issue_134 : decode cX4_issue 134 = .ok (.iload_n 1, 1) := by decide +kernel
theorem dX4_issue_135 : decode cX4_issue 135 = .ok (.aload_n 0, 1) := by decide +kernel
theorem dX4_issue_136 : decode cX4_issue 136 = .ok (.getfield 13, 3) := by decide +kernel
theorem dX4_issue_139 : decode cX4_issue 139 = .ok (.iload_n 1, 1) := by decide +kernel
theorem dX4_issue_140 : decode cX4_issue 140 = .ok (.iaload, 1) := by decide +kernel
theorem dX4_issue_141 : decode cX4_issue 141 = .ok (.invokevirtual 122, 3) := by decide +kernel
theorem dX4_issue_144 : decode cX4_issue 144 = .ok (.ifCond .ne 7, 3) := by decide +kernel
theorem dX4_issue_147 : decode cX4_issue 147 = .ok (.iconst 1, 1) := by decide +kernel
theorem dX4_issue_148 : decode cX4_issue 148 = .ok (.goto 4, 3) := by decide +kernel
theorem dX4_issue_151 : decode cX4_issue 151 = .ok (.iconst 0, 1) := by decide +kernel
theorem dX4_issue_152 : decode cX4_issue 152 = .ok (.invokevirtual 126, 3) := by decide +kernel
theorem dX4_issue_155 : decode cX4_issue 155 = .ok (.ifCond .eq 29, 3) := by decide +kernel
theorem dX4_issue_158 : decode cX4_issue 158 = .ok (.aload_n 0, 1) := by decide +kernel
theorem dX4_issue_159 : decode cX4_issue 159 = .ok (.getfield 22, 3) := by decide +kernel
theorem dX4_issue_162 : decode cX4_issue 162 = .ok (.bipush 6, 2) := by decide +kernel
theorem dX4_issue_164 : decode cX4_issue 164 = .ok (.iload_n 1, 1) := by decide +kernel
theorem dX4_issue_165 : decode cX4_issue 165 = .ok (.imul, 1) := by decide +kernel
theorem dX4_issue_166 : decode cX4_issue 166 = .ok (.iload_n 2, 1) := by decide +kernel
theorem dX4_issue_167 : decode cX4_issue 167 = .ok (.iadd, 1) := by decide +kernel
theorem dX4_issue_168 : decode cX4_issue 168 = .ok (.aload_n 0, 1) := by decide +kernel
theorem dX4_issue_169 : decode cX4_issue 169 = .ok (.getfield 22, 3) := by decide +kernel
theorem dX4_issue_172 : decode cX4_issue 172 = .ok (.bipush 6, 2) := by decide +kernel
theorem dX4_issue_174 : decode cX4_issue 174 = .ok (.iload_n 1, 1) := by decide +kernel
theorem dX4_issue_175 : decode cX4_issue 175 = .ok (.imul, 1) := by decide +kernel
theorem dX4_issue_176 : decode cX4_issue 176 = .ok (.iload_n 2, 1) := by decide +kernel
theorem dX4_issue_177 : decode cX4_issue 177 = .ok (.iadd, 1) := by decide +kernel
theorem dX4_issue_178 : decode cX4_issue 178 = .ok (.iaload, 1) := by decide +kernel
theorem dX4_issue_179 : decode cX4_issue 179 = .ok (.iload_n 3, 1) := by decide +kernel
end
section
theorem dX4_issue_180 : decode cX4_issue 180 = .ok (.isub, 1) := by decide +kernel
theorem dX4_issue_181 : decode cX4_issue 181 = .ok (.iastore, 1) := by decide +kernel
theorem dX4_issue_182 : decode cX4_issue 182 = .ok (.iconst 0, 1) := by decide +kernel
theorem dX4_issue_183 : decode cX4_issue 183 = .ok (.ireturn, 1) := by decide +kernel
theorem dX4_issue_184 : decode cX4_issue 184 = .ok (.aload_n 0, 1) := by decide +kernel
theorem dX4_issue_185 : decode cX4_issue 185 = .ok (.getfield 22, 3) := by decide +kernel
theorem dX4_issue_188 : decode cX4_issue 188 = .ok (.bipush 6, 2) := by decide +kernel
theorem dX4_issue_190 : decode cX4_issue 190 = .ok (.iload_n 1, 1) := by decide +kernel
theorem dX4_issue_191 : decode cX4_issue 191 = .ok (.imul, 1) := by decide +kernel
theorem dX4_issue_192 : decode cX4_issue 192 = .ok (.iload_n 2, 1) := by decide +kernel
theorem dX4_issue_193 : decode cX4_issue 193 = .ok (.iadd, 1) := by decide +kernel
theorem dX4_issue_194 : decode cX4_issue 194 = .ok (.iaload, 1) := by decide +kernel
theorem dX4_issue_195 : decode cX4_issue 195 = .ok (.ireturn, 1) := by decide +kernel
theorem dX4_sell_0 : decode cX4_sell 0 = .ok (.iload_n 1, 1) := by decide +kernel
theorem dX4_sell_1 : decode cX4_sell 1 = .ok (.invokestatic 114, 3) := by decide +kernel
theorem dX4_sell_4 : decode cX4_sell 4 = .ok (.ifCond .eq 39, 3) := by decide +kernel
theorem dX4_sell_7 : decode cX4_sell 7 = .ok (.iload_n 2, 1) := by decide +kernel
theorem dX4_sell_8 : decode cX4_sell 8 = .ok (.invokestatic 134, 3) := by decide +kernel
theorem dX4_sell_11 : decode cX4_sell 11 = .ok (.ifCond .eq 32, 3) := by decide +kernel
theorem dX4_sell_14 : decode cX4_sell 14 = .ok (.iload_n 3, 1) := by decide +kernel
theorem dX4_sell_15 : decode cX4_sell 15 = .ok (.invokestatic 134, 3) := by decide +kernel
theorem dX4_sell_18 : decode cX4_sell 18 = .ok (.ifCond .eq 25, 3) := by decide +kernel
theorem dX4_sell_21 : decode cX4_sell 21 = .ok (.iload_n 2, 1) := by decide +kernel
theorem dX4_sell_22 : decode cX4_sell 22 = .ok (.iload_n 3, 1) := by decide +kernel
theorem dX4_sell_23 : decode cX4_sell 23 = .ok (.if_icmp .eq 20, 3) := by decide +kernel
theorem dX4_sell_26 : decode cX4_sell 26 = .ok (.iload 4, 2) := by decide +kernel
theorem dX4_sell_28 : decode cX4_sell 28 = .ok (.i2l, 1) := by decide +kernel
theorem dX4_sell_29 : decode cX4_sell 29 = .ok (.lconst 1, 1) := by decide +kernel
theorem dX4_sell_30 : decode cX4_sell 30 = .ok (.ldc2_w 120, 3) := by decide +kernel
theorem dX4_sell_33 : decode cX4_sell 33 = .ok (.invokestatic 100, 3) := by decide +kernel
theorem dX4_sell_36 : decode cX4_sell 36 = .ok (.ifCond .eq 7, 3) := by decide +kernel
theorem dX4_sell_39 : decode cX4_sell 39 = .ok (.iconst 1, 1) := by decide +kernel
theorem dX4_sell_40 : decode cX4_sell 40 = .ok (.goto 4, 3) := by decide +kernel
theorem dX4_sell_43 : decode cX4_sell 43 = .ok (.iconst 0, 1) := by decide +kernel
theorem dX4_sell_44 : decode cX4_sell 44 = .ok (.istore 5, 2) := by decide +kernel
theorem dX4_sell_46 : decode cX4_sell 46 = .ok (.aload_n 0, 1) := by decide +kernel
theorem dX4_sell_47 : decode cX4_sell 47 = .ok (.iload 5, 2) := by decide +kernel
theorem dX4_sell_49 : decode cX4_sell 49 = .ok (.ifCond .ne 7, 3) := by decide +kernel
theorem dX4_sell_52 : decode cX4_sell 52 = .ok (.iconst 1, 1) := by decide +kernel
theorem dX4_sell_53 : decode cX4_sell 53 = .ok (.goto 4, 3) := by decide +kernel
theorem dX4_sell_56 : decode cX4_sell 56 = .ok (.iconst 0, 1) := by decide +kernel
theorem dX4_sell_57 : decode cX4_sell 57 = .ok (.iload 5, 2) := by decide +kernel
theorem dX4_sell_59 : decode cX4_sell 59 = .ok (.ifCond .eq 18, 3) := by decide +kernel
theorem dX4_sell_62 : decode cX4_sell 62 = .ok (.aload_n 0, 1) := by decide +kernel
theorem dX4_sell_63 : decode cX4_sell 63 = .ok (.iload_n 1, 1) := by decide +kernel
theorem dX4_sell_64 : decode cX4_sell 64 = .ok (.iload_n 2, 1) := by decide +kernel
theorem dX4_sell_65 : decode cX4_sell 65 = .ok (.invokevirtual 144, 3) := by decide +kernel
theorem dX4_sell_68 : decode cX4_sell 68 = .ok (.iload 4, 2) := by decide +kernel
theorem dX4_sell_70 : decode cX4_sell 70 = .ok (.if_icmp .ge 7, 3) := by decide +kernel
theorem dX4_sell_73 : decode cX4_sell 73 = .ok (.iconst 1, 1) := by decide +kernel
theorem dX4_sell_74 : decode cX4_sell 74 = .ok (.goto 4, 3) := by decide +kernel
theorem dX4_sell_77 : decode cX4_sell 77 = .ok (.iconst 0, 1) := by decide +kernel
theorem dX4_sell_78 : decode cX4_sell 78 = .ok (.invokevirtual 126, 3) := by decide +kernel
theorem dX4_sell_81 : decode cX4_sell 81 = .ok (.ifCond .eq 4, 3) := by decide +kernel
theorem dX4_sell_84 : decode cX4_sell 84 = .ok (.return_, 1) := by decide +kernel
theorem dX4_sell_85 : decode cX4_sell 85 = .ok (.aload_n 0, 1) := by decide +kernel
theorem dX4_sell_86 : decode cX4_sell 86 = .ok (.getfield 22, 3) := by decide +kernel
theorem dX4_sell_89 : decode cX4_sell 89 = .ok (.bipush 6, 2) := by decide +kernel
theorem dX4_sell_91 : decode cX4_sell 91 = .ok (.iload_n 1, 1) := by decide +kernel
theorem dX4_sell_92 : decode cX4_sell 92 = .ok (.imul, 1) := by decide +kernel
theorem dX4_sell_93 : decode cX4_sell 93 = .ok (.iload_n 2, 1) := by decide +kernel
theorem dX4_sell_94 : decode cX4_sell 94 = .ok (.iadd, 1) := by decide +kernel
theorem dX4_sell_95 : decode cX4_sell 95 = .ok (.aload_n 0, 1) := by decide +kernel
theorem dX4_sell_96 : decode cX4_sell 96 = .ok (.getfield 22, 3) := by decide +kernel
theorem dX4_sell_99 : decode cX4_sell 99 = .ok (.bipush 6, 2) := by decide +kernel
theorem dX4_sell_101 : decode cX4_sell 101 = .ok (.iload_n 1, 1) := by decide +kernel
theorem dX4_sell_102 : decode cX4_sell 102 = .ok (.imul, 1) := by decide +kernel
theorem dX4_sell_103 : decode cX4_sell 103 = .ok (.iload_n 2, 1) := by decide +kernel
theorem dX4_sell_104 : decode cX4_sell 104 = .ok (.iadd, 1) := by decide +kernel
theorem dX4_sell_105 : decode cX4_sell 105 = .ok (.iaload, 1) := by decide +kernel
theorem dX4_sell_106 : decode cX4_sell 106 = .ok (.iload 4, 2) := by decide +kernel
theorem dX4_sell_108 : decode cX4_sell 108 = .ok (.isub, 1) := by decide +kernel
theorem dX4_sell_109 : decode cX4_sell 109 = .ok (.iastore, 1) := by decide +kernel
theorem dX4_sell_110 : decode cX4_sell 110 = .ok (.aload_n 0, 1) := by decide +kernel
theorem dX4_sell_111 : decode cX4_sell 111 = .ok (.getfield 22, 3) := by decide +kernel
theorem dX4_sell_114 : decode cX4_sell 114 = .ok (.bipush 6, 2) := by decide +kernel
theorem dX4_sell_116 : decode cX4_sell 116 = .ok (.iload_n 1, 1) := by decide +kernel
theorem dX4_sell_117 : decode cX4_sell 117 = .ok (.imul, 1) := by decide +kernel
theorem dX4_sell_118 : decode cX4_sell 118 = .ok (.iload_n 3, 1) := by decide +kernel
theorem dX4_sell_119 : decode cX4_sell 119 = .ok (.iadd, 1) := by decide +kernel
theorem dX4_sell_120 : decode cX4_sell 120 = .ok (.aload_n 0, 1) := by decide +kernel
theorem dX4_sell_121 : decode cX4_sell 121 = .ok (.getfield 22, 3) := by decide +kernel
theorem dX4_sell_124 : decode cX4_sell 124 = .ok (.bipush 6, 2) := by decide +kernel
theorem dX4_sell_126 : decode cX4_sell 126 = .ok (.iload_n 1, 1) := by decide +kernel
theorem dX4_sell_127 : decode cX4_sell 127 = .ok (.imul, 1) := by decide +kernel
theorem dX4_sell_128 : decode cX4_sell 128 = .ok (.iload_n 3, 1) := by decide +kernel
theorem dX4_sell_129 : decode cX4_sell 129 = .ok (.iadd, 1) := by decide +kernel
theorem dX4_sell_130 : decode cX4_sell 130 = .ok (.iaload, 1) := by decide +kernel
theorem dX4_sell_131 : decode cX4_sell 131 = .ok (.iload 4, 2) := by decide +kernel
theorem dX4_sell_133 : decode cX4_sell 133 = .ok (.iadd, 1) := by decide +kernel
theorem dX4_sell_134 : decode cX4_sell 134 = .ok (.iastore, 1) := by decide +kernel
theorem dX4_sell_135 : decode cX4_sell 135 = .ok (.aload_n 0, 1) := by decide +kernel
theorem dX4_sell_136 : decode cX4_sell 136 = .ok (.iconst 0, 1) := by decide +kernel
theorem dX4_sell_137 : decode cX4_sell 137 = .ok (.aload_n 0, 1) := by decide +kernel
theorem dX4_sell_138 : decode cX4_sell 138 = .ok (.iload_n 1, 1) := by decide +kernel
theorem dX4_sell_139 : decode cX4_sell 139 = .ok (.aload_n 0, 1) := by decide +kernel
theorem dX4_sell_140 : decode cX4_sell 140 = .ok (.getfield 13, 3) := by decide +kernel
theorem dX4_sell_143 : decode cX4_sell 143 = .ok (.iload_n 1, 1) := by decide +kernel
theorem dX4_sell_144 : decode cX4_sell 144 = .ok (.iaload, 1) := by decide +kernel
theorem dX4_sell_145 : decode cX4_sell 145 = .ok (.invokevirtual 122, 3) := by decide +kernel
theorem dX4_sell_148 : decode cX4_sell 148 = .ok (.ifCond .ne 7, 3) := by decide +kernel
theorem dX4_sell_151 : decode cX4_sell 151 = .ok (.iconst 1, 1) := by decide +kernel
theorem dX4_sell_152 : decode cX4_sell 152 = .ok (.goto 4, 3) := by decide +kernel
theorem dX4_sell_155 : decode cX4_sell 155 = .ok (.iconst 0, 1) := by decide +kernel
theorem dX4_sell_156 : decode cX4_sell 156 = .ok (.invokevirtual 126, 3) := by decide +kernel
theorem dX4_sell_159 : decode cX4_sell 159 = .ok (.ifCond .eq 53, 3) := by decide +kernel
theorem dX4_sell_162 : decode cX4_sell 162 = .ok (.aload_n 0, 1) := by decide +kernel
theorem dX4_sell_163 : decode cX4_sell 163 = .ok (.getfield 22, 3) := by decide +kernel
theorem dX4_sell_166 : decode cX4_sell 166 = .ok (.bipush 6, 2) := by decide +kernel
theorem dX4_sell_168 : decode cX4_sell 168 = .ok (.iload_n 1, 1) := by decide +kernel
theorem dX4_sell_169 : decode cX4_sell 169 = .ok (.imul, 1) := by decide +kernel
theorem dX4_sell_170 : decode cX4_sell 170 = .ok (.iload_n 2, 1) := by decide +kernel
theorem dX4_sell_171 : decode cX4_sell 171 = .ok (.iadd, 1) := by decide +kernel
theorem dX4_sell_172 : decode cX4_sell 172 = .ok (.aload_n 0, 1) := by decide +kernel
theorem dX4_sell_173 : decode cX4_sell 173 = .ok (.getfield 22, 3) := by decide +kernel
theorem dX4_sell_176 : decode cX4_sell 176 = .ok (.bipush 6, 2) := by decide +kernel
theorem dX4_sell_178 : decode cX4_sell 178 = .ok (.iload_n 1, 1) := by decide +kernel
theorem dX4_sell_179 : decode cX4_sell 179 = .ok (.imul, 1) := by decide +kernel
theorem dX4_sell_180 : decode cX4_sell 180 = .ok (.iload_n 2, 1) := by decide +kernel
theorem dX4_sell_181 : decode cX4_sell 181 = .ok (.iadd, 1) := by decide +kernel
theorem dX4_sell_182 : decode cX4_sell 182 = .ok (.iaload, 1) := by decide +kernel
theorem dX4_sell_183 : decode cX4_sell 183 = .ok (.iload 4, 2) := by decide +kernel
theorem dX4_sell_185 : decode cX4_sell 185 = .ok (.iadd, 1) := by decide +kernel
theorem dX4_sell_186 : decode cX4_sell 186 = .ok (.iastore, 1) := by decide +kernel
theorem dX4_sell_187 : decode cX4_sell 187 = .ok (.aload_n 0, 1) := by decide +kernel
theorem dX4_sell_188 : decode cX4_sell 188 = .ok (.getfield 22, 3) := by decide +kernel
theorem dX4_sell_191 : decode cX4_sell 191 = .ok (.bipush 6, 2) := by decide +kernel
theorem dX4_sell_193 : decode cX4_sell 193 = .ok (.iload_n 1, 1) := by decide +kernel
theorem dX4_sell_194 : decode cX4_sell 194 = .ok (.imul, 1) := by decide +kernel
theorem dX4_sell_195 : decode cX4_sell 195 = .ok (.iload_n 3, 1) := by decide +kernel
theorem dX4_sell_196 : decode cX4_sell 196 = .ok (.iadd, 1) := by decide +kernel
theorem dX4_sell_197 : decode cX4_sell 197 = .ok (.aload_n 0, 1) := by decide +kernel
theorem dX4_sell_198 : decode cX4_sell 198 = .ok (.getfield 22, 3) := by decide +kernel
theorem dX4_sell_201 : decode cX4_sell 201 = .ok (.bipush 6, 2) := by decide +kernel
theorem dX4_sell_203 : decode cX4_sell 203 = .ok (.iload_n 1, 1) := by decide +kernel
theorem dX4_sell_204 : decode cX4_sell 204 = .ok (.imul, 1) := by decide +kernel
theorem dX4_sell_205 : decode cX4_sell 205 = .ok (.iload_n 3, 1) := by decide +kernel
theorem dX4_sell_206 : decode cX4_sell 206 = .ok (.iadd, 1) := by decide +kernel
theorem dX4_sell_207 : decode cX4_sell 207 = .ok (.iaload, 1) := by decide +kernel
theorem dX4_sell_208 : decode cX4_sell 208 = .ok (.iload 4, 2) := by decide +kernel
theorem dX4_sell_210 : decode cX4_sell 210 = .ok (.isub, 1) := by decide +kernel
theorem dX4_sell_211 : decode cX4_sell 211 = .ok (.iastore, 1) := by decide +kernel
theorem dX4_sell_212 : decode cX4_sell 212 = .ok (.return_, 1) := by decide +kernel
theorem dX4_place_0 : decode cX4_place 0 = .ok (.iload_n 1, 1) := by decide +kernel
theorem dX4_place_1 : decode cX4_place 1 = .ok (.invokestatic 114, 3) := by decide +kernel
theorem dX4_place_4 : decode cX4_place 4 = .ok (.ifCond .eq 14, 3) := by decide +kernel
theorem dX4_place_7 : decode cX4_place 7 = .ok (.iload_n 2, 1) := by decide +kernel
theorem dX4_place_8 : decode cX4_place 8 = .ok (.invokestatic 134, 3) := by decide +kernel
theorem dX4_place_11 : decode cX4_place 11 = .ok (.ifCond .eq 7, 3) := by decide +kernel
theorem dX4_place_14 : decode cX4_place 14 = .ok (.iconst 1, 1) := by decide +kernel
theorem dX4_place_15 : decode cX4_place 15 = .ok (.goto 4, 3) := by decide +kernel
theorem dX4_place_18 : decode cX4_place 18 = .ok (.iconst 0, 1) := by decide +kernel
theorem dX4_place_19 : decode cX4_place 19 = .ok (.istore 4, 2) := by decide +kernel
theorem dX4_place_21 : decode cX4_place 21 = .ok (.iload 4, 2) := by decide +kernel
theorem dX4_place_23 : decode cX4_place 23 = .ok (.ifCond .eq 42, 3) := by decide +kernel
theorem dX4_place_26 : decode cX4_place 26 = .ok (.iload_n 3, 1) := by decide +kernel
theorem dX4_place_27 : decode cX4_place 27 = .ok (.aload_n 0, 1) := by decide +kernel
theorem dX4_place_28 : decode cX4_place 28 = .ok (.iload_n 1, 1) := by decide +kernel
theorem dX4_place_29 : decode cX4_place 29 = .ok (.aload_n 0, 1) := by decide +kernel
theorem dX4_place_30 : decode cX4_place 30 = .ok (.getfield 19, 3) := by decide +kernel
theorem dX4_place_33 : decode cX4_place 33 = .ok (.iload_n 2, 1) := by decide +kernel
theorem dX4_place_34 : decode cX4_place 34 = .ok (.iaload, 1) := by decide +kernel
theorem dX4_place_35 : decode cX4_place 35 = .ok (.invokevirtual 144, 3) := by decide +kernel
theorem dX4_place_38 : decode cX4_place 38 = .ok (.if_icmp .gt 27, 3) := by decide +kernel
theorem dX4_place_41 : decode cX4_place 41 = .ok (.aload_n 0, 1) := by decide +kernel
theorem dX4_place_42 : decode cX4_place 42 = .ok (.getfield 25, 3) := by decide +kernel
theorem dX4_place_45 : decode cX4_place 45 = .ok (.bipush 6, 2) := by decide +kernel
theorem dX4_place_47 : decode cX4_place 47 = .ok (.iload_n 1, 1) := by decide +kernel
theorem dX4_place_48 : decode cX4_place 48 = .ok (.imul, 1) := by decide +kernel
theorem dX4_place_49 : decode cX4_place 49 = .ok (.iload_n 2, 1) := by decide +kernel
theorem dX4_place_50 : decode cX4_place 50 = .ok (.iadd, 1) := by decide +kernel
theorem dX4_place_51 : decode cX4_place 51 = .ok (.iaload, 1) := by decide +kernel
theorem dX4_place_52 : decode cX4_place 52 = .ok (.i2l, 1) := by decide +kernel
theorem dX4_place_53 : decode cX4_place 53 = .ok (.iload_n 3, 1) := by decide +kernel
theorem dX4_place_54 : decode cX4_place 54 = .ok (.i2l, 1) := by decide +kernel
theorem dX4_place_55 : decode cX4_place 55 = .ok (.ladd, 1) := by decide +kernel
theorem dX4_place_56 : decode cX4_place 56 = .ok (.lconst 0, 1) := by decide +kernel
theorem dX4_place_57 : decode cX4_place 57 = .ok (.lcmp, 1) := by decide +kernel
theorem dX4_place_58 : decode cX4_place 58 = .ok (.ifCond .lt 7, 3) := by decide +kernel
theorem dX4_place_61 : decode cX4_place 61 = .ok (.iconst 1, 1) := by decide +kernel
theorem dX4_place_62 : decode cX4_place 62 = .ok (.goto 4, 3) := by decide +kernel
theorem dX4_place_65 : decode cX4_place 65 = .ok (.iconst 0, 1) := by decide +kernel
theorem dX4_place_66 : decode cX4_place 66 = .ok (.istore 5, 2) := by decide +kernel
theorem dX4_place_68 : decode cX4_place 68 = .ok (.aload_n 0, 1) := by decide +kernel
theorem dX4_place_69 : decode cX4_place 69 = .ok (.iload 4, 2) := by decide +kernel
theorem dX4_place_71 : decode cX4_place 71 = .ok (.ifCond .ne 7, 3) := by decide +kernel
theorem dX4_place_74 : decode cX4_place 74 = .ok (.iconst 1, 1) := by decide +kernel
theorem dX4_place_75 : decode cX4_place 75 = .ok (.goto 4, 3) := by decide +kernel
theorem dX4_place_78 : decode cX4_place 78 = .ok (.iconst 0, 1) := by decide +kernel
theorem dX4_place_79 : decode cX4_place 79 = .ok (.iload 5, 2) := by decide +kernel
theorem dX4_place_81 : decode cX4_place 81 = .ok (.ifCond .ne 7, 3) := by decide +kernel
theorem dX4_place_84 : decode cX4_place 84 = .ok (.iconst 1, 1) := by decide +kernel
theorem dX4_place_85 : decode cX4_place 85 = .ok (.goto 4, 3) := by decide +kernel
theorem dX4_place_88 : decode cX4_place 88 = .ok (.iconst 0, 1) := by decide +kernel
theorem dX4_place_89 : decode cX4_place 89 = .ok (.invokevirtual 126, 3) := by decide +kernel
theorem dX4_place_92 : decode cX4_place 92 = .ok (.ifCond .eq 5, 3) := by decide +kernel
theorem dX4_place_95 : decode cX4_place 95 = .ok (.iconst 0, 1) := by decide +kernel
theorem dX4_place_96 : decode cX4_place 96 = .ok (.ireturn, 1) := by decide +kernel
theorem dX4_place_97 : decode cX4_place 97 = .ok (.aload_n 0, 1) := by decide +kernel
theorem dX4_place_98 : decode cX4_place 98 = .ok (.getfield 25, 3) := by decide +kernel
theorem dX4_place_101 : decode cX4_place 101 = .ok (.bipush 6, 2) := by decide +kernel
theorem dX4_place_103 : decode cX4_place 103 = .ok (.iload_n 1, 1) := by decide +kernel
theorem dX4_place_104 : decode cX4_place 104 = .ok (.imul, 1) := by decide +kernel
theorem dX4_place_105 : decode cX4_place 105 = .ok (.iload_n 2, 1) := by decide +kernel
theorem dX4_place_106 : decode cX4_place 106 = .ok (.iadd, 1) := by decide +kernel
theorem dX4_place_107 : decode cX4_place 107 = .ok (.aload_n 0, 1) := by decide +kernel
theorem dX4_place_108 : decode cX4_place 108 = .ok (.getfield 25, 3) := by decide +kernel
theorem dX4_place_111 : decode cX4_place 111 = .ok (.bipush 6, 2) := by decide +kernel
theorem dX4_place_113 : decode cX4_place 113 = .ok (.iload_n 1, 1) := by decide +kernel
theorem dX4_place_114 : decode cX4_place 114 = .ok (.imul, 1) := by decide +kernel
theorem dX4_place_115 : decode cX4_place 115 = .ok (.iload_n 2, 1) := by decide +kernel
theorem dX4_place_116 : decode cX4_place 116 = .ok (.iadd, 1) := by decide +kernel
theorem dX4_place_117 : decode cX4_place 117 = .ok (.iaload, 1) := by decide +kernel
theorem dX4_place_118 : decode cX4_place 118 = .ok (.iload_n 3, 1) := by decide +kernel
theorem dX4_place_119 : decode cX4_place 119 = .ok (.iadd, 1) := by decide +kernel
theorem dX4_place_120 : decode cX4_place 120 = .ok (.iastore, 1) := by decide +kernel
theorem dX4_place_121 : decode cX4_place 121 = .ok (.aload_n 0, 1) := by decide +kernel
theorem dX4_place_122 : decode cX4_place 122 = .ok (.getfield 25, 3) := by decide +kernel
theorem dX4_place_125 : decode cX4_place 125 = .ok (.bipush 6, 2) := by decide +kernel
theorem dX4_place_127 : decode cX4_place 127 = .ok (.iload_n 1, 1) := by decide +kernel
theorem dX4_place_128 : decode cX4_place 128 = .ok (.imul, 1) := by decide +kernel
theorem dX4_place_129 : decode cX4_place 129 = .ok (.iload_n 2, 1) := by decide +kernel
theorem dX4_place_130 : decode cX4_place 130 = .ok (.iadd, 1) := by decide +kernel
theorem dX4_place_131 : decode cX4_place 131 = .ok (.iaload, 1) := by decide +kernel
theorem dX4_place_132 : decode cX4_place 132 = .ok (.ireturn, 1) := by decide +kernel
theorem dX4_at_0 : decode cX4_at 0 = .ok (.bipush 24, 2) := by decide +kernel
theorem dX4_at_2 : decode cX4_at 2 = .ok (.iload_n 0, 1) := by decide +kernel
theorem dX4_at_3 : decode cX4_at 3 = .ok (.imul, 1) := by decide +kernel
theorem dX4_at_4 : decode cX4_at 4 = .ok (.iconst 4, 1) := by decide +kernel
theorem dX4_at_5 : decode cX4_at 5 = .ok (.iload_n 1, 1) := by decide +kernel
theorem dX4_at_6 : decode cX4_at 6 = .ok (.imul, 1) := by decide +kernel
theorem dX4_at_7 : decode cX4_at 7 = .ok (.iadd, 1) := by decide +kernel
theorem dX4_at_8 : decode cX4_at 8 = .ok (.iload_n 2, 1) := by decide +kernel
theorem dX4_at_9 : decode cX4_at 9 = .ok (.iadd, 1) := by decide +kernel
theorem dX4_at_10 : decode cX4_at 10 = .ok (.ireturn, 1) := by decide +kernel
theorem dX4_allot_0 : decode cX4_allot 0 = .ok (.lconst 0, 1) := by decide +kernel
theorem dX4_allot_1 : decode cX4_allot 1 = .ok (.lstore 4, 2) := by decide +kernel
theorem dX4_allot_3 : decode cX4_allot 3 = .ok (.lconst 0, 1) := by decide +kernel
theorem dX4_allot_4 : decode cX4_allot 4 = .ok (.lstore 6, 2) := by decide +kernel
theorem dX4_allot_6 : decode cX4_allot 6 = .ok (.iconst 0, 1) := by decide +kernel
theorem dX4_allot_7 : decode cX4_allot 7 = .ok (.istore 8, 2) := by decide +kernel
theorem dX4_allot_9 : decode cX4_allot 9 = .ok (.iload 8, 2) := by decide +kernel
theorem dX4_allot_11 : decode cX4_allot 11 = .ok (.bipush 6, 2) := by decide +kernel
theorem dX4_allot_13 : decode cX4_allot 13 = .ok (.if_icmp .ge 88, 3) := by decide +kernel
theorem dX4_allot_16 : decode cX4_allot 16 = .ok (.iload_n 3, 1) := by decide +kernel
theorem dX4_allot_17 : decode cX4_allot 17 = .ok (.i2l, 1) := by decide +kernel
theorem dX4_allot_18 : decode cX4_allot 18 = .ok (.aload_n 0, 1) := by decide +kernel
theorem dX4_allot_19 : decode cX4_allot 19 = .ok (.getfield 25, 3) := by decide +kernel
theorem dX4_allot_22 : decode cX4_allot 22 = .ok (.bipush 6, 2) := by decide +kernel
theorem dX4_allot_24 : decode cX4_allot 24 = .ok (.iload_n 2, 1) := by decide +kernel
theorem dX4_allot_25 : decode cX4_allot 25 = .ok (.imul, 1) := by decide +kernel
theorem dX4_allot_26 : decode cX4_allot 26 = .ok (.iload 8, 2) := by decide +kernel
theorem dX4_allot_28 : decode cX4_allot 28 = .ok (.iadd, 1) := by decide +kernel
theorem dX4_allot_29 : decode cX4_allot 29 = .ok (.iaload, 1) := by decide +kernel
theorem dX4_allot_30 : decode cX4_allot 30 = .ok (.i2l, 1) := by decide +kernel
theorem dX4_allot_31 : decode cX4_allot 31 = .ok (.lmul, 1) := by decide +kernel
theorem dX4_allot_32 : decode cX4_allot 32 = .ok (.lstore 9, 2) := by decide +kernel
theorem dX4_allot_34 : decode cX4_allot 34 = .ok (.lload 4, 2) := by decide +kernel
theorem dX4_allot_36 : decode cX4_allot 36 = .ok (.aload_n 0, 1) := by decide +kernel
theorem dX4_allot_37 : decode cX4_allot 37 = .ok (.getfield 25, 3) := by decide +kernel
theorem dX4_allot_40 : decode cX4_allot 40 = .ok (.bipush 6, 2) := by decide +kernel
theorem dX4_allot_42 : decode cX4_allot 42 = .ok (.iload_n 2, 1) := by decide +kernel
theorem dX4_allot_43 : decode cX4_allot 43 = .ok (.imul, 1) := by decide +kernel
theorem dX4_allot_44 : decode cX4_allot 44 = .ok (.iload 8, 2) := by decide +kernel
theorem dX4_allot_46 : decode cX4_allot 46 = .ok (.iadd, 1) := by decide +kernel
theorem dX4_allot_47 : decode cX4_allot 47 = .ok (.iaload, 1) := by decide +kernel
theorem dX4_allot_48 : decode cX4_allot 48 = .ok (.i2l, 1) := by decide +kernel
theorem dX4_allot_49 : decode cX4_allot 49 = .ok (.ladd, 1) := by decide +kernel
theorem dX4_allot_50 : decode cX4_allot 50 = .ok (.lstore 4, 2) := by decide +kernel
theorem dX4_allot_52 : decode cX4_allot 52 = .ok (.aload_n 0, 1) := by decide +kernel
theorem dX4_allot_53 : decode cX4_allot 53 = .ok (.getfield 38, 3) := by decide +kernel
theorem dX4_allot_56 : decode cX4_allot 56 = .ok (.iload_n 1, 1) := by decide +kernel
theorem dX4_allot_57 : decode cX4_allot 57 = .ok (.iload 8, 2) := by decide +kernel
theorem dX4_allot_59 : decode cX4_allot 59 = .ok (.iload_n 2, 1) := by decide +kernel
theorem dX4_allot_60 : decode cX4_allot 60 = .ok (.invokestatic 147, 3) := by decide +kernel
theorem dX4_allot_63 : decode cX4_allot 63 = .ok (.lload 9, 2) := by decide +kernel
theorem dX4_allot_65 : decode cX4_allot 65 = .ok (.ldc2_w 120, 3) := by decide +kernel
theorem dX4_allot_68 : decode cX4_allot 68 = .ok (.ldiv, 1) := by decide +kernel
theorem dX4_allot_69 : decode cX4_allot 69 = .ok (.l2i, 1) := by decide +kernel
theorem dX4_allot_70 : decode cX4_allot 70 = .ok (.iastore, 1) := by decide +kernel
theorem dX4_allot_71 : decode cX4_allot 71 = .ok (.aload_n 0, 1) := by decide +kernel
theorem dX4_allot_72 : decode cX4_allot 72 = .ok (.getfield 89, 3) := by decide +kernel
theorem dX4_allot_75 : decode cX4_allot 75 = .ok (.iload 8, 2) := by decide +kernel
theorem dX4_allot_77 : decode cX4_allot 77 = .ok (.lload 9, 2) := by decide +kernel
theorem dX4_allot_79 : decode cX4_allot 79 = .ok (.ldc2_w 120, 3) := by decide +kernel
theorem dX4_allot_82 : decode cX4_allot 82 = .ok (.lrem, 1) := by decide +kernel
theorem dX4_allot_83 : decode cX4_allot 83 = .ok (.lastore, 1) := by decide +kernel
theorem dX4_allot_84 : decode cX4_allot 84 = .ok (.lload 6, 2) := by decide +kernel
theorem dX4_allot_86 : decode cX4_allot 86 = .ok (.lload 9, 2) := by decide +kernel
theorem dX4_allot_88 : decode cX4_allot 88 = .ok (.ldc2_w 120, 3) := by decide +kernel
theorem dX4_allot_91 : decode cX4_allot 91 = .ok (.ldiv, 1) := by decide +kernel
theorem dX4_allot_92 : decode cX4_allot 92 = .ok (.ladd, 1) := by decide +kernel
theorem dX4_allot_93 : decode cX4_allot 93 = .ok (.lstore 6, 2) := by decide +kernel
theorem dX4_allot_95 : decode cX4_allot 95 = .ok (.iinc 8 1, 3) := by decide +kernel
theorem dX4_allot_98 : decode cX4_allot 98 = .ok (.goto (-89), 3) := by decide +kernel
theorem dX4_allot_101 : decode cX4_allot 101 = .ok (.iload_n 3, 1) := by decide +kernel
theorem dX4_allot_102 : decode cX4_allot 102 = .ok (.i2l, 1) := by decide +kernel
theorem dX4_allot_103 : decode cX4_allot 103 = .ok (.lload 4, 2) := by decide +kernel
theorem dX4_allot_105 : decode cX4_allot 105 = .ok (.lmul, 1) := by decide +kernel
theorem dX4_allot_106 : decode cX4_allot 106 = .ok (.ldc2_w 120, 3) := by decide +kernel
theorem dX4_allot_109 : decode cX4_allot 109 = .ok (.ldiv, 1) := by decide +kernel
theorem dX4_allot_110 : decode cX4_allot 110 = .ok (.lstore 8, 2) := by decide +kernel
theorem dX4_allot_112 : decode cX4_allot 112 = .ok (.lload 6, 2) := by decide +kernel
theorem dX4_allot_114 : decode cX4_allot 114 = .ok (.lload 8, 2) := by decide +kernel
theorem dX4_allot_116 : decode cX4_allot 116 = .ok (.lcmp, 1) := by decide +kernel
theorem dX4_allot_117 : decode cX4_allot 117 = .ok (.ifCond .ge 84, 3) := by decide +kernel
theorem dX4_allot_120 : decode cX4_allot 120 = .ok (.iconst 0, 1) := by decide +kernel
theorem dX4_allot_121 : decode cX4_allot 121 = .ok (.istore 10, 2) := by decide +kernel
theorem dX4_allot_123 : decode cX4_allot 123 = .ok (.iconst 1, 1) := by decide +kernel
theorem dX4_allot_124 : decode cX4_allot 124 = .ok (.istore 11, 2) := by decide +kernel
theorem dX4_allot_126 : decode cX4_allot 126 = .ok (.iload 11, 2) := by decide +kernel
theorem dX4_allot_128 : decode cX4_allot 128 = .ok (.bipush 6, 2) := by decide +kernel
theorem dX4_allot_130 : decode cX4_allot 130 = .ok (.if_icmp .ge 36, 3) := by decide +kernel
theorem dX4_allot_133 : decode cX4_allot 133 = .ok (.aload_n 0, 1) := by decide +kernel
theorem dX4_allot_134 : decode cX4_allot 134 = .ok (.getfield 89, 3) := by decide +kernel
theorem dX4_allot_137 : decode cX4_allot 137 = .ok (.iload 11, 2) := by decide +kernel
theorem dX4_allot_139 : decode cX4_allot 139 = .ok (.laload, 1) := by decide +kernel
theorem dX4_allot_140 : decode cX4_allot 140 = .ok (.aload_n 0, 1) := by decide +kernel
theorem dX4_allot_141 : decode cX4_allot 141 = .ok (.getfield 89, 3) := by decide +kernel
theorem dX4_allot_144 : decode cX4_allot 144 = .ok (.iload 10, 2) := by decide +kernel
theorem dX4_allot_146 : decode cX4_allot 146 = .ok (.laload, 1) := by decide +kernel
theorem dX4_allot_147 : decode cX4_allot 147 = .ok (.lcmp, 1) := by decide +kernel
theorem dX4_allot_148 : decode cX4_allot 148 = .ok (.ifCond .le 8, 3) := by decide +kernel
theorem dX4_allot_151 : decode cX4_allot 151 = .ok (.iload 11, 2) := by decide +kernel
theorem dX4_allot_153 : decode cX4_allot 153 = .ok (.goto 5, 3) := by decide +kernel
theorem dX4_allot_156 : decode cX4_allot 156 = .ok (.iload 10, 2) := by decide +kernel
theorem dX4_allot_158 : decode cX4_allot 158 = .ok (.istore 10, 2) := by decide +kernel
theorem dX4_allot_160 : decode cX4_allot 160 = .ok (.iinc 11 1, 3) := by decide +kernel
theorem dX4_allot_163 : decode cX4_allot 163 = .ok (.goto (-37), 3) := by decide +kernel
theorem dX4_allot_166 : decode cX4_allot 166 = .ok (.aload_n 0, 1) := by decide +kernel
theorem dX4_allot_167 : decode cX4_allot 167 = .ok (.getfield 38, 3) := by decide +kernel
theorem dX4_allot_170 : decode cX4_allot 170 = .ok (.iload_n 1, 1) := by decide +kernel
theorem dX4_allot_171 : decode cX4_allot 171 = .ok (.iload 10, 2) := by decide +kernel
theorem dX4_allot_173 : decode cX4_allot 173 = .ok (.iload_n 2, 1) := by decide +kernel
theorem dX4_allot_174 : decode cX4_allot 174 = .ok (.invokestatic 147, 3) := by decide +kernel
theorem dX4_allot_177 : decode cX4_allot 177 = .ok (.dup2, 1) := by decide +kernel
theorem dX4_allot_178 : decode cX4_allot 178 = .ok (.iaload, 1) := by decide +kernel
theorem dX4_allot_179 : decode cX4_allot 179 = .ok (.iconst 1, 1) := by decide +kernel
theorem dX4_allot_180 : decode cX4_allot 180 = .ok (.iadd, 1) := by decide +kernel
theorem dX4_allot_181 : decode cX4_allot 181 = .ok (.iastore, 1) := by decide +kernel
theorem dX4_allot_182 : decode cX4_allot 182 = .ok (.aload_n 0, 1) := by decide +kernel
theorem dX4_allot_183 : decode cX4_allot 183 = .ok (.getfield 89, 3) := by decide +kernel
theorem dX4_allot_186 : decode cX4_allot 186 = .ok (.iload 10, 2) := by decide +kernel
theorem dX4_allot_188 : decode cX4_allot 188 = .ok (.ldc2_w 151, 3) := by decide +kernel
theorem dX4_allot_191 : decode cX4_allot 191 = .ok (.lastore, 1) := by decide +kernel
theorem dX4_allot_192 : decode cX4_allot 192 = .ok (.lload 6, 2) := by decide +kernel
theorem dX4_allot_194 : decode cX4_allot 194 = .ok (.lconst 1, 1) := by decide +kernel
theorem dX4_allot_195 : decode cX4_allot 195 = .ok (.ladd, 1) := by decide +kernel
theorem dX4_allot_196 : decode cX4_allot 196 = .ok (.lstore 6, 2) := by decide +kernel
theorem dX4_allot_198 : decode cX4_allot 198 = .ok (.goto (-86), 3) := by decide +kernel
theorem dX4_allot_201 : decode cX4_allot 201 = .ok (.return_, 1) := by decide +kernel
theorem dX4_left_0 : decode cX4_left 0 = .ok (.aload_n 0, 1) := by decide +kernel
theorem dX4_left_1 : decode cX4_left 1 = .ok (.getfield 38, 3) := by decide +kernel
theorem dX4_left_4 : decode cX4_left 4 = .ok (.iload_n 1, 1) := by decide +kernel
theorem dX4_left_5 : decode cX4_left 5 = .ok (.iaload, 1) := by decide +kernel
theorem dX4_left_6 : decode cX4_left 6 = .ok (.aload_n 0, 1) := by decide +kernel
theorem dX4_left_7 : decode cX4_left 7 = .ok (.getfield 41, 3) := by decide +kernel
theorem dX4_left_10 : decode cX4_left 10 = .ok (.iload_n 1, 1) := by decide +kernel
theorem dX4_left_11 : decode cX4_left 11 = .ok (.iaload, 1) := by decide +kernel
theorem dX4_left_12 : decode cX4_left 12 = .ok (.iadd, 1) := by decide +kernel
theorem dX4_left_13 : decode cX4_left 13 = .ok (.aload_n 0, 1) := by decide +kernel
theorem dX4_left_14 : decode cX4_left 14 = .ok (.getfield 44, 3) := by decide +kernel
theorem dX4_left_17 : decode cX4_left 17 = .ok (.iload_n 1, 1) := by decide +kernel
theorem dX4_left_18 : decode cX4_left 18 = .ok (.iaload, 1) := by decide +kernel
theorem dX4_left_19 : decode cX4_left 19 = .ok (.iadd, 1) := by decide +kernel
theorem dX4_left_20 : decode cX4_left 20 = .ok (.aload_n 0, 1) := by decide +kernel
theorem dX4_left_21 : decode cX4_left 21 = .ok (.getfield 47, 3) := by decide +kernel
theorem dX4_left_24 : decode cX4_left 24 = .ok (.iload_n 1, 1) := by decide +kernel
theorem dX4_left_25 : decode cX4_left 25 = .ok (.iaload, 1) := by decide +kernel
theorem dX4_left_26 : decode cX4_left 26 = .ok (.isub, 1) := by decide +kernel
theorem dX4_left_27 : decode cX4_left 27 = .ok (.aload_n 0, 1) := by decide +kernel
theorem dX4_left_28 : decode cX4_left 28 = .ok (.getfield 50, 3) := by decide +kernel
theorem dX4_left_31 : decode cX4_left 31 = .ok (.iload_n 1, 1) := by decide +kernel
theorem dX4_left_32 : decode cX4_left 32 = .ok (.iaload, 1) := by decide +kernel
theorem dX4_left_33 : decode cX4_left 33 = .ok (.isub, 1) := by decide +kernel
theorem dX4_left_34 : decode cX4_left 34 = .ok (.ireturn, 1) := by decide +kernel
theorem dX4_moved_0 : decode cX4_moved 0 = .ok (.iconst 0, 1) := by decide +kernel
theorem dX4_moved_1 : decode cX4_moved 1 = .ok (.istore 4, 2) := by decide +kernel
theorem dX4_moved_3 : decode cX4_moved 3 = .ok (.iconst 0, 1) := by decide +kernel
theorem dX4_moved_4 : decode cX4_moved 4 = .ok (.istore 5, 2) := by decide +kernel
theorem dX4_moved_6 : decode cX4_moved 6 = .ok (.iload 5, 2) := by decide +kernel
theorem dX4_moved_8 : decode cX4_moved 8 = .ok (.iload_n 3, 1) := by decide +kernel
theorem dX4_moved_9 : decode cX4_moved 9 = .ok (.if_icmp .ge 81, 3) := by decide +kernel
theorem dX4_moved_12 : decode cX4_moved 12 = .ok (.aload_n 0, 1) := by decide +kernel
theorem dX4_moved_13 : decode cX4_moved 13 = .ok (.getfield 62, 3) := by decide +kernel
theorem dX4_moved_16 : decode cX4_moved 16 = .ok (.iload 5, 2) := by decide +kernel
theorem dX4_moved_18 : decode cX4_moved 18 = .ok (.iaload, 1) := by decide +kernel
theorem dX4_moved_19 : decode cX4_moved 19 = .ok (.iconst 2, 1) := by decide +kernel
theorem dX4_moved_20 : decode cX4_moved 20 = .ok (.if_icmp .ne 39, 3) := by decide +kernel
theorem dX4_moved_23 : decode cX4_moved 23 = .ok (.aload_n 0, 1) := by decide +kernel
theorem dX4_moved_24 : decode cX4_moved 24 = .ok (.getfield 65, 3) := by decide +kernel
theorem dX4_moved_27 : decode cX4_moved 27 = .ok (.iload 5, 2) := by decide +kernel
theorem dX4_moved_29 : decode cX4_moved 29 = .ok (.iaload, 1) := by decide +kernel
theorem dX4_moved_30 : decode cX4_moved 30 = .ok (.iload_n 1, 1) := by decide +kernel
theorem dX4_moved_31 : decode cX4_moved 31 = .ok (.if_icmp .ne 28, 3) := by decide +kernel
theorem dX4_moved_34 : decode cX4_moved 34 = .ok (.aload_n 0, 1) := by decide +kernel
theorem dX4_moved_35 : decode cX4_moved 35 = .ok (.getfield 68, 3) := by decide +kernel
theorem dX4_moved_38 : decode cX4_moved 38 = .ok (.iload 5, 2) := by decide +kernel
theorem dX4_moved_40 : decode cX4_moved 40 = .ok (.iaload, 1) := by decide +kernel
theorem dX4_moved_41 : decode cX4_moved 41 = .ok (.iload_n 2, 1) := by decide +kernel
theorem dX4_moved_42 : decode cX4_moved 42 = .ok (.if_icmp .ne 17, 3) := by decide +kernel
theorem dX4_moved_45 : decode cX4_moved 45 = .ok (.aload_n 0, 1) := by decide +kernel
theorem dX4_moved_46 : decode cX4_moved 46 = .ok (.getfield 86, 3) := by decide +kernel
theorem dX4_moved_49 : decode cX4_moved 49 = .ok (.iload 5, 2) := by decide +kernel
theorem dX4_moved_51 : decode cX4_moved 51 = .ok (.baload, 1) := by decide +kernel
theorem dX4_moved_52 : decode cX4_moved 52 = .ok (.ifCond .eq 7, 3) := by decide +kernel
theorem dX4_moved_55 : decode cX4_moved 55 = .ok (.iconst 1, 1) := by decide +kernel
theorem dX4_moved_56 : decode cX4_moved 56 = .ok (.goto 4, 3) := by decide +kernel
theorem dX4_moved_59 : decode cX4_moved 59 = .ok (.iconst 0, 1) := by decide +kernel
theorem dX4_moved_60 : decode cX4_moved 60 = .ok (.istore 6, 2) := by decide +kernel
theorem dX4_moved_62 : decode cX4_moved 62 = .ok (.iload 6, 2) := by decide +kernel
theorem dX4_moved_64 : decode cX4_moved 64 = .ok (.ifCond .eq 16, 3) := by decide +kernel
theorem dX4_moved_67 : decode cX4_moved 67 = .ok (.iload 4, 2) := by decide +kernel
theorem dX4_moved_69 : decode cX4_moved 69 = .ok (.aload_n 0, 1) := by decide +kernel
theorem dX4_moved_70 : decode cX4_moved 70 = .ok (.getfield 77, 3) := by decide +kernel
theorem dX4_moved_73 : decode cX4_moved 73 = .ok (.iload 5, 2) := by decide +kernel
theorem dX4_moved_75 : decode cX4_moved 75 = .ok (.iaload, 1) := by decide +kernel
theorem dX4_moved_76 : decode cX4_moved 76 = .ok (.iadd, 1) := by decide +kernel
theorem dX4_moved_77 : decode cX4_moved 77 = .ok (.goto 5, 3) := by decide +kernel
theorem dX4_moved_80 : decode cX4_moved 80 = .ok (.iload 4, 2) := by decide +kernel
theorem dX4_moved_82 : decode cX4_moved 82 = .ok (.istore 4, 2) := by decide +kernel
theorem dX4_moved_84 : decode cX4_moved 84 = .ok (.iinc 5 1, 3) := by decide +kernel
theorem dX4_moved_87 : decode cX4_moved 87 = .ok (.goto (-81), 3) := by decide +kernel
theorem dX4_moved_90 : decode cX4_moved 90 = .ok (.iload 4, 2) := by decide +kernel
theorem dX4_moved_92 : decode cX4_moved 92 = .ok (.ireturn, 1) := by decide +kernel
theorem dX4_may_0 : decode cX4_may 0 = .ok (.aload_n 0, 1) := by decide +kernel
theorem dX4_may_1 : decode cX4_may 1 = .ok (.getfield 65, 3) := by decide +kernel
theorem dX4_may_4 : decode cX4_may 4 = .ok (.iload_n 1, 1) := by decide +kernel
theorem dX4_may_5 : decode cX4_may 5 = .ok (.iaload, 1) := by decide +kernel
theorem dX4_may_6 : decode cX4_may 6 = .ok (.aload_n 0, 1) := by decide +kernel
theorem dX4_may_7 : decode cX4_may 7 = .ok (.getfield 68, 3) := by decide +kernel
theorem dX4_may_10 : decode cX4_may 10 = .ok (.iload_n 1, 1) := by decide +kernel
theorem dX4_may_11 : decode cX4_may 11 = .ok (.iaload, 1) := by decide +kernel
theorem dX4_may_12 : decode cX4_may 12 = .ok (.aload_n 0, 1) := by decide +kernel
theorem dX4_may_13 : decode cX4_may 13 = .ok (.getfield 71, 3) := by decide +kernel
theorem dX4_may_16 : decode cX4_may 16 = .ok (.iload_n 1, 1) := by decide +kernel
theorem dX4_may_17 : decode cX4_may 17 = .ok (.iaload, 1) := by decide +kernel
theorem dX4_may_18 : decode cX4_may 18 = .ok (.invokestatic 147, 3) := by decide +kernel
theorem dX4_may_21 : decode cX4_may 21 = .ok (.istore_n 2, 1) := by decide +kernel
theorem dX4_may_22 : decode cX4_may 22 = .ok (.aload_n 0, 1) := by decide +kernel
theorem dX4_may_23 : decode cX4_may 23 = .ok (.getfield 62, 3) := by decide +kernel
theorem dX4_may_26 : decode cX4_may 26 = .ok (.iload_n 1, 1) := by decide +kernel
theorem dX4_may_27 : decode cX4_may 27 = .ok (.iaload, 1) := by decide +kernel
theorem dX4_may_28 : decode cX4_may 28 = .ok (.lookupswitch 63 #[(0, 28), (1, 48)], 28) := by decide +kernel
theorem dX4_may_56 : decode cX4_may 56 = .ok (.aload_n 0, 1) := by decide +kernel
theorem dX4_may_57 : decode cX4_may 57 = .ok (.iload_n 2, 1) := by decide +kernel
theorem dX4_may_58 : decode cX4_may 58 = .ok (.invokevirtual 153, 3) := by decide +kernel
theorem dX4_may_61 : decode cX4_may 61 = .ok (.aload_n 0, 1) := by decide +kernel
theorem dX4_may_62 : decode cX4_may 62 = .ok (.getfield 77, 3) := by decide +kernel
theorem dX4_may_65 : decode cX4_may 65 = .ok (.iload_n 1, 1) := by decide +kernel
theorem dX4_may_66 : decode cX4_may 66 = .ok (.iaload, 1) := by decide +kernel
theorem dX4_may_67 : decode cX4_may 67 = .ok (.if_icmp .lt 7, 3) := by decide +kernel
theorem dX4_may_70 : decode cX4_may 70 = .ok (.iconst 1, 1) := by decide +kernel
theorem dX4_may_71 : decode cX4_may 71 = .ok (.goto 4, 3) := by decide +kernel
theorem dX4_may_74 : decode cX4_may 74 = .ok (.iconst 0, 1) := by decide +kernel
theorem dX4_may_75 : decode cX4_may 75 = .ok (.ireturn, 1) := by decide +kernel
theorem dX4_may_76 : decode cX4_may 76 = .ok (.aload_n 0, 1) := by decide +kernel
theorem dX4_may_77 : decode cX4_may 77 = .ok (.getfield 83, 3) := by decide +kernel
theorem dX4_may_80 : decode cX4_may 80 = .ok (.iload_n 1, 1) := by decide +kernel
theorem dX4_may_81 : decode cX4_may 81 = .ok (.baload, 1) := by decide +kernel
theorem dX4_may_82 : decode cX4_may 82 = .ok (.ifCond .ne 7, 3) := by decide +kernel
theorem dX4_may_85 : decode cX4_may 85 = .ok (.iconst 1, 1) := by decide +kernel
theorem dX4_may_86 : decode cX4_may 86 = .ok (.goto 4, 3) := by decide +kernel
theorem dX4_may_89 : decode cX4_may 89 = .ok (.iconst 0, 1) := by decide +kernel
theorem dX4_may_90 : decode cX4_may 90 = .ok (.ireturn, 1) := by decide +kernel
theorem dX4_may_91 : decode cX4_may 91 = .ok (.aload_n 0, 1) := by decide +kernel
theorem dX4_may_92 : decode cX4_may 92 = .ok (.getfield 50, 3) := by decide +kernel
theorem dX4_may_95 : decode cX4_may 95 = .ok (.iload_n 2, 1) := by decide +kernel
theorem dX4_may_96 : decode cX4_may 96 = .ok (.iaload, 1) := by decide +kernel
theorem dX4_may_97 : decode cX4_may 97 = .ok (.aload_n 0, 1) := by decide +kernel
theorem dX4_may_98 : decode cX4_may 98 = .ok (.getfield 77, 3) := by decide +kernel
theorem dX4_may_101 : decode cX4_may 101 = .ok (.iload_n 1, 1) := by decide +kernel
theorem dX4_may_102 : decode cX4_may 102 = .ok (.iaload, 1) := by decide +kernel
theorem dX4_may_103 : decode cX4_may 103 = .ok (.if_icmp .lt 71, 3) := by decide +kernel
theorem dX4_may_106 : decode cX4_may 106 = .ok (.aload_n 0, 1) := by decide +kernel
theorem dX4_may_107 : decode cX4_may 107 = .ok (.aload_n 0, 1) := by decide +kernel
theorem dX4_may_108 : decode cX4_may 108 = .ok (.getfield 65, 3) := by decide +kernel
theorem dX4_may_111 : decode cX4_may 111 = .ok (.iload_n 1, 1) := by decide +kernel
theorem dX4_may_112 : decode cX4_may 112 = .ok (.iaload, 1) := by decide +kernel
theorem dX4_may_113 : decode cX4_may 113 = .ok (.aload_n 0, 1) := by decide +kernel
theorem dX4_may_114 : decode cX4_may 114 = .ok (.getfield 68, 3) := by decide +kernel
theorem dX4_may_117 : decode cX4_may 117 = .ok (.iload_n 1, 1) := by decide +kernel
theorem dX4_may_118 : decode cX4_may 118 = .ok (.iaload, 1) := by decide +kernel
theorem dX4_may_119 : decode cX4_may 119 = .ok (.aload_n 0, 1) := by decide +kernel
theorem dX4_may_120 : decode cX4_may 120 = .ok (.getfield 74, 3) := by decide +kernel
theorem dX4_may_123 : decode cX4_may 123 = .ok (.iload_n 1, 1) := by decide +kernel
theorem dX4_may_124 : decode cX4_may 124 = .ok (.iaload, 1) := by decide +kernel
theorem dX4_may_125 : decode cX4_may 125 = .ok (.invokestatic 147, 3) := by decide +kernel
theorem dX4_may_128 : decode cX4_may 128 = .ok (.invokevirtual 153, 3) := by decide +kernel
theorem dX4_may_131 : decode cX4_may 131 = .ok (.aload_n 0, 1) := by decide +kernel
theorem dX4_may_132 : decode cX4_may 132 = .ok (.getfield 80, 3) := by decide +kernel
theorem dX4_may_135 : decode cX4_may 135 = .ok (.iload_n 1, 1) := by decide +kernel
theorem dX4_may_136 : decode cX4_may 136 = .ok (.iaload, 1) := by decide +kernel
theorem dX4_may_137 : decode cX4_may 137 = .ok (.if_icmp .lt 37, 3) := by decide +kernel
theorem dX4_may_140 : decode cX4_may 140 = .ok (.aload_n 0, 1) := by decide +kernel
theorem dX4_may_141 : decode cX4_may 141 = .ok (.aload_n 0, 1) := by decide +kernel
theorem dX4_may_142 : decode cX4_may 142 = .ok (.getfield 65, 3) := by decide +kernel
theorem dX4_may_145 : decode cX4_may 145 = .ok (.iload_n 1, 1) := by decide +kernel
theorem dX4_may_146 : decode cX4_may 146 = .ok (.iaload, 1) := by decide +kernel
theorem dX4_may_147 : decode cX4_may 147 = .ok (.aload_n 0, 1) := by decide +kernel
theorem dX4_may_148 : decode cX4_may 148 = .ok (.getfield 68, 3) := by decide +kernel
theorem dX4_may_151 : decode cX4_may 151 = .ok (.iload_n 1, 1) := by decide +kernel
theorem dX4_may_152 : decode cX4_may 152 = .ok (.iaload, 1) := by decide +kernel
theorem dX4_may_153 : decode cX4_may 153 = .ok (.iload_n 1, 1) := by decide +kernel
theorem dX4_may_154 : decode cX4_may 154 = .ok (.invokevirtual 157, 3) := by decide +kernel
theorem dX4_may_157 : decode cX4_may 157 = .ok (.aload_n 0, 1) := by decide +kernel
theorem dX4_may_158 : decode cX4_may 158 = .ok (.getfield 77, 3) := by decide +kernel
theorem dX4_may_161 : decode cX4_may 161 = .ok (.iload_n 1, 1) := by decide +kernel
theorem dX4_may_162 : decode cX4_may 162 = .ok (.iaload, 1) := by decide +kernel
theorem dX4_may_163 : decode cX4_may 163 = .ok (.iadd, 1) := by decide +kernel
theorem dX4_may_164 : decode cX4_may 164 = .ok (.sipush 1000, 3) := by decide +kernel
theorem dX4_may_167 : decode cX4_may 167 = .ok (.if_icmp .gt 7, 3) := by decide +kernel
theorem dX4_may_170 : decode cX4_may 170 = .ok (.iconst 1, 1) := by decide +kernel
theorem dX4_may_171 : decode cX4_may 171 = .ok (.goto 4, 3) := by decide +kernel
theorem dX4_may_174 : decode cX4_may 174 = .ok (.iconst 0, 1) := by decide +kernel
theorem dX4_may_175 : decode cX4_may 175 = .ok (.ireturn, 1) := by decide +kernel
theorem dX4_act_0 : decode cX4_act 0 = .ok (.aload_n 0, 1) := by decide +kernel
theorem dX4_act_1 : decode cX4_act 1 = .ok (.getfield 65, 3) := by decide +kernel
theorem dX4_act_4 : decode cX4_act 4 = .ok (.iload_n 1, 1) := by decide +kernel
theorem dX4_act_5 : decode cX4_act 5 = .ok (.iaload, 1) := by decide +kernel
theorem dX4_act_6 : decode cX4_act 6 = .ok (.aload_n 0, 1) := by decide +kernel
theorem dX4_act_7 : decode cX4_act 7 = .ok (.getfield 68, 3) := by decide +kernel
theorem dX4_act_10 : decode cX4_act 10 = .ok (.iload_n 1, 1) := by decide +kernel
theorem dX4_act_11 : decode cX4_act 11 = .ok (.iaload, 1) := by decide +kernel
theorem dX4_act_12 : decode cX4_act 12 = .ok (.aload_n 0, 1) := by decide +kernel
theorem dX4_act_13 : decode cX4_act 13 = .ok (.getfield 71, 3) := by decide +kernel
theorem dX4_act_16 : decode cX4_act 16 = .ok (.iload_n 1, 1) := by decide +kernel
theorem dX4_act_17 : decode cX4_act 17 = .ok (.iaload, 1) := by decide +kernel
theorem dX4_act_18 : decode cX4_act 18 = .ok (.invokestatic 147, 3) := by decide +kernel
theorem dX4_act_21 : decode cX4_act 21 = .ok (.istore_n 2, 1) := by decide +kernel
theorem dX4_act_22 : decode cX4_act 22 = .ok (.aload_n 0, 1) := by decide +kernel
theorem dX4_act_23 : decode cX4_act 23 = .ok (.getfield 62, 3) := by decide +kernel
theorem dX4_act_26 : decode cX4_act 26 = .ok (.iload_n 1, 1) := by decide +kernel
theorem dX4_act_27 : decode cX4_act 27 = .ok (.iaload, 1) := by decide +kernel
theorem dX4_act_28 : decode cX4_act 28 = .ok (.lookupswitch 107 #[(0, 28), (1, 85)], 28) := by decide +kernel
theorem dX4_act_56 : decode cX4_act 56 = .ok (.aload_n 0, 1) := by decide +kernel
theorem dX4_act_57 : decode cX4_act 57 = .ok (.getfield 41, 3) := by decide +kernel
theorem dX4_act_60 : decode cX4_act 60 = .ok (.iload_n 2, 1) := by decide +kernel
theorem dX4_act_61 : decode cX4_act 61 = .ok (.aload_n 0, 1) := by decide +kernel
theorem dX4_act_62 : decode cX4_act 62 = .ok (.getfield 41, 3) := by decide +kernel
theorem dX4_act_65 : decode cX4_act 65 = .ok (.iload_n 2, 1) := by decide +kernel
theorem dX4_act_66 : decode cX4_act 66 = .ok (.iaload, 1) := by decide +kernel
theorem dX4_act_67 : decode cX4_act 67 = .ok (.aload_n 0, 1) := by decide +kernel
theorem dX4_act_68 : decode cX4_act 68 = .ok (.getfield 77, 3) := by decide +kernel
theorem dX4_act_71 : decode cX4_act 71 = .ok (.iload_n 1, 1) := by decide +kernel
theorem dX4_act_72 : decode cX4_act 72 = .ok (.iaload, 1) := by decide +kernel
theorem dX4_act_73 : decode cX4_act 73 = .ok (.isub, 1) := by decide +kernel
theorem dX4_act_74 : decode cX4_act 74 = .ok (.iastore, 1) := by decide +kernel
theorem dX4_act_75 : decode cX4_act 75 = .ok (.aload_n 0, 1) := by decide +kernel
theorem dX4_act_76 : decode cX4_act 76 = .ok (.getfield 41, 3) := by decide +kernel
theorem dX4_act_79 : decode cX4_act 79 = .ok (.aload_n 0, 1) := by decide +kernel
theorem dX4_act_80 : decode cX4_act 80 = .ok (.getfield 65, 3) := by decide +kernel
theorem dX4_act_83 : decode cX4_act 83 = .ok (.iload_n 1, 1) := by decide +kernel
theorem dX4_act_84 : decode cX4_act 84 = .ok (.iaload, 1) := by decide +kernel
theorem dX4_act_85 : decode cX4_act 85 = .ok (.aload_n 0, 1) := by decide +kernel
theorem dX4_act_86 : decode cX4_act 86 = .ok (.getfield 74, 3) := by decide +kernel
theorem dX4_act_89 : decode cX4_act 89 = .ok (.iload_n 1, 1) := by decide +kernel
theorem dX4_act_90 : decode cX4_act 90 = .ok (.iaload, 1) := by decide +kernel
theorem dX4_act_91 : decode cX4_act 91 = .ok (.aload_n 0, 1) := by decide +kernel
theorem dX4_act_92 : decode cX4_act 92 = .ok (.getfield 71, 3) := by decide +kernel
theorem dX4_act_95 : decode cX4_act 95 = .ok (.iload_n 1, 1) := by decide +kernel
theorem dX4_act_96 : decode cX4_act 96 = .ok (.iaload, 1) := by decide +kernel
theorem dX4_act_97 : decode cX4_act 97 = .ok (.invokestatic 147, 3) := by decide +kernel
theorem dX4_act_100 : decode cX4_act 100 = .ok (.dup2, 1) := by decide +kernel
theorem dX4_act_101 : decode cX4_act 101 = .ok (.iaload, 1) := by decide +kernel
theorem dX4_act_102 : decode cX4_act 102 = .ok (.aload_n 0, 1) := by decide +kernel
theorem dX4_act_103 : decode cX4_act 103 = .ok (.getfield 77, 3) := by decide +kernel
theorem dX4_act_106 : decode cX4_act 106 = .ok (.iload_n 1, 1) := by decide +kernel
theorem dX4_act_107 : decode cX4_act 107 = .ok (.iaload, 1) := by decide +kernel
theorem dX4_act_108 : decode cX4_act 108 = .ok (.iadd, 1) := by decide +kernel
theorem dX4_act_109 : decode cX4_act 109 = .ok (.iastore, 1) := by decide +kernel
theorem dX4_act_110 : decode cX4_act 110 = .ok (.goto 79, 3) := by decide +kernel
theorem dX4_act_113 : decode cX4_act 113 = .ok (.aload_n 0, 1) := by decide +kernel
theorem dX4_act_114 : decode cX4_act 114 = .ok (.getfield 50, 3) := by decide +kernel
theorem dX4_act_117 : decode cX4_act 117 = .ok (.iload_n 2, 1) := by decide +kernel
theorem dX4_act_118 : decode cX4_act 118 = .ok (.aload_n 0, 1) := by decide +kernel
theorem dX4_act_119 : decode cX4_act 119 = .ok (.getfield 50, 3) := by decide +kernel
theorem dX4_act_122 : decode cX4_act 122 = .ok (.iload_n 2, 1) := by decide +kernel
theorem dX4_act_123 : decode cX4_act 123 = .ok (.iaload, 1) := by decide +kernel
theorem dX4_act_124 : decode cX4_act 124 = .ok (.aload_n 0, 1) := by decide +kernel
theorem dX4_act_125 : decode cX4_act 125 = .ok (.getfield 80, 3) := by decide +kernel
theorem dX4_act_128 : decode cX4_act 128 = .ok (.iload_n 1, 1) := by decide +kernel
theorem dX4_act_129 : decode cX4_act 129 = .ok (.iaload, 1) := by decide +kernel
theorem dX4_act_130 : decode cX4_act 130 = .ok (.iadd, 1) := by decide +kernel
theorem dX4_act_131 : decode cX4_act 131 = .ok (.iastore, 1) := by decide +kernel
theorem dX4_act_132 : decode cX4_act 132 = .ok (.goto 57, 3) := by decide +kernel
theorem dX4_act_135 : decode cX4_act 135 = .ok (.aload_n 0, 1) := by decide +kernel
theorem dX4_act_136 : decode cX4_act 136 = .ok (.getfield 50, 3) := by decide +kernel
theorem dX4_act_139 : decode cX4_act 139 = .ok (.iload_n 2, 1) := by decide +kernel
theorem dX4_act_140 : decode cX4_act 140 = .ok (.aload_n 0, 1) := by decide +kernel
theorem dX4_act_141 : decode cX4_act 141 = .ok (.getfield 50, 3) := by decide +kernel
theorem dX4_act_144 : decode cX4_act 144 = .ok (.iload_n 2, 1) := by decide +kernel
theorem dX4_act_145 : decode cX4_act 145 = .ok (.iaload, 1) := by decide +kernel
theorem dX4_act_146 : decode cX4_act 146 = .ok (.aload_n 0, 1) := by decide +kernel
theorem dX4_act_147 : decode cX4_act 147 = .ok (.getfield 77, 3) := by decide +kernel
theorem dX4_act_150 : decode cX4_act 150 = .ok (.iload_n 1, 1) := by decide +kernel
theorem dX4_act_151 : decode cX4_act 151 = .ok (.iaload, 1) := by decide +kernel
theorem dX4_act_152 : decode cX4_act 152 = .ok (.isub, 1) := by decide +kernel
theorem dX4_act_153 : decode cX4_act 153 = .ok (.iastore, 1) := by decide +kernel
theorem dX4_act_154 : decode cX4_act 154 = .ok (.aload_n 0, 1) := by decide +kernel
theorem dX4_act_155 : decode cX4_act 155 = .ok (.getfield 50, 3) := by decide +kernel
theorem dX4_act_158 : decode cX4_act 158 = .ok (.aload_n 0, 1) := by decide +kernel
theorem dX4_act_159 : decode cX4_act 159 = .ok (.getfield 65, 3) := by decide +kernel
theorem dX4_act_162 : decode cX4_act 162 = .ok (.iload_n 1, 1) := by decide +kernel
theorem dX4_act_163 : decode cX4_act 163 = .ok (.iaload, 1) := by decide +kernel
theorem dX4_act_164 : decode cX4_act 164 = .ok (.aload_n 0, 1) := by decide +kernel
theorem dX4_act_165 : decode cX4_act 165 = .ok (.getfield 68, 3) := by decide +kernel
theorem dX4_act_168 : decode cX4_act 168 = .ok (.iload_n 1, 1) := by decide +kernel
theorem dX4_act_169 : decode cX4_act 169 = .ok (.iaload, 1) := by decide +kernel
theorem dX4_act_170 : decode cX4_act 170 = .ok (.aload_n 0, 1) := by decide +kernel
theorem dX4_act_171 : decode cX4_act 171 = .ok (.getfield 74, 3) := by decide +kernel
theorem dX4_act_174 : decode cX4_act 174 = .ok (.iload_n 1, 1) := by decide +kernel
theorem dX4_act_175 : decode cX4_act 175 = .ok (.iaload, 1) := by decide +kernel
theorem dX4_act_176 : decode cX4_act 176 = .ok (.invokestatic 147, 3) := by decide +kernel
theorem dX4_act_179 : decode cX4_act 179 = .ok (.dup2, 1) := by decide +kernel
theorem dX4_act_180 : decode cX4_act 180 = .ok (.iaload, 1) := by decide +kernel
theorem dX4_act_181 : decode cX4_act 181 = .ok (.aload_n 0, 1) := by decide +kernel
theorem dX4_act_182 : decode cX4_act 182 = .ok (.getfield 80, 3) := by decide +kernel
theorem dX4_act_185 : decode cX4_act 185 = .ok (.iload_n 1, 1) := by decide +kernel
theorem dX4_act_186 : decode cX4_act 186 = .ok (.iaload, 1) := by decide +kernel
theorem dX4_act_187 : decode cX4_act 187 = .ok (.iadd, 1) := by decide +kernel
theorem dX4_act_188 : decode cX4_act 188 = .ok (.iastore, 1) := by decide +kernel
theorem dX4_act_189 : decode cX4_act 189 = .ok (.return_, 1) := by decide +kernel
theorem dX4_close_0 : decode cX4_close 0 = .ok (.aload_n 0, 1) := by decide +kernel
theorem dX4_close_1 : decode cX4_close 1 = .ok (.iload_n 1, 1) := by decide +kernel
theorem dX4_close_2 : decode cX4_close 2 = .ok (.invokevirtual 153, 3) := by decide +kernel
theorem dX4_close_5 : decode cX4_close 5 = .ok (.istore_n 2, 1) := by decide +kernel
theorem dX4_close_6 : decode cX4_close 6 = .ok (.ldc2_w 160, 3) := by decide +kernel
theorem dX4_close_9 : decode cX4_close 9 = .ok (.aload_n 0, 1) := by decide +kernel
theorem dX4_close_10 : decode cX4_close 10 = .ok (.getfield 38, 3) := by decide +kernel
theorem dX4_close_13 : decode cX4_close 13 = .ok (.iload_n 1, 1) := by decide +kernel
theorem dX4_close_14 : decode cX4_close 14 = .ok (.iaload, 1) := by decide +kernel
theorem dX4_close_15 : decode cX4_close 15 = .ok (.i2l, 1) := by decide +kernel
theorem dX4_close_16 : decode cX4_close 16 = .ok (.lmul, 1) := by decide +kernel
theorem dX4_close_17 : decode cX4_close 17 = .ok (.ldc2_w 162, 3) := by decide +kernel
theorem dX4_close_20 : decode cX4_close 20 = .ok (.ldiv, 1) := by decide +kernel
theorem dX4_close_21 : decode cX4_close 21 = .ok (.l2i, 1) := by decide +kernel
theorem dX4_close_22 : decode cX4_close 22 = .ok (.istore_n 3, 1) := by decide +kernel
theorem dX4_close_23 : decode cX4_close 23 = .ok (.iload_n 2, 1) := by decide +kernel
theorem dX4_close_24 : decode cX4_close 24 = .ok (.ifCond .ge 8, 3) := by decide +kernel
theorem dX4_close_27 : decode cX4_close 27 = .ok (.iload_n 2, 1) := by decide +kernel
theorem dX4_close_28 : decode cX4_close 28 = .ok (.ineg, 1) := by decide +kernel
theorem dX4_close_29 : decode cX4_close 29 = .ok (.goto 4, 3) := by decide +kernel
theorem dX4_close_32 : decode cX4_close 32 = .ok (.iconst 0, 1) := by decide +kernel
theorem dX4_close_33 : decode cX4_close 33 = .ok (.istore 4, 2) := by decide +kernel
theorem dX4_close_35 : decode cX4_close 35 = .ok (.ldc2_w 104, 3) := by decide +kernel
theorem dX4_close_38 : decode cX4_close 38 = .ok (.aload_n 0, 1) := by decide +kernel
theorem dX4_close_39 : decode cX4_close 39 = .ok (.getfield 38, 3) := by decide +kernel
theorem dX4_close_42 : decode cX4_close 42 = .ok (.iload_n 1, 1) := by decide +kernel
theorem dX4_close_43 : decode cX4_close 43 = .ok (.iaload, 1) := by decide +kernel
theorem dX4_close_44 : decode cX4_close 44 = .ok (.i2l, 1) := by decide +kernel
theorem dX4_close_45 : decode cX4_close 45 = .ok (.lmul, 1) := by decide +kernel
theorem dX4_close_46 : decode cX4_close 46 = .ok (.ldc2_w 162, 3) := by decide +kernel
theorem dX4_close_49 : decode cX4_close 49 = .ok (.ldiv, 1) := by decide +kernel
theorem dX4_close_50 : decode cX4_close 50 = .ok (.l2i, 1) := by decide +kernel
theorem dX4_close_51 : decode cX4_close 51 = .ok (.istore 5, 2) := by decide +kernel
theorem dX4_close_53 : decode cX4_close 53 = .ok (.aload_n 0, 1) := by decide +kernel
theorem dX4_close_54 : decode cX4_close 54 = .ok (.getfield 53, 3) := by decide +kernel
theorem dX4_close_57 : decode cX4_close 57 = .ok (.iload_n 1, 1) := by decide +kernel
theorem dX4_close_58 : decode cX4_close 58 = .ok (.iload_n 2, 1) := by decide +kernel
theorem dX4_close_59 : decode cX4_close 59 = .ok (.ifCond .ge 7, 3) := by decide +kernel
theorem dX4_close_62 : decode cX4_close 62 = .ok (.iconst 0, 1) := by decide +kernel
theorem dX4_close_63 : decode cX4_close 63 = .ok (.goto 13, 3) := by decide +kernel
theorem dX4_close_66 : decode cX4_close 66 = .ok (.iload_n 2, 1) := by decide +kernel
theorem dX4_close_67 : decode cX4_close 67 = .ok (.iload_n 3, 1) := by decide +kernel
theorem dX4_close_68 : decode cX4_close 68 = .ok (.if_icmp .ge 7, 3) := by decide +kernel
theorem dX4_close_71 : decode cX4_close 71 = .ok (.iload_n 2, 1) := by decide +kernel
theorem dX4_close_72 : decode cX4_close 72 = .ok (.goto 4, 3) := by decide +kernel
theorem dX4_close_75 : decode cX4_close 75 = .ok (.iload_n 3, 1) := by decide +kernel
theorem dX4_close_76 : decode cX4_close 76 = .ok (.iastore, 1) := by decide +kernel
theorem dX4_close_77 : decode cX4_close 77 = .ok (.aload_n 0, 1) := by decide +kernel
theorem dX4_close_78 : decode cX4_close 78 = .ok (.getfield 56, 3) := by decide +kernel
theorem dX4_close_81 : decode cX4_close 81 = .ok (.iload_n 1, 1) := by decide +kernel
theorem dX4_close_82 : decode cX4_close 82 = .ok (.iload 4, 2) := by decide +kernel
theorem dX4_close_84 : decode cX4_close 84 = .ok (.iload 5, 2) := by decide +kernel
theorem dX4_close_86 : decode cX4_close 86 = .ok (.if_icmp .ge 8, 3) := by decide +kernel
theorem dX4_close_89 : decode cX4_close 89 = .ok (.iload 4, 2) := by decide +kernel
theorem dX4_close_91 : decode cX4_close 91 = .ok (.goto 5, 3) := by decide +kernel
theorem dX4_close_94 : decode cX4_close 94 = .ok (.iload 5, 2) := by decide +kernel
theorem dX4_close_96 : decode cX4_close 96 = .ok (.iastore, 1) := by decide +kernel
theorem dX4_close_97 : decode cX4_close 97 = .ok (.aload_n 0, 1) := by decide +kernel
theorem dX4_close_98 : decode cX4_close 98 = .ok (.getfield 59, 3) := by decide +kernel
theorem dX4_close_101 : decode cX4_close 101 = .ok (.iload_n 1, 1) := by decide +kernel
theorem dX4_close_102 : decode cX4_close 102 = .ok (.iload 4, 2) := by decide +kernel
theorem dX4_close_104 : decode cX4_close 104 = .ok (.aload_n 0, 1) := by decide +kernel
theorem dX4_close_105 : decode cX4_close 105 = .ok (.getfield 56, 3) := by decide +kernel
theorem dX4_close_108 : decode cX4_close 108 = .ok (.iload_n 1, 1) := by decide +kernel
theorem dX4_close_109 : decode cX4_close 109 = .ok (.iaload, 1) := by decide +kernel
theorem dX4_close_110 : decode cX4_close 110 = .ok (.isub, 1) := by decide +kernel
theorem dX4_close_111 : decode cX4_close 111 = .ok (.iastore, 1) := by decide +kernel
theorem dX4_close_112 : decode cX4_close 112 = .ok (.return_, 1) := by decide +kernel
theorem dX4_work_0 : decode cX4_work 0 = .ok (.iconst 1, 1) := by decide +kernel
theorem dX4_work_1 : decode cX4_work 1 = .ok (.istore_n 1, 1) := by decide +kernel
theorem dX4_work_2 : decode cX4_work 2 = .ok (.iload_n 1, 1) := by decide +kernel
theorem dX4_work_3 : decode cX4_work 3 = .ok (.aload_n 0, 1) := by decide +kernel
theorem dX4_work_4 : decode cX4_work 4 = .ok (.getfield 141, 3) := by decide +kernel
theorem dX4_work_7 : decode cX4_work 7 = .ok (.if_icmp .gt 210, 3) := by decide +kernel
theorem dX4_work_10 : decode cX4_work 10 = .ok (.bipush 24, 2) := by decide +kernel
theorem dX4_work_12 : decode cX4_work 12 = .ok (.iload_n 1, 1) := by decide +kernel
theorem dX4_work_13 : decode cX4_work 13 = .ok (.imul, 1) := by decide +kernel
theorem dX4_work_14 : decode cX4_work 14 = .ok (.istore_n 2, 1) := by decide +kernel
theorem dX4_work_15 : decode cX4_work 15 = .ok (.iload_n 2, 1) := by decide +kernel
theorem dX4_work_16 : decode cX4_work 16 = .ok (.bipush 24, 2) := by decide +kernel
theorem dX4_work_18 : decode cX4_work 18 = .ok (.iload_n 1, 1) := by decide +kernel
theorem dX4_work_19 : decode cX4_work 19 = .ok (.imul, 1) := by decide +kernel
theorem dX4_work_20 : decode cX4_work 20 = .ok (.bipush 24, 2) := by decide +kernel
theorem dX4_work_22 : decode cX4_work 22 = .ok (.iadd, 1) := by decide +kernel
theorem dX4_work_23 : decode cX4_work 23 = .ok (.if_icmp .ge 92, 3) := by decide +kernel
theorem dX4_work_26 : decode cX4_work 26 = .ok (.aload_n 0, 1) := by decide +kernel
theorem dX4_work_27 : decode cX4_work 27 = .ok (.getfield 41, 3) := by decide +kernel
theorem dX4_work_30 : decode cX4_work 30 = .ok (.iload_n 2, 1) := by decide +kernel
theorem dX4_work_31 : decode cX4_work 31 = .ok (.iconst 0, 1) := by decide +kernel
theorem dX4_work_32 : decode cX4_work 32 = .ok (.iastore, 1) := by decide +kernel
theorem dX4_work_33 : decode cX4_work 33 = .ok (.aload_n 0, 1) := by decide +kernel
theorem dX4_work_34 : decode cX4_work 34 = .ok (.getfield 50, 3) := by decide +kernel
theorem dX4_work_37 : decode cX4_work 37 = .ok (.iload_n 2, 1) := by decide +kernel
theorem dX4_work_38 : decode cX4_work 38 = .ok (.iconst 0, 1) := by decide +kernel
theorem dX4_work_39 : decode cX4_work 39 = .ok (.iastore, 1) := by decide +kernel
theorem dX4_work_40 : decode cX4_work 40 = .ok (.aload_n 0, 1) := by decide +kernel
theorem dX4_work_41 : decode cX4_work 41 = .ok (.getfield 44, 3) := by decide +kernel
theorem dX4_work_44 : decode cX4_work 44 = .ok (.iload_n 2, 1) := by decide +kernel
theorem dX4_work_45 : decode cX4_work 45 = .ok (.iload_n 1, 1) := by decide +kernel
theorem dX4_work_46 : decode cX4_work 46 = .ok (.iconst 1, 1) := by decide +kernel
theorem dX4_work_47 : decode cX4_work 47 = .ok (.if_icmp .ne 7, 3) := by decide +kernel
theorem dX4_work_50 : decode cX4_work 50 = .ok (.iconst 0, 1) := by decide +kernel
theorem dX4_work_51 : decode cX4_work 51 = .ok (.goto 12, 3) := by decide +kernel
theorem dX4_work_54 : decode cX4_work 54 = .ok (.aload_n 0, 1) := by decide +kernel
theorem dX4_work_55 : decode cX4_work 55 = .ok (.getfield 53, 3) := by decide +kernel
theorem dX4_work_58 : decode cX4_work 58 = .ok (.iload_n 2, 1) := by decide +kernel
theorem dX4_work_59 : decode cX4_work 59 = .ok (.bipush 24, 2) := by decide +kernel
theorem dX4_work_61 : decode cX4_work 61 = .ok (.isub, 1) := by decide +kernel
theorem dX4_work_62 : decode cX4_work 62 = .ok (.iaload, 1) := by decide +kernel
theorem dX4_work_63 : decode cX4_work 63 = .ok (.iastore, 1) := by decide +kernel
theorem dX4_work_64 : decode cX4_work 64 = .ok (.aload_n 0, 1) := by decide +kernel
theorem dX4_work_65 : decode cX4_work 65 = .ok (.getfield 47, 3) := by decide +kernel
theorem dX4_work_68 : decode cX4_work 68 = .ok (.iload_n 2, 1) := by decide +kernel
theorem dX4_work_69 : decode cX4_work 69 = .ok (.iload_n 1, 1) := by decide +kernel
theorem dX4_work_70 : decode cX4_work 70 = .ok (.iconst 1, 1) := by decide +kernel
theorem dX4_work_71 : decode cX4_work 71 = .ok (.if_icmp .ne 7, 3) := by decide +kernel
theorem dX4_work_74 : decode cX4_work 74 = .ok (.iconst 0, 1) := by decide +kernel
theorem dX4_work_75 : decode cX4_work 75 = .ok (.goto 12, 3) := by decide +kernel
theorem dX4_work_78 : decode cX4_work 78 = .ok (.aload_n 0, 1) := by decide +kernel
theorem dX4_work_79 : decode cX4_work 79 = .ok (.getfield 56, 3) := by decide +kernel
theorem dX4_work_82 : decode cX4_work 82 = .ok (.iload_n 2, 1) := by decide +kernel
theorem dX4_work_83 : decode cX4_work 83 = .ok (.bipush 24, 2) := by decide +kernel
theorem dX4_work_85 : decode cX4_work 85 = .ok (.isub, 1) := by decide +kernel
theorem dX4_work_86 : decode cX4_work 86 = .ok (.iaload, 1) := by decide +kernel
theorem dX4_work_87 : decode cX4_work 87 = .ok (.iastore, 1) := by decide +kernel
theorem dX4_work_88 : decode cX4_work 88 = .ok (.aload_n 0, 1) := by decide +kernel
theorem dX4_work_89 : decode cX4_work 89 = .ok (.getfield 53, 3) := by decide +kernel
theorem dX4_work_92 : decode cX4_work 92 = .ok (.iload_n 2, 1) := by decide +kernel
theorem dX4_work_93 : decode cX4_work 93 = .ok (.iconst 0, 1) := by decide +kernel
theorem dX4_work_94 : decode cX4_work 94 = .ok (.iastore, 1) := by decide +kernel
theorem dX4_work_95 : decode cX4_work 95 = .ok (.aload_n 0, 1) := by decide +kernel
theorem dX4_work_96 : decode cX4_work 96 = .ok (.getfield 56, 3) := by decide +kernel
theorem dX4_work_99 : decode cX4_work 99 = .ok (.iload_n 2, 1) := by decide +kernel
theorem dX4_work_100 : decode cX4_work 100 = .ok (.iconst 0, 1) := by decide +kernel
theorem dX4_work_101 : decode cX4_work 101 = .ok (.iastore, 1) := by decide +kernel
theorem dX4_work_102 : decode cX4_work 102 = .ok (.aload_n 0, 1) := by decide +kernel
theorem dX4_work_103 : decode cX4_work 103 = .ok (.getfield 59, 3) := by decide +kernel
theorem dX4_work_106 : decode cX4_work 106 = .ok (.iload_n 2, 1) := by decide +kernel
theorem dX4_work_107 : decode cX4_work 107 = .ok (.iconst 0, 1) := by decide +kernel
theorem dX4_work_108 : decode cX4_work 108 = .ok (.iastore, 1) := by decide +kernel
theorem dX4_work_109 : decode cX4_work 109 = .ok (.iinc 2 1, 3) := by decide +kernel
theorem dX4_work_112 : decode cX4_work 112 = .ok (.goto (-97), 3) := by decide +kernel
theorem dX4_work_115 : decode cX4_work 115 = .ok (.iconst 0, 1) := by decide +kernel
theorem dX4_work_116 : decode cX4_work 116 = .ok (.istore_n 2, 1) := by decide +kernel
theorem dX4_work_117 : decode cX4_work 117 = .ok (.iload_n 2, 1) := by decide +kernel
theorem dX4_work_118 : decode cX4_work 118 = .ok (.aload_n 0, 1) := by decide +kernel
theorem dX4_work_119 : decode cX4_work 119 = .ok (.getfield 164, 3) := by decide +kernel
theorem dX4_work_122 : decode cX4_work 122 = .ok (.if_icmp .ge 47, 3) := by decide +kernel
theorem dX4_work_125 : decode cX4_work 125 = .ok (.aload_n 0, 1) := by decide +kernel
theorem dX4_work_126 : decode cX4_work 126 = .ok (.getfield 65, 3) := by decide +kernel
theorem dX4_work_129 : decode cX4_work 129 = .ok (.iload_n 2, 1) := by decide +kernel
theorem dX4_work_130 : decode cX4_work 130 = .ok (.iaload, 1) := by decide +kernel
theorem dX4_work_131 : decode cX4_work 131 = .ok (.iload_n 1, 1) := by decide +kernel
theorem dX4_work_132 : decode cX4_work 132 = .ok (.if_icmp .eq 6, 3) := by decide +kernel
theorem dX4_work_135 : decode cX4_work 135 = .ok (.goto 28, 3) := by decide +kernel
theorem dX4_work_138 : decode cX4_work 138 = .ok (.aload_n 0, 1) := by decide +kernel
theorem dX4_work_139 : decode cX4_work 139 = .ok (.getfield 86, 3) := by decide +kernel
theorem dX4_work_142 : decode cX4_work 142 = .ok (.iload_n 2, 1) := by decide +kernel
theorem dX4_work_143 : decode cX4_work 143 = .ok (.aload_n 0, 1) := by decide +kernel
theorem dX4_work_144 : decode cX4_work 144 = .ok (.iload_n 2, 1) := by decide +kernel
theorem dX4_work_145 : decode cX4_work 145 = .ok (.invokevirtual 167, 3) := by decide +kernel
theorem dX4_work_148 : decode cX4_work 148 = .ok (.bastore, 1) := by decide +kernel
theorem dX4_work_149 : decode cX4_work 149 = .ok (.aload_n 0, 1) := by decide +kernel
theorem dX4_work_150 : decode cX4_work 150 = .ok (.getfield 86, 3) := by decide +kernel
theorem dX4_work_153 : decode cX4_work 153 = .ok (.iload_n 2, 1) := by decide +kernel
theorem dX4_work_154 : decode cX4_work 154 = .ok (.baload, 1) := by decide +kernel
theorem dX4_work_155 : decode cX4_work 155 = .ok (.ifCond .eq 8, 3) := by decide +kernel
theorem dX4_work_158 : decode cX4_work 158 = .ok (.aload_n 0, 1) := by decide +kernel
theorem dX4_work_159 : decode cX4_work 159 = .ok (.iload_n 2, 1) := by decide +kernel
theorem dX4_work_160 : decode cX4_work 160 = .ok (.invokevirtual 170, 3) := by decide +kernel
theorem dX4_work_163 : decode cX4_work 163 = .ok (.iinc 2 1, 3) := by decide +kernel
theorem dX4_work_166 : decode cX4_work 166 = .ok (.goto (-49), 3) := by decide +kernel
theorem dX4_work_169 : decode cX4_work 169 = .ok (.bipush 24, 2) := by decide +kernel
theorem dX4_work_171 : decode cX4_work 171 = .ok (.iload_n 1, 1) := by decide +kernel
theorem dX4_work_172 : decode cX4_work 172 = .ok (.imul, 1) := by decide +kernel
theorem dX4_work_173 : decode cX4_work 173 = .ok (.istore_n 2, 1) := by decide +kernel
theorem dX4_work_174 : decode cX4_work 174 = .ok (.iload_n 2, 1) := by decide +kernel
theorem dX4_work_175 : decode cX4_work 175 = .ok (.bipush 24, 2) := by decide +kernel
theorem dX4_work_177 : decode cX4_work 177 = .ok (.iload_n 1, 1) := by decide +kernel
theorem dX4_work_178 : decode cX4_work 178 = .ok (.imul, 1) := by decide +kernel
theorem dX4_work_179 : decode cX4_work 179 = .ok (.bipush 24, 2) := by decide +kernel
theorem dX4_work_181 : decode cX4_work 181 = .ok (.iadd, 1) := by decide +kernel
theorem dX4_work_182 : decode cX4_work 182 = .ok (.if_icmp .ge 29, 3) := by decide +kernel
theorem dX4_work_185 : decode cX4_work 185 = .ok (.iload_n 1, 1) := by decide +kernel
theorem dX4_work_186 : decode cX4_work 186 = .ok (.aload_n 0, 1) := by decide +kernel
theorem dX4_work_187 : decode cX4_work 187 = .ok (.getfield 141, 3) := by decide +kernel
theorem dX4_work_190 : decode cX4_work 190 = .ok (.if_icmp .lt 10, 3) := by decide +kernel
theorem dX4_work_193 : decode cX4_work 193 = .ok (.aload_n 0, 1) := by decide +kernel
theorem dX4_work_194 : decode cX4_work 194 = .ok (.getfield 173, 3) := by decide +kernel
theorem dX4_work_197 : decode cX4_work 197 = .ok (.ifCond .ne 14, 3) := by decide +kernel
theorem dX4_work_200 : decode cX4_work 200 = .ok (.aload_n 0, 1) := by decide +kernel
theorem dX4_work_201 : decode cX4_work 201 = .ok (.iload_n 2, 1) := by decide +kernel
theorem dX4_work_202 : decode cX4_work 202 = .ok (.invokevirtual 177, 3) := by decide +kernel
theorem dX4_work_205 : decode cX4_work 205 = .ok (.iinc 2 1, 3) := by decide +kernel
theorem dX4_work_208 : decode cX4_work 208 = .ok (.goto (-34), 3) := by decide +kernel
theorem dX4_work_211 : decode cX4_work 211 = .ok (.iinc 1 1, 3) := by decide +kernel
theorem dX4_work_214 : decode cX4_work 214 = .ok (.goto (-212), 3) := by decide +kernel
theorem dX4_work_217 : decode cX4_work 217 = .ok (.return_, 1) := by decide +kernel
theorem dX4_open_0 : decode cX4_open 0 = .ok (.iload_n 1, 1) := by decide +kernel
theorem dX4_open_1 : decode cX4_open 1 = .ok (.i2l, 1) := by decide +kernel
theorem dX4_open_2 : decode cX4_open 2 = .ok (.lconst 0, 1) := by decide +kernel
theorem dX4_open_3 : decode cX4_open 3 = .ok (.ldc2_w 120, 3) := by decide +kernel
theorem dX4_open_6 : decode cX4_open 6 = .ok (.invokestatic 100, 3) := by decide +kernel
theorem dX4_open_9 : decode cX4_open 9 = .ok (.ifCond .eq 44, 3) := by decide +kernel
theorem dX4_open_12 : decode cX4_open 12 = .ok (.iload_n 2, 1) := by decide +kernel
theorem dX4_open_13 : decode cX4_open 13 = .ok (.i2l, 1) := by decide +kernel
theorem dX4_open_14 : decode cX4_open 14 = .ok (.lconst 0, 1) := by decide +kernel
theorem dX4_open_15 : decode cX4_open 15 = .ok (.ldc2_w 120, 3) := by decide +kernel
theorem dX4_open_18 : decode cX4_open 18 = .ok (.invokestatic 100, 3) := by decide +kernel
theorem dX4_open_21 : decode cX4_open 21 = .ok (.ifCond .eq 32, 3) := by decide +kernel
theorem dX4_open_24 : decode cX4_open 24 = .ok (.iload_n 3, 1) := by decide +kernel
theorem dX4_open_25 : decode cX4_open 25 = .ok (.i2l, 1) := by decide +kernel
theorem dX4_open_26 : decode cX4_open 26 = .ok (.lconst 0, 1) := by decide +kernel
theorem dX4_open_27 : decode cX4_open 27 = .ok (.ldc2_w 120, 3) := by decide +kernel
theorem dX4_open_30 : decode cX4_open 30 = .ok (.invokestatic 100, 3) := by decide +kernel
theorem dX4_open_33 : decode cX4_open 33 = .ok (.ifCond .eq 20, 3) := by decide +kernel
theorem dX4_open_36 : decode cX4_open 36 = .ok (.iload 4, 2) := by decide +kernel
theorem dX4_open_38 : decode cX4_open 38 = .ok (.i2l, 1) := by decide +kernel
theorem dX4_open_39 : decode cX4_open 39 = .ok (.lconst 0, 1) := by decide +kernel
theorem dX4_open_40 : decode cX4_open 40 = .ok (.ldc2_w 120, 3) := by decide +kernel
theorem dX4_open_43 : decode cX4_open 43 = .ok (.invokestatic 100, 3) := by decide +kernel
theorem dX4_open_46 : decode cX4_open 46 = .ok (.ifCond .eq 7, 3) := by decide +kernel
theorem dX4_open_49 : decode cX4_open 49 = .ok (.iconst 1, 1) := by decide +kernel
theorem dX4_open_50 : decode cX4_open 50 = .ok (.goto 4, 3) := by decide +kernel
theorem dX4_open_53 : decode cX4_open 53 = .ok (.iconst 0, 1) := by decide +kernel
theorem dX4_open_54 : decode cX4_open 54 = .ok (.istore 5, 2) := by decide +kernel
theorem dX4_open_56 : decode cX4_open 56 = .ok (.aload_n 0, 1) := by decide +kernel
theorem dX4_open_57 : decode cX4_open 57 = .ok (.iload 5, 2) := by decide +kernel
theorem dX4_open_59 : decode cX4_open 59 = .ok (.ifCond .ne 7, 3) := by decide +kernel
theorem dX4_open_62 : decode cX4_open 62 = .ok (.iconst 1, 1) := by decide +kernel
theorem dX4_open_63 : decode cX4_open 63 = .ok (.goto 4, 3) := by decide +kernel
theorem dX4_open_66 : decode cX4_open 66 = .ok (.iconst 0, 1) := by decide +kernel
theorem dX4_open_67 : decode cX4_open 67 = .ok (.aload_n 0, 1) := by decide +kernel
theorem dX4_open_68 : decode cX4_open 68 = .ok (.getfield 173, 3) := by decide +kernel
theorem dX4_open_71 : decode cX4_open 71 = .ok (.ifCond .ne 12, 3) := by decide +kernel
theorem dX4_open_74 : decode cX4_open 74 = .ok (.aload_n 0, 1) := by decide +kernel
theorem dX4_open_75 : decode cX4_open 75 = .ok (.getfield 141, 3) := by decide +kernel
theorem dX4_open_78 : decode cX4_open 78 = .ok (.bipush 8, 2) := by decide +kernel
theorem dX4_open_80 : decode cX4_open 80 = .ok (.if_icmp .ne 7, 3) := by decide +kernel
theorem dX4_open_83 : decode cX4_open 83 = .ok (.iconst 1, 1) := by decide +kernel
theorem dX4_open_84 : decode cX4_open 84 = .ok (.goto 4, 3) := by decide +kernel
theorem dX4_open_87 : decode cX4_open 87 = .ok (.iconst 0, 1) := by decide +kernel
theorem dX4_open_88 : decode cX4_open 88 = .ok (.invokevirtual 126, 3) := by decide +kernel
theorem dX4_open_91 : decode cX4_open 91 = .ok (.ifCond .eq 5, 3) := by decide +kernel
theorem dX4_open_94 : decode cX4_open 94 = .ok (.iconst 0, 1) := by decide +kernel
theorem dX4_open_95 : decode cX4_open 95 = .ok (.ireturn, 1) := by decide +kernel
theorem dX4_open_96 : decode cX4_open 96 = .ok (.aload_n 0, 1) := by decide +kernel
theorem dX4_open_97 : decode cX4_open 97 = .ok (.dup, 1) := by decide +kernel
theorem dX4_open_98 : decode cX4_open 98 = .ok (.getfield 141, 3) := by decide +kernel
theorem dX4_open_101 : decode cX4_open 101 = .ok (.iconst 1, 1) := by decide +kernel
theorem dX4_open_102 : decode cX4_open 102 = .ok (.iadd, 1) := by decide +kernel
theorem dX4_open_103 : decode cX4_open 103 = .ok (.putfield 141, 3) := by decide +kernel
theorem dX4_open_106 : decode cX4_open 106 = .ok (.aload_n 0, 1) := by decide +kernel
theorem dX4_open_107 : decode cX4_open 107 = .ok (.iconst 1, 1) := by decide +kernel
theorem dX4_open_108 : decode cX4_open 108 = .ok (.putfield 173, 3) := by decide +kernel
theorem dX4_open_111 : decode cX4_open 111 = .ok (.aload_n 0, 1) := by decide +kernel
theorem dX4_open_112 : decode cX4_open 112 = .ok (.aload_n 0, 1) := by decide +kernel
theorem dX4_open_113 : decode cX4_open 113 = .ok (.getfield 141, 3) := by decide +kernel
theorem dX4_open_116 : decode cX4_open 116 = .ok (.iconst 0, 1) := by decide +kernel
theorem dX4_open_117 : decode cX4_open 117 = .ok (.iload_n 1, 1) := by decide +kernel
theorem dX4_open_118 : decode cX4_open 118 = .ok (.invokevirtual 180, 3) := by decide +kernel
theorem dX4_open_121 : decode cX4_open 121 = .ok (.aload_n 0, 1) := by decide +kernel
theorem dX4_open_122 : decode cX4_open 122 = .ok (.aload_n 0, 1) := by decide +kernel
theorem dX4_open_123 : decode cX4_open 123 = .ok (.getfield 141, 3) := by decide +kernel
theorem dX4_open_126 : decode cX4_open 126 = .ok (.iconst 1, 1) := by decide +kernel
theorem dX4_open_127 : decode cX4_open 127 = .ok (.iload_n 2, 1) := by decide +kernel
theorem dX4_open_128 : decode cX4_open 128 = .ok (.invokevirtual 180, 3) := by decide +kernel
theorem dX4_open_131 : decode cX4_open 131 = .ok (.aload_n 0, 1) := by decide +kernel
theorem dX4_open_132 : decode cX4_open 132 = .ok (.aload_n 0, 1) := by decide +kernel
theorem dX4_open_133 : decode cX4_open 133 = .ok (.getfield 141, 3) := by decide +kernel
theorem dX4_open_136 : decode cX4_open 136 = .ok (.iconst 2, 1) := by decide +kernel
theorem dX4_open_137 : decode cX4_open 137 = .ok (.iload_n 3, 1) := by decide +kernel
theorem dX4_open_138 : decode cX4_open 138 = .ok (.invokevirtual 180, 3) := by decide +kernel
theorem dX4_open_141 : decode cX4_open 141 = .ok (.aload_n 0, 1) := by decide +kernel
theorem dX4_open_142 : decode cX4_open 142 = .ok (.aload_n 0, 1) := by decide +kernel
theorem dX4_open_143 : decode cX4_open 143 = .ok (.getfield 141, 3) := by decide +kernel
theorem dX4_open_146 : decode cX4_open 146 = .ok (.iconst 3, 1) := by decide +kernel
theorem dX4_open_147 : decode cX4_open 147 = .ok (.iload 4, 2) := by decide +kernel
theorem dX4_open_149 : decode cX4_open 149 = .ok (.invokevirtual 180, 3) := by decide +kernel
theorem dX4_open_152 : decode cX4_open 152 = .ok (.aload_n 0, 1) := by decide +kernel
theorem dX4_open_153 : decode cX4_open 153 = .ok (.invokevirtual 184, 3) := by decide +kernel
theorem dX4_open_156 : decode cX4_open 156 = .ok (.aload_n 0, 1) := by decide +kernel
theorem dX4_open_157 : decode cX4_open 157 = .ok (.getfield 141, 3) := by decide +kernel
theorem dX4_open_160 : decode cX4_open 160 = .ok (.ireturn, 1) := by decide +kernel
theorem dX4_end_0 : decode cX4_end 0 = .ok (.aload_n 0, 1) := by decide +kernel
theorem dX4_end_1 : decode cX4_end 1 = .ok (.aload_n 0, 1) := by decide +kernel
theorem dX4_end_2 : decode cX4_end 2 = .ok (.getfield 173, 3) := by decide +kernel
theorem dX4_end_5 : decode cX4_end 5 = .ok (.ifCond .ne 7, 3) := by decide +kernel
theorem dX4_end_8 : decode cX4_end 8 = .ok (.iconst 1, 1) := by decide +kernel
theorem dX4_end_9 : decode cX4_end 9 = .ok (.goto 4, 3) := by decide +kernel
theorem dX4_end_12 : decode cX4_end 12 = .ok (.iconst 0, 1) := by decide +kernel
theorem dX4_end_13 : decode cX4_end 13 = .ok (.iconst 0, 1) := by decide +kernel
theorem dX4_end_14 : decode cX4_end 14 = .ok (.invokevirtual 126, 3) := by decide +kernel
theorem dX4_end_17 : decode cX4_end 17 = .ok (.ifCond .eq 5, 3) := by decide +kernel
theorem dX4_end_20 : decode cX4_end 20 = .ok (.iconst 0, 1) := by decide +kernel
theorem dX4_end_21 : decode cX4_end 21 = .ok (.ireturn, 1) := by decide +kernel
theorem dX4_end_22 : decode cX4_end 22 = .ok (.aload_n 0, 1) := by decide +kernel
theorem dX4_end_23 : decode cX4_end 23 = .ok (.iconst 0, 1) := by decide +kernel
theorem dX4_end_24 : decode cX4_end 24 = .ok (.putfield 173, 3) := by decide +kernel
theorem dX4_end_27 : decode cX4_end 27 = .ok (.aload_n 0, 1) := by decide +kernel
theorem dX4_end_28 : decode cX4_end 28 = .ok (.invokevirtual 184, 3) := by decide +kernel
theorem dX4_end_31 : decode cX4_end 31 = .ok (.iconst 0, 1) := by decide +kernel
theorem dX4_end_32 : decode cX4_end 32 = .ok (.istore_n 1, 1) := by decide +kernel
theorem dX4_end_33 : decode cX4_end 33 = .ok (.bipush 24, 2) := by decide +kernel
theorem dX4_end_35 : decode cX4_end 35 = .ok (.aload_n 0, 1) := by decide +kernel
theorem dX4_end_36 : decode cX4_end 36 = .ok (.getfield 141, 3) := by decide +kernel
theorem dX4_end_39 : decode cX4_end 39 = .ok (.imul, 1) := by decide +kernel
theorem dX4_end_40 : decode cX4_end 40 = .ok (.istore_n 2, 1) := by decide +kernel
theorem dX4_end_41 : decode cX4_end 41 = .ok (.iload_n 2, 1) := by decide +kernel
theorem dX4_end_42 : decode cX4_end 42 = .ok (.bipush 24, 2) := by decide +kernel
theorem dX4_end_44 : decode cX4_end 44 = .ok (.aload_n 0, 1) := by decide +kernel
theorem dX4_end_45 : decode cX4_end 45 = .ok (.getfield 141, 3) := by decide +kernel
theorem dX4_end_48 : decode cX4_end 48 = .ok (.imul, 1) := by decide +kernel
theorem dX4_end_49 : decode cX4_end 49 = .ok (.bipush 24, 2) := by decide +kernel
theorem dX4_end_51 : decode cX4_end 51 = .ok (.iadd, 1) := by decide +kernel
theorem dX4_end_52 : decode cX4_end 52 = .ok (.if_icmp .ge 26, 3) := by decide +kernel
theorem dX4_end_55 : decode cX4_end 55 = .ok (.aload_n 0, 1) := by decide +kernel
theorem dX4_end_56 : decode cX4_end 56 = .ok (.getfield 59, 3) := by decide +kernel
theorem dX4_end_59 : decode cX4_end 59 = .ok (.iload_n 2, 1) := by decide +kernel
theorem dX4_end_60 : decode cX4_end 60 = .ok (.iaload, 1) := by decide +kernel
theorem dX4_end_61 : decode cX4_end 61 = .ok (.ifCond .le 9, 3) := by decide +kernel
theorem dX4_end_64 : decode cX4_end 64 = .ok (.iload_n 1, 1) := by decide +kernel
theorem dX4_end_65 : decode cX4_end 65 = .ok (.iconst 1, 1) := by decide +kernel
theorem dX4_end_66 : decode cX4_end 66 = .ok (.iadd, 1) := by decide +kernel
theorem dX4_end_67 : decode cX4_end 67 = .ok (.goto 4, 3) := by decide +kernel
theorem dX4_end_70 : decode cX4_end 70 = .ok (.iload_n 1, 1) := by decide +kernel
theorem dX4_end_71 : decode cX4_end 71 = .ok (.istore_n 1, 1) := by decide +kernel
theorem dX4_end_72 : decode cX4_end 72 = .ok (.iinc 2 1, 3) := by decide +kernel
theorem dX4_end_75 : decode cX4_end 75 = .ok (.goto (-34), 3) := by decide +kernel
theorem dX4_end_78 : decode cX4_end 78 = .ok (.iload_n 1, 1) := by decide +kernel
theorem dX4_end_79 : decode cX4_end 79 = .ok (.ireturn, 1) := by decide +kernel
theorem dX4_tell_0 : decode cX4_tell 0 = .ok (.aload_n 0, 1) := by decide +kernel
theorem dX4_tell_1 : decode cX4_tell 1 = .ok (.getfield 62, 3) := by decide +kernel
theorem dX4_tell_4 : decode cX4_tell 4 = .ok (.aload_n 0, 1) := by decide +kernel
theorem dX4_tell_5 : decode cX4_tell 5 = .ok (.getfield 164, 3) := by decide +kernel
theorem dX4_tell_8 : decode cX4_tell 8 = .ok (.iload_n 1, 1) := by decide +kernel
theorem dX4_tell_9 : decode cX4_tell 9 = .ok (.iastore, 1) := by decide +kernel
theorem dX4_tell_10 : decode cX4_tell 10 = .ok (.aload_n 0, 1) := by decide +kernel
theorem dX4_tell_11 : decode cX4_tell 11 = .ok (.getfield 65, 3) := by decide +kernel
theorem dX4_tell_14 : decode cX4_tell 14 = .ok (.aload_n 0, 1) := by decide +kernel
theorem dX4_tell_15 : decode cX4_tell 15 = .ok (.getfield 164, 3) := by decide +kernel
theorem dX4_tell_18 : decode cX4_tell 18 = .ok (.iload_n 2, 1) := by decide +kernel
theorem dX4_tell_19 : decode cX4_tell 19 = .ok (.iastore, 1) := by decide +kernel
theorem dX4_tell_20 : decode cX4_tell 20 = .ok (.aload_n 0, 1) := by decide +kernel
theorem dX4_tell_21 : decode cX4_tell 21 = .ok (.getfield 68, 3) := by decide +kernel
theorem dX4_tell_24 : decode cX4_tell 24 = .ok (.aload_n 0, 1) := by decide +kernel
theorem dX4_tell_25 : decode cX4_tell 25 = .ok (.getfield 164, 3) := by decide +kernel
theorem dX4_tell_28 : decode cX4_tell 28 = .ok (.iload_n 3, 1) := by decide +kernel
theorem dX4_tell_29 : decode cX4_tell 29 = .ok (.iastore, 1) := by decide +kernel
theorem dX4_tell_30 : decode cX4_tell 30 = .ok (.aload_n 0, 1) := by decide +kernel
theorem dX4_tell_31 : decode cX4_tell 31 = .ok (.getfield 71, 3) := by decide +kernel
theorem dX4_tell_34 : decode cX4_tell 34 = .ok (.aload_n 0, 1) := by decide +kernel
theorem dX4_tell_35 : decode cX4_tell 35 = .ok (.getfield 164, 3) := by decide +kernel
theorem dX4_tell_38 : decode cX4_tell 38 = .ok (.iload 4, 2) := by decide +kernel
theorem dX4_tell_40 : decode cX4_tell 40 = .ok (.iastore, 1) := by decide +kernel
theorem dX4_tell_41 : decode cX4_tell 41 = .ok (.aload_n 0, 1) := by decide +kernel
theorem dX4_tell_42 : decode cX4_tell 42 = .ok (.getfield 74, 3) := by decide +kernel
theorem dX4_tell_45 : decode cX4_tell 45 = .ok (.aload_n 0, 1) := by decide +kernel
theorem dX4_tell_46 : decode cX4_tell 46 = .ok (.getfield 164, 3) := by decide +kernel
theorem dX4_tell_49 : decode cX4_tell 49 = .ok (.iload 5, 2) := by decide +kernel
theorem dX4_tell_51 : decode cX4_tell 51 = .ok (.iastore, 1) := by decide +kernel
theorem dX4_tell_52 : decode cX4_tell 52 = .ok (.aload_n 0, 1) := by decide +kernel
theorem dX4_tell_53 : decode cX4_tell 53 = .ok (.getfield 77, 3) := by decide +kernel
theorem dX4_tell_56 : decode cX4_tell 56 = .ok (.aload_n 0, 1) := by decide +kernel
theorem dX4_tell_57 : decode cX4_tell 57 = .ok (.getfield 164, 3) := by decide +kernel
theorem dX4_tell_60 : decode cX4_tell 60 = .ok (.iload 6, 2) := by decide +kernel
theorem dX4_tell_62 : decode cX4_tell 62 = .ok (.iastore, 1) := by decide +kernel
theorem dX4_tell_63 : decode cX4_tell 63 = .ok (.aload_n 0, 1) := by decide +kernel
theorem dX4_tell_64 : decode cX4_tell 64 = .ok (.getfield 80, 3) := by decide +kernel
theorem dX4_tell_67 : decode cX4_tell 67 = .ok (.aload_n 0, 1) := by decide +kernel
theorem dX4_tell_68 : decode cX4_tell 68 = .ok (.getfield 164, 3) := by decide +kernel
theorem dX4_tell_71 : decode cX4_tell 71 = .ok (.iload 7, 2) := by decide +kernel
theorem dX4_tell_73 : decode cX4_tell 73 = .ok (.iastore, 1) := by decide +kernel
theorem dX4_tell_74 : decode cX4_tell 74 = .ok (.aload_n 0, 1) := by decide +kernel
theorem dX4_tell_75 : decode cX4_tell 75 = .ok (.getfield 83, 3) := by decide +kernel
end
section
theorem dX4_tell_78 : decode cX4_tell 78 = .ok (.aload_n 0, 1) := by decide +kernel
theorem dX4_tell_79 : decode cX4_tell 79 = .ok (.getfield 164, 3) := by decide +kernel
theorem dX4_tell_82 : decode cX4_tell 82 = .ok (.iconst 0, 1) := by decide +kernel
theorem dX4_tell_83 : decode cX4_tell 83 = .ok (.bastore, 1) := by decide +kernel
theorem dX4_tell_84 : decode cX4_tell 84 = .ok (.aload_n 0, 1) := by decide +kernel
theorem dX4_tell_85 : decode cX4_tell 85 = .ok (.getfield 86, 3) := by decide +kernel
theorem dX4_tell_88 : decode cX4_tell 88 = .ok (.aload_n 0, 1) := by decide +kernel
theorem dX4_tell_89 : decode cX4_tell 89 = .ok (.getfield 164, 3) := by decide +kernel
theorem dX4_tell_92 : decode cX4_tell 92 = .ok (.iconst 0, 1) := by decide +kernel
theorem dX4_tell_93 : decode cX4_tell 93 = .ok (.bastore, 1) := by decide +kernel
theorem dX4_tell_94 : decode cX4_tell 94 = .ok (.return_, 1) := by decide +kernel
theorem dX4_put_0 : decode cX4_put 0 = .ok (.aload_n 0, 1) := by decide +kernel
theorem dX4_put_1 : decode cX4_put 1 = .ok (.dup, 1) := by decide +kernel
theorem dX4_put_2 : decode cX4_put 2 = .ok (.getfield 164, 3) := by decide +kernel
theorem dX4_put_5 : decode cX4_put 5 = .ok (.iconst 1, 1) := by decide +kernel
theorem dX4_put_6 : decode cX4_put 6 = .ok (.iadd, 1) := by decide +kernel
theorem dX4_put_7 : decode cX4_put 7 = .ok (.putfield 164, 3) := by decide +kernel
theorem dX4_put_10 : decode cX4_put 10 = .ok (.aload_n 0, 1) := by decide +kernel
theorem dX4_put_11 : decode cX4_put 11 = .ok (.invokevirtual 184, 3) := by decide +kernel
theorem dX4_put_14 : decode cX4_put 14 = .ok (.aload_n 0, 1) := by decide +kernel
theorem dX4_put_15 : decode cX4_put 15 = .ok (.getfield 164, 3) := by decide +kernel
theorem dX4_put_18 : decode cX4_put 18 = .ok (.iconst 1, 1) := by decide +kernel
theorem dX4_put_19 : decode cX4_put 19 = .ok (.isub, 1) := by decide +kernel
theorem dX4_put_20 : decode cX4_put 20 = .ok (.ireturn, 1) := by decide +kernel
theorem dX4_lease_0 : decode cX4_lease 0 = .ok (.iload_n 1, 1) := by decide +kernel
theorem dX4_lease_1 : decode cX4_lease 1 = .ok (.invokestatic 114, 3) := by decide +kernel
theorem dX4_lease_4 : decode cX4_lease 4 = .ok (.ifCond .eq 39, 3) := by decide +kernel
theorem dX4_lease_7 : decode cX4_lease 7 = .ok (.iload_n 2, 1) := by decide +kernel
theorem dX4_lease_8 : decode cX4_lease 8 = .ok (.invokestatic 134, 3) := by decide +kernel
theorem dX4_lease_11 : decode cX4_lease 11 = .ok (.ifCond .eq 32, 3) := by decide +kernel
theorem dX4_lease_14 : decode cX4_lease 14 = .ok (.iload_n 3, 1) := by decide +kernel
theorem dX4_lease_15 : decode cX4_lease 15 = .ok (.invokestatic 134, 3) := by decide +kernel
theorem dX4_lease_18 : decode cX4_lease 18 = .ok (.ifCond .eq 25, 3) := by decide +kernel
theorem dX4_lease_21 : decode cX4_lease 21 = .ok (.iload_n 2, 1) := by decide +kernel
theorem dX4_lease_22 : decode cX4_lease 22 = .ok (.iload_n 3, 1) := by decide +kernel
theorem dX4_lease_23 : decode cX4_lease 23 = .ok (.if_icmp .eq 20, 3) := by decide +kernel
theorem dX4_lease_26 : decode cX4_lease 26 = .ok (.iload 4, 2) := by decide +kernel
theorem dX4_lease_28 : decode cX4_lease 28 = .ok (.i2l, 1) := by decide +kernel
theorem dX4_lease_29 : decode cX4_lease 29 = .ok (.lconst 1, 1) := by decide +kernel
theorem dX4_lease_30 : decode cX4_lease 30 = .ok (.ldc2_w 120, 3) := by decide +kernel
theorem dX4_lease_33 : decode cX4_lease 33 = .ok (.invokestatic 100, 3) := by decide +kernel
theorem dX4_lease_36 : decode cX4_lease 36 = .ok (.ifCond .eq 7, 3) := by decide +kernel
theorem dX4_lease_39 : decode cX4_lease 39 = .ok (.iconst 1, 1) := by decide +kernel
theorem dX4_lease_40 : decode cX4_lease 40 = .ok (.goto 4, 3) := by decide +kernel
theorem dX4_lease_43 : decode cX4_lease 43 = .ok (.iconst 0, 1) := by decide +kernel
theorem dX4_lease_44 : decode cX4_lease 44 = .ok (.istore 5, 2) := by decide +kernel
theorem dX4_lease_46 : decode cX4_lease 46 = .ok (.iload 5, 2) := by decide +kernel
theorem dX4_lease_48 : decode cX4_lease 48 = .ok (.ifCond .eq 42, 3) := by decide +kernel
theorem dX4_lease_51 : decode cX4_lease 51 = .ok (.aload_n 0, 1) := by decide +kernel
theorem dX4_lease_52 : decode cX4_lease 52 = .ok (.getfield 173, 3) := by decide +kernel
theorem dX4_lease_55 : decode cX4_lease 55 = .ok (.ifCond .eq 35, 3) := by decide +kernel
theorem dX4_lease_58 : decode cX4_lease 58 = .ok (.aload_n 0, 1) := by decide +kernel
theorem dX4_lease_59 : decode cX4_lease 59 = .ok (.getfield 164, 3) := by decide +kernel
theorem dX4_lease_62 : decode cX4_lease 62 = .ok (.sipush 200, 3) := by decide +kernel
theorem dX4_lease_65 : decode cX4_lease 65 = .ok (.if_icmp .ge 25, 3) := by decide +kernel
theorem dX4_lease_68 : decode cX4_lease 68 = .ok (.aload_n 0, 1) := by decide +kernel
theorem dX4_lease_69 : decode cX4_lease 69 = .ok (.aload_n 0, 1) := by decide +kernel
theorem dX4_lease_70 : decode cX4_lease 70 = .ok (.getfield 141, 3) := by decide +kernel
theorem dX4_lease_73 : decode cX4_lease 73 = .ok (.iload_n 2, 1) := by decide +kernel
theorem dX4_lease_74 : decode cX4_lease 74 = .ok (.iload_n 1, 1) := by decide +kernel
theorem dX4_lease_75 : decode cX4_lease 75 = .ok (.invokestatic 147, 3) := by decide +kernel
theorem dX4_lease_78 : decode cX4_lease 78 = .ok (.invokevirtual 153, 3) := by decide +kernel
theorem dX4_lease_81 : decode cX4_lease 81 = .ok (.iload 4, 2) := by decide +kernel
theorem dX4_lease_83 : decode cX4_lease 83 = .ok (.if_icmp .lt 7, 3) := by decide +kernel
theorem dX4_lease_86 : decode cX4_lease 86 = .ok (.iconst 1, 1) := by decide +kernel
theorem dX4_lease_87 : decode cX4_lease 87 = .ok (.goto 4, 3) := by decide +kernel
theorem dX4_lease_90 : decode cX4_lease 90 = .ok (.iconst 0, 1) := by decide +kernel
theorem dX4_lease_91 : decode cX4_lease 91 = .ok (.istore 6, 2) := by decide +kernel
theorem dX4_lease_93 : decode cX4_lease 93 = .ok (.aload_n 0, 1) := by decide +kernel
theorem dX4_lease_94 : decode cX4_lease 94 = .ok (.iload 5, 2) := by decide +kernel
theorem dX4_lease_96 : decode cX4_lease 96 = .ok (.ifCond .ne 7, 3) := by decide +kernel
theorem dX4_lease_99 : decode cX4_lease 99 = .ok (.iconst 1, 1) := by decide +kernel
theorem dX4_lease_100 : decode cX4_lease 100 = .ok (.goto 4, 3) := by decide +kernel
theorem dX4_lease_103 : decode cX4_lease 103 = .ok (.iconst 0, 1) := by decide +kernel
theorem dX4_lease_104 : decode cX4_lease 104 = .ok (.iload 6, 2) := by decide +kernel
theorem dX4_lease_106 : decode cX4_lease 106 = .ok (.ifCond .ne 7, 3) := by decide +kernel
theorem dX4_lease_109 : decode cX4_lease 109 = .ok (.iconst 1, 1) := by decide +kernel
theorem dX4_lease_110 : decode cX4_lease 110 = .ok (.goto 4, 3) := by decide +kernel
theorem dX4_lease_113 : decode cX4_lease 113 = .ok (.iconst 0, 1) := by decide +kernel
theorem dX4_lease_114 : decode cX4_lease 114 = .ok (.invokevirtual 126, 3) := by decide +kernel
theorem dX4_lease_117 : decode cX4_lease 117 = .ok (.ifCond .eq 5, 3) := by decide +kernel
theorem dX4_lease_120 : decode cX4_lease 120 = .ok (.iconst 0, 1) := by decide +kernel
theorem dX4_lease_121 : decode cX4_lease 121 = .ok (.ireturn, 1) := by decide +kernel
theorem dX4_lease_122 : decode cX4_lease 122 = .ok (.aload_n 0, 1) := by decide +kernel
theorem dX4_lease_123 : decode cX4_lease 123 = .ok (.iconst 0, 1) := by decide +kernel
theorem dX4_lease_124 : decode cX4_lease 124 = .ok (.aload_n 0, 1) := by decide +kernel
theorem dX4_lease_125 : decode cX4_lease 125 = .ok (.getfield 141, 3) := by decide +kernel
theorem dX4_lease_128 : decode cX4_lease 128 = .ok (.iload_n 2, 1) := by decide +kernel
theorem dX4_lease_129 : decode cX4_lease 129 = .ok (.iload_n 1, 1) := by decide +kernel
theorem dX4_lease_130 : decode cX4_lease 130 = .ok (.iload_n 3, 1) := by decide +kernel
theorem dX4_lease_131 : decode cX4_lease 131 = .ok (.iload 4, 2) := by decide +kernel
theorem dX4_lease_133 : decode cX4_lease 133 = .ok (.iload 4, 2) := by decide +kernel
theorem dX4_lease_135 : decode cX4_lease 135 = .ok (.invokevirtual 187, 3) := by decide +kernel
theorem dX4_lease_138 : decode cX4_lease 138 = .ok (.aload_n 0, 1) := by decide +kernel
theorem dX4_lease_139 : decode cX4_lease 139 = .ok (.invokevirtual 191, 3) := by decide +kernel
theorem dX4_lease_142 : decode cX4_lease 142 = .ok (.ireturn, 1) := by decide +kernel
theorem dX4_wasYear_0 : decode cX4_wasYear 0 = .ok (.iload_n 1, 1) := by decide +kernel
theorem dX4_wasYear_1 : decode cX4_wasYear 1 = .ok (.i2l, 1) := by decide +kernel
theorem dX4_wasYear_2 : decode cX4_wasYear 2 = .ok (.lconst 1, 1) := by decide +kernel
theorem dX4_wasYear_3 : decode cX4_wasYear 3 = .ok (.aload_n 0, 1) := by decide +kernel
theorem dX4_wasYear_4 : decode cX4_wasYear 4 = .ok (.getfield 141, 3) := by decide +kernel
theorem dX4_wasYear_7 : decode cX4_wasYear 7 = .ok (.i2l, 1) := by decide +kernel
theorem dX4_wasYear_8 : decode cX4_wasYear 8 = .ok (.invokestatic 100, 3) := by decide +kernel
theorem dX4_wasYear_11 : decode cX4_wasYear 11 = .ok (.ireturn, 1) := by decide +kernel
theorem dX4_takes_0 : decode cX4_takes 0 = .ok (.aload_n 0, 1) := by decide +kernel
theorem dX4_takes_1 : decode cX4_takes 1 = .ok (.getfield 35, 3) := by decide +kernel
theorem dX4_takes_4 : decode cX4_takes 4 = .ok (.iload_n 1, 1) := by decide +kernel
theorem dX4_takes_5 : decode cX4_takes 5 = .ok (.baload, 1) := by decide +kernel
theorem dX4_takes_6 : decode cX4_takes 6 = .ok (.ifCond .ne 18, 3) := by decide +kernel
theorem dX4_takes_9 : decode cX4_takes 9 = .ok (.aload_n 0, 1) := by decide +kernel
theorem dX4_takes_10 : decode cX4_takes 10 = .ok (.getfield 173, 3) := by decide +kernel
theorem dX4_takes_13 : decode cX4_takes 13 = .ok (.ifCond .eq 15, 3) := by decide +kernel
theorem dX4_takes_16 : decode cX4_takes 16 = .ok (.iload_n 1, 1) := by decide +kernel
theorem dX4_takes_17 : decode cX4_takes 17 = .ok (.aload_n 0, 1) := by decide +kernel
theorem dX4_takes_18 : decode cX4_takes 18 = .ok (.getfield 141, 3) := by decide +kernel
theorem dX4_takes_21 : decode cX4_takes 21 = .ok (.if_icmp .ne 7, 3) := by decide +kernel
theorem dX4_takes_24 : decode cX4_takes 24 = .ok (.iconst 1, 1) := by decide +kernel
theorem dX4_takes_25 : decode cX4_takes 25 = .ok (.goto 4, 3) := by decide +kernel
theorem dX4_takes_28 : decode cX4_takes 28 = .ok (.iconst 0, 1) := by decide +kernel
theorem dX4_takes_29 : decode cX4_takes 29 = .ok (.ireturn, 1) := by decide +kernel
theorem dX4_land_0 : decode cX4_land 0 = .ok (.aload_n 0, 1) := by decide +kernel
theorem dX4_land_1 : decode cX4_land 1 = .ok (.iload_n 1, 1) := by decide +kernel
theorem dX4_land_2 : decode cX4_land 2 = .ok (.invokevirtual 195, 3) := by decide +kernel
theorem dX4_land_5 : decode cX4_land 5 = .ok (.ifCond .eq 47, 3) := by decide +kernel
theorem dX4_land_8 : decode cX4_land 8 = .ok (.iload_n 2, 1) := by decide +kernel
theorem dX4_land_9 : decode cX4_land 9 = .ok (.invokestatic 134, 3) := by decide +kernel
theorem dX4_land_12 : decode cX4_land 12 = .ok (.ifCond .eq 40, 3) := by decide +kernel
theorem dX4_land_15 : decode cX4_land 15 = .ok (.iload_n 3, 1) := by decide +kernel
theorem dX4_land_16 : decode cX4_land 16 = .ok (.invokestatic 114, 3) := by decide +kernel
theorem dX4_land_19 : decode cX4_land 19 = .ok (.ifCond .eq 33, 3) := by decide +kernel
theorem dX4_land_22 : decode cX4_land 22 = .ok (.iload 4, 2) := by decide +kernel
theorem dX4_land_24 : decode cX4_land 24 = .ok (.i2l, 1) := by decide +kernel
theorem dX4_land_25 : decode cX4_land 25 = .ok (.lconst 0, 1) := by decide +kernel
theorem dX4_land_26 : decode cX4_land 26 = .ok (.ldc2_w 130, 3) := by decide +kernel
theorem dX4_land_29 : decode cX4_land 29 = .ok (.invokestatic 100, 3) := by decide +kernel
theorem dX4_land_32 : decode cX4_land 32 = .ok (.ifCond .eq 20, 3) := by decide +kernel
theorem dX4_land_35 : decode cX4_land 35 = .ok (.iload 5, 2) := by decide +kernel
theorem dX4_land_37 : decode cX4_land 37 = .ok (.i2l, 1) := by decide +kernel
theorem dX4_land_38 : decode cX4_land 38 = .ok (.lconst 1, 1) := by decide +kernel
theorem dX4_land_39 : decode cX4_land 39 = .ok (.ldc2_w 120, 3) := by decide +kernel
theorem dX4_land_42 : decode cX4_land 42 = .ok (.invokestatic 100, 3) := by decide +kernel
theorem dX4_land_45 : decode cX4_land 45 = .ok (.ifCond .eq 7, 3) := by decide +kernel
theorem dX4_land_48 : decode cX4_land 48 = .ok (.iconst 1, 1) := by decide +kernel
theorem dX4_land_49 : decode cX4_land 49 = .ok (.goto 4, 3) := by decide +kernel
theorem dX4_land_52 : decode cX4_land 52 = .ok (.iconst 0, 1) := by decide +kernel
theorem dX4_land_53 : decode cX4_land 53 = .ok (.istore 7, 2) := by decide +kernel
theorem dX4_land_55 : decode cX4_land 55 = .ok (.iload 7, 2) := by decide +kernel
theorem dX4_land_57 : decode cX4_land 57 = .ok (.ifCond .eq 21, 3) := by decide +kernel
theorem dX4_land_60 : decode cX4_land 60 = .ok (.aload_n 0, 1) := by decide +kernel
theorem dX4_land_61 : decode cX4_land 61 = .ok (.getfield 16, 3) := by decide +kernel
theorem dX4_land_64 : decode cX4_land 64 = .ok (.iconst 3, 1) := by decide +kernel
theorem dX4_land_65 : decode cX4_land 65 = .ok (.iload_n 3, 1) := by decide +kernel
theorem dX4_land_66 : decode cX4_land 66 = .ok (.imul, 1) := by decide +kernel
theorem dX4_land_67 : decode cX4_land 67 = .ok (.iload 4, 2) := by decide +kernel
theorem dX4_land_69 : decode cX4_land 69 = .ok (.iadd, 1) := by decide +kernel
theorem dX4_land_70 : decode cX4_land 70 = .ok (.iaload, 1) := by decide +kernel
theorem dX4_land_71 : decode cX4_land 71 = .ok (.ifCond .le 7, 3) := by decide +kernel
theorem dX4_land_74 : decode cX4_land 74 = .ok (.iconst 1, 1) := by decide +kernel
theorem dX4_land_75 : decode cX4_land 75 = .ok (.goto 4, 3) := by decide +kernel
theorem dX4_land_78 : decode cX4_land 78 = .ok (.iconst 0, 1) := by decide +kernel
theorem dX4_land_79 : decode cX4_land 79 = .ok (.istore 7, 2) := by decide +kernel
theorem dX4_land_81 : decode cX4_land 81 = .ok (.aload_n 0, 1) := by decide +kernel
theorem dX4_land_82 : decode cX4_land 82 = .ok (.iload 7, 2) := by decide +kernel
theorem dX4_land_84 : decode cX4_land 84 = .ok (.ifCond .ne 7, 3) := by decide +kernel
theorem dX4_land_87 : decode cX4_land 87 = .ok (.iconst 1, 1) := by decide +kernel
theorem dX4_land_88 : decode cX4_land 88 = .ok (.goto 4, 3) := by decide +kernel
theorem dX4_land_91 : decode cX4_land 91 = .ok (.iconst 0, 1) := by decide +kernel
theorem dX4_land_92 : decode cX4_land 92 = .ok (.iload 7, 2) := by decide +kernel
theorem dX4_land_94 : decode cX4_land 94 = .ok (.ifCond .eq 25, 3) := by decide +kernel
theorem dX4_land_97 : decode cX4_land 97 = .ok (.aload_n 0, 1) := by decide +kernel
theorem dX4_land_98 : decode cX4_land 98 = .ok (.iload_n 1, 1) := by decide +kernel
theorem dX4_land_99 : decode cX4_land 99 = .ok (.invokevirtual 198, 3) := by decide +kernel
theorem dX4_land_102 : decode cX4_land 102 = .ok (.ifCond .eq 13, 3) := by decide +kernel
theorem dX4_land_105 : decode cX4_land 105 = .ok (.aload_n 0, 1) := by decide +kernel
theorem dX4_land_106 : decode cX4_land 106 = .ok (.getfield 164, 3) := by decide +kernel
theorem dX4_land_109 : decode cX4_land 109 = .ok (.sipush 200, 3) := by decide +kernel
theorem dX4_land_112 : decode cX4_land 112 = .ok (.if_icmp .ne 7, 3) := by decide +kernel
theorem dX4_land_115 : decode cX4_land 115 = .ok (.iconst 1, 1) := by decide +kernel
theorem dX4_land_116 : decode cX4_land 116 = .ok (.goto 4, 3) := by decide +kernel
theorem dX4_land_119 : decode cX4_land 119 = .ok (.iconst 0, 1) := by decide +kernel
theorem dX4_land_120 : decode cX4_land 120 = .ok (.invokevirtual 126, 3) := by decide +kernel
theorem dX4_land_123 : decode cX4_land 123 = .ok (.ifCond .eq 5, 3) := by decide +kernel
theorem dX4_land_126 : decode cX4_land 126 = .ok (.iconst 0, 1) := by decide +kernel
theorem dX4_land_127 : decode cX4_land 127 = .ok (.ireturn, 1) := by decide +kernel
theorem dX4_land_128 : decode cX4_land 128 = .ok (.iload 5, 2) := by decide +kernel
theorem dX4_land_130 : decode cX4_land 130 = .ok (.i2l, 1) := by decide +kernel
theorem dX4_land_131 : decode cX4_land 131 = .ok (.aload_n 0, 1) := by decide +kernel
theorem dX4_land_132 : decode cX4_land 132 = .ok (.getfield 16, 3) := by decide +kernel
theorem dX4_land_135 : decode cX4_land 135 = .ok (.iconst 3, 1) := by decide +kernel
theorem dX4_land_136 : decode cX4_land 136 = .ok (.iload_n 3, 1) := by decide +kernel
theorem dX4_land_137 : decode cX4_land 137 = .ok (.imul, 1) := by decide +kernel
theorem dX4_land_138 : decode cX4_land 138 = .ok (.iload 4, 2) := by decide +kernel
theorem dX4_land_140 : decode cX4_land 140 = .ok (.iadd, 1) := by decide +kernel
theorem dX4_land_141 : decode cX4_land 141 = .ok (.iaload, 1) := by decide +kernel
theorem dX4_land_142 : decode cX4_land 142 = .ok (.i2l, 1) := by decide +kernel
theorem dX4_land_143 : decode cX4_land 143 = .ok (.lmul, 1) := by decide +kernel
theorem dX4_land_144 : decode cX4_land 144 = .ok (.ldc2_w 201, 3) := by decide +kernel
theorem dX4_land_147 : decode cX4_land 147 = .ok (.ladd, 1) := by decide +kernel
theorem dX4_land_148 : decode cX4_land 148 = .ok (.ldc2_w 118, 3) := by decide +kernel
theorem dX4_land_151 : decode cX4_land 151 = .ok (.ldiv, 1) := by decide +kernel
theorem dX4_land_152 : decode cX4_land 152 = .ok (.lstore 8, 2) := by decide +kernel
theorem dX4_land_154 : decode cX4_land 154 = .ok (.iload 6, 2) := by decide +kernel
theorem dX4_land_156 : decode cX4_land 156 = .ok (.ifCond .eq 14, 3) := by decide +kernel
theorem dX4_land_159 : decode cX4_land 159 = .ok (.lload 8, 2) := by decide +kernel
theorem dX4_land_161 : decode cX4_land 161 = .ok (.lconst 1, 1) := by decide +kernel
theorem dX4_land_162 : decode cX4_land 162 = .ok (.ladd, 1) := by decide +kernel
theorem dX4_land_163 : decode cX4_land 163 = .ok (.ldc2_w 130, 3) := by decide +kernel
theorem dX4_land_166 : decode cX4_land 166 = .ok (.ldiv, 1) := by decide +kernel
theorem dX4_land_167 : decode cX4_land 167 = .ok (.goto 5, 3) := by decide +kernel
theorem dX4_land_170 : decode cX4_land 170 = .ok (.lload 8, 2) := by decide +kernel
theorem dX4_land_172 : decode cX4_land 172 = .ok (.lstore 10, 2) := by decide +kernel
theorem dX4_land_174 : decode cX4_land 174 = .ok (.aload_n 0, 1) := by decide +kernel
theorem dX4_land_175 : decode cX4_land 175 = .ok (.iconst 1, 1) := by decide +kernel
theorem dX4_land_176 : decode cX4_land 176 = .ok (.iload_n 1, 1) := by decide +kernel
theorem dX4_land_177 : decode cX4_land 177 = .ok (.iload_n 2, 1) := by decide +kernel
theorem dX4_land_178 : decode cX4_land 178 = .ok (.iload_n 3, 1) := by decide +kernel
theorem dX4_land_179 : decode cX4_land 179 = .ok (.iconst 0, 1) := by decide +kernel
theorem dX4_land_180 : decode cX4_land 180 = .ok (.iload 5, 2) := by decide +kernel
theorem dX4_land_182 : decode cX4_land 182 = .ok (.lload 10, 2) := by decide +kernel
theorem dX4_land_184 : decode cX4_land 184 = .ok (.l2i, 1) := by decide +kernel
theorem dX4_land_185 : decode cX4_land 185 = .ok (.invokevirtual 187, 3) := by decide +kernel
theorem dX4_land_188 : decode cX4_land 188 = .ok (.aload_n 0, 1) := by decide +kernel
theorem dX4_land_189 : decode cX4_land 189 = .ok (.invokevirtual 191, 3) := by decide +kernel
theorem dX4_land_192 : decode cX4_land 192 = .ok (.ireturn, 1) := by decide +kernel
theorem dX4_equivalent_0 : decode cX4_equivalent 0 = .ok (.iload_n 1, 1) := by decide +kernel
theorem dX4_equivalent_1 : decode cX4_equivalent 1 = .ok (.invokestatic 134, 3) := by decide +kernel
theorem dX4_equivalent_4 : decode cX4_equivalent 4 = .ok (.ifCond .eq 39, 3) := by decide +kernel
theorem dX4_equivalent_7 : decode cX4_equivalent 7 = .ok (.iload_n 2, 1) := by decide +kernel
theorem dX4_equivalent_8 : decode cX4_equivalent 8 = .ok (.invokestatic 114, 3) := by decide +kernel
theorem dX4_equivalent_11 : decode cX4_equivalent 11 = .ok (.ifCond .eq 32, 3) := by decide +kernel
theorem dX4_equivalent_14 : decode cX4_equivalent 14 = .ok (.iload_n 3, 1) := by decide +kernel
theorem dX4_equivalent_15 : decode cX4_equivalent 15 = .ok (.invokestatic 114, 3) := by decide +kernel
theorem dX4_equivalent_18 : decode cX4_equivalent 18 = .ok (.ifCond .eq 25, 3) := by decide +kernel
theorem dX4_equivalent_21 : decode cX4_equivalent 21 = .ok (.iload_n 2, 1) := by decide +kernel
theorem dX4_equivalent_22 : decode cX4_equivalent 22 = .ok (.iload_n 3, 1) := by decide +kernel
theorem dX4_equivalent_23 : decode cX4_equivalent 23 = .ok (.if_icmp .eq 20, 3) := by decide +kernel
theorem dX4_equivalent_26 : decode cX4_equivalent 26 = .ok (.iload 4, 2) := by decide +kernel
theorem dX4_equivalent_28 : decode cX4_equivalent 28 = .ok (.i2l, 1) := by decide +kernel
theorem dX4_equivalent_29 : decode cX4_equivalent 29 = .ok (.lconst 1, 1) := by decide +kernel
theorem dX4_equivalent_30 : decode cX4_equivalent 30 = .ok (.ldc2_w 118, 3) := by decide +kernel
theorem dX4_equivalent_33 : decode cX4_equivalent 33 = .ok (.invokestatic 100, 3) := by decide +kernel
theorem dX4_equivalent_36 : decode cX4_equivalent 36 = .ok (.ifCond .eq 7, 3) := by decide +kernel
theorem dX4_equivalent_39 : decode cX4_equivalent 39 = .ok (.iconst 1, 1) := by decide +kernel
theorem dX4_equivalent_40 : decode cX4_equivalent 40 = .ok (.goto 4, 3) := by decide +kernel
theorem dX4_equivalent_43 : decode cX4_equivalent 43 = .ok (.iconst 0, 1) := by decide +kernel
theorem dX4_equivalent_44 : decode cX4_equivalent 44 = .ok (.istore 5, 2) := by decide +kernel
theorem dX4_equivalent_46 : decode cX4_equivalent 46 = .ok (.iload 5, 2) := by decide +kernel
theorem dX4_equivalent_48 : decode cX4_equivalent 48 = .ok (.ifCond .eq 24, 3) := by decide +kernel
theorem dX4_equivalent_51 : decode cX4_equivalent 51 = .ok (.aload_n 0, 1) := by decide +kernel
theorem dX4_equivalent_52 : decode cX4_equivalent 52 = .ok (.getfield 173, 3) := by decide +kernel
theorem dX4_equivalent_55 : decode cX4_equivalent 55 = .ok (.ifCond .eq 17, 3) := by decide +kernel
theorem dX4_equivalent_58 : decode cX4_equivalent 58 = .ok (.aload_n 0, 1) := by decide +kernel
theorem dX4_equivalent_59 : decode cX4_equivalent 59 = .ok (.getfield 164, 3) := by decide +kernel
theorem dX4_equivalent_62 : decode cX4_equivalent 62 = .ok (.sipush 200, 3) := by decide +kernel
theorem dX4_equivalent_65 : decode cX4_equivalent 65 = .ok (.if_icmp .ge 7, 3) := by decide +kernel
theorem dX4_equivalent_68 : decode cX4_equivalent 68 = .ok (.iconst 1, 1) := by decide +kernel
theorem dX4_equivalent_69 : decode cX4_equivalent 69 = .ok (.goto 4, 3) := by decide +kernel
theorem dX4_equivalent_72 : decode cX4_equivalent 72 = .ok (.iconst 0, 1) := by decide +kernel
theorem dX4_equivalent_73 : decode cX4_equivalent 73 = .ok (.istore 6, 2) := by decide +kernel
theorem dX4_equivalent_75 : decode cX4_equivalent 75 = .ok (.iload 6, 2) := by decide +kernel
theorem dX4_equivalent_77 : decode cX4_equivalent 77 = .ok (.ifCond .eq 52, 3) := by decide +kernel
theorem dX4_equivalent_80 : decode cX4_equivalent 80 = .ok (.aload_n 0, 1) := by decide +kernel
theorem dX4_equivalent_81 : decode cX4_equivalent 81 = .ok (.iconst 2, 1) := by decide +kernel
theorem dX4_equivalent_82 : decode cX4_equivalent 82 = .ok (.aload_n 0, 1) := by decide +kernel
theorem dX4_equivalent_83 : decode cX4_equivalent 83 = .ok (.getfield 141, 3) := by decide +kernel
theorem dX4_equivalent_86 : decode cX4_equivalent 86 = .ok (.iload_n 1, 1) := by decide +kernel
theorem dX4_equivalent_87 : decode cX4_equivalent 87 = .ok (.iload_n 2, 1) := by decide +kernel
theorem dX4_equivalent_88 : decode cX4_equivalent 88 = .ok (.iload_n 3, 1) := by decide +kernel
theorem dX4_equivalent_89 : decode cX4_equivalent 89 = .ok (.iload 4, 2) := by decide +kernel
theorem dX4_equivalent_91 : decode cX4_equivalent 91 = .ok (.iload 4, 2) := by decide +kernel
theorem dX4_equivalent_93 : decode cX4_equivalent 93 = .ok (.aload_n 0, 1) := by decide +kernel
theorem dX4_equivalent_94 : decode cX4_equivalent 94 = .ok (.getfield 7, 3) := by decide +kernel
theorem dX4_equivalent_97 : decode cX4_equivalent 97 = .ok (.iload_n 2, 1) := by decide +kernel
theorem dX4_equivalent_98 : decode cX4_equivalent 98 = .ok (.iaload, 1) := by decide +kernel
theorem dX4_equivalent_99 : decode cX4_equivalent 99 = .ok (.imul, 1) := by decide +kernel
theorem dX4_equivalent_100 : decode cX4_equivalent 100 = .ok (.aload_n 0, 1) := by decide +kernel
theorem dX4_equivalent_101 : decode cX4_equivalent 101 = .ok (.getfield 7, 3) := by decide +kernel
theorem dX4_equivalent_104 : decode cX4_equivalent 104 = .ok (.iload_n 3, 1) := by decide +kernel
theorem dX4_equivalent_105 : decode cX4_equivalent 105 = .ok (.iaload, 1) := by decide +kernel
theorem dX4_equivalent_106 : decode cX4_equivalent 106 = .ok (.iadd, 1) := by decide +kernel
theorem dX4_equivalent_107 : decode cX4_equivalent 107 = .ok (.iconst 1, 1) := by decide +kernel
theorem dX4_equivalent_108 : decode cX4_equivalent 108 = .ok (.isub, 1) := by decide +kernel
theorem dX4_equivalent_109 : decode cX4_equivalent 109 = .ok (.aload_n 0, 1) := by decide +kernel
theorem dX4_equivalent_110 : decode cX4_equivalent 110 = .ok (.getfield 7, 3) := by decide +kernel
theorem dX4_equivalent_113 : decode cX4_equivalent 113 = .ok (.iload_n 3, 1) := by decide +kernel
theorem dX4_equivalent_114 : decode cX4_equivalent 114 = .ok (.iaload, 1) := by decide +kernel
theorem dX4_equivalent_115 : decode cX4_equivalent 115 = .ok (.idiv, 1) := by decide +kernel
theorem dX4_equivalent_116 : decode cX4_equivalent 116 = .ok (.invokevirtual 187, 3) := by decide +kernel
theorem dX4_equivalent_119 : decode cX4_equivalent 119 = .ok (.aload_n 0, 1) := by decide +kernel
theorem dX4_equivalent_120 : decode cX4_equivalent 120 = .ok (.aload_n 0, 1) := by decide +kernel
theorem dX4_equivalent_121 : decode cX4_equivalent 121 = .ok (.getfield 164, 3) := by decide +kernel
theorem dX4_equivalent_124 : decode cX4_equivalent 124 = .ok (.invokevirtual 167, 3) := by decide +kernel
theorem dX4_equivalent_127 : decode cX4_equivalent 127 = .ok (.istore 6, 2) := by decide +kernel
theorem dX4_equivalent_129 : decode cX4_equivalent 129 = .ok (.aload_n 0, 1) := by decide +kernel
theorem dX4_equivalent_130 : decode cX4_equivalent 130 = .ok (.iload 5, 2) := by decide +kernel
theorem dX4_equivalent_132 : decode cX4_equivalent 132 = .ok (.ifCond .ne 7, 3) := by decide +kernel
theorem dX4_equivalent_135 : decode cX4_equivalent 135 = .ok (.iconst 1, 1) := by decide +kernel
theorem dX4_equivalent_136 : decode cX4_equivalent 136 = .ok (.goto 4, 3) := by decide +kernel
theorem dX4_equivalent_139 : decode cX4_equivalent 139 = .ok (.iconst 0, 1) := by decide +kernel
theorem dX4_equivalent_140 : decode cX4_equivalent 140 = .ok (.iload 6, 2) := by decide +kernel
theorem dX4_equivalent_142 : decode cX4_equivalent 142 = .ok (.ifCond .ne 7, 3) := by decide +kernel
theorem dX4_equivalent_145 : decode cX4_equivalent 145 = .ok (.iconst 1, 1) := by decide +kernel
theorem dX4_equivalent_146 : decode cX4_equivalent 146 = .ok (.goto 4, 3) := by decide +kernel
theorem dX4_equivalent_149 : decode cX4_equivalent 149 = .ok (.iconst 0, 1) := by decide +kernel
theorem dX4_equivalent_150 : decode cX4_equivalent 150 = .ok (.invokevirtual 126, 3) := by decide +kernel
theorem dX4_equivalent_153 : decode cX4_equivalent 153 = .ok (.ifCond .eq 5, 3) := by decide +kernel
theorem dX4_equivalent_156 : decode cX4_equivalent 156 = .ok (.iconst 0, 1) := by decide +kernel
theorem dX4_equivalent_157 : decode cX4_equivalent 157 = .ok (.ireturn, 1) := by decide +kernel
theorem dX4_equivalent_158 : decode cX4_equivalent 158 = .ok (.aload_n 0, 1) := by decide +kernel
theorem dX4_equivalent_159 : decode cX4_equivalent 159 = .ok (.invokevirtual 191, 3) := by decide +kernel
theorem dX4_equivalent_162 : decode cX4_equivalent 162 = .ok (.ireturn, 1) := by decide +kernel
theorem dX4_strike_0 : decode cX4_strike 0 = .ok (.iload_n 1, 1) := by decide +kernel
theorem dX4_strike_1 : decode cX4_strike 1 = .ok (.i2l, 1) := by decide +kernel
theorem dX4_strike_2 : decode cX4_strike 2 = .ok (.lconst 0, 1) := by decide +kernel
theorem dX4_strike_3 : decode cX4_strike 3 = .ok (.aload_n 0, 1) := by decide +kernel
theorem dX4_strike_4 : decode cX4_strike 4 = .ok (.getfield 164, 3) := by decide +kernel
theorem dX4_strike_7 : decode cX4_strike 7 = .ok (.iconst 1, 1) := by decide +kernel
theorem dX4_strike_8 : decode cX4_strike 8 = .ok (.isub, 1) := by decide +kernel
theorem dX4_strike_9 : decode cX4_strike 9 = .ok (.i2l, 1) := by decide +kernel
theorem dX4_strike_10 : decode cX4_strike 10 = .ok (.invokestatic 100, 3) := by decide +kernel
theorem dX4_strike_13 : decode cX4_strike 13 = .ok (.istore_n 2, 1) := by decide +kernel
theorem dX4_strike_14 : decode cX4_strike 14 = .ok (.iload_n 2, 1) := by decide +kernel
theorem dX4_strike_15 : decode cX4_strike 15 = .ok (.ifCond .eq 39, 3) := by decide +kernel
theorem dX4_strike_18 : decode cX4_strike 18 = .ok (.aload_n 0, 1) := by decide +kernel
theorem dX4_strike_19 : decode cX4_strike 19 = .ok (.getfield 62, 3) := by decide +kernel
theorem dX4_strike_22 : decode cX4_strike 22 = .ok (.iload_n 1, 1) := by decide +kernel
theorem dX4_strike_23 : decode cX4_strike 23 = .ok (.iaload, 1) := by decide +kernel
theorem dX4_strike_24 : decode cX4_strike 24 = .ok (.iconst 1, 1) := by decide +kernel
theorem dX4_strike_25 : decode cX4_strike 25 = .ok (.if_icmp .ne 29, 3) := by decide +kernel
theorem dX4_strike_28 : decode cX4_strike 28 = .ok (.aload_n 0, 1) := by decide +kernel
theorem dX4_strike_29 : decode cX4_strike 29 = .ok (.getfield 83, 3) := by decide +kernel
theorem dX4_strike_32 : decode cX4_strike 32 = .ok (.iload_n 1, 1) := by decide +kernel
theorem dX4_strike_33 : decode cX4_strike 33 = .ok (.baload, 1) := by decide +kernel
theorem dX4_strike_34 : decode cX4_strike 34 = .ok (.ifCond .ne 20, 3) := by decide +kernel
theorem dX4_strike_37 : decode cX4_strike 37 = .ok (.aload_n 0, 1) := by decide +kernel
theorem dX4_strike_38 : decode cX4_strike 38 = .ok (.aload_n 0, 1) := by decide +kernel
theorem dX4_strike_39 : decode cX4_strike 39 = .ok (.getfield 65, 3) := by decide +kernel
theorem dX4_strike_42 : decode cX4_strike 42 = .ok (.iload_n 1, 1) := by decide +kernel
theorem dX4_strike_43 : decode cX4_strike 43 = .ok (.iaload, 1) := by decide +kernel
theorem dX4_strike_44 : decode cX4_strike 44 = .ok (.invokevirtual 198, 3) := by decide +kernel
theorem dX4_strike_47 : decode cX4_strike 47 = .ok (.ifCond .eq 7, 3) := by decide +kernel
theorem dX4_strike_50 : decode cX4_strike 50 = .ok (.iconst 1, 1) := by decide +kernel
theorem dX4_strike_51 : decode cX4_strike 51 = .ok (.goto 4, 3) := by decide +kernel
theorem dX4_strike_54 : decode cX4_strike 54 = .ok (.iconst 0, 1) := by decide +kernel
theorem dX4_strike_55 : decode cX4_strike 55 = .ok (.istore_n 3, 1) := by decide +kernel
theorem dX4_strike_56 : decode cX4_strike 56 = .ok (.aload_n 0, 1) := by decide +kernel
theorem dX4_strike_57 : decode cX4_strike 57 = .ok (.iload_n 2, 1) := by decide +kernel
theorem dX4_strike_58 : decode cX4_strike 58 = .ok (.ifCond .ne 7, 3) := by decide +kernel
theorem dX4_strike_61 : decode cX4_strike 61 = .ok (.iconst 1, 1) := by decide +kernel
theorem dX4_strike_62 : decode cX4_strike 62 = .ok (.goto 4, 3) := by decide +kernel
theorem dX4_strike_65 : decode cX4_strike 65 = .ok (.iconst 0, 1) := by decide +kernel
theorem dX4_strike_66 : decode cX4_strike 66 = .ok (.iload_n 3, 1) := by decide +kernel
theorem dX4_strike_67 : decode cX4_strike 67 = .ok (.ifCond .ne 7, 3) := by decide +kernel
theorem dX4_strike_70 : decode cX4_strike 70 = .ok (.iconst 1, 1) := by decide +kernel
theorem dX4_strike_71 : decode cX4_strike 71 = .ok (.goto 4, 3) := by decide +kernel
theorem dX4_strike_74 : decode cX4_strike 74 = .ok (.iconst 0, 1) := by decide +kernel
theorem dX4_strike_75 : decode cX4_strike 75 = .ok (.invokevirtual 126, 3) := by decide +kernel
theorem dX4_strike_78 : decode cX4_strike 78 = .ok (.ifCond .eq 4, 3) := by decide +kernel
theorem dX4_strike_81 : decode cX4_strike 81 = .ok (.return_, 1) := by decide +kernel
theorem dX4_strike_82 : decode cX4_strike 82 = .ok (.aload_n 0, 1) := by decide +kernel
theorem dX4_strike_83 : decode cX4_strike 83 = .ok (.getfield 83, 3) := by decide +kernel
theorem dX4_strike_86 : decode cX4_strike 86 = .ok (.iload_n 1, 1) := by decide +kernel
theorem dX4_strike_87 : decode cX4_strike 87 = .ok (.iconst 1, 1) := by decide +kernel
theorem dX4_strike_88 : decode cX4_strike 88 = .ok (.bastore, 1) := by decide +kernel
theorem dX4_strike_89 : decode cX4_strike 89 = .ok (.aload_n 0, 1) := by decide +kernel
theorem dX4_strike_90 : decode cX4_strike 90 = .ok (.invokevirtual 184, 3) := by decide +kernel
theorem dX4_strike_93 : decode cX4_strike 93 = .ok (.return_, 1) := by decide +kernel
theorem dX4_reopen_0 : decode cX4_reopen 0 = .ok (.aload_n 0, 1) := by decide +kernel
theorem dX4_reopen_1 : decode cX4_reopen 1 = .ok (.iload_n 1, 1) := by decide +kernel
theorem dX4_reopen_2 : decode cX4_reopen 2 = .ok (.invokevirtual 195, 3) := by decide +kernel
theorem dX4_reopen_5 : decode cX4_reopen 5 = .ok (.istore_n 2, 1) := by decide +kernel
theorem dX4_reopen_6 : decode cX4_reopen 6 = .ok (.aload_n 0, 1) := by decide +kernel
theorem dX4_reopen_7 : decode cX4_reopen 7 = .ok (.iload_n 2, 1) := by decide +kernel
theorem dX4_reopen_8 : decode cX4_reopen 8 = .ok (.ifCond .ne 7, 3) := by decide +kernel
theorem dX4_reopen_11 : decode cX4_reopen 11 = .ok (.iconst 1, 1) := by decide +kernel
theorem dX4_reopen_12 : decode cX4_reopen 12 = .ok (.goto 4, 3) := by decide +kernel
theorem dX4_reopen_15 : decode cX4_reopen 15 = .ok (.iconst 0, 1) := by decide +kernel
theorem dX4_reopen_16 : decode cX4_reopen 16 = .ok (.iload_n 2, 1) := by decide +kernel
theorem dX4_reopen_17 : decode cX4_reopen 17 = .ok (.ifCond .eq 15, 3) := by decide +kernel
theorem dX4_reopen_20 : decode cX4_reopen 20 = .ok (.aload_n 0, 1) := by decide +kernel
theorem dX4_reopen_21 : decode cX4_reopen 21 = .ok (.iload_n 1, 1) := by decide +kernel
theorem dX4_reopen_22 : decode cX4_reopen 22 = .ok (.invokevirtual 198, 3) := by decide +kernel
theorem dX4_reopen_25 : decode cX4_reopen 25 = .ok (.ifCond .eq 7, 3) := by decide +kernel
theorem dX4_reopen_28 : decode cX4_reopen 28 = .ok (.iconst 1, 1) := by decide +kernel
theorem dX4_reopen_29 : decode cX4_reopen 29 = .ok (.goto 4, 3) := by decide +kernel
theorem dX4_reopen_32 : decode cX4_reopen 32 = .ok (.iconst 0, 1) := by decide +kernel
theorem dX4_reopen_33 : decode cX4_reopen 33 = .ok (.invokevirtual 126, 3) := by decide +kernel
theorem dX4_reopen_36 : decode cX4_reopen 36 = .ok (.ifCond .eq 4, 3) := by decide +kernel
theorem dX4_reopen_39 : decode cX4_reopen 39 = .ok (.return_, 1) := by decide +kernel
theorem dX4_reopen_40 : decode cX4_reopen 40 = .ok (.aload_n 0, 1) := by decide +kernel
theorem dX4_reopen_41 : decode cX4_reopen 41 = .ok (.getfield 35, 3) := by decide +kernel
theorem dX4_reopen_44 : decode cX4_reopen 44 = .ok (.iload_n 1, 1) := by decide +kernel
theorem dX4_reopen_45 : decode cX4_reopen 45 = .ok (.iconst 1, 1) := by decide +kernel
theorem dX4_reopen_46 : decode cX4_reopen 46 = .ok (.bastore, 1) := by decide +kernel
theorem dX4_reopen_47 : decode cX4_reopen 47 = .ok (.return_, 1) := by decide +kernel
theorem dX4_account_0 : decode cX4_account 0 = .ok (.aload_n 0, 1) := by decide +kernel
theorem dX4_account_1 : decode cX4_account 1 = .ok (.aload_n 0, 1) := by decide +kernel
theorem dX4_account_2 : decode cX4_account 2 = .ok (.iload_n 1, 1) := by decide +kernel
theorem dX4_account_3 : decode cX4_account 3 = .ok (.invokevirtual 195, 3) := by decide +kernel
theorem dX4_account_6 : decode cX4_account 6 = .ok (.ifCond .eq 30, 3) := by decide +kernel
theorem dX4_account_9 : decode cX4_account 9 = .ok (.iload_n 2, 1) := by decide +kernel
theorem dX4_account_10 : decode cX4_account 10 = .ok (.invokestatic 134, 3) := by decide +kernel
theorem dX4_account_13 : decode cX4_account 13 = .ok (.ifCond .eq 23, 3) := by decide +kernel
theorem dX4_account_16 : decode cX4_account 16 = .ok (.iload_n 3, 1) := by decide +kernel
theorem dX4_account_17 : decode cX4_account 17 = .ok (.invokestatic 114, 3) := by decide +kernel
theorem dX4_account_20 : decode cX4_account 20 = .ok (.ifCond .eq 16, 3) := by decide +kernel
theorem dX4_account_23 : decode cX4_account 23 = .ok (.iload 4, 2) := by decide +kernel
theorem dX4_account_25 : decode cX4_account 25 = .ok (.i2l, 1) := by decide +kernel
theorem dX4_account_26 : decode cX4_account 26 = .ok (.lconst 0, 1) := by decide +kernel
theorem dX4_account_27 : decode cX4_account 27 = .ok (.ldc2_w 203, 3) := by decide +kernel
theorem dX4_account_30 : decode cX4_account 30 = .ok (.invokestatic 100, 3) := by decide +kernel
theorem dX4_account_33 : decode cX4_account 33 = .ok (.ifCond .ne 7, 3) := by decide +kernel
theorem dX4_account_36 : decode cX4_account 36 = .ok (.iconst 1, 1) := by decide +kernel
theorem dX4_account_37 : decode cX4_account 37 = .ok (.goto 4, 3) := by decide +kernel
theorem dX4_account_40 : decode cX4_account 40 = .ok (.iconst 0, 1) := by decide +kernel
theorem dX4_account_41 : decode cX4_account 41 = .ok (.iconst 0, 1) := by decide +kernel
theorem dX4_account_42 : decode cX4_account 42 = .ok (.invokevirtual 126, 3) := by decide +kernel
theorem dX4_account_45 : decode cX4_account 45 = .ok (.ifCond .eq 5, 3) := by decide +kernel
theorem dX4_account_48 : decode cX4_account 48 = .ok (.iconst 0, 1) := by decide +kernel
theorem dX4_account_49 : decode cX4_account 49 = .ok (.ireturn, 1) := by decide +kernel
theorem dX4_account_50 : decode cX4_account 50 = .ok (.iload_n 1, 1) := by decide +kernel
theorem dX4_account_51 : decode cX4_account 51 = .ok (.iload_n 2, 1) := by decide +kernel
theorem dX4_account_52 : decode cX4_account 52 = .ok (.iload_n 3, 1) := by decide +kernel
theorem dX4_account_53 : decode cX4_account 53 = .ok (.invokestatic 147, 3) := by decide +kernel
theorem dX4_account_56 : decode cX4_account 56 = .ok (.istore 5, 2) := by decide +kernel
theorem dX4_account_58 : decode cX4_account 58 = .ok (.iload 4, 2) := by decide +kernel
theorem dX4_account_60 : decode cX4_account 60 = .ok (.tableswitch 111 0 7 #[48, 56, 64, 72, 80, 88, 95, 103], 48) := by decide +kernel
theorem dX4_account_108 : decode cX4_account 108 = .ok (.aload_n 0, 1) := by decide +kernel
theorem dX4_account_109 : decode cX4_account 109 = .ok (.getfield 38, 3) := by decide +kernel
theorem dX4_account_112 : decode cX4_account 112 = .ok (.iload 5, 2) := by decide +kernel
theorem dX4_account_114 : decode cX4_account 114 = .ok (.iaload, 1) := by decide +kernel
theorem dX4_account_115 : decode cX4_account 115 = .ok (.ireturn, 1) := by decide +kernel
theorem dX4_account_116 : decode cX4_account 116 = .ok (.aload_n 0, 1) := by decide +kernel
theorem dX4_account_117 : decode cX4_account 117 = .ok (.getfield 41, 3) := by decide +kernel
theorem dX4_account_120 : decode cX4_account 120 = .ok (.iload 5, 2) := by decide +kernel
theorem dX4_account_122 : decode cX4_account 122 = .ok (.iaload, 1) := by decide +kernel
theorem dX4_account_123 : decode cX4_account 123 = .ok (.ireturn, 1) := by decide +kernel
theorem dX4_account_124 : decode cX4_account 124 = .ok (.aload_n 0, 1) := by decide +kernel
theorem dX4_account_125 : decode cX4_account 125 = .ok (.getfield 44, 3) := by decide +kernel
theorem dX4_account_128 : decode cX4_account 128 = .ok (.iload 5, 2) := by decide +kernel
theorem dX4_account_130 : decode cX4_account 130 = .ok (.iaload, 1) := by decide +kernel
theorem dX4_account_131 : decode cX4_account 131 = .ok (.ireturn, 1) := by decide +kernel
theorem dX4_account_132 : decode cX4_account 132 = .ok (.aload_n 0, 1) := by decide +kernel
theorem dX4_account_133 : decode cX4_account 133 = .ok (.getfield 47, 3) := by decide +kernel
theorem dX4_account_136 : decode cX4_account 136 = .ok (.iload 5, 2) := by decide +kernel
theorem dX4_account_138 : decode cX4_account 138 = .ok (.iaload, 1) := by decide +kernel
theorem dX4_account_139 : decode cX4_account 139 = .ok (.ireturn, 1) := by decide +kernel
theorem dX4_account_140 : decode cX4_account 140 = .ok (.aload_n 0, 1) := by decide +kernel
theorem dX4_account_141 : decode cX4_account 141 = .ok (.getfield 50, 3) := by decide +kernel
theorem dX4_account_144 : decode cX4_account 144 = .ok (.iload 5, 2) := by decide +kernel
theorem dX4_account_146 : decode cX4_account 146 = .ok (.iaload, 1) := by decide +kernel
theorem dX4_account_147 : decode cX4_account 147 = .ok (.ireturn, 1) := by decide +kernel
theorem dX4_account_148 : decode cX4_account 148 = .ok (.aload_n 0, 1) := by decide +kernel
theorem dX4_account_149 : decode cX4_account 149 = .ok (.iload 5, 2) := by decide +kernel
theorem dX4_account_151 : decode cX4_account 151 = .ok (.invokevirtual 153, 3) := by decide +kernel
theorem dX4_account_154 : decode cX4_account 154 = .ok (.ireturn, 1) := by decide +kernel
theorem dX4_account_155 : decode cX4_account 155 = .ok (.aload_n 0, 1) := by decide +kernel
theorem dX4_account_156 : decode cX4_account 156 = .ok (.getfield 53, 3) := by decide +kernel
theorem dX4_account_159 : decode cX4_account 159 = .ok (.iload 5, 2) := by decide +kernel
theorem dX4_account_161 : decode cX4_account 161 = .ok (.iaload, 1) := by decide +kernel
theorem dX4_account_162 : decode cX4_account 162 = .ok (.ireturn, 1) := by decide +kernel
theorem dX4_account_163 : decode cX4_account 163 = .ok (.aload_n 0, 1) := by decide +kernel
theorem dX4_account_164 : decode cX4_account 164 = .ok (.getfield 56, 3) := by decide +kernel
theorem dX4_account_167 : decode cX4_account 167 = .ok (.iload 5, 2) := by decide +kernel
theorem dX4_account_169 : decode cX4_account 169 = .ok (.iaload, 1) := by decide +kernel
theorem dX4_account_170 : decode cX4_account 170 = .ok (.ireturn, 1) := by decide +kernel
theorem dX4_account_171 : decode cX4_account 171 = .ok (.aload_n 0, 1) := by decide +kernel
theorem dX4_account_172 : decode cX4_account 172 = .ok (.getfield 59, 3) := by decide +kernel
theorem dX4_account_175 : decode cX4_account 175 = .ok (.iload 5, 2) := by decide +kernel
theorem dX4_account_177 : decode cX4_account 177 = .ok (.iaload, 1) := by decide +kernel
theorem dX4_account_178 : decode cX4_account 178 = .ok (.ireturn, 1) := by decide +kernel
theorem dX4_levy_0 : decode cX4_levy 0 = .ok (.aload_n 0, 1) := by decide +kernel
theorem dX4_levy_1 : decode cX4_levy 1 = .ok (.iload_n 1, 1) := by decide +kernel
theorem dX4_levy_2 : decode cX4_levy 2 = .ok (.invokestatic 134, 3) := by decide +kernel
theorem dX4_levy_5 : decode cX4_levy 5 = .ok (.ifCond .eq 11, 3) := by decide +kernel
theorem dX4_levy_8 : decode cX4_levy 8 = .ok (.aload_n 0, 1) := by decide +kernel
theorem dX4_levy_9 : decode cX4_levy 9 = .ok (.iload_n 2, 1) := by decide +kernel
theorem dX4_levy_10 : decode cX4_levy 10 = .ok (.invokevirtual 195, 3) := by decide +kernel
theorem dX4_levy_13 : decode cX4_levy 13 = .ok (.ifCond .ne 7, 3) := by decide +kernel
theorem dX4_levy_16 : decode cX4_levy 16 = .ok (.iconst 1, 1) := by decide +kernel
theorem dX4_levy_17 : decode cX4_levy 17 = .ok (.goto 4, 3) := by decide +kernel
theorem dX4_levy_20 : decode cX4_levy 20 = .ok (.iconst 0, 1) := by decide +kernel
theorem dX4_levy_21 : decode cX4_levy 21 = .ok (.iconst 0, 1) := by decide +kernel
theorem dX4_levy_22 : decode cX4_levy 22 = .ok (.invokevirtual 126, 3) := by decide +kernel
theorem dX4_levy_25 : decode cX4_levy 25 = .ok (.ifCond .eq 5, 3) := by decide +kernel
theorem dX4_levy_28 : decode cX4_levy 28 = .ok (.lconst 0, 1) := by decide +kernel
theorem dX4_levy_29 : decode cX4_levy 29 = .ok (.lreturn, 1) := by decide +kernel
theorem dX4_levy_30 : decode cX4_levy 30 = .ok (.lconst 0, 1) := by decide +kernel
theorem dX4_levy_31 : decode cX4_levy 31 = .ok (.lstore_n 3, 1) := by decide +kernel
theorem dX4_levy_32 : decode cX4_levy 32 = .ok (.iconst 0, 1) := by decide +kernel
theorem dX4_levy_33 : decode cX4_levy 33 = .ok (.istore 5, 2) := by decide +kernel
theorem dX4_levy_35 : decode cX4_levy 35 = .ok (.iload 5, 2) := by decide +kernel
theorem dX4_levy_37 : decode cX4_levy 37 = .ok (.bipush 6, 2) := by decide +kernel
theorem dX4_levy_39 : decode cX4_levy 39 = .ok (.if_icmp .ge 61, 3) := by decide +kernel
theorem dX4_levy_42 : decode cX4_levy 42 = .ok (.iconst 0, 1) := by decide +kernel
theorem dX4_levy_43 : decode cX4_levy 43 = .ok (.istore 6, 2) := by decide +kernel
theorem dX4_levy_45 : decode cX4_levy 45 = .ok (.iload 6, 2) := by decide +kernel
theorem dX4_levy_47 : decode cX4_levy 47 = .ok (.iconst 4, 1) := by decide +kernel
theorem dX4_levy_48 : decode cX4_levy 48 = .ok (.if_icmp .ge 46, 3) := by decide +kernel
theorem dX4_levy_51 : decode cX4_levy 51 = .ok (.aload_n 0, 1) := by decide +kernel
theorem dX4_levy_52 : decode cX4_levy 52 = .ok (.getfield 19, 3) := by decide +kernel
theorem dX4_levy_55 : decode cX4_levy 55 = .ok (.iload 5, 2) := by decide +kernel
theorem dX4_levy_57 : decode cX4_levy 57 = .ok (.iaload, 1) := by decide +kernel
theorem dX4_levy_58 : decode cX4_levy 58 = .ok (.iload_n 1, 1) := by decide +kernel
theorem dX4_levy_59 : decode cX4_levy 59 = .ok (.if_icmp .ne 35, 3) := by decide +kernel
theorem dX4_levy_62 : decode cX4_levy 62 = .ok (.lload_n 3, 1) := by decide +kernel
theorem dX4_levy_63 : decode cX4_levy 63 = .ok (.aload_n 0, 1) := by decide +kernel
theorem dX4_levy_64 : decode cX4_levy 64 = .ok (.getfield 59, 3) := by decide +kernel
theorem dX4_levy_67 : decode cX4_levy 67 = .ok (.iload_n 2, 1) := by decide +kernel
theorem dX4_levy_68 : decode cX4_levy 68 = .ok (.iload 5, 2) := by decide +kernel
theorem dX4_levy_70 : decode cX4_levy 70 = .ok (.iload 6, 2) := by decide +kernel
theorem dX4_levy_72 : decode cX4_levy 72 = .ok (.invokestatic 147, 3) := by decide +kernel
theorem dX4_levy_75 : decode cX4_levy 75 = .ok (.iaload, 1) := by decide +kernel
theorem dX4_levy_76 : decode cX4_levy 76 = .ok (.i2l, 1) := by decide +kernel
theorem dX4_levy_77 : decode cX4_levy 77 = .ok (.aload_n 0, 1) := by decide +kernel
theorem dX4_levy_78 : decode cX4_levy 78 = .ok (.getfield 7, 3) := by decide +kernel
theorem dX4_levy_81 : decode cX4_levy 81 = .ok (.iload 6, 2) := by decide +kernel
theorem dX4_levy_83 : decode cX4_levy 83 = .ok (.iaload, 1) := by decide +kernel
theorem dX4_levy_84 : decode cX4_levy 84 = .ok (.i2l, 1) := by decide +kernel
theorem dX4_levy_85 : decode cX4_levy 85 = .ok (.lmul, 1) := by decide +kernel
theorem dX4_levy_86 : decode cX4_levy 86 = .ok (.ladd, 1) := by decide +kernel
theorem dX4_levy_87 : decode cX4_levy 87 = .ok (.lstore_n 3, 1) := by decide +kernel
theorem dX4_levy_88 : decode cX4_levy 88 = .ok (.iinc 6 1, 3) := by decide +kernel
theorem dX4_levy_91 : decode cX4_levy 91 = .ok (.goto (-46), 3) := by decide +kernel
theorem dX4_levy_94 : decode cX4_levy 94 = .ok (.iinc 5 1, 3) := by decide +kernel
theorem dX4_levy_97 : decode cX4_levy 97 = .ok (.goto (-62), 3) := by decide +kernel
theorem dX4_levy_100 : decode cX4_levy 100 = .ok (.lload_n 3, 1) := by decide +kernel
theorem dX4_levy_101 : decode cX4_levy 101 = .ok (.lreturn, 1) := by decide +kernel
theorem dX4_held_0 : decode cX4_held 0 = .ok (.aload_n 0, 1) := by decide +kernel
theorem dX4_held_1 : decode cX4_held 1 = .ok (.iload_n 1, 1) := by decide +kernel
theorem dX4_held_2 : decode cX4_held 2 = .ok (.invokestatic 114, 3) := by decide +kernel
theorem dX4_held_5 : decode cX4_held 5 = .ok (.ifCond .eq 22, 3) := by decide +kernel
theorem dX4_held_8 : decode cX4_held 8 = .ok (.iload_n 2, 1) := by decide +kernel
theorem dX4_held_9 : decode cX4_held 9 = .ok (.invokestatic 134, 3) := by decide +kernel
theorem dX4_held_12 : decode cX4_held 12 = .ok (.ifCond .eq 15, 3) := by decide +kernel
theorem dX4_held_15 : decode cX4_held 15 = .ok (.iload_n 3, 1) := by decide +kernel
theorem dX4_held_16 : decode cX4_held 16 = .ok (.i2l, 1) := by decide +kernel
theorem dX4_held_17 : decode cX4_held 17 = .ok (.lconst 0, 1) := by decide +kernel
theorem dX4_held_18 : decode cX4_held 18 = .ok (.ldc2_w 130, 3) := by decide +kernel
theorem dX4_held_21 : decode cX4_held 21 = .ok (.invokestatic 100, 3) := by decide +kernel
theorem dX4_held_24 : decode cX4_held 24 = .ok (.ifCond .ne 7, 3) := by decide +kernel
theorem dX4_held_27 : decode cX4_held 27 = .ok (.iconst 1, 1) := by decide +kernel
theorem dX4_held_28 : decode cX4_held 28 = .ok (.goto 4, 3) := by decide +kernel
theorem dX4_held_31 : decode cX4_held 31 = .ok (.iconst 0, 1) := by decide +kernel
theorem dX4_held_32 : decode cX4_held 32 = .ok (.iconst 0, 1) := by decide +kernel
theorem dX4_held_33 : decode cX4_held 33 = .ok (.invokevirtual 126, 3) := by decide +kernel
theorem dX4_held_36 : decode cX4_held 36 = .ok (.ifCond .eq 5, 3) := by decide +kernel
theorem dX4_held_39 : decode cX4_held 39 = .ok (.iconst 0, 1) := by decide +kernel
theorem dX4_held_40 : decode cX4_held 40 = .ok (.ireturn, 1) := by decide +kernel
theorem dX4_held_41 : decode cX4_held 41 = .ok (.iload_n 3, 1) := by decide +kernel
theorem dX4_held_42 : decode cX4_held 42 = .ok (.ifCond .ne 17, 3) := by decide +kernel
theorem dX4_held_45 : decode cX4_held 45 = .ok (.aload_n 0, 1) := by decide +kernel
theorem dX4_held_46 : decode cX4_held 46 = .ok (.getfield 22, 3) := by decide +kernel
theorem dX4_held_49 : decode cX4_held 49 = .ok (.bipush 6, 2) := by decide +kernel
theorem dX4_held_51 : decode cX4_held 51 = .ok (.iload_n 1, 1) := by decide +kernel
theorem dX4_held_52 : decode cX4_held 52 = .ok (.imul, 1) := by decide +kernel
theorem dX4_held_53 : decode cX4_held 53 = .ok (.iload_n 2, 1) := by decide +kernel
theorem dX4_held_54 : decode cX4_held 54 = .ok (.iadd, 1) := by decide +kernel
theorem dX4_held_55 : decode cX4_held 55 = .ok (.iaload, 1) := by decide +kernel
theorem dX4_held_56 : decode cX4_held 56 = .ok (.goto 23, 3) := by decide +kernel
theorem dX4_held_59 : decode cX4_held 59 = .ok (.iload_n 3, 1) := by decide +kernel
theorem dX4_held_60 : decode cX4_held 60 = .ok (.iconst 1, 1) := by decide +kernel
theorem dX4_held_61 : decode cX4_held 61 = .ok (.if_icmp .ne 12, 3) := by decide +kernel
theorem dX4_held_64 : decode cX4_held 64 = .ok (.aload_n 0, 1) := by decide +kernel
theorem dX4_held_65 : decode cX4_held 65 = .ok (.iload_n 1, 1) := by decide +kernel
theorem dX4_held_66 : decode cX4_held 66 = .ok (.iload_n 2, 1) := by decide +kernel
theorem dX4_held_67 : decode cX4_held 67 = .ok (.invokevirtual 144, 3) := by decide +kernel
theorem dX4_held_70 : decode cX4_held 70 = .ok (.goto 9, 3) := by decide +kernel
theorem dX4_held_73 : decode cX4_held 73 = .ok (.aload_n 0, 1) := by decide +kernel
theorem dX4_held_74 : decode cX4_held 74 = .ok (.iload_n 1, 1) := by decide +kernel
theorem dX4_held_75 : decode cX4_held 75 = .ok (.iload_n 2, 1) := by decide +kernel
theorem dX4_held_76 : decode cX4_held 76 = .ok (.invokevirtual 110, 3) := by decide +kernel
theorem dX4_held_79 : decode cX4_held 79 = .ok (.ireturn, 1) := by decide +kernel
theorem dX4_event_0 : decode cX4_event 0 = .ok (.iload_n 1, 1) := by decide +kernel
theorem dX4_event_1 : decode cX4_event 1 = .ok (.i2l, 1) := by decide +kernel
theorem dX4_event_2 : decode cX4_event 2 = .ok (.lconst 0, 1) := by decide +kernel
theorem dX4_event_3 : decode cX4_event 3 = .ok (.aload_n 0, 1) := by decide +kernel
theorem dX4_event_4 : decode cX4_event 4 = .ok (.getfield 164, 3) := by decide +kernel
theorem dX4_event_7 : decode cX4_event 7 = .ok (.iconst 1, 1) := by decide +kernel
theorem dX4_event_8 : decode cX4_event 8 = .ok (.isub, 1) := by decide +kernel
theorem dX4_event_9 : decode cX4_event 9 = .ok (.i2l, 1) := by decide +kernel
theorem dX4_event_10 : decode cX4_event 10 = .ok (.invokestatic 100, 3) := by decide +kernel
theorem dX4_event_13 : decode cX4_event 13 = .ok (.istore_n 3, 1) := by decide +kernel
theorem dX4_event_14 : decode cX4_event 14 = .ok (.aload_n 0, 1) := by decide +kernel
theorem dX4_event_15 : decode cX4_event 15 = .ok (.iload_n 3, 1) := by decide +kernel
theorem dX4_event_16 : decode cX4_event 16 = .ok (.ifCond .ne 7, 3) := by decide +kernel
theorem dX4_event_19 : decode cX4_event 19 = .ok (.iconst 1, 1) := by decide +kernel
theorem dX4_event_20 : decode cX4_event 20 = .ok (.goto 4, 3) := by decide +kernel
theorem dX4_event_23 : decode cX4_event 23 = .ok (.iconst 0, 1) := by decide +kernel
theorem dX4_event_24 : decode cX4_event 24 = .ok (.iload_n 3, 1) := by decide +kernel
theorem dX4_event_25 : decode cX4_event 25 = .ok (.ifCond .eq 19, 3) := by decide +kernel
theorem dX4_event_28 : decode cX4_event 28 = .ok (.iload_n 2, 1) := by decide +kernel
theorem dX4_event_29 : decode cX4_event 29 = .ok (.i2l, 1) := by decide +kernel
theorem dX4_event_30 : decode cX4_event 30 = .ok (.lconst 0, 1) := by decide +kernel
theorem dX4_event_31 : decode cX4_event 31 = .ok (.ldc2_w 98, 3) := by decide +kernel
theorem dX4_event_34 : decode cX4_event 34 = .ok (.invokestatic 100, 3) := by decide +kernel
theorem dX4_event_37 : decode cX4_event 37 = .ok (.ifCond .ne 7, 3) := by decide +kernel
theorem dX4_event_40 : decode cX4_event 40 = .ok (.iconst 1, 1) := by decide +kernel
theorem dX4_event_41 : decode cX4_event 41 = .ok (.goto 4, 3) := by decide +kernel
theorem dX4_event_44 : decode cX4_event 44 = .ok (.iconst 0, 1) := by decide +kernel
theorem dX4_event_45 : decode cX4_event 45 = .ok (.invokevirtual 126, 3) := by decide +kernel
theorem dX4_event_48 : decode cX4_event 48 = .ok (.ifCond .eq 5, 3) := by decide +kernel
theorem dX4_event_51 : decode cX4_event 51 = .ok (.iconst 0, 1) := by decide +kernel
theorem dX4_event_52 : decode cX4_event 52 = .ok (.ireturn, 1) := by decide +kernel
theorem dX4_event_53 : decode cX4_event 53 = .ok (.iload_n 2, 1) := by decide +kernel
theorem dX4_event_54 : decode cX4_event 54 = .ok (.ifCond .ne 12, 3) := by decide +kernel
theorem dX4_event_57 : decode cX4_event 57 = .ok (.aload_n 0, 1) := by decide +kernel
theorem dX4_event_58 : decode cX4_event 58 = .ok (.getfield 62, 3) := by decide +kernel
theorem dX4_event_61 : decode cX4_event 61 = .ok (.iload_n 1, 1) := by decide +kernel
theorem dX4_event_62 : decode cX4_event 62 = .ok (.iaload, 1) := by decide +kernel
theorem dX4_event_63 : decode cX4_event 63 = .ok (.goto 45, 3) := by decide +kernel
theorem dX4_event_66 : decode cX4_event 66 = .ok (.iload_n 2, 1) := by decide +kernel
theorem dX4_event_67 : decode cX4_event 67 = .ok (.iconst 1, 1) := by decide +kernel
theorem dX4_event_68 : decode cX4_event 68 = .ok (.if_icmp .ne 12, 3) := by decide +kernel
theorem dX4_event_71 : decode cX4_event 71 = .ok (.aload_n 0, 1) := by decide +kernel
theorem dX4_event_72 : decode cX4_event 72 = .ok (.getfield 65, 3) := by decide +kernel
theorem dX4_event_75 : decode cX4_event 75 = .ok (.iload_n 1, 1) := by decide +kernel
theorem dX4_event_76 : decode cX4_event 76 = .ok (.iaload, 1) := by decide +kernel
theorem dX4_event_77 : decode cX4_event 77 = .ok (.goto 31, 3) := by decide +kernel
theorem dX4_event_80 : decode cX4_event 80 = .ok (.iload_n 2, 1) := by decide +kernel
theorem dX4_event_81 : decode cX4_event 81 = .ok (.iconst 2, 1) := by decide +kernel
theorem dX4_event_82 : decode cX4_event 82 = .ok (.if_icmp .ne 20, 3) := by decide +kernel
theorem dX4_event_85 : decode cX4_event 85 = .ok (.aload_n 0, 1) := by decide +kernel
theorem dX4_event_86 : decode cX4_event 86 = .ok (.getfield 86, 3) := by decide +kernel
theorem dX4_event_89 : decode cX4_event 89 = .ok (.iload_n 1, 1) := by decide +kernel
theorem dX4_event_90 : decode cX4_event 90 = .ok (.baload, 1) := by decide +kernel
theorem dX4_event_91 : decode cX4_event 91 = .ok (.ifCond .eq 7, 3) := by decide +kernel
theorem dX4_event_94 : decode cX4_event 94 = .ok (.iconst 1, 1) := by decide +kernel
theorem dX4_event_95 : decode cX4_event 95 = .ok (.goto 13, 3) := by decide +kernel
theorem dX4_event_98 : decode cX4_event 98 = .ok (.iconst 0, 1) := by decide +kernel
theorem dX4_event_99 : decode cX4_event 99 = .ok (.goto 9, 3) := by decide +kernel
theorem dX4_event_102 : decode cX4_event 102 = .ok (.aload_n 0, 1) := by decide +kernel
theorem dX4_event_103 : decode cX4_event 103 = .ok (.getfield 80, 3) := by decide +kernel
theorem dX4_event_106 : decode cX4_event 106 = .ok (.iload_n 1, 1) := by decide +kernel
theorem dX4_event_107 : decode cX4_event 107 = .ok (.iaload, 1) := by decide +kernel
theorem dX4_event_108 : decode cX4_event 108 = .ok (.ireturn, 1) := by decide +kernel
theorem dX4_about_0 : decode cX4_about 0 = .ok (.aload_n 0, 1) := by decide +kernel
theorem dX4_about_1 : decode cX4_about 1 = .ok (.iload_n 1, 1) := by decide +kernel
theorem dX4_about_2 : decode cX4_about 2 = .ok (.i2l, 1) := by decide +kernel
theorem dX4_about_3 : decode cX4_about 3 = .ok (.lconst 0, 1) := by decide +kernel
theorem dX4_about_4 : decode cX4_about 4 = .ok (.ldc2_w 98, 3) := by decide +kernel
theorem dX4_about_7 : decode cX4_about 7 = .ok (.invokestatic 100, 3) := by decide +kernel
theorem dX4_about_10 : decode cX4_about 10 = .ok (.ifCond .ne 7, 3) := by decide +kernel
theorem dX4_about_13 : decode cX4_about 13 = .ok (.iconst 1, 1) := by decide +kernel
theorem dX4_about_14 : decode cX4_about 14 = .ok (.goto 4, 3) := by decide +kernel
theorem dX4_about_17 : decode cX4_about 17 = .ok (.iconst 0, 1) := by decide +kernel
theorem dX4_about_18 : decode cX4_about 18 = .ok (.iconst 0, 1) := by decide +kernel
theorem dX4_about_19 : decode cX4_about 19 = .ok (.invokevirtual 126, 3) := by decide +kernel
theorem dX4_about_22 : decode cX4_about 22 = .ok (.ifCond .eq 5, 3) := by decide +kernel
theorem dX4_about_25 : decode cX4_about 25 = .ok (.iconst 0, 1) := by decide +kernel
theorem dX4_about_26 : decode cX4_about 26 = .ok (.ireturn, 1) := by decide +kernel
theorem dX4_about_27 : decode cX4_about 27 = .ok (.iload_n 1, 1) := by decide +kernel
theorem dX4_about_28 : decode cX4_about 28 = .ok (.iconst 2, 1) := by decide +kernel
theorem dX4_about_29 : decode cX4_about 29 = .ok (.if_icmp .ge 27, 3) := by decide +kernel
theorem dX4_about_32 : decode cX4_about 32 = .ok (.iload_n 1, 1) := by decide +kernel
theorem dX4_about_33 : decode cX4_about 33 = .ok (.ifCond .ne 10, 3) := by decide +kernel
theorem dX4_about_36 : decode cX4_about 36 = .ok (.aload_n 0, 1) := by decide +kernel
theorem dX4_about_37 : decode cX4_about 37 = .ok (.getfield 141, 3) := by decide +kernel
theorem dX4_about_40 : decode cX4_about 40 = .ok (.goto 15, 3) := by decide +kernel
theorem dX4_about_43 : decode cX4_about 43 = .ok (.aload_n 0, 1) := by decide +kernel
theorem dX4_about_44 : decode cX4_about 44 = .ok (.getfield 173, 3) := by decide +kernel
theorem dX4_about_47 : decode cX4_about 47 = .ok (.ifCond .eq 7, 3) := by decide +kernel
theorem dX4_about_50 : decode cX4_about 50 = .ok (.iconst 1, 1) := by decide +kernel
theorem dX4_about_51 : decode cX4_about 51 = .ok (.goto 4, 3) := by decide +kernel
theorem dX4_about_54 : decode cX4_about 54 = .ok (.iconst 0, 1) := by decide +kernel
theorem dX4_about_55 : decode cX4_about 55 = .ok (.ireturn, 1) := by decide +kernel
theorem dX4_about_56 : decode cX4_about 56 = .ok (.iconst 0, 1) := by decide +kernel
theorem dX4_about_57 : decode cX4_about 57 = .ok (.istore_n 2, 1) := by decide +kernel
theorem dX4_about_58 : decode cX4_about 58 = .ok (.iconst 0, 1) := by decide +kernel
theorem dX4_about_59 : decode cX4_about 59 = .ok (.istore_n 3, 1) := by decide +kernel
theorem dX4_about_60 : decode cX4_about 60 = .ok (.iload_n 3, 1) := by decide +kernel
theorem dX4_about_61 : decode cX4_about 61 = .ok (.aload_n 0, 1) := by decide +kernel
theorem dX4_about_62 : decode cX4_about 62 = .ok (.getfield 164, 3) := by decide +kernel
theorem dX4_about_65 : decode cX4_about 65 = .ok (.if_icmp .ge 26, 3) := by decide +kernel
theorem dX4_about_68 : decode cX4_about 68 = .ok (.aload_n 0, 1) := by decide +kernel
theorem dX4_about_69 : decode cX4_about 69 = .ok (.getfield 86, 3) := by decide +kernel
theorem dX4_about_72 : decode cX4_about 72 = .ok (.iload_n 3, 1) := by decide +kernel
theorem dX4_about_73 : decode cX4_about 73 = .ok (.baload, 1) := by decide +kernel
theorem dX4_about_74 : decode cX4_about 74 = .ok (.ifCond .eq 9, 3) := by decide +kernel
theorem dX4_about_77 : decode cX4_about 77 = .ok (.iload_n 2, 1) := by decide +kernel
theorem dX4_about_78 : decode cX4_about 78 = .ok (.iconst 1, 1) := by decide +kernel
theorem dX4_about_79 : decode cX4_about 79 = .ok (.iadd, 1) := by decide +kernel
theorem dX4_about_80 : decode cX4_about 80 = .ok (.goto 4, 3) := by decide +kernel
theorem dX4_about_83 : decode cX4_about 83 = .ok (.iload_n 2, 1) := by decide +kernel
theorem dX4_about_84 : decode cX4_about 84 = .ok (.istore_n 2, 1) := by decide +kernel
theorem dX4_about_85 : decode cX4_about 85 = .ok (.iinc 3 1, 3) := by decide +kernel
theorem dX4_about_88 : decode cX4_about 88 = .ok (.goto (-28), 3) := by decide +kernel
theorem dX4_about_91 : decode cX4_about 91 = .ok (.iload_n 1, 1) := by decide +kernel
theorem dX4_about_92 : decode cX4_about 92 = .ok (.iconst 2, 1) := by decide +kernel
theorem dX4_about_93 : decode cX4_about 93 = .ok (.if_icmp .ne 10, 3) := by decide +kernel
theorem dX4_about_96 : decode cX4_about 96 = .ok (.aload_n 0, 1) := by decide +kernel
theorem dX4_about_97 : decode cX4_about 97 = .ok (.getfield 164, 3) := by decide +kernel
theorem dX4_about_100 : decode cX4_about 100 = .ok (.goto 4, 3) := by decide +kernel
theorem dX4_about_103 : decode cX4_about 103 = .ok (.iload_n 2, 1) := by decide +kernel
theorem dX4_about_104 : decode cX4_about 104 = .ok (.ireturn, 1) := by decide +kernel
theorem dJ9_max_7cf53_0 : decode cJ9_max_7cf53 0 = .ok (.iload_n 0, 1) := by decide +kernel
theorem dJ9_max_7cf53_1 : decode cJ9_max_7cf53 1 = .ok (.iload_n 1, 1) := by decide +kernel
theorem dJ9_max_7cf53_2 : decode cJ9_max_7cf53 2 = .ok (.if_icmp .lt 7, 3) := by decide +kernel
theorem dJ9_max_7cf53_5 : decode cJ9_max_7cf53 5 = .ok (.iload_n 0, 1) := by decide +kernel
theorem dJ9_max_7cf53_6 : decode cJ9_max_7cf53 6 = .ok (.goto 4, 3) := by decide +kernel
theorem dJ9_max_7cf53_9 : decode cJ9_max_7cf53 9 = .ok (.iload_n 1, 1) := by decide +kernel
theorem dJ9_max_7cf53_10 : decode cJ9_max_7cf53 10 = .ok (.ireturn, 1) := by decide +kernel
theorem dJ9_min_7cf53_0 : decode cJ9_min_7cf53 0 = .ok (.iload_n 0, 1) := by decide +kernel
theorem dJ9_min_7cf53_1 : decode cJ9_min_7cf53 1 = .ok (.iload_n 1, 1) := by decide +kernel
theorem dJ9_min_7cf53_2 : decode cJ9_min_7cf53 2 = .ok (.if_icmp .gt 7, 3) := by decide +kernel
theorem dJ9_min_7cf53_5 : decode cJ9_min_7cf53 5 = .ok (.iload_n 0, 1) := by decide +kernel
theorem dJ9_min_7cf53_6 : decode cJ9_min_7cf53 6 = .ok (.goto 4, 3) := by decide +kernel
theorem dJ9_min_7cf53_9 : decode cJ9_min_7cf53 9 = .ok (.iload_n 1, 1) := by decide +kernel
theorem dJ9_min_7cf53_10 : decode cJ9_min_7cf53 10 = .ok (.ireturn, 1) := by decide +kernel
theorem dJ7_fill_53178_0 : decode cJ7_fill_53178 0 = .ok (.iconst 0, 1) := by decide +kernel
theorem dJ7_fill_53178_1 : decode cJ7_fill_53178 1 = .ok (.istore_n 2, 1) := by decide +kernel
theorem dJ7_fill_53178_2 : decode cJ7_fill_53178 2 = .ok (.aload_n 0, 1) := by decide +kernel
theorem dJ7_fill_53178_3 : decode cJ7_fill_53178 3 = .ok (.arraylength, 1) := by decide +kernel
theorem dJ7_fill_53178_4 : decode cJ7_fill_53178 4 = .ok (.istore_n 3, 1) := by decide +kernel
theorem dJ7_fill_53178_5 : decode cJ7_fill_53178 5 = .ok (.iload_n 2, 1) := by decide +kernel
theorem dJ7_fill_53178_6 : decode cJ7_fill_53178 6 = .ok (.iload_n 3, 1) := by decide +kernel
theorem dJ7_fill_53178_7 : decode cJ7_fill_53178 7 = .ok (.if_icmp .ge 13, 3) := by decide +kernel
theorem dJ7_fill_53178_10 : decode cJ7_fill_53178 10 = .ok (.aload_n 0, 1) := by decide +kernel
theorem dJ7_fill_53178_11 : decode cJ7_fill_53178 11 = .ok (.iload_n 2, 1) := by decide +kernel
theorem dJ7_fill_53178_12 : decode cJ7_fill_53178 12 = .ok (.iload_n 1, 1) := by decide +kernel
theorem dJ7_fill_53178_13 : decode cJ7_fill_53178 13 = .ok (.iastore, 1) := by decide +kernel
theorem dJ7_fill_53178_14 : decode cJ7_fill_53178 14 = .ok (.iinc 2 1, 3) := by decide +kernel
theorem dJ7_fill_53178_17 : decode cJ7_fill_53178 17 = .ok (.goto (-12), 3) := by decide +kernel
theorem dJ7_fill_53178_20 : decode cJ7_fill_53178 20 = .ok (.return_, 1) := by decide +kernel
theorem dL_species_0 : decode cL_species 0 = .ok (.aload_n 0, 1) := by decide +kernel
theorem dL_species_1 : decode cL_species 1 = .ok (.iload_n 1, 1) := by decide +kernel
theorem dL_species_2 : decode cL_species 2 = .ok (.iload_n 2, 1) := by decide +kernel
theorem dL_species_3 : decode cL_species 3 = .ok (.iload_n 3, 1) := by decide +kernel
theorem dL_species_4 : decode cL_species 4 = .ok (.invokevirtual 7, 3) := by decide +kernel
theorem dL_species_7 : decode cL_species 7 = .ok (.goto 7, 3) := by decide +kernel
theorem dL_species_10 : decode cL_species 10 = .ok (.astore 4, 2) := by decide +kernel
theorem dL_species_12 : decode cL_species 12 = .ok (.iconst 1, 1) := by decide +kernel
theorem dL_species_13 : decode cL_species 13 = .ok (.ireturn, 1) := by decide +kernel
theorem dL_species_14 : decode cL_species 14 = .ok (.iconst 0, 1) := by decide +kernel
theorem dL_species_15 : decode cL_species 15 = .ok (.ireturn, 1) := by decide +kernel
theorem dL_factor_0 : decode cL_factor 0 = .ok (.aload_n 0, 1) := by decide +kernel
theorem dL_factor_1 : decode cL_factor 1 = .ok (.iload_n 1, 1) := by decide +kernel
theorem dL_factor_2 : decode cL_factor 2 = .ok (.iload_n 2, 1) := by decide +kernel
theorem dL_factor_3 : decode cL_factor 3 = .ok (.iload_n 3, 1) := by decide +kernel
theorem dL_factor_4 : decode cL_factor 4 = .ok (.invokevirtual 15, 3) := by decide +kernel
theorem dL_factor_7 : decode cL_factor 7 = .ok (.goto 7, 3) := by decide +kernel
theorem dL_factor_10 : decode cL_factor 10 = .ok (.astore 4, 2) := by decide +kernel
theorem dL_factor_12 : decode cL_factor 12 = .ok (.iconst 1, 1) := by decide +kernel
theorem dL_factor_13 : decode cL_factor 13 = .ok (.ireturn, 1) := by decide +kernel
theorem dL_factor_14 : decode cL_factor 14 = .ok (.iconst 0, 1) := by decide +kernel
theorem dL_factor_15 : decode cL_factor 15 = .ok (.ireturn, 1) := by decide +kernel
theorem dL_vessel_0 : decode cL_vessel 0 = .ok (.aload_n 0, 1) := by decide +kernel
theorem dL_vessel_1 : decode cL_vessel 1 = .ok (.iload_n 1, 1) := by decide +kernel
theorem dL_vessel_2 : decode cL_vessel 2 = .ok (.iload_n 2, 1) := by decide +kernel
theorem dL_vessel_3 : decode cL_vessel 3 = .ok (.invokevirtual 18, 3) := by decide +kernel
theorem dL_vessel_6 : decode cL_vessel 6 = .ok (.goto 9, 3) := by decide +kernel
theorem dL_vessel_9 : decode cL_vessel 9 = .ok (.astore_n 3, 1) := by decide +kernel
theorem dL_vessel_10 : decode cL_vessel 10 = .ok (.iconst 1, 1) := by decide +kernel
theorem dL_vessel_11 : decode cL_vessel 11 = .ok (.ireturn, 1) := by decide +kernel
theorem dL_vessel_12 : decode cL_vessel 12 = .ok (.astore_n 3, 1) := by decide +kernel
theorem dL_vessel_13 : decode cL_vessel 13 = .ok (.iconst 2, 1) := by decide +kernel
theorem dL_vessel_14 : decode cL_vessel 14 = .ok (.ireturn, 1) := by decide +kernel
theorem dL_vessel_15 : decode cL_vessel 15 = .ok (.iconst 0, 1) := by decide +kernel
theorem dL_vessel_16 : decode cL_vessel 16 = .ok (.ireturn, 1) := by decide +kernel
theorem dL_link_0 : decode cL_link 0 = .ok (.aload_n 0, 1) := by decide +kernel
theorem dL_link_1 : decode cL_link 1 = .ok (.iload_n 1, 1) := by decide +kernel
theorem dL_link_2 : decode cL_link 2 = .ok (.iload_n 2, 1) := by decide +kernel
theorem dL_link_3 : decode cL_link 3 = .ok (.invokevirtual 24, 3) := by decide +kernel
theorem dL_link_6 : decode cL_link 6 = .ok (.goto 9, 3) := by decide +kernel
theorem dL_link_9 : decode cL_link 9 = .ok (.astore_n 3, 1) := by decide +kernel
theorem dL_link_10 : decode cL_link 10 = .ok (.iconst 1, 1) := by decide +kernel
theorem dL_link_11 : decode cL_link 11 = .ok (.ireturn, 1) := by decide +kernel
theorem dL_link_12 : decode cL_link 12 = .ok (.astore_n 3, 1) := by decide +kernel
theorem dL_link_13 : decode cL_link 13 = .ok (.iconst 2, 1) := by decide +kernel
theorem dL_link_14 : decode cL_link 14 = .ok (.ireturn, 1) := by decide +kernel
theorem dL_link_15 : decode cL_link 15 = .ok (.iconst 0, 1) := by decide +kernel
theorem dL_link_16 : decode cL_link 16 = .ok (.ireturn, 1) := by decide +kernel
theorem dL_unlink_0 : decode cL_unlink 0 = .ok (.aload_n 0, 1) := by decide +kernel
theorem dL_unlink_1 : decode cL_unlink 1 = .ok (.iload_n 1, 1) := by decide +kernel
theorem dL_unlink_2 : decode cL_unlink 2 = .ok (.iload_n 2, 1) := by decide +kernel
theorem dL_unlink_3 : decode cL_unlink 3 = .ok (.invokevirtual 27, 3) := by decide +kernel
theorem dL_unlink_6 : decode cL_unlink 6 = .ok (.goto 9, 3) := by decide +kernel
theorem dL_unlink_9 : decode cL_unlink 9 = .ok (.astore_n 3, 1) := by decide +kernel
theorem dL_unlink_10 : decode cL_unlink 10 = .ok (.iconst 1, 1) := by decide +kernel
theorem dL_unlink_11 : decode cL_unlink 11 = .ok (.ireturn, 1) := by decide +kernel
theorem dL_unlink_12 : decode cL_unlink 12 = .ok (.astore_n 3, 1) := by decide +kernel
theorem dL_unlink_13 : decode cL_unlink 13 = .ok (.iconst 2, 1) := by decide +kernel
theorem dL_unlink_14 : decode cL_unlink 14 = .ok (.ireturn, 1) := by decide +kernel
theorem dL_unlink_15 : decode cL_unlink 15 = .ok (.iconst 0, 1) := by decide +kernel
theorem dL_unlink_16 : decode cL_unlink 16 = .ok (.ireturn, 1) := by decide +kernel
theorem dL_issue_0 : decode cL_issue 0 = .ok (.aload 4, 2) := by decide +kernel
theorem dL_issue_2 : decode cL_issue 2 = .ok (.iconst 0, 1) := by decide +kernel
theorem dL_issue_3 : decode cL_issue 3 = .ok (.aload_n 0, 1) := by decide +kernel
theorem dL_issue_4 : decode cL_issue 4 = .ok (.iload_n 1, 1) := by decide +kernel
theorem dL_issue_5 : decode cL_issue 5 = .ok (.iload_n 2, 1) := by decide +kernel
theorem dL_issue_6 : decode cL_issue 6 = .ok (.iload_n 3, 1) := by decide +kernel
theorem dL_issue_7 : decode cL_issue 7 = .ok (.invokevirtual 30, 3) := by decide +kernel
theorem dL_issue_10 : decode cL_issue 10 = .ok (.i2l, 1) := by decide +kernel
theorem dL_issue_11 : decode cL_issue 11 = .ok (.lastore, 1) := by decide +kernel
theorem dL_issue_12 : decode cL_issue 12 = .ok (.goto 11, 3) := by decide +kernel
theorem dL_issue_15 : decode cL_issue 15 = .ok (.astore 5, 2) := by decide +kernel
theorem dL_issue_17 : decode cL_issue 17 = .ok (.iconst 1, 1) := by decide +kernel
theorem dL_issue_18 : decode cL_issue 18 = .ok (.ireturn, 1) := by decide +kernel
theorem dL_issue_19 : decode cL_issue 19 = .ok (.astore 5, 2) := by decide +kernel
theorem dL_issue_21 : decode cL_issue 21 = .ok (.iconst 2, 1) := by decide +kernel
theorem dL_issue_22 : decode cL_issue 22 = .ok (.ireturn, 1) := by decide +kernel
theorem dL_issue_23 : decode cL_issue 23 = .ok (.iconst 0, 1) := by decide +kernel
theorem dL_issue_24 : decode cL_issue 24 = .ok (.ireturn, 1) := by decide +kernel
theorem dL_sell_0 : decode cL_sell 0 = .ok (.aload_n 0, 1) := by decide +kernel
theorem dL_sell_1 : decode cL_sell 1 = .ok (.iload_n 1, 1) := by decide +kernel
theorem dL_sell_2 : decode cL_sell 2 = .ok (.iload_n 2, 1) := by decide +kernel
theorem dL_sell_3 : decode cL_sell 3 = .ok (.iload_n 3, 1) := by decide +kernel
theorem dL_sell_4 : decode cL_sell 4 = .ok (.iload 4, 2) := by decide +kernel
theorem dL_sell_6 : decode cL_sell 6 = .ok (.invokevirtual 34, 3) := by decide +kernel
theorem dL_sell_9 : decode cL_sell 9 = .ok (.goto 11, 3) := by decide +kernel
theorem dL_sell_12 : decode cL_sell 12 = .ok (.astore 5, 2) := by decide +kernel
theorem dL_sell_14 : decode cL_sell 14 = .ok (.iconst 1, 1) := by decide +kernel
theorem dL_sell_15 : decode cL_sell 15 = .ok (.ireturn, 1) := by decide +kernel
theorem dL_sell_16 : decode cL_sell 16 = .ok (.astore 5, 2) := by decide +kernel
theorem dL_sell_18 : decode cL_sell 18 = .ok (.iconst 2, 1) := by decide +kernel
theorem dL_sell_19 : decode cL_sell 19 = .ok (.ireturn, 1) := by decide +kernel
theorem dL_sell_20 : decode cL_sell 20 = .ok (.iconst 0, 1) := by decide +kernel
theorem dL_sell_21 : decode cL_sell 21 = .ok (.ireturn, 1) := by decide +kernel
theorem dL_place_0 : decode cL_place 0 = .ok (.aload 4, 2) := by decide +kernel
theorem dL_place_2 : decode cL_place 2 = .ok (.iconst 0, 1) := by decide +kernel
theorem dL_place_3 : decode cL_place 3 = .ok (.aload_n 0, 1) := by decide +kernel
theorem dL_place_4 : decode cL_place 4 = .ok (.iload_n 1, 1) := by decide +kernel
theorem dL_place_5 : decode cL_place 5 = .ok (.iload_n 2, 1) := by decide +kernel
theorem dL_place_6 : decode cL_place 6 = .ok (.iload_n 3, 1) := by decide +kernel
theorem dL_place_7 : decode cL_place 7 = .ok (.invokevirtual 38, 3) := by decide +kernel
theorem dL_place_10 : decode cL_place 10 = .ok (.i2l, 1) := by decide +kernel
theorem dL_place_11 : decode cL_place 11 = .ok (.lastore, 1) := by decide +kernel
theorem dL_place_12 : decode cL_place 12 = .ok (.goto 11, 3) := by decide +kernel
theorem dL_place_15 : decode cL_place 15 = .ok (.astore 5, 2) := by decide +kernel
theorem dL_place_17 : decode cL_place 17 = .ok (.iconst 1, 1) := by decide +kernel
theorem dL_place_18 : decode cL_place 18 = .ok (.ireturn, 1) := by decide +kernel
theorem dL_place_19 : decode cL_place 19 = .ok (.astore 5, 2) := by decide +kernel
theorem dL_place_21 : decode cL_place 21 = .ok (.iconst 2, 1) := by decide +kernel
theorem dL_place_22 : decode cL_place 22 = .ok (.ireturn, 1) := by decide +kernel
theorem dL_place_23 : decode cL_place 23 = .ok (.iconst 0, 1) := by decide +kernel
theorem dL_place_24 : decode cL_place 24 = .ok (.ireturn, 1) := by decide +kernel
theorem dL_open_0 : decode cL_open 0 = .ok (.aload 5, 2) := by decide +kernel
theorem dL_open_2 : decode cL_open 2 = .ok (.iconst 0, 1) := by decide +kernel
theorem dL_open_3 : decode cL_open 3 = .ok (.aload_n 0, 1) := by decide +kernel
theorem dL_open_4 : decode cL_open 4 = .ok (.iload_n 1, 1) := by decide +kernel
theorem dL_open_5 : decode cL_open 5 = .ok (.iload_n 2, 1) := by decide +kernel
theorem dL_open_6 : decode cL_open 6 = .ok (.iload_n 3, 1) := by decide +kernel
theorem dL_open_7 : decode cL_open 7 = .ok (.iload 4, 2) := by decide +kernel
theorem dL_open_9 : decode cL_open 9 = .ok (.invokevirtual 41, 3) := by decide +kernel
theorem dL_open_12 : decode cL_open 12 = .ok (.i2l, 1) := by decide +kernel
theorem dL_open_13 : decode cL_open 13 = .ok (.lastore, 1) := by decide +kernel
theorem dL_open_14 : decode cL_open 14 = .ok (.goto 11, 3) := by decide +kernel
theorem dL_open_17 : decode cL_open 17 = .ok (.astore 6, 2) := by decide +kernel
theorem dL_open_19 : decode cL_open 19 = .ok (.iconst 1, 1) := by decide +kernel
theorem dL_open_20 : decode cL_open 20 = .ok (.ireturn, 1) := by decide +kernel
theorem dL_open_21 : decode cL_open 21 = .ok (.astore 6, 2) := by decide +kernel
theorem dL_open_23 : decode cL_open 23 = .ok (.iconst 2, 1) := by decide +kernel
theorem dL_open_24 : decode cL_open 24 = .ok (.ireturn, 1) := by decide +kernel
theorem dL_open_25 : decode cL_open 25 = .ok (.iconst 0, 1) := by decide +kernel
theorem dL_open_26 : decode cL_open 26 = .ok (.ireturn, 1) := by decide +kernel
theorem dL_end_0 : decode cL_end 0 = .ok (.aload_n 1, 1) := by decide +kernel
theorem dL_end_1 : decode cL_end 1 = .ok (.iconst 0, 1) := by decide +kernel
theorem dL_end_2 : decode cL_end 2 = .ok (.aload_n 0, 1) := by decide +kernel
theorem dL_end_3 : decode cL_end 3 = .ok (.invokevirtual 45, 3) := by decide +kernel
theorem dL_end_6 : decode cL_end 6 = .ok (.i2l, 1) := by decide +kernel
theorem dL_end_7 : decode cL_end 7 = .ok (.lastore, 1) := by decide +kernel
theorem dL_end_8 : decode cL_end 8 = .ok (.goto 6, 3) := by decide +kernel
theorem dL_end_11 : decode cL_end 11 = .ok (.astore_n 2, 1) := by decide +kernel
theorem dL_end_12 : decode cL_end 12 = .ok (.iconst 1, 1) := by decide +kernel
theorem dL_end_13 : decode cL_end 13 = .ok (.ireturn, 1) := by decide +kernel
theorem dL_end_14 : decode cL_end 14 = .ok (.iconst 0, 1) := by decide +kernel
theorem dL_end_15 : decode cL_end 15 = .ok (.ireturn, 1) := by decide +kernel
theorem dL_lease_0 : decode cL_lease 0 = .ok (.aload 5, 2) := by decide +kernel
theorem dL_lease_2 : decode cL_lease 2 = .ok (.iconst 0, 1) := by decide +kernel
theorem dL_lease_3 : decode cL_lease 3 = .ok (.aload_n 0, 1) := by decide +kernel
theorem dL_lease_4 : decode cL_lease 4 = .ok (.iload_n 1, 1) := by decide +kernel
theorem dL_lease_5 : decode cL_lease 5 = .ok (.iload_n 2, 1) := by decide +kernel
theorem dL_lease_6 : decode cL_lease 6 = .ok (.iload_n 3, 1) := by decide +kernel
theorem dL_lease_7 : decode cL_lease 7 = .ok (.iload 4, 2) := by decide +kernel
theorem dL_lease_9 : decode cL_lease 9 = .ok (.invokevirtual 49, 3) := by decide +kernel
theorem dL_lease_12 : decode cL_lease 12 = .ok (.i2l, 1) := by decide +kernel
theorem dL_lease_13 : decode cL_lease 13 = .ok (.lastore, 1) := by decide +kernel
theorem dL_lease_14 : decode cL_lease 14 = .ok (.goto 11, 3) := by decide +kernel
theorem dL_lease_17 : decode cL_lease 17 = .ok (.astore 6, 2) := by decide +kernel
theorem dL_lease_19 : decode cL_lease 19 = .ok (.iconst 1, 1) := by decide +kernel
theorem dL_lease_20 : decode cL_lease 20 = .ok (.ireturn, 1) := by decide +kernel
theorem dL_lease_21 : decode cL_lease 21 = .ok (.astore 6, 2) := by decide +kernel
theorem dL_lease_23 : decode cL_lease 23 = .ok (.iconst 2, 1) := by decide +kernel
theorem dL_lease_24 : decode cL_lease 24 = .ok (.ireturn, 1) := by decide +kernel
theorem dL_lease_25 : decode cL_lease 25 = .ok (.iconst 0, 1) := by decide +kernel
theorem dL_lease_26 : decode cL_lease 26 = .ok (.ireturn, 1) := by decide +kernel
theorem dL_land_0 : decode cL_land 0 = .ok (.aload 7, 2) := by decide +kernel
theorem dL_land_2 : decode cL_land 2 = .ok (.iconst 0, 1) := by decide +kernel
theorem dL_land_3 : decode cL_land 3 = .ok (.aload_n 0, 1) := by decide +kernel
theorem dL_land_4 : decode cL_land 4 = .ok (.iload_n 1, 1) := by decide +kernel
theorem dL_land_5 : decode cL_land 5 = .ok (.iload_n 2, 1) := by decide +kernel
theorem dL_land_6 : decode cL_land 6 = .ok (.iload_n 3, 1) := by decide +kernel
theorem dL_land_7 : decode cL_land 7 = .ok (.iload 4, 2) := by decide +kernel
theorem dL_land_9 : decode cL_land 9 = .ok (.iload 5, 2) := by decide +kernel
theorem dL_land_11 : decode cL_land 11 = .ok (.iload 6, 2) := by decide +kernel
theorem dL_land_13 : decode cL_land 13 = .ok (.invokevirtual 52, 3) := by decide +kernel
theorem dL_land_16 : decode cL_land 16 = .ok (.i2l, 1) := by decide +kernel
theorem dL_land_17 : decode cL_land 17 = .ok (.lastore, 1) := by decide +kernel
theorem dL_land_18 : decode cL_land 18 = .ok (.goto 11, 3) := by decide +kernel
theorem dL_land_21 : decode cL_land 21 = .ok (.astore 8, 2) := by decide +kernel
theorem dL_land_23 : decode cL_land 23 = .ok (.iconst 1, 1) := by decide +kernel
theorem dL_land_24 : decode cL_land 24 = .ok (.ireturn, 1) := by decide +kernel
theorem dL_land_25 : decode cL_land 25 = .ok (.astore 8, 2) := by decide +kernel
theorem dL_land_27 : decode cL_land 27 = .ok (.iconst 2, 1) := by decide +kernel
theorem dL_land_28 : decode cL_land 28 = .ok (.ireturn, 1) := by decide +kernel
theorem dL_land_29 : decode cL_land 29 = .ok (.iconst 0, 1) := by decide +kernel
theorem dL_land_30 : decode cL_land 30 = .ok (.ireturn, 1) := by decide +kernel
theorem dL_equivalent_0 : decode cL_equivalent 0 = .ok (.aload 5, 2) := by decide +kernel
theorem dL_equivalent_2 : decode cL_equivalent 2 = .ok (.iconst 0, 1) := by decide +kernel
theorem dL_equivalent_3 : decode cL_equivalent 3 = .ok (.aload_n 0, 1) := by decide +kernel
theorem dL_equivalent_4 : decode cL_equivalent 4 = .ok (.iload_n 1, 1) := by decide +kernel
theorem dL_equivalent_5 : decode cL_equivalent 5 = .ok (.iload_n 2, 1) := by decide +kernel
theorem dL_equivalent_6 : decode cL_equivalent 6 = .ok (.iload_n 3, 1) := by decide +kernel
theorem dL_equivalent_7 : decode cL_equivalent 7 = .ok (.iload 4, 2) := by decide +kernel
theorem dL_equivalent_9 : decode cL_equivalent 9 = .ok (.invokevirtual 56, 3) := by decide +kernel
theorem dL_equivalent_12 : decode cL_equivalent 12 = .ok (.i2l, 1) := by decide +kernel
theorem dL_equivalent_13 : decode cL_equivalent 13 = .ok (.lastore, 1) := by decide +kernel
theorem dL_equivalent_14 : decode cL_equivalent 14 = .ok (.goto 11, 3) := by decide +kernel
theorem dL_equivalent_17 : decode cL_equivalent 17 = .ok (.astore 6, 2) := by decide +kernel
theorem dL_equivalent_19 : decode cL_equivalent 19 = .ok (.iconst 1, 1) := by decide +kernel
theorem dL_equivalent_20 : decode cL_equivalent 20 = .ok (.ireturn, 1) := by decide +kernel
theorem dL_equivalent_21 : decode cL_equivalent 21 = .ok (.astore 6, 2) := by decide +kernel
theorem dL_equivalent_23 : decode cL_equivalent 23 = .ok (.iconst 2, 1) := by decide +kernel
theorem dL_equivalent_24 : decode cL_equivalent 24 = .ok (.ireturn, 1) := by decide +kernel
theorem dL_equivalent_25 : decode cL_equivalent 25 = .ok (.iconst 0, 1) := by decide +kernel
theorem dL_equivalent_26 : decode cL_equivalent 26 = .ok (.ireturn, 1) := by decide +kernel
theorem dL_strike_0 : decode cL_strike 0 = .ok (.aload_n 0, 1) := by decide +kernel
theorem dL_strike_1 : decode cL_strike 1 = .ok (.iload_n 1, 1) := by decide +kernel
theorem dL_strike_2 : decode cL_strike 2 = .ok (.invokevirtual 59, 3) := by decide +kernel
theorem dL_strike_5 : decode cL_strike 5 = .ok (.goto 9, 3) := by decide +kernel
theorem dL_strike_8 : decode cL_strike 8 = .ok (.astore_n 2, 1) := by decide +kernel
theorem dL_strike_9 : decode cL_strike 9 = .ok (.iconst 1, 1) := by decide +kernel
theorem dL_strike_10 : decode cL_strike 10 = .ok (.ireturn, 1) := by decide +kernel
theorem dL_strike_11 : decode cL_strike 11 = .ok (.astore_n 2, 1) := by decide +kernel
theorem dL_strike_12 : decode cL_strike 12 = .ok (.iconst 2, 1) := by decide +kernel
theorem dL_strike_13 : decode cL_strike 13 = .ok (.ireturn, 1) := by decide +kernel
theorem dL_strike_14 : decode cL_strike 14 = .ok (.iconst 0, 1) := by decide +kernel
theorem dL_strike_15 : decode cL_strike 15 = .ok (.ireturn, 1) := by decide +kernel
theorem dL_reopen_0 : decode cL_reopen 0 = .ok (.aload_n 0, 1) := by decide +kernel
theorem dL_reopen_1 : decode cL_reopen 1 = .ok (.iload_n 1, 1) := by decide +kernel
theorem dL_reopen_2 : decode cL_reopen 2 = .ok (.invokevirtual 65, 3) := by decide +kernel
theorem dL_reopen_5 : decode cL_reopen 5 = .ok (.goto 9, 3) := by decide +kernel
theorem dL_reopen_8 : decode cL_reopen 8 = .ok (.astore_n 2, 1) := by decide +kernel
theorem dL_reopen_9 : decode cL_reopen 9 = .ok (.iconst 1, 1) := by decide +kernel
theorem dL_reopen_10 : decode cL_reopen 10 = .ok (.ireturn, 1) := by decide +kernel
theorem dL_reopen_11 : decode cL_reopen 11 = .ok (.astore_n 2, 1) := by decide +kernel
theorem dL_reopen_12 : decode cL_reopen 12 = .ok (.iconst 2, 1) := by decide +kernel
theorem dL_reopen_13 : decode cL_reopen 13 = .ok (.ireturn, 1) := by decide +kernel
theorem dL_reopen_14 : decode cL_reopen 14 = .ok (.iconst 0, 1) := by decide +kernel
theorem dL_reopen_15 : decode cL_reopen 15 = .ok (.ireturn, 1) := by decide +kernel
theorem dL_account_0 : decode cL_account 0 = .ok (.aload 5, 2) := by decide +kernel
theorem dL_account_2 : decode cL_account 2 = .ok (.iconst 0, 1) := by decide +kernel
theorem dL_account_3 : decode cL_account 3 = .ok (.aload_n 0, 1) := by decide +kernel
theorem dL_account_4 : decode cL_account 4 = .ok (.iload_n 1, 1) := by decide +kernel
theorem dL_account_5 : decode cL_account 5 = .ok (.iload_n 2, 1) := by decide +kernel
theorem dL_account_6 : decode cL_account 6 = .ok (.iload_n 3, 1) := by decide +kernel
theorem dL_account_7 : decode cL_account 7 = .ok (.iload 4, 2) := by decide +kernel
theorem dL_account_9 : decode cL_account 9 = .ok (.invokevirtual 68, 3) := by decide +kernel
theorem dL_account_12 : decode cL_account 12 = .ok (.i2l, 1) := by decide +kernel
theorem dL_account_13 : decode cL_account 13 = .ok (.lastore, 1) := by decide +kernel
theorem dL_account_14 : decode cL_account 14 = .ok (.goto 7, 3) := by decide +kernel
theorem dL_account_17 : decode cL_account 17 = .ok (.astore 6, 2) := by decide +kernel
theorem dL_account_19 : decode cL_account 19 = .ok (.iconst 1, 1) := by decide +kernel
theorem dL_account_20 : decode cL_account 20 = .ok (.ireturn, 1) := by decide +kernel
theorem dL_account_21 : decode cL_account 21 = .ok (.iconst 0, 1) := by decide +kernel
theorem dL_account_22 : decode cL_account 22 = .ok (.ireturn, 1) := by decide +kernel
theorem dL_levy_0 : decode cL_levy 0 = .ok (.aload_n 3, 1) := by decide +kernel
theorem dL_levy_1 : decode cL_levy 1 = .ok (.iconst 0, 1) := by decide +kernel
theorem dL_levy_2 : decode cL_levy 2 = .ok (.aload_n 0, 1) := by decide +kernel
theorem dL_levy_3 : decode cL_levy 3 = .ok (.iload_n 1, 1) := by decide +kernel
theorem dL_levy_4 : decode cL_levy 4 = .ok (.iload_n 2, 1) := by decide +kernel
theorem dL_levy_5 : decode cL_levy 5 = .ok (.invokevirtual 71, 3) := by decide +kernel
theorem dL_levy_8 : decode cL_levy 8 = .ok (.lastore, 1) := by decide +kernel
theorem dL_levy_9 : decode cL_levy 9 = .ok (.goto 7, 3) := by decide +kernel
theorem dL_levy_12 : decode cL_levy 12 = .ok (.astore 4, 2) := by decide +kernel
theorem dL_levy_14 : decode cL_levy 14 = .ok (.iconst 1, 1) := by decide +kernel
theorem dL_levy_15 : decode cL_levy 15 = .ok (.ireturn, 1) := by decide +kernel
theorem dL_levy_16 : decode cL_levy 16 = .ok (.iconst 0, 1) := by decide +kernel
theorem dL_levy_17 : decode cL_levy 17 = .ok (.ireturn, 1) := by decide +kernel
theorem dL_held_0 : decode cL_held 0 = .ok (.aload 4, 2) := by decide +kernel
theorem dL_held_2 : decode cL_held 2 = .ok (.iconst 0, 1) := by decide +kernel
theorem dL_held_3 : decode cL_held 3 = .ok (.aload_n 0, 1) := by decide +kernel
theorem dL_held_4 : decode cL_held 4 = .ok (.iload_n 1, 1) := by decide +kernel
theorem dL_held_5 : decode cL_held 5 = .ok (.iload_n 2, 1) := by decide +kernel
theorem dL_held_6 : decode cL_held 6 = .ok (.iload_n 3, 1) := by decide +kernel
theorem dL_held_7 : decode cL_held 7 = .ok (.invokevirtual 75, 3) := by decide +kernel
theorem dL_held_10 : decode cL_held 10 = .ok (.i2l, 1) := by decide +kernel
theorem dL_held_11 : decode cL_held 11 = .ok (.lastore, 1) := by decide +kernel
theorem dL_held_12 : decode cL_held 12 = .ok (.goto 7, 3) := by decide +kernel
theorem dL_held_15 : decode cL_held 15 = .ok (.astore 5, 2) := by decide +kernel
theorem dL_held_17 : decode cL_held 17 = .ok (.iconst 1, 1) := by decide +kernel
theorem dL_held_18 : decode cL_held 18 = .ok (.ireturn, 1) := by decide +kernel
theorem dL_held_19 : decode cL_held 19 = .ok (.iconst 0, 1) := by decide +kernel
theorem dL_held_20 : decode cL_held 20 = .ok (.ireturn, 1) := by decide +kernel
theorem dL_event_0 : decode cL_event 0 = .ok (.aload_n 3, 1) := by decide +kernel
theorem dL_event_1 : decode cL_event 1 = .ok (.iconst 0, 1) := by decide +kernel
theorem dL_event_2 : decode cL_event 2 = .ok (.aload_n 0, 1) := by decide +kernel
theorem dL_event_3 : decode cL_event 3 = .ok (.iload_n 1, 1) := by decide +kernel
end
section
theorem dL_event_4 : decode cL_event 4 = .ok (.iload_n 2, 1) := by decide +kernel
theorem dL_event_5 : decode cL_event 5 = .ok (.invokevirtual 78, 3) := by decide +kernel
theorem dL_event_8 : decode cL_event 8 = .ok (.i2l, 1) := by decide +kernel
theorem dL_event_9 : decode cL_event 9 = .ok (.lastore, 1) := by decide +kernel
theorem dL_event_10 : decode cL_event 10 = .ok (.goto 11, 3) := by decide +kernel
theorem dL_event_13 : decode cL_event 13 = .ok (.astore 4, 2) := by decide +kernel
theorem dL_event_15 : decode cL_event 15 = .ok (.iconst 1, 1) := by decide +kernel
theorem dL_event_16 : decode cL_event 16 = .ok (.ireturn, 1) := by decide +kernel
theorem dL_event_17 : decode cL_event 17 = .ok (.astore 4, 2) := by decide +kernel
theorem dL_event_19 : decode cL_event 19 = .ok (.iconst 2, 1) := by decide +kernel
theorem dL_event_20 : decode cL_event 20 = .ok (.ireturn, 1) := by decide +kernel
theorem dL_event_21 : decode cL_event 21 = .ok (.iconst 0, 1) := by decide +kernel
theorem dL_event_22 : decode cL_event 22 = .ok (.ireturn, 1) := by decide +kernel
theorem dL_about_0 : decode cL_about 0 = .ok (.aload_n 2, 1) := by decide +kernel
theorem dL_about_1 : decode cL_about 1 = .ok (.iconst 0, 1) := by decide +kernel
theorem dL_about_2 : decode cL_about 2 = .ok (.aload_n 0, 1) := by decide +kernel
theorem dL_about_3 : decode cL_about 3 = .ok (.iload_n 1, 1) := by decide +kernel
theorem dL_about_4 : decode cL_about 4 = .ok (.invokevirtual 82, 3) := by decide +kernel
theorem dL_about_7 : decode cL_about 7 = .ok (.i2l, 1) := by decide +kernel
theorem dL_about_8 : decode cL_about 8 = .ok (.lastore, 1) := by decide +kernel
theorem dL_about_9 : decode cL_about 9 = .ok (.goto 6, 3) := by decide +kernel
theorem dL_about_12 : decode cL_about 12 = .ok (.astore_n 3, 1) := by decide +kernel
theorem dL_about_13 : decode cL_about 13 = .ok (.iconst 1, 1) := by decide +kernel
theorem dL_about_14 : decode cL_about 14 = .ok (.ireturn, 1) := by decide +kernel
theorem dL_about_15 : decode cL_about 15 = .ok (.iconst 0, 1) := by decide +kernel
theorem dL_about_16 : decode cL_about 16 = .ok (.ireturn, 1) := by decide +kernel
theorem dL_law_0 : decode cL_law 0 = .ok (.new 8, 3) := by decide +kernel
theorem dL_law_3 : decode cL_law 3 = .ok (.dup, 1) := by decide +kernel
theorem dL_law_4 : decode cL_law 4 = .ok (.invokespecial 86, 3) := by decide +kernel
theorem dL_law_7 : decode cL_law 7 = .ok (.astore_n 1, 1) := by decide +kernel
theorem dL_law_8 : decode cL_law 8 = .ok (.new 87, 3) := by decide +kernel
theorem dL_law_11 : decode cL_law 11 = .ok (.dup, 1) := by decide +kernel
theorem dL_law_12 : decode cL_law 12 = .ok (.invokespecial 89, 3) := by decide +kernel
theorem dL_law_15 : decode cL_law 15 = .ok (.astore_n 2, 1) := by decide +kernel
theorem dL_law_16 : decode cL_law 16 = .ok (.iconst 1, 1) := by decide +kernel
theorem dL_law_17 : decode cL_law 17 = .ok (.newarray .long, 2) := by decide +kernel
theorem dL_law_19 : decode cL_law 19 = .ok (.astore_n 3, 1) := by decide +kernel
theorem dL_law_20 : decode cL_law 20 = .ok (.iconst 0, 1) := by decide +kernel
theorem dL_law_21 : decode cL_law 21 = .ok (.istore 4, 2) := by decide +kernel
theorem dL_law_23 : decode cL_law 23 = .ok (.iload 4, 2) := by decide +kernel
theorem dL_law_25 : decode cL_law 25 = .ok (.aload_n 0, 1) := by decide +kernel
theorem dL_law_26 : decode cL_law 26 = .ok (.arraylength, 1) := by decide +kernel
theorem dL_law_27 : decode cL_law 27 = .ok (.bipush 7, 2) := by decide +kernel
theorem dL_law_29 : decode cL_law 29 = .ok (.isub, 1) := by decide +kernel
theorem dL_law_30 : decode cL_law 30 = .ok (.if_icmp .gt 1497, 3) := by decide +kernel
theorem dL_law_33 : decode cL_law 33 = .ok (.aload_n 0, 1) := by decide +kernel
theorem dL_law_34 : decode cL_law 34 = .ok (.iload 4, 2) := by decide +kernel
theorem dL_law_36 : decode cL_law 36 = .ok (.iaload, 1) := by decide +kernel
theorem dL_law_37 : decode cL_law 37 = .ok (.bipush 31, 2) := by decide +kernel
theorem dL_law_39 : decode cL_law 39 = .ok (.iand, 1) := by decide +kernel
theorem dL_law_40 : decode cL_law 40 = .ok (.tableswitch 1481 0 19 #[96, 156, 216, 264, 312, 360, 440, 512, 592, 684, 728, 820, 954, 1046, 1082, 1118, 1210, 1277, 1357, 1425], 96) := by decide +kernel
theorem dL_law_136 : decode cL_law 136 = .ok (.aload_n 1, 1) := by decide +kernel
theorem dL_law_137 : decode cL_law 137 = .ok (.aload_n 0, 1) := by decide +kernel
theorem dL_law_138 : decode cL_law 138 = .ok (.iload 4, 2) := by decide +kernel
theorem dL_law_140 : decode cL_law 140 = .ok (.iconst 1, 1) := by decide +kernel
theorem dL_law_141 : decode cL_law 141 = .ok (.iadd, 1) := by decide +kernel
theorem dL_law_142 : decode cL_law 142 = .ok (.iaload, 1) := by decide +kernel
theorem dL_law_143 : decode cL_law 143 = .ok (.aload_n 0, 1) := by decide +kernel
theorem dL_law_144 : decode cL_law 144 = .ok (.iload 4, 2) := by decide +kernel
theorem dL_law_146 : decode cL_law 146 = .ok (.iconst 2, 1) := by decide +kernel
theorem dL_law_147 : decode cL_law 147 = .ok (.iadd, 1) := by decide +kernel
theorem dL_law_148 : decode cL_law 148 = .ok (.iaload, 1) := by decide +kernel
theorem dL_law_149 : decode cL_law 149 = .ok (.aload_n 0, 1) := by decide +kernel
theorem dL_law_150 : decode cL_law 150 = .ok (.iload 4, 2) := by decide +kernel
theorem dL_law_152 : decode cL_law 152 = .ok (.iconst 3, 1) := by decide +kernel
theorem dL_law_153 : decode cL_law 153 = .ok (.iadd, 1) := by decide +kernel
theorem dL_law_154 : decode cL_law 154 = .ok (.iaload, 1) := by decide +kernel
theorem dL_law_155 : decode cL_law 155 = .ok (.invokestatic 90, 3) := by decide +kernel
theorem dL_law_158 : decode cL_law 158 = .ok (.istore 5, 2) := by decide +kernel
theorem dL_law_160 : decode cL_law 160 = .ok (.aload_n 2, 1) := by decide +kernel
theorem dL_law_161 : decode cL_law 161 = .ok (.aload_n 0, 1) := by decide +kernel
theorem dL_law_162 : decode cL_law 162 = .ok (.iload 4, 2) := by decide +kernel
theorem dL_law_164 : decode cL_law 164 = .ok (.iconst 1, 1) := by decide +kernel
theorem dL_law_165 : decode cL_law 165 = .ok (.iadd, 1) := by decide +kernel
theorem dL_law_166 : decode cL_law 166 = .ok (.iaload, 1) := by decide +kernel
theorem dL_law_167 : decode cL_law 167 = .ok (.aload_n 0, 1) := by decide +kernel
theorem dL_law_168 : decode cL_law 168 = .ok (.iload 4, 2) := by decide +kernel
theorem dL_law_170 : decode cL_law 170 = .ok (.iconst 2, 1) := by decide +kernel
theorem dL_law_171 : decode cL_law 171 = .ok (.iadd, 1) := by decide +kernel
theorem dL_law_172 : decode cL_law 172 = .ok (.iaload, 1) := by decide +kernel
theorem dL_law_173 : decode cL_law 173 = .ok (.aload_n 0, 1) := by decide +kernel
theorem dL_law_174 : decode cL_law 174 = .ok (.iload 4, 2) := by decide +kernel
theorem dL_law_176 : decode cL_law 176 = .ok (.iconst 3, 1) := by decide +kernel
theorem dL_law_177 : decode cL_law 177 = .ok (.iadd, 1) := by decide +kernel
theorem dL_law_178 : decode cL_law 178 = .ok (.iaload, 1) := by decide +kernel
theorem dL_law_179 : decode cL_law 179 = .ok (.invokevirtual 95, 3) := by decide +kernel
theorem dL_law_182 : decode cL_law 182 = .ok (.aload_n 2, 1) := by decide +kernel
theorem dL_law_183 : decode cL_law 183 = .ok (.invokevirtual 96, 3) := by decide +kernel
theorem dL_law_186 : decode cL_law 186 = .ok (.iload 5, 2) := by decide +kernel
theorem dL_law_188 : decode cL_law 188 = .ok (.if_icmp .eq 5, 3) := by decide +kernel
theorem dL_law_191 : decode cL_law 191 = .ok (.iconst 0, 1) := by decide +kernel
theorem dL_law_192 : decode cL_law 192 = .ok (.ireturn, 1) := by decide +kernel
theorem dL_law_193 : decode cL_law 193 = .ok (.goto 1328, 3) := by decide +kernel
theorem dL_law_196 : decode cL_law 196 = .ok (.aload_n 1, 1) := by decide +kernel
theorem dL_law_197 : decode cL_law 197 = .ok (.aload_n 0, 1) := by decide +kernel
theorem dL_law_198 : decode cL_law 198 = .ok (.iload 4, 2) := by decide +kernel
theorem dL_law_200 : decode cL_law 200 = .ok (.iconst 1, 1) := by decide +kernel
theorem dL_law_201 : decode cL_law 201 = .ok (.iadd, 1) := by decide +kernel
theorem dL_law_202 : decode cL_law 202 = .ok (.iaload, 1) := by decide +kernel
theorem dL_law_203 : decode cL_law 203 = .ok (.aload_n 0, 1) := by decide +kernel
theorem dL_law_204 : decode cL_law 204 = .ok (.iload 4, 2) := by decide +kernel
theorem dL_law_206 : decode cL_law 206 = .ok (.iconst 2, 1) := by decide +kernel
theorem dL_law_207 : decode cL_law 207 = .ok (.iadd, 1) := by decide +kernel
theorem dL_law_208 : decode cL_law 208 = .ok (.iaload, 1) := by decide +kernel
theorem dL_law_209 : decode cL_law 209 = .ok (.aload_n 0, 1) := by decide +kernel
theorem dL_law_210 : decode cL_law 210 = .ok (.iload 4, 2) := by decide +kernel
theorem dL_law_212 : decode cL_law 212 = .ok (.iconst 3, 1) := by decide +kernel
theorem dL_law_213 : decode cL_law 213 = .ok (.iadd, 1) := by decide +kernel
theorem dL_law_214 : decode cL_law 214 = .ok (.iaload, 1) := by decide +kernel
theorem dL_law_215 : decode cL_law 215 = .ok (.invokestatic 99, 3) := by decide +kernel
theorem dL_law_218 : decode cL_law 218 = .ok (.istore 5, 2) := by decide +kernel
theorem dL_law_220 : decode cL_law 220 = .ok (.aload_n 2, 1) := by decide +kernel
theorem dL_law_221 : decode cL_law 221 = .ok (.aload_n 0, 1) := by decide +kernel
theorem dL_law_222 : decode cL_law 222 = .ok (.iload 4, 2) := by decide +kernel
theorem dL_law_224 : decode cL_law 224 = .ok (.iconst 1, 1) := by decide +kernel
theorem dL_law_225 : decode cL_law 225 = .ok (.iadd, 1) := by decide +kernel
theorem dL_law_226 : decode cL_law 226 = .ok (.iaload, 1) := by decide +kernel
theorem dL_law_227 : decode cL_law 227 = .ok (.aload_n 0, 1) := by decide +kernel
theorem dL_law_228 : decode cL_law 228 = .ok (.iload 4, 2) := by decide +kernel
theorem dL_law_230 : decode cL_law 230 = .ok (.iconst 2, 1) := by decide +kernel
theorem dL_law_231 : decode cL_law 231 = .ok (.iadd, 1) := by decide +kernel
theorem dL_law_232 : decode cL_law 232 = .ok (.iaload, 1) := by decide +kernel
theorem dL_law_233 : decode cL_law 233 = .ok (.aload_n 0, 1) := by decide +kernel
theorem dL_law_234 : decode cL_law 234 = .ok (.iload 4, 2) := by decide +kernel
theorem dL_law_236 : decode cL_law 236 = .ok (.iconst 3, 1) := by decide +kernel
theorem dL_law_237 : decode cL_law 237 = .ok (.iadd, 1) := by decide +kernel
theorem dL_law_238 : decode cL_law 238 = .ok (.iaload, 1) := by decide +kernel
theorem dL_law_239 : decode cL_law 239 = .ok (.invokevirtual 101, 3) := by decide +kernel
theorem dL_law_242 : decode cL_law 242 = .ok (.aload_n 2, 1) := by decide +kernel
theorem dL_law_243 : decode cL_law 243 = .ok (.invokevirtual 96, 3) := by decide +kernel
theorem dL_law_246 : decode cL_law 246 = .ok (.iload 5, 2) := by decide +kernel
theorem dL_law_248 : decode cL_law 248 = .ok (.if_icmp .eq 5, 3) := by decide +kernel
theorem dL_law_251 : decode cL_law 251 = .ok (.iconst 0, 1) := by decide +kernel
theorem dL_law_252 : decode cL_law 252 = .ok (.ireturn, 1) := by decide +kernel
theorem dL_law_253 : decode cL_law 253 = .ok (.goto 1268, 3) := by decide +kernel
theorem dL_law_256 : decode cL_law 256 = .ok (.aload_n 1, 1) := by decide +kernel
theorem dL_law_257 : decode cL_law 257 = .ok (.aload_n 0, 1) := by decide +kernel
theorem dL_law_258 : decode cL_law 258 = .ok (.iload 4, 2) := by decide +kernel
theorem dL_law_260 : decode cL_law 260 = .ok (.iconst 1, 1) := by decide +kernel
theorem dL_law_261 : decode cL_law 261 = .ok (.iadd, 1) := by decide +kernel
theorem dL_law_262 : decode cL_law 262 = .ok (.iaload, 1) := by decide +kernel
theorem dL_law_263 : decode cL_law 263 = .ok (.aload_n 0, 1) := by decide +kernel
theorem dL_law_264 : decode cL_law 264 = .ok (.iload 4, 2) := by decide +kernel
theorem dL_law_266 : decode cL_law 266 = .ok (.iconst 2, 1) := by decide +kernel
theorem dL_law_267 : decode cL_law 267 = .ok (.iadd, 1) := by decide +kernel
theorem dL_law_268 : decode cL_law 268 = .ok (.iaload, 1) := by decide +kernel
theorem dL_law_269 : decode cL_law 269 = .ok (.invokestatic 102, 3) := by decide +kernel
theorem dL_law_272 : decode cL_law 272 = .ok (.istore 5, 2) := by decide +kernel
theorem dL_law_274 : decode cL_law 274 = .ok (.aload_n 2, 1) := by decide +kernel
theorem dL_law_275 : decode cL_law 275 = .ok (.aload_n 0, 1) := by decide +kernel
theorem dL_law_276 : decode cL_law 276 = .ok (.iload 4, 2) := by decide +kernel
theorem dL_law_278 : decode cL_law 278 = .ok (.iconst 1, 1) := by decide +kernel
theorem dL_law_279 : decode cL_law 279 = .ok (.iadd, 1) := by decide +kernel
theorem dL_law_280 : decode cL_law 280 = .ok (.iaload, 1) := by decide +kernel
theorem dL_law_281 : decode cL_law 281 = .ok (.aload_n 0, 1) := by decide +kernel
theorem dL_law_282 : decode cL_law 282 = .ok (.iload 4, 2) := by decide +kernel
theorem dL_law_284 : decode cL_law 284 = .ok (.iconst 2, 1) := by decide +kernel
theorem dL_law_285 : decode cL_law 285 = .ok (.iadd, 1) := by decide +kernel
theorem dL_law_286 : decode cL_law 286 = .ok (.iaload, 1) := by decide +kernel
theorem dL_law_287 : decode cL_law 287 = .ok (.invokevirtual 105, 3) := by decide +kernel
theorem dL_law_290 : decode cL_law 290 = .ok (.aload_n 2, 1) := by decide +kernel
theorem dL_law_291 : decode cL_law 291 = .ok (.invokevirtual 96, 3) := by decide +kernel
theorem dL_law_294 : decode cL_law 294 = .ok (.iload 5, 2) := by decide +kernel
theorem dL_law_296 : decode cL_law 296 = .ok (.if_icmp .eq 5, 3) := by decide +kernel
theorem dL_law_299 : decode cL_law 299 = .ok (.iconst 0, 1) := by decide +kernel
theorem dL_law_300 : decode cL_law 300 = .ok (.ireturn, 1) := by decide +kernel
theorem dL_law_301 : decode cL_law 301 = .ok (.goto 1220, 3) := by decide +kernel
theorem dL_law_304 : decode cL_law 304 = .ok (.aload_n 1, 1) := by decide +kernel
theorem dL_law_305 : decode cL_law 305 = .ok (.aload_n 0, 1) := by decide +kernel
theorem dL_law_306 : decode cL_law 306 = .ok (.iload 4, 2) := by decide +kernel
theorem dL_law_308 : decode cL_law 308 = .ok (.iconst 1, 1) := by decide +kernel
theorem dL_law_309 : decode cL_law 309 = .ok (.iadd, 1) := by decide +kernel
theorem dL_law_310 : decode cL_law 310 = .ok (.iaload, 1) := by decide +kernel
theorem dL_law_311 : decode cL_law 311 = .ok (.aload_n 0, 1) := by decide +kernel
theorem dL_law_312 : decode cL_law 312 = .ok (.iload 4, 2) := by decide +kernel
theorem dL_law_314 : decode cL_law 314 = .ok (.iconst 2, 1) := by decide +kernel
theorem dL_law_315 : decode cL_law 315 = .ok (.iadd, 1) := by decide +kernel
theorem dL_law_316 : decode cL_law 316 = .ok (.iaload, 1) := by decide +kernel
theorem dL_law_317 : decode cL_law 317 = .ok (.invokestatic 106, 3) := by decide +kernel
theorem dL_law_320 : decode cL_law 320 = .ok (.istore 5, 2) := by decide +kernel
theorem dL_law_322 : decode cL_law 322 = .ok (.aload_n 2, 1) := by decide +kernel
theorem dL_law_323 : decode cL_law 323 = .ok (.aload_n 0, 1) := by decide +kernel
theorem dL_law_324 : decode cL_law 324 = .ok (.iload 4, 2) := by decide +kernel
theorem dL_law_326 : decode cL_law 326 = .ok (.iconst 1, 1) := by decide +kernel
theorem dL_law_327 : decode cL_law 327 = .ok (.iadd, 1) := by decide +kernel
theorem dL_law_328 : decode cL_law 328 = .ok (.iaload, 1) := by decide +kernel
theorem dL_law_329 : decode cL_law 329 = .ok (.aload_n 0, 1) := by decide +kernel
theorem dL_law_330 : decode cL_law 330 = .ok (.iload 4, 2) := by decide +kernel
theorem dL_law_332 : decode cL_law 332 = .ok (.iconst 2, 1) := by decide +kernel
theorem dL_law_333 : decode cL_law 333 = .ok (.iadd, 1) := by decide +kernel
theorem dL_law_334 : decode cL_law 334 = .ok (.iaload, 1) := by decide +kernel
theorem dL_law_335 : decode cL_law 335 = .ok (.invokevirtual 108, 3) := by decide +kernel
theorem dL_law_338 : decode cL_law 338 = .ok (.aload_n 2, 1) := by decide +kernel
theorem dL_law_339 : decode cL_law 339 = .ok (.invokevirtual 96, 3) := by decide +kernel
theorem dL_law_342 : decode cL_law 342 = .ok (.iload 5, 2) := by decide +kernel
theorem dL_law_344 : decode cL_law 344 = .ok (.if_icmp .eq 5, 3) := by decide +kernel
theorem dL_law_347 : decode cL_law 347 = .ok (.iconst 0, 1) := by decide +kernel
theorem dL_law_348 : decode cL_law 348 = .ok (.ireturn, 1) := by decide +kernel
theorem dL_law_349 : decode cL_law 349 = .ok (.goto 1172, 3) := by decide +kernel
theorem dL_law_352 : decode cL_law 352 = .ok (.aload_n 1, 1) := by decide +kernel
theorem dL_law_353 : decode cL_law 353 = .ok (.aload_n 0, 1) := by decide +kernel
theorem dL_law_354 : decode cL_law 354 = .ok (.iload 4, 2) := by decide +kernel
theorem dL_law_356 : decode cL_law 356 = .ok (.iconst 1, 1) := by decide +kernel
theorem dL_law_357 : decode cL_law 357 = .ok (.iadd, 1) := by decide +kernel
theorem dL_law_358 : decode cL_law 358 = .ok (.iaload, 1) := by decide +kernel
theorem dL_law_359 : decode cL_law 359 = .ok (.aload_n 0, 1) := by decide +kernel
theorem dL_law_360 : decode cL_law 360 = .ok (.iload 4, 2) := by decide +kernel
theorem dL_law_362 : decode cL_law 362 = .ok (.iconst 2, 1) := by decide +kernel
theorem dL_law_363 : decode cL_law 363 = .ok (.iadd, 1) := by decide +kernel
theorem dL_law_364 : decode cL_law 364 = .ok (.iaload, 1) := by decide +kernel
theorem dL_law_365 : decode cL_law 365 = .ok (.invokestatic 109, 3) := by decide +kernel
theorem dL_law_368 : decode cL_law 368 = .ok (.istore 5, 2) := by decide +kernel
theorem dL_law_370 : decode cL_law 370 = .ok (.aload_n 2, 1) := by decide +kernel
theorem dL_law_371 : decode cL_law 371 = .ok (.aload_n 0, 1) := by decide +kernel
theorem dL_law_372 : decode cL_law 372 = .ok (.iload 4, 2) := by decide +kernel
theorem dL_law_374 : decode cL_law 374 = .ok (.iconst 1, 1) := by decide +kernel
theorem dL_law_375 : decode cL_law 375 = .ok (.iadd, 1) := by decide +kernel
theorem dL_law_376 : decode cL_law 376 = .ok (.iaload, 1) := by decide +kernel
theorem dL_law_377 : decode cL_law 377 = .ok (.aload_n 0, 1) := by decide +kernel
theorem dL_law_378 : decode cL_law 378 = .ok (.iload 4, 2) := by decide +kernel
theorem dL_law_380 : decode cL_law 380 = .ok (.iconst 2, 1) := by decide +kernel
theorem dL_law_381 : decode cL_law 381 = .ok (.iadd, 1) := by decide +kernel
theorem dL_law_382 : decode cL_law 382 = .ok (.iaload, 1) := by decide +kernel
theorem dL_law_383 : decode cL_law 383 = .ok (.invokevirtual 111, 3) := by decide +kernel
theorem dL_law_386 : decode cL_law 386 = .ok (.aload_n 2, 1) := by decide +kernel
theorem dL_law_387 : decode cL_law 387 = .ok (.invokevirtual 96, 3) := by decide +kernel
theorem dL_law_390 : decode cL_law 390 = .ok (.iload 5, 2) := by decide +kernel
theorem dL_law_392 : decode cL_law 392 = .ok (.if_icmp .eq 5, 3) := by decide +kernel
theorem dL_law_395 : decode cL_law 395 = .ok (.iconst 0, 1) := by decide +kernel
theorem dL_law_396 : decode cL_law 396 = .ok (.ireturn, 1) := by decide +kernel
theorem dL_law_397 : decode cL_law 397 = .ok (.goto 1124, 3) := by decide +kernel
theorem dL_law_400 : decode cL_law 400 = .ok (.aload_n 1, 1) := by decide +kernel
theorem dL_law_401 : decode cL_law 401 = .ok (.aload_n 0, 1) := by decide +kernel
theorem dL_law_402 : decode cL_law 402 = .ok (.iload 4, 2) := by decide +kernel
theorem dL_law_404 : decode cL_law 404 = .ok (.iconst 1, 1) := by decide +kernel
theorem dL_law_405 : decode cL_law 405 = .ok (.iadd, 1) := by decide +kernel
theorem dL_law_406 : decode cL_law 406 = .ok (.iaload, 1) := by decide +kernel
theorem dL_law_407 : decode cL_law 407 = .ok (.aload_n 0, 1) := by decide +kernel
theorem dL_law_408 : decode cL_law 408 = .ok (.iload 4, 2) := by decide +kernel
theorem dL_law_410 : decode cL_law 410 = .ok (.iconst 2, 1) := by decide +kernel
theorem dL_law_411 : decode cL_law 411 = .ok (.iadd, 1) := by decide +kernel
theorem dL_law_412 : decode cL_law 412 = .ok (.iaload, 1) := by decide +kernel
theorem dL_law_413 : decode cL_law 413 = .ok (.aload_n 0, 1) := by decide +kernel
theorem dL_law_414 : decode cL_law 414 = .ok (.iload 4, 2) := by decide +kernel
theorem dL_law_416 : decode cL_law 416 = .ok (.iconst 3, 1) := by decide +kernel
theorem dL_law_417 : decode cL_law 417 = .ok (.iadd, 1) := by decide +kernel
theorem dL_law_418 : decode cL_law 418 = .ok (.iaload, 1) := by decide +kernel
theorem dL_law_419 : decode cL_law 419 = .ok (.aload_n 3, 1) := by decide +kernel
theorem dL_law_420 : decode cL_law 420 = .ok (.invokestatic 112, 3) := by decide +kernel
theorem dL_law_423 : decode cL_law 423 = .ok (.istore 5, 2) := by decide +kernel
theorem dL_law_425 : decode cL_law 425 = .ok (.aload_n 2, 1) := by decide +kernel
theorem dL_law_426 : decode cL_law 426 = .ok (.aload_n 0, 1) := by decide +kernel
theorem dL_law_427 : decode cL_law 427 = .ok (.iload 4, 2) := by decide +kernel
theorem dL_law_429 : decode cL_law 429 = .ok (.iconst 1, 1) := by decide +kernel
theorem dL_law_430 : decode cL_law 430 = .ok (.iadd, 1) := by decide +kernel
theorem dL_law_431 : decode cL_law 431 = .ok (.iaload, 1) := by decide +kernel
theorem dL_law_432 : decode cL_law 432 = .ok (.aload_n 0, 1) := by decide +kernel
theorem dL_law_433 : decode cL_law 433 = .ok (.iload 4, 2) := by decide +kernel
theorem dL_law_435 : decode cL_law 435 = .ok (.iconst 2, 1) := by decide +kernel
theorem dL_law_436 : decode cL_law 436 = .ok (.iadd, 1) := by decide +kernel
theorem dL_law_437 : decode cL_law 437 = .ok (.iaload, 1) := by decide +kernel
theorem dL_law_438 : decode cL_law 438 = .ok (.aload_n 0, 1) := by decide +kernel
theorem dL_law_439 : decode cL_law 439 = .ok (.iload 4, 2) := by decide +kernel
theorem dL_law_441 : decode cL_law 441 = .ok (.iconst 3, 1) := by decide +kernel
theorem dL_law_442 : decode cL_law 442 = .ok (.iadd, 1) := by decide +kernel
theorem dL_law_443 : decode cL_law 443 = .ok (.iaload, 1) := by decide +kernel
theorem dL_law_444 : decode cL_law 444 = .ok (.invokevirtual 115, 3) := by decide +kernel
theorem dL_law_447 : decode cL_law 447 = .ok (.istore 6, 2) := by decide +kernel
theorem dL_law_449 : decode cL_law 449 = .ok (.aload_n 2, 1) := by decide +kernel
theorem dL_law_450 : decode cL_law 450 = .ok (.invokevirtual 96, 3) := by decide +kernel
theorem dL_law_453 : decode cL_law 453 = .ok (.iload 5, 2) := by decide +kernel
theorem dL_law_455 : decode cL_law 455 = .ok (.if_icmp .eq 5, 3) := by decide +kernel
theorem dL_law_458 : decode cL_law 458 = .ok (.iconst 0, 1) := by decide +kernel
theorem dL_law_459 : decode cL_law 459 = .ok (.ireturn, 1) := by decide +kernel
theorem dL_law_460 : decode cL_law 460 = .ok (.iload 5, 2) := by decide +kernel
theorem dL_law_462 : decode cL_law 462 = .ok (.ifCond .ne 15, 3) := by decide +kernel
theorem dL_law_465 : decode cL_law 465 = .ok (.aload_n 3, 1) := by decide +kernel
theorem dL_law_466 : decode cL_law 466 = .ok (.iconst 0, 1) := by decide +kernel
theorem dL_law_467 : decode cL_law 467 = .ok (.laload, 1) := by decide +kernel
theorem dL_law_468 : decode cL_law 468 = .ok (.iload 6, 2) := by decide +kernel
theorem dL_law_470 : decode cL_law 470 = .ok (.i2l, 1) := by decide +kernel
theorem dL_law_471 : decode cL_law 471 = .ok (.lcmp, 1) := by decide +kernel
theorem dL_law_472 : decode cL_law 472 = .ok (.ifCond .eq 5, 3) := by decide +kernel
theorem dL_law_475 : decode cL_law 475 = .ok (.iconst 0, 1) := by decide +kernel
theorem dL_law_476 : decode cL_law 476 = .ok (.ireturn, 1) := by decide +kernel
theorem dL_law_477 : decode cL_law 477 = .ok (.goto 1044, 3) := by decide +kernel
theorem dL_law_480 : decode cL_law 480 = .ok (.aload_n 1, 1) := by decide +kernel
theorem dL_law_481 : decode cL_law 481 = .ok (.aload_n 0, 1) := by decide +kernel
theorem dL_law_482 : decode cL_law 482 = .ok (.iload 4, 2) := by decide +kernel
theorem dL_law_484 : decode cL_law 484 = .ok (.iconst 1, 1) := by decide +kernel
theorem dL_law_485 : decode cL_law 485 = .ok (.iadd, 1) := by decide +kernel
theorem dL_law_486 : decode cL_law 486 = .ok (.iaload, 1) := by decide +kernel
theorem dL_law_487 : decode cL_law 487 = .ok (.aload_n 0, 1) := by decide +kernel
theorem dL_law_488 : decode cL_law 488 = .ok (.iload 4, 2) := by decide +kernel
theorem dL_law_490 : decode cL_law 490 = .ok (.iconst 2, 1) := by decide +kernel
theorem dL_law_491 : decode cL_law 491 = .ok (.iadd, 1) := by decide +kernel
theorem dL_law_492 : decode cL_law 492 = .ok (.iaload, 1) := by decide +kernel
theorem dL_law_493 : decode cL_law 493 = .ok (.aload_n 0, 1) := by decide +kernel
theorem dL_law_494 : decode cL_law 494 = .ok (.iload 4, 2) := by decide +kernel
theorem dL_law_496 : decode cL_law 496 = .ok (.iconst 3, 1) := by decide +kernel
theorem dL_law_497 : decode cL_law 497 = .ok (.iadd, 1) := by decide +kernel
theorem dL_law_498 : decode cL_law 498 = .ok (.iaload, 1) := by decide +kernel
theorem dL_law_499 : decode cL_law 499 = .ok (.aload_n 0, 1) := by decide +kernel
theorem dL_law_500 : decode cL_law 500 = .ok (.iload 4, 2) := by decide +kernel
theorem dL_law_502 : decode cL_law 502 = .ok (.iconst 4, 1) := by decide +kernel
theorem dL_law_503 : decode cL_law 503 = .ok (.iadd, 1) := by decide +kernel
theorem dL_law_504 : decode cL_law 504 = .ok (.iaload, 1) := by decide +kernel
theorem dL_law_505 : decode cL_law 505 = .ok (.invokestatic 116, 3) := by decide +kernel
theorem dL_law_508 : decode cL_law 508 = .ok (.istore 5, 2) := by decide +kernel
theorem dL_law_510 : decode cL_law 510 = .ok (.aload_n 2, 1) := by decide +kernel
theorem dL_law_511 : decode cL_law 511 = .ok (.aload_n 0, 1) := by decide +kernel
theorem dL_law_512 : decode cL_law 512 = .ok (.iload 4, 2) := by decide +kernel
theorem dL_law_514 : decode cL_law 514 = .ok (.iconst 1, 1) := by decide +kernel
theorem dL_law_515 : decode cL_law 515 = .ok (.iadd, 1) := by decide +kernel
theorem dL_law_516 : decode cL_law 516 = .ok (.iaload, 1) := by decide +kernel
theorem dL_law_517 : decode cL_law 517 = .ok (.aload_n 0, 1) := by decide +kernel
theorem dL_law_518 : decode cL_law 518 = .ok (.iload 4, 2) := by decide +kernel
theorem dL_law_520 : decode cL_law 520 = .ok (.iconst 2, 1) := by decide +kernel
theorem dL_law_521 : decode cL_law 521 = .ok (.iadd, 1) := by decide +kernel
theorem dL_law_522 : decode cL_law 522 = .ok (.iaload, 1) := by decide +kernel
theorem dL_law_523 : decode cL_law 523 = .ok (.aload_n 0, 1) := by decide +kernel
theorem dL_law_524 : decode cL_law 524 = .ok (.iload 4, 2) := by decide +kernel
theorem dL_law_526 : decode cL_law 526 = .ok (.iconst 3, 1) := by decide +kernel
theorem dL_law_527 : decode cL_law 527 = .ok (.iadd, 1) := by decide +kernel
theorem dL_law_528 : decode cL_law 528 = .ok (.iaload, 1) := by decide +kernel
theorem dL_law_529 : decode cL_law 529 = .ok (.aload_n 0, 1) := by decide +kernel
theorem dL_law_530 : decode cL_law 530 = .ok (.iload 4, 2) := by decide +kernel
theorem dL_law_532 : decode cL_law 532 = .ok (.iconst 4, 1) := by decide +kernel
theorem dL_law_533 : decode cL_law 533 = .ok (.iadd, 1) := by decide +kernel
theorem dL_law_534 : decode cL_law 534 = .ok (.iaload, 1) := by decide +kernel
theorem dL_law_535 : decode cL_law 535 = .ok (.invokevirtual 119, 3) := by decide +kernel
theorem dL_law_538 : decode cL_law 538 = .ok (.aload_n 2, 1) := by decide +kernel
theorem dL_law_539 : decode cL_law 539 = .ok (.invokevirtual 96, 3) := by decide +kernel
theorem dL_law_542 : decode cL_law 542 = .ok (.iload 5, 2) := by decide +kernel
theorem dL_law_544 : decode cL_law 544 = .ok (.if_icmp .eq 5, 3) := by decide +kernel
theorem dL_law_547 : decode cL_law 547 = .ok (.iconst 0, 1) := by decide +kernel
theorem dL_law_548 : decode cL_law 548 = .ok (.ireturn, 1) := by decide +kernel
theorem dL_law_549 : decode cL_law 549 = .ok (.goto 972, 3) := by decide +kernel
theorem dL_law_552 : decode cL_law 552 = .ok (.aload_n 1, 1) := by decide +kernel
theorem dL_law_553 : decode cL_law 553 = .ok (.aload_n 0, 1) := by decide +kernel
theorem dL_law_554 : decode cL_law 554 = .ok (.iload 4, 2) := by decide +kernel
theorem dL_law_556 : decode cL_law 556 = .ok (.iconst 1, 1) := by decide +kernel
theorem dL_law_557 : decode cL_law 557 = .ok (.iadd, 1) := by decide +kernel
theorem dL_law_558 : decode cL_law 558 = .ok (.iaload, 1) := by decide +kernel
theorem dL_law_559 : decode cL_law 559 = .ok (.aload_n 0, 1) := by decide +kernel
theorem dL_law_560 : decode cL_law 560 = .ok (.iload 4, 2) := by decide +kernel
theorem dL_law_562 : decode cL_law 562 = .ok (.iconst 2, 1) := by decide +kernel
theorem dL_law_563 : decode cL_law 563 = .ok (.iadd, 1) := by decide +kernel
theorem dL_law_564 : decode cL_law 564 = .ok (.iaload, 1) := by decide +kernel
theorem dL_law_565 : decode cL_law 565 = .ok (.aload_n 0, 1) := by decide +kernel
theorem dL_law_566 : decode cL_law 566 = .ok (.iload 4, 2) := by decide +kernel
theorem dL_law_568 : decode cL_law 568 = .ok (.iconst 3, 1) := by decide +kernel
theorem dL_law_569 : decode cL_law 569 = .ok (.iadd, 1) := by decide +kernel
theorem dL_law_570 : decode cL_law 570 = .ok (.iaload, 1) := by decide +kernel
theorem dL_law_571 : decode cL_law 571 = .ok (.aload_n 3, 1) := by decide +kernel
theorem dL_law_572 : decode cL_law 572 = .ok (.invokestatic 120, 3) := by decide +kernel
theorem dL_law_575 : decode cL_law 575 = .ok (.istore 5, 2) := by decide +kernel
theorem dL_law_577 : decode cL_law 577 = .ok (.aload_n 2, 1) := by decide +kernel
theorem dL_law_578 : decode cL_law 578 = .ok (.aload_n 0, 1) := by decide +kernel
theorem dL_law_579 : decode cL_law 579 = .ok (.iload 4, 2) := by decide +kernel
theorem dL_law_581 : decode cL_law 581 = .ok (.iconst 1, 1) := by decide +kernel
theorem dL_law_582 : decode cL_law 582 = .ok (.iadd, 1) := by decide +kernel
theorem dL_law_583 : decode cL_law 583 = .ok (.iaload, 1) := by decide +kernel
theorem dL_law_584 : decode cL_law 584 = .ok (.aload_n 0, 1) := by decide +kernel
theorem dL_law_585 : decode cL_law 585 = .ok (.iload 4, 2) := by decide +kernel
theorem dL_law_587 : decode cL_law 587 = .ok (.iconst 2, 1) := by decide +kernel
theorem dL_law_588 : decode cL_law 588 = .ok (.iadd, 1) := by decide +kernel
theorem dL_law_589 : decode cL_law 589 = .ok (.iaload, 1) := by decide +kernel
theorem dL_law_590 : decode cL_law 590 = .ok (.aload_n 0, 1) := by decide +kernel
theorem dL_law_591 : decode cL_law 591 = .ok (.iload 4, 2) := by decide +kernel
theorem dL_law_593 : decode cL_law 593 = .ok (.iconst 3, 1) := by decide +kernel
theorem dL_law_594 : decode cL_law 594 = .ok (.iadd, 1) := by decide +kernel
theorem dL_law_595 : decode cL_law 595 = .ok (.iaload, 1) := by decide +kernel
theorem dL_law_596 : decode cL_law 596 = .ok (.invokevirtual 122, 3) := by decide +kernel
theorem dL_law_599 : decode cL_law 599 = .ok (.istore 6, 2) := by decide +kernel
theorem dL_law_601 : decode cL_law 601 = .ok (.aload_n 2, 1) := by decide +kernel
theorem dL_law_602 : decode cL_law 602 = .ok (.invokevirtual 96, 3) := by decide +kernel
theorem dL_law_605 : decode cL_law 605 = .ok (.iload 5, 2) := by decide +kernel
theorem dL_law_607 : decode cL_law 607 = .ok (.if_icmp .eq 5, 3) := by decide +kernel
theorem dL_law_610 : decode cL_law 610 = .ok (.iconst 0, 1) := by decide +kernel
theorem dL_law_611 : decode cL_law 611 = .ok (.ireturn, 1) := by decide +kernel
theorem dL_law_612 : decode cL_law 612 = .ok (.iload 5, 2) := by decide +kernel
theorem dL_law_614 : decode cL_law 614 = .ok (.ifCond .ne 15, 3) := by decide +kernel
theorem dL_law_617 : decode cL_law 617 = .ok (.aload_n 3, 1) := by decide +kernel
theorem dL_law_618 : decode cL_law 618 = .ok (.iconst 0, 1) := by decide +kernel
theorem dL_law_619 : decode cL_law 619 = .ok (.laload, 1) := by decide +kernel
theorem dL_law_620 : decode cL_law 620 = .ok (.iload 6, 2) := by decide +kernel
theorem dL_law_622 : decode cL_law 622 = .ok (.i2l, 1) := by decide +kernel
theorem dL_law_623 : decode cL_law 623 = .ok (.lcmp, 1) := by decide +kernel
theorem dL_law_624 : decode cL_law 624 = .ok (.ifCond .eq 5, 3) := by decide +kernel
theorem dL_law_627 : decode cL_law 627 = .ok (.iconst 0, 1) := by decide +kernel
theorem dL_law_628 : decode cL_law 628 = .ok (.ireturn, 1) := by decide +kernel
theorem dL_law_629 : decode cL_law 629 = .ok (.goto 892, 3) := by decide +kernel
theorem dL_law_632 : decode cL_law 632 = .ok (.aload_n 1, 1) := by decide +kernel
theorem dL_law_633 : decode cL_law 633 = .ok (.aload_n 0, 1) := by decide +kernel
theorem dL_law_634 : decode cL_law 634 = .ok (.iload 4, 2) := by decide +kernel
theorem dL_law_636 : decode cL_law 636 = .ok (.iconst 1, 1) := by decide +kernel
theorem dL_law_637 : decode cL_law 637 = .ok (.iadd, 1) := by decide +kernel
theorem dL_law_638 : decode cL_law 638 = .ok (.iaload, 1) := by decide +kernel
theorem dL_law_639 : decode cL_law 639 = .ok (.aload_n 0, 1) := by decide +kernel
theorem dL_law_640 : decode cL_law 640 = .ok (.iload 4, 2) := by decide +kernel
theorem dL_law_642 : decode cL_law 642 = .ok (.iconst 2, 1) := by decide +kernel
theorem dL_law_643 : decode cL_law 643 = .ok (.iadd, 1) := by decide +kernel
theorem dL_law_644 : decode cL_law 644 = .ok (.iaload, 1) := by decide +kernel
theorem dL_law_645 : decode cL_law 645 = .ok (.aload_n 0, 1) := by decide +kernel
theorem dL_law_646 : decode cL_law 646 = .ok (.iload 4, 2) := by decide +kernel
theorem dL_law_648 : decode cL_law 648 = .ok (.iconst 3, 1) := by decide +kernel
theorem dL_law_649 : decode cL_law 649 = .ok (.iadd, 1) := by decide +kernel
theorem dL_law_650 : decode cL_law 650 = .ok (.iaload, 1) := by decide +kernel
theorem dL_law_651 : decode cL_law 651 = .ok (.aload_n 0, 1) := by decide +kernel
theorem dL_law_652 : decode cL_law 652 = .ok (.iload 4, 2) := by decide +kernel
theorem dL_law_654 : decode cL_law 654 = .ok (.iconst 4, 1) := by decide +kernel
theorem dL_law_655 : decode cL_law 655 = .ok (.iadd, 1) := by decide +kernel
theorem dL_law_656 : decode cL_law 656 = .ok (.iaload, 1) := by decide +kernel
theorem dL_law_657 : decode cL_law 657 = .ok (.aload_n 3, 1) := by decide +kernel
theorem dL_law_658 : decode cL_law 658 = .ok (.invokestatic 123, 3) := by decide +kernel
theorem dL_law_661 : decode cL_law 661 = .ok (.istore 5, 2) := by decide +kernel
theorem dL_law_663 : decode cL_law 663 = .ok (.aload_n 2, 1) := by decide +kernel
theorem dL_law_664 : decode cL_law 664 = .ok (.aload_n 0, 1) := by decide +kernel
theorem dL_law_665 : decode cL_law 665 = .ok (.iload 4, 2) := by decide +kernel
theorem dL_law_667 : decode cL_law 667 = .ok (.iconst 1, 1) := by decide +kernel
theorem dL_law_668 : decode cL_law 668 = .ok (.iadd, 1) := by decide +kernel
theorem dL_law_669 : decode cL_law 669 = .ok (.iaload, 1) := by decide +kernel
theorem dL_law_670 : decode cL_law 670 = .ok (.aload_n 0, 1) := by decide +kernel
theorem dL_law_671 : decode cL_law 671 = .ok (.iload 4, 2) := by decide +kernel
theorem dL_law_673 : decode cL_law 673 = .ok (.iconst 2, 1) := by decide +kernel
theorem dL_law_674 : decode cL_law 674 = .ok (.iadd, 1) := by decide +kernel
theorem dL_law_675 : decode cL_law 675 = .ok (.iaload, 1) := by decide +kernel
theorem dL_law_676 : decode cL_law 676 = .ok (.aload_n 0, 1) := by decide +kernel
theorem dL_law_677 : decode cL_law 677 = .ok (.iload 4, 2) := by decide +kernel
theorem dL_law_679 : decode cL_law 679 = .ok (.iconst 3, 1) := by decide +kernel
theorem dL_law_680 : decode cL_law 680 = .ok (.iadd, 1) := by decide +kernel
theorem dL_law_681 : decode cL_law 681 = .ok (.iaload, 1) := by decide +kernel
theorem dL_law_682 : decode cL_law 682 = .ok (.aload_n 0, 1) := by decide +kernel
theorem dL_law_683 : decode cL_law 683 = .ok (.iload 4, 2) := by decide +kernel
theorem dL_law_685 : decode cL_law 685 = .ok (.iconst 4, 1) := by decide +kernel
theorem dL_law_686 : decode cL_law 686 = .ok (.iadd, 1) := by decide +kernel
theorem dL_law_687 : decode cL_law 687 = .ok (.iaload, 1) := by decide +kernel
theorem dL_law_688 : decode cL_law 688 = .ok (.invokevirtual 126, 3) := by decide +kernel
theorem dL_law_691 : decode cL_law 691 = .ok (.istore 6, 2) := by decide +kernel
theorem dL_law_693 : decode cL_law 693 = .ok (.aload_n 2, 1) := by decide +kernel
theorem dL_law_694 : decode cL_law 694 = .ok (.invokevirtual 96, 3) := by decide +kernel
theorem dL_law_697 : decode cL_law 697 = .ok (.iload 5, 2) := by decide +kernel
theorem dL_law_699 : decode cL_law 699 = .ok (.if_icmp .eq 5, 3) := by decide +kernel
theorem dL_law_702 : decode cL_law 702 = .ok (.iconst 0, 1) := by decide +kernel
theorem dL_law_703 : decode cL_law 703 = .ok (.ireturn, 1) := by decide +kernel
theorem dL_law_704 : decode cL_law 704 = .ok (.iload 5, 2) := by decide +kernel
theorem dL_law_706 : decode cL_law 706 = .ok (.ifCond .ne 15, 3) := by decide +kernel
theorem dL_law_709 : decode cL_law 709 = .ok (.aload_n 3, 1) := by decide +kernel
theorem dL_law_710 : decode cL_law 710 = .ok (.iconst 0, 1) := by decide +kernel
theorem dL_law_711 : decode cL_law 711 = .ok (.laload, 1) := by decide +kernel
theorem dL_law_712 : decode cL_law 712 = .ok (.iload 6, 2) := by decide +kernel
theorem dL_law_714 : decode cL_law 714 = .ok (.i2l, 1) := by decide +kernel
theorem dL_law_715 : decode cL_law 715 = .ok (.lcmp, 1) := by decide +kernel
theorem dL_law_716 : decode cL_law 716 = .ok (.ifCond .eq 5, 3) := by decide +kernel
theorem dL_law_719 : decode cL_law 719 = .ok (.iconst 0, 1) := by decide +kernel
theorem dL_law_720 : decode cL_law 720 = .ok (.ireturn, 1) := by decide +kernel
theorem dL_law_721 : decode cL_law 721 = .ok (.goto 800, 3) := by decide +kernel
theorem dL_law_724 : decode cL_law 724 = .ok (.aload_n 1, 1) := by decide +kernel
theorem dL_law_725 : decode cL_law 725 = .ok (.aload_n 3, 1) := by decide +kernel
theorem dL_law_726 : decode cL_law 726 = .ok (.invokestatic 127, 3) := by decide +kernel
theorem dL_law_729 : decode cL_law 729 = .ok (.istore 5, 2) := by decide +kernel
theorem dL_law_731 : decode cL_law 731 = .ok (.aload_n 2, 1) := by decide +kernel
theorem dL_law_732 : decode cL_law 732 = .ok (.invokevirtual 130, 3) := by decide +kernel
theorem dL_law_735 : decode cL_law 735 = .ok (.istore 6, 2) := by decide +kernel
theorem dL_law_737 : decode cL_law 737 = .ok (.aload_n 2, 1) := by decide +kernel
theorem dL_law_738 : decode cL_law 738 = .ok (.invokevirtual 96, 3) := by decide +kernel
theorem dL_law_741 : decode cL_law 741 = .ok (.iload 5, 2) := by decide +kernel
theorem dL_law_743 : decode cL_law 743 = .ok (.if_icmp .eq 5, 3) := by decide +kernel
theorem dL_law_746 : decode cL_law 746 = .ok (.iconst 0, 1) := by decide +kernel
theorem dL_law_747 : decode cL_law 747 = .ok (.ireturn, 1) := by decide +kernel
theorem dL_law_748 : decode cL_law 748 = .ok (.iload 5, 2) := by decide +kernel
theorem dL_law_750 : decode cL_law 750 = .ok (.ifCond .ne 15, 3) := by decide +kernel
theorem dL_law_753 : decode cL_law 753 = .ok (.aload_n 3, 1) := by decide +kernel
theorem dL_law_754 : decode cL_law 754 = .ok (.iconst 0, 1) := by decide +kernel
theorem dL_law_755 : decode cL_law 755 = .ok (.laload, 1) := by decide +kernel
theorem dL_law_756 : decode cL_law 756 = .ok (.iload 6, 2) := by decide +kernel
theorem dL_law_758 : decode cL_law 758 = .ok (.i2l, 1) := by decide +kernel
theorem dL_law_759 : decode cL_law 759 = .ok (.lcmp, 1) := by decide +kernel
theorem dL_law_760 : decode cL_law 760 = .ok (.ifCond .eq 5, 3) := by decide +kernel
theorem dL_law_763 : decode cL_law 763 = .ok (.iconst 0, 1) := by decide +kernel
theorem dL_law_764 : decode cL_law 764 = .ok (.ireturn, 1) := by decide +kernel
theorem dL_law_765 : decode cL_law 765 = .ok (.goto 756, 3) := by decide +kernel
theorem dL_law_768 : decode cL_law 768 = .ok (.aload_n 1, 1) := by decide +kernel
theorem dL_law_769 : decode cL_law 769 = .ok (.aload_n 0, 1) := by decide +kernel
theorem dL_law_770 : decode cL_law 770 = .ok (.iload 4, 2) := by decide +kernel
theorem dL_law_772 : decode cL_law 772 = .ok (.iconst 1, 1) := by decide +kernel
theorem dL_law_773 : decode cL_law 773 = .ok (.iadd, 1) := by decide +kernel
theorem dL_law_774 : decode cL_law 774 = .ok (.iaload, 1) := by decide +kernel
theorem dL_law_775 : decode cL_law 775 = .ok (.aload_n 0, 1) := by decide +kernel
theorem dL_law_776 : decode cL_law 776 = .ok (.iload 4, 2) := by decide +kernel
theorem dL_law_778 : decode cL_law 778 = .ok (.iconst 2, 1) := by decide +kernel
theorem dL_law_779 : decode cL_law 779 = .ok (.iadd, 1) := by decide +kernel
theorem dL_law_780 : decode cL_law 780 = .ok (.iaload, 1) := by decide +kernel
theorem dL_law_781 : decode cL_law 781 = .ok (.aload_n 0, 1) := by decide +kernel
theorem dL_law_782 : decode cL_law 782 = .ok (.iload 4, 2) := by decide +kernel
theorem dL_law_784 : decode cL_law 784 = .ok (.iconst 3, 1) := by decide +kernel
theorem dL_law_785 : decode cL_law 785 = .ok (.iadd, 1) := by decide +kernel
theorem dL_law_786 : decode cL_law 786 = .ok (.iaload, 1) := by decide +kernel
theorem dL_law_787 : decode cL_law 787 = .ok (.aload_n 0, 1) := by decide +kernel
theorem dL_law_788 : decode cL_law 788 = .ok (.iload 4, 2) := by decide +kernel
theorem dL_law_790 : decode cL_law 790 = .ok (.iconst 4, 1) := by decide +kernel
theorem dL_law_791 : decode cL_law 791 = .ok (.iadd, 1) := by decide +kernel
theorem dL_law_792 : decode cL_law 792 = .ok (.iaload, 1) := by decide +kernel
theorem dL_law_793 : decode cL_law 793 = .ok (.aload_n 3, 1) := by decide +kernel
theorem dL_law_794 : decode cL_law 794 = .ok (.invokestatic 131, 3) := by decide +kernel
theorem dL_law_797 : decode cL_law 797 = .ok (.istore 5, 2) := by decide +kernel
theorem dL_law_799 : decode cL_law 799 = .ok (.aload_n 2, 1) := by decide +kernel
theorem dL_law_800 : decode cL_law 800 = .ok (.aload_n 0, 1) := by decide +kernel
theorem dL_law_801 : decode cL_law 801 = .ok (.iload 4, 2) := by decide +kernel
theorem dL_law_803 : decode cL_law 803 = .ok (.iconst 1, 1) := by decide +kernel
theorem dL_law_804 : decode cL_law 804 = .ok (.iadd, 1) := by decide +kernel
theorem dL_law_805 : decode cL_law 805 = .ok (.iaload, 1) := by decide +kernel
theorem dL_law_806 : decode cL_law 806 = .ok (.aload_n 0, 1) := by decide +kernel
theorem dL_law_807 : decode cL_law 807 = .ok (.iload 4, 2) := by decide +kernel
theorem dL_law_809 : decode cL_law 809 = .ok (.iconst 2, 1) := by decide +kernel
theorem dL_law_810 : decode cL_law 810 = .ok (.iadd, 1) := by decide +kernel
theorem dL_law_811 : decode cL_law 811 = .ok (.iaload, 1) := by decide +kernel
theorem dL_law_812 : decode cL_law 812 = .ok (.aload_n 0, 1) := by decide +kernel
theorem dL_law_813 : decode cL_law 813 = .ok (.iload 4, 2) := by decide +kernel
theorem dL_law_815 : decode cL_law 815 = .ok (.iconst 3, 1) := by decide +kernel
theorem dL_law_816 : decode cL_law 816 = .ok (.iadd, 1) := by decide +kernel
theorem dL_law_817 : decode cL_law 817 = .ok (.iaload, 1) := by decide +kernel
theorem dL_law_818 : decode cL_law 818 = .ok (.aload_n 0, 1) := by decide +kernel
theorem dL_law_819 : decode cL_law 819 = .ok (.iload 4, 2) := by decide +kernel
theorem dL_law_821 : decode cL_law 821 = .ok (.iconst 4, 1) := by decide +kernel
theorem dL_law_822 : decode cL_law 822 = .ok (.iadd, 1) := by decide +kernel
theorem dL_law_823 : decode cL_law 823 = .ok (.iaload, 1) := by decide +kernel
theorem dL_law_824 : decode cL_law 824 = .ok (.invokevirtual 133, 3) := by decide +kernel
theorem dL_law_827 : decode cL_law 827 = .ok (.istore 6, 2) := by decide +kernel
theorem dL_law_829 : decode cL_law 829 = .ok (.aload_n 2, 1) := by decide +kernel
theorem dL_law_830 : decode cL_law 830 = .ok (.invokevirtual 96, 3) := by decide +kernel
theorem dL_law_833 : decode cL_law 833 = .ok (.iload 5, 2) := by decide +kernel
theorem dL_law_835 : decode cL_law 835 = .ok (.if_icmp .eq 5, 3) := by decide +kernel
theorem dL_law_838 : decode cL_law 838 = .ok (.iconst 0, 1) := by decide +kernel
theorem dL_law_839 : decode cL_law 839 = .ok (.ireturn, 1) := by decide +kernel
theorem dL_law_840 : decode cL_law 840 = .ok (.iload 5, 2) := by decide +kernel
theorem dL_law_842 : decode cL_law 842 = .ok (.ifCond .ne 15, 3) := by decide +kernel
theorem dL_law_845 : decode cL_law 845 = .ok (.aload_n 3, 1) := by decide +kernel
theorem dL_law_846 : decode cL_law 846 = .ok (.iconst 0, 1) := by decide +kernel
theorem dL_law_847 : decode cL_law 847 = .ok (.laload, 1) := by decide +kernel
theorem dL_law_848 : decode cL_law 848 = .ok (.iload 6, 2) := by decide +kernel
theorem dL_law_850 : decode cL_law 850 = .ok (.i2l, 1) := by decide +kernel
theorem dL_law_851 : decode cL_law 851 = .ok (.lcmp, 1) := by decide +kernel
theorem dL_law_852 : decode cL_law 852 = .ok (.ifCond .eq 5, 3) := by decide +kernel
theorem dL_law_855 : decode cL_law 855 = .ok (.iconst 0, 1) := by decide +kernel
theorem dL_law_856 : decode cL_law 856 = .ok (.ireturn, 1) := by decide +kernel
theorem dL_law_857 : decode cL_law 857 = .ok (.goto 664, 3) := by decide +kernel
theorem dL_law_860 : decode cL_law 860 = .ok (.aload_n 1, 1) := by decide +kernel
theorem dL_law_861 : decode cL_law 861 = .ok (.aload_n 0, 1) := by decide +kernel
theorem dL_law_862 : decode cL_law 862 = .ok (.iload 4, 2) := by decide +kernel
theorem dL_law_864 : decode cL_law 864 = .ok (.iconst 1, 1) := by decide +kernel
theorem dL_law_865 : decode cL_law 865 = .ok (.iadd, 1) := by decide +kernel
theorem dL_law_866 : decode cL_law 866 = .ok (.iaload, 1) := by decide +kernel
theorem dL_law_867 : decode cL_law 867 = .ok (.aload_n 0, 1) := by decide +kernel
theorem dL_law_868 : decode cL_law 868 = .ok (.iload 4, 2) := by decide +kernel
theorem dL_law_870 : decode cL_law 870 = .ok (.iconst 2, 1) := by decide +kernel
theorem dL_law_871 : decode cL_law 871 = .ok (.iadd, 1) := by decide +kernel
theorem dL_law_872 : decode cL_law 872 = .ok (.iaload, 1) := by decide +kernel
theorem dL_law_873 : decode cL_law 873 = .ok (.aload_n 0, 1) := by decide +kernel
theorem dL_law_874 : decode cL_law 874 = .ok (.iload 4, 2) := by decide +kernel
theorem dL_law_876 : decode cL_law 876 = .ok (.iconst 3, 1) := by decide +kernel
theorem dL_law_877 : decode cL_law 877 = .ok (.iadd, 1) := by decide +kernel
theorem dL_law_878 : decode cL_law 878 = .ok (.iaload, 1) := by decide +kernel
theorem dL_law_879 : decode cL_law 879 = .ok (.aload_n 0, 1) := by decide +kernel
theorem dL_law_880 : decode cL_law 880 = .ok (.iload 4, 2) := by decide +kernel
theorem dL_law_882 : decode cL_law 882 = .ok (.iconst 4, 1) := by decide +kernel
theorem dL_law_883 : decode cL_law 883 = .ok (.iadd, 1) := by decide +kernel
theorem dL_law_884 : decode cL_law 884 = .ok (.iaload, 1) := by decide +kernel
theorem dL_law_885 : decode cL_law 885 = .ok (.aload_n 0, 1) := by decide +kernel
theorem dL_law_886 : decode cL_law 886 = .ok (.iload 4, 2) := by decide +kernel
theorem dL_law_888 : decode cL_law 888 = .ok (.iconst 5, 1) := by decide +kernel
theorem dL_law_889 : decode cL_law 889 = .ok (.iadd, 1) := by decide +kernel
theorem dL_law_890 : decode cL_law 890 = .ok (.iaload, 1) := by decide +kernel
theorem dL_law_891 : decode cL_law 891 = .ok (.aload_n 0, 1) := by decide +kernel
theorem dL_law_892 : decode cL_law 892 = .ok (.iload 4, 2) := by decide +kernel
theorem dL_law_894 : decode cL_law 894 = .ok (.bipush 6, 2) := by decide +kernel
theorem dL_law_896 : decode cL_law 896 = .ok (.iadd, 1) := by decide +kernel
theorem dL_law_897 : decode cL_law 897 = .ok (.iaload, 1) := by decide +kernel
theorem dL_law_898 : decode cL_law 898 = .ok (.ifCond .eq 7, 3) := by decide +kernel
theorem dL_law_901 : decode cL_law 901 = .ok (.iconst 1, 1) := by decide +kernel
theorem dL_law_902 : decode cL_law 902 = .ok (.goto 4, 3) := by decide +kernel
theorem dL_law_905 : decode cL_law 905 = .ok (.iconst 0, 1) := by decide +kernel
theorem dL_law_906 : decode cL_law 906 = .ok (.aload_n 3, 1) := by decide +kernel
theorem dL_law_907 : decode cL_law 907 = .ok (.invokestatic 134, 3) := by decide +kernel
theorem dL_law_910 : decode cL_law 910 = .ok (.istore 5, 2) := by decide +kernel
theorem dL_law_912 : decode cL_law 912 = .ok (.aload_n 2, 1) := by decide +kernel
theorem dL_law_913 : decode cL_law 913 = .ok (.aload_n 0, 1) := by decide +kernel
theorem dL_law_914 : decode cL_law 914 = .ok (.iload 4, 2) := by decide +kernel
theorem dL_law_916 : decode cL_law 916 = .ok (.iconst 1, 1) := by decide +kernel
theorem dL_law_917 : decode cL_law 917 = .ok (.iadd, 1) := by decide +kernel
theorem dL_law_918 : decode cL_law 918 = .ok (.iaload, 1) := by decide +kernel
theorem dL_law_919 : decode cL_law 919 = .ok (.aload_n 0, 1) := by decide +kernel
theorem dL_law_920 : decode cL_law 920 = .ok (.iload 4, 2) := by decide +kernel
theorem dL_law_922 : decode cL_law 922 = .ok (.iconst 2, 1) := by decide +kernel
theorem dL_law_923 : decode cL_law 923 = .ok (.iadd, 1) := by decide +kernel
theorem dL_law_924 : decode cL_law 924 = .ok (.iaload, 1) := by decide +kernel
theorem dL_law_925 : decode cL_law 925 = .ok (.aload_n 0, 1) := by decide +kernel
theorem dL_law_926 : decode cL_law 926 = .ok (.iload 4, 2) := by decide +kernel
theorem dL_law_928 : decode cL_law 928 = .ok (.iconst 3, 1) := by decide +kernel
theorem dL_law_929 : decode cL_law 929 = .ok (.iadd, 1) := by decide +kernel
theorem dL_law_930 : decode cL_law 930 = .ok (.iaload, 1) := by decide +kernel
theorem dL_law_931 : decode cL_law 931 = .ok (.aload_n 0, 1) := by decide +kernel
theorem dL_law_932 : decode cL_law 932 = .ok (.iload 4, 2) := by decide +kernel
theorem dL_law_934 : decode cL_law 934 = .ok (.iconst 4, 1) := by decide +kernel
theorem dL_law_935 : decode cL_law 935 = .ok (.iadd, 1) := by decide +kernel
theorem dL_law_936 : decode cL_law 936 = .ok (.iaload, 1) := by decide +kernel
theorem dL_law_937 : decode cL_law 937 = .ok (.aload_n 0, 1) := by decide +kernel
theorem dL_law_938 : decode cL_law 938 = .ok (.iload 4, 2) := by decide +kernel
theorem dL_law_940 : decode cL_law 940 = .ok (.iconst 5, 1) := by decide +kernel
theorem dL_law_941 : decode cL_law 941 = .ok (.iadd, 1) := by decide +kernel
theorem dL_law_942 : decode cL_law 942 = .ok (.iaload, 1) := by decide +kernel
theorem dL_law_943 : decode cL_law 943 = .ok (.aload_n 0, 1) := by decide +kernel
theorem dL_law_944 : decode cL_law 944 = .ok (.iload 4, 2) := by decide +kernel
theorem dL_law_946 : decode cL_law 946 = .ok (.bipush 6, 2) := by decide +kernel
theorem dL_law_948 : decode cL_law 948 = .ok (.iadd, 1) := by decide +kernel
theorem dL_law_949 : decode cL_law 949 = .ok (.iaload, 1) := by decide +kernel
theorem dL_law_950 : decode cL_law 950 = .ok (.ifCond .eq 7, 3) := by decide +kernel
theorem dL_law_953 : decode cL_law 953 = .ok (.iconst 1, 1) := by decide +kernel
theorem dL_law_954 : decode cL_law 954 = .ok (.goto 4, 3) := by decide +kernel
theorem dL_law_957 : decode cL_law 957 = .ok (.iconst 0, 1) := by decide +kernel
theorem dL_law_958 : decode cL_law 958 = .ok (.invokevirtual 137, 3) := by decide +kernel
theorem dL_law_961 : decode cL_law 961 = .ok (.istore 6, 2) := by decide +kernel
theorem dL_law_963 : decode cL_law 963 = .ok (.aload_n 2, 1) := by decide +kernel
theorem dL_law_964 : decode cL_law 964 = .ok (.invokevirtual 96, 3) := by decide +kernel
theorem dL_law_967 : decode cL_law 967 = .ok (.iload 5, 2) := by decide +kernel
theorem dL_law_969 : decode cL_law 969 = .ok (.if_icmp .eq 5, 3) := by decide +kernel
theorem dL_law_972 : decode cL_law 972 = .ok (.iconst 0, 1) := by decide +kernel
theorem dL_law_973 : decode cL_law 973 = .ok (.ireturn, 1) := by decide +kernel
theorem dL_law_974 : decode cL_law 974 = .ok (.iload 5, 2) := by decide +kernel
theorem dL_law_976 : decode cL_law 976 = .ok (.ifCond .ne 15, 3) := by decide +kernel
theorem dL_law_979 : decode cL_law 979 = .ok (.aload_n 3, 1) := by decide +kernel
theorem dL_law_980 : decode cL_law 980 = .ok (.iconst 0, 1) := by decide +kernel
theorem dL_law_981 : decode cL_law 981 = .ok (.laload, 1) := by decide +kernel
theorem dL_law_982 : decode cL_law 982 = .ok (.iload 6, 2) := by decide +kernel
theorem dL_law_984 : decode cL_law 984 = .ok (.i2l, 1) := by decide +kernel
theorem dL_law_985 : decode cL_law 985 = .ok (.lcmp, 1) := by decide +kernel
theorem dL_law_986 : decode cL_law 986 = .ok (.ifCond .eq 5, 3) := by decide +kernel
theorem dL_law_989 : decode cL_law 989 = .ok (.iconst 0, 1) := by decide +kernel
theorem dL_law_990 : decode cL_law 990 = .ok (.ireturn, 1) := by decide +kernel
theorem dL_law_991 : decode cL_law 991 = .ok (.goto 530, 3) := by decide +kernel
theorem dL_law_994 : decode cL_law 994 = .ok (.aload_n 1, 1) := by decide +kernel
theorem dL_law_995 : decode cL_law 995 = .ok (.aload_n 0, 1) := by decide +kernel
theorem dL_law_996 : decode cL_law 996 = .ok (.iload 4, 2) := by decide +kernel
theorem dL_law_998 : decode cL_law 998 = .ok (.iconst 1, 1) := by decide +kernel
theorem dL_law_999 : decode cL_law 999 = .ok (.iadd, 1) := by decide +kernel
theorem dL_law_1000 : decode cL_law 1000 = .ok (.iaload, 1) := by decide +kernel
theorem dL_law_1001 : decode cL_law 1001 = .ok (.aload_n 0, 1) := by decide +kernel
theorem dL_law_1002 : decode cL_law 1002 = .ok (.iload 4, 2) := by decide +kernel
theorem dL_law_1004 : decode cL_law 1004 = .ok (.iconst 2, 1) := by decide +kernel
theorem dL_law_1005 : decode cL_law 1005 = .ok (.iadd, 1) := by decide +kernel
theorem dL_law_1006 : decode cL_law 1006 = .ok (.iaload, 1) := by decide +kernel
theorem dL_law_1007 : decode cL_law 1007 = .ok (.aload_n 0, 1) := by decide +kernel
theorem dL_law_1008 : decode cL_law 1008 = .ok (.iload 4, 2) := by decide +kernel
theorem dL_law_1010 : decode cL_law 1010 = .ok (.iconst 3, 1) := by decide +kernel
theorem dL_law_1011 : decode cL_law 1011 = .ok (.iadd, 1) := by decide +kernel
theorem dL_law_1012 : decode cL_law 1012 = .ok (.iaload, 1) := by decide +kernel
theorem dL_law_1013 : decode cL_law 1013 = .ok (.aload_n 0, 1) := by decide +kernel
theorem dL_law_1014 : decode cL_law 1014 = .ok (.iload 4, 2) := by decide +kernel
theorem dL_law_1016 : decode cL_law 1016 = .ok (.iconst 4, 1) := by decide +kernel
theorem dL_law_1017 : decode cL_law 1017 = .ok (.iadd, 1) := by decide +kernel
theorem dL_law_1018 : decode cL_law 1018 = .ok (.iaload, 1) := by decide +kernel
theorem dL_law_1019 : decode cL_law 1019 = .ok (.aload_n 3, 1) := by decide +kernel
theorem dL_law_1020 : decode cL_law 1020 = .ok (.invokestatic 138, 3) := by decide +kernel
theorem dL_law_1023 : decode cL_law 1023 = .ok (.istore 5, 2) := by decide +kernel
theorem dL_law_1025 : decode cL_law 1025 = .ok (.aload_n 2, 1) := by decide +kernel
theorem dL_law_1026 : decode cL_law 1026 = .ok (.aload_n 0, 1) := by decide +kernel
theorem dL_law_1027 : decode cL_law 1027 = .ok (.iload 4, 2) := by decide +kernel
theorem dL_law_1029 : decode cL_law 1029 = .ok (.iconst 1, 1) := by decide +kernel
theorem dL_law_1030 : decode cL_law 1030 = .ok (.iadd, 1) := by decide +kernel
theorem dL_law_1031 : decode cL_law 1031 = .ok (.iaload, 1) := by decide +kernel
theorem dL_law_1032 : decode cL_law 1032 = .ok (.aload_n 0, 1) := by decide +kernel
theorem dL_law_1033 : decode cL_law 1033 = .ok (.iload 4, 2) := by decide +kernel
theorem dL_law_1035 : decode cL_law 1035 = .ok (.iconst 2, 1) := by decide +kernel
theorem dL_law_1036 : decode cL_law 1036 = .ok (.iadd, 1) := by decide +kernel
theorem dL_law_1037 : decode cL_law 1037 = .ok (.iaload, 1) := by decide +kernel
theorem dL_law_1038 : decode cL_law 1038 = .ok (.aload_n 0, 1) := by decide +kernel
theorem dL_law_1039 : decode cL_law 1039 = .ok (.iload 4, 2) := by decide +kernel
theorem dL_law_1041 : decode cL_law 1041 = .ok (.iconst 3, 1) := by decide +kernel
theorem dL_law_1042 : decode cL_law 1042 = .ok (.iadd, 1) := by decide +kernel
theorem dL_law_1043 : decode cL_law 1043 = .ok (.iaload, 1) := by decide +kernel
theorem dL_law_1044 : decode cL_law 1044 = .ok (.aload_n 0, 1) := by decide +kernel
theorem dL_law_1045 : decode cL_law 1045 = .ok (.iload 4, 2) := by decide +kernel
theorem dL_law_1047 : decode cL_law 1047 = .ok (.iconst 4, 1) := by decide +kernel
theorem dL_law_1048 : decode cL_law 1048 = .ok (.iadd, 1) := by decide +kernel
theorem dL_law_1049 : decode cL_law 1049 = .ok (.iaload, 1) := by decide +kernel
theorem dL_law_1050 : decode cL_law 1050 = .ok (.invokevirtual 140, 3) := by decide +kernel
theorem dL_law_1053 : decode cL_law 1053 = .ok (.istore 6, 2) := by decide +kernel
theorem dL_law_1055 : decode cL_law 1055 = .ok (.aload_n 2, 1) := by decide +kernel
theorem dL_law_1056 : decode cL_law 1056 = .ok (.invokevirtual 96, 3) := by decide +kernel
theorem dL_law_1059 : decode cL_law 1059 = .ok (.iload 5, 2) := by decide +kernel
theorem dL_law_1061 : decode cL_law 1061 = .ok (.if_icmp .eq 5, 3) := by decide +kernel
theorem dL_law_1064 : decode cL_law 1064 = .ok (.iconst 0, 1) := by decide +kernel
theorem dL_law_1065 : decode cL_law 1065 = .ok (.ireturn, 1) := by decide +kernel
theorem dL_law_1066 : decode cL_law 1066 = .ok (.iload 5, 2) := by decide +kernel
theorem dL_law_1068 : decode cL_law 1068 = .ok (.ifCond .ne 15, 3) := by decide +kernel
theorem dL_law_1071 : decode cL_law 1071 = .ok (.aload_n 3, 1) := by decide +kernel
theorem dL_law_1072 : decode cL_law 1072 = .ok (.iconst 0, 1) := by decide +kernel
theorem dL_law_1073 : decode cL_law 1073 = .ok (.laload, 1) := by decide +kernel
theorem dL_law_1074 : decode cL_law 1074 = .ok (.iload 6, 2) := by decide +kernel
theorem dL_law_1076 : decode cL_law 1076 = .ok (.i2l, 1) := by decide +kernel
theorem dL_law_1077 : decode cL_law 1077 = .ok (.lcmp, 1) := by decide +kernel
theorem dL_law_1078 : decode cL_law 1078 = .ok (.ifCond .eq 5, 3) := by decide +kernel
theorem dL_law_1081 : decode cL_law 1081 = .ok (.iconst 0, 1) := by decide +kernel
theorem dL_law_1082 : decode cL_law 1082 = .ok (.ireturn, 1) := by decide +kernel
theorem dL_law_1083 : decode cL_law 1083 = .ok (.goto 438, 3) := by decide +kernel
theorem dL_law_1086 : decode cL_law 1086 = .ok (.aload_n 1, 1) := by decide +kernel
theorem dL_law_1087 : decode cL_law 1087 = .ok (.aload_n 0, 1) := by decide +kernel
theorem dL_law_1088 : decode cL_law 1088 = .ok (.iload 4, 2) := by decide +kernel
theorem dL_law_1090 : decode cL_law 1090 = .ok (.iconst 1, 1) := by decide +kernel
theorem dL_law_1091 : decode cL_law 1091 = .ok (.iadd, 1) := by decide +kernel
theorem dL_law_1092 : decode cL_law 1092 = .ok (.iaload, 1) := by decide +kernel
theorem dL_law_1093 : decode cL_law 1093 = .ok (.invokestatic 141, 3) := by decide +kernel
theorem dL_law_1096 : decode cL_law 1096 = .ok (.istore 5, 2) := by decide +kernel
theorem dL_law_1098 : decode cL_law 1098 = .ok (.aload_n 2, 1) := by decide +kernel
theorem dL_law_1099 : decode cL_law 1099 = .ok (.aload_n 0, 1) := by decide +kernel
theorem dL_law_1100 : decode cL_law 1100 = .ok (.iload 4, 2) := by decide +kernel
theorem dL_law_1102 : decode cL_law 1102 = .ok (.iconst 1, 1) := by decide +kernel
theorem dL_law_1103 : decode cL_law 1103 = .ok (.iadd, 1) := by decide +kernel
theorem dL_law_1104 : decode cL_law 1104 = .ok (.iaload, 1) := by decide +kernel
theorem dL_law_1105 : decode cL_law 1105 = .ok (.invokevirtual 144, 3) := by decide +kernel
theorem dL_law_1108 : decode cL_law 1108 = .ok (.aload_n 2, 1) := by decide +kernel
theorem dL_law_1109 : decode cL_law 1109 = .ok (.invokevirtual 96, 3) := by decide +kernel
theorem dL_law_1112 : decode cL_law 1112 = .ok (.iload 5, 2) := by decide +kernel
theorem dL_law_1114 : decode cL_law 1114 = .ok (.if_icmp .eq 5, 3) := by decide +kernel
theorem dL_law_1117 : decode cL_law 1117 = .ok (.iconst 0, 1) := by decide +kernel
theorem dL_law_1118 : decode cL_law 1118 = .ok (.ireturn, 1) := by decide +kernel
theorem dL_law_1119 : decode cL_law 1119 = .ok (.goto 402, 3) := by decide +kernel
theorem dL_law_1122 : decode cL_law 1122 = .ok (.aload_n 1, 1) := by decide +kernel
theorem dL_law_1123 : decode cL_law 1123 = .ok (.aload_n 0, 1) := by decide +kernel
theorem dL_law_1124 : decode cL_law 1124 = .ok (.iload 4, 2) := by decide +kernel
theorem dL_law_1126 : decode cL_law 1126 = .ok (.iconst 1, 1) := by decide +kernel
theorem dL_law_1127 : decode cL_law 1127 = .ok (.iadd, 1) := by decide +kernel
theorem dL_law_1128 : decode cL_law 1128 = .ok (.iaload, 1) := by decide +kernel
theorem dL_law_1129 : decode cL_law 1129 = .ok (.invokestatic 145, 3) := by decide +kernel
theorem dL_law_1132 : decode cL_law 1132 = .ok (.istore 5, 2) := by decide +kernel
theorem dL_law_1134 : decode cL_law 1134 = .ok (.aload_n 2, 1) := by decide +kernel
theorem dL_law_1135 : decode cL_law 1135 = .ok (.aload_n 0, 1) := by decide +kernel
theorem dL_law_1136 : decode cL_law 1136 = .ok (.iload 4, 2) := by decide +kernel
theorem dL_law_1138 : decode cL_law 1138 = .ok (.iconst 1, 1) := by decide +kernel
theorem dL_law_1139 : decode cL_law 1139 = .ok (.iadd, 1) := by decide +kernel
theorem dL_law_1140 : decode cL_law 1140 = .ok (.iaload, 1) := by decide +kernel
theorem dL_law_1141 : decode cL_law 1141 = .ok (.invokevirtual 147, 3) := by decide +kernel
theorem dL_law_1144 : decode cL_law 1144 = .ok (.aload_n 2, 1) := by decide +kernel
theorem dL_law_1145 : decode cL_law 1145 = .ok (.invokevirtual 96, 3) := by decide +kernel
theorem dL_law_1148 : decode cL_law 1148 = .ok (.iload 5, 2) := by decide +kernel
theorem dL_law_1150 : decode cL_law 1150 = .ok (.if_icmp .eq 5, 3) := by decide +kernel
theorem dL_law_1153 : decode cL_law 1153 = .ok (.iconst 0, 1) := by decide +kernel
theorem dL_law_1154 : decode cL_law 1154 = .ok (.ireturn, 1) := by decide +kernel
theorem dL_law_1155 : decode cL_law 1155 = .ok (.goto 366, 3) := by decide +kernel
theorem dL_law_1158 : decode cL_law 1158 = .ok (.aload_n 1, 1) := by decide +kernel
theorem dL_law_1159 : decode cL_law 1159 = .ok (.aload_n 0, 1) := by decide +kernel
theorem dL_law_1160 : decode cL_law 1160 = .ok (.iload 4, 2) := by decide +kernel
theorem dL_law_1162 : decode cL_law 1162 = .ok (.iconst 1, 1) := by decide +kernel
theorem dL_law_1163 : decode cL_law 1163 = .ok (.iadd, 1) := by decide +kernel
theorem dL_law_1164 : decode cL_law 1164 = .ok (.iaload, 1) := by decide +kernel
theorem dL_law_1165 : decode cL_law 1165 = .ok (.aload_n 0, 1) := by decide +kernel
theorem dL_law_1166 : decode cL_law 1166 = .ok (.iload 4, 2) := by decide +kernel
theorem dL_law_1168 : decode cL_law 1168 = .ok (.iconst 2, 1) := by decide +kernel
theorem dL_law_1169 : decode cL_law 1169 = .ok (.iadd, 1) := by decide +kernel
theorem dL_law_1170 : decode cL_law 1170 = .ok (.iaload, 1) := by decide +kernel
theorem dL_law_1171 : decode cL_law 1171 = .ok (.aload_n 0, 1) := by decide +kernel
theorem dL_law_1172 : decode cL_law 1172 = .ok (.iload 4, 2) := by decide +kernel
theorem dL_law_1174 : decode cL_law 1174 = .ok (.iconst 3, 1) := by decide +kernel
theorem dL_law_1175 : decode cL_law 1175 = .ok (.iadd, 1) := by decide +kernel
theorem dL_law_1176 : decode cL_law 1176 = .ok (.iaload, 1) := by decide +kernel
theorem dL_law_1177 : decode cL_law 1177 = .ok (.aload_n 0, 1) := by decide +kernel
theorem dL_law_1178 : decode cL_law 1178 = .ok (.iload 4, 2) := by decide +kernel
theorem dL_law_1180 : decode cL_law 1180 = .ok (.iconst 4, 1) := by decide +kernel
theorem dL_law_1181 : decode cL_law 1181 = .ok (.iadd, 1) := by decide +kernel
theorem dL_law_1182 : decode cL_law 1182 = .ok (.iaload, 1) := by decide +kernel
theorem dL_law_1183 : decode cL_law 1183 = .ok (.aload_n 3, 1) := by decide +kernel
theorem dL_law_1184 : decode cL_law 1184 = .ok (.invokestatic 148, 3) := by decide +kernel
theorem dL_law_1187 : decode cL_law 1187 = .ok (.istore 5, 2) := by decide +kernel
theorem dL_law_1189 : decode cL_law 1189 = .ok (.aload_n 2, 1) := by decide +kernel
theorem dL_law_1190 : decode cL_law 1190 = .ok (.aload_n 0, 1) := by decide +kernel
theorem dL_law_1191 : decode cL_law 1191 = .ok (.iload 4, 2) := by decide +kernel
theorem dL_law_1193 : decode cL_law 1193 = .ok (.iconst 1, 1) := by decide +kernel
theorem dL_law_1194 : decode cL_law 1194 = .ok (.iadd, 1) := by decide +kernel
theorem dL_law_1195 : decode cL_law 1195 = .ok (.iaload, 1) := by decide +kernel
theorem dL_law_1196 : decode cL_law 1196 = .ok (.aload_n 0, 1) := by decide +kernel
theorem dL_law_1197 : decode cL_law 1197 = .ok (.iload 4, 2) := by decide +kernel
theorem dL_law_1199 : decode cL_law 1199 = .ok (.iconst 2, 1) := by decide +kernel
theorem dL_law_1200 : decode cL_law 1200 = .ok (.iadd, 1) := by decide +kernel
theorem dL_law_1201 : decode cL_law 1201 = .ok (.iaload, 1) := by decide +kernel
theorem dL_law_1202 : decode cL_law 1202 = .ok (.aload_n 0, 1) := by decide +kernel
theorem dL_law_1203 : decode cL_law 1203 = .ok (.iload 4, 2) := by decide +kernel
theorem dL_law_1205 : decode cL_law 1205 = .ok (.iconst 3, 1) := by decide +kernel
theorem dL_law_1206 : decode cL_law 1206 = .ok (.iadd, 1) := by decide +kernel
theorem dL_law_1207 : decode cL_law 1207 = .ok (.iaload, 1) := by decide +kernel
theorem dL_law_1208 : decode cL_law 1208 = .ok (.aload_n 0, 1) := by decide +kernel
theorem dL_law_1209 : decode cL_law 1209 = .ok (.iload 4, 2) := by decide +kernel
theorem dL_law_1211 : decode cL_law 1211 = .ok (.iconst 4, 1) := by decide +kernel
theorem dL_law_1212 : decode cL_law 1212 = .ok (.iadd, 1) := by decide +kernel
theorem dL_law_1213 : decode cL_law 1213 = .ok (.iaload, 1) := by decide +kernel
theorem dL_law_1214 : decode cL_law 1214 = .ok (.invokevirtual 150, 3) := by decide +kernel
theorem dL_law_1217 : decode cL_law 1217 = .ok (.istore 6, 2) := by decide +kernel
theorem dL_law_1219 : decode cL_law 1219 = .ok (.aload_n 2, 1) := by decide +kernel
theorem dL_law_1220 : decode cL_law 1220 = .ok (.invokevirtual 96, 3) := by decide +kernel
theorem dL_law_1223 : decode cL_law 1223 = .ok (.iload 5, 2) := by decide +kernel
theorem dL_law_1225 : decode cL_law 1225 = .ok (.if_icmp .eq 5, 3) := by decide +kernel
theorem dL_law_1228 : decode cL_law 1228 = .ok (.iconst 0, 1) := by decide +kernel
theorem dL_law_1229 : decode cL_law 1229 = .ok (.ireturn, 1) := by decide +kernel
theorem dL_law_1230 : decode cL_law 1230 = .ok (.iload 5, 2) := by decide +kernel
theorem dL_law_1232 : decode cL_law 1232 = .ok (.ifCond .ne 15, 3) := by decide +kernel
theorem dL_law_1235 : decode cL_law 1235 = .ok (.aload_n 3, 1) := by decide +kernel
theorem dL_law_1236 : decode cL_law 1236 = .ok (.iconst 0, 1) := by decide +kernel
theorem dL_law_1237 : decode cL_law 1237 = .ok (.laload, 1) := by decide +kernel
theorem dL_law_1238 : decode cL_law 1238 = .ok (.iload 6, 2) := by decide +kernel
theorem dL_law_1240 : decode cL_law 1240 = .ok (.i2l, 1) := by decide +kernel
theorem dL_law_1241 : decode cL_law 1241 = .ok (.lcmp, 1) := by decide +kernel
theorem dL_law_1242 : decode cL_law 1242 = .ok (.ifCond .eq 5, 3) := by decide +kernel
theorem dL_law_1245 : decode cL_law 1245 = .ok (.iconst 0, 1) := by decide +kernel
theorem dL_law_1246 : decode cL_law 1246 = .ok (.ireturn, 1) := by decide +kernel
theorem dL_law_1247 : decode cL_law 1247 = .ok (.goto 274, 3) := by decide +kernel
theorem dL_law_1250 : decode cL_law 1250 = .ok (.aload_n 1, 1) := by decide +kernel
theorem dL_law_1251 : decode cL_law 1251 = .ok (.aload_n 0, 1) := by decide +kernel
theorem dL_law_1252 : decode cL_law 1252 = .ok (.iload 4, 2) := by decide +kernel
theorem dL_law_1254 : decode cL_law 1254 = .ok (.iconst 1, 1) := by decide +kernel
theorem dL_law_1255 : decode cL_law 1255 = .ok (.iadd, 1) := by decide +kernel
theorem dL_law_1256 : decode cL_law 1256 = .ok (.iaload, 1) := by decide +kernel
theorem dL_law_1257 : decode cL_law 1257 = .ok (.aload_n 0, 1) := by decide +kernel
theorem dL_law_1258 : decode cL_law 1258 = .ok (.iload 4, 2) := by decide +kernel
theorem dL_law_1260 : decode cL_law 1260 = .ok (.iconst 2, 1) := by decide +kernel
theorem dL_law_1261 : decode cL_law 1261 = .ok (.iadd, 1) := by decide +kernel
theorem dL_law_1262 : decode cL_law 1262 = .ok (.iaload, 1) := by decide +kernel
theorem dL_law_1263 : decode cL_law 1263 = .ok (.aload_n 3, 1) := by decide +kernel
theorem dL_law_1264 : decode cL_law 1264 = .ok (.invokestatic 151, 3) := by decide +kernel
theorem dL_law_1267 : decode cL_law 1267 = .ok (.istore 5, 2) := by decide +kernel
theorem dL_law_1269 : decode cL_law 1269 = .ok (.aload_n 2, 1) := by decide +kernel
theorem dL_law_1270 : decode cL_law 1270 = .ok (.aload_n 0, 1) := by decide +kernel
theorem dL_law_1271 : decode cL_law 1271 = .ok (.iload 4, 2) := by decide +kernel
theorem dL_law_1273 : decode cL_law 1273 = .ok (.iconst 1, 1) := by decide +kernel
theorem dL_law_1274 : decode cL_law 1274 = .ok (.iadd, 1) := by decide +kernel
theorem dL_law_1275 : decode cL_law 1275 = .ok (.iaload, 1) := by decide +kernel
theorem dL_law_1276 : decode cL_law 1276 = .ok (.aload_n 0, 1) := by decide +kernel
theorem dL_law_1277 : decode cL_law 1277 = .ok (.iload 4, 2) := by decide +kernel
theorem dL_law_1279 : decode cL_law 1279 = .ok (.iconst 2, 1) := by decide +kernel
theorem dL_law_1280 : decode cL_law 1280 = .ok (.iadd, 1) := by decide +kernel
theorem dL_law_1281 : decode cL_law 1281 = .ok (.iaload, 1) := by decide +kernel
theorem dL_law_1282 : decode cL_law 1282 = .ok (.invokevirtual 154, 3) := by decide +kernel
theorem dL_law_1285 : decode cL_law 1285 = .ok (.lstore 6, 2) := by decide +kernel
theorem dL_law_1287 : decode cL_law 1287 = .ok (.aload_n 2, 1) := by decide +kernel
theorem dL_law_1288 : decode cL_law 1288 = .ok (.invokevirtual 96, 3) := by decide +kernel
theorem dL_law_1291 : decode cL_law 1291 = .ok (.iload 5, 2) := by decide +kernel
theorem dL_law_1293 : decode cL_law 1293 = .ok (.if_icmp .eq 5, 3) := by decide +kernel
theorem dL_law_1296 : decode cL_law 1296 = .ok (.iconst 0, 1) := by decide +kernel
theorem dL_law_1297 : decode cL_law 1297 = .ok (.ireturn, 1) := by decide +kernel
theorem dL_law_1298 : decode cL_law 1298 = .ok (.iload 5, 2) := by decide +kernel
theorem dL_law_1300 : decode cL_law 1300 = .ok (.ifCond .ne 14, 3) := by decide +kernel
theorem dL_law_1303 : decode cL_law 1303 = .ok (.aload_n 3, 1) := by decide +kernel
theorem dL_law_1304 : decode cL_law 1304 = .ok (.iconst 0, 1) := by decide +kernel
theorem dL_law_1305 : decode cL_law 1305 = .ok (.laload, 1) := by decide +kernel
theorem dL_law_1306 : decode cL_law 1306 = .ok (.lload 6, 2) := by decide +kernel
theorem dL_law_1308 : decode cL_law 1308 = .ok (.lcmp, 1) := by decide +kernel
theorem dL_law_1309 : decode cL_law 1309 = .ok (.ifCond .eq 5, 3) := by decide +kernel
theorem dL_law_1312 : decode cL_law 1312 = .ok (.iconst 0, 1) := by decide +kernel
theorem dL_law_1313 : decode cL_law 1313 = .ok (.ireturn, 1) := by decide +kernel
theorem dL_law_1314 : decode cL_law 1314 = .ok (.goto 207, 3) := by decide +kernel
theorem dL_law_1317 : decode cL_law 1317 = .ok (.aload_n 1, 1) := by decide +kernel
theorem dL_law_1318 : decode cL_law 1318 = .ok (.aload_n 0, 1) := by decide +kernel
theorem dL_law_1319 : decode cL_law 1319 = .ok (.iload 4, 2) := by decide +kernel
theorem dL_law_1321 : decode cL_law 1321 = .ok (.iconst 1, 1) := by decide +kernel
theorem dL_law_1322 : decode cL_law 1322 = .ok (.iadd, 1) := by decide +kernel
theorem dL_law_1323 : decode cL_law 1323 = .ok (.iaload, 1) := by decide +kernel
theorem dL_law_1324 : decode cL_law 1324 = .ok (.aload_n 0, 1) := by decide +kernel
theorem dL_law_1325 : decode cL_law 1325 = .ok (.iload 4, 2) := by decide +kernel
theorem dL_law_1327 : decode cL_law 1327 = .ok (.iconst 2, 1) := by decide +kernel
theorem dL_law_1328 : decode cL_law 1328 = .ok (.iadd, 1) := by decide +kernel
theorem dL_law_1329 : decode cL_law 1329 = .ok (.iaload, 1) := by decide +kernel
theorem dL_law_1330 : decode cL_law 1330 = .ok (.aload_n 0, 1) := by decide +kernel
theorem dL_law_1331 : decode cL_law 1331 = .ok (.iload 4, 2) := by decide +kernel
theorem dL_law_1333 : decode cL_law 1333 = .ok (.iconst 3, 1) := by decide +kernel
theorem dL_law_1334 : decode cL_law 1334 = .ok (.iadd, 1) := by decide +kernel
theorem dL_law_1335 : decode cL_law 1335 = .ok (.iaload, 1) := by decide +kernel
theorem dL_law_1336 : decode cL_law 1336 = .ok (.aload_n 3, 1) := by decide +kernel
theorem dL_law_1337 : decode cL_law 1337 = .ok (.invokestatic 155, 3) := by decide +kernel
theorem dL_law_1340 : decode cL_law 1340 = .ok (.istore 5, 2) := by decide +kernel
theorem dL_law_1342 : decode cL_law 1342 = .ok (.aload_n 2, 1) := by decide +kernel
theorem dL_law_1343 : decode cL_law 1343 = .ok (.aload_n 0, 1) := by decide +kernel
theorem dL_law_1344 : decode cL_law 1344 = .ok (.iload 4, 2) := by decide +kernel
theorem dL_law_1346 : decode cL_law 1346 = .ok (.iconst 1, 1) := by decide +kernel
theorem dL_law_1347 : decode cL_law 1347 = .ok (.iadd, 1) := by decide +kernel
theorem dL_law_1348 : decode cL_law 1348 = .ok (.iaload, 1) := by decide +kernel
theorem dL_law_1349 : decode cL_law 1349 = .ok (.aload_n 0, 1) := by decide +kernel
theorem dL_law_1350 : decode cL_law 1350 = .ok (.iload 4, 2) := by decide +kernel
theorem dL_law_1352 : decode cL_law 1352 = .ok (.iconst 2, 1) := by decide +kernel
theorem dL_law_1353 : decode cL_law 1353 = .ok (.iadd, 1) := by decide +kernel
theorem dL_law_1354 : decode cL_law 1354 = .ok (.iaload, 1) := by decide +kernel
theorem dL_law_1355 : decode cL_law 1355 = .ok (.aload_n 0, 1) := by decide +kernel
theorem dL_law_1356 : decode cL_law 1356 = .ok (.iload 4, 2) := by decide +kernel
theorem dL_law_1358 : decode cL_law 1358 = .ok (.iconst 3, 1) := by decide +kernel
theorem dL_law_1359 : decode cL_law 1359 = .ok (.iadd, 1) := by decide +kernel
theorem dL_law_1360 : decode cL_law 1360 = .ok (.iaload, 1) := by decide +kernel
theorem dL_law_1361 : decode cL_law 1361 = .ok (.invokevirtual 157, 3) := by decide +kernel
theorem dL_law_1364 : decode cL_law 1364 = .ok (.istore 6, 2) := by decide +kernel
theorem dL_law_1366 : decode cL_law 1366 = .ok (.aload_n 2, 1) := by decide +kernel
theorem dL_law_1367 : decode cL_law 1367 = .ok (.invokevirtual 96, 3) := by decide +kernel
theorem dL_law_1370 : decode cL_law 1370 = .ok (.iload 5, 2) := by decide +kernel
theorem dL_law_1372 : decode cL_law 1372 = .ok (.if_icmp .eq 5, 3) := by decide +kernel
theorem dL_law_1375 : decode cL_law 1375 = .ok (.iconst 0, 1) := by decide +kernel
theorem dL_law_1376 : decode cL_law 1376 = .ok (.ireturn, 1) := by decide +kernel
theorem dL_law_1377 : decode cL_law 1377 = .ok (.iload 5, 2) := by decide +kernel
theorem dL_law_1379 : decode cL_law 1379 = .ok (.ifCond .ne 15, 3) := by decide +kernel
theorem dL_law_1382 : decode cL_law 1382 = .ok (.aload_n 3, 1) := by decide +kernel
theorem dL_law_1383 : decode cL_law 1383 = .ok (.iconst 0, 1) := by decide +kernel
theorem dL_law_1384 : decode cL_law 1384 = .ok (.laload, 1) := by decide +kernel
theorem dL_law_1385 : decode cL_law 1385 = .ok (.iload 6, 2) := by decide +kernel
theorem dL_law_1387 : decode cL_law 1387 = .ok (.i2l, 1) := by decide +kernel
theorem dL_law_1388 : decode cL_law 1388 = .ok (.lcmp, 1) := by decide +kernel
theorem dL_law_1389 : decode cL_law 1389 = .ok (.ifCond .eq 5, 3) := by decide +kernel
theorem dL_law_1392 : decode cL_law 1392 = .ok (.iconst 0, 1) := by decide +kernel
theorem dL_law_1393 : decode cL_law 1393 = .ok (.ireturn, 1) := by decide +kernel
theorem dL_law_1394 : decode cL_law 1394 = .ok (.goto 127, 3) := by decide +kernel
theorem dL_law_1397 : decode cL_law 1397 = .ok (.aload_n 1, 1) := by decide +kernel
theorem dL_law_1398 : decode cL_law 1398 = .ok (.aload_n 0, 1) := by decide +kernel
theorem dL_law_1399 : decode cL_law 1399 = .ok (.iload 4, 2) := by decide +kernel
theorem dL_law_1401 : decode cL_law 1401 = .ok (.iconst 1, 1) := by decide +kernel
theorem dL_law_1402 : decode cL_law 1402 = .ok (.iadd, 1) := by decide +kernel
theorem dL_law_1403 : decode cL_law 1403 = .ok (.iaload, 1) := by decide +kernel
theorem dL_law_1404 : decode cL_law 1404 = .ok (.aload_n 0, 1) := by decide +kernel
theorem dL_law_1405 : decode cL_law 1405 = .ok (.iload 4, 2) := by decide +kernel
theorem dL_law_1407 : decode cL_law 1407 = .ok (.iconst 2, 1) := by decide +kernel
theorem dL_law_1408 : decode cL_law 1408 = .ok (.iadd, 1) := by decide +kernel
theorem dL_law_1409 : decode cL_law 1409 = .ok (.iaload, 1) := by decide +kernel
theorem dL_law_1410 : decode cL_law 1410 = .ok (.aload_n 3, 1) := by decide +kernel
theorem dL_law_1411 : decode cL_law 1411 = .ok (.invokestatic 158, 3) := by decide +kernel
theorem dL_law_1414 : decode cL_law 1414 = .ok (.istore 5, 2) := by decide +kernel
theorem dL_law_1416 : decode cL_law 1416 = .ok (.aload_n 2, 1) := by decide +kernel
theorem dL_law_1417 : decode cL_law 1417 = .ok (.aload_n 0, 1) := by decide +kernel
theorem dL_law_1418 : decode cL_law 1418 = .ok (.iload 4, 2) := by decide +kernel
theorem dL_law_1420 : decode cL_law 1420 = .ok (.iconst 1, 1) := by decide +kernel
theorem dL_law_1421 : decode cL_law 1421 = .ok (.iadd, 1) := by decide +kernel
theorem dL_law_1422 : decode cL_law 1422 = .ok (.iaload, 1) := by decide +kernel
theorem dL_law_1423 : decode cL_law 1423 = .ok (.aload_n 0, 1) := by decide +kernel
theorem dL_law_1424 : decode cL_law 1424 = .ok (.iload 4, 2) := by decide +kernel
theorem dL_law_1426 : decode cL_law 1426 = .ok (.iconst 2, 1) := by decide +kernel
theorem dL_law_1427 : decode cL_law 1427 = .ok (.iadd, 1) := by decide +kernel
theorem dL_law_1428 : decode cL_law 1428 = .ok (.iaload, 1) := by decide +kernel
theorem dL_law_1429 : decode cL_law 1429 = .ok (.invokevirtual 160, 3) := by decide +kernel
theorem dL_law_1432 : decode cL_law 1432 = .ok (.istore 6, 2) := by decide +kernel
theorem dL_law_1434 : decode cL_law 1434 = .ok (.aload_n 2, 1) := by decide +kernel
theorem dL_law_1435 : decode cL_law 1435 = .ok (.invokevirtual 96, 3) := by decide +kernel
theorem dL_law_1438 : decode cL_law 1438 = .ok (.iload 5, 2) := by decide +kernel
theorem dL_law_1440 : decode cL_law 1440 = .ok (.if_icmp .eq 5, 3) := by decide +kernel
theorem dL_law_1443 : decode cL_law 1443 = .ok (.iconst 0, 1) := by decide +kernel
theorem dL_law_1444 : decode cL_law 1444 = .ok (.ireturn, 1) := by decide +kernel
theorem dL_law_1445 : decode cL_law 1445 = .ok (.iload 5, 2) := by decide +kernel
theorem dL_law_1447 : decode cL_law 1447 = .ok (.ifCond .ne 15, 3) := by decide +kernel
theorem dL_law_1450 : decode cL_law 1450 = .ok (.aload_n 3, 1) := by decide +kernel
theorem dL_law_1451 : decode cL_law 1451 = .ok (.iconst 0, 1) := by decide +kernel
theorem dL_law_1452 : decode cL_law 1452 = .ok (.laload, 1) := by decide +kernel
theorem dL_law_1453 : decode cL_law 1453 = .ok (.iload 6, 2) := by decide +kernel
theorem dL_law_1455 : decode cL_law 1455 = .ok (.i2l, 1) := by decide +kernel
theorem dL_law_1456 : decode cL_law 1456 = .ok (.lcmp, 1) := by decide +kernel
theorem dL_law_1457 : decode cL_law 1457 = .ok (.ifCond .eq 5, 3) := by decide +kernel
theorem dL_law_1460 : decode cL_law 1460 = .ok (.iconst 0, 1) := by decide +kernel
theorem dL_law_1461 : decode cL_law 1461 = .ok (.ireturn, 1) := by decide +kernel
theorem dL_law_1462 : decode cL_law 1462 = .ok (.goto 59, 3) := by decide +kernel
theorem dL_law_1465 : decode cL_law 1465 = .ok (.aload_n 1, 1) := by decide +kernel
theorem dL_law_1466 : decode cL_law 1466 = .ok (.aload_n 0, 1) := by decide +kernel
theorem dL_law_1467 : decode cL_law 1467 = .ok (.iload 4, 2) := by decide +kernel
theorem dL_law_1469 : decode cL_law 1469 = .ok (.iconst 1, 1) := by decide +kernel
theorem dL_law_1470 : decode cL_law 1470 = .ok (.iadd, 1) := by decide +kernel
theorem dL_law_1471 : decode cL_law 1471 = .ok (.iaload, 1) := by decide +kernel
theorem dL_law_1472 : decode cL_law 1472 = .ok (.aload_n 3, 1) := by decide +kernel
theorem dL_law_1473 : decode cL_law 1473 = .ok (.invokestatic 161, 3) := by decide +kernel
theorem dL_law_1476 : decode cL_law 1476 = .ok (.istore 5, 2) := by decide +kernel
theorem dL_law_1478 : decode cL_law 1478 = .ok (.aload_n 2, 1) := by decide +kernel
theorem dL_law_1479 : decode cL_law 1479 = .ok (.aload_n 0, 1) := by decide +kernel
theorem dL_law_1480 : decode cL_law 1480 = .ok (.iload 4, 2) := by decide +kernel
theorem dL_law_1482 : decode cL_law 1482 = .ok (.iconst 1, 1) := by decide +kernel
theorem dL_law_1483 : decode cL_law 1483 = .ok (.iadd, 1) := by decide +kernel
theorem dL_law_1484 : decode cL_law 1484 = .ok (.iaload, 1) := by decide +kernel
theorem dL_law_1485 : decode cL_law 1485 = .ok (.invokevirtual 164, 3) := by decide +kernel
theorem dL_law_1488 : decode cL_law 1488 = .ok (.istore 6, 2) := by decide +kernel
theorem dL_law_1490 : decode cL_law 1490 = .ok (.aload_n 2, 1) := by decide +kernel
theorem dL_law_1491 : decode cL_law 1491 = .ok (.invokevirtual 96, 3) := by decide +kernel
theorem dL_law_1494 : decode cL_law 1494 = .ok (.iload 5, 2) := by decide +kernel
theorem dL_law_1496 : decode cL_law 1496 = .ok (.if_icmp .eq 5, 3) := by decide +kernel
theorem dL_law_1499 : decode cL_law 1499 = .ok (.iconst 0, 1) := by decide +kernel
theorem dL_law_1500 : decode cL_law 1500 = .ok (.ireturn, 1) := by decide +kernel
theorem dL_law_1501 : decode cL_law 1501 = .ok (.iload 5, 2) := by decide +kernel
theorem dL_law_1503 : decode cL_law 1503 = .ok (.ifCond .ne 15, 3) := by decide +kernel
theorem dL_law_1506 : decode cL_law 1506 = .ok (.aload_n 3, 1) := by decide +kernel
theorem dL_law_1507 : decode cL_law 1507 = .ok (.iconst 0, 1) := by decide +kernel
theorem dL_law_1508 : decode cL_law 1508 = .ok (.laload, 1) := by decide +kernel
theorem dL_law_1509 : decode cL_law 1509 = .ok (.iload 6, 2) := by decide +kernel
theorem dL_law_1511 : decode cL_law 1511 = .ok (.i2l, 1) := by decide +kernel
theorem dL_law_1512 : decode cL_law 1512 = .ok (.lcmp, 1) := by decide +kernel
theorem dL_law_1513 : decode cL_law 1513 = .ok (.ifCond .eq 5, 3) := by decide +kernel
theorem dL_law_1516 : decode cL_law 1516 = .ok (.iconst 0, 1) := by decide +kernel
theorem dL_law_1517 : decode cL_law 1517 = .ok (.ireturn, 1) := by decide +kernel
theorem dL_law_1518 : decode cL_law 1518 = .ok (.goto 3, 3) := by decide +kernel
theorem dL_law_1521 : decode cL_law 1521 = .ok (.iinc 4 7, 3) := by decide +kernel
theorem dL_law_1524 : decode cL_law 1524 = .ok (.goto (-1501), 3) := by decide +kernel
theorem dL_law_1527 : decode cL_law 1527 = .ok (.iconst 1, 1) := by decide +kernel
theorem dL_law_1528 : decode cL_law 1528 = .ok (.ireturn, 1) := by decide +kernel
end
section
/-! AX: the walk of a method over a small picture of the heap. A world is a list of cells by number; a reference on the operand stack, in a local or in a field is such a number ('.ref k'), '.retAddr a' is a reference to the real address a (the script, a caught exception). ax_Ex: from this pc, with these locals, operands and world, the machine comes to the end o. Everything of the machine stays inside of ax_Ex; the rows below are its instructions. -/
abbrev ax_M : Type := MethodName × ByteArray × Nat × Option FieldType × List (Nat × Nat × Nat × Nat)
abbrev ax_E : Type := (Nat × Nat × ((Nat → Int32) ⊕ (Nat → Int64))) ⊕ (Nat × List Value)
abbrev ax_W : Type := List ax_E
abbrev ax_O : Type := (Option Value ⊕ String) × ax_W
abbrev ax_V : Type := List (Nat × Value)
abbrev ax_G : Type := Launch × State × va_G × (Nat → ClassId) × Nat × Nat × (Nat → Int32)
abbrev ax_G.l (G : ax_G) : Launch := G.1
abbrev ax_G.s0 (G : ax_G) : State := G.2.1
abbrev ax_G.D (G : ax_G) : va_G := G.2.2.1
abbrev ax_G.cA (G : ax_G) : Nat → ClassId := G.2.2.2.1
abbrev ax_G.b (G : ax_G) : Nat := G.2.2.2.2.1
abbrev ax_G.L (G : ax_G) : Nat := G.2.2.2.2.2.1
abbrev ax_G.xs (G : ax_G) : Nat → Int32 := G.2.2.2.2.2.2
/-- the cells that the law and what it calls have made -/
abbrev ax_A (G : ax_G) : Nat → Prop := fun q => G.s0.heap.size ≤ q
def ax_rv (ad : Nat → Nat) : Value → Value
  | .ref k => .ref (ad k)
  | .retAddr a => .ref a
  | v => v
def ax_rq (ad : Nat → Nat) (q : Nat × Value) : Nat × Value := (q.1, ax_rv ad q.2)
def ax_re (G : ax_G) (ad : Nat → Nat) (e : ax_E) : va_E := match e with
  | .inl (k, n, .inl f) => .inl (G.cA k, n, .inl f)
  | .inl (k, n, .inr f) => .inl (G.cA k, n, .inr (.inl f))
  | .inr (ci, fs) => .inr (ci, fs.map (ax_rv ad))
def ax_rw (G : ax_G) (ad : Nat → Nat) (w : ax_W) : va_W := w.mapIdx (fun k e => (ad k, ax_re G ad e))
abbrev ax_cl : List vw_C := [(RX0, TX0, 10), (RX1, TX1, 10), (RX2, TX2, 5), (RX3, TX3, 8), (RX4, TX4, 31)]
abbrev ax_tys (G : ax_G) : List (ClassId × FieldType) := [(G.cA 0, .int), (G.cA 1, .boolean), (G.cA 2, .long)]
def ax_vok (n : Nat) : Value → Prop
  | .ref k => k < n
  | _ => True
def ax_sok (n : Nat) : List Value → Prop
  | [] => True
  | v :: r => ax_vok n v ∧ ax_sok n r
def ax_lok (n : Nat) : ax_V → Prop
  | [] => True
  | q :: r => ax_vok n q.2 ∧ ax_lok n r
def ax_eok (n : Nat) : ax_E → Prop
  | .inr (_, fs) => ax_sok n fs
  | .inl _ => True
def ax_wf (w : ax_W) : Prop := ∀ (k : Nat) (e : ax_E), w[k]? = some e → ax_eok w.length e
/-- a local's value -/
def ax_get : ax_V → Nat → Option Value
  | [], _ => none
  | q :: r, i => bif Nat.beq q.1 i then some q.2 else ax_get r i
/-- a local set to a value of one slot, of two slots -/
def ax_set1 (lv : ax_V) (i : Nat) (v : Value) : ax_V := (i, v) :: lv.filter (fun q => !(q.1 == i) && !(q.1 + 1 == i && q.2.category == 2))
def ax_set2 (lv : ax_V) (i : Nat) (v : Value) : ax_V := (i, v) :: lv.filter (fun q => !(q.1 == i) && (!(q.1 == i + 1) && !(q.1 + 1 == i && q.2.category == 2)))
/-- what is known of the law's start -/
def ax_G0 (G : ax_G) : Prop :=
  (∀ w ∈ lw_tbl, w.before #[Value.ref G.b] G.s0 = true) ∧ va_K G.D ax_cl (ax_tys G) G.s0 ∧ va_X G.b G.L G.xs G.s0 G.s0.heap ∧ G.b < G.s0.heap.size ∧ G.l.stackTraces = false ∧
  vx_Zq Bundle.tN "UNASSIGNED_STACK" Bundle.steD (ax_A G) G.s0 G.s0.heap ∧ vx_Zq Bundle.tN "SUPPRESSED_SENTINEL" Bundle.listD (ax_A G) G.s0 G.s0.heap ∧
  (∀ (own : String) (k : Nat) (tx : String), Cond.stringRef own k tx ∈ lw_tbl → ∃ a, vk_R own k tx a G.s0) ∧
  va_Nc "java/lang/IllegalStateException" "java/lang/IllegalArgumentException" G.s0 ∧ va_Nc "java/lang/IllegalStateException" "java/lang/IndexOutOfBoundsException" G.s0 ∧ va_Nc "java/lang/IllegalArgumentException" "java/lang/IndexOutOfBoundsException" G.s0
/-- what is known of the activation of a method -/
def ax_C (G : ax_G) (M : ax_M) (p : Program) (s : State) (m : MethodId) (meth : Method) (c : Code) : Prop :=
  p.tables.exec = Jvm.exec ∧ c.code = M.2.1 ∧ meth.sig.returnType = M.2.2.2.1 ∧ c.maxLocals = M.2.2.1 ∧ s.vm.findClass M.1.cls = some m.cls ∧ meth.locks = false ∧ meth.name = M.1.name ∧ c.exceptionTable.toList = tableOf M.2.2.2.2 ∧
  G.s0.WarmedH s.vm ∧ G.s0.heap.size ≤ s.heap.size ∧ ∀ q : Nat, q < G.s0.heap.size → s.heap[q]? = G.s0.heap[q]?
/-- the world in the heap; what was there when the method began is where it was -/
def ax_H (G : ax_G) (ad ad0 : Nat → Nat) (n0 : Nat) (w : ax_W) (s : State) (H : Heap) (locs : List Loc) : Prop :=
  n0 ≤ w.length ∧ (∀ j : Nat, j < n0 → ad j = ad0 j) ∧ ax_wf w ∧ va_P G.D ax_cl (ax_rw G ad w) H ∧ va_D (ax_A G) (ax_rw G ad w) ∧ va_S (ax_A G) s.heap H locs
def ax_Qc (G : ax_G) (ad0 : Nat → Nat) (n0 : Nat) (o : ax_O) : Array Value → State → Outcome → State → Prop := fun _ st oc t =>
  ∃ (v : Option Value) (ad : Nat → Nat), o.1 = .inl v ∧ oc = .returned (v.map (ax_rv ad)) ∧ ax_sok o.2.length v.toList ∧ n0 ≤ o.2.length ∧ (∀ j : Nat, j < n0 → ad j = ad0 j) ∧ ax_wf o.2 ∧ va_P G.D ax_cl (ax_rw G ad o.2) t.heap ∧ va_D (ax_A G) (ax_rw G ad o.2) ∧ va_F (ax_A G) st t
def ax_XC (G : ax_G) (ad0 : Nat → Nat) (n0 : Nat) (o : ax_O) : String → State → State → Prop := fun E st t =>
  o.1 = .inr E ∧ ∃ ad : Nat → Nat, n0 ≤ o.2.length ∧ (∀ j : Nat, j < n0 → ad j = ad0 j) ∧ ax_wf o.2 ∧ va_P G.D ax_cl (ax_rw G ad o.2) t.heap ∧ va_D (ax_A G) (ax_rw G ad o.2) ∧ va_F (ax_A G) st t
/-- from pc, with the locals lv, the operands st, the world w: the method comes to the end o, with at most nc new cells of ns slots, d frames deep at most -/
def ax_Ex (G : ax_G) (M : ax_M) (d nc ns pc : Nat) (lv : ax_V) (st : List Value) (w : ax_W) (o : ax_O) : Prop :=
  ax_G0 G → ∀ (p : Program) (e : Env) (R : Room) (s : State) (m : MethodId) (args : Array Value) (below : List Frame) (meth : Method) (c : Code) (H : Heap) (locs : List Loc) (cells slots mc ms n0 : Nat) (ad ad0 : Nat → Nat) (ls : Array Slot),
    ax_C G M p s m meth c → (d ≤ R.frames ∧ 40 * d ≤ R.locals ∧ cells + nc ≤ mc ∧ slots + ns ≤ ms ∧ mc ≤ R.cells ∧ ms ≤ R.slots) → ax_H G ad ad0 n0 w s H locs →
    (lv_has ls M.2.2.1 (lv.map (ax_rq ad)) ∧ ax_lok w.length lv) → ax_sok w.length st →
    W p G.1 e R s m args below meth c H locs cells slots (vx_MQ below (ax_Qc G ad0 n0 o) (ax_XC G ad0 n0 o) args s mc ms (ax_A G)) (F0 m pc ls (st.map (ax_rv ad)))
/-! small things -/
theorem ax_cat (ad : Nat → Nat) (v : Value) : (ax_rv ad v).category = v.category := by cases v <;> rfl
theorem ax_cats (ad : Nat → Nat) (st : List Value) : ((st.map (ax_rv ad)).map fun v => v.category).sum = (st.map fun v => v.category).sum := by
  induction st with
  | nil => rfl
  | cons v r ih => simp only [List.map_cons, List.sum_cons, ax_cat, ih]
theorem ax_fm (ad : Nat → Nat) (f : Nat × Value → Bool) (hf : ∀ q, f (ax_rq ad q) = f q) (lv : ax_V) : (lv.filter f).map (ax_rq ad) = (lv.map (ax_rq ad)).filter f := by
  induction lv with
  | nil => rfl
  | cons q r ih =>
    simp only [List.map_cons, List.filter_cons, hf q]
    cases f q with
    | true => simp [ih]
    | false => simp [ih]
theorem ax_set1_map (ad : Nat → Nat) (lv : ax_V) (i : Nat) (v : Value) : (i, ax_rv ad v) :: (lv.map (ax_rq ad)).filter (fun q => !(q.1 == i) && !(q.1 + 1 == i && q.2.category == 2)) = (ax_set1 lv i v).map (ax_rq ad) := by
  rw [← ax_fm ad _ (fun q => by simp only [ax_rq, ax_cat])]; rfl
theorem ax_set2_map (ad : Nat → Nat) (lv : ax_V) (i : Nat) (v : Value) : (i, ax_rv ad v) :: (lv.map (ax_rq ad)).filter (fun q => !(q.1 == i) && (!(q.1 == i + 1) && !(q.1 + 1 == i && q.2.category == 2))) = (ax_set2 lv i v).map (ax_rq ad) := by
  rw [← ax_fm ad _ (fun q => by simp only [ax_rq, ax_cat])]; rfl
theorem ax_lok_f {n : Nat} (f : Nat × Value → Bool) : ∀ {lv : ax_V}, ax_lok n lv → ax_lok n (lv.filter f)
  | [], _ => trivial
  | q :: r, h => by
    simp only [List.filter_cons]
    cases f q with
    | true => exact ⟨h.1, ax_lok_f f h.2⟩
    | false => exact ax_lok_f f h.2
theorem ax_get_in : ∀ {lv : ax_V} {i : Nat} {v : Value}, ax_get lv i = some v → ∃ k : Nat, lv[k]? = some (i, v)
  | [], i, v, h => by cases h
  | q :: r, i, v, h => by
    unfold ax_get at h
    cases hb : Nat.beq q.1 i with
    | true =>
      rw [hb] at h
      obtain ⟨a, b⟩ := q
      have e1 : a = i := Nat.eq_of_beq_eq_true hb
      have e2 : some b = some v := h
      cases e1; cases e2
      exact ⟨0, rfl⟩
    | false =>
      rw [hb] at h
      obtain ⟨k, hk⟩ := ax_get_in (lv := r) h
      exact ⟨k + 1, hk⟩
theorem ax_lok_at {n : Nat} : ∀ {lv : ax_V} {k i : Nat} {v : Value}, ax_lok n lv → lv[k]? = some (i, v) → ax_vok n v
  | [], k, i, v, _, h => by simp at h
  | q :: r, 0, i, v, hl, h => by
    have e : q = (i, v) := by simpa using h
    rw [e] at hl; exact hl.1
  | q :: r, k + 1, i, v, hl, h => ax_lok_at (lv := r) hl.2 (by simpa using h)
theorem ax_lok_get {n : Nat} {lv : ax_V} {i : Nat} {v : Value} (hl : ax_lok n lv) (h : ax_get lv i = some v) : ax_vok n v := by
  obtain ⟨k, hk⟩ := ax_get_in h
  exact ax_lok_at hl hk
theorem ax_ls {ls : Array Slot} {n : Nat} {ad : Nat → Nat} {lv : ax_V} {i : Nat} {v : Value} (h : lv_has ls n (lv.map (ax_rq ad))) (hg : ax_get lv i = some v) : ls[i]? = some (.val (ax_rv ad v)) := by
  obtain ⟨k, hk⟩ := ax_get_in hg
  exact lv_at h k (by rw [List.getElem?_map, hk]; rfl)
theorem ax_sok_at {n : Nat} : ∀ {fs : List Value} {k : Nat} {v : Value}, ax_sok n fs → fs[k]? = some v → ax_vok n v
  | [], k, v, _, h => by simp at h
  | x :: r, 0, v, hl, h => by
    have e : x = v := by simpa using h
    rw [e] at hl; exact hl.1
  | x :: r, k + 1, v, hl, h => ax_sok_at (fs := r) hl.2 (by simpa using h)
theorem ax_vok_mono {n n' : Nat} (h : n ≤ n') : ∀ {v : Value}, ax_vok n v → ax_vok n' v
  | .ref _, hv => Nat.lt_of_lt_of_le hv h
  | .int _, _ => trivial
  | .long _, _ => trivial
  | .float _, _ => trivial
  | .double _, _ => trivial
  | .null, _ => trivial
  | .retAddr _, _ => trivial
theorem ax_sok_mono {n n' : Nat} (h : n ≤ n') : ∀ {fs : List Value}, ax_sok n fs → ax_sok n' fs
  | [], _ => trivial
  | _ :: _, hv => ⟨ax_vok_mono h hv.1, ax_sok_mono h hv.2⟩
theorem ax_lok_mono {n n' : Nat} (h : n ≤ n') : ∀ {lv : ax_V}, ax_lok n lv → ax_lok n' lv
  | [], _ => trivial
  | _ :: _, hv => ⟨ax_vok_mono h hv.1, ax_lok_mono h hv.2⟩
theorem ax_sok_set {n : Nat} {v : Value} (hv : ax_vok n v) : ∀ {fs : List Value} {k : Nat}, ax_sok n fs → ax_sok n (fs.set k v)
  | [], _, _ => trivial
  | _ :: _, 0, h => ⟨hv, h.2⟩
  | _ :: _, _ + 1, h => ⟨h.1, ax_sok_set hv h.2⟩
theorem ax_sok_app {n : Nat} {b : List Value} (hb : ax_sok n b) : ∀ {a : List Value}, ax_sok n a → ax_sok n (a ++ b)
  | [], _ => hb
  | _ :: _, h => ⟨h.1, ax_sok_app hb h.2⟩
theorem ax_sok_of {n : Nat} : ∀ {a b : List Value}, ax_sok n (a ++ b) → ax_sok n a ∧ ax_sok n b
  | [], _, h => ⟨trivial, h⟩
  | _ :: _, _, h => ⟨⟨h.1, (ax_sok_of h.2).1⟩, (ax_sok_of h.2).2⟩
theorem ax_sok_rev {n : Nat} : ∀ {a : List Value}, ax_sok n a.reverse → ax_sok n a
  | [], _ => trivial
  | v :: r, h => by
    rw [List.reverse_cons] at h
    obtain ⟨h1, h2⟩ := ax_sok_of h
    exact ⟨h2.1, ax_sok_rev h1⟩
theorem ax_rv_same {n : Nat} {ad ad' : Nat → Nat} (h : ∀ j : Nat, j < n → ad' j = ad j) : ∀ {v : Value}, ax_vok n v → ax_rv ad' v = ax_rv ad v
  | .ref k, hv => congrArg Value.ref (h k hv)
  | .int _, _ => rfl
  | .long _, _ => rfl
  | .float _, _ => rfl
  | .double _, _ => rfl
  | .null, _ => rfl
  | .retAddr _, _ => rfl
theorem ax_st_same {n : Nat} {ad ad' : Nat → Nat} (h : ∀ j : Nat, j < n → ad' j = ad j) : ∀ {st : List Value}, ax_sok n st → st.map (ax_rv ad') = st.map (ax_rv ad)
  | [], _ => rfl
  | _ :: _, hs => by rw [List.map_cons, List.map_cons, ax_rv_same h hs.1, ax_st_same h hs.2]
theorem ax_lv_same {n : Nat} {ad ad' : Nat → Nat} (h : ∀ j : Nat, j < n → ad' j = ad j) : ∀ {lv : ax_V}, ax_lok n lv → lv.map (ax_rq ad') = lv.map (ax_rq ad)
  | [], _ => rfl
  | q :: _, hs => by rw [List.map_cons, List.map_cons, ax_lv_same h hs.2]; simp only [ax_rq, ax_rv_same h hs.1]
theorem ax_rw_at (G : ax_G) (ad : Nat → Nat) {w : ax_W} {k : Nat} {e : ax_E} (h : w[k]? = some e) : (ax_rw G ad w)[k]? = some (ad k, ax_re G ad e) := by
  simp [ax_rw, h]
theorem ax_rw_len (G : ax_G) (ad : Nat → Nat) (w : ax_W) : (ax_rw G ad w).length = w.length := by simp [ax_rw]
theorem ax_rw_set (G : ax_G) (ad : Nat → Nat) (w : ax_W) (k : Nat) (e : ax_E) : (ax_rw G ad w).set k (ad k, ax_re G ad e) = ax_rw G ad (w.set k e) := by
  apply List.ext_getElem?
  intro j
  simp only [ax_rw, List.getElem?_set, List.getElem?_mapIdx, List.length_mapIdx]
  by_cases hj : k = j
  · subst hj
    by_cases hl : k < w.length
    · simp [hl]
    · simp [hl]
  · simp [hj]
theorem ax_wf_set {w : ax_W} {k : Nat} {e : ax_E} (h : ax_wf w) (he : ax_eok w.length e) : ax_wf (w.set k e) := by
  intro j x hx
  rw [List.length_set]
  rw [List.getElem?_set] at hx
  by_cases hj : k = j
  · rw [if_pos hj] at hx
    by_cases hl : k < w.length
    · rw [if_pos hl] at hx; cases hx; exact he
    · rw [if_neg hl] at hx; cases hx
  · rw [if_neg hj] at hx
    exact h j x hx
section AXR
variable {G : ax_G} {M : ax_M} {d nc ns pc : Nat} {lv : ax_V} {st : List Value} {w : ax_W} {o : ax_O}
theorem ax_K {p : Program} {s : State} {m : MethodId} {meth : Method} {c : Code} (hG : ax_G0 G) (hC : ax_C G M p s m meth c) : va_K G.D ax_cl (ax_tys G) s := va_K.moved hC.2.2.2.2.2.2.2.2.1.alike hG.2.1
theorem ax_wd {p : Program} {s : State} {m : MethodId} {meth : Method} {c : Code} {args : Array Value} {x : Cond} (hG : ax_G0 G) (hC : ax_C G M p s m meth c) (hx : x ∈ lw_tbl) (hg : goodWord x = true) : x.before args s = true := word_at hC.2.2.2.2.2.2.2.2.1 (good_of_word hg) (hG.1 x hx)
theorem ax_iconst {n : Int} {v : Int32} (q : Nat) (hd : decode M.2.1 pc = .ok (.iconst n, 1)) (hq : pc + 1 = q) (hv : Int32.ofInt n = v) (k : ax_Ex G M d nc ns q lv (.int v :: st) w o) : ax_Ex G M d nc ns pc lv st w o := by
  subst hq
  intro hG p e R s m args below meth c H locs cells slots mc ms n0 ad ad0 ls hC hR hH hl hs
  exact lv_iconst hC.1 hC.2.1 hd hv (k hG p e R s m args below meth c H locs cells slots mc ms n0 ad ad0 ls hC hR hH hl ⟨trivial, hs⟩)
theorem ax_bipush {n : Int} {v : Int32} (q : Nat) (hd : decode M.2.1 pc = .ok (.bipush n, 2)) (hq : pc + 2 = q) (hv : (Int8.ofInt n).toInt32 = v) (k : ax_Ex G M d nc ns q lv (.int v :: st) w o) : ax_Ex G M d nc ns pc lv st w o := by
  subst hq
  intro hG p e R s m args below meth c H locs cells slots mc ms n0 ad ad0 ls hC hR hH hl hs
  exact lv_bipush hC.1 hC.2.1 hd hv (k hG p e R s m args below meth c H locs cells slots mc ms n0 ad ad0 ls hC hR hH hl ⟨trivial, hs⟩)
theorem ax_sipush {n : Int} {v : Int32} (q : Nat) (hd : decode M.2.1 pc = .ok (.sipush n, 3)) (hq : pc + 3 = q) (hv : (Int16.ofInt n).toInt32 = v) (k : ax_Ex G M d nc ns q lv (.int v :: st) w o) : ax_Ex G M d nc ns pc lv st w o := by
  subst hq
  intro hG p e R s m args below meth c H locs cells slots mc ms n0 ad ad0 ls hC hR hH hl hs
  exact lv_sipush hC.1 hC.2.1 hd hv (k hG p e R s m args below meth c H locs cells slots mc ms n0 ad ad0 ls hC hR hH hl ⟨trivial, hs⟩)
theorem ax_lconst {n : Fin 2} {v : Int64} (q : Nat) (hd : decode M.2.1 pc = .ok (.lconst n, 1)) (hq : pc + 1 = q) (hv : Int64.ofNat (n : Nat) = v) (k : ax_Ex G M d nc ns q lv (.long v :: st) w o) : ax_Ex G M d nc ns pc lv st w o := by
  subst hq
  intro hG p e R s m args below meth c H locs cells slots mc ms n0 ad ad0 ls hC hR hH hl hs
  exact lv_lconst hC.1 hC.2.1 hd hv (k hG p e R s m args below meth c H locs cells slots mc ms n0 ad ad0 ls hC hR hH hl ⟨trivial, hs⟩)
theorem ax_ldc {index : Nat} {v : Int32} (q : Nat) (hd : decode M.2.1 pc = .ok (.ldc index, 2)) (hq : pc + 2 = q) (hw : Cond.constant M.1.cls index v ∈ lw_tbl) (k : ax_Ex G M d nc ns q lv (.int v :: st) w o) : ax_Ex G M d nc ns pc lv st w o := by
  subst hq
  intro hG p e R s m args below meth c H locs cells slots mc ms n0 ad ad0 ls hC hR hH hl hs
  exact lv_ldc hC.1 hC.2.1 hC.2.2.2.2.1 (ax_wd hG hC hw rfl) hd (k hG p e R s m args below meth c H locs cells slots mc ms n0 ad ad0 ls hC hR hH hl ⟨trivial, hs⟩)
theorem ax_ldc2 {index : Nat} {v : Int64} (q : Nat) (hd : decode M.2.1 pc = .ok (.ldc2_w index, 3)) (hq : pc + 3 = q) (hw : Cond.constantLong M.1.cls index v ∈ lw_tbl) (k : ax_Ex G M d nc ns q lv (.long v :: st) w o) : ax_Ex G M d nc ns pc lv st w o := by
  subst hq
  intro hG p e R s m args below meth c H locs cells slots mc ms n0 ad ad0 ls hC hR hH hl hs
  exact lv_ldc2 hC.1 hC.2.1 hC.2.2.2.2.1 (ax_wd hG hC hw rfl) hd (k hG p e R s m args below meth c H locs cells slots mc ms n0 ad ad0 ls hC hR hH hl ⟨trivial, hs⟩)
theorem ax_iload_n {x : Int32} {j : Fin 4} (i : Nat) (q : Nat) (hd : decode M.2.1 pc = .ok (.iload_n j, 1)) (hq : pc + 1 = q) (hi : (j : Nat) = i) (hv : ax_get lv i = some (.int x)) (k : ax_Ex G M d nc ns q lv (.int x :: st) w o) : ax_Ex G M d nc ns pc lv st w o := by
  subst hq
  intro hG p e R s m args below meth c H locs cells slots mc ms n0 ad ad0 ls hC hR hH hl hs
  exact lv_iload_n hC.1 hC.2.1 hd hi (ax_ls hl.1 hv) (k hG p e R s m args below meth c H locs cells slots mc ms n0 ad ad0 ls hC hR hH hl ⟨trivial, hs⟩)
theorem ax_iload {x : Int32} {i : Nat} (q : Nat) (hd : decode M.2.1 pc = .ok (.iload i, 2)) (hq : pc + 2 = q) (hv : ax_get lv i = some (.int x)) (k : ax_Ex G M d nc ns q lv (.int x :: st) w o) : ax_Ex G M d nc ns pc lv st w o := by
  subst hq
  intro hG p e R s m args below meth c H locs cells slots mc ms n0 ad ad0 ls hC hR hH hl hs
  exact lv_iload hC.1 hC.2.1 hd (ax_ls hl.1 hv) (k hG p e R s m args below meth c H locs cells slots mc ms n0 ad ad0 ls hC hR hH hl ⟨trivial, hs⟩)
theorem ax_lload_n {x : Int64} {j : Fin 4} (i : Nat) (q : Nat) (hd : decode M.2.1 pc = .ok (.lload_n j, 1)) (hq : pc + 1 = q) (hi : (j : Nat) = i) (hv : ax_get lv i = some (.long x)) (k : ax_Ex G M d nc ns q lv (.long x :: st) w o) : ax_Ex G M d nc ns pc lv st w o := by
  subst hq
  intro hG p e R s m args below meth c H locs cells slots mc ms n0 ad ad0 ls hC hR hH hl hs
  exact lv_lload_n hC.1 hC.2.1 hd hi (ax_ls hl.1 hv) (k hG p e R s m args below meth c H locs cells slots mc ms n0 ad ad0 ls hC hR hH hl ⟨trivial, hs⟩)
theorem ax_lload {x : Int64} {i : Nat} (q : Nat) (hd : decode M.2.1 pc = .ok (.lload i, 2)) (hq : pc + 2 = q) (hv : ax_get lv i = some (.long x)) (k : ax_Ex G M d nc ns q lv (.long x :: st) w o) : ax_Ex G M d nc ns pc lv st w o := by
  subst hq
  intro hG p e R s m args below meth c H locs cells slots mc ms n0 ad ad0 ls hC hR hH hl hs
  exact lv_lload hC.1 hC.2.1 hd (ax_ls hl.1 hv) (k hG p e R s m args below meth c H locs cells slots mc ms n0 ad ad0 ls hC hR hH hl ⟨trivial, hs⟩)
theorem ax_aload_n {x : Nat} {j : Fin 4} (i : Nat) (q : Nat) (hd : decode M.2.1 pc = .ok (.aload_n j, 1)) (hq : pc + 1 = q) (hi : (j : Nat) = i) (hv : ax_get lv i = some (.ref x)) (k : ax_Ex G M d nc ns q lv (.ref x :: st) w o) : ax_Ex G M d nc ns pc lv st w o := by
  subst hq
  intro hG p e R s m args below meth c H locs cells slots mc ms n0 ad ad0 ls hC hR hH hl hs
  exact lv_aload_n hC.1 hC.2.1 hd hi (ax_ls hl.1 hv) (k hG p e R s m args below meth c H locs cells slots mc ms n0 ad ad0 ls hC hR hH hl ⟨ax_lok_get hl.2 hv, hs⟩)
theorem ax_aload {x i : Nat} (q : Nat) (hd : decode M.2.1 pc = .ok (.aload i, 2)) (hq : pc + 2 = q) (hv : ax_get lv i = some (.ref x)) (k : ax_Ex G M d nc ns q lv (.ref x :: st) w o) : ax_Ex G M d nc ns pc lv st w o := by
  subst hq
  intro hG p e R s m args below meth c H locs cells slots mc ms n0 ad ad0 ls hC hR hH hl hs
  exact lv_aload hC.1 hC.2.1 hd (ax_ls hl.1 hv) (k hG p e R s m args below meth c H locs cells slots mc ms n0 ad ad0 ls hC hR hH hl ⟨ax_lok_get hl.2 hv, hs⟩)
theorem ax_aload_nR {x : Nat} {j : Fin 4} (i : Nat) (q : Nat) (hd : decode M.2.1 pc = .ok (.aload_n j, 1)) (hq : pc + 1 = q) (hi : (j : Nat) = i) (hv : ax_get lv i = some (.retAddr x)) (k : ax_Ex G M d nc ns q lv (.retAddr x :: st) w o) : ax_Ex G M d nc ns pc lv st w o := by
  subst hq
  intro hG p e R s m args below meth c H locs cells slots mc ms n0 ad ad0 ls hC hR hH hl hs
  exact lv_aload_n hC.1 hC.2.1 hd hi (ax_ls hl.1 hv) (k hG p e R s m args below meth c H locs cells slots mc ms n0 ad ad0 ls hC hR hH hl ⟨trivial, hs⟩)
theorem ax_istore_n {x : Int32} {j : Fin 4} (i : Nat) (q : Nat) (hd : decode M.2.1 pc = .ok (.istore_n j, 1)) (hq : pc + 1 = q) (hi : (j : Nat) = i) (hn : i < M.2.2.1) (k : ax_Ex G M d nc ns q (ax_set1 lv i (.int x)) st w o) : ax_Ex G M d nc ns pc lv (.int x :: st) w o := by
  subst hq
  intro hG p e R s m args below meth c H locs cells slots mc ms n0 ad ad0 ls hC hR hH hl hs
  exact lv_istore_n hC.1 hC.2.1 hd hi hl.1 hn (ax_set1_map ad lv i (.int x)) (fun ls' hl' => (k hG p e R s m args below meth c H locs cells slots mc ms n0 ad ad0 ls' hC hR hH ⟨hl', trivial, ax_lok_f _ hl.2⟩ hs.2))
theorem ax_istore {x : Int32} {i : Nat} (q : Nat) (hd : decode M.2.1 pc = .ok (.istore i, 2)) (hq : pc + 2 = q) (hn : i < M.2.2.1) (k : ax_Ex G M d nc ns q (ax_set1 lv i (.int x)) st w o) : ax_Ex G M d nc ns pc lv (.int x :: st) w o := by
  subst hq
  intro hG p e R s m args below meth c H locs cells slots mc ms n0 ad ad0 ls hC hR hH hl hs
  exact lv_istore hC.1 hC.2.1 hd hl.1 hn (ax_set1_map ad lv i (.int x)) (fun ls' hl' => (k hG p e R s m args below meth c H locs cells slots mc ms n0 ad ad0 ls' hC hR hH ⟨hl', trivial, ax_lok_f _ hl.2⟩ hs.2))
theorem ax_lstore_n {x : Int64} {j : Fin 4} (i : Nat) (q : Nat) (hd : decode M.2.1 pc = .ok (.lstore_n j, 1)) (hq : pc + 1 = q) (hi : (j : Nat) = i) (hn : i + 1 < M.2.2.1) (k : ax_Ex G M d nc ns q (ax_set2 lv i (.long x)) st w o) : ax_Ex G M d nc ns pc lv (.long x :: st) w o := by
  subst hq
  intro hG p e R s m args below meth c H locs cells slots mc ms n0 ad ad0 ls hC hR hH hl hs
  exact lv_lstore_n hC.1 hC.2.1 hd hi hl.1 hn (ax_set2_map ad lv i (.long x)) (fun ls' hl' => (k hG p e R s m args below meth c H locs cells slots mc ms n0 ad ad0 ls' hC hR hH ⟨hl', trivial, ax_lok_f _ hl.2⟩ hs.2))
theorem ax_lstore {x : Int64} {i : Nat} (q : Nat) (hd : decode M.2.1 pc = .ok (.lstore i, 2)) (hq : pc + 2 = q) (hn : i + 1 < M.2.2.1) (k : ax_Ex G M d nc ns q (ax_set2 lv i (.long x)) st w o) : ax_Ex G M d nc ns pc lv (.long x :: st) w o := by
  subst hq
  intro hG p e R s m args below meth c H locs cells slots mc ms n0 ad ad0 ls hC hR hH hl hs
  exact lv_lstore hC.1 hC.2.1 hd hl.1 hn (ax_set2_map ad lv i (.long x)) (fun ls' hl' => (k hG p e R s m args below meth c H locs cells slots mc ms n0 ad ad0 ls' hC hR hH ⟨hl', trivial, ax_lok_f _ hl.2⟩ hs.2))
theorem ax_astore_n {x : Nat} {j : Fin 4} (i : Nat) (q : Nat) (hd : decode M.2.1 pc = .ok (.astore_n j, 1)) (hq : pc + 1 = q) (hi : (j : Nat) = i) (hn : i < M.2.2.1) (k : ax_Ex G M d nc ns q (ax_set1 lv i (.ref x)) st w o) : ax_Ex G M d nc ns pc lv (.ref x :: st) w o := by
  subst hq
  intro hG p e R s m args below meth c H locs cells slots mc ms n0 ad ad0 ls hC hR hH hl hs
  exact lv_astore_n hC.1 hC.2.1 hd hi hl.1 hn (ax_set1_map ad lv i (.ref x)) (fun ls' hl' => (k hG p e R s m args below meth c H locs cells slots mc ms n0 ad ad0 ls' hC hR hH ⟨hl', hs.1, ax_lok_f _ hl.2⟩ hs.2))
theorem ax_astore_nR {x : Nat} {j : Fin 4} (i : Nat) (q : Nat) (hd : decode M.2.1 pc = .ok (.astore_n j, 1)) (hq : pc + 1 = q) (hi : (j : Nat) = i) (hn : i < M.2.2.1) (k : ax_Ex G M d nc ns q (ax_set1 lv i (.retAddr x)) st w o) : ax_Ex G M d nc ns pc lv (.retAddr x :: st) w o := by
  subst hq
  intro hG p e R s m args below meth c H locs cells slots mc ms n0 ad ad0 ls hC hR hH hl hs
  exact lv_astore_n hC.1 hC.2.1 hd hi hl.1 hn (ax_set1_map ad lv i (.retAddr x)) (fun ls' hl' => (k hG p e R s m args below meth c H locs cells slots mc ms n0 ad ad0 ls' hC hR hH ⟨hl', trivial, ax_lok_f _ hl.2⟩ hs.2))
theorem ax_astore {x : Nat} {i : Nat} (q : Nat) (hd : decode M.2.1 pc = .ok (.astore i, 2)) (hq : pc + 2 = q) (hn : i < M.2.2.1) (k : ax_Ex G M d nc ns q (ax_set1 lv i (.ref x)) st w o) : ax_Ex G M d nc ns pc lv (.ref x :: st) w o := by
  subst hq
  intro hG p e R s m args below meth c H locs cells slots mc ms n0 ad ad0 ls hC hR hH hl hs
  exact lv_astore hC.1 hC.2.1 hd hl.1 hn (ax_set1_map ad lv i (.ref x)) (fun ls' hl' => (k hG p e R s m args below meth c H locs cells slots mc ms n0 ad ad0 ls' hC hR hH ⟨hl', hs.1, ax_lok_f _ hl.2⟩ hs.2))
theorem ax_astoreR {x : Nat} {i : Nat} (q : Nat) (hd : decode M.2.1 pc = .ok (.astore i, 2)) (hq : pc + 2 = q) (hn : i < M.2.2.1) (k : ax_Ex G M d nc ns q (ax_set1 lv i (.retAddr x)) st w o) : ax_Ex G M d nc ns pc lv (.retAddr x :: st) w o := by
  subst hq
  intro hG p e R s m args below meth c H locs cells slots mc ms n0 ad ad0 ls hC hR hH hl hs
  exact lv_astore hC.1 hC.2.1 hd hl.1 hn (ax_set1_map ad lv i (.retAddr x)) (fun ls' hl' => (k hG p e R s m args below meth c H locs cells slots mc ms n0 ad ad0 ls' hC hR hH ⟨hl', trivial, ax_lok_f _ hl.2⟩ hs.2))
theorem ax_iinc {i : Nat} {n : Int} {x v : Int32} (q : Nat) (hd : decode M.2.1 pc = .ok (.iinc i n, 3)) (hq : pc + 3 = q) (hg : ax_get lv i = some (.int x)) (hv : x + Int32.ofInt n = v) (hn : i < M.2.2.1) (k : ax_Ex G M d nc ns q (ax_set1 lv i (.int v)) st w o) : ax_Ex G M d nc ns pc lv st w o := by
  subst hq
  intro hG p e R s m args below meth c H locs cells slots mc ms n0 ad ad0 ls hC hR hH hl hs
  obtain ⟨j, hj⟩ := ax_get_in hg
  exact lv_iinc (k := j) (v := v) hC.1 hC.2.1 hd hl.1 (by rw [List.getElem?_map, hj]; rfl) hv hn (ax_set1_map ad lv i (.int v)) (fun ls' hl' => (k hG p e R s m args below meth c H locs cells slots mc ms n0 ad ad0 ls' hC hR hH ⟨hl', trivial, ax_lok_f _ hl.2⟩ hs))
theorem ax_iadd {x y : Int32} (q : Nat) (hd : decode M.2.1 pc = .ok (.iadd, 1)) (hq : pc + 1 = q) (k : ax_Ex G M d nc ns q lv (.int (x + y) :: st) w o) : ax_Ex G M d nc ns pc lv (.int y :: .int x :: st) w o := by
  subst hq
  intro hG p e R s m args below meth c H locs cells slots mc ms n0 ad ad0 ls hC hR hH hl hs
  exact lv_iadd hC.1 hC.2.1 hd (k hG p e R s m args below meth c H locs cells slots mc ms n0 ad ad0 ls hC hR hH hl ⟨trivial, hs.2.2⟩)
theorem ax_isub {x y : Int32} (q : Nat) (hd : decode M.2.1 pc = .ok (.isub, 1)) (hq : pc + 1 = q) (k : ax_Ex G M d nc ns q lv (.int (x - y) :: st) w o) : ax_Ex G M d nc ns pc lv (.int y :: .int x :: st) w o := by
  subst hq
  intro hG p e R s m args below meth c H locs cells slots mc ms n0 ad ad0 ls hC hR hH hl hs
  exact lv_isub hC.1 hC.2.1 hd (k hG p e R s m args below meth c H locs cells slots mc ms n0 ad ad0 ls hC hR hH hl ⟨trivial, hs.2.2⟩)
theorem ax_imul {x y : Int32} (q : Nat) (hd : decode M.2.1 pc = .ok (.imul, 1)) (hq : pc + 1 = q) (k : ax_Ex G M d nc ns q lv (.int (x * y) :: st) w o) : ax_Ex G M d nc ns pc lv (.int y :: .int x :: st) w o := by
  subst hq
  intro hG p e R s m args below meth c H locs cells slots mc ms n0 ad ad0 ls hC hR hH hl hs
  exact lv_imul hC.1 hC.2.1 hd (k hG p e R s m args below meth c H locs cells slots mc ms n0 ad ad0 ls hC hR hH hl ⟨trivial, hs.2.2⟩)
theorem ax_iand {x y : Int32} (q : Nat) (hd : decode M.2.1 pc = .ok (.iand, 1)) (hq : pc + 1 = q) (k : ax_Ex G M d nc ns q lv (.int (x &&& y) :: st) w o) : ax_Ex G M d nc ns pc lv (.int y :: .int x :: st) w o := by
  subst hq
  intro hG p e R s m args below meth c H locs cells slots mc ms n0 ad ad0 ls hC hR hH hl hs
  exact lv_iand hC.1 hC.2.1 hd (k hG p e R s m args below meth c H locs cells slots mc ms n0 ad ad0 ls hC hR hH hl ⟨trivial, hs.2.2⟩)
theorem ax_ior {x y : Int32} (q : Nat) (hd : decode M.2.1 pc = .ok (.ior, 1)) (hq : pc + 1 = q) (k : ax_Ex G M d nc ns q lv (.int (x ||| y) :: st) w o) : ax_Ex G M d nc ns pc lv (.int y :: .int x :: st) w o := by
  subst hq
  intro hG p e R s m args below meth c H locs cells slots mc ms n0 ad ad0 ls hC hR hH hl hs
  exact lv_ior hC.1 hC.2.1 hd (k hG p e R s m args below meth c H locs cells slots mc ms n0 ad ad0 ls hC hR hH hl ⟨trivial, hs.2.2⟩)
theorem ax_ixor {x y : Int32} (q : Nat) (hd : decode M.2.1 pc = .ok (.ixor, 1)) (hq : pc + 1 = q) (k : ax_Ex G M d nc ns q lv (.int (x ^^^ y) :: st) w o) : ax_Ex G M d nc ns pc lv (.int y :: .int x :: st) w o := by
  subst hq
  intro hG p e R s m args below meth c H locs cells slots mc ms n0 ad ad0 ls hC hR hH hl hs
  exact lv_ixor hC.1 hC.2.1 hd (k hG p e R s m args below meth c H locs cells slots mc ms n0 ad ad0 ls hC hR hH hl ⟨trivial, hs.2.2⟩)
theorem ax_idiv {x y : Int32} (q : Nat) (hd : decode M.2.1 pc = .ok (.idiv, 1)) (hq : pc + 1 = q) (hz : ¬ y = 0) (k : ax_Ex G M d nc ns q lv (.int (x / y) :: st) w o) : ax_Ex G M d nc ns pc lv (.int y :: .int x :: st) w o := by
  subst hq
  intro hG p e R s m args below meth c H locs cells slots mc ms n0 ad ad0 ls hC hR hH hl hs
  exact lv_idiv hC.1 hC.2.1 hd hz (k hG p e R s m args below meth c H locs cells slots mc ms n0 ad ad0 ls hC hR hH hl ⟨trivial, hs.2.2⟩)
theorem ax_ineg {x : Int32} (q : Nat) (hd : decode M.2.1 pc = .ok (.ineg, 1)) (hq : pc + 1 = q) (k : ax_Ex G M d nc ns q lv (.int (-x) :: st) w o) : ax_Ex G M d nc ns pc lv (.int x :: st) w o := by
  subst hq
  intro hG p e R s m args below meth c H locs cells slots mc ms n0 ad ad0 ls hC hR hH hl hs
  exact lv_ineg hC.1 hC.2.1 hd (k hG p e R s m args below meth c H locs cells slots mc ms n0 ad ad0 ls hC hR hH hl ⟨trivial, hs.2⟩)
theorem ax_ishl {x y : Int32} (q : Nat) (hd : decode M.2.1 pc = .ok (.ishl, 1)) (hq : pc + 1 = q) (k : ax_Ex G M d nc ns q lv (.int (x <<< (y &&& 31)) :: st) w o) : ax_Ex G M d nc ns pc lv (.int y :: .int x :: st) w o := by
  subst hq
  intro hG p e R s m args below meth c H locs cells slots mc ms n0 ad ad0 ls hC hR hH hl hs
  exact lv_ishl hC.1 hC.2.1 hd (k hG p e R s m args below meth c H locs cells slots mc ms n0 ad ad0 ls hC hR hH hl ⟨trivial, hs.2.2⟩)
theorem ax_ladd {x y : Int64} (q : Nat) (hd : decode M.2.1 pc = .ok (.ladd, 1)) (hq : pc + 1 = q) (k : ax_Ex G M d nc ns q lv (.long (x + y) :: st) w o) : ax_Ex G M d nc ns pc lv (.long y :: .long x :: st) w o := by
  subst hq
  intro hG p e R s m args below meth c H locs cells slots mc ms n0 ad ad0 ls hC hR hH hl hs
  exact lv_ladd hC.1 hC.2.1 hd (k hG p e R s m args below meth c H locs cells slots mc ms n0 ad ad0 ls hC hR hH hl ⟨trivial, hs.2.2⟩)
theorem ax_lsub {x y : Int64} (q : Nat) (hd : decode M.2.1 pc = .ok (.lsub, 1)) (hq : pc + 1 = q) (k : ax_Ex G M d nc ns q lv (.long (x - y) :: st) w o) : ax_Ex G M d nc ns pc lv (.long y :: .long x :: st) w o := by
  subst hq
  intro hG p e R s m args below meth c H locs cells slots mc ms n0 ad ad0 ls hC hR hH hl hs
  exact lv_lsub hC.1 hC.2.1 hd (k hG p e R s m args below meth c H locs cells slots mc ms n0 ad ad0 ls hC hR hH hl ⟨trivial, hs.2.2⟩)
theorem ax_lmul {x y : Int64} (q : Nat) (hd : decode M.2.1 pc = .ok (.lmul, 1)) (hq : pc + 1 = q) (k : ax_Ex G M d nc ns q lv (.long (x * y) :: st) w o) : ax_Ex G M d nc ns pc lv (.long y :: .long x :: st) w o := by
  subst hq
  intro hG p e R s m args below meth c H locs cells slots mc ms n0 ad ad0 ls hC hR hH hl hs
  exact lv_lmul hC.1 hC.2.1 hd (k hG p e R s m args below meth c H locs cells slots mc ms n0 ad ad0 ls hC hR hH hl ⟨trivial, hs.2.2⟩)
theorem ax_ldiv {x y : Int64} (q : Nat) (hd : decode M.2.1 pc = .ok (.ldiv, 1)) (hq : pc + 1 = q) (hz : ¬ y = 0) (k : ax_Ex G M d nc ns q lv (.long (x / y) :: st) w o) : ax_Ex G M d nc ns pc lv (.long y :: .long x :: st) w o := by
  subst hq
  intro hG p e R s m args below meth c H locs cells slots mc ms n0 ad ad0 ls hC hR hH hl hs
  exact lv_ldiv hC.1 hC.2.1 hd hz (k hG p e R s m args below meth c H locs cells slots mc ms n0 ad ad0 ls hC hR hH hl ⟨trivial, hs.2.2⟩)
theorem ax_lrem {x y : Int64} (q : Nat) (hd : decode M.2.1 pc = .ok (.lrem, 1)) (hq : pc + 1 = q) (hz : ¬ y = 0) (k : ax_Ex G M d nc ns q lv (.long (x - x / y * y) :: st) w o) : ax_Ex G M d nc ns pc lv (.long y :: .long x :: st) w o := by
  subst hq
  intro hG p e R s m args below meth c H locs cells slots mc ms n0 ad ad0 ls hC hR hH hl hs
  exact lv_lrem hC.1 hC.2.1 hd hz (k hG p e R s m args below meth c H locs cells slots mc ms n0 ad ad0 ls hC hR hH hl ⟨trivial, hs.2.2⟩)
theorem ax_i2l {x : Int32} (q : Nat) (hd : decode M.2.1 pc = .ok (.i2l, 1)) (hq : pc + 1 = q) (k : ax_Ex G M d nc ns q lv (.long x.toInt64 :: st) w o) : ax_Ex G M d nc ns pc lv (.int x :: st) w o := by
  subst hq
  intro hG p e R s m args below meth c H locs cells slots mc ms n0 ad ad0 ls hC hR hH hl hs
  exact lv_i2l hC.1 hC.2.1 hd rfl (k hG p e R s m args below meth c H locs cells slots mc ms n0 ad ad0 ls hC hR hH hl ⟨trivial, hs.2⟩)
theorem ax_l2i {x : Int64} (q : Nat) (hd : decode M.2.1 pc = .ok (.l2i, 1)) (hq : pc + 1 = q) (k : ax_Ex G M d nc ns q lv (.int x.toInt32 :: st) w o) : ax_Ex G M d nc ns pc lv (.long x :: st) w o := by
  subst hq
  intro hG p e R s m args below meth c H locs cells slots mc ms n0 ad ad0 ls hC hR hH hl hs
  exact lv_l2i hC.1 hC.2.1 hd rfl (k hG p e R s m args below meth c H locs cells slots mc ms n0 ad ad0 ls hC hR hH hl ⟨trivial, hs.2⟩)
theorem ax_lcmp {x y : Int64} (q : Nat) (hd : decode M.2.1 pc = .ok (.lcmp, 1)) (hq : pc + 1 = q) (k : ax_Ex G M d nc ns q lv (.int (lg_cmp x y) :: st) w o) : ax_Ex G M d nc ns pc lv (.long y :: .long x :: st) w o := by
  subst hq
  intro hG p e R s m args below meth c H locs cells slots mc ms n0 ad ad0 ls hC hR hH hl hs
  exact W.lcmp hC.1 hC.2.1 hd (k hG p e R s m args below meth c H locs cells slots mc ms n0 ad ad0 ls hC hR hH hl ⟨trivial, hs.2.2⟩)
theorem ax_dup {v : Value} (q : Nat) (hd : decode M.2.1 pc = .ok (.dup, 1)) (hq : pc + 1 = q) (hv : v.category = 1) (k : ax_Ex G M d nc ns q lv (v :: v :: st) w o) : ax_Ex G M d nc ns pc lv (v :: st) w o := by
  subst hq
  intro hG p e R s m args below meth c H locs cells slots mc ms n0 ad ad0 ls hC hR hH hl hs
  exact lv_dup hC.1 hC.2.1 hd ((ax_cat ad v).trans hv) (k hG p e R s m args below meth c H locs cells slots mc ms n0 ad ad0 ls hC hR hH hl ⟨hs.1, hs⟩)
theorem ax_pop {v : Value} (q : Nat) (hd : decode M.2.1 pc = .ok (.pop, 1)) (hq : pc + 1 = q) (hv : v.category = 1) (k : ax_Ex G M d nc ns q lv st w o) : ax_Ex G M d nc ns pc lv (v :: st) w o := by
  subst hq
  intro hG p e R s m args below meth c H locs cells slots mc ms n0 ad ad0 ls hC hR hH hl hs
  exact lv_pop hC.1 hC.2.1 hd ((ax_cat ad v).trans hv) (k hG p e R s m args below meth c H locs cells slots mc ms n0 ad ad0 ls hC hR hH hl hs.2)
theorem ax_dup2 {v u : Value} (q : Nat) (hd : decode M.2.1 pc = .ok (.dup2, 1)) (hq : pc + 1 = q) (hv : v.category = 1) (hu : u.category = 1) (k : ax_Ex G M d nc ns q lv (v :: u :: v :: u :: st) w o) : ax_Ex G M d nc ns pc lv (v :: u :: st) w o := by
  subst hq
  intro hG p e R s m args below meth c H locs cells slots mc ms n0 ad ad0 ls hC hR hH hl hs
  exact lv_dup2_11 hC.1 hC.2.1 hd ((ax_cat ad v).trans hv) ((ax_cat ad u).trans hu) (k hG p e R s m args below meth c H locs cells slots mc ms n0 ad ad0 ls hC hR hH hl ⟨hs.1, hs.2.1, hs⟩)
theorem ax_if_eq {x : Int32} {off : Int} (tgt q : Nat) (hd : decode M.2.1 pc = .ok (.ifCond .eq off, 3)) (ht : (pc : Int) + off = (tgt : Int)) (hq : pc + 3 = q) (kt : x = 0 → ax_Ex G M d nc ns tgt lv st w o) (kf : ¬ x = 0 → ax_Ex G M d nc ns q lv st w o) : ax_Ex G M d nc ns pc lv (.int x :: st) w o := by
  subst hq
  intro hG p e R s m args below meth c H locs cells slots mc ms n0 ad ad0 ls hC hR hH hl hs
  exact lv_if_eq hC.1 hC.2.1 hd ht (fun h9 => (kt h9 hG p e R s m args below meth c H locs cells slots mc ms n0 ad ad0 ls hC hR hH hl hs.2)) (fun h9 => (kf h9 hG p e R s m args below meth c H locs cells slots mc ms n0 ad ad0 ls hC hR hH hl hs.2))
theorem ax_icmp_eq {x y : Int32} {off : Int} (tgt q : Nat) (hd : decode M.2.1 pc = .ok (.if_icmp .eq off, 3)) (ht : (pc : Int) + off = (tgt : Int)) (hq : pc + 3 = q) (kt : x = y → ax_Ex G M d nc ns tgt lv st w o) (kf : ¬ x = y → ax_Ex G M d nc ns q lv st w o) : ax_Ex G M d nc ns pc lv (.int y :: .int x :: st) w o := by
  subst hq
  intro hG p e R s m args below meth c H locs cells slots mc ms n0 ad ad0 ls hC hR hH hl hs
  exact lv_icmp_eq hC.1 hC.2.1 hd ht (fun h9 => (kt h9 hG p e R s m args below meth c H locs cells slots mc ms n0 ad ad0 ls hC hR hH hl hs.2.2)) (fun h9 => (kf h9 hG p e R s m args below meth c H locs cells slots mc ms n0 ad ad0 ls hC hR hH hl hs.2.2))
theorem ax_if_ne {x : Int32} {off : Int} (tgt q : Nat) (hd : decode M.2.1 pc = .ok (.ifCond .ne off, 3)) (ht : (pc : Int) + off = (tgt : Int)) (hq : pc + 3 = q) (kt : ¬ x = 0 → ax_Ex G M d nc ns tgt lv st w o) (kf : x = 0 → ax_Ex G M d nc ns q lv st w o) : ax_Ex G M d nc ns pc lv (.int x :: st) w o := by
  subst hq
  intro hG p e R s m args below meth c H locs cells slots mc ms n0 ad ad0 ls hC hR hH hl hs
  exact lv_if_ne hC.1 hC.2.1 hd ht (fun h9 => (kt h9 hG p e R s m args below meth c H locs cells slots mc ms n0 ad ad0 ls hC hR hH hl hs.2)) (fun h9 => (kf h9 hG p e R s m args below meth c H locs cells slots mc ms n0 ad ad0 ls hC hR hH hl hs.2))
theorem ax_icmp_ne {x y : Int32} {off : Int} (tgt q : Nat) (hd : decode M.2.1 pc = .ok (.if_icmp .ne off, 3)) (ht : (pc : Int) + off = (tgt : Int)) (hq : pc + 3 = q) (kt : ¬ x = y → ax_Ex G M d nc ns tgt lv st w o) (kf : x = y → ax_Ex G M d nc ns q lv st w o) : ax_Ex G M d nc ns pc lv (.int y :: .int x :: st) w o := by
  subst hq
  intro hG p e R s m args below meth c H locs cells slots mc ms n0 ad ad0 ls hC hR hH hl hs
  exact lv_icmp_ne hC.1 hC.2.1 hd ht (fun h9 => (kt h9 hG p e R s m args below meth c H locs cells slots mc ms n0 ad ad0 ls hC hR hH hl hs.2.2)) (fun h9 => (kf h9 hG p e R s m args below meth c H locs cells slots mc ms n0 ad ad0 ls hC hR hH hl hs.2.2))
theorem ax_if_lt {x : Int32} {off : Int} (tgt q : Nat) (hd : decode M.2.1 pc = .ok (.ifCond .lt off, 3)) (ht : (pc : Int) + off = (tgt : Int)) (hq : pc + 3 = q) (kt : x < 0 → ax_Ex G M d nc ns tgt lv st w o) (kf : ¬ x < 0 → ax_Ex G M d nc ns q lv st w o) : ax_Ex G M d nc ns pc lv (.int x :: st) w o := by
  subst hq
  intro hG p e R s m args below meth c H locs cells slots mc ms n0 ad ad0 ls hC hR hH hl hs
  exact lv_if_lt hC.1 hC.2.1 hd ht (fun h9 => (kt h9 hG p e R s m args below meth c H locs cells slots mc ms n0 ad ad0 ls hC hR hH hl hs.2)) (fun h9 => (kf h9 hG p e R s m args below meth c H locs cells slots mc ms n0 ad ad0 ls hC hR hH hl hs.2))
theorem ax_icmp_lt {x y : Int32} {off : Int} (tgt q : Nat) (hd : decode M.2.1 pc = .ok (.if_icmp .lt off, 3)) (ht : (pc : Int) + off = (tgt : Int)) (hq : pc + 3 = q) (kt : x < y → ax_Ex G M d nc ns tgt lv st w o) (kf : ¬ x < y → ax_Ex G M d nc ns q lv st w o) : ax_Ex G M d nc ns pc lv (.int y :: .int x :: st) w o := by
  subst hq
  intro hG p e R s m args below meth c H locs cells slots mc ms n0 ad ad0 ls hC hR hH hl hs
  exact lv_icmp_lt hC.1 hC.2.1 hd ht (fun h9 => (kt h9 hG p e R s m args below meth c H locs cells slots mc ms n0 ad ad0 ls hC hR hH hl hs.2.2)) (fun h9 => (kf h9 hG p e R s m args below meth c H locs cells slots mc ms n0 ad ad0 ls hC hR hH hl hs.2.2))
theorem ax_if_ge {x : Int32} {off : Int} (tgt q : Nat) (hd : decode M.2.1 pc = .ok (.ifCond .ge off, 3)) (ht : (pc : Int) + off = (tgt : Int)) (hq : pc + 3 = q) (kt : 0 ≤ x → ax_Ex G M d nc ns tgt lv st w o) (kf : ¬ 0 ≤ x → ax_Ex G M d nc ns q lv st w o) : ax_Ex G M d nc ns pc lv (.int x :: st) w o := by
  subst hq
  intro hG p e R s m args below meth c H locs cells slots mc ms n0 ad ad0 ls hC hR hH hl hs
  exact lv_if_ge hC.1 hC.2.1 hd ht (fun h9 => (kt h9 hG p e R s m args below meth c H locs cells slots mc ms n0 ad ad0 ls hC hR hH hl hs.2)) (fun h9 => (kf h9 hG p e R s m args below meth c H locs cells slots mc ms n0 ad ad0 ls hC hR hH hl hs.2))
theorem ax_icmp_ge {x y : Int32} {off : Int} (tgt q : Nat) (hd : decode M.2.1 pc = .ok (.if_icmp .ge off, 3)) (ht : (pc : Int) + off = (tgt : Int)) (hq : pc + 3 = q) (kt : y ≤ x → ax_Ex G M d nc ns tgt lv st w o) (kf : ¬ y ≤ x → ax_Ex G M d nc ns q lv st w o) : ax_Ex G M d nc ns pc lv (.int y :: .int x :: st) w o := by
  subst hq
  intro hG p e R s m args below meth c H locs cells slots mc ms n0 ad ad0 ls hC hR hH hl hs
  exact lv_icmp_ge hC.1 hC.2.1 hd ht (fun h9 => (kt h9 hG p e R s m args below meth c H locs cells slots mc ms n0 ad ad0 ls hC hR hH hl hs.2.2)) (fun h9 => (kf h9 hG p e R s m args below meth c H locs cells slots mc ms n0 ad ad0 ls hC hR hH hl hs.2.2))
theorem ax_if_gt {x : Int32} {off : Int} (tgt q : Nat) (hd : decode M.2.1 pc = .ok (.ifCond .gt off, 3)) (ht : (pc : Int) + off = (tgt : Int)) (hq : pc + 3 = q) (kt : 0 < x → ax_Ex G M d nc ns tgt lv st w o) (kf : ¬ 0 < x → ax_Ex G M d nc ns q lv st w o) : ax_Ex G M d nc ns pc lv (.int x :: st) w o := by
  subst hq
  intro hG p e R s m args below meth c H locs cells slots mc ms n0 ad ad0 ls hC hR hH hl hs
  exact lv_if_gt hC.1 hC.2.1 hd ht (fun h9 => (kt h9 hG p e R s m args below meth c H locs cells slots mc ms n0 ad ad0 ls hC hR hH hl hs.2)) (fun h9 => (kf h9 hG p e R s m args below meth c H locs cells slots mc ms n0 ad ad0 ls hC hR hH hl hs.2))
theorem ax_icmp_gt {x y : Int32} {off : Int} (tgt q : Nat) (hd : decode M.2.1 pc = .ok (.if_icmp .gt off, 3)) (ht : (pc : Int) + off = (tgt : Int)) (hq : pc + 3 = q) (kt : y < x → ax_Ex G M d nc ns tgt lv st w o) (kf : ¬ y < x → ax_Ex G M d nc ns q lv st w o) : ax_Ex G M d nc ns pc lv (.int y :: .int x :: st) w o := by
  subst hq
  intro hG p e R s m args below meth c H locs cells slots mc ms n0 ad ad0 ls hC hR hH hl hs
  exact lv_icmp_gt hC.1 hC.2.1 hd ht (fun h9 => (kt h9 hG p e R s m args below meth c H locs cells slots mc ms n0 ad ad0 ls hC hR hH hl hs.2.2)) (fun h9 => (kf h9 hG p e R s m args below meth c H locs cells slots mc ms n0 ad ad0 ls hC hR hH hl hs.2.2))
theorem ax_if_le {x : Int32} {off : Int} (tgt q : Nat) (hd : decode M.2.1 pc = .ok (.ifCond .le off, 3)) (ht : (pc : Int) + off = (tgt : Int)) (hq : pc + 3 = q) (kt : x ≤ 0 → ax_Ex G M d nc ns tgt lv st w o) (kf : ¬ x ≤ 0 → ax_Ex G M d nc ns q lv st w o) : ax_Ex G M d nc ns pc lv (.int x :: st) w o := by
  subst hq
  intro hG p e R s m args below meth c H locs cells slots mc ms n0 ad ad0 ls hC hR hH hl hs
  exact lv_if_le hC.1 hC.2.1 hd ht (fun h9 => (kt h9 hG p e R s m args below meth c H locs cells slots mc ms n0 ad ad0 ls hC hR hH hl hs.2)) (fun h9 => (kf h9 hG p e R s m args below meth c H locs cells slots mc ms n0 ad ad0 ls hC hR hH hl hs.2))
theorem ax_icmp_le {x y : Int32} {off : Int} (tgt q : Nat) (hd : decode M.2.1 pc = .ok (.if_icmp .le off, 3)) (ht : (pc : Int) + off = (tgt : Int)) (hq : pc + 3 = q) (kt : x ≤ y → ax_Ex G M d nc ns tgt lv st w o) (kf : ¬ x ≤ y → ax_Ex G M d nc ns q lv st w o) : ax_Ex G M d nc ns pc lv (.int y :: .int x :: st) w o := by
  subst hq
  intro hG p e R s m args below meth c H locs cells slots mc ms n0 ad ad0 ls hC hR hH hl hs
  exact lv_icmp_le hC.1 hC.2.1 hd ht (fun h9 => (kt h9 hG p e R s m args below meth c H locs cells slots mc ms n0 ad ad0 ls hC hR hH hl hs.2.2)) (fun h9 => (kf h9 hG p e R s m args below meth c H locs cells slots mc ms n0 ad ad0 ls hC hR hH hl hs.2.2))
theorem ax_goto {off : Int} (tgt : Nat) (hd : decode M.2.1 pc = .ok (.goto off, 3)) (ht : (pc : Int) + off = (tgt : Int)) (k : ax_Ex G M d nc ns tgt lv st w o) : ax_Ex G M d nc ns pc lv st w o := by
  intro hG p e R s m args below meth c H locs cells slots mc ms n0 ad ad0 ls hC hR hH hl hs
  exact lv_goto hC.1 hC.2.1 hd ht (k hG p e R s m args below meth c H locs cells slots mc ms n0 ad ad0 ls hC hR hH hl hs)
theorem ax_lookup {dflt : Int} {ps : Array (Int × Int)} {len : Nat} {x : Int32} {off : Int} (tgt : Nat) (hd : decode M.2.1 pc = .ok (.lookupswitch dflt ps, len)) (hp : (ps.toList.zip (ps.toList.drop 1)).all (fun (a, next) => a.1 < next.1) = true) (ho : Op.lookupswitch.offset ps.toList dflt x.toInt = off) (ht : (pc : Int) + off = (tgt : Int)) (k : ax_Ex G M d nc ns tgt lv st w o) : ax_Ex G M d nc ns pc lv (.int x :: st) w o := by
  intro hG p e R s m args below meth c H locs cells slots mc ms n0 ad ad0 ls hC hR hH hl hs
  exact lv_lookup hC.1 hC.2.1 hd hp ho ht (k hG p e R s m args below meth c H locs cells slots mc ms n0 ad ad0 ls hC hR hH hl hs.2)
theorem ax_tableOut {dflt lo hi : Int} {offs : Array Int} {len : Nat} {x : Int32} (tgt : Nat) (hd : decode M.2.1 pc = .ok (.tableswitch dflt lo hi offs, len)) (h : x.toInt < lo ∨ hi < x.toInt) (ht : (pc : Int) + dflt = (tgt : Int)) (k : ax_Ex G M d nc ns tgt lv st w o) : ax_Ex G M d nc ns pc lv (.int x :: st) w o := by
  intro hG p e R s m args below meth c H locs cells slots mc ms n0 ad ad0 ls hC hR hH hl hs
  exact lv_tableOut hC.1 hC.2.1 hd h ht (k hG p e R s m args below meth c H locs cells slots mc ms n0 ad ad0 ls hC hR hH hl hs.2)
theorem ax_tableIn {dflt lo hi : Int} {offs : Array Int} {len : Nat} {x : Int32} {off : Int} (tgt : Nat) (hd : decode M.2.1 pc = .ok (.tableswitch dflt lo hi offs, len)) (h1 : ¬ x.toInt < lo) (h2 : ¬ hi < x.toInt) (ho : offs[(x.toInt - lo).toNat]? = some off) (ht : (pc : Int) + off = (tgt : Int)) (k : ax_Ex G M d nc ns tgt lv st w o) : ax_Ex G M d nc ns pc lv (.int x :: st) w o := by
  intro hG p e R s m args below meth c H locs cells slots mc ms n0 ad ad0 ls hC hR hH hl hs
  exact lv_tableIn hC.1 hC.2.1 hd h1 h2 ho ht (k hG p e R s m args below meth c H locs cells slots mc ms n0 ad ad0 ls hC hR hH hl hs.2)
theorem ax_iald {a n : Nat} {f : Nat → Int32} {i : Int32} (q : Nat) (hd : decode M.2.1 pc = .ok (.iaload, 1)) (hq : pc + 1 = q) (he : w[a]? = some (.inl (0, n, .inl f))) (hi : vp_in i n) (k : ax_Ex G M d nc ns q lv (.int (f i.toNatClampNeg) :: st) w o) : ax_Ex G M d nc ns pc lv (.int i :: .ref a :: st) w o := by
  subst hq
  intro hG p e R s m args below meth c H locs cells slots mc ms n0 ad ad0 ls hC hR hH hl hs
  exact va_iald (D := G.D) (cl := ax_cl) (tys := ax_tys G) hC.1 hC.2.1 (ax_K hG hC) hH.2.2.2.1 a 0 (ax_rw_at G ad he) rfl hi hd (k hG p e R s m args below meth c H locs cells slots mc ms n0 ad ad0 ls hC hR hH hl ⟨trivial, hs.2.2⟩)
theorem ax_zald {a n : Nat} {f : Nat → Int32} {i : Int32} (q : Nat) (hd : decode M.2.1 pc = .ok (.baload, 1)) (hq : pc + 1 = q) (he : w[a]? = some (.inl (1, n, .inl f))) (hi : vp_in i n) (k : ax_Ex G M d nc ns q lv (.int (f i.toNatClampNeg) :: st) w o) : ax_Ex G M d nc ns pc lv (.int i :: .ref a :: st) w o := by
  subst hq
  intro hG p e R s m args below meth c H locs cells slots mc ms n0 ad ad0 ls hC hR hH hl hs
  exact va_zald (D := G.D) (cl := ax_cl) (tys := ax_tys G) hC.1 hC.2.1 (ax_K hG hC) hH.2.2.2.1 a 1 (ax_rw_at G ad he) rfl hi hd (k hG p e R s m args below meth c H locs cells slots mc ms n0 ad ad0 ls hC hR hH hl ⟨trivial, hs.2.2⟩)
theorem ax_lald {a n : Nat} {f : Nat → Int64} {i : Int32} (q : Nat) (hd : decode M.2.1 pc = .ok (.laload, 1)) (hq : pc + 1 = q) (he : w[a]? = some (.inl (2, n, .inr f))) (hi : vp_in i n) (k : ax_Ex G M d nc ns q lv (.long (f i.toNatClampNeg) :: st) w o) : ax_Ex G M d nc ns pc lv (.int i :: .ref a :: st) w o := by
  subst hq
  intro hG p e R s m args below meth c H locs cells slots mc ms n0 ad ad0 ls hC hR hH hl hs
  exact va_lald (D := G.D) (cl := ax_cl) (tys := ax_tys G) hC.1 hC.2.1 (ax_K hG hC) hH.2.2.2.1 a 2 (ax_rw_at G ad he) rfl hi hd (k hG p e R s m args below meth c H locs cells slots mc ms n0 ad ad0 ls hC hR hH hl ⟨trivial, hs.2.2⟩)
theorem ax_iast {a n : Nat} {f : Nat → Int32} {i : Int32} {x : Int32} (q : Nat) (hd : decode M.2.1 pc = .ok (.iastore, 1)) (hq : pc + 1 = q) (he : w[a]? = some (.inl (0, n, .inl f))) (hi : vp_in i n) (k : ax_Ex G M d nc ns q lv st (w.set a (.inl (0, n, .inl (upd f i.toNatClampNeg x)))) o) : ax_Ex G M d nc ns pc lv (.int x :: .int i :: .ref a :: st) w o := by
  subst hq
  intro hG p e R s m args below meth c H locs cells slots mc ms n0 ad ad0 ls hC hR hH hl hs
  refine va_iast (D := G.D) (cl := ax_cl) (tys := ax_tys G) (A := ax_A G) (H0 := s.heap) hC.1 hC.2.1 (ax_K hG hC) hH.2.2.2.1 hH.2.2.2.2.1 hH.2.2.2.2.2 a 0 (ax_rw_at G ad he) rfl hi hd (fun H' locs' hP' hD' hS' => ?_)
  have hh : ax_H G ad ad0 n0 (w.set a (.inl (0, n, .inl (upd f i.toNatClampNeg x)))) s H' locs' := ⟨by rw [List.length_set]; exact hH.1, hH.2.1, ax_wf_set hH.2.2.1 trivial, by rw [← ax_rw_set]; exact hP', by rw [← ax_rw_set]; exact hD', hS'⟩
  exact (k hG p e R s m args below meth c H' locs' cells slots mc ms n0 ad ad0 ls hC hR hh ⟨hl.1, by rw [List.length_set]; exact hl.2⟩ (by rw [List.length_set]; exact hs.2.2.2))
theorem ax_zast {a n : Nat} {f : Nat → Int32} {i : Int32} {x : Int32} (q : Nat) (hd : decode M.2.1 pc = .ok (.bastore, 1)) (hq : pc + 1 = q) (he : w[a]? = some (.inl (1, n, .inl f))) (hi : vp_in i n) (k : ax_Ex G M d nc ns q lv st (w.set a (.inl (1, n, .inl (upd f i.toNatClampNeg (vp_nar .boolean x))))) o) : ax_Ex G M d nc ns pc lv (.int x :: .int i :: .ref a :: st) w o := by
  subst hq
  intro hG p e R s m args below meth c H locs cells slots mc ms n0 ad ad0 ls hC hR hH hl hs
  refine va_zast (D := G.D) (cl := ax_cl) (tys := ax_tys G) (A := ax_A G) (H0 := s.heap) hC.1 hC.2.1 (ax_K hG hC) hH.2.2.2.1 hH.2.2.2.2.1 hH.2.2.2.2.2 a 1 (ax_rw_at G ad he) rfl hi hd (fun H' locs' hP' hD' hS' => ?_)
  have hh : ax_H G ad ad0 n0 (w.set a (.inl (1, n, .inl (upd f i.toNatClampNeg (vp_nar .boolean x))))) s H' locs' := ⟨by rw [List.length_set]; exact hH.1, hH.2.1, ax_wf_set hH.2.2.1 trivial, by rw [← ax_rw_set]; exact hP', by rw [← ax_rw_set]; exact hD', hS'⟩
  exact (k hG p e R s m args below meth c H' locs' cells slots mc ms n0 ad ad0 ls hC hR hh ⟨hl.1, by rw [List.length_set]; exact hl.2⟩ (by rw [List.length_set]; exact hs.2.2.2))
theorem ax_last {a n : Nat} {f : Nat → Int64} {i : Int32} {x : Int64} (q : Nat) (hd : decode M.2.1 pc = .ok (.lastore, 1)) (hq : pc + 1 = q) (he : w[a]? = some (.inl (2, n, .inr f))) (hi : vp_in i n) (k : ax_Ex G M d nc ns q lv st (w.set a (.inl (2, n, .inr (vp_updL f i.toNatClampNeg x)))) o) : ax_Ex G M d nc ns pc lv (.long x :: .int i :: .ref a :: st) w o := by
  subst hq
  intro hG p e R s m args below meth c H locs cells slots mc ms n0 ad ad0 ls hC hR hH hl hs
  refine va_last (D := G.D) (cl := ax_cl) (tys := ax_tys G) (A := ax_A G) (H0 := s.heap) hC.1 hC.2.1 (ax_K hG hC) hH.2.2.2.1 hH.2.2.2.2.1 hH.2.2.2.2.2 a 2 (ax_rw_at G ad he) rfl hi hd (fun H' locs' hP' hD' hS' => ?_)
  have hh : ax_H G ad ad0 n0 (w.set a (.inl (2, n, .inr (vp_updL f i.toNatClampNeg x)))) s H' locs' := ⟨by rw [List.length_set]; exact hH.1, hH.2.1, ax_wf_set hH.2.2.1 trivial, by rw [← ax_rw_set]; exact hP', by rw [← ax_rw_set]; exact hD', hS'⟩
  exact (k hG p e R s m args below meth c H' locs' cells slots mc ms n0 ad ad0 ls hC hR hh ⟨hl.1, by rw [List.length_set]; exact hl.2⟩ (by rw [List.length_set]; exact hs.2.2.2))
end AXR
end
section
/-! AX, second part: fields, cells that are made, returns, throws -/
/-- a word of the tables that stays under warmer tables: a good one, or one of three more kinds -/
def ax_kw (x : Cond) : Bool := goodWord x || (match x with | .castable .. => true | .declares _ => true | .superclass .. => true | .methodLinkNest .. => true | _ => false)
theorem ax_super {a b : String} {args : Array Value} {s : State} {vm' : Vm} (h : s.vm.Alike vm') (hb : (Cond.superclass a b).before args s = true) : (Cond.superclass a b).before args (s.setVm vm') = true := by
  simp only [Cond.before, Cond.holds, Cond.value, State.vm_setVm, h.findClass] at hb ⊢
  cases h1 : s.vm.findClass a with
  | none => rw [h1] at hb; simp at hb
  | some c =>
    rw [h1] at hb
    cases h2 : s.vm.findClass b with
    | none => rw [h2] at hb; simp at hb
    | some p =>
      rw [h2] at hb
      dsimp only at hb ⊢
      cases h3 : s.vm.classes[c]? with
      | none => rw [h3] at hb; simp at hb
      | some k =>
        rw [h3] at hb
        cases h4 : s.vm.classes[p]? with
        | none => rw [h4] at hb; simp at hb
        | some kp =>
          rw [h4] at hb
          obtain ⟨k', hk', he⟩ := h.2.2 _ _ h3
          obtain ⟨kp', hkp', hep⟩ := h.2.2 _ _ h4
          simp only [hk', hkp', Option.bind_some, Option.map_some] at hb ⊢
          rw [he, hep]
          exact hb
theorem ax_kept {x : Cond} (hx : ax_kw x = true) {args a' : Array Value} {s U : State} (hW : s.WarmedH U.vm) (h : x.before args s = true) : x.before a' U = true := by
  by_cases hg : goodWord x = true
  · exact word_at hW (good_of_word hg) h
  · cases x <;> first
      | exact absurd rfl hg
      | exact va_tabs rfl (rfl : (s.setVm U.vm).vm = U.vm) (by rw [Cond.castable_setVm hW.alike]; exact h)
      | exact va_tabs rfl (rfl : (s.setVm U.vm).vm = U.vm) (by rw [Cond.declares_setVm hW.alike]; exact h)
      | exact va_tabs rfl (rfl : (s.setVm U.vm).vm = U.vm) (ax_super hW.alike h)
      | exact va_Nw.use rfl (va_Nw.warmM hW (va_Nw.of rfl h))
      | (simp [ax_kw, hg] at hx)
section AXS
variable {G : ax_G} {M : ax_M} {d nc ns pc : Nat} {lv : ax_V} {st : List Value} {w : ax_W} {o : ax_O}
theorem ax_wk {p : Program} {s : State} {m : MethodId} {meth : Method} {c : Code} {args : Array Value} {x : Cond} (hG : ax_G0 G) (hC : ax_C G M p s m meth c) (hx : x ∈ lw_tbl) (hg : ax_kw x = true) : x.before args s = true := ax_kept hg hC.2.2.2.2.2.2.2.2.1 (hG.1 x hx)
/-- a field as the class 'own' names it by its entry 'index': field k of the class ci -/
def ax_fl (own : String) (index ci k : Nat) : Prop := ∃ r : vw_C, ax_cl[ci]? = some r ∧ k < r.2.2 ∧ (∀ x ∈ u_ws r.1 r.2.1 r.2.2, x ∈ lw_tbl ∧ goodWord x = true) ∧ Cond.fieldLink own index (r.2.1 k).1 (r.2.1 k).2.1 (r.2.1 k).2.2.1 ∈ lw_tbl
def ax_fp (own : String) (index ci k : Nat) (fin : Bool) (ty : FieldType) : Prop := ∃ (r : vw_C) (ty0 : Nat → FieldType), ax_cl[ci]? = some r ∧ k < r.2.2 ∧ (∀ x ∈ u_ws r.1 r.2.1 r.2.2, x ∈ lw_tbl ∧ goodWord x = true) ∧ Cond.fieldLink own index (r.2.1 k).1 (r.2.1 k).2.1 (r.2.1 k).2.2.1 ∈ lw_tbl ∧
  (∀ j, j < r.2.2 → parseFieldDescriptor (r.2.1 j).2.2.1 = some (ty0 j)) ∧ (∀ a, a < r.2.2 → ∀ b, b < r.2.2 → a ≠ b → (r.2.1 a).2.1 ≠ (r.2.1 b).2.1) ∧ (r.2.1 k).2.2.2 = fin ∧ parseFieldDescriptor (r.2.1 k).2.2.1 = some ty ∧ (r.2.1 k).1 = own
theorem ax_getf {a ci index kf : Nat} {fs : List Value} {v : Value} (q : Nat) (hd : decode M.2.1 pc = .ok (.getfield index, 3)) (hq : pc + 3 = q) (hF : ax_fl M.1.cls index ci kf) (he : w[a]? = some (.inr (ci, fs))) (hv : fs[kf]? = some v) (k : ax_Ex G M d nc ns q lv (v :: st) w o) : ax_Ex G M d nc ns pc lv (.ref a :: st) w o := by
  subst hq
  intro hG p e R s m args below meth c H locs cells slots mc ms n0 ad ad0 ls hC hR hH hl hs
  obtain ⟨⟨C, T, N⟩, h1, h2, h3, h4⟩ := hF
  exact va_get (D := G.D) (cl := ax_cl) (Ts := u_ws C T N) (ci := ci) (v := ax_rv ad v) hC.1 hC.2.1 (fun x hx => ax_wd hG hC (h3 x hx).1 (h3 x hx).2) (fun _ h => h) hC.2.2.2.2.1 (ax_K hG hC) hH.2.2.2.1 a (ax_rw_at G ad he) h1 kf h2 (ax_wd hG hC h4 rfl) (fun _ h => h) (by rw [List.getElem?_map, hv]; rfl) hd
    (k hG p e R s m args below meth c H locs cells slots mc ms n0 ad ad0 ls hC hR hH hl ⟨ax_sok_at (hH.2.2.1 a _ he) hv, hs.2⟩)
theorem ax_putf {a ci index kf : Nat} {fs : List Value} {x : Int32} {ty : FieldType} (q : Nat) (hd : decode M.2.1 pc = .ok (.putfield index, 3)) (hq : pc + 3 = q) (hF : ax_fp M.1.cls index ci kf false ty) (he : w[a]? = some (.inr (ci, fs))) (hn : narrow ty (.int x) = .int x) (hf : fits ty (.int x) = true) (hl9 : kf < fs.length)
    (k : ax_Ex G M d nc ns q lv st (w.set a (.inr (ci, fs.set kf (.int x)))) o) : ax_Ex G M d nc ns pc lv (.int x :: .ref a :: st) w o := by
  subst hq
  intro hG p e R s m args below meth c H locs cells slots mc ms n0 ad ad0 ls hC hR hH hl hs
  obtain ⟨⟨C, T, N⟩, ty0, h1, h2, h3, h4, h5, h6, h7, h8, h9⟩ := hF
  refine va_put (D := G.D) (cl := ax_cl) (tys := ax_tys G) (A := ax_A G) (H0 := s.heap) (Ts := u_ws C T N) (ci := ci) (v := .int x) (ty := ty) hC.1 hC.2.1 (fun x hx => ax_wd hG hC (h3 x hx).1 (h3 x hx).2) (fun _ h => h) ty0 h5 h6 hC.2.2.2.2.1 (ax_K hG hC) hH.2.2.2.1 hH.2.2.2.2.1 hH.2.2.2.2.2 a (ax_rw_at G ad he) h1 kf h2 (ax_wd hG hC h4 rfl) (fun _ h => h) h7 h8 hn hf (by rw [List.length_map]; exact hl9) hd (fun H' locs' hP' hD' hS' => ?_)
  have e9 : (fs.map (ax_rv ad)).set kf (Value.int x) = (fs.set kf (.int x)).map (ax_rv ad) := by rw [List.map_set]; rfl
  rw [e9] at hP' hD'
  have hok : ax_eok w.length (.inr (ci, fs.set kf (.int x))) := ax_sok_set (n := w.length) (show ax_vok w.length (.int x) from trivial) (hH.2.2.1 a _ he)
  have hh : ax_H G ad ad0 n0 (w.set a (.inr (ci, fs.set kf (.int x)))) s H' locs' := ⟨by rw [List.length_set]; exact hH.1, hH.2.1, ax_wf_set hH.2.2.1 hok, by rw [← ax_rw_set]; exact hP', by rw [← ax_rw_set]; exact hD', hS'⟩
  exact k hG p e R s m args below meth c H' locs' cells slots mc ms n0 ad ad0 ls hC hR hh ⟨hl.1, by rw [List.length_set]; exact hl.2⟩ (by rw [List.length_set]; exact hs.2.2)
theorem ax_putfF {a b ci index kf : Nat} {fs : List Value} {ty : FieldType} (q : Nat) (hd : decode M.2.1 pc = .ok (.putfield index, 3)) (hq : pc + 3 = q) (hF : ax_fp M.1.cls index ci kf true ty) (hi : M.1.name = "<init>") (he : w[a]? = some (.inr (ci, fs))) (hn : ∀ z : Nat, narrow ty (.ref z) = .ref z) (hf : ∀ z : Nat, fits ty (.ref z) = true) (hl9 : kf < fs.length)
    (k : ax_Ex G M d nc ns q lv st (w.set a (.inr (ci, fs.set kf (.ref b)))) o) : ax_Ex G M d nc ns pc lv (.ref b :: .ref a :: st) w o := by
  subst hq
  intro hG p e R s m args below meth c H locs cells slots mc ms n0 ad ad0 ls hC hR hH hl hs
  obtain ⟨⟨C, T, N⟩, ty0, h1, h2, h3, h4, h5, h6, h7, h8, h9⟩ := hF
  refine va_putF (D := G.D) (cl := ax_cl) (tys := ax_tys G) (A := ax_A G) (H0 := s.heap) (Ts := u_ws C T N) (ci := ci) (v := .ref (ad b)) (ty := ty) hC.1 hC.2.1 (fun x hx => ax_wd hG hC (h3 x hx).1 (h3 x hx).2) (fun _ h => h) ty0 h5 h6 hC.2.2.2.2.1 (ax_K hG hC) hH.2.2.2.1 hH.2.2.2.2.1 hH.2.2.2.2.2 a (ax_rw_at G ad he) h1 kf h2 (ax_wd hG hC h4 rfl) (fun _ h => h) h7 (hC.2.2.2.2.2.2.1.trans hi) h9 h8 (hn _) (hf _) (by rw [List.length_map]; exact hl9) hd (fun H' locs' hP' hD' hS' => ?_)
  have e9 : (fs.map (ax_rv ad)).set kf (Value.ref (ad b)) = (fs.set kf (.ref b)).map (ax_rv ad) := by rw [List.map_set]; rfl
  rw [e9] at hP' hD'
  have hok : ax_eok w.length (.inr (ci, fs.set kf (.ref b))) := ax_sok_set (n := w.length) hs.1 (hH.2.2.1 a _ he)
  have hh : ax_H G ad ad0 n0 (w.set a (.inr (ci, fs.set kf (.ref b)))) s H' locs' := ⟨by rw [List.length_set]; exact hH.1, hH.2.1, ax_wf_set hH.2.2.1 hok, by rw [← ax_rw_set]; exact hP', by rw [← ax_rw_set]; exact hD', hS'⟩
  exact k hG p e R s m args below meth c H' locs' cells slots mc ms n0 ad ad0 ls hC hR hh ⟨hl.1, by rw [List.length_set]; exact hl.2⟩ (by rw [List.length_set]; exact hs.2.2)
theorem ax_alen {a n : Nat} {f : Nat → Int32} (q : Nat) (hd : decode M.2.1 pc = .ok (.arraylength, 1)) (hq : pc + 1 = q) (he : w[a]? = some (.inl (0, n, .inl f))) (k : ax_Ex G M d nc ns q lv (.int (Int32.ofNat n) :: st) w o) : ax_Ex G M d nc ns pc lv (.ref a :: st) w o := by
  subst hq
  intro hG p e R s m args below meth c H locs cells slots mc ms n0 ad ad0 ls hC hR hH hl hs
  exact va_alen (D := G.D) (cl := ax_cl) (tys := ax_tys G) hC.1 hC.2.1 (ax_K hG hC) hH.2.2.2.1 a 0 (ax_rw_at G ad he) rfl rfl hd (k hG p e R s m args below meth c H locs cells slots mc ms n0 ad ad0 ls hC hR hH hl ⟨trivial, hs.2⟩)
theorem ax_scr {p : Program} {s : State} {m : MethodId} {meth : Method} {c : Code} (hG : ax_G0 G) (hC : ax_C G M p s m meth c) : va_X G.b G.L G.xs s s.heap ∧ G.b < s.heap.size ∧ ¬ ax_A G G.b := by
  obtain ⟨-, -, hX, hb, -⟩ := hG
  exact ⟨(hX.moved hC.2.2.2.2.2.2.2.2.1.alike).kept (hC.2.2.2.2.2.2.2.2.2.2 _ hb), Nat.lt_of_lt_of_le hb hC.2.2.2.2.2.2.2.2.2.1, Nat.not_le.mpr hb⟩
theorem ax_slen (q : Nat) (hd : decode M.2.1 pc = .ok (.arraylength, 1)) (hq : pc + 1 = q) (k : ax_Ex G M d nc ns q lv (.int (Int32.ofNat G.L) :: st) w o) : ax_Ex G M d nc ns pc lv (.retAddr G.b :: st) w o := by
  subst hq
  intro hG p e R s m args below meth c H locs cells slots mc ms n0 ad ad0 ls hC hR hH hl hs
  obtain ⟨hX, hb, hA⟩ := ax_scr hG hC
  exact va_slen (A := ax_A G) (H0 := s.heap) hC.1 hC.2.1 hX hb hA hH.2.2.2.2.2 hd (k hG p e R s m args below meth c H locs cells slots mc ms n0 ad ad0 ls hC hR hH hl ⟨trivial, hs.2⟩)
theorem ax_sld {i : Int32} (q : Nat) (hd : decode M.2.1 pc = .ok (.iaload, 1)) (hq : pc + 1 = q) (hi : vp_in i G.L) (k : ax_Ex G M d nc ns q lv (.int (G.xs i.toNatClampNeg) :: st) w o) : ax_Ex G M d nc ns pc lv (.int i :: .retAddr G.b :: st) w o := by
  subst hq
  intro hG p e R s m args below meth c H locs cells slots mc ms n0 ad ad0 ls hC hR hH hl hs
  obtain ⟨hX, hb, hA⟩ := ax_scr hG hC
  exact va_sld (A := ax_A G) (H0 := s.heap) hC.1 hC.2.1 hX hb hA hH.2.2.2.2.2 hi hd (k hG p e R s m args below meth c H locs cells slots mc ms n0 ad ad0 ls hC hR hH hl ⟨trivial, hs.2.2⟩)
/-! cells that are made -/
def ax_up (ad : Nat → Nat) (n q : Nat) : Nat → Nat := fun j => if j = n then q else ad j
theorem ax_up_old {ad : Nat → Nat} {n q j : Nat} (h : j < n) : ax_up ad n q j = ad j := if_neg (Nat.ne_of_lt h)
theorem ax_up_new {ad : Nat → Nat} {n q : Nat} : ax_up ad n q n = q := if_pos rfl
theorem ax_re_same {n : Nat} {ad ad' : Nat → Nat} (h : ∀ j : Nat, j < n → ad' j = ad j) {e : ax_E} (he : ax_eok n e) : ax_re G ad' e = ax_re G ad e := by
  rcases e with ⟨kd, n9, f | f⟩ | ⟨ci, fs⟩
  · rfl
  · rfl
  · show (Sum.inr (ci, fs.map (ax_rv ad')) : va_E) = .inr (ci, fs.map (ax_rv ad))
    rw [ax_st_same h he]
theorem ax_rw_same {ad ad' : Nat → Nat} (h : ∀ j : Nat, j < w.length → ad' j = ad j) (hw : ax_wf w) : ax_rw G ad' w = ax_rw G ad w := by
  apply List.ext_getElem?
  intro j
  simp only [ax_rw, List.getElem?_mapIdx]
  cases hj : w[j]? with
  | none => rfl
  | some e =>
    have hl : j < w.length := (List.getElem?_eq_some_iff.mp hj).1
    simp only [Option.map_some, h j hl, ax_re_same h (hw j e hj)]
theorem ax_rw_push {ad : Nat → Nat} {a : Nat} {e : ax_E} (hw : ax_wf w) : ax_rw G (ax_up ad w.length a) (w ++ [e]) = ax_rw G ad w ++ [(a, ax_re G (ax_up ad w.length a) e)] := by
  rw [← ax_rw_same (G := G) (ad := ad) (ad' := ax_up ad w.length a) (fun j hj => ax_up_old hj) hw]
  simp only [ax_rw, List.mapIdx_append, List.mapIdx_cons, List.mapIdx_nil, Nat.zero_add, ax_up_new]
theorem ax_wf_push {e : ax_E} (hw : ax_wf w) (he : ax_eok (w.length + 1) e) : ax_wf (w ++ [e]) := by
  intro j x hx
  rw [List.length_append, List.length_singleton]
  by_cases hj : j < w.length
  · rw [List.getElem?_append_left hj] at hx
    have h1 := hw j x hx
    rcases x with x | ⟨ci, fs⟩
    · trivial
    · exact ax_sok_mono (Nat.le_succ _) h1
  · rw [List.getElem?_append_right (by omega)] at hx
    have hz : j - w.length < 1 := (List.getElem?_eq_some_iff.mp hx).1
    rw [show j - w.length = 0 by omega] at hx
    cases hx
    exact he
/-- behind a cell that was made: the same, one cell more -/
theorem ax_H_push {ad ad0 : Nat → Nat} {n0 a : Nat} {e : ax_E} {s : State} {H H1 : Heap} {locs : List Loc} (hH : ax_H G ad ad0 n0 w s H locs) (he : ax_eok (w.length + 1) e) (hP : va_P G.D ax_cl (ax_rw G ad w ++ [(a, ax_re G (ax_up ad w.length a) e)]) H1) (hD : va_D (ax_A G) (ax_rw G ad w ++ [(a, ax_re G (ax_up ad w.length a) e)])) (hS : va_S (ax_A G) s.heap H1 locs) : ax_H G (ax_up ad w.length a) ad0 n0 (w ++ [e]) s H1 locs :=
  ⟨by rw [List.length_append]; exact Nat.le_trans hH.1 (Nat.le_add_right _ _), fun j hj => (ax_up_old (Nat.lt_of_lt_of_le hj hH.1)).trans (hH.2.1 j hj), ax_wf_push hH.2.2.1 he, by rw [ax_rw_push hH.2.2.1]; exact hP, by rw [ax_rw_push hH.2.2.1]; exact hD, hS⟩
theorem ax_newz {kd n : Nat} {atype : ArrayType} {ty : FieldType} {i : Int32} {e : ax_E} {a0 : vp_A} (q : Nat) (hd : decode M.2.1 pc = .ok (.newarray atype, 2)) (hq : pc + 2 = q) (hty : newarray.typeOf atype = ty) (hkd : ∀ G : ax_G, (ax_tys G)[kd]? = some (G.cA kd, ty)) (hra : ∀ (U : State) (cA : ClassId), va_RA U cA ty → U.vm.findClass ("[" ++ ty.toString) = some cA)
    (hw : Cond.arrayClass (newarray.typeOf atype) ∈ lw_tbl) (ha : ∀ cA : ClassId, vp_cell cA a0 = arrV cA n (fun _ => defaultValue ty)) (he : ∀ (G : ax_G) (ad : Nat → Nat), ax_re G ad e = .inl (G.cA kd, a0)) (hek : ∀ m : Nat, ax_eok m e) (hi : ¬ i < 0) (hn : i.toNatClampNeg = n) (hb : n * componentBytes ty ≤ 536870912)
    (k : ax_Ex G M d nc ns q lv (.ref w.length :: st) (w ++ [e]) o) : ax_Ex G M d (nc + 1) (ns + n) pc lv (.int i :: st) w o := by
  subst hq
  intro hG p e9 R s m args below meth c H locs cells slots mc ms n0 ad ad0 ls hC hR hH hl hs
  refine va_newa (D := G.D) (cl := ax_cl) (tys := ax_tys G) (A := ax_A G) (H0 := s.heap) (a0 := a0) hC.1 hC.2.1 (ax_wd hG hC hw rfl) hty (ax_K hG hC) hH.2.2.2.1 hH.2.2.2.2.1 hH.2.2.2.2.2 (fun z hz => Nat.le_trans hC.2.2.2.2.2.2.2.2.2.1 hz) ha hi hn hb (by omega) (by omega) hd (fun a cA H1 hK1 hP1 hD1 hS1 => ?_)
  have c1 : s.vm.findClass ("[" ++ ty.toString) = some cA := hra s cA (hK1.2 3 (cA, ty) (by simp)).2
  have c2 : s.vm.findClass ("[" ++ ty.toString) = some (G.cA kd) := hra s (G.cA kd) ((ax_K hG hC).2 kd (G.cA kd, ty) (hkd G)).2
  have c3 : cA = G.cA kd := Option.some.inj (c1.symm.trans c2)
  subst c3
  have hh : ax_H G (ax_up ad w.length a) ad0 n0 (w ++ [e]) s H1 locs := ax_H_push hH (hek _) (by rw [he]; exact hP1) (by rw [he]; exact hD1) hS1
  have hold : ∀ j : Nat, j < w.length → ax_up ad w.length a j = ad j := fun j hj => ax_up_old hj
  have h9 := k hG p e9 R s m args below meth c H1 locs (cells + 1) (slots + n) mc ms n0 (ax_up ad w.length a) ad0 ls hC (by omega) hh ⟨by rw [ax_lv_same hold hl.2]; exact hl.1, by rw [List.length_append]; exact ax_lok_mono (Nat.le_add_right _ _) hl.2⟩ ⟨by rw [List.length_append]; exact Nat.lt_succ_self _, by rw [List.length_append]; exact ax_sok_mono (Nat.le_add_right _ _) hs.2⟩
  rw [List.map_cons, ax_st_same hold hs.2] at h9
  rw [show ax_rv (ax_up ad w.length a) (.ref w.length) = Value.ref a from congrArg Value.ref ax_up_new] at h9
  exact h9
theorem ax_newi {n : Nat} {i : Int32} (q : Nat) (hd : decode M.2.1 pc = .ok (.newarray .int, 2)) (hq : pc + 2 = q) (hi : ¬ i < 0) (hn : i.toNatClampNeg = n) (hb : n * componentBytes .int ≤ 536870912) (hw : Cond.arrayClass .int ∈ lw_tbl)
    (k : ax_Ex G M d nc ns q lv (.ref w.length :: st) (w ++ [.inl (0, n, .inl (fun _ => 0))]) o) : ax_Ex G M d (nc + 1) (ns + n) pc lv (.int i :: st) w o :=
  ax_newz (kd := 0) (e := .inl (0, n, .inl (fun _ => 0))) (ty := .int) (a0 := (n, .inl (fun _ => 0))) q hd hq rfl (fun _ => rfl) (fun _ _ h => h) hw (fun _ => rfl) (fun _ _ => rfl) (fun _ => trivial) hi hn hb k
theorem ax_newb {n : Nat} {i : Int32} (q : Nat) (hd : decode M.2.1 pc = .ok (.newarray .boolean, 2)) (hq : pc + 2 = q) (hi : ¬ i < 0) (hn : i.toNatClampNeg = n) (hb : n * componentBytes .boolean ≤ 536870912) (hw : Cond.arrayClass .boolean ∈ lw_tbl)
    (k : ax_Ex G M d nc ns q lv (.ref w.length :: st) (w ++ [.inl (1, n, .inl (fun _ => 0))]) o) : ax_Ex G M d (nc + 1) (ns + n) pc lv (.int i :: st) w o :=
  ax_newz (kd := 1) (e := .inl (1, n, .inl (fun _ => 0))) (ty := .boolean) (a0 := (n, .inl (fun _ => 0))) q hd hq rfl (fun _ => rfl) (fun _ _ h => h) hw (fun _ => rfl) (fun _ _ => rfl) (fun _ => trivial) hi hn hb k
theorem ax_newl {n : Nat} {i : Int32} (q : Nat) (hd : decode M.2.1 pc = .ok (.newarray .long, 2)) (hq : pc + 2 = q) (hi : ¬ i < 0) (hn : i.toNatClampNeg = n) (hb : n * componentBytes .long ≤ 536870912) (hw : Cond.arrayClass .long ∈ lw_tbl)
    (k : ax_Ex G M d nc ns q lv (.ref w.length :: st) (w ++ [.inl (2, n, .inr (fun _ => 0))]) o) : ax_Ex G M d (nc + 1) (ns + n) pc lv (.int i :: st) w o :=
  ax_newz (kd := 2) (e := .inl (2, n, .inr (fun _ => 0))) (ty := .long) (a0 := (n, .inr (.inl (fun _ => 0)))) q hd hq rfl (fun _ => rfl) (fun _ _ h => h) hw (fun _ => rfl) (fun _ _ => rfl) (fun _ => trivial) hi hn hb k
/-- a new object of the class ci: fs its fields' first values -/
def ax_nw (own : String) (index ci N : Nat) (fs : List Value) : Prop := ∃ (C : String) (T : u_T) (ty0 : Nat → FieldType), ax_cl[ci]? = some (C, T, N) ∧ (∀ x ∈ u_ws C T N, x ∈ lw_tbl ∧ goodWord x = true) ∧ (∀ j, j < N → parseFieldDescriptor (T j).2.2.1 = some (ty0 j)) ∧ Cond.classLink own index C ∈ lw_tbl ∧ Cond.instantiable C N ∈ lw_tbl ∧ Cond.initialized C ∈ lw_tbl ∧ (∀ j, j < N → defaultValue (ty0 j) = vp_V fs j) ∧ (∀ ad : Nat → Nat, fs.map (ax_rv ad) = fs) ∧ ∀ m : Nat, ax_sok m fs
theorem ax_new {index ci N : Nat} {fs : List Value} (q : Nat) (hd : decode M.2.1 pc = .ok (.new index, 3)) (hq : pc + 3 = q) (hF : ax_nw M.1.cls index ci N fs) (k : ax_Ex G M d nc ns q lv (.ref w.length :: st) (w ++ [.inr (ci, fs)]) o) : ax_Ex G M d (nc + 1) (ns + N) pc lv st w o := by
  subst hq
  intro hG p e9 R s m args below meth c H locs cells slots mc ms n0 ad ad0 ls hC hR hH hl hs
  obtain ⟨C, T, ty0, h1, h3, h4, h5, h6, h7, h8, h9, h10⟩ := hF
  refine va_new (D := G.D) (cl := ax_cl) (tys := ax_tys G) (A := ax_A G) (H0 := s.heap) (Ts := u_ws C T N) (ci := ci) (fs := fs) hC.1 hC.2.1 (fun x hx => ax_wd hG hC (h3 x hx).1 (h3 x hx).2) (fun _ h => h) ty0 h4 hC.2.2.2.2.1 (ax_wd hG hC h5 rfl) (ax_wd hG hC h6 rfl) (ax_wd hG hC h7 rfl) (ax_K hG hC) hH.2.2.2.1 hH.2.2.2.2.1 hH.2.2.2.2.2 (fun z hz => Nat.le_trans hC.2.2.2.2.2.2.2.2.2.1 hz) h1 h8 (by omega) (by omega) hd (fun a H1 hP1 hD1 hS1 => ?_)
  have he : ∀ ad : Nat → Nat, ax_re G ad (.inr (ci, fs)) = .inr (ci, fs) := fun ad => by show (Sum.inr (ci, fs.map (ax_rv ad)) : va_E) = _; rw [h9]
  have hh : ax_H G (ax_up ad w.length a) ad0 n0 (w ++ [.inr (ci, fs)]) s H1 locs := ax_H_push hH (h10 _) (by rw [he]; exact hP1) (by rw [he]; exact hD1) hS1
  have hold : ∀ j : Nat, j < w.length → ax_up ad w.length a j = ad j := fun j hj => ax_up_old hj
  have h9 := k hG p e9 R s m args below meth c H1 locs (cells + 1) (slots + N) mc ms n0 (ax_up ad w.length a) ad0 ls hC (by omega) hh ⟨by rw [ax_lv_same hold hl.2]; exact hl.1, by rw [List.length_append]; exact ax_lok_mono (Nat.le_add_right _ _) hl.2⟩ ⟨by rw [List.length_append]; exact Nat.lt_succ_self _, by rw [List.length_append]; exact ax_sok_mono (Nat.le_add_right _ _) hs⟩
  rw [List.map_cons, ax_st_same hold hs] at h9
  rw [show ax_rv (ax_up ad w.length a) (.ref w.length) = Value.ref a from congrArg Value.ref ax_up_new] at h9
  exact h9
/-! returns -/
theorem ax_iret {v : Int32} (hd : decode M.2.1 pc = .ok (.ireturn, 1)) (hr : M.2.2.2.1 = some .int) (ho : o = (.inl (some (.int v)), w)) : ax_Ex G M d nc ns pc lv [.int v] w o := by
  subst ho
  intro hG p e R s m args below meth c H locs cells slots mc ms n0 ad ad0 ls hC hR hH hl hs
  exact vx_ret (W.widen (k := mc) (n := ms) (by omega) (by omega) (W.iret (v := v) hC.1 hC.2.1 (hC.2.2.1.trans hr) (fun t ht hW => ⟨some (.int v), ad, rfl, rfl, ⟨trivial, trivial⟩, hH.1, hH.2.1, hH.2.2.1, by rw [ht]; exact hH.2.2.2.1, hH.2.2.2.2.1, hH.2.2.2.2.2.F ht⟩) hH.2.2.2.2.2.2.2 hd hC.2.2.2.2.2.1))
theorem ax_zret {v : Int32} (hd : decode M.2.1 pc = .ok (.ireturn, 1)) (hr : M.2.2.2.1 = some .boolean) (hn : narrow .boolean (.int v) = .int v) (ho : o = (.inl (some (.int v)), w)) : ax_Ex G M d nc ns pc lv [.int v] w o := by
  subst ho
  intro hG p e R s m args below meth c H locs cells slots mc ms n0 ad ad0 ls hC hR hH hl hs
  exact vx_ret (W.widen (k := mc) (n := ms) (by omega) (by omega) (W.zret (v := v) (ty := .boolean) hC.1 hC.2.1 (hC.2.2.1.trans hr) hn (fun t ht hW => ⟨some (.int v), ad, rfl, rfl, ⟨trivial, trivial⟩, hH.1, hH.2.1, hH.2.2.1, by rw [ht]; exact hH.2.2.2.1, hH.2.2.2.2.1, hH.2.2.2.2.2.F ht⟩) hH.2.2.2.2.2.2.2 hd hC.2.2.2.2.2.1))
theorem ax_lret {v : Int64} (hd : decode M.2.1 pc = .ok (.lreturn, 1)) (hr : M.2.2.2.1 = some .long) (ho : o = (.inl (some (.long v)), w)) : ax_Ex G M d nc ns pc lv [.long v] w o := by
  subst ho
  intro hG p e R s m args below meth c H locs cells slots mc ms n0 ad ad0 ls hC hR hH hl hs
  exact vx_ret (W.widen (k := mc) (n := ms) (by omega) (by omega) (W.lret (v := v) hC.1 hC.2.1 (hC.2.2.1.trans hr) (fun t ht hW => ⟨some (.long v), ad, rfl, rfl, ⟨trivial, trivial⟩, hH.1, hH.2.1, hH.2.2.1, by rw [ht]; exact hH.2.2.2.1, hH.2.2.2.2.1, hH.2.2.2.2.2.F ht⟩) hH.2.2.2.2.2.2.2 hd hC.2.2.2.2.2.1))
theorem ax_vret (hd : decode M.2.1 pc = .ok (.return_, 1)) (hr : M.2.2.2.1 = none) (ho : o = (.inl none, w)) : ax_Ex G M d nc ns pc lv [] w o := by
  subst ho
  intro hG p e R s m args below meth c H locs cells slots mc ms n0 ad ad0 ls hC hR hH hl hs
  exact vx_ret (W.widen (k := mc) (n := ms) (by omega) (by omega) (W.vret hC.1 hC.2.1 (hC.2.2.1.trans hr) (fun t ht hW => ⟨none, ad, rfl, rfl, trivial, hH.1, hH.2.1, hH.2.2.1, by rw [ht]; exact hH.2.2.2.1, hH.2.2.2.2.1, hH.2.2.2.2.2.F ht⟩) hH.2.2.2.2.2.2.2 hd hC.2.2.2.2.2.1))
/-- fewer cells, another end: by equality or by order -/
theorem ax_more {nc' ns' : Nat} (h1 : nc ≤ nc') (h2 : ns ≤ ns') (k : ax_Ex G M d nc ns pc lv st w o) : ax_Ex G M d nc' ns' pc lv st w o := by
  intro hG p e R s m args below meth c H locs cells slots mc ms n0 ad ad0 ls hC hR hH hl hs
  exact k hG p e R s m args below meth c H locs cells slots mc ms n0 ad ad0 ls hC (by omega) hH hl hs
theorem ax_objInit {a index : Nat} (q : Nat) (hd : decode M.2.1 pc = .ok (.invokespecial index, 3)) (hq : pc + 3 = q) (hd9 : 1 ≤ d) (h1 : Cond.methodLink M.1.cls index objectInit ∈ lw_tbl) (h2 : Cond.instanceMethod objectInit ∈ lw_tbl) (h3 : Cond.code objectInit ⟨#[0xb1]⟩ 1 none ∈ lw_tbl) (hc : (st.map fun v => v.category).sum ≤ 8) (k : ax_Ex G M d nc ns q lv st w o) : ax_Ex G M d nc ns pc lv (.ref a :: st) w o := by
  subst hq
  intro hG p e R s m args below meth c H locs cells slots mc ms n0 ad ad0 ls hC hR hH hl hs
  refine W.objInit hC.1 hC.2.1 hC.2.2.2.2.1 (ax_wd hG hC h1 rfl) (ax_wd hG hC h2 rfl) (ax_wd hG hC h3 rfl) rfl (by rw [hC.2.2.2.1]; exact hl.1.1) rfl hd (by omega) ?_ (k hG p e R s m args below meth c H locs cells slots mc ms n0 ad ad0 ls hC hR hH hl hs.2)
  have h9 : ((st.map (ax_rv ad)).map fun v => v.category).sum ≤ 8 := by rw [ax_cats]; exact hc
  have h8 : (F0 m pc ls (List.map (ax_rv ad) (Value.ref a :: st))).monitorRoom = 0 := rfl
  rw [h8]
  omega
end AXS
end
section
/-! AX, third part: contracts of methods (ax_Met), calls, throws and catching -/
def ax_cw (M : ax_M) : Cond := match M.2.2.2.2 with
  | [] => .code M.1 M.2.1 M.2.2.1 M.2.2.2.1
  | h :: t => .codeWith M.1 M.2.1 M.2.2.1 M.2.2.2.1 (h :: t)
abbrev ax_rm (d nc ns : Nat) : Room := { frames := d, cells := nc, slots := ns, locals := 40 * d }
def ax_Pc (G : ax_G) (ad : Nat → Nat) (as : List Value) (w : ax_W) : Array Value → State → Prop := fun v U =>
  v = (as.map (ax_rv ad)).toArray ∧ G.s0.WarmedH U.vm ∧ G.s0.heap.size ≤ U.heap.size ∧ (∀ q : Nat, q < G.s0.heap.size → U.heap[q]? = G.s0.heap[q]?) ∧ ax_wf w ∧ ax_sok w.length as ∧ va_P G.D ax_cl (ax_rw G ad w) U.heap ∧ va_D (ax_A G) (ax_rw G ad w)
/-- the method M, called with as in the world w, ends with o: at most nc new cells of ns slots, d frames deep -/
def ax_Met (G : ax_G) (M : ax_M) (d nc ns : Nat) (as : List Value) (w : ax_W) (o : ax_O) : Prop :=
  ax_G0 G → ∀ ad : Nat → Nat, vx_Met G.1 M.1 [ax_cw M] (ax_rm d nc ns) (ax_Pc G ad as w) (ax_Qc G ad w.length o) (ax_XC G ad w.length o) nc ns (ax_A G)
theorem ax_args (ad : Nat → Nat) : ∀ (as : List Value) (i : Nat), lv_args i (as.map (ax_rv ad)) = (lv_args i as).map (ax_rq ad)
  | [], _ => rfl
  | v :: r, i => by
    simp only [List.map_cons, lv_args, ax_cat, ax_args ad r]
    rfl
theorem ax_args_ok {n : Nat} : ∀ {as : List Value} (i : Nat), ax_sok n as → ax_lok n (lv_args i as)
  | [], _, _ => trivial
  | _ :: _, _, h => ⟨h.1, ax_args_ok _ h.2⟩
theorem ax_sl (ad : Nat → Nat) (as : List Value) : (lg_sl (as.map (ax_rv ad))).length = (lg_sl as).length := by
  induction as with
  | nil => rfl
  | cons v r ih =>
    simp only [lg_sl, List.map_cons, List.flatMap_cons, List.length_append, ax_cat] at ih ⊢
    rw [ih]
    by_cases h : v.category = 2
    · simp [h]
    · simp [h]
section AXT
variable {G : ax_G} {M M' : ax_M} {d d' nc ns nc1 ns1 nc2 ns2 pc : Nat} {lv : ax_V} {st : List Value} {w w1 : ax_W} {o : ax_O} {as : List Value}
theorem ax_of (hh : M.2.2.2.2 = []) (hy : plainName M.1.cls = true) (hlen : (lg_sl as).length ≤ M.2.2.1) (k : ax_Ex G M d nc ns 0 (lv_args 0 as) [] w o) : ax_Met G M d nc ns as w o := by
  intro hG ad
  refine vx_ofW (cc := M.2.1) (maxL := M.2.2.1) (ret := M.2.2.2.1) (ws' := []) hy (by simp only [ax_cw, hh]) ?_
  intro p e s m args below meth c s₁ B hml hne hv
  obtain ⟨rfl, h1, h2, h3, h4, h5, h6, h7⟩ := hv
  have hl := lv_entry (as.map (ax_rv ad)) (n := M.2.2.1) (by rw [ax_sl]; exact hlen)
  rw [lg_entry_eq]
  generalize (lg_sl (as.map (ax_rv ad)) ++ List.replicate (M.2.2.1 - (lg_sl (as.map (ax_rv ad))).length) Slot.unset).toArray = ls at hl ⊢
  rw [ax_args] at hl
  have het : c.exceptionTable.toList = tableOf M.2.2.2.2 := by
    rw [hh]
    exact List.eq_nil_iff_forall_not_mem.mpr fun x hx => hne x hx
  exact k hG p e (ax_rm d nc ns) s m _ below meth c s.heap [] 0 0 nc ns w.length ad ad ls ⟨B.exec, B.bytes, B.returns, hml, findClass_of_methodNamed B.named, B.notSynchronized, (name_of_methodNamed B.named B.method).1, het, h1, h2, h3⟩
    ⟨Nat.le_refl _, Nat.le_refl _, by omega, by omega, Nat.le_refl _, Nat.le_refl _⟩ ⟨Nat.le_refl _, fun _ _ => rfl, h4, h6, h7, va_S.rf⟩ ⟨hl, ax_args_ok 0 h5⟩ trivial
theorem ax_ofH {h9 : Nat × Nat × Nat × Nat} {t9 : List (Nat × Nat × Nat × Nat)} (hh : M.2.2.2.2 = h9 :: t9) (hy : plainName M.1.cls = true) (hlen : (lg_sl as).length ≤ M.2.2.1) (k : ax_Ex G M d nc ns 0 (lv_args 0 as) [] w o) : ax_Met G M d nc ns as w o := by
  intro hG ad
  have hcw : ax_cw M = .codeWith M.1 M.2.1 M.2.2.1 M.2.2.2.1 M.2.2.2.2 := by simp only [ax_cw, hh]
  refine vx_ofWH (cc := M.2.1) (maxL := M.2.2.1) (ret := M.2.2.2.1) (hh := M.2.2.2.2) (ws' := []) hy (by rw [hcw]) ?_
  intro p e s m args below meth c s₁ B hml hv
  obtain ⟨rfl, h1, h2, h3, h4, h5, h6, h7⟩ := hv
  have hl := lv_entry (as.map (ax_rv ad)) (n := M.2.2.1) (by rw [ax_sl]; exact hlen)
  rw [lg_entry_eq]
  generalize (lg_sl (as.map (ax_rv ad)) ++ List.replicate (M.2.2.1 - (lg_sl (as.map (ax_rv ad))).length) Slot.unset).toArray = ls at hl ⊢
  rw [ax_args] at hl
  have hwd := atoms_spec (ws := [ax_cw M]) B.pre (ax_cw M) List.mem_cons_self
  rw [hcw] at hwd
  have het : c.exceptionTable.toList = tableOf M.2.2.2.2 := vx_table (x := M.1) B hwd
  exact k hG p e (ax_rm d nc ns) s m _ below meth c s.heap [] 0 0 nc ns w.length ad ad ls ⟨B.exec, B.bytes, B.returns, hml, findClass_of_methodNamed B.named, B.notSynchronized, (name_of_methodNamed B.named B.method).1, het, h1, h2, h3⟩
    ⟨Nat.le_refl _, Nat.le_refl _, by omega, by omega, Nat.le_refl _, Nat.le_refl _⟩ ⟨Nat.le_refl _, fun _ _ => rfl, h4, h6, h7, va_S.rf⟩ ⟨hl, ax_args_ok 0 h5⟩ trivial
/-- a method that returns: its contract in the kit's form -/
theorem ax_ret {v : Option Value} (hM : ax_Met G M d nc ns as w (.inl v, w1)) (hG : ax_G0 G) (ad : Nat → Nat) : Met G.1 M.1 [ax_cw M] (ax_rm d nc ns) (ax_Pc G ad as w) (ax_Qc G ad w.length (.inl v, w1)) nc ns (ax_A G) := by
  intro p e a1 a2 a3 s m args below a4 a5 a6 a7
  obtain ⟨n, oc, h1, h2, h3, h4⟩ := hM hG ad p e a1 a2 a3 s m args below a4 a5 a6 a7
  refine ⟨n, oc, h1, h2, h3, ?_⟩
  rcases h4 with h4 | ⟨q, -, E, ce, L, ⟨hx, -⟩, -⟩
  · exact h4
  · cases hx
theorem ax_blind {ad : Nat → Nat} : FrameBlind (ax_Pc G ad as w) := fun _ _ _ _ h => h
/-- behind a call that returned -/
theorem ax_cont {v : Option Value} {a : Array Value} {p : Program} {e : Env} {R : Room} {s : State} {m : MethodId} {args : Array Value} {below : List Frame} {meth : Method} {c : Code} {H : Heap} {locs : List Loc} {cells slots mc ms n0 : Nat} {ad ad0 : Nat → Nat} {ls : Array Slot} {st0 : List Value}
    (hr : va_Run p G.1 e R s m args below meth c H locs cells slots nc1 ns1 (F0 m pc ls st0) (st.map (ax_rv ad)) (ax_Qc G ad w.length (.inl v, w1) a) (ax_A G)) (k : ax_Ex G M d nc2 ns2 (pc + 3) lv (v.toList ++ st) w1 o)
    (hG : ax_G0 G) (hC : ax_C G M p s m meth c) (hR : d ≤ R.frames ∧ 40 * d ≤ R.locals ∧ cells + (nc1 + nc2) ≤ mc ∧ slots + (ns1 + ns2) ≤ ms ∧ mc ≤ R.cells ∧ ms ≤ R.slots) (hH : ax_H G ad ad0 n0 w s H locs) (hl : lv_has ls M.2.2.1 (lv.map (ax_rq ad)) ∧ ax_lok w.length lv) (hs : ax_sok w.length st) :
    W p G.1 e R s m args below meth c H locs cells slots (vx_MQ below (ax_Qc G ad0 n0 o) (ax_XC G ad0 n0 o) args s mc ms (ax_A G)) (F0 m pc ls st0) := by
  intro T hT X
  obtain ⟨v', st₀, t, T', L, h0, X', hL, e1, e2, ⟨v9, ad', ho, hv', hok, hn, hsame, hwf, hP1, hD1, hz, hk⟩, st1⟩ := hr T hT X
  have ev : v = v9 := Sum.inl.inj ho
  subst ev
  have ev' : v' = v.map (ax_rv ad') := Outcome.returned.inj hv'
  subst ev'
  dsimp only at hok hn hwf hP1 hD1
  rw [h0] at hz hk
  have hS := hH.2.2.2.2.2
  have hS1 : va_S (ax_A G) s.heap T'.heap (locs ++ L) := ⟨Nat.le_trans hS.1 (by rw [e1]; exact hz), fun q h1 h2 => by rw [e1, hk q (Nat.lt_of_lt_of_le h1 hS.1) h2]; exact hS.2.1 q h1 h2, fun q hq => by
      rcases List.mem_append.mp hq with h | h
      · exact hS.2.2 q h
      · exact hL q h⟩
  have hH1 : ax_H G ad' ad0 n0 w1 s T'.heap (locs ++ L) := ⟨Nat.le_trans hH.1 hn, fun j hj => (hsame j (Nat.lt_of_lt_of_le hj hH.1)).trans (hH.2.1 j hj), hwf, by rw [e1]; exact hP1, hD1, hS1⟩
  obtain ⟨t2, a1, b1⟩ := k hG p e R s m args below meth c T'.heap (locs ++ L) (cells + nc1) (slots + ns1) mc ms n0 ad' ad0 ls hC (by omega) hH1 ⟨by rw [ax_lv_same hsame hl.2]; exact hl.1, ax_lok_mono hn hl.2⟩ (ax_sok_app (ax_sok_mono hn hs) hok) T' rfl X'
  refine ⟨t2, st1 t2 ?_, b1⟩
  have e9 : (v.toList ++ st).map (ax_rv ad') = (v.map (ax_rv ad')).toList ++ st.map (ax_rv ad) := by
    rw [List.map_append, ax_st_same hsame hs]
    cases v <;> rfl
  rw [e9] at a1
  exact a1
/-- what a static call needs of the tables -/
def ax_lks (own : String) (index : Nat) (M' : ax_M) (n : Nat) : Prop := Cond.methodLink own index M'.1 ∈ lw_tbl ∧ Cond.static M'.1 ∈ lw_tbl ∧ Cond.initialized M'.1.cls ∈ lw_tbl ∧ ax_cw M' ∈ lw_tbl ∧ (M'.1.cls ≠ "java/lang/invoke/MethodHandle" ∧ M'.1.cls ≠ "java/lang/invoke/VarHandle") ∧ (parseMethodDescriptor M'.1.desc).map (fun d => d.parameters.length) = some n ∧ M'.2.2.1 ≤ 21
theorem ax_cw_ok (M : ax_M) : goodWord (ax_cw M) = true := by
  unfold ax_cw
  split <;> rfl
theorem ax_len {n : Nat} {y : MethodName} (h : (parseMethodDescriptor y.desc).map (fun d => d.parameters.length) = some n) : ∀ sig, parseMethodDescriptor y.desc = some sig → n = sig.parameters.length := fun sig h9 => by
  rw [h9] at h
  exact (Option.some.inj h).symm
theorem ax_pcs {p : Program} {s : State} {m : MethodId} {meth : Method} {c : Code} {H : Heap} {locs : List Loc} {n0 : Nat} {ad ad0 : Nat → Nat} (hC : ax_C G M p s m meth c) (hH : ax_H G ad ad0 n0 w s H locs) (hok : ax_sok w.length as) : ∀ U : State, U.heap = H → s.WarmedH U.vm → ax_Pc G ad as w (as.map (ax_rv ad)).toArray U := fun U hU hW =>
  ⟨rfl, State.WarmedH.trans hC.2.2.2.2.2.2.2.2.1 hW, by rw [hU]; exact Nat.le_trans hC.2.2.2.2.2.2.2.2.2.1 hH.2.2.2.2.2.1, fun q hq => by rw [hU, hH.2.2.2.2.2.2.1 q (Nat.lt_of_lt_of_le hq hC.2.2.2.2.2.2.2.2.2.1) (Nat.not_le.mpr hq)]; exact hC.2.2.2.2.2.2.2.2.2.2 q hq, hH.2.2.1, hok, by rw [hU]; exact hH.2.2.2.1, hH.2.2.2.2.1⟩
theorem ax_stk (ad : Nat → Nat) (as st : List Value) : (as.reverse ++ st).map (ax_rv ad) = (as.map (ax_rv ad)).reverse ++ st.map (ax_rv ad) := by
  rw [List.map_append, List.map_reverse]
theorem ax_mr {m : MethodId} {pc : Nat} {ls : Array Slot} {st0 st : List Value} {ad : Nat → Nat} (hc : (st.map fun v => v.category).sum ≤ 8) : 2 * (F0 m pc ls st0).monitorRoom + ((st.map (ax_rv ad)).map fun v => v.category).sum ≤ 8 := by
  rw [ax_cats, show (F0 m pc ls st0).monitorRoom = 0 from rfl]
  omega
theorem ax_inv0 {index n : Nat} {v : Option Value} {st0 : List Value} (q : Nat) (hd : decode M.2.1 pc = .ok (.invokestatic index, 3)) (hq : pc + 3 = q) (hL : ax_lks M.1.cls index M' n) (hM : ax_Met G M' d' nc1 ns1 as w (.inl v, w1)) (hdd : d' + 1 ≤ d) (hn : as.length = n) (hst : as.reverse ++ st = st0) (hc : (st.map fun v => v.category).sum ≤ 8) (hnc : nc1 + nc2 ≤ nc) (hns : ns1 + ns2 ≤ ns)
    (k : ax_Ex G M d nc2 ns2 q lv (v.toList ++ st) w1 o) : ax_Ex G M d nc ns pc lv st0 w o := by
  subst hq; subst hst
  refine ax_more hnc hns ?_
  intro hG p e R s m args below meth c H locs cells slots mc ms n0 ad ad0 ls hC hR hH hl hs
  obtain ⟨h1, h2, h3, h4, h5, h6, h7⟩ := hL
  have hs2 := ax_sok_of hs
  have hcd : (ax_cw M').before args s = true := ax_wd hG hC h4 (ax_cw_ok M')
  have hws : ∀ x ∈ [ax_cw M'], ∀ (a' : Array Value) (U : State), s.WarmedH U.vm → x.before a' U = true := fun x hx a' U hW => by
    rw [List.mem_singleton.mp hx]
    exact word_at hW (good_of_word (ax_cw_ok M')) hcd
  have hRR : (ax_rm d' nc1 ns1).frames + 1 ≤ R.frames ∧ 8 + (M'.2.2.1 + 11) + (ax_rm d' nc1 ns1).locals ≤ R.locals := ⟨by show d' + 1 ≤ R.frames; omega, by show 8 + (M'.2.2.1 + 11) + 40 * d' ≤ R.locals; omega⟩
  refine ax_cont (a := (as.map (ax_rv ad)).toArray) ?_ k hG hC hR hH hl hs2.2
  by_cases hh : M'.2.2.2.2 = []
  · have hcw : ax_cw M' = .code M'.1 M'.2.1 M'.2.2.1 M'.2.2.2.1 := by simp only [ax_cw, hh]
    rw [hcw] at hcd
    exact va_runS (Ts := []) (cc := M.2.1) (nL := M.2.2.1) (bytes := M'.2.1) (maxL := M'.2.2.1) (ret := M'.2.2.2.1) (n := n) (own := M.1.cls) (index := index) ⟨hC.1, hC.2.1, hC.2.2.2.1, hC.2.2.2.2.1, fun _ h => by cases h⟩ (ax_ret hM hG ad)
      ⟨⟨rfl, rfl, hRR.1, hRR.2, hws, by rw [hcw]; exact List.mem_cons_self, hcd, ax_wd hG hC h3 rfl, h5, ax_len h6, ax_wd hG hC h1 rfl⟩, ax_wd hG hC h2 rfl⟩ ⟨ax_blind, ax_pcs hC hH (ax_sok_rev hs2.1)⟩ rfl (by rw [List.length_map]; exact hn) hl.1.1 (ax_stk ad as st) (ax_mr hc) hd ⟨by omega, by omega⟩
  · have hcw : ax_cw M' = .codeWith M'.1 M'.2.1 M'.2.2.1 M'.2.2.2.1 M'.2.2.2.2 := by
      unfold ax_cw
      split
      · rename_i h9; exact absurd h9 hh
      · rename_i h9; rw [h9]
    rw [hcw] at hcd
    exact vx_runSW (Ts := []) (cc := M.2.1) (nL := M.2.2.1) (bytes := M'.2.1) (maxL := M'.2.2.1) (ret := M'.2.2.2.1) (hh := M'.2.2.2.2) (n := n) (own := M.1.cls) (index := index) ⟨hC.1, hC.2.1, hC.2.2.2.1, hC.2.2.2.2.1, fun _ h => by cases h⟩ (ax_ret hM hG ad)
      ⟨⟨rfl, rfl, hRR.1, hRR.2, hws, by rw [hcw]; exact List.mem_cons_self⟩, hcd, ax_wd hG hC h3 rfl, h5, ax_len h6, ax_wd hG hC h1 rfl, ax_wd hG hC h2 rfl⟩ ⟨ax_blind, ax_pcs hC hH (ax_sok_rev hs2.1)⟩ rfl (by rw [List.length_map]; exact hn) hl.1.1 (ax_stk ad as st) (ax_mr hc) hd ⟨by omega, by omega⟩
/-- what a virtual call needs of the tables: the receiver is an object of the class ci, which is the method's own -/
def ax_lvr (own : String) (index : Nat) (M' : ax_M) (n ci : Nat) : Prop := Cond.methodLink own index M'.1 ∈ lw_tbl ∧ Cond.instanceMethod M'.1 ∈ lw_tbl ∧ Cond.selects M'.1.cls M'.1 M'.1 ∈ lw_tbl ∧ Cond.initialized M'.1.cls ∈ lw_tbl ∧ ax_cw M' ∈ lw_tbl ∧ M'.2.2.2.2 = [] ∧ (M'.1.cls ≠ "java/lang/invoke/MethodHandle" ∧ M'.1.cls ≠ "java/lang/invoke/VarHandle") ∧ (parseMethodDescriptor M'.1.desc).map (fun d => d.parameters.length) = some n ∧ M'.2.2.1 ≤ 21 ∧ ∃ r : vw_C, ax_cl[ci]? = some r ∧ r.1 = M'.1.cls
theorem ax_inv1 {index n ci a : Nat} {fs : List Value} {v : Option Value} {st0 : List Value} (q : Nat) (hd : decode M.2.1 pc = .ok (.invokevirtual index, 3)) (hq : pc + 3 = q) (hL : ax_lvr M.1.cls index M' n ci) (he : w[a]? = some (.inr (ci, fs))) (hM : ax_Met G M' d' nc1 ns1 (.ref a :: as) w (.inl v, w1)) (hdd : d' + 1 ≤ d) (hn : as.length = n) (hst : as.reverse ++ .ref a :: st = st0) (hc : (st.map fun v => v.category).sum ≤ 8) (hnc : nc1 + nc2 ≤ nc) (hns : ns1 + ns2 ≤ ns)
    (k : ax_Ex G M d nc2 ns2 q lv (v.toList ++ st) w1 o) : ax_Ex G M d nc ns pc lv st0 w o := by
  subst hq; subst hst
  refine ax_more hnc hns ?_
  intro hG p e R s m args below meth c H locs cells slots mc ms n0 ad ad0 ls hC hR hH hl hs
  obtain ⟨h1, h2, h3, h4, h5, hh, h6, h7, h8, r, h9, h10⟩ := hL
  have hs2 := ax_sok_of hs
  have hcd : (ax_cw M').before args s = true := ax_wd hG hC h5 (ax_cw_ok M')
  have hws : ∀ x ∈ [ax_cw M'], ∀ (a' : Array Value) (U : State), s.WarmedH U.vm → x.before a' U = true := fun x hx a' U hW => by
    rw [List.mem_singleton.mp hx]
    exact word_at hW (good_of_word (ax_cw_ok M')) hcd
  have hRR : (ax_rm d' nc1 ns1).frames + 1 ≤ R.frames ∧ 8 + (M'.2.2.1 + 11) + (ax_rm d' nc1 ns1).locals ≤ R.locals := ⟨by show d' + 1 ≤ R.frames; omega, by show 8 + (M'.2.2.1 + 11) + 40 * d' ≤ R.locals; omega⟩
  refine ax_cont (a := (Value.ref (ad a) :: as.map (ax_rv ad)).toArray) ?_ k hG hC hR hH hl hs2.2.2
  have hcw : ax_cw M' = .code M'.1 M'.2.1 M'.2.2.1 M'.2.2.2.1 := by simp only [ax_cw, hh]
  rw [hcw] at hcd
  obtain ⟨cell, g1, g2, g3⟩ := va_recv (ax_K hG hC) hH.2.2.2.1 h9 (ax_rw_at G ad he)
  rw [h10] at g3
  exact va_runV (Ts := []) (cc := M.2.1) (nL := M.2.2.1) (bytes := M'.2.1) (maxL := M'.2.2.1) (ret := M'.2.2.2.1) (n := n) (own := M.1.cls) (C := M'.1.cls) (index := index) ⟨hC.1, hC.2.1, hC.2.2.2.1, hC.2.2.2.2.1, fun _ h => by cases h⟩ (ax_ret hM hG ad)
    ⟨⟨rfl, rfl, hRR.1, hRR.2, hws, by rw [hcw]; exact List.mem_cons_self, hcd, ax_wd hG hC h4 rfl, h6, ax_len h7, ax_wd hG hC h1 rfl⟩, ax_wd hG hC h2 rfl, ax_wd hG hC h3 rfl⟩ ⟨ax_blind, ⟨cell, g1, g2, g3⟩, ax_pcs (as := .ref a :: as) hC hH ⟨hs2.2.1, ax_sok_rev hs2.1⟩⟩ rfl (by rw [List.length_map]; exact hn) hl.1.1 (ax_stk ad as (.ref a :: st)) (ax_mr hc) hd ⟨by omega, by omega⟩
/-- what a constructor's call needs of the tables -/
def ax_li (own : String) (index : Nat) (M' : ax_M) (n : Nat) : Prop := Cond.methodLink own index M'.1 ∈ lw_tbl ∧ Cond.instanceMethod M'.1 ∈ lw_tbl ∧ Cond.initialized M'.1.cls ∈ lw_tbl ∧ ax_cw M' ∈ lw_tbl ∧ M'.2.2.2.2 = [] ∧ (M'.1.cls ≠ "java/lang/invoke/MethodHandle" ∧ M'.1.cls ≠ "java/lang/invoke/VarHandle") ∧ (parseMethodDescriptor M'.1.desc).map (fun d => d.parameters.length) = some n ∧ M'.2.2.1 ≤ 21 ∧ M'.1.name = "<init>" ∧ M'.2.2.2.1 = none
theorem ax_inv2 {index n a : Nat} {st0 : List Value} (q : Nat) (hd : decode M.2.1 pc = .ok (.invokespecial index, 3)) (hq : pc + 3 = q) (hL : ax_li M.1.cls index M' n) (hM : ax_Met G M' d' nc1 ns1 (.ref a :: as) w (.inl none, w1)) (hdd : d' + 1 ≤ d) (hn : as.length = n) (hst : as.reverse ++ .ref a :: st = st0) (hc : (st.map fun v => v.category).sum ≤ 8) (hnc : nc1 + nc2 ≤ nc) (hns : ns1 + ns2 ≤ ns)
    (k : ax_Ex G M d nc2 ns2 q lv st w1 o) : ax_Ex G M d nc ns pc lv st0 w o := by
  subst hq; subst hst
  refine ax_more hnc hns ?_
  intro hG p e R s m args below meth c H locs cells slots mc ms n0 ad ad0 ls hC hR hH hl hs
  obtain ⟨h1, h2, h4, h5, hh, h6, h7, h8, h9, h10⟩ := hL
  have hs2 := ax_sok_of hs
  have hcd : (ax_cw M').before args s = true := ax_wd hG hC h5 (ax_cw_ok M')
  have hws : ∀ x ∈ [ax_cw M'], ∀ (a' : Array Value) (U : State), s.WarmedH U.vm → x.before a' U = true := fun x hx a' U hW => by
    rw [List.mem_singleton.mp hx]
    exact word_at hW (good_of_word (ax_cw_ok M')) hcd
  have hRR : (ax_rm d' nc1 ns1).frames + 1 ≤ R.frames ∧ 8 + (M'.2.2.1 + 11) + (ax_rm d' nc1 ns1).locals ≤ R.locals := ⟨by show d' + 1 ≤ R.frames; omega, by show 8 + (M'.2.2.1 + 11) + 40 * d' ≤ R.locals; omega⟩
  refine ax_cont (v := none) (a := (Value.ref (ad a) :: as.map (ax_rv ad)).toArray) ?_ k hG hC hR hH hl hs2.2.2
  have hcw : ax_cw M' = .code M'.1 M'.2.1 M'.2.2.1 none := by simp only [ax_cw, hh, h10]
  rw [hcw] at hcd
  exact va_runI (Ts := []) (cc := M.2.1) (nL := M.2.2.1) (bytes := M'.2.1) (maxL := M'.2.2.1) (n := n) (own := M.1.cls) (index := index) ⟨hC.1, hC.2.1, hC.2.2.2.1, hC.2.2.2.2.1, fun _ h => by cases h⟩ (ax_ret hM hG ad)
    ⟨⟨rfl, rfl, hRR.1, hRR.2, hws, by rw [hcw]; exact List.mem_cons_self, hcd, ax_wd hG hC h4 rfl, h6, ax_len h7, ax_wd hG hC h1 rfl⟩, h9, ax_wd hG hC h2 rfl⟩ ⟨ax_blind, ax_pcs (as := .ref a :: as) hC hH ⟨hs2.2.1, ax_sok_rev hs2.1⟩⟩ rfl (by rw [List.length_map]; exact hn) hl.1.1 (ax_stk ad as (.ref a :: st)) (ax_mr hc) hd ⟨by omega, by omega⟩
/-- calls between nest mates: a constructor, a static method -/
def ax_ln (own : String) (index : Nat) (host : String) (M' : ax_M) (n : Nat) : Prop := Cond.methodLinkNest own index M'.1 host ∈ lw_tbl ∧ Cond.initialized M'.1.cls ∈ lw_tbl ∧ ax_cw M' ∈ lw_tbl ∧ M'.2.2.2.2 = [] ∧ (M'.1.cls ≠ "java/lang/invoke/MethodHandle" ∧ M'.1.cls ≠ "java/lang/invoke/VarHandle") ∧ (parseMethodDescriptor M'.1.desc).map (fun d => d.parameters.length) = some n ∧ M'.2.2.1 ≤ 21
theorem ax_inv2N {index n a : Nat} {host : String} {st0 : List Value} (q : Nat) (hd : decode M.2.1 pc = .ok (.invokespecial index, 3)) (hq : pc + 3 = q) (hL : ax_ln M.1.cls index host M' n) (hi : M'.1.name = "<init>" ∧ M'.2.2.2.1 = none ∧ Cond.instanceMethod M'.1 ∈ lw_tbl) (hM : ax_Met G M' d' nc1 ns1 (.ref a :: as) w (.inl none, w1)) (hdd : d' + 1 ≤ d) (hn : as.length = n) (hst : as.reverse ++ .ref a :: st = st0) (hc : (st.map fun v => v.category).sum ≤ 8) (hnc : nc1 + nc2 ≤ nc) (hns : ns1 + ns2 ≤ ns)
    (k : ax_Ex G M d nc2 ns2 q lv st w1 o) : ax_Ex G M d nc ns pc lv st0 w o := by
  subst hq; subst hst
  refine ax_more hnc hns ?_
  intro hG p e R s m args below meth c H locs cells slots mc ms n0 ad ad0 ls hC hR hH hl hs
  obtain ⟨h1, h4, h5, hh, h6, h7, h8⟩ := hL
  have hs2 := ax_sok_of hs
  have hcd : (ax_cw M').before args s = true := ax_wd hG hC h5 (ax_cw_ok M')
  have hws : ∀ x ∈ [ax_cw M'], ∀ (a' : Array Value) (U : State), s.WarmedH U.vm → x.before a' U = true := fun x hx a' U hW => by
    rw [List.mem_singleton.mp hx]
    exact word_at hW (good_of_word (ax_cw_ok M')) hcd
  have hRR : (ax_rm d' nc1 ns1).frames + 1 ≤ R.frames ∧ 8 + (M'.2.2.1 + 11) + (ax_rm d' nc1 ns1).locals ≤ R.locals := ⟨by show d' + 1 ≤ R.frames; omega, by show 8 + (M'.2.2.1 + 11) + 40 * d' ≤ R.locals; omega⟩
  refine ax_cont (v := none) (a := (Value.ref (ad a) :: as.map (ax_rv ad)).toArray) ?_ k hG hC hR hH hl hs2.2.2
  have hcw : ax_cw M' = .code M'.1 M'.2.1 M'.2.2.1 none := by simp only [ax_cw, hh, hi.2.1]
  rw [hcw] at hcd
  exact va_runIN (Ts := []) (cc := M.2.1) (nL := M.2.2.1) (bytes := M'.2.1) (maxL := M'.2.2.1) (n := n) (own := M.1.cls) (host := host) (index := index) ⟨hC.1, hC.2.1, hC.2.2.2.1, hC.2.2.2.2.1, fun _ h => by cases h⟩ (ax_ret hM hG ad)
    ⟨⟨⟨rfl, rfl, hRR.1, hRR.2, hws, by rw [hcw]; exact List.mem_cons_self⟩, hcd, ax_wd hG hC h4 rfl, h6, ax_len h7, ax_wk hG hC h1 rfl⟩, hi.1, ax_wd hG hC hi.2.2 rfl⟩ ⟨ax_blind, ax_pcs (as := .ref a :: as) hC hH ⟨hs2.2.1, ax_sok_rev hs2.1⟩⟩ rfl (by rw [List.length_map]; exact hn) hl.1.1 (ax_stk ad as (.ref a :: st)) (ax_mr hc) hd ⟨by omega, by omega⟩
theorem ax_inv0N {index n : Nat} {host : String} {v : Option Value} {st0 : List Value} (q : Nat) (hd : decode M.2.1 pc = .ok (.invokestatic index, 3)) (hq : pc + 3 = q) (hL : ax_ln M.1.cls index host M' n) (hi : Cond.static M'.1 ∈ lw_tbl) (hM : ax_Met G M' d' nc1 ns1 as w (.inl v, w1)) (hdd : d' + 1 ≤ d) (hn : as.length = n) (hst : as.reverse ++ st = st0) (hc : (st.map fun v => v.category).sum ≤ 8) (hnc : nc1 + nc2 ≤ nc) (hns : ns1 + ns2 ≤ ns)
    (k : ax_Ex G M d nc2 ns2 q lv (v.toList ++ st) w1 o) : ax_Ex G M d nc ns pc lv st0 w o := by
  subst hq; subst hst
  refine ax_more hnc hns ?_
  intro hG p e R s m args below meth c H locs cells slots mc ms n0 ad ad0 ls hC hR hH hl hs
  obtain ⟨h1, h4, h5, hh, h6, h7, h8⟩ := hL
  have hs2 := ax_sok_of hs
  have hcd : (ax_cw M').before args s = true := ax_wd hG hC h5 (ax_cw_ok M')
  have hws : ∀ x ∈ [ax_cw M'], ∀ (a' : Array Value) (U : State), s.WarmedH U.vm → x.before a' U = true := fun x hx a' U hW => by
    rw [List.mem_singleton.mp hx]
    exact word_at hW (good_of_word (ax_cw_ok M')) hcd
  have hRR : (ax_rm d' nc1 ns1).frames + 1 ≤ R.frames ∧ 8 + (M'.2.2.1 + 11) + (ax_rm d' nc1 ns1).locals ≤ R.locals := ⟨by show d' + 1 ≤ R.frames; omega, by show 8 + (M'.2.2.1 + 11) + 40 * d' ≤ R.locals; omega⟩
  refine ax_cont (a := (as.map (ax_rv ad)).toArray) ?_ k hG hC hR hH hl hs2.2
  have hcw : ax_cw M' = .code M'.1 M'.2.1 M'.2.2.1 M'.2.2.2.1 := by simp only [ax_cw, hh]
  rw [hcw] at hcd
  exact va_runSN (Ts := []) (cc := M.2.1) (nL := M.2.2.1) (bytes := M'.2.1) (maxL := M'.2.2.1) (ret := M'.2.2.2.1) (n := n) (own := M.1.cls) (host := host) (index := index) ⟨hC.1, hC.2.1, hC.2.2.2.1, hC.2.2.2.2.1, fun _ h => by cases h⟩ (ax_ret hM hG ad)
    ⟨⟨⟨rfl, rfl, hRR.1, hRR.2, hws, by rw [hcw]; exact List.mem_cons_self⟩, hcd, ax_wd hG hC h4 rfl, h6, ax_len h7, ax_wk hG hC h1 rfl⟩, ax_wd hG hC hi rfl, trivial⟩ ⟨ax_blind, ax_pcs hC hH (ax_sok_rev hs2.1)⟩ rfl (by rw [List.length_map]; exact hn) hl.1.1 (ax_stk ad as st) (ax_mr hc) hd ⟨by omega, by omega⟩
/-- 'throw new E("text")': what it needs of the tables -/
def ax_th (own : String) (ik is ic : Nat) (cls text : String) : Prop := ∃ names : List String, names.length = 2 ∧ Bundle.fit cls = true ∧ (∀ n ∈ names, Bundle.fit n = true) ∧ Cond.classLink own ik cls ∈ lw_tbl ∧ Cond.initialized cls ∈ lw_tbl ∧ Cond.stringRef own is text ∈ lw_tbl ∧ (∀ x ∈ vx_atS own ic cls names, x ∈ lw_tbl ∧ ax_kw x = true) ∧ ∀ x ∈ Cond.classLink own ik cls :: Cond.initialized cls :: vx_atS own ic cls names, vx_ot x = true
theorem ax_zq {p : Program} {s : State} {m : MethodId} {meth : Method} {c : Code} {C n dd : String} (hC : ax_C G M p s m meth c) (h : vx_Zq C n dd (ax_A G) G.s0 G.s0.heap) : vx_Zq C n dd (ax_A G) s s.heap :=
  (h.moved hC.2.2.2.2.2.2.2.2.1.alike).kept (fun a ha _ => hC.2.2.2.2.2.2.2.2.2.2 a ha)
theorem ax_xc {E : String} {s : State} {H : Heap} {locs : List Loc} {n0 : Nat} {ad ad0 : Nat → Nat} (hH : ax_H G ad ad0 n0 w s H locs) {t : State} (hz : H.size ≤ t.heap.size) (hk : ∀ q : Nat, q < H.size → t.heap[q]? = H[q]?) : ax_XC G ad0 n0 (.inr E, w) E s t :=
  ⟨rfl, ad, hH.1, hH.2.1, hH.2.2.1, hH.2.2.2.1.kept (fun k q hq => hk q.1 ((hH.2.2.2.1 k q hq).lt)), hH.2.2.2.2.1, Nat.le_trans hH.2.2.2.2.2.1 hz, fun q h1 h2 => (hk q (Nat.lt_of_lt_of_le h1 hH.2.2.2.2.2.1)).trans (hH.2.2.2.2.2.2.1 q h1 h2)⟩
theorem ax_throw {cls text : String} {ik is ic : Nat} (hT : ax_th M.1.cls ik is ic cls text) (hh : M.2.2.2.2 = []) (hd6 : 6 ≤ d) (d0 : decode M.2.1 pc = .ok (.new ik, 3)) (d3 : decode M.2.1 (pc + 3) = .ok (.dup, 1)) (d4 : decode M.2.1 (pc + 4) = .ok (.ldc is, 2)) (d6 : decode M.2.1 (pc + 6) = .ok (.invokespecial ic, 3)) (d9 : decode M.2.1 (pc + 9) = .ok (.athrow, 1))
    (hnc : 1 ≤ nc) (hns : 6 ≤ ns) (ho : o = (.inr cls, w)) : ax_Ex G M d nc ns pc lv [] w o := by
  subst ho
  intro hG p e R s m args below meth c H locs cells slots mc ms n0 ad ad0 ls hC hR hH hl hs
  obtain ⟨names, h1, h2, h3, h4, h5, h6, h7, h8⟩ := hT
  obtain ⟨sa, hsa⟩ := hG.2.2.2.2.2.2.2.1 _ _ _ h6
  refine vx_throwS (A := ax_A G) (own := M.1.cls) (names := names) (rest := []) hC.1 hC.2.1 hG.2.2.2.2.1 hC.2.2.2.2.1 h2 h3 (ax_wd hG hC h4 rfl) (ax_wd hG hC h5 rfl) (vk_R.warm hC.2.2.2.2.2.2.2.2.1 hsa) (fun x hx => ax_wk hG hC (h7 x hx).1 (h7 x hx).2) h8 (ax_zq hC hG.2.2.2.2.2.1) (ax_zq hC hG.2.2.2.2.2.2.1) hH.2.2.2.2.2 (by rw [hC.2.2.2.1]; exact hl.1.1) d0 d3 d4 d6 d9 ?_ (by omega) (by rw [h1]; show 0 + (13 * (2 + 1) + 43) ≤ R.locals; omega) (by omega) (by omega) hC.2.2.2.2.2.1 (fun t _ hz hk => ax_xc hH hz hk) hH.2.2.2.2.2.2.2 (by omega) (by omega)
  intro x hx
  rw [hC.2.2.2.2.2.2.2.1, hh] at hx
  cases hx
theorem ax_throwW {cls text : String} {ik is ic : Nat} (hT : ax_th M.1.cls ik is ic cls text) (hh : M.2.2.2.2 = []) (hd6 : 6 ≤ d) (d0 : decode M.2.1 pc = .ok (.new ik, 3)) (d3 : decode M.2.1 (pc + 3) = .ok (.dup, 1)) (d4 : decode M.2.1 (pc + 4) = .ok (.ldc_w is, 3)) (d7 : decode M.2.1 (pc + 7) = .ok (.invokespecial ic, 3)) (d10 : decode M.2.1 (pc + 10) = .ok (.athrow, 1))
    (hnc : 1 ≤ nc) (hns : 6 ≤ ns) (ho : o = (.inr cls, w)) : ax_Ex G M d nc ns pc lv [] w o := by
  subst ho
  intro hG p e R s m args below meth c H locs cells slots mc ms n0 ad ad0 ls hC hR hH hl hs
  obtain ⟨names, h1, h2, h3, h4, h5, h6, h7, h8⟩ := hT
  obtain ⟨sa, hsa⟩ := hG.2.2.2.2.2.2.2.1 _ _ _ h6
  refine vx_throwSW (A := ax_A G) (own := M.1.cls) (names := names) (rest := []) hC.1 hC.2.1 hG.2.2.2.2.1 hC.2.2.2.2.1 h2 h3 (ax_wd hG hC h4 rfl) (ax_wd hG hC h5 rfl) (vk_R.warm hC.2.2.2.2.2.2.2.2.1 hsa) (fun x hx => ax_wk hG hC (h7 x hx).1 (h7 x hx).2) h8 (ax_zq hC hG.2.2.2.2.2.1) (ax_zq hC hG.2.2.2.2.2.2.1) hH.2.2.2.2.2 (by rw [hC.2.2.2.1]; exact hl.1.1) d0 d3 d4 d7 d10 ?_ (by omega) (by rw [h1]; show 0 + (13 * (2 + 1) + 43) ≤ R.locals; omega) (by omega) (by omega) hC.2.2.2.2.2.1 (fun t _ hz hk => ax_xc hH hz hk) hH.2.2.2.2.2.2.2 (by omega) (by omega)
  intro x hx
  rw [hC.2.2.2.2.2.2.2.1, hh] at hx
  cases hx
/-- a virtual call that throws E, caught by a row of this method's table -/
theorem ax_inv1X {index n ci a : Nat} {fs : List Value} {E name : String} {st0 : List Value} (hp : Nat) (pre : List ExceptionTableEntry) (x : ExceptionTableEntry) (suf : List ExceptionTableEntry) (hd : decode M.2.1 pc = .ok (.invokevirtual index, 3)) (hL : ax_lvr M.1.cls index M' n ci) (he : w[a]? = some (.inr (ci, fs))) (hM : ax_Met G M' d' nc1 ns1 (.ref a :: as) w (.inr E, w1)) (hdd : d' + 1 ≤ d) (hn : as.length = n) (hst : as.reverse ++ .ref a :: st = st0) (hc : (st.map fun v => v.category).sum ≤ 8) (hnc : nc1 + nc2 ≤ nc) (hns : ns1 + ns2 ≤ ns)
    (hsplit : tableOf M.2.2.2.2 = pre ++ x :: suf) (hpass : ax_G0 G → ∀ z ∈ pre, covers z pc = false ∨ (z.catchType ≠ 0 ∧ ∃ nm : String, Cond.classLink M.1.cls z.catchType nm ∈ lw_tbl ∧ va_Nc E nm G.s0)) (hx : covers x pc = true) (h0 : x.catchType ≠ 0) (hlink : Cond.classLink M.1.cls x.catchType name ∈ lw_tbl) (hcast : Cond.castable E name ∈ lw_tbl) (hhp : x.handlerPc = hp)
    (k : ∀ q : Nat, ax_Ex G M d nc2 ns2 hp lv [.retAddr q] w1 o) : ax_Ex G M d nc ns pc lv st0 w o := by
  subst hst; subst hhp
  refine ax_more hnc hns ?_
  intro hG p e R s m args below meth c H locs cells slots mc ms n0 ad ad0 ls hC hR hH hl hs
  obtain ⟨h1, h2, h3, h4, h5, hh, h6, h7, h8, r, h9, h10⟩ := hL
  have hs2 := ax_sok_of hs
  have hcd : (ax_cw M').before args s = true := ax_wd hG hC h5 (ax_cw_ok M')
  have hws : ∀ x ∈ [ax_cw M'], ∀ (a' : Array Value) (U : State), s.WarmedH U.vm → x.before a' U = true := fun x hx a' U hW => by
    rw [List.mem_singleton.mp hx]
    exact word_at hW (good_of_word (ax_cw_ok M')) hcd
  have hRR : (ax_rm d' nc1 ns1).frames + 1 ≤ R.frames ∧ 8 + (M'.2.2.1 + 11) + (ax_rm d' nc1 ns1).locals ≤ R.locals := ⟨by show d' + 1 ≤ R.frames; omega, by show 8 + (M'.2.2.1 + 11) + 40 * d' ≤ R.locals; omega⟩
  have hcw : ax_cw M' = .code M'.1 M'.2.1 M'.2.2.1 M'.2.2.2.1 := by simp only [ax_cw, hh]
  rw [hcw] at hcd
  obtain ⟨cell, g1, g2, g3⟩ := va_recv (ax_K hG hC) hH.2.2.2.1 h9 (ax_rw_at G ad he)
  rw [h10] at g3
  have hrun := vx_runV (p := p) (e := e) (below := below) (meth := meth) (locs := locs) (cells := cells) (slots := slots) (Ts := []) (cc := M.2.1) (nL := M.2.2.1) (bytes := M'.2.1) (maxL := M'.2.2.1) (ret := M'.2.2.2.1) (n := n) (own := M.1.cls) (C := M'.1.cls) (index := index) (g := F0 m pc ls (List.map (ax_rv ad) (as.reverse ++ .ref a :: st))) (rest := st.map (ax_rv ad)) ⟨hC.1, hC.2.1, hC.2.2.2.1, hC.2.2.2.2.1, fun _ h => by cases h⟩ (hM hG ad)
    ⟨⟨rfl, rfl, hRR.1, hRR.2, hws, by rw [hcw]; exact List.mem_cons_self, hcd, ax_wd hG hC h4 rfl, h6, ax_len h7, ax_wd hG hC h1 rfl⟩, ax_wd hG hC h2 rfl, ax_wd hG hC h3 rfl⟩ ⟨ax_blind, ⟨cell, g1, g2, g3⟩, ax_pcs (as := .ref a :: as) hC hH ⟨hs2.2.1, ax_sok_rev hs2.1⟩⟩ rfl (by rw [List.length_map]; exact hn) hl.1.1 (ax_stk ad as (.ref a :: st)) (ax_mr hc) hd ⟨by omega, by omega⟩
  intro T hT X
  rcases hrun T hT X with ⟨v, st₀, t, T', L, -, -, -, -, -, ⟨v9, ad', hv9, -⟩, -⟩ | ⟨q, st₀, t, T', L, E', ce, e0, X', hL9, e1, e2, ⟨hE, ad', hn9, hsame, hwf, hP1, hD1, hz, hk⟩, hce, hcv, hcl, st1⟩
  · cases hv9
  · have eE : E = E' := Sum.inr.inj hE
    subst eE
    dsimp only at hn9 hwf hP1 hD1
    rw [e0] at hz hk
    have hS := hH.2.2.2.2.2
    have hS1 : va_S (ax_A G) s.heap T'.heap (locs ++ L) := ⟨Nat.le_trans hS.1 (by rw [e1]; exact hz), fun q h1 h2 => by rw [e1, hk q (Nat.lt_of_lt_of_le h1 hS.1) h2]; exact hS.2.1 q h1 h2, fun q hq => by
        rcases List.mem_append.mp hq with h | h
        · exact hS.2.2 q h
        · exact hL9 q h⟩
    have hH1 : ax_H G ad' ad0 n0 w1 s T'.heap (locs ++ L) := ⟨Nat.le_trans hH.1 hn9, fun j hj => (hsame j (Nat.lt_of_lt_of_le hj hH.1)).trans (hH.2.1 j hj), hwf, by rw [e1]; exact hP1, hD1, hS1⟩
    have hW9 := k q hG p e R s m args below meth c T'.heap (locs ++ L) (cells + nc1) (slots + ns1) mc ms n0 ad' ad0 ls hC (by omega) hH1 ⟨by rw [ax_lv_same hsame hl.2]; exact hl.1, ax_lok_mono hn9 hl.2⟩ ⟨trivial, trivial⟩
    obtain ⟨t2, a1, b1⟩ := ax_catch (rest := st.map (ax_rv ad)) hC.2.2.2.2.1 pre x suf (hC.2.2.2.2.2.2.2.1.trans hsplit) (fun z hz9 => by
      rcases hpass hG z hz9 with h | ⟨hz0, nm, hl1, hn1⟩
      · exact Or.inl h
      · exact Or.inr ⟨hz0, nm, ax_wd hG hC hl1 rfl, hn1.moved hC.2.2.2.2.2.2.2.2.1.alike⟩) hx h0 (ax_wd hG hC hlink rfl) (ax_wk hG hC hcast rfl) (by rw [e1]; exact hce) hcv hcl hW9 T' rfl X'
    exact ⟨t2, st1.trans a1, b1⟩
end AXT
end
