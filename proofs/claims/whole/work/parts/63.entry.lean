/-! the law from its entry, in the machine's words -/
def R_law : String := "QuotaRegisterLaw"
def lw_P (b : Addr) (xs : List Int32) (args : Array Value) (s : State) : Prop := args = #[.ref b] ∧ s.IntsAt b xs ∧ xs.length ≤ 3584 ∧ (Jvm.Cond.and given_1 narrow_1).before args s = true
def lw_Q (_ : Array Value) (s : State) (o : Outcome) (t : State) : Prop := o = .returned (some (.int 1)) ∧ Framed s o t [] 1125 15839
def lw_Z (below : List Frame) (a : Array Value) (s : State) : State → Prop := fun t => ∃ o, t.status = .running ∧ Ended t below o ∧ lw_Q a s o t
/-- what holds at the law's entry -/
def lw_At (p : Program) (s : State) (m : MethodId) (meth : Method) (c : Code) (b L : Nat) (xs : Nat → Int32) : Prop :=
  p.tables.exec = Jvm.exec ∧ c.code = code ∧ meth.sig.returnType = ret ∧ c.maxLocals = 8 ∧ s.vm.findClass R_law = some m.cls ∧ (∀ w ∈ lw_tbl, w.before #[Value.ref b] s = true) ∧ va_X b L xs s s.heap ∧ b < s.heap.size ∧ meth.locks = false ∧ (Jvm.Cond.and given_1 narrow_1).before #[Value.ref b] s = true ∧ meth.name = "law" ∧ c.exceptionTable.toList = []
theorem ax_start {R : ax_R} (hR : RSpec R) {p : Program} {e : Env} {s : State} {m : MethodId} {below : List Frame} {meth : Method} {c : Code} (l : Launch) (hst : l.stackTraces = false) {b L : Nat} {xs : Nat → Int32} (hL : L ≤ 3584) (C0 : lw_At p s m meth c b L xs) : W p l e room_1 s m #[Value.ref b] below meth c s.heap [] 0 0 (lw_Z below #[Value.ref b] s) (entryFrame m ([Value.ref b] : List Value).toArray 8) := by
  obtain ⟨hx, hb, hr, hml, hown, hts, hX, hbl, hlocks, hgv, hnm, het⟩ := id C0
  obtain ⟨c0, i0, k0⟩ := u_known (C := RX0) (T := TX0) (N := 10) (n := 10) hts (fun w hw => (uw_X0 w hw).1) (hts (.instantiable RX0 10) (by decide +kernel))
  obtain ⟨c1, i1, k1⟩ := u_known (C := RX1) (T := TX1) (N := 10) (n := 10) hts (fun w hw => (uw_X1 w hw).1) (hts (.instantiable RX1 10) (by decide +kernel))
  obtain ⟨c2, i2, k2⟩ := u_known (C := RX2) (T := TX2) (N := 5) (n := 5) hts (fun w hw => (uw_X2 w hw).1) (hts (.instantiable RX2 5) (by decide +kernel))
  obtain ⟨c3, i3, k3⟩ := u_known (C := RX3) (T := TX3) (N := 8) (n := 8) hts (fun w hw => (uw_X3 w hw).1) (hts (.instantiable RX3 8) (by decide +kernel))
  obtain ⟨c4, i4, k4⟩ := u_known (C := RX4) (T := TX4) (N := 31) (n := 31) hts (fun w hw => (uw_X4 w hw).1) (hts (.instantiable RX4 31) (by decide +kernel))
  obtain ⟨a0, f0, g0⟩ := ax_arr (hts _ aw_int)
  obtain ⟨a1, f1, g1⟩ := ax_arr (hts _ aw_boolean)
  obtain ⟨a2, f2, g2⟩ := ax_arr (hts _ aw_long)
  obtain ⟨D, cA, hK⟩ : ∃ (D : va_G) (cA : Nat → ClassId), va_K D ax_cl [(cA 0, .int), (cA 1, .boolean), (cA 2, .long)] s := by
    refine ⟨(fun k => match k with | 0 => c0 | 1 => c1 | 2 => c2 | 3 => c3 | _ => c4, fun k => match k with | 0 => i0 | 1 => i1 | 2 => i2 | 3 => i3 | _ => i4), fun k => match k with | 0 => a0 | 1 => a1 | _ => a2, ?_, ?_⟩
    · intro k q hq
      match k, hq with
      | 0, hq => cases hq; exact k0
      | 1, hq => cases hq; exact k1
      | 2, hq => cases hq; exact k2
      | 3, hq => cases hq; exact k3
      | 4, hq => cases hq; exact k4
      | k + 5, hq => simp [ax_cl] at hq
    · intro k q hq
      match k, hq with
      | 0, hq => cases hq; exact ⟨f0, g0⟩
      | 1, hq => cases hq; exact ⟨f1, g1⟩
      | 2, hq => cases hq; exact ⟨f2, g2⟩
      | k + 3, hq => simp at hq
  have hfl := flat_of_before _ hgv
  have hG : ax_G0 (l, s, D, cA, b, L, xs) := by
    refine ⟨hts, hK, hX, hbl, hst, ?_, ?_, fun own k tx h => ax_str (hts _ h), ?_, ?_, ?_⟩
    · exact vx_Zqof (hts (.laysStatic Bundle.tN "UNASSIGNED_STACK" Bundle.steD) (by decide +kernel)) (hts (.initialized Bundle.tN) (by decide +kernel)) (hfl (.isRef (.static Bundle.tN "UNASSIGNED_STACK" Bundle.steD)) (by decide +kernel)) (fun a h => Nat.not_le.mpr h)
    · exact vx_Zqof (hts (.laysStatic Bundle.tN "SUPPRESSED_SENTINEL" Bundle.listD) (by decide +kernel)) (hts (.initialized Bundle.tN) (by decide +kernel)) (hfl (.isRef (.static Bundle.tN "SUPPRESSED_SENTINEL" Bundle.listD)) (by decide +kernel)) (fun a h => Nat.not_le.mpr h)
    · exact va_Nc.of (hfl (.not (.castable "java/lang/IllegalStateException" "java/lang/IllegalArgumentException")) (by decide +kernel))
    · exact va_Nc.of (hfl (.not (.castable "java/lang/IllegalStateException" "java/lang/IndexOutOfBoundsException")) (by decide +kernel))
    · exact va_Nc.of (hfl (.not (.castable "java/lang/IllegalArgumentException" "java/lang/IndexOutOfBoundsException")) (by decide +kernel))
  obtain ⟨O, hO, hE⟩ := law_all (G := (l, s, D, cA, b, L, xs)) hR hL
  have hl := lv_entry ([.ref b]) (n := 8) (Nat.le_of_ble_eq_true rfl)
  rw [lg_entry_eq]
  generalize (lg_sl ([.ref b]) ++ List.replicate (8 - (lg_sl ([.ref b])).length) Slot.unset).toArray = ls at hl ⊢
  have hl : lv_has ls 8 [(0, .ref b)] := hl
  have hW := hE hG p e room_1 s m #[Value.ref b] below meth c s.heap [] 0 0 (60 + L / 7) (7401 + 6 * (L / 7)) 0 (fun _ => 0) (fun _ => 0) ls ⟨hx, hb, hr, hml, hown, hlocks, hnm, het, State.WarmedH.refl s, Nat.le_refl _, fun _ _ => rfl⟩
    ⟨by decide, by decide, by show 0 + (60 + L / 7) ≤ 60 + L / 7; omega, by show 0 + (7401 + 6 * (L / 7)) ≤ 7401 + 6 * (L / 7); omega, by show 60 + L / 7 ≤ 1125; omega, by show 7401 + 6 * (L / 7) ≤ 15839; omega⟩ ⟨Nat.le_refl _, fun _ _ => rfl, fun k e h => by simp at h, fun k q h => by simp [ax_rw] at h, ⟨fun i j p q h => by simp [ax_rw] at h, fun k q h => by simp [ax_rw] at h⟩, va_S.rf⟩ ⟨hl, trivial, trivial⟩ trivial
  intro T hT X
  obtain ⟨t, a3, o, b1, b2, b3⟩ := hW T hT X
  refine ⟨t, a3, o, b1, b2, ?_⟩
  rcases b3 with ⟨⟨v, ad, hv, ho, -⟩, L9, hF, hfree⟩ | ⟨q9, -, E, ce, L9, hxc, -⟩
  · rw [hO] at hv
    cases hv
    refine ⟨ho, hF.1, hF.2.1, ?_⟩
    exact State.sameButNew.mono (ax_forget hF.2.2 hfree) (by omega) (by omega)
  · have h9 := hxc.1
    rw [hO] at h9
    cases h9
