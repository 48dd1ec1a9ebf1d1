/-! the law from its entry -/
section START
variable {G : ax_G} {R : ax_R}
theorem law_all (hS : RSpec R) (hL : G.L ≤ 3584) : ∃ O : ax_O, O.1 = .inl (some (.int 1)) ∧ ax_Ex G M_L_law 11 (60 + G.L / 7) (7401 + 6 * (G.L / 7)) 0 [(0, .retAddr G.b)] [] [] O := by
  obtain ⟨O, hO, K⟩ := law_loop hS hL (G.L / 7) 0 q0F p0F (fun _ => 0) (fun _ => 0) hS.2.1 (by omega)
  refine ⟨O, hO, ?_⟩
  refine ax_more (nc := 59 + G.L / 7 + 1) (ns := 7393 + 6 * (G.L / 7) + 8) (by omega) (by omega) ?_
  refine ax_new 3 dL_law_0 rfl nw_L_8 ?_
  refine ax_dup 4 dL_law_3 rfl rfl ?_
  refine ax_inv2 (nc2 := 28 + G.L / 7 + 1) (ns2 := 3660 + 6 * (G.L / 7) + 31) 7 dL_law_4 rfl ml_L_86 (s_X3 (d := 10) (by omega)) (by omega) rfl rfl (Nat.le_of_ble_eq_true rfl) (by omega) (by omega) ?_
  refine ax_astore_n 1 8 dL_law_7 rfl rfl (Nat.le_of_ble_eq_true rfl) ?_
  refine ax_new 11 dL_law_8 rfl nw_L_87 ?_
  refine ax_dup 12 dL_law_11 rfl rfl ?_
  refine ax_wn (wQ q0F ++ [.inr (4, fs0_X4)]) rfl ?_
  refine ax_inv2 (nc2 := G.L / 7 + 1) (ns2 := 6 * (G.L / 7) + 1) 15 dL_law_12 rfl ml_L_89 (s_X4 (d := 10) (q := q0F) (by omega)) (by omega) rfl rfl (Nat.le_of_ble_eq_true rfl) (by omega) (by omega) ?_
  refine ax_astore_n 2 16 dL_law_15 rfl rfl (Nat.le_of_ble_eq_true rfl) ?_
  refine ax_iconst (v := 1) 17 dL_law_16 rfl (by decide) ?_
  refine ax_newl (n := 1) 19 dL_law_17 rfl (by decide) (by decide) (by decide) aw_long ?_
  refine ax_wn (wL q0F p0F (fun _ => 0) (fun _ => 0)) rfl ?_
  refine ax_astore_n 3 20 dL_law_19 rfl rfl (Nat.le_of_ble_eq_true rfl) ?_
  refine ax_iconst (v := 0) 21 dL_law_20 rfl (by decide) ?_
  refine ax_istore 23 dL_law_21 rfl (Nat.le_of_ble_eq_true rfl) ?_
  exact ax_lvk K ⟨rfl, rfl, rfl, rfl, rfl, trivial⟩
end START
theorem ax_forget {s t : State} {L : List Loc} {k n : Nat} (h : s.sameButNew t L k n) (hL : ∀ q ∈ L, s.heap.size ≤ q.base) : s.sameButNew t [] k n := by
  obtain ⟨h1, h2, h3, h4, h5, h6⟩ := h
  refine ⟨h1, h2, h3, h4, h5, fun a c hc => ?_⟩
  obtain ⟨c', g1, g2, g3, g4⟩ := h6 a c hc
  refine ⟨c', g1, g2, g3, fun i _ => g4 i fun hm => ?_⟩
  have h9 := hL _ hm
  have h8 : a < s.heap.size := (Array.getElem?_eq_some_iff.mp hc).1
  exact absurd h9 (Nat.not_le.mpr h8)
theorem ax_arr {s : State} {args : Array Value} {ty : FieldType} (h : (Cond.arrayClass ty).before args s = true) : ∃ cA : ClassId, ArrOfT s cA ty ∧ s.vm.findClass ("[" ++ ty.toString) = some cA := by
  obtain ⟨c, k, comp, h1, h2, h3⟩ := Cond.arrayClass_spec h
  exact ⟨c, fun n z => ⟨fun k h => (by cases h), k, h2, comp, h3⟩, h1⟩
theorem ax_str {s : State} {args : Array Value} {own tx : String} {k : Nat} (h : (Cond.stringRef own k tx).before args s = true) : ∃ a, vk_R own k tx a s := by
  cases hc : s.vm.findClass own with
  | none =>
    have h2 : (Cond.stringRef own k tx).holds args s none s [] = true := h
    simp [Cond.holds, Cond.value, hc] at h2
  | some c =>
    obtain ⟨-, -, -, a, -, -, -, -, -, hev⟩ := Cond.stringRef_spec hc h
    exact ⟨a, vk_R.of h hev⟩
