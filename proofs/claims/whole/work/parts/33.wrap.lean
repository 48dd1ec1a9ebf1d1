/-! the law's wrappers: 0 for a return, 1 and 2 for what they catch -/
def kO (E1 : String) (z : Option Value ⊕ String) : Int32 := match z with
  | .inl _ => 0
  | .inr E => if E = E1 then 1 else 2
def oO (o : Nat → Int64) (z : Option Value ⊕ String) : Nat → Int64 := match z with
  | .inl (some (.int x)) => vp_updL o 0 x.toInt64
  | .inl (some (.long x)) => vp_updL o 0 x
  | _ => o
section WRAP
variable {G : ax_G} {d : Nat} {q p : Nat → Nat → Int32} {l o : Nat → Int64}

theorem w_species (hd : 10 ≤ d) (a0 a1 a2 : Int32) (z : ax_KO) (hM : ax_Met G M_X3_species (d - 1) 1 6 [.ref 0, .int a0, .int a1, .int a2] (wQ q ++ (wM p l ++ [.inl (2, 1, .inr o)])) (z.1, wQ z.2 ++ (wM p l ++ [.inl (2, 1, .inr o)]))) (hz : z.1 = .inl none ∨ z.1 = .inr IAE) : ax_Met G M_L_species d 1 6 [.ref 0, .int a0, .int a1, .int a2] (wQ q ++ (wM p l ++ [.inl (2, 1, .inr o)])) (.inl (some (.int (kO IAE z.1))), wQ z.2 ++ (wM p l ++ [.inl (2, 1, .inr (oO o z.1))])) := by
  obtain ⟨z1, z2⟩ := z
  dsimp only at hM hz ⊢
  refine ax_ofH rfl (by decide) (Nat.le_of_ble_eq_true rfl) ?_
  rcases hz with rfl | rfl
  · refine ax_aload_n 0 1 dL_species_0 rfl rfl rfl ?_
    refine ax_iload_n 1 2 dL_species_1 rfl rfl rfl ?_
    refine ax_iload_n 2 3 dL_species_2 rfl rfl rfl ?_
    refine ax_iload_n 3 4 dL_species_3 rfl rfl rfl ?_
    refine ax_inv1 (nc2 := 0) (ns2 := 0) 7 dL_species_4 rfl ml_L_7 rfl hM (by omega) rfl rfl (Nat.le_of_ble_eq_true rfl) (by omega) (by omega) ?_
    refine ax_goto 14 dL_species_7 (by decide) ?_
    refine ax_iconst (v := 0) 15 dL_species_14 rfl (by decide) ?_
    exact ax_iret dL_species_15 rfl rfl
  · refine ax_aload_n 0 1 dL_species_0 rfl rfl rfl ?_
    refine ax_iload_n 1 2 dL_species_1 rfl rfl rfl ?_
    refine ax_iload_n 2 3 dL_species_2 rfl rfl rfl ?_
    refine ax_iload_n 3 4 dL_species_3 rfl rfl rfl ?_
    refine ax_inv1X (nc2 := 0) (ns2 := 0) 10 [] ⟨0, 7, 10, 13⟩ [] dL_species_4 ml_L_7 rfl hM (by omega) rfl rfl (Nat.le_of_ble_eq_true rfl) (by omega) (by omega) rfl (fun _ z9 hz9 => by cases hz9) rfl (by decide) cl_L_13 ca_IllegalArgumentException rfl (fun q9 => ?_)
    refine ax_astoreR 12 dL_species_10 rfl (Nat.le_of_ble_eq_true rfl) ?_
    refine ax_iconst (v := 1) 13 dL_species_12 rfl (by decide) ?_
    exact ax_iret dL_species_13 rfl (by rfl)
theorem w_factor (hd : 10 ≤ d) (a0 a1 a2 : Int32) (z : ax_KO) (hM : ax_Met G M_X3_factor (d - 1) 1 6 [.ref 0, .int a0, .int a1, .int a2] (wQ q ++ (wM p l ++ [.inl (2, 1, .inr o)])) (z.1, wQ z.2 ++ (wM p l ++ [.inl (2, 1, .inr o)]))) (hz : z.1 = .inl none ∨ z.1 = .inr IAE) : ax_Met G M_L_factor d 1 6 [.ref 0, .int a0, .int a1, .int a2] (wQ q ++ (wM p l ++ [.inl (2, 1, .inr o)])) (.inl (some (.int (kO IAE z.1))), wQ z.2 ++ (wM p l ++ [.inl (2, 1, .inr (oO o z.1))])) := by
  obtain ⟨z1, z2⟩ := z
  dsimp only at hM hz ⊢
  refine ax_ofH rfl (by decide) (Nat.le_of_ble_eq_true rfl) ?_
  rcases hz with rfl | rfl
  · refine ax_aload_n 0 1 dL_factor_0 rfl rfl rfl ?_
    refine ax_iload_n 1 2 dL_factor_1 rfl rfl rfl ?_
    refine ax_iload_n 2 3 dL_factor_2 rfl rfl rfl ?_
    refine ax_iload_n 3 4 dL_factor_3 rfl rfl rfl ?_
    refine ax_inv1 (nc2 := 0) (ns2 := 0) 7 dL_factor_4 rfl ml_L_15 rfl hM (by omega) rfl rfl (Nat.le_of_ble_eq_true rfl) (by omega) (by omega) ?_
    refine ax_goto 14 dL_factor_7 (by decide) ?_
    refine ax_iconst (v := 0) 15 dL_factor_14 rfl (by decide) ?_
    exact ax_iret dL_factor_15 rfl rfl
  · refine ax_aload_n 0 1 dL_factor_0 rfl rfl rfl ?_
    refine ax_iload_n 1 2 dL_factor_1 rfl rfl rfl ?_
    refine ax_iload_n 2 3 dL_factor_2 rfl rfl rfl ?_
    refine ax_iload_n 3 4 dL_factor_3 rfl rfl rfl ?_
    refine ax_inv1X (nc2 := 0) (ns2 := 0) 10 [] ⟨0, 7, 10, 13⟩ [] dL_factor_4 ml_L_15 rfl hM (by omega) rfl rfl (Nat.le_of_ble_eq_true rfl) (by omega) (by omega) rfl (fun _ z9 hz9 => by cases hz9) rfl (by decide) cl_L_13 ca_IllegalArgumentException rfl (fun q9 => ?_)
    refine ax_astoreR 12 dL_factor_10 rfl (Nat.le_of_ble_eq_true rfl) ?_
    refine ax_iconst (v := 1) 13 dL_factor_12 rfl (by decide) ?_
    exact ax_iret dL_factor_13 rfl (by rfl)
theorem w_vessel (hd : 10 ≤ d) (a0 a1 : Int32) (z : ax_KO) (hM : ax_Met G M_X3_vessel (d - 1) 1 6 [.ref 0, .int a0, .int a1] (wQ q ++ (wM p l ++ [.inl (2, 1, .inr o)])) (z.1, wQ z.2 ++ (wM p l ++ [.inl (2, 1, .inr o)]))) (hz : z.1 = .inl none ∨ z.1 = .inr IAE ∨ z.1 = .inr ISE) : ax_Met G M_L_vessel d 1 6 [.ref 0, .int a0, .int a1] (wQ q ++ (wM p l ++ [.inl (2, 1, .inr o)])) (.inl (some (.int (kO IAE z.1))), wQ z.2 ++ (wM p l ++ [.inl (2, 1, .inr (oO o z.1))])) := by
  obtain ⟨z1, z2⟩ := z
  dsimp only at hM hz ⊢
  refine ax_ofH rfl (by decide) (Nat.le_of_ble_eq_true rfl) ?_
  rcases hz with rfl | rfl | rfl
  · refine ax_aload_n 0 1 dL_vessel_0 rfl rfl rfl ?_
    refine ax_iload_n 1 2 dL_vessel_1 rfl rfl rfl ?_
    refine ax_iload_n 2 3 dL_vessel_2 rfl rfl rfl ?_
    refine ax_inv1 (nc2 := 0) (ns2 := 0) 6 dL_vessel_3 rfl ml_L_18 rfl hM (by omega) rfl rfl (Nat.le_of_ble_eq_true rfl) (by omega) (by omega) ?_
    refine ax_goto 15 dL_vessel_6 (by decide) ?_
    refine ax_iconst (v := 0) 16 dL_vessel_15 rfl (by decide) ?_
    exact ax_iret dL_vessel_16 rfl rfl
  · refine ax_aload_n 0 1 dL_vessel_0 rfl rfl rfl ?_
    refine ax_iload_n 1 2 dL_vessel_1 rfl rfl rfl ?_
    refine ax_iload_n 2 3 dL_vessel_2 rfl rfl rfl ?_
    refine ax_inv1X (nc2 := 0) (ns2 := 0) 9 [] ⟨0, 6, 9, 13⟩ [⟨0, 6, 12, 22⟩] dL_vessel_3 ml_L_18 rfl hM (by omega) rfl rfl (Nat.le_of_ble_eq_true rfl) (by omega) (by omega) rfl (fun _ z9 hz9 => by cases hz9) rfl (by decide) cl_L_13 ca_IllegalArgumentException rfl (fun q9 => ?_)
    refine ax_astore_nR 3 10 dL_vessel_9 rfl rfl (Nat.le_of_ble_eq_true rfl) ?_
    refine ax_iconst (v := 1) 11 dL_vessel_10 rfl (by decide) ?_
    exact ax_iret dL_vessel_11 rfl (by rfl)
  · refine ax_aload_n 0 1 dL_vessel_0 rfl rfl rfl ?_
    refine ax_iload_n 1 2 dL_vessel_1 rfl rfl rfl ?_
    refine ax_iload_n 2 3 dL_vessel_2 rfl rfl rfl ?_
    refine ax_inv1X (nc2 := 0) (ns2 := 0) 12 [⟨0, 6, 9, 13⟩] ⟨0, 6, 12, 22⟩ [] dL_vessel_3 ml_L_18 rfl hM (by omega) rfl rfl (Nat.le_of_ble_eq_true rfl) (by omega) (by omega) rfl (fun hG z9 hz9 => by
      rw [List.mem_singleton.mp hz9]
      exact Or.inr ⟨by decide, _, cl_L_13, hG.2.2.2.2.2.2.2.2.1⟩) rfl (by decide) cl_L_22 ca_IllegalStateException rfl (fun q9 => ?_)
    refine ax_astore_nR 3 13 dL_vessel_12 rfl rfl (Nat.le_of_ble_eq_true rfl) ?_
    refine ax_iconst (v := 2) 14 dL_vessel_13 rfl (by decide) ?_
    exact ax_iret dL_vessel_14 rfl (by rfl)
theorem w_link (hd : 10 ≤ d) (a0 a1 : Int32) (z : ax_KO) (hM : ax_Met G M_X3_link (d - 1) 1 6 [.ref 0, .int a0, .int a1] (wQ q ++ (wM p l ++ [.inl (2, 1, .inr o)])) (z.1, wQ z.2 ++ (wM p l ++ [.inl (2, 1, .inr o)]))) (hz : z.1 = .inl none ∨ z.1 = .inr IAE ∨ z.1 = .inr ISE) : ax_Met G M_L_link d 1 6 [.ref 0, .int a0, .int a1] (wQ q ++ (wM p l ++ [.inl (2, 1, .inr o)])) (.inl (some (.int (kO IAE z.1))), wQ z.2 ++ (wM p l ++ [.inl (2, 1, .inr (oO o z.1))])) := by
  obtain ⟨z1, z2⟩ := z
  dsimp only at hM hz ⊢
  refine ax_ofH rfl (by decide) (Nat.le_of_ble_eq_true rfl) ?_
  rcases hz with rfl | rfl | rfl
  · refine ax_aload_n 0 1 dL_link_0 rfl rfl rfl ?_
    refine ax_iload_n 1 2 dL_link_1 rfl rfl rfl ?_
    refine ax_iload_n 2 3 dL_link_2 rfl rfl rfl ?_
    refine ax_inv1 (nc2 := 0) (ns2 := 0) 6 dL_link_3 rfl ml_L_24 rfl hM (by omega) rfl rfl (Nat.le_of_ble_eq_true rfl) (by omega) (by omega) ?_
    refine ax_goto 15 dL_link_6 (by decide) ?_
    refine ax_iconst (v := 0) 16 dL_link_15 rfl (by decide) ?_
    exact ax_iret dL_link_16 rfl rfl
  · refine ax_aload_n 0 1 dL_link_0 rfl rfl rfl ?_
    refine ax_iload_n 1 2 dL_link_1 rfl rfl rfl ?_
    refine ax_iload_n 2 3 dL_link_2 rfl rfl rfl ?_
    refine ax_inv1X (nc2 := 0) (ns2 := 0) 9 [] ⟨0, 6, 9, 13⟩ [⟨0, 6, 12, 22⟩] dL_link_3 ml_L_24 rfl hM (by omega) rfl rfl (Nat.le_of_ble_eq_true rfl) (by omega) (by omega) rfl (fun _ z9 hz9 => by cases hz9) rfl (by decide) cl_L_13 ca_IllegalArgumentException rfl (fun q9 => ?_)
    refine ax_astore_nR 3 10 dL_link_9 rfl rfl (Nat.le_of_ble_eq_true rfl) ?_
    refine ax_iconst (v := 1) 11 dL_link_10 rfl (by decide) ?_
    exact ax_iret dL_link_11 rfl (by rfl)
  · refine ax_aload_n 0 1 dL_link_0 rfl rfl rfl ?_
    refine ax_iload_n 1 2 dL_link_1 rfl rfl rfl ?_
    refine ax_iload_n 2 3 dL_link_2 rfl rfl rfl ?_
    refine ax_inv1X (nc2 := 0) (ns2 := 0) 12 [⟨0, 6, 9, 13⟩] ⟨0, 6, 12, 22⟩ [] dL_link_3 ml_L_24 rfl hM (by omega) rfl rfl (Nat.le_of_ble_eq_true rfl) (by omega) (by omega) rfl (fun hG z9 hz9 => by
      rw [List.mem_singleton.mp hz9]
      exact Or.inr ⟨by decide, _, cl_L_13, hG.2.2.2.2.2.2.2.2.1⟩) rfl (by decide) cl_L_22 ca_IllegalStateException rfl (fun q9 => ?_)
    refine ax_astore_nR 3 13 dL_link_12 rfl rfl (Nat.le_of_ble_eq_true rfl) ?_
    refine ax_iconst (v := 2) 14 dL_link_13 rfl (by decide) ?_
    exact ax_iret dL_link_14 rfl (by rfl)
theorem w_unlink (hd : 10 ≤ d) (a0 a1 : Int32) (z : ax_KO) (hM : ax_Met G M_X3_unlink (d - 1) 1 6 [.ref 0, .int a0, .int a1] (wQ q ++ (wM p l ++ [.inl (2, 1, .inr o)])) (z.1, wQ z.2 ++ (wM p l ++ [.inl (2, 1, .inr o)]))) (hz : z.1 = .inl none ∨ z.1 = .inr IAE ∨ z.1 = .inr ISE) : ax_Met G M_L_unlink d 1 6 [.ref 0, .int a0, .int a1] (wQ q ++ (wM p l ++ [.inl (2, 1, .inr o)])) (.inl (some (.int (kO IAE z.1))), wQ z.2 ++ (wM p l ++ [.inl (2, 1, .inr (oO o z.1))])) := by
  obtain ⟨z1, z2⟩ := z
  dsimp only at hM hz ⊢
  refine ax_ofH rfl (by decide) (Nat.le_of_ble_eq_true rfl) ?_
  rcases hz with rfl | rfl | rfl
  · refine ax_aload_n 0 1 dL_unlink_0 rfl rfl rfl ?_
    refine ax_iload_n 1 2 dL_unlink_1 rfl rfl rfl ?_
    refine ax_iload_n 2 3 dL_unlink_2 rfl rfl rfl ?_
    refine ax_inv1 (nc2 := 0) (ns2 := 0) 6 dL_unlink_3 rfl ml_L_27 rfl hM (by omega) rfl rfl (Nat.le_of_ble_eq_true rfl) (by omega) (by omega) ?_
    refine ax_goto 15 dL_unlink_6 (by decide) ?_
    refine ax_iconst (v := 0) 16 dL_unlink_15 rfl (by decide) ?_
    exact ax_iret dL_unlink_16 rfl rfl
  · refine ax_aload_n 0 1 dL_unlink_0 rfl rfl rfl ?_
    refine ax_iload_n 1 2 dL_unlink_1 rfl rfl rfl ?_
    refine ax_iload_n 2 3 dL_unlink_2 rfl rfl rfl ?_
    refine ax_inv1X (nc2 := 0) (ns2 := 0) 9 [] ⟨0, 6, 9, 13⟩ [⟨0, 6, 12, 22⟩] dL_unlink_3 ml_L_27 rfl hM (by omega) rfl rfl (Nat.le_of_ble_eq_true rfl) (by omega) (by omega) rfl (fun _ z9 hz9 => by cases hz9) rfl (by decide) cl_L_13 ca_IllegalArgumentException rfl (fun q9 => ?_)
    refine ax_astore_nR 3 10 dL_unlink_9 rfl rfl (Nat.le_of_ble_eq_true rfl) ?_
    refine ax_iconst (v := 1) 11 dL_unlink_10 rfl (by decide) ?_
    exact ax_iret dL_unlink_11 rfl (by rfl)
  · refine ax_aload_n 0 1 dL_unlink_0 rfl rfl rfl ?_
    refine ax_iload_n 1 2 dL_unlink_1 rfl rfl rfl ?_
    refine ax_iload_n 2 3 dL_unlink_2 rfl rfl rfl ?_
    refine ax_inv1X (nc2 := 0) (ns2 := 0) 12 [⟨0, 6, 9, 13⟩] ⟨0, 6, 12, 22⟩ [] dL_unlink_3 ml_L_27 rfl hM (by omega) rfl rfl (Nat.le_of_ble_eq_true rfl) (by omega) (by omega) rfl (fun hG z9 hz9 => by
      rw [List.mem_singleton.mp hz9]
      exact Or.inr ⟨by decide, _, cl_L_13, hG.2.2.2.2.2.2.2.2.1⟩) rfl (by decide) cl_L_22 ca_IllegalStateException rfl (fun q9 => ?_)
    refine ax_astore_nR 3 13 dL_unlink_12 rfl rfl (Nat.le_of_ble_eq_true rfl) ?_
    refine ax_iconst (v := 2) 14 dL_unlink_13 rfl (by decide) ?_
    exact ax_iret dL_unlink_14 rfl (by rfl)
theorem w_issue (hd : 10 ≤ d) (a0 a1 a2 : Int32) (z : ax_KO) (hM : ax_Met G M_X3_issue (d - 1) 1 6 [.ref 0, .int a0, .int a1, .int a2] (wQ q ++ (wM p l ++ [.inl (2, 1, .inr o)])) (z.1, wQ z.2 ++ (wM p l ++ [.inl (2, 1, .inr o)]))) (hz : (∃ x : Int32, z.1 = .inl (some (.int x))) ∨ z.1 = .inr IAE ∨ z.1 = .inr ISE) : ax_Met G M_L_issue d 1 6 [.ref 0, .int a0, .int a1, .int a2, .ref 59] (wQ q ++ (wM p l ++ [.inl (2, 1, .inr o)])) (.inl (some (.int (kO IAE z.1))), wQ z.2 ++ (wM p l ++ [.inl (2, 1, .inr (oO o z.1))])) := by
  obtain ⟨z1, z2⟩ := z
  dsimp only at hM hz ⊢
  refine ax_ofH rfl (by decide) (Nat.le_of_ble_eq_true rfl) ?_
  rcases hz with ⟨x, rfl⟩ | rfl | rfl
  · refine ax_aload 2 dL_issue_0 rfl rfl ?_
    refine ax_iconst (v := 0) 3 dL_issue_2 rfl (by decide) ?_
    refine ax_aload_n 0 4 dL_issue_3 rfl rfl rfl ?_
    refine ax_iload_n 1 5 dL_issue_4 rfl rfl rfl ?_
    refine ax_iload_n 2 6 dL_issue_5 rfl rfl rfl ?_
    refine ax_iload_n 3 7 dL_issue_6 rfl rfl rfl ?_
    refine ax_inv1 (nc2 := 0) (ns2 := 0) 10 dL_issue_7 rfl ml_L_30 rfl hM (by omega) rfl rfl (Nat.le_of_ble_eq_true rfl) (by omega) (by omega) ?_
    refine ax_i2l 11 dL_issue_10 rfl ?_
    refine ax_lastN (j := 0) 12 dL_issue_11 rfl rfl rfl (by decide) (by decide) ?_
    refine ax_goto 23 dL_issue_12 (by decide) ?_
    refine ax_iconst (v := 0) 24 dL_issue_23 rfl (by decide) ?_
    exact ax_iret dL_issue_24 rfl rfl
  · refine ax_aload 2 dL_issue_0 rfl rfl ?_
    refine ax_iconst (v := 0) 3 dL_issue_2 rfl (by decide) ?_
    refine ax_aload_n 0 4 dL_issue_3 rfl rfl rfl ?_
    refine ax_iload_n 1 5 dL_issue_4 rfl rfl rfl ?_
    refine ax_iload_n 2 6 dL_issue_5 rfl rfl rfl ?_
    refine ax_iload_n 3 7 dL_issue_6 rfl rfl rfl ?_
    refine ax_inv1X (nc2 := 0) (ns2 := 0) 15 [] ⟨0, 12, 15, 13⟩ [⟨0, 12, 19, 22⟩] dL_issue_7 ml_L_30 rfl hM (by omega) rfl rfl (Nat.le_of_ble_eq_true rfl) (by omega) (by omega) rfl (fun _ z9 hz9 => by cases hz9) rfl (by decide) cl_L_13 ca_IllegalArgumentException rfl (fun q9 => ?_)
    refine ax_astoreR 17 dL_issue_15 rfl (Nat.le_of_ble_eq_true rfl) ?_
    refine ax_iconst (v := 1) 18 dL_issue_17 rfl (by decide) ?_
    exact ax_iret dL_issue_18 rfl (by rfl)
  · refine ax_aload 2 dL_issue_0 rfl rfl ?_
    refine ax_iconst (v := 0) 3 dL_issue_2 rfl (by decide) ?_
    refine ax_aload_n 0 4 dL_issue_3 rfl rfl rfl ?_
    refine ax_iload_n 1 5 dL_issue_4 rfl rfl rfl ?_
    refine ax_iload_n 2 6 dL_issue_5 rfl rfl rfl ?_
    refine ax_iload_n 3 7 dL_issue_6 rfl rfl rfl ?_
    refine ax_inv1X (nc2 := 0) (ns2 := 0) 19 [⟨0, 12, 15, 13⟩] ⟨0, 12, 19, 22⟩ [] dL_issue_7 ml_L_30 rfl hM (by omega) rfl rfl (Nat.le_of_ble_eq_true rfl) (by omega) (by omega) rfl (fun hG z9 hz9 => by
      rw [List.mem_singleton.mp hz9]
      exact Or.inr ⟨by decide, _, cl_L_13, hG.2.2.2.2.2.2.2.2.1⟩) rfl (by decide) cl_L_22 ca_IllegalStateException rfl (fun q9 => ?_)
    refine ax_astoreR 21 dL_issue_19 rfl (Nat.le_of_ble_eq_true rfl) ?_
    refine ax_iconst (v := 2) 22 dL_issue_21 rfl (by decide) ?_
    exact ax_iret dL_issue_22 rfl (by rfl)
theorem w_sell (hd : 10 ≤ d) (a0 a1 a2 a3 : Int32) (z : ax_KO) (hM : ax_Met G M_X3_sell (d - 1) 1 6 [.ref 0, .int a0, .int a1, .int a2, .int a3] (wQ q ++ (wM p l ++ [.inl (2, 1, .inr o)])) (z.1, wQ z.2 ++ (wM p l ++ [.inl (2, 1, .inr o)]))) (hz : z.1 = .inl none ∨ z.1 = .inr IAE ∨ z.1 = .inr ISE) : ax_Met G M_L_sell d 1 6 [.ref 0, .int a0, .int a1, .int a2, .int a3] (wQ q ++ (wM p l ++ [.inl (2, 1, .inr o)])) (.inl (some (.int (kO IAE z.1))), wQ z.2 ++ (wM p l ++ [.inl (2, 1, .inr (oO o z.1))])) := by
  obtain ⟨z1, z2⟩ := z
  dsimp only at hM hz ⊢
  refine ax_ofH rfl (by decide) (Nat.le_of_ble_eq_true rfl) ?_
  rcases hz with rfl | rfl | rfl
  · refine ax_aload_n 0 1 dL_sell_0 rfl rfl rfl ?_
    refine ax_iload_n 1 2 dL_sell_1 rfl rfl rfl ?_
    refine ax_iload_n 2 3 dL_sell_2 rfl rfl rfl ?_
    refine ax_iload_n 3 4 dL_sell_3 rfl rfl rfl ?_
    refine ax_iload 6 dL_sell_4 rfl rfl ?_
    refine ax_inv1 (nc2 := 0) (ns2 := 0) 9 dL_sell_6 rfl ml_L_34 rfl hM (by omega) rfl rfl (Nat.le_of_ble_eq_true rfl) (by omega) (by omega) ?_
    refine ax_goto 20 dL_sell_9 (by decide) ?_
    refine ax_iconst (v := 0) 21 dL_sell_20 rfl (by decide) ?_
    exact ax_iret dL_sell_21 rfl rfl
  · refine ax_aload_n 0 1 dL_sell_0 rfl rfl rfl ?_
    refine ax_iload_n 1 2 dL_sell_1 rfl rfl rfl ?_
    refine ax_iload_n 2 3 dL_sell_2 rfl rfl rfl ?_
    refine ax_iload_n 3 4 dL_sell_3 rfl rfl rfl ?_
    refine ax_iload 6 dL_sell_4 rfl rfl ?_
    refine ax_inv1X (nc2 := 0) (ns2 := 0) 12 [] ⟨0, 9, 12, 13⟩ [⟨0, 9, 16, 22⟩] dL_sell_6 ml_L_34 rfl hM (by omega) rfl rfl (Nat.le_of_ble_eq_true rfl) (by omega) (by omega) rfl (fun _ z9 hz9 => by cases hz9) rfl (by decide) cl_L_13 ca_IllegalArgumentException rfl (fun q9 => ?_)
    refine ax_astoreR 14 dL_sell_12 rfl (Nat.le_of_ble_eq_true rfl) ?_
    refine ax_iconst (v := 1) 15 dL_sell_14 rfl (by decide) ?_
    exact ax_iret dL_sell_15 rfl (by rfl)
  · refine ax_aload_n 0 1 dL_sell_0 rfl rfl rfl ?_
    refine ax_iload_n 1 2 dL_sell_1 rfl rfl rfl ?_
    refine ax_iload_n 2 3 dL_sell_2 rfl rfl rfl ?_
    refine ax_iload_n 3 4 dL_sell_3 rfl rfl rfl ?_
    refine ax_iload 6 dL_sell_4 rfl rfl ?_
    refine ax_inv1X (nc2 := 0) (ns2 := 0) 16 [⟨0, 9, 12, 13⟩] ⟨0, 9, 16, 22⟩ [] dL_sell_6 ml_L_34 rfl hM (by omega) rfl rfl (Nat.le_of_ble_eq_true rfl) (by omega) (by omega) rfl (fun hG z9 hz9 => by
      rw [List.mem_singleton.mp hz9]
      exact Or.inr ⟨by decide, _, cl_L_13, hG.2.2.2.2.2.2.2.2.1⟩) rfl (by decide) cl_L_22 ca_IllegalStateException rfl (fun q9 => ?_)
    refine ax_astoreR 18 dL_sell_16 rfl (Nat.le_of_ble_eq_true rfl) ?_
    refine ax_iconst (v := 2) 19 dL_sell_18 rfl (by decide) ?_
    exact ax_iret dL_sell_19 rfl (by rfl)
theorem w_place (hd : 10 ≤ d) (a0 a1 a2 : Int32) (z : ax_KO) (hM : ax_Met G M_X3_place (d - 1) 1 6 [.ref 0, .int a0, .int a1, .int a2] (wQ q ++ (wM p l ++ [.inl (2, 1, .inr o)])) (z.1, wQ z.2 ++ (wM p l ++ [.inl (2, 1, .inr o)]))) (hz : (∃ x : Int32, z.1 = .inl (some (.int x))) ∨ z.1 = .inr IAE ∨ z.1 = .inr ISE) : ax_Met G M_L_place d 1 6 [.ref 0, .int a0, .int a1, .int a2, .ref 59] (wQ q ++ (wM p l ++ [.inl (2, 1, .inr o)])) (.inl (some (.int (kO IAE z.1))), wQ z.2 ++ (wM p l ++ [.inl (2, 1, .inr (oO o z.1))])) := by
  obtain ⟨z1, z2⟩ := z
  dsimp only at hM hz ⊢
  refine ax_ofH rfl (by decide) (Nat.le_of_ble_eq_true rfl) ?_
  rcases hz with ⟨x, rfl⟩ | rfl | rfl
  · refine ax_aload 2 dL_place_0 rfl rfl ?_
    refine ax_iconst (v := 0) 3 dL_place_2 rfl (by decide) ?_
    refine ax_aload_n 0 4 dL_place_3 rfl rfl rfl ?_
    refine ax_iload_n 1 5 dL_place_4 rfl rfl rfl ?_
    refine ax_iload_n 2 6 dL_place_5 rfl rfl rfl ?_
    refine ax_iload_n 3 7 dL_place_6 rfl rfl rfl ?_
    refine ax_inv1 (nc2 := 0) (ns2 := 0) 10 dL_place_7 rfl ml_L_38 rfl hM (by omega) rfl rfl (Nat.le_of_ble_eq_true rfl) (by omega) (by omega) ?_
    refine ax_i2l 11 dL_place_10 rfl ?_
    refine ax_lastN (j := 0) 12 dL_place_11 rfl rfl rfl (by decide) (by decide) ?_
    refine ax_goto 23 dL_place_12 (by decide) ?_
    refine ax_iconst (v := 0) 24 dL_place_23 rfl (by decide) ?_
    exact ax_iret dL_place_24 rfl rfl
  · refine ax_aload 2 dL_place_0 rfl rfl ?_
    refine ax_iconst (v := 0) 3 dL_place_2 rfl (by decide) ?_
    refine ax_aload_n 0 4 dL_place_3 rfl rfl rfl ?_
    refine ax_iload_n 1 5 dL_place_4 rfl rfl rfl ?_
    refine ax_iload_n 2 6 dL_place_5 rfl rfl rfl ?_
    refine ax_iload_n 3 7 dL_place_6 rfl rfl rfl ?_
    refine ax_inv1X (nc2 := 0) (ns2 := 0) 15 [] ⟨0, 12, 15, 13⟩ [⟨0, 12, 19, 22⟩] dL_place_7 ml_L_38 rfl hM (by omega) rfl rfl (Nat.le_of_ble_eq_true rfl) (by omega) (by omega) rfl (fun _ z9 hz9 => by cases hz9) rfl (by decide) cl_L_13 ca_IllegalArgumentException rfl (fun q9 => ?_)
    refine ax_astoreR 17 dL_place_15 rfl (Nat.le_of_ble_eq_true rfl) ?_
    refine ax_iconst (v := 1) 18 dL_place_17 rfl (by decide) ?_
    exact ax_iret dL_place_18 rfl (by rfl)
  · refine ax_aload 2 dL_place_0 rfl rfl ?_
    refine ax_iconst (v := 0) 3 dL_place_2 rfl (by decide) ?_
    refine ax_aload_n 0 4 dL_place_3 rfl rfl rfl ?_
    refine ax_iload_n 1 5 dL_place_4 rfl rfl rfl ?_
    refine ax_iload_n 2 6 dL_place_5 rfl rfl rfl ?_
    refine ax_iload_n 3 7 dL_place_6 rfl rfl rfl ?_
    refine ax_inv1X (nc2 := 0) (ns2 := 0) 19 [⟨0, 12, 15, 13⟩] ⟨0, 12, 19, 22⟩ [] dL_place_7 ml_L_38 rfl hM (by omega) rfl rfl (Nat.le_of_ble_eq_true rfl) (by omega) (by omega) rfl (fun hG z9 hz9 => by
      rw [List.mem_singleton.mp hz9]
      exact Or.inr ⟨by decide, _, cl_L_13, hG.2.2.2.2.2.2.2.2.1⟩) rfl (by decide) cl_L_22 ca_IllegalStateException rfl (fun q9 => ?_)
    refine ax_astoreR 21 dL_place_19 rfl (Nat.le_of_ble_eq_true rfl) ?_
    refine ax_iconst (v := 2) 22 dL_place_21 rfl (by decide) ?_
    exact ax_iret dL_place_22 rfl (by rfl)
theorem w_open (hd : 10 ≤ d) (a0 a1 a2 a3 : Int32) (z : ax_KO) (hM : ax_Met G M_X3_open (d - 1) 1 6 [.ref 0, .int a0, .int a1, .int a2, .int a3] (wQ q ++ (wM p l ++ [.inl (2, 1, .inr o)])) (z.1, wQ z.2 ++ (wM p l ++ [.inl (2, 1, .inr o)]))) (hz : (∃ x : Int32, z.1 = .inl (some (.int x))) ∨ z.1 = .inr IAE ∨ z.1 = .inr ISE) : ax_Met G M_L_open d 1 6 [.ref 0, .int a0, .int a1, .int a2, .int a3, .ref 59] (wQ q ++ (wM p l ++ [.inl (2, 1, .inr o)])) (.inl (some (.int (kO IAE z.1))), wQ z.2 ++ (wM p l ++ [.inl (2, 1, .inr (oO o z.1))])) := by
  obtain ⟨z1, z2⟩ := z
  dsimp only at hM hz ⊢
  refine ax_ofH rfl (by decide) (Nat.le_of_ble_eq_true rfl) ?_
  rcases hz with ⟨x, rfl⟩ | rfl | rfl
  · refine ax_aload 2 dL_open_0 rfl rfl ?_
    refine ax_iconst (v := 0) 3 dL_open_2 rfl (by decide) ?_
    refine ax_aload_n 0 4 dL_open_3 rfl rfl rfl ?_
    refine ax_iload_n 1 5 dL_open_4 rfl rfl rfl ?_
    refine ax_iload_n 2 6 dL_open_5 rfl rfl rfl ?_
    refine ax_iload_n 3 7 dL_open_6 rfl rfl rfl ?_
    refine ax_iload 9 dL_open_7 rfl rfl ?_
    refine ax_inv1 (nc2 := 0) (ns2 := 0) 12 dL_open_9 rfl ml_L_41 rfl hM (by omega) rfl rfl (Nat.le_of_ble_eq_true rfl) (by omega) (by omega) ?_
    refine ax_i2l 13 dL_open_12 rfl ?_
    refine ax_lastN (j := 0) 14 dL_open_13 rfl rfl rfl (by decide) (by decide) ?_
    refine ax_goto 25 dL_open_14 (by decide) ?_
    refine ax_iconst (v := 0) 26 dL_open_25 rfl (by decide) ?_
    exact ax_iret dL_open_26 rfl rfl
  · refine ax_aload 2 dL_open_0 rfl rfl ?_
    refine ax_iconst (v := 0) 3 dL_open_2 rfl (by decide) ?_
    refine ax_aload_n 0 4 dL_open_3 rfl rfl rfl ?_
    refine ax_iload_n 1 5 dL_open_4 rfl rfl rfl ?_
    refine ax_iload_n 2 6 dL_open_5 rfl rfl rfl ?_
    refine ax_iload_n 3 7 dL_open_6 rfl rfl rfl ?_
    refine ax_iload 9 dL_open_7 rfl rfl ?_
    refine ax_inv1X (nc2 := 0) (ns2 := 0) 17 [] ⟨0, 14, 17, 13⟩ [⟨0, 14, 21, 22⟩] dL_open_9 ml_L_41 rfl hM (by omega) rfl rfl (Nat.le_of_ble_eq_true rfl) (by omega) (by omega) rfl (fun _ z9 hz9 => by cases hz9) rfl (by decide) cl_L_13 ca_IllegalArgumentException rfl (fun q9 => ?_)
    refine ax_astoreR 19 dL_open_17 rfl (Nat.le_of_ble_eq_true rfl) ?_
    refine ax_iconst (v := 1) 20 dL_open_19 rfl (by decide) ?_
    exact ax_iret dL_open_20 rfl (by rfl)
  · refine ax_aload 2 dL_open_0 rfl rfl ?_
    refine ax_iconst (v := 0) 3 dL_open_2 rfl (by decide) ?_
    refine ax_aload_n 0 4 dL_open_3 rfl rfl rfl ?_
    refine ax_iload_n 1 5 dL_open_4 rfl rfl rfl ?_
    refine ax_iload_n 2 6 dL_open_5 rfl rfl rfl ?_
    refine ax_iload_n 3 7 dL_open_6 rfl rfl rfl ?_
    refine ax_iload 9 dL_open_7 rfl rfl ?_
    refine ax_inv1X (nc2 := 0) (ns2 := 0) 21 [⟨0, 14, 17, 13⟩] ⟨0, 14, 21, 22⟩ [] dL_open_9 ml_L_41 rfl hM (by omega) rfl rfl (Nat.le_of_ble_eq_true rfl) (by omega) (by omega) rfl (fun hG z9 hz9 => by
      rw [List.mem_singleton.mp hz9]
      exact Or.inr ⟨by decide, _, cl_L_13, hG.2.2.2.2.2.2.2.2.1⟩) rfl (by decide) cl_L_22 ca_IllegalStateException rfl (fun q9 => ?_)
    refine ax_astoreR 23 dL_open_21 rfl (Nat.le_of_ble_eq_true rfl) ?_
    refine ax_iconst (v := 2) 24 dL_open_23 rfl (by decide) ?_
    exact ax_iret dL_open_24 rfl (by rfl)
theorem w_end (hd : 10 ≤ d) (z : ax_KO) (hM : ax_Met G M_X3_end (d - 1) 1 6 [.ref 0] (wQ q ++ (wM p l ++ [.inl (2, 1, .inr o)])) (z.1, wQ z.2 ++ (wM p l ++ [.inl (2, 1, .inr o)]))) (hz : (∃ x : Int32, z.1 = .inl (some (.int x))) ∨ z.1 = .inr ISE) : ax_Met G M_L_end d 1 6 [.ref 0, .ref 59] (wQ q ++ (wM p l ++ [.inl (2, 1, .inr o)])) (.inl (some (.int (kO ISE z.1))), wQ z.2 ++ (wM p l ++ [.inl (2, 1, .inr (oO o z.1))])) := by
  obtain ⟨z1, z2⟩ := z
  dsimp only at hM hz ⊢
  refine ax_ofH rfl (by decide) (Nat.le_of_ble_eq_true rfl) ?_
  rcases hz with ⟨x, rfl⟩ | rfl
  · refine ax_aload_n 1 1 dL_end_0 rfl rfl rfl ?_
    refine ax_iconst (v := 0) 2 dL_end_1 rfl (by decide) ?_
    refine ax_aload_n 0 3 dL_end_2 rfl rfl rfl ?_
    refine ax_inv1 (nc2 := 0) (ns2 := 0) 6 dL_end_3 rfl ml_L_45 rfl hM (by omega) rfl rfl (Nat.le_of_ble_eq_true rfl) (by omega) (by omega) ?_
    refine ax_i2l 7 dL_end_6 rfl ?_
    refine ax_lastN (j := 0) 8 dL_end_7 rfl rfl rfl (by decide) (by decide) ?_
    refine ax_goto 14 dL_end_8 (by decide) ?_
    refine ax_iconst (v := 0) 15 dL_end_14 rfl (by decide) ?_
    exact ax_iret dL_end_15 rfl rfl
  · refine ax_aload_n 1 1 dL_end_0 rfl rfl rfl ?_
    refine ax_iconst (v := 0) 2 dL_end_1 rfl (by decide) ?_
    refine ax_aload_n 0 3 dL_end_2 rfl rfl rfl ?_
    refine ax_inv1X (nc2 := 0) (ns2 := 0) 11 [] ⟨0, 8, 11, 22⟩ [] dL_end_3 ml_L_45 rfl hM (by omega) rfl rfl (Nat.le_of_ble_eq_true rfl) (by omega) (by omega) rfl (fun _ z9 hz9 => by cases hz9) rfl (by decide) cl_L_22 ca_IllegalStateException rfl (fun q9 => ?_)
    refine ax_astore_nR 2 12 dL_end_11 rfl rfl (Nat.le_of_ble_eq_true rfl) ?_
    refine ax_iconst (v := 1) 13 dL_end_12 rfl (by decide) ?_
    exact ax_iret dL_end_13 rfl (by rfl)
theorem w_lease (hd : 10 ≤ d) (a0 a1 a2 a3 : Int32) (z : ax_KO) (hM : ax_Met G M_X3_lease (d - 1) 1 6 [.ref 0, .int a0, .int a1, .int a2, .int a3] (wQ q ++ (wM p l ++ [.inl (2, 1, .inr o)])) (z.1, wQ z.2 ++ (wM p l ++ [.inl (2, 1, .inr o)]))) (hz : (∃ x : Int32, z.1 = .inl (some (.int x))) ∨ z.1 = .inr IAE ∨ z.1 = .inr ISE) : ax_Met G M_L_lease d 1 6 [.ref 0, .int a0, .int a1, .int a2, .int a3, .ref 59] (wQ q ++ (wM p l ++ [.inl (2, 1, .inr o)])) (.inl (some (.int (kO IAE z.1))), wQ z.2 ++ (wM p l ++ [.inl (2, 1, .inr (oO o z.1))])) := by
  obtain ⟨z1, z2⟩ := z
  dsimp only at hM hz ⊢
  refine ax_ofH rfl (by decide) (Nat.le_of_ble_eq_true rfl) ?_
  rcases hz with ⟨x, rfl⟩ | rfl | rfl
  · refine ax_aload 2 dL_lease_0 rfl rfl ?_
    refine ax_iconst (v := 0) 3 dL_lease_2 rfl (by decide) ?_
    refine ax_aload_n 0 4 dL_lease_3 rfl rfl rfl ?_
    refine ax_iload_n 1 5 dL_lease_4 rfl rfl rfl ?_
    refine ax_iload_n 2 6 dL_lease_5 rfl rfl rfl ?_
    refine ax_iload_n 3 7 dL_lease_6 rfl rfl rfl ?_
    refine ax_iload 9 dL_lease_7 rfl rfl ?_
    refine ax_inv1 (nc2 := 0) (ns2 := 0) 12 dL_lease_9 rfl ml_L_49 rfl hM (by omega) rfl rfl (Nat.le_of_ble_eq_true rfl) (by omega) (by omega) ?_
    refine ax_i2l 13 dL_lease_12 rfl ?_
    refine ax_lastN (j := 0) 14 dL_lease_13 rfl rfl rfl (by decide) (by decide) ?_
    refine ax_goto 25 dL_lease_14 (by decide) ?_
    refine ax_iconst (v := 0) 26 dL_lease_25 rfl (by decide) ?_
    exact ax_iret dL_lease_26 rfl rfl
  · refine ax_aload 2 dL_lease_0 rfl rfl ?_
    refine ax_iconst (v := 0) 3 dL_lease_2 rfl (by decide) ?_
    refine ax_aload_n 0 4 dL_lease_3 rfl rfl rfl ?_
    refine ax_iload_n 1 5 dL_lease_4 rfl rfl rfl ?_
    refine ax_iload_n 2 6 dL_lease_5 rfl rfl rfl ?_
    refine ax_iload_n 3 7 dL_lease_6 rfl rfl rfl ?_
    refine ax_iload 9 dL_lease_7 rfl rfl ?_
    refine ax_inv1X (nc2 := 0) (ns2 := 0) 17 [] ⟨0, 14, 17, 13⟩ [⟨0, 14, 21, 22⟩] dL_lease_9 ml_L_49 rfl hM (by omega) rfl rfl (Nat.le_of_ble_eq_true rfl) (by omega) (by omega) rfl (fun _ z9 hz9 => by cases hz9) rfl (by decide) cl_L_13 ca_IllegalArgumentException rfl (fun q9 => ?_)
    refine ax_astoreR 19 dL_lease_17 rfl (Nat.le_of_ble_eq_true rfl) ?_
    refine ax_iconst (v := 1) 20 dL_lease_19 rfl (by decide) ?_
    exact ax_iret dL_lease_20 rfl (by rfl)
  · refine ax_aload 2 dL_lease_0 rfl rfl ?_
    refine ax_iconst (v := 0) 3 dL_lease_2 rfl (by decide) ?_
    refine ax_aload_n 0 4 dL_lease_3 rfl rfl rfl ?_
    refine ax_iload_n 1 5 dL_lease_4 rfl rfl rfl ?_
    refine ax_iload_n 2 6 dL_lease_5 rfl rfl rfl ?_
    refine ax_iload_n 3 7 dL_lease_6 rfl rfl rfl ?_
    refine ax_iload 9 dL_lease_7 rfl rfl ?_
    refine ax_inv1X (nc2 := 0) (ns2 := 0) 21 [⟨0, 14, 17, 13⟩] ⟨0, 14, 21, 22⟩ [] dL_lease_9 ml_L_49 rfl hM (by omega) rfl rfl (Nat.le_of_ble_eq_true rfl) (by omega) (by omega) rfl (fun hG z9 hz9 => by
      rw [List.mem_singleton.mp hz9]
      exact Or.inr ⟨by decide, _, cl_L_13, hG.2.2.2.2.2.2.2.2.1⟩) rfl (by decide) cl_L_22 ca_IllegalStateException rfl (fun q9 => ?_)
    refine ax_astoreR 23 dL_lease_21 rfl (Nat.le_of_ble_eq_true rfl) ?_
    refine ax_iconst (v := 2) 24 dL_lease_23 rfl (by decide) ?_
    exact ax_iret dL_lease_24 rfl (by rfl)
theorem w_land (hd : 10 ≤ d) (a0 a1 a2 a3 a4 a5 : Int32) (z : ax_KO) (hM : ax_Met G M_X3_land (d - 1) 1 6 [.ref 0, .int a0, .int a1, .int a2, .int a3, .int a4, .int a5] (wQ q ++ (wM p l ++ [.inl (2, 1, .inr o)])) (z.1, wQ z.2 ++ (wM p l ++ [.inl (2, 1, .inr o)]))) (hz : (∃ x : Int32, z.1 = .inl (some (.int x))) ∨ z.1 = .inr IAE ∨ z.1 = .inr ISE) : ax_Met G M_L_land d 1 6 [.ref 0, .int a0, .int a1, .int a2, .int a3, .int a4, .int a5, .ref 59] (wQ q ++ (wM p l ++ [.inl (2, 1, .inr o)])) (.inl (some (.int (kO IAE z.1))), wQ z.2 ++ (wM p l ++ [.inl (2, 1, .inr (oO o z.1))])) := by
  obtain ⟨z1, z2⟩ := z
  dsimp only at hM hz ⊢
  refine ax_ofH rfl (by decide) (Nat.le_of_ble_eq_true rfl) ?_
  rcases hz with ⟨x, rfl⟩ | rfl | rfl
  · refine ax_aload 2 dL_land_0 rfl rfl ?_
    refine ax_iconst (v := 0) 3 dL_land_2 rfl (by decide) ?_
    refine ax_aload_n 0 4 dL_land_3 rfl rfl rfl ?_
    refine ax_iload_n 1 5 dL_land_4 rfl rfl rfl ?_
    refine ax_iload_n 2 6 dL_land_5 rfl rfl rfl ?_
    refine ax_iload_n 3 7 dL_land_6 rfl rfl rfl ?_
    refine ax_iload 9 dL_land_7 rfl rfl ?_
    refine ax_iload 11 dL_land_9 rfl rfl ?_
    refine ax_iload 13 dL_land_11 rfl rfl ?_
    refine ax_inv1 (nc2 := 0) (ns2 := 0) 16 dL_land_13 rfl ml_L_52 rfl hM (by omega) rfl rfl (Nat.le_of_ble_eq_true rfl) (by omega) (by omega) ?_
    refine ax_i2l 17 dL_land_16 rfl ?_
    refine ax_lastN (j := 0) 18 dL_land_17 rfl rfl rfl (by decide) (by decide) ?_
    refine ax_goto 29 dL_land_18 (by decide) ?_
    refine ax_iconst (v := 0) 30 dL_land_29 rfl (by decide) ?_
    exact ax_iret dL_land_30 rfl rfl
  · refine ax_aload 2 dL_land_0 rfl rfl ?_
    refine ax_iconst (v := 0) 3 dL_land_2 rfl (by decide) ?_
    refine ax_aload_n 0 4 dL_land_3 rfl rfl rfl ?_
    refine ax_iload_n 1 5 dL_land_4 rfl rfl rfl ?_
    refine ax_iload_n 2 6 dL_land_5 rfl rfl rfl ?_
    refine ax_iload_n 3 7 dL_land_6 rfl rfl rfl ?_
    refine ax_iload 9 dL_land_7 rfl rfl ?_
    refine ax_iload 11 dL_land_9 rfl rfl ?_
    refine ax_iload 13 dL_land_11 rfl rfl ?_
    refine ax_inv1X (nc2 := 0) (ns2 := 0) 21 [] ⟨0, 18, 21, 13⟩ [⟨0, 18, 25, 22⟩] dL_land_13 ml_L_52 rfl hM (by omega) rfl rfl (Nat.le_of_ble_eq_true rfl) (by omega) (by omega) rfl (fun _ z9 hz9 => by cases hz9) rfl (by decide) cl_L_13 ca_IllegalArgumentException rfl (fun q9 => ?_)
    refine ax_astoreR 23 dL_land_21 rfl (Nat.le_of_ble_eq_true rfl) ?_
    refine ax_iconst (v := 1) 24 dL_land_23 rfl (by decide) ?_
    exact ax_iret dL_land_24 rfl (by rfl)
  · refine ax_aload 2 dL_land_0 rfl rfl ?_
    refine ax_iconst (v := 0) 3 dL_land_2 rfl (by decide) ?_
    refine ax_aload_n 0 4 dL_land_3 rfl rfl rfl ?_
    refine ax_iload_n 1 5 dL_land_4 rfl rfl rfl ?_
    refine ax_iload_n 2 6 dL_land_5 rfl rfl rfl ?_
    refine ax_iload_n 3 7 dL_land_6 rfl rfl rfl ?_
    refine ax_iload 9 dL_land_7 rfl rfl ?_
    refine ax_iload 11 dL_land_9 rfl rfl ?_
    refine ax_iload 13 dL_land_11 rfl rfl ?_
    refine ax_inv1X (nc2 := 0) (ns2 := 0) 25 [⟨0, 18, 21, 13⟩] ⟨0, 18, 25, 22⟩ [] dL_land_13 ml_L_52 rfl hM (by omega) rfl rfl (Nat.le_of_ble_eq_true rfl) (by omega) (by omega) rfl (fun hG z9 hz9 => by
      rw [List.mem_singleton.mp hz9]
      exact Or.inr ⟨by decide, _, cl_L_13, hG.2.2.2.2.2.2.2.2.1⟩) rfl (by decide) cl_L_22 ca_IllegalStateException rfl (fun q9 => ?_)
    refine ax_astoreR 27 dL_land_25 rfl (Nat.le_of_ble_eq_true rfl) ?_
    refine ax_iconst (v := 2) 28 dL_land_27 rfl (by decide) ?_
    exact ax_iret dL_land_28 rfl (by rfl)
theorem w_equivalent (hd : 10 ≤ d) (a0 a1 a2 a3 : Int32) (z : ax_KO) (hM : ax_Met G M_X3_equivalent (d - 1) 1 6 [.ref 0, .int a0, .int a1, .int a2, .int a3] (wQ q ++ (wM p l ++ [.inl (2, 1, .inr o)])) (z.1, wQ z.2 ++ (wM p l ++ [.inl (2, 1, .inr o)]))) (hz : (∃ x : Int32, z.1 = .inl (some (.int x))) ∨ z.1 = .inr IAE ∨ z.1 = .inr ISE) : ax_Met G M_L_equivalent d 1 6 [.ref 0, .int a0, .int a1, .int a2, .int a3, .ref 59] (wQ q ++ (wM p l ++ [.inl (2, 1, .inr o)])) (.inl (some (.int (kO IAE z.1))), wQ z.2 ++ (wM p l ++ [.inl (2, 1, .inr (oO o z.1))])) := by
  obtain ⟨z1, z2⟩ := z
  dsimp only at hM hz ⊢
  refine ax_ofH rfl (by decide) (Nat.le_of_ble_eq_true rfl) ?_
  rcases hz with ⟨x, rfl⟩ | rfl | rfl
  · refine ax_aload 2 dL_equivalent_0 rfl rfl ?_
    refine ax_iconst (v := 0) 3 dL_equivalent_2 rfl (by decide) ?_
    refine ax_aload_n 0 4 dL_equivalent_3 rfl rfl rfl ?_
    refine ax_iload_n 1 5 dL_equivalent_4 rfl rfl rfl ?_
    refine ax_iload_n 2 6 dL_equivalent_5 rfl rfl rfl ?_
    refine ax_iload_n 3 7 dL_equivalent_6 rfl rfl rfl ?_
    refine ax_iload 9 dL_equivalent_7 rfl rfl ?_
    refine ax_inv1 (nc2 := 0) (ns2 := 0) 12 dL_equivalent_9 rfl ml_L_56 rfl hM (by omega) rfl rfl (Nat.le_of_ble_eq_true rfl) (by omega) (by omega) ?_
    refine ax_i2l 13 dL_equivalent_12 rfl ?_
    refine ax_lastN (j := 0) 14 dL_equivalent_13 rfl rfl rfl (by decide) (by decide) ?_
    refine ax_goto 25 dL_equivalent_14 (by decide) ?_
    refine ax_iconst (v := 0) 26 dL_equivalent_25 rfl (by decide) ?_
    exact ax_iret dL_equivalent_26 rfl rfl
  · refine ax_aload 2 dL_equivalent_0 rfl rfl ?_
    refine ax_iconst (v := 0) 3 dL_equivalent_2 rfl (by decide) ?_
    refine ax_aload_n 0 4 dL_equivalent_3 rfl rfl rfl ?_
    refine ax_iload_n 1 5 dL_equivalent_4 rfl rfl rfl ?_
    refine ax_iload_n 2 6 dL_equivalent_5 rfl rfl rfl ?_
    refine ax_iload_n 3 7 dL_equivalent_6 rfl rfl rfl ?_
    refine ax_iload 9 dL_equivalent_7 rfl rfl ?_
    refine ax_inv1X (nc2 := 0) (ns2 := 0) 17 [] ⟨0, 14, 17, 13⟩ [⟨0, 14, 21, 22⟩] dL_equivalent_9 ml_L_56 rfl hM (by omega) rfl rfl (Nat.le_of_ble_eq_true rfl) (by omega) (by omega) rfl (fun _ z9 hz9 => by cases hz9) rfl (by decide) cl_L_13 ca_IllegalArgumentException rfl (fun q9 => ?_)
    refine ax_astoreR 19 dL_equivalent_17 rfl (Nat.le_of_ble_eq_true rfl) ?_
    refine ax_iconst (v := 1) 20 dL_equivalent_19 rfl (by decide) ?_
    exact ax_iret dL_equivalent_20 rfl (by rfl)
  · refine ax_aload 2 dL_equivalent_0 rfl rfl ?_
    refine ax_iconst (v := 0) 3 dL_equivalent_2 rfl (by decide) ?_
    refine ax_aload_n 0 4 dL_equivalent_3 rfl rfl rfl ?_
    refine ax_iload_n 1 5 dL_equivalent_4 rfl rfl rfl ?_
    refine ax_iload_n 2 6 dL_equivalent_5 rfl rfl rfl ?_
    refine ax_iload_n 3 7 dL_equivalent_6 rfl rfl rfl ?_
    refine ax_iload 9 dL_equivalent_7 rfl rfl ?_
    refine ax_inv1X (nc2 := 0) (ns2 := 0) 21 [⟨0, 14, 17, 13⟩] ⟨0, 14, 21, 22⟩ [] dL_equivalent_9 ml_L_56 rfl hM (by omega) rfl rfl (Nat.le_of_ble_eq_true rfl) (by omega) (by omega) rfl (fun hG z9 hz9 => by
      rw [List.mem_singleton.mp hz9]
      exact Or.inr ⟨by decide, _, cl_L_13, hG.2.2.2.2.2.2.2.2.1⟩) rfl (by decide) cl_L_22 ca_IllegalStateException rfl (fun q9 => ?_)
    refine ax_astoreR 23 dL_equivalent_21 rfl (Nat.le_of_ble_eq_true rfl) ?_
    refine ax_iconst (v := 2) 24 dL_equivalent_23 rfl (by decide) ?_
    exact ax_iret dL_equivalent_24 rfl (by rfl)
theorem w_strike (hd : 10 ≤ d) (a0 : Int32) (z : ax_KO) (hM : ax_Met G M_X3_strike (d - 1) 1 6 [.ref 0, .int a0] (wQ q ++ (wM p l ++ [.inl (2, 1, .inr o)])) (z.1, wQ z.2 ++ (wM p l ++ [.inl (2, 1, .inr o)]))) (hz : z.1 = .inl none ∨ z.1 = .inr IOE ∨ z.1 = .inr ISE) : ax_Met G M_L_strike d 1 6 [.ref 0, .int a0] (wQ q ++ (wM p l ++ [.inl (2, 1, .inr o)])) (.inl (some (.int (kO IOE z.1))), wQ z.2 ++ (wM p l ++ [.inl (2, 1, .inr (oO o z.1))])) := by
  obtain ⟨z1, z2⟩ := z
  dsimp only at hM hz ⊢
  refine ax_ofH rfl (by decide) (Nat.le_of_ble_eq_true rfl) ?_
  rcases hz with rfl | rfl | rfl
  · refine ax_aload_n 0 1 dL_strike_0 rfl rfl rfl ?_
    refine ax_iload_n 1 2 dL_strike_1 rfl rfl rfl ?_
    refine ax_inv1 (nc2 := 0) (ns2 := 0) 5 dL_strike_2 rfl ml_L_59 rfl hM (by omega) rfl rfl (Nat.le_of_ble_eq_true rfl) (by omega) (by omega) ?_
    refine ax_goto 14 dL_strike_5 (by decide) ?_
    refine ax_iconst (v := 0) 15 dL_strike_14 rfl (by decide) ?_
    exact ax_iret dL_strike_15 rfl rfl
  · refine ax_aload_n 0 1 dL_strike_0 rfl rfl rfl ?_
    refine ax_iload_n 1 2 dL_strike_1 rfl rfl rfl ?_
    refine ax_inv1X (nc2 := 0) (ns2 := 0) 8 [] ⟨0, 5, 8, 63⟩ [⟨0, 5, 11, 22⟩] dL_strike_2 ml_L_59 rfl hM (by omega) rfl rfl (Nat.le_of_ble_eq_true rfl) (by omega) (by omega) rfl (fun _ z9 hz9 => by cases hz9) rfl (by decide) cl_L_63 ca_IndexOutOfBoundsException rfl (fun q9 => ?_)
    refine ax_astore_nR 2 9 dL_strike_8 rfl rfl (Nat.le_of_ble_eq_true rfl) ?_
    refine ax_iconst (v := 1) 10 dL_strike_9 rfl (by decide) ?_
    exact ax_iret dL_strike_10 rfl (by rfl)
  · refine ax_aload_n 0 1 dL_strike_0 rfl rfl rfl ?_
    refine ax_iload_n 1 2 dL_strike_1 rfl rfl rfl ?_
    refine ax_inv1X (nc2 := 0) (ns2 := 0) 11 [⟨0, 5, 8, 63⟩] ⟨0, 5, 11, 22⟩ [] dL_strike_2 ml_L_59 rfl hM (by omega) rfl rfl (Nat.le_of_ble_eq_true rfl) (by omega) (by omega) rfl (fun hG z9 hz9 => by
      rw [List.mem_singleton.mp hz9]
      exact Or.inr ⟨by decide, _, cl_L_63, hG.2.2.2.2.2.2.2.2.2.1⟩) rfl (by decide) cl_L_22 ca_IllegalStateException rfl (fun q9 => ?_)
    refine ax_astore_nR 2 12 dL_strike_11 rfl rfl (Nat.le_of_ble_eq_true rfl) ?_
    refine ax_iconst (v := 2) 13 dL_strike_12 rfl (by decide) ?_
    exact ax_iret dL_strike_13 rfl (by rfl)
theorem w_reopen (hd : 10 ≤ d) (a0 : Int32) (z : ax_KO) (hM : ax_Met G M_X3_reopen (d - 1) 1 6 [.ref 0, .int a0] (wQ q ++ (wM p l ++ [.inl (2, 1, .inr o)])) (z.1, wQ z.2 ++ (wM p l ++ [.inl (2, 1, .inr o)]))) (hz : z.1 = .inl none ∨ z.1 = .inr IAE ∨ z.1 = .inr ISE) : ax_Met G M_L_reopen d 1 6 [.ref 0, .int a0] (wQ q ++ (wM p l ++ [.inl (2, 1, .inr o)])) (.inl (some (.int (kO IAE z.1))), wQ z.2 ++ (wM p l ++ [.inl (2, 1, .inr (oO o z.1))])) := by
  obtain ⟨z1, z2⟩ := z
  dsimp only at hM hz ⊢
  refine ax_ofH rfl (by decide) (Nat.le_of_ble_eq_true rfl) ?_
  rcases hz with rfl | rfl | rfl
  · refine ax_aload_n 0 1 dL_reopen_0 rfl rfl rfl ?_
    refine ax_iload_n 1 2 dL_reopen_1 rfl rfl rfl ?_
    refine ax_inv1 (nc2 := 0) (ns2 := 0) 5 dL_reopen_2 rfl ml_L_65 rfl hM (by omega) rfl rfl (Nat.le_of_ble_eq_true rfl) (by omega) (by omega) ?_
    refine ax_goto 14 dL_reopen_5 (by decide) ?_
    refine ax_iconst (v := 0) 15 dL_reopen_14 rfl (by decide) ?_
    exact ax_iret dL_reopen_15 rfl rfl
  · refine ax_aload_n 0 1 dL_reopen_0 rfl rfl rfl ?_
    refine ax_iload_n 1 2 dL_reopen_1 rfl rfl rfl ?_
    refine ax_inv1X (nc2 := 0) (ns2 := 0) 8 [] ⟨0, 5, 8, 13⟩ [⟨0, 5, 11, 22⟩] dL_reopen_2 ml_L_65 rfl hM (by omega) rfl rfl (Nat.le_of_ble_eq_true rfl) (by omega) (by omega) rfl (fun _ z9 hz9 => by cases hz9) rfl (by decide) cl_L_13 ca_IllegalArgumentException rfl (fun q9 => ?_)
    refine ax_astore_nR 2 9 dL_reopen_8 rfl rfl (Nat.le_of_ble_eq_true rfl) ?_
    refine ax_iconst (v := 1) 10 dL_reopen_9 rfl (by decide) ?_
    exact ax_iret dL_reopen_10 rfl (by rfl)
  · refine ax_aload_n 0 1 dL_reopen_0 rfl rfl rfl ?_
    refine ax_iload_n 1 2 dL_reopen_1 rfl rfl rfl ?_
    refine ax_inv1X (nc2 := 0) (ns2 := 0) 11 [⟨0, 5, 8, 13⟩] ⟨0, 5, 11, 22⟩ [] dL_reopen_2 ml_L_65 rfl hM (by omega) rfl rfl (Nat.le_of_ble_eq_true rfl) (by omega) (by omega) rfl (fun hG z9 hz9 => by
      rw [List.mem_singleton.mp hz9]
      exact Or.inr ⟨by decide, _, cl_L_13, hG.2.2.2.2.2.2.2.2.1⟩) rfl (by decide) cl_L_22 ca_IllegalStateException rfl (fun q9 => ?_)
    refine ax_astore_nR 2 12 dL_reopen_11 rfl rfl (Nat.le_of_ble_eq_true rfl) ?_
    refine ax_iconst (v := 2) 13 dL_reopen_12 rfl (by decide) ?_
    exact ax_iret dL_reopen_13 rfl (by rfl)
theorem w_account (hd : 10 ≤ d) (a0 a1 a2 a3 : Int32) (z : ax_KO) (hM : ax_Met G M_X3_account (d - 1) 1 6 [.ref 0, .int a0, .int a1, .int a2, .int a3] (wQ q ++ (wM p l ++ [.inl (2, 1, .inr o)])) (z.1, wQ z.2 ++ (wM p l ++ [.inl (2, 1, .inr o)]))) (hz : (∃ x : Int32, z.1 = .inl (some (.int x))) ∨ z.1 = .inr IAE) : ax_Met G M_L_account d 1 6 [.ref 0, .int a0, .int a1, .int a2, .int a3, .ref 59] (wQ q ++ (wM p l ++ [.inl (2, 1, .inr o)])) (.inl (some (.int (kO IAE z.1))), wQ z.2 ++ (wM p l ++ [.inl (2, 1, .inr (oO o z.1))])) := by
  obtain ⟨z1, z2⟩ := z
  dsimp only at hM hz ⊢
  refine ax_ofH rfl (by decide) (Nat.le_of_ble_eq_true rfl) ?_
  rcases hz with ⟨x, rfl⟩ | rfl
  · refine ax_aload 2 dL_account_0 rfl rfl ?_
    refine ax_iconst (v := 0) 3 dL_account_2 rfl (by decide) ?_
    refine ax_aload_n 0 4 dL_account_3 rfl rfl rfl ?_
    refine ax_iload_n 1 5 dL_account_4 rfl rfl rfl ?_
    refine ax_iload_n 2 6 dL_account_5 rfl rfl rfl ?_
    refine ax_iload_n 3 7 dL_account_6 rfl rfl rfl ?_
    refine ax_iload 9 dL_account_7 rfl rfl ?_
    refine ax_inv1 (nc2 := 0) (ns2 := 0) 12 dL_account_9 rfl ml_L_68 rfl hM (by omega) rfl rfl (Nat.le_of_ble_eq_true rfl) (by omega) (by omega) ?_
    refine ax_i2l 13 dL_account_12 rfl ?_
    refine ax_lastN (j := 0) 14 dL_account_13 rfl rfl rfl (by decide) (by decide) ?_
    refine ax_goto 21 dL_account_14 (by decide) ?_
    refine ax_iconst (v := 0) 22 dL_account_21 rfl (by decide) ?_
    exact ax_iret dL_account_22 rfl rfl
  · refine ax_aload 2 dL_account_0 rfl rfl ?_
    refine ax_iconst (v := 0) 3 dL_account_2 rfl (by decide) ?_
    refine ax_aload_n 0 4 dL_account_3 rfl rfl rfl ?_
    refine ax_iload_n 1 5 dL_account_4 rfl rfl rfl ?_
    refine ax_iload_n 2 6 dL_account_5 rfl rfl rfl ?_
    refine ax_iload_n 3 7 dL_account_6 rfl rfl rfl ?_
    refine ax_iload 9 dL_account_7 rfl rfl ?_
    refine ax_inv1X (nc2 := 0) (ns2 := 0) 17 [] ⟨0, 14, 17, 13⟩ [] dL_account_9 ml_L_68 rfl hM (by omega) rfl rfl (Nat.le_of_ble_eq_true rfl) (by omega) (by omega) rfl (fun _ z9 hz9 => by cases hz9) rfl (by decide) cl_L_13 ca_IllegalArgumentException rfl (fun q9 => ?_)
    refine ax_astoreR 19 dL_account_17 rfl (Nat.le_of_ble_eq_true rfl) ?_
    refine ax_iconst (v := 1) 20 dL_account_19 rfl (by decide) ?_
    exact ax_iret dL_account_20 rfl (by rfl)
theorem w_levy (hd : 10 ≤ d) (a0 a1 : Int32) (z : ax_KO) (hM : ax_Met G M_X3_levy (d - 1) 1 6 [.ref 0, .int a0, .int a1] (wQ q ++ (wM p l ++ [.inl (2, 1, .inr o)])) (z.1, wQ z.2 ++ (wM p l ++ [.inl (2, 1, .inr o)]))) (hz : (∃ x : Int64, z.1 = .inl (some (.long x))) ∨ z.1 = .inr IAE) : ax_Met G M_L_levy d 1 6 [.ref 0, .int a0, .int a1, .ref 59] (wQ q ++ (wM p l ++ [.inl (2, 1, .inr o)])) (.inl (some (.int (kO IAE z.1))), wQ z.2 ++ (wM p l ++ [.inl (2, 1, .inr (oO o z.1))])) := by
  obtain ⟨z1, z2⟩ := z
  dsimp only at hM hz ⊢
  refine ax_ofH rfl (by decide) (Nat.le_of_ble_eq_true rfl) ?_
  rcases hz with ⟨x, rfl⟩ | rfl
  · refine ax_aload_n 3 1 dL_levy_0 rfl rfl rfl ?_
    refine ax_iconst (v := 0) 2 dL_levy_1 rfl (by decide) ?_
    refine ax_aload_n 0 3 dL_levy_2 rfl rfl rfl ?_
    refine ax_iload_n 1 4 dL_levy_3 rfl rfl rfl ?_
    refine ax_iload_n 2 5 dL_levy_4 rfl rfl rfl ?_
    refine ax_inv1 (nc2 := 0) (ns2 := 0) 8 dL_levy_5 rfl ml_L_71 rfl hM (by omega) rfl rfl (Nat.le_of_ble_eq_true rfl) (by omega) (by omega) ?_
    refine ax_lastN (j := 0) 9 dL_levy_8 rfl rfl rfl (by decide) (by decide) ?_
    refine ax_goto 16 dL_levy_9 (by decide) ?_
    refine ax_iconst (v := 0) 17 dL_levy_16 rfl (by decide) ?_
    exact ax_iret dL_levy_17 rfl rfl
  · refine ax_aload_n 3 1 dL_levy_0 rfl rfl rfl ?_
    refine ax_iconst (v := 0) 2 dL_levy_1 rfl (by decide) ?_
    refine ax_aload_n 0 3 dL_levy_2 rfl rfl rfl ?_
    refine ax_iload_n 1 4 dL_levy_3 rfl rfl rfl ?_
    refine ax_iload_n 2 5 dL_levy_4 rfl rfl rfl ?_
    refine ax_inv1X (nc2 := 0) (ns2 := 0) 12 [] ⟨0, 9, 12, 13⟩ [] dL_levy_5 ml_L_71 rfl hM (by omega) rfl rfl (Nat.le_of_ble_eq_true rfl) (by omega) (by omega) rfl (fun _ z9 hz9 => by cases hz9) rfl (by decide) cl_L_13 ca_IllegalArgumentException rfl (fun q9 => ?_)
    refine ax_astoreR 14 dL_levy_12 rfl (Nat.le_of_ble_eq_true rfl) ?_
    refine ax_iconst (v := 1) 15 dL_levy_14 rfl (by decide) ?_
    exact ax_iret dL_levy_15 rfl (by rfl)
theorem w_held (hd : 10 ≤ d) (a0 a1 a2 : Int32) (z : ax_KO) (hM : ax_Met G M_X3_held (d - 1) 1 6 [.ref 0, .int a0, .int a1, .int a2] (wQ q ++ (wM p l ++ [.inl (2, 1, .inr o)])) (z.1, wQ z.2 ++ (wM p l ++ [.inl (2, 1, .inr o)]))) (hz : (∃ x : Int32, z.1 = .inl (some (.int x))) ∨ z.1 = .inr IAE) : ax_Met G M_L_held d 1 6 [.ref 0, .int a0, .int a1, .int a2, .ref 59] (wQ q ++ (wM p l ++ [.inl (2, 1, .inr o)])) (.inl (some (.int (kO IAE z.1))), wQ z.2 ++ (wM p l ++ [.inl (2, 1, .inr (oO o z.1))])) := by
  obtain ⟨z1, z2⟩ := z
  dsimp only at hM hz ⊢
  refine ax_ofH rfl (by decide) (Nat.le_of_ble_eq_true rfl) ?_
  rcases hz with ⟨x, rfl⟩ | rfl
  · refine ax_aload 2 dL_held_0 rfl rfl ?_
    refine ax_iconst (v := 0) 3 dL_held_2 rfl (by decide) ?_
    refine ax_aload_n 0 4 dL_held_3 rfl rfl rfl ?_
    refine ax_iload_n 1 5 dL_held_4 rfl rfl rfl ?_
    refine ax_iload_n 2 6 dL_held_5 rfl rfl rfl ?_
    refine ax_iload_n 3 7 dL_held_6 rfl rfl rfl ?_
    refine ax_inv1 (nc2 := 0) (ns2 := 0) 10 dL_held_7 rfl ml_L_75 rfl hM (by omega) rfl rfl (Nat.le_of_ble_eq_true rfl) (by omega) (by omega) ?_
    refine ax_i2l 11 dL_held_10 rfl ?_
    refine ax_lastN (j := 0) 12 dL_held_11 rfl rfl rfl (by decide) (by decide) ?_
    refine ax_goto 19 dL_held_12 (by decide) ?_
    refine ax_iconst (v := 0) 20 dL_held_19 rfl (by decide) ?_
    exact ax_iret dL_held_20 rfl rfl
  · refine ax_aload 2 dL_held_0 rfl rfl ?_
    refine ax_iconst (v := 0) 3 dL_held_2 rfl (by decide) ?_
    refine ax_aload_n 0 4 dL_held_3 rfl rfl rfl ?_
    refine ax_iload_n 1 5 dL_held_4 rfl rfl rfl ?_
    refine ax_iload_n 2 6 dL_held_5 rfl rfl rfl ?_
    refine ax_iload_n 3 7 dL_held_6 rfl rfl rfl ?_
    refine ax_inv1X (nc2 := 0) (ns2 := 0) 15 [] ⟨0, 12, 15, 13⟩ [] dL_held_7 ml_L_75 rfl hM (by omega) rfl rfl (Nat.le_of_ble_eq_true rfl) (by omega) (by omega) rfl (fun _ z9 hz9 => by cases hz9) rfl (by decide) cl_L_13 ca_IllegalArgumentException rfl (fun q9 => ?_)
    refine ax_astoreR 17 dL_held_15 rfl (Nat.le_of_ble_eq_true rfl) ?_
    refine ax_iconst (v := 1) 18 dL_held_17 rfl (by decide) ?_
    exact ax_iret dL_held_18 rfl (by rfl)
theorem w_event (hd : 10 ≤ d) (a0 a1 : Int32) (z : ax_KO) (hM : ax_Met G M_X3_event (d - 1) 1 6 [.ref 0, .int a0, .int a1] (wQ q ++ (wM p l ++ [.inl (2, 1, .inr o)])) (z.1, wQ z.2 ++ (wM p l ++ [.inl (2, 1, .inr o)]))) (hz : (∃ x : Int32, z.1 = .inl (some (.int x))) ∨ z.1 = .inr IOE ∨ z.1 = .inr IAE) : ax_Met G M_L_event d 1 6 [.ref 0, .int a0, .int a1, .ref 59] (wQ q ++ (wM p l ++ [.inl (2, 1, .inr o)])) (.inl (some (.int (kO IOE z.1))), wQ z.2 ++ (wM p l ++ [.inl (2, 1, .inr (oO o z.1))])) := by
  obtain ⟨z1, z2⟩ := z
  dsimp only at hM hz ⊢
  refine ax_ofH rfl (by decide) (Nat.le_of_ble_eq_true rfl) ?_
  rcases hz with ⟨x, rfl⟩ | rfl | rfl
  · refine ax_aload_n 3 1 dL_event_0 rfl rfl rfl ?_
    refine ax_iconst (v := 0) 2 dL_event_1 rfl (by decide) ?_
    refine ax_aload_n 0 3 dL_event_2 rfl rfl rfl ?_
    refine ax_iload_n 1 4 dL_event_3 rfl rfl rfl ?_
    refine ax_iload_n 2 5 dL_event_4 rfl rfl rfl ?_
    refine ax_inv1 (nc2 := 0) (ns2 := 0) 8 dL_event_5 rfl ml_L_78 rfl hM (by omega) rfl rfl (Nat.le_of_ble_eq_true rfl) (by omega) (by omega) ?_
    refine ax_i2l 9 dL_event_8 rfl ?_
    refine ax_lastN (j := 0) 10 dL_event_9 rfl rfl rfl (by decide) (by decide) ?_
    refine ax_goto 21 dL_event_10 (by decide) ?_
    refine ax_iconst (v := 0) 22 dL_event_21 rfl (by decide) ?_
    exact ax_iret dL_event_22 rfl rfl
  · refine ax_aload_n 3 1 dL_event_0 rfl rfl rfl ?_
    refine ax_iconst (v := 0) 2 dL_event_1 rfl (by decide) ?_
    refine ax_aload_n 0 3 dL_event_2 rfl rfl rfl ?_
    refine ax_iload_n 1 4 dL_event_3 rfl rfl rfl ?_
    refine ax_iload_n 2 5 dL_event_4 rfl rfl rfl ?_
    refine ax_inv1X (nc2 := 0) (ns2 := 0) 13 [] ⟨0, 10, 13, 63⟩ [⟨0, 10, 17, 13⟩] dL_event_5 ml_L_78 rfl hM (by omega) rfl rfl (Nat.le_of_ble_eq_true rfl) (by omega) (by omega) rfl (fun _ z9 hz9 => by cases hz9) rfl (by decide) cl_L_63 ca_IndexOutOfBoundsException rfl (fun q9 => ?_)
    refine ax_astoreR 15 dL_event_13 rfl (Nat.le_of_ble_eq_true rfl) ?_
    refine ax_iconst (v := 1) 16 dL_event_15 rfl (by decide) ?_
    exact ax_iret dL_event_16 rfl (by rfl)
  · refine ax_aload_n 3 1 dL_event_0 rfl rfl rfl ?_
    refine ax_iconst (v := 0) 2 dL_event_1 rfl (by decide) ?_
    refine ax_aload_n 0 3 dL_event_2 rfl rfl rfl ?_
    refine ax_iload_n 1 4 dL_event_3 rfl rfl rfl ?_
    refine ax_iload_n 2 5 dL_event_4 rfl rfl rfl ?_
    refine ax_inv1X (nc2 := 0) (ns2 := 0) 17 [⟨0, 10, 13, 63⟩] ⟨0, 10, 17, 13⟩ [] dL_event_5 ml_L_78 rfl hM (by omega) rfl rfl (Nat.le_of_ble_eq_true rfl) (by omega) (by omega) rfl (fun hG z9 hz9 => by
      rw [List.mem_singleton.mp hz9]
      exact Or.inr ⟨by decide, _, cl_L_63, hG.2.2.2.2.2.2.2.2.2.2⟩) rfl (by decide) cl_L_13 ca_IllegalArgumentException rfl (fun q9 => ?_)
    refine ax_astoreR 19 dL_event_17 rfl (Nat.le_of_ble_eq_true rfl) ?_
    refine ax_iconst (v := 2) 20 dL_event_19 rfl (by decide) ?_
    exact ax_iret dL_event_20 rfl (by rfl)
theorem w_about (hd : 10 ≤ d) (a0 : Int32) (z : ax_KO) (hM : ax_Met G M_X3_about (d - 1) 1 6 [.ref 0, .int a0] (wQ q ++ (wM p l ++ [.inl (2, 1, .inr o)])) (z.1, wQ z.2 ++ (wM p l ++ [.inl (2, 1, .inr o)]))) (hz : (∃ x : Int32, z.1 = .inl (some (.int x))) ∨ z.1 = .inr IAE) : ax_Met G M_L_about d 1 6 [.ref 0, .int a0, .ref 59] (wQ q ++ (wM p l ++ [.inl (2, 1, .inr o)])) (.inl (some (.int (kO IAE z.1))), wQ z.2 ++ (wM p l ++ [.inl (2, 1, .inr (oO o z.1))])) := by
  obtain ⟨z1, z2⟩ := z
  dsimp only at hM hz ⊢
  refine ax_ofH rfl (by decide) (Nat.le_of_ble_eq_true rfl) ?_
  rcases hz with ⟨x, rfl⟩ | rfl
  · refine ax_aload_n 2 1 dL_about_0 rfl rfl rfl ?_
    refine ax_iconst (v := 0) 2 dL_about_1 rfl (by decide) ?_
    refine ax_aload_n 0 3 dL_about_2 rfl rfl rfl ?_
    refine ax_iload_n 1 4 dL_about_3 rfl rfl rfl ?_
    refine ax_inv1 (nc2 := 0) (ns2 := 0) 7 dL_about_4 rfl ml_L_82 rfl hM (by omega) rfl rfl (Nat.le_of_ble_eq_true rfl) (by omega) (by omega) ?_
    refine ax_i2l 8 dL_about_7 rfl ?_
    refine ax_lastN (j := 0) 9 dL_about_8 rfl rfl rfl (by decide) (by decide) ?_
    refine ax_goto 15 dL_about_9 (by decide) ?_
    refine ax_iconst (v := 0) 16 dL_about_15 rfl (by decide) ?_
    exact ax_iret dL_about_16 rfl rfl
  · refine ax_aload_n 2 1 dL_about_0 rfl rfl rfl ?_
    refine ax_iconst (v := 0) 2 dL_about_1 rfl (by decide) ?_
    refine ax_aload_n 0 3 dL_about_2 rfl rfl rfl ?_
    refine ax_iload_n 1 4 dL_about_3 rfl rfl rfl ?_
    refine ax_inv1X (nc2 := 0) (ns2 := 0) 12 [] ⟨0, 9, 12, 13⟩ [] dL_about_4 ml_L_82 rfl hM (by omega) rfl rfl (Nat.le_of_ble_eq_true rfl) (by omega) (by omega) rfl (fun _ z9 hz9 => by cases hz9) rfl (by decide) cl_L_13 ca_IllegalArgumentException rfl (fun q9 => ?_)
    refine ax_astore_nR 3 13 dL_about_12 rfl rfl (Nat.le_of_ble_eq_true rfl) ?_
    refine ax_iconst (v := 1) 14 dL_about_13 rfl (by decide) ?_
    exact ax_iret dL_about_14 rfl (by rfl)
end WRAP
