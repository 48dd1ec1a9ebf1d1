section LEAF
variable {G : ax_G} {d : Nat} {q : Nat → Nat → Int32} {r : ax_W}
theorem s_isWithin {w : ax_W} (x a b : Int32) : ax_Met G M_X3_isWithin d 0 0 [.int x, .int a, .int b] w (.inl (some (.int (bI (isW x a b)))), w) := by
  refine ax_of rfl (by decide) (Nat.le_of_ble_eq_true rfl) ?_
  refine ax_iload_n 0 1 dX3_isWithin_0 rfl rfl rfl ?_
  refine ax_iload_n 1 2 dX3_isWithin_1 rfl rfl rfl ?_
  refine ax_icmp_lt 14 5 dX3_isWithin_2 (by decide) rfl (fun c1 => ?_) (fun c1 => ?_)
  · have e : isW x a b = false := by simp [isW, Int32.not_le.mpr c1]
    rw [e]
    refine ax_iconst (v := 0) 15 dX3_isWithin_14 rfl (by decide) ?_
    exact ax_zret dX3_isWithin_15 rfl (by decide) rfl
  · refine ax_iload_n 0 6 dX3_isWithin_5 rfl rfl rfl ?_
    refine ax_iload_n 2 7 dX3_isWithin_6 rfl rfl rfl ?_
    refine ax_icmp_gt 14 10 dX3_isWithin_7 (by decide) rfl (fun c2 => ?_) (fun c2 => ?_)
    · have e : isW x a b = false := by simp [isW, Int32.not_le.mpr c2]
      rw [e]
      refine ax_iconst (v := 0) 15 dX3_isWithin_14 rfl (by decide) ?_
      exact ax_zret dX3_isWithin_15 rfl (by decide) rfl
    · have e : isW x a b = true := isW_t.mpr ⟨Int32.not_lt.mp c1, Int32.not_lt.mp c2⟩
      rw [e]
      refine ax_iconst (v := 1) 11 dX3_isWithin_10 rfl (by decide) ?_
      refine ax_goto 15 dX3_isWithin_11 (by decide) ?_
      exact ax_zret dX3_isWithin_15 rfl (by decide) rfl
theorem s_isSpecies {w : ax_W} (hd : 1 ≤ d) (x : Int32) : ax_Met G M_X3_isSpecies d 0 0 [.int x] w (.inl (some (.int (bI (isW x 0 3)))), w) := by
  refine ax_of rfl (by decide) (Nat.le_of_ble_eq_true rfl) ?_
  refine ax_iload_n 0 1 dX3_isSpecies_0 rfl rfl rfl ?_
  refine ax_iconst (v := 0) 2 dX3_isSpecies_1 rfl (by decide) ?_
  refine ax_iconst (v := 3) 3 dX3_isSpecies_2 rfl (by decide) ?_
  refine ax_cS 6 dX3_isSpecies_3 rfl ml_X3_59 (s_isWithin (d := d - 1) x 0 3) (by omega) rfl rfl (Nat.le_of_ble_eq_true rfl) ?_
  exact ax_zret dX3_isSpecies_6 rfl (bI_nar _) rfl
theorem s_isOwner {w : ax_W} (hd : 1 ≤ d) (x : Int32) : ax_Met G M_X3_isOwner d 0 0 [.int x] w (.inl (some (.int (bI (isW x 0 5)))), w) := by
  refine ax_of rfl (by decide) (Nat.le_of_ble_eq_true rfl) ?_
  refine ax_iload_n 0 1 dX3_isOwner_0 rfl rfl rfl ?_
  refine ax_iconst (v := 0) 2 dX3_isOwner_1 rfl (by decide) ?_
  refine ax_iconst (v := 5) 3 dX3_isOwner_2 rfl (by decide) ?_
  refine ax_cS 6 dX3_isOwner_3 rfl ml_X3_59 (s_isWithin (d := d - 1) x 0 5) (by omega) rfl rfl (Nat.le_of_ble_eq_true rfl) ?_
  exact ax_zret dX3_isOwner_6 rfl (bI_nar _) rfl
theorem s_isVessel {w : ax_W} (hd : 1 ≤ d) (x : Int32) : ax_Met G M_X3_isVessel d 0 0 [.int x] w (.inl (some (.int (bI (isW x 0 5)))), w) := by
  refine ax_of rfl (by decide) (Nat.le_of_ble_eq_true rfl) ?_
  refine ax_iload_n 0 1 dX3_isVessel_0 rfl rfl rfl ?_
  refine ax_iconst (v := 0) 2 dX3_isVessel_1 rfl (by decide) ?_
  refine ax_iconst (v := 5) 3 dX3_isVessel_2 rfl (by decide) ?_
  refine ax_cS 6 dX3_isVessel_3 rfl ml_X3_59 (s_isWithin (d := d - 1) x 0 5) (by omega) rfl rfl (Nat.le_of_ble_eq_true rfl) ?_
  exact ax_zret dX3_isVessel_6 rfl (bI_nar _) rfl
theorem s_isForm {w : ax_W} (hd : 1 ≤ d) (x : Int32) : ax_Met G M_X3_isForm d 0 0 [.int x] w (.inl (some (.int (bI (isW x 0 2)))), w) := by
  refine ax_of rfl (by decide) (Nat.le_of_ble_eq_true rfl) ?_
  refine ax_iload_n 0 1 dX3_isForm_0 rfl rfl rfl ?_
  refine ax_iconst (v := 0) 2 dX3_isForm_1 rfl (by decide) ?_
  refine ax_iconst (v := 2) 3 dX3_isForm_2 rfl (by decide) ?_
  refine ax_cS 6 dX3_isForm_3 rfl ml_X3_59 (s_isWithin (d := d - 1) x 0 2) (by omega) rfl rfl (Nat.le_of_ble_eq_true rfl) ?_
  exact ax_zret dX3_isForm_6 rfl (bI_nar _) rfl
theorem s_isLimit {w : ax_W} (hd : 1 ≤ d) (x : Int32) : ax_Met G M_X3_isLimit d 0 0 [.int x] w (.inl (some (.int (bI (isW x 0 1000000)))), w) := by
  refine ax_of rfl (by decide) (Nat.le_of_ble_eq_true rfl) ?_
  refine ax_iload_n 0 1 dX3_isLimit_0 rfl rfl rfl ?_
  refine ax_iconst (v := 0) 2 dX3_isLimit_1 rfl (by decide) ?_
  refine ax_ldc (v := 1000000) 4 dX3_isLimit_2 rfl ci_X3_63 ?_
  refine ax_cS 7 dX3_isLimit_4 rfl ml_X3_59 (s_isWithin (d := d - 1) x 0 1000000) (by omega) rfl rfl (Nat.le_of_ble_eq_true rfl) ?_
  exact ax_zret dX3_isLimit_7 rfl (bI_nar _) rfl
theorem s_row {w : ax_W} (y v s : Nat) : ax_Met G M_X0_row d 0 0 [.int (nI y), .int (nI v), .int (nI s)] w (.inl (some (.int (nI (24 * y + 4 * v + s)))), w) := by
  refine ax_of rfl (by decide) (Nat.le_of_ble_eq_true rfl) ?_
  rw [← ixr]
  refine ax_iload_n 0 1 dX0_row_0 rfl rfl rfl ?_
  refine ax_bipush (v := 6) 3 dX0_row_1 rfl (by decide) ?_
  refine ax_imul 4 dX0_row_3 rfl ?_
  refine ax_iload_n 1 5 dX0_row_4 rfl rfl rfl ?_
  refine ax_iadd 6 dX0_row_5 rfl ?_
  refine ax_iconst (v := 4) 7 dX0_row_6 rfl (by decide) ?_
  refine ax_imul 8 dX0_row_7 rfl ?_
  refine ax_iload_n 2 9 dX0_row_8 rfl rfl rfl ?_
  refine ax_iadd 10 dX0_row_9 rfl ?_
  exact ax_iret dX0_row_10 rfl rfl
/-- what is left on the account k -/
def leftF (q : Nat → Nat → Int32) (k : Nat) : Int32 := q 10 k + q 11 k + q 12 k - q 13 k - q 14 k
theorem s_leftOn (k : Nat) (h : k < 216) : ax_Met G M_X0_leftOn d 0 0 [.ref 9, .int (nI k)] (wQ q ++ r) (.inl (some (.int (leftF q k))), wQ q ++ r) := by
  refine ax_of rfl (by decide) (Nat.le_of_ble_eq_true rfl) ?_
  refine ax_aload_n 0 1 dX0_leftOn_0 rfl rfl rfl ?_
  refine ax_getf 4 dX0_leftOn_1 rfl fl_X0_11 rfl rfl ?_
  refine ax_iload_n 1 5 dX0_leftOn_4 rfl rfl rfl ?_
  refine ax_ialdN 6 dX0_leftOn_5 rfl rfl rfl (by omega) (by decide) ?_
  refine ax_aload_n 0 7 dX0_leftOn_6 rfl rfl rfl ?_
  refine ax_getf 10 dX0_leftOn_7 rfl fl_X0_15 rfl rfl ?_
  refine ax_iload_n 1 11 dX0_leftOn_10 rfl rfl rfl ?_
  refine ax_ialdN 12 dX0_leftOn_11 rfl rfl rfl (by omega) (by decide) ?_
  refine ax_iadd 13 dX0_leftOn_12 rfl ?_
  refine ax_aload_n 0 14 dX0_leftOn_13 rfl rfl rfl ?_
  refine ax_getf 17 dX0_leftOn_14 rfl fl_X0_18 rfl rfl ?_
  refine ax_iload_n 1 18 dX0_leftOn_17 rfl rfl rfl ?_
  refine ax_ialdN 19 dX0_leftOn_18 rfl rfl rfl (by omega) (by decide) ?_
  refine ax_iadd 20 dX0_leftOn_19 rfl ?_
  refine ax_aload_n 0 21 dX0_leftOn_20 rfl rfl rfl ?_
  refine ax_getf 24 dX0_leftOn_21 rfl fl_X0_21 rfl rfl ?_
  refine ax_iload_n 1 25 dX0_leftOn_24 rfl rfl rfl ?_
  refine ax_ialdN 26 dX0_leftOn_25 rfl rfl rfl (by omega) (by decide) ?_
  refine ax_isub 27 dX0_leftOn_26 rfl ?_
  refine ax_aload_n 0 28 dX0_leftOn_27 rfl rfl rfl ?_
  refine ax_getf 31 dX0_leftOn_28 rfl fl_X0_24 rfl rfl ?_
  refine ax_iload_n 1 32 dX0_leftOn_31 rfl rfl rfl ?_
  refine ax_ialdN 33 dX0_leftOn_32 rfl rfl rfl (by omega) (by decide) ?_
  refine ax_isub 34 dX0_leftOn_33 rfl ?_
  exact ax_iret dX0_leftOn_34 rfl rfl
theorem s_partsOf (s o : Nat) (hs : s < 4) (ho : o < 6) : ax_Met G M_X2_partsOf d 0 0 [.ref 3, .int (nI s), .int (nI o)] (wQ q ++ r) (.inl (some (.int (q 7 (6 * s + o)))), wQ q ++ r) := by
  refine ax_of rfl (by decide) (Nat.le_of_ble_eq_true rfl) ?_
  refine ax_aload_n 0 1 dX2_partsOf_0 rfl rfl rfl ?_
  refine ax_getf 4 dX2_partsOf_1 rfl fl_X2_21 rfl rfl ?_
  refine ax_iload_n 1 5 dX2_partsOf_4 rfl rfl rfl ?_
  refine ax_bipush (v := 6) 7 dX2_partsOf_5 rfl (by decide) ?_
  refine ax_imul 8 dX2_partsOf_7 rfl ?_
  refine ax_iload_n 2 9 dX2_partsOf_8 rfl rfl rfl ?_
  refine ax_iadd 10 dX2_partsOf_9 rfl ?_
  refine ax_ialdN 11 dX2_partsOf_10 rfl rfl (ix6 s o) (by omega) (by decide) ?_
  exact ax_iret dX2_partsOf_11 rfl rfl
theorem s_placedOn (s o : Nat) (hs : s < 4) (ho : o < 6) : ax_Met G M_X2_placedOn d 0 0 [.ref 3, .int (nI s), .int (nI o)] (wQ q ++ r) (.inl (some (.int (q 8 (6 * s + o)))), wQ q ++ r) := by
  refine ax_of rfl (by decide) (Nat.le_of_ble_eq_true rfl) ?_
  refine ax_aload_n 0 1 dX2_placedOn_0 rfl rfl rfl ?_
  refine ax_getf 4 dX2_placedOn_1 rfl fl_X2_24 rfl rfl ?_
  refine ax_iload_n 1 5 dX2_placedOn_4 rfl rfl rfl ?_
  refine ax_bipush (v := 6) 7 dX2_placedOn_5 rfl (by decide) ?_
  refine ax_imul 8 dX2_placedOn_7 rfl ?_
  refine ax_iload_n 2 9 dX2_placedOn_8 rfl rfl rfl ?_
  refine ax_iadd 10 dX2_placedOn_9 rfl ?_
  refine ax_ialdN 11 dX2_placedOn_10 rfl rfl (ix6 s o) (by omega) (by decide) ?_
  exact ax_iret dX2_placedOn_11 rfl rfl
theorem s_setCap (s : Nat) (x : Int32) (hs : s < 4) : ax_Met G M_X2_setCap d 0 0 [.ref 3, .int (nI s), .int x] (wQ q ++ r) (.inl none, wQ (qv q 4 s x) ++ r) := by
  refine ax_of rfl (by decide) (Nat.le_of_ble_eq_true rfl) ?_
  refine ax_aload_n 0 1 dX2_setCap_0 rfl rfl rfl ?_
  refine ax_getf 4 dX2_setCap_1 rfl fl_X2_9 rfl rfl ?_
  refine ax_iload_n 1 5 dX2_setCap_4 rfl rfl rfl ?_
  refine ax_iload_n 2 6 dX2_setCap_5 rfl rfl rfl ?_
  refine ax_iastN 7 dX2_setCap_6 rfl rfl rfl (by omega) (by decide) ?_
  rw [wQs_4]
  exact ax_vret dX2_setCap_7 rfl rfl
theorem s_setOwner (s : Nat) (x : Int32) (hs : s < 6) : ax_Met G M_X2_setOwner d 0 0 [.ref 3, .int (nI s), .int x] (wQ q ++ r) (.inl none, wQ (qv q 6 s x) ++ r) := by
  refine ax_of rfl (by decide) (Nat.le_of_ble_eq_true rfl) ?_
  refine ax_aload_n 0 1 dX2_setOwner_0 rfl rfl rfl ?_
  refine ax_getf 4 dX2_setOwner_1 rfl fl_X2_18 rfl rfl ?_
  refine ax_iload_n 1 5 dX2_setOwner_4 rfl rfl rfl ?_
  refine ax_iload_n 2 6 dX2_setOwner_5 rfl rfl rfl ?_
  refine ax_iastN 7 dX2_setOwner_6 rfl rfl rfl (by omega) (by decide) ?_
  rw [wQs_6]
  exact ax_vret dX2_setOwner_7 rfl rfl
theorem s_ownerOf (s : Nat) (hs : s < 6) : ax_Met G M_X2_ownerOf d 0 0 [.ref 3, .int (nI s)] (wQ q ++ r) (.inl (some (.int (q 6 s))), wQ q ++ r) := by
  refine ax_of rfl (by decide) (Nat.le_of_ble_eq_true rfl) ?_
  refine ax_aload_n 0 1 dX2_ownerOf_0 rfl rfl rfl ?_
  refine ax_getf 4 dX2_ownerOf_1 rfl fl_X2_18 rfl rfl ?_
  refine ax_iload_n 1 5 dX2_ownerOf_4 rfl rfl rfl ?_
  refine ax_ialdN 6 dX2_ownerOf_5 rfl rfl rfl (by omega) (by decide) ?_
  exact ax_iret dX2_ownerOf_6 rfl rfl
theorem s_addParts (hd : 1 ≤ d) (s o : Nat) (x : Int32) (hs : s < 4) (ho : o < 6) : ax_Met G M_X2_addParts d 0 0 [.ref 3, .int (nI s), .int (nI o), .int x] (wQ q ++ r) (.inl (some (.int (q 7 (6 * s + o) + x))), wQ (qv q 7 (6 * s + o) (q 7 (6 * s + o) + x)) ++ r) := by
  refine ax_of rfl (by decide) (Nat.le_of_ble_eq_true rfl) ?_
  refine ax_aload_n 0 1 dX2_addParts_0 rfl rfl rfl ?_
  refine ax_getf 4 dX2_addParts_1 rfl fl_X2_21 rfl rfl ?_
  refine ax_iload_n 1 5 dX2_addParts_4 rfl rfl rfl ?_
  refine ax_bipush (v := 6) 7 dX2_addParts_5 rfl (by decide) ?_
  refine ax_imul 8 dX2_addParts_7 rfl ?_
  refine ax_iload_n 2 9 dX2_addParts_8 rfl rfl rfl ?_
  refine ax_iadd 10 dX2_addParts_9 rfl ?_
  refine ax_dup2 11 dX2_addParts_10 rfl rfl rfl ?_
  refine ax_ialdN 12 dX2_addParts_11 rfl rfl (ix6 s o) (by omega) (by decide) ?_
  refine ax_iload_n 3 13 dX2_addParts_12 rfl rfl rfl ?_
  refine ax_iadd 14 dX2_addParts_13 rfl ?_
  refine ax_iastN 15 dX2_addParts_14 rfl rfl (ix6 s o) (by omega) (by decide) ?_
  rw [wQs_7]
  refine ax_aload_n 0 16 dX2_addParts_15 rfl rfl rfl ?_
  refine ax_iload_n 1 17 dX2_addParts_16 rfl rfl rfl ?_
  refine ax_iload_n 2 18 dX2_addParts_17 rfl rfl rfl ?_
  refine ax_cV 21 dX2_addParts_18 rfl ml_X2_38 (s_partsOf (d := d - 1) s o hs ho) rfl (by omega) rfl rfl (Nat.le_of_ble_eq_true rfl) ?_
  exact ax_iret dX2_addParts_21 rfl (by simp only [qv, qw_s, pk_us])
theorem s_addPlaced (hd : 1 ≤ d) (s o : Nat) (x : Int32) (hs : s < 4) (ho : o < 6) : ax_Met G M_X2_addPlaced d 0 0 [.ref 3, .int (nI s), .int (nI o), .int x] (wQ q ++ r) (.inl (some (.int (q 8 (6 * s + o) + x))), wQ (qv q 8 (6 * s + o) (q 8 (6 * s + o) + x)) ++ r) := by
  refine ax_of rfl (by decide) (Nat.le_of_ble_eq_true rfl) ?_
  refine ax_aload_n 0 1 dX2_addPlaced_0 rfl rfl rfl ?_
  refine ax_getf 4 dX2_addPlaced_1 rfl fl_X2_24 rfl rfl ?_
  refine ax_iload_n 1 5 dX2_addPlaced_4 rfl rfl rfl ?_
  refine ax_bipush (v := 6) 7 dX2_addPlaced_5 rfl (by decide) ?_
  refine ax_imul 8 dX2_addPlaced_7 rfl ?_
  refine ax_iload_n 2 9 dX2_addPlaced_8 rfl rfl rfl ?_
  refine ax_iadd 10 dX2_addPlaced_9 rfl ?_
  refine ax_dup2 11 dX2_addPlaced_10 rfl rfl rfl ?_
  refine ax_ialdN 12 dX2_addPlaced_11 rfl rfl (ix6 s o) (by omega) (by decide) ?_
  refine ax_iload_n 3 13 dX2_addPlaced_12 rfl rfl rfl ?_
  refine ax_iadd 14 dX2_addPlaced_13 rfl ?_
  refine ax_iastN 15 dX2_addPlaced_14 rfl rfl (ix6 s o) (by omega) (by decide) ?_
  rw [wQs_8]
  refine ax_aload_n 0 16 dX2_addPlaced_15 rfl rfl rfl ?_
  refine ax_iload_n 1 17 dX2_addPlaced_16 rfl rfl rfl ?_
  refine ax_iload_n 2 18 dX2_addPlaced_17 rfl rfl rfl ?_
  refine ax_cV 21 dX2_addPlaced_18 rfl ml_X2_45 (s_placedOn (d := d - 1) s o hs ho) rfl (by omega) rfl rfl (Nat.le_of_ble_eq_true rfl) ?_
  exact ax_iret dX2_addPlaced_21 rfl (by simp only [qv, qw_s, pk_us])
end LEAF
