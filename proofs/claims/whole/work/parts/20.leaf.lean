/-! the class's world: cell 0 is the register; q k is what the array in cell k holds; q 0 6, q 0 7, q 20 9 are the plain fields -/
def wQ (q : Nat → Nat → Int32) : ax_W := [.inr (3, [.ref 1, .ref 2, .ref 3, .ref 9, .ref 20, .ref 30, .int (q 0 6), .int (q 0 7)]), .inl (0, 4, .inl (q 1)), .inl (0, 12, .inl (q 2)),
  .inr (2, [.ref 4, .ref 5, .ref 6, .ref 7, .ref 8]), .inl (0, 4, .inl (q 4)), .inl (0, 6, .inl (q 5)), .inl (0, 6, .inl (q 6)), .inl (0, 24, .inl (q 7)), .inl (0, 24, .inl (q 8)),
  .inr (0, [.ref 10, .ref 11, .ref 12, .ref 13, .ref 14, .ref 15, .ref 16, .ref 17, .ref 18, .ref 19]), .inl (0, 216, .inl (q 10)), .inl (0, 216, .inl (q 11)), .inl (0, 216, .inl (q 12)), .inl (0, 216, .inl (q 13)), .inl (0, 216, .inl (q 14)), .inl (0, 216, .inl (q 15)), .inl (0, 216, .inl (q 16)), .inl (0, 216, .inl (q 17)), .inl (0, 54, .inl (q 18)), .inl (0, 6, .inl (q 19)),
  .inr (1, [.ref 21, .ref 22, .ref 23, .ref 24, .ref 25, .ref 26, .ref 27, .ref 28, .ref 29, .int (q 20 9)]), .inl (0, 200, .inl (q 21)), .inl (0, 200, .inl (q 22)), .inl (0, 200, .inl (q 23)), .inl (0, 200, .inl (q 24)), .inl (0, 200, .inl (q 25)), .inl (0, 200, .inl (q 26)), .inl (0, 200, .inl (q 27)), .inl (1, 200, .inl (q 28)), .inl (1, 200, .inl (q 29)),
  .inl (1, 9, .inl (q 30))]
def qw (q : Nat → Nat → Int32) (k : Nat) (f : Nat → Int32) : Nat → Nat → Int32 := fun j => if j = k then f else q j
section LEAF
variable {G : ax_G} {d : Nat} {q : Nat → Nat → Int32} {r : ax_W}
theorem s_isWithin {w : ax_W} (x a b : Int32) : ax_Met G M_X3_isWithin d 0 0 [.int x, .int a, .int b] w (.inl (some (.int (if a ≤ x ∧ x ≤ b then 1 else 0))), w) := by
  refine ax_of rfl (by decide) (Nat.le_of_ble_eq_true rfl) ?_
  refine ax_iload_n 0 1 dX3_isWithin_0 rfl rfl rfl ?_
  refine ax_iload_n 1 2 dX3_isWithin_1 rfl rfl rfl ?_
  refine ax_icmp_lt 14 5 dX3_isWithin_2 (by decide) rfl (fun c1 => ?_) (fun c1 => ?_)
  · sorry
  · sorry
theorem s_row {w : ax_W} (y v s : Int32) : ax_Met G M_X0_row d 0 0 [.int y, .int v, .int s] w (.inl (some (.int ((y * 6 + v) * 4 + s))), w) := by
  refine ax_of rfl (by decide) (Nat.le_of_ble_eq_true rfl) ?_
  refine ax_iload_n 0 1 dX0_row_0 rfl rfl rfl ?_
  refine ax_bipush (v := 6) 3 dX0_row_1 rfl (by decide) ?_
  refine ax_imul 4 dX0_row_3 rfl ?_
  refine ax_iload_n 1 5 dX0_row_4 rfl rfl rfl ?_
  refine ax_iadd 6 dX0_row_5 rfl ?_
  refine ax_iconst (v := 4) 7 dX0_row_6 rfl (by decide) ?_
  refine ax_imul 8 dX0_row_7 rfl ?_
  refine ax_iload_n 2 9 dX0_row_8 rfl rfl rfl ?_
  refine ax_iadd 10 dX0_row_9 rfl ?_
  exact ax_iret dX0_row_10 rfl rfl
theorem s_leftOn (i : Int32) (h : vp_in i 216) : ax_Met G M_X0_leftOn d 0 0 [.ref 9, .int i] (wQ q ++ r) (.inl (some (.int (q 10 i.toNatClampNeg + q 11 i.toNatClampNeg + q 12 i.toNatClampNeg - q 13 i.toNatClampNeg - q 14 i.toNatClampNeg))), wQ q ++ r) := by
  refine ax_of rfl (by decide) (Nat.le_of_ble_eq_true rfl) ?_
  refine ax_aload_n 0 1 dX0_leftOn_0 rfl rfl rfl ?_
  refine ax_getf 4 dX0_leftOn_1 rfl fl_X0_11 rfl rfl ?_
  refine ax_iload_n 1 5 dX0_leftOn_4 rfl rfl rfl ?_
  refine ax_iald 6 dX0_leftOn_5 rfl rfl (by assumption) ?_
  refine ax_aload_n 0 7 dX0_leftOn_6 rfl rfl rfl ?_
  refine ax_getf 10 dX0_leftOn_7 rfl fl_X0_15 rfl rfl ?_
  refine ax_iload_n 1 11 dX0_leftOn_10 rfl rfl rfl ?_
  refine ax_iald 12 dX0_leftOn_11 rfl rfl (by assumption) ?_
  refine ax_iadd 13 dX0_leftOn_12 rfl ?_
  refine ax_aload_n 0 14 dX0_leftOn_13 rfl rfl rfl ?_
  refine ax_getf 17 dX0_leftOn_14 rfl fl_X0_18 rfl rfl ?_
  refine ax_iload_n 1 18 dX0_leftOn_17 rfl rfl rfl ?_
  refine ax_iald 19 dX0_leftOn_18 rfl rfl (by assumption) ?_
  refine ax_iadd 20 dX0_leftOn_19 rfl ?_
  refine ax_aload_n 0 21 dX0_leftOn_20 rfl rfl rfl ?_
  refine ax_getf 24 dX0_leftOn_21 rfl fl_X0_21 rfl rfl ?_
  refine ax_iload_n 1 25 dX0_leftOn_24 rfl rfl rfl ?_
  refine ax_iald 26 dX0_leftOn_25 rfl rfl (by assumption) ?_
  refine ax_isub 27 dX0_leftOn_26 rfl ?_
  refine ax_aload_n 0 28 dX0_leftOn_27 rfl rfl rfl ?_
  refine ax_getf 31 dX0_leftOn_28 rfl fl_X0_24 rfl rfl ?_
  refine ax_iload_n 1 32 dX0_leftOn_31 rfl rfl rfl ?_
  refine ax_iald 33 dX0_leftOn_32 rfl rfl (by assumption) ?_
  refine ax_isub 34 dX0_leftOn_33 rfl ?_
  exact ax_iret dX0_leftOn_34 rfl rfl
end LEAF
