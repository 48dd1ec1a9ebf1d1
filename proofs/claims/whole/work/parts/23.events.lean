/-! events -/
def yr (q : Nat → Nat → Int32) (i : Nat) : Nat := (q 22 i).toNatClampNeg
def vs (q : Nat → Nat → Int32) (i : Nat) : Nat := (q 23 i).toNatClampNeg
def sp (q : Nat → Nat → Int32) (i : Nat) : Nat := (q 24 i).toNatClampNeg
def ot (q : Nat → Nat → Int32) (i : Nat) : Nat := (q 25 i).toNatClampNeg
def evOK (q : Nat → Nat → Int32) (i : Nat) : Prop := q 22 i = nI (yr q i) ∧ yr q i ≤ 8 ∧ q 23 i = nI (vs q i) ∧ vs q i < 6 ∧ q 24 i = nI (sp q i) ∧ sp q i < 4 ∧ (q 21 i = 0 → q 25 i = nI (ot q i) ∧ ot q i < 6) ∧ (¬ q 21 i = 0 → ¬ q 21 i = 1 → q 25 i = nI (ot q i) ∧ ot q i < 4)
def evC (q : Nat → Nat → Int32) (i : Nat) : Bool × (Nat → Nat → Int32) :=
  if q 21 i = 0 then (if q 27 i ≤ leftF q (24 * yr q i + 4 * vs q i + sp q i) then (true, mvC q (24 * yr q i + 4 * vs q i + sp q i) (24 * yr q i + 4 * ot q i + sp q i) (q 27 i)) else (false, q))
  else if q 21 i = 1 then (if q 28 i = 0 then (true, qv q 14 (24 * yr q i + 4 * vs q i + sp q i) (q 14 (24 * yr q i + 4 * vs q i + sp q i) + q 27 i)) else (false, q))
  else (if canC q (24 * yr q i + 4 * vs q i + sp q i) (24 * yr q i + 4 * vs q i + ot q i) (6 * yr q i + vs q i) (q 26 i) (q 27 i) = true then (true, exC q (24 * yr q i + 4 * vs q i + sp q i) (24 * yr q i + 4 * vs q i + ot q i) (6 * yr q i + vs q i) (q 26 i) (q 27 i)) else (false, q))
def wkC (q : Nat → Nat → Int32) (i : Nat) : Nat → Nat → Int32 := qv (evC q i).2 29 i (bI (evC q i).1)
def wyC (q : Nat → Nat → Int32) (t n : Nat) : Nat → Nat → Int32 := itF (fun i q => if q 22 i = nI t then wkC q i else q) n q
theorem qv_n {q : Nat → Nat → Int32} {k j i : Nat} {x : Int32} (h : j ≠ k) : qv q k i x j = q j := qw_n h
theorem evC_k {q : Nat → Nat → Int32} {i k : Nat} (h1 : k ≠ 11) (h2 : k ≠ 14) (h3 : k ≠ 18) : (evC q i).2 k = q k := by
  unfold evC
  split
  · split
    · show mvC _ _ _ _ k = q k
      unfold mvC; rw [qv_n h1, qv_n h1]
    · rfl
  · split
    · split
      · show qv _ _ _ _ k = q k
        rw [qv_n h2]
      · rfl
    · split
      · show exC _ _ _ _ _ _ k = q k
        unfold exC; rw [qv_n h3, qv_n h2, qv_n h2]
      · rfl
theorem wkC_k {q : Nat → Nat → Int32} {i k : Nat} (h1 : k ≠ 11) (h2 : k ≠ 14) (h3 : k ≠ 18) (h4 : k ≠ 29) : wkC q i k = q k := by
  unfold wkC; rw [qv_n h4, evC_k h1 h2 h3]
theorem wyC_k {q : Nat → Nat → Int32} {t n k : Nat} (h1 : k ≠ 11) (h2 : k ≠ 14) (h3 : k ≠ 18) (h4 : k ≠ 29) : wyC q t n k = q k := by
  induction n with
  | zero => rfl
  | succ n ih =>
    unfold wyC at ih ⊢
    rw [itF_s]
    split
    · rw [wkC_k h1 h2 h3 h4]; exact ih
    · exact ih
theorem evOK_eq {q q' : Nat → Nat → Int32} {i : Nat} (h1 : q' 21 = q 21) (h2 : q' 22 = q 22) (h3 : q' 23 = q 23) (h4 : q' 24 = q 24) (h5 : q' 25 = q 25) (h : evOK q i) : evOK q' i := by
  unfold evOK yr vs sp ot at h ⊢
  rw [h1, h2, h3, h4, h5]; exact h
def addC (q : Nat → Nat → Int32) (n : Nat) (a b c e f g h : Int32) : Nat → Nat → Int32 :=
  let z := qv (qv (qv (qv (qv (qv (qv q 21 n a) 22 n b) 23 n c) 24 n e) 25 n f) 26 n g) 27 n h
  qv z 20 9 (z 20 9 + 1)
def ctC (f : Nat → Int32) (n : Nat) : Int32 := itF (fun i c => if f i = 0 then c else c + 1) n 0
section EV
variable {G : ax_G} {d : Nat} {q : Nat → Nat → Int32} {r : ax_W}
theorem s_size : ax_Met G M_X1_size d 0 0 [.ref 20] (wQ q ++ r) (.inl (some (.int (q 20 9))), wQ q ++ r) := by
  refine ax_of rfl (by decide) (Nat.le_of_ble_eq_true rfl) ?_
  refine ax_aload_n 0 1 dX1_size_0 rfl rfl rfl ?_
  refine ax_getf 4 dX1_size_1 rfl fl_X1_40 rfl rfl ?_
  exact ax_iret dX1_size_4 rfl rfl
theorem s_areFull : ax_Met G M_X1_areFull d 0 0 [.ref 20] (wQ q ++ r) (.inl (some (.int (bI (decide (200 ≤ q 20 9))))), wQ q ++ r) := by
  refine ax_of rfl (by decide) (Nat.le_of_ble_eq_true rfl) ?_
  refine ax_aload_n 0 1 dX1_areFull_0 rfl rfl rfl ?_
  refine ax_getf 4 dX1_areFull_1 rfl fl_X1_40 rfl rfl ?_
  refine ax_sipush (v := 200) 7 dX1_areFull_4 rfl (by decide) ?_
  refine ax_icmp_lt 14 10 dX1_areFull_7 (by decide) rfl (fun c => ?_) (fun c => ?_)
  · rw [decide_eq_false (Int32.not_le.mpr c)]
    refine ax_iconst (v := 0) 15 dX1_areFull_14 rfl (by decide) ?_
    exact ax_zret dX1_areFull_15 rfl (by decide) rfl
  · rw [decide_eq_true (Int32.not_lt.mp c)]
    refine ax_iconst (v := 1) 11 dX1_areFull_10 rfl (by decide) ?_
    refine ax_goto 15 dX1_areFull_11 (by decide) ?_
    exact ax_zret dX1_areFull_15 rfl (by decide) rfl
theorem s_has (hd : 1 ≤ d) (x : Int32) : ax_Met G M_X1_has d 0 0 [.ref 20, .int x] (wQ q ++ r) (.inl (some (.int (bI (isW x 0 (q 20 9 - 1))))), wQ q ++ r) := by
  refine ax_of rfl (by decide) (Nat.le_of_ble_eq_true rfl) ?_
  refine ax_iload_n 1 1 dX1_has_0 rfl rfl rfl ?_
  refine ax_iconst (v := 0) 2 dX1_has_1 rfl (by decide) ?_
  refine ax_aload_n 0 3 dX1_has_2 rfl rfl rfl ?_
  refine ax_getf 6 dX1_has_3 rfl fl_X1_40 rfl rfl ?_
  refine ax_iconst (v := 1) 7 dX1_has_6 rfl (by decide) ?_
  refine ax_isub 8 dX1_has_7 rfl ?_
  refine ax_cN 11 dX1_has_8 rfl mn_X1_44 mi_X1_44 (s_isWithin (d := d - 1) x 0 _) (by omega) rfl rfl (Nat.le_of_ble_eq_true rfl) ?_
  exact ax_zret dX1_has_11 rfl (bI_nar _) rfl
theorem s_add (n : Nat) (a b c e f g h : Int32) (hn : n < 200) (hc : q 20 9 = nI n) : ax_Met G M_X1_add d 0 0 [.ref 20, .int a, .int b, .int c, .int e, .int f, .int g, .int h] (wQ q ++ r) (.inl (some (.int (nI n))), wQ (addC q n a b c e f g h) ++ r) := by
  refine ax_of rfl (by decide) (Nat.le_of_ble_eq_true rfl) ?_
  refine ax_aload_n 0 1 dX1_add_0 rfl rfl rfl ?_
  refine ax_getf 4 dX1_add_1 rfl fl_X1_40 rfl rfl ?_
  refine ax_istore 6 dX1_add_4 rfl (Nat.le_of_ble_eq_true rfl) ?_
  rw [hc]
  refine ax_aload_n 0 7 dX1_add_6 rfl rfl rfl ?_
  refine ax_getf 10 dX1_add_7 rfl fl_X1_9 rfl rfl ?_
  refine ax_iload 12 dX1_add_10 rfl rfl ?_
  refine ax_iload_n 1 13 dX1_add_12 rfl rfl rfl ?_
  refine ax_iastN 14 dX1_add_13 rfl rfl rfl (by omega) (by decide) ?_
  rw [wQs_21]
  refine ax_aload_n 0 15 dX1_add_14 rfl rfl rfl ?_
  refine ax_getf 18 dX1_add_15 rfl fl_X1_15 rfl rfl ?_
  refine ax_iload 20 dX1_add_18 rfl rfl ?_
  refine ax_iload_n 2 21 dX1_add_20 rfl rfl rfl ?_
  refine ax_iastN 22 dX1_add_21 rfl rfl rfl (by omega) (by decide) ?_
  rw [wQs_22]
  refine ax_aload_n 0 23 dX1_add_22 rfl rfl rfl ?_
  refine ax_getf 26 dX1_add_23 rfl fl_X1_18 rfl rfl ?_
  refine ax_iload 28 dX1_add_26 rfl rfl ?_
  refine ax_iload_n 3 29 dX1_add_28 rfl rfl rfl ?_
  refine ax_iastN 30 dX1_add_29 rfl rfl rfl (by omega) (by decide) ?_
  rw [wQs_23]
  refine ax_aload_n 0 31 dX1_add_30 rfl rfl rfl ?_
  refine ax_getf 34 dX1_add_31 rfl fl_X1_21 rfl rfl ?_
  refine ax_iload 36 dX1_add_34 rfl rfl ?_
  refine ax_iload 38 dX1_add_36 rfl rfl ?_
  refine ax_iastN 39 dX1_add_38 rfl rfl rfl (by omega) (by decide) ?_
  rw [wQs_24]
  refine ax_aload_n 0 40 dX1_add_39 rfl rfl rfl ?_
  refine ax_getf 43 dX1_add_40 rfl fl_X1_24 rfl rfl ?_
  refine ax_iload 45 dX1_add_43 rfl rfl ?_
  refine ax_iload 47 dX1_add_45 rfl rfl ?_
  refine ax_iastN 48 dX1_add_47 rfl rfl rfl (by omega) (by decide) ?_
  rw [wQs_25]
  refine ax_aload_n 0 49 dX1_add_48 rfl rfl rfl ?_
  refine ax_getf 52 dX1_add_49 rfl fl_X1_27 rfl rfl ?_
  refine ax_iload 54 dX1_add_52 rfl rfl ?_
  refine ax_iload 56 dX1_add_54 rfl rfl ?_
  refine ax_iastN 57 dX1_add_56 rfl rfl rfl (by omega) (by decide) ?_
  rw [wQs_26]
  refine ax_aload_n 0 58 dX1_add_57 rfl rfl rfl ?_
  refine ax_getf 61 dX1_add_58 rfl fl_X1_30 rfl rfl ?_
  refine ax_iload 63 dX1_add_61 rfl rfl ?_
  refine ax_iload 65 dX1_add_63 rfl rfl ?_
  refine ax_iastN 66 dX1_add_65 rfl rfl rfl (by omega) (by decide) ?_
  rw [wQs_27]
  refine ax_aload_n 0 67 dX1_add_66 rfl rfl rfl ?_
  refine ax_dup 68 dX1_add_67 rfl rfl ?_
  refine ax_getf 71 dX1_add_68 rfl fl_X1_40 rfl rfl ?_
  refine ax_iconst (v := 1) 72 dX1_add_71 rfl (by decide) ?_
  refine ax_iadd 73 dX1_add_72 rfl ?_
  refine ax_putf 76 dX1_add_73 rfl fp_X1_40 rfl rfl rfl (Nat.le_of_ble_eq_true rfl) ?_
  rw [wQp_20_9]
  refine ax_iload 78 dX1_add_76 rfl rfl ?_
  exact ax_iret dX1_add_78 rfl rfl
theorem s_yearOf (i : Nat) (hi : i < 200) : ax_Met G M_X1_yearOf d 0 0 [.ref 20, .int (nI i)] (wQ q ++ r) (.inl (some (.int (q 22 i))), wQ q ++ r) := by
  refine ax_of rfl (by decide) (Nat.le_of_ble_eq_true rfl) ?_
  refine ax_aload_n 0 1 dX1_yearOf_0 rfl rfl rfl ?_
  refine ax_getf 4 dX1_yearOf_1 rfl fl_X1_15 rfl rfl ?_
  refine ax_iload_n 1 5 dX1_yearOf_4 rfl rfl rfl ?_
  refine ax_ialdN 6 dX1_yearOf_5 rfl rfl rfl (by omega) (by decide) ?_
  exact ax_iret dX1_yearOf_6 rfl rfl
theorem s_canBeStruck (i : Nat) (hi : i < 200) : ax_Met G M_X1_canBeStruck d 0 0 [.ref 20, .int (nI i)] (wQ q ++ r) (.inl (some (.int (bI (decide (q 21 i = 1) && decide (q 28 i = 0))))), wQ q ++ r) := by
  refine ax_of rfl (by decide) (Nat.le_of_ble_eq_true rfl) ?_
  refine ax_aload_n 0 1 dX1_canBeStruck_0 rfl rfl rfl ?_
  refine ax_getf 4 dX1_canBeStruck_1 rfl fl_X1_9 rfl rfl ?_
  refine ax_iload_n 1 5 dX1_canBeStruck_4 rfl rfl rfl ?_
  refine ax_ialdN 6 dX1_canBeStruck_5 rfl rfl rfl (by omega) (by decide) ?_
  refine ax_iconst (v := 1) 7 dX1_canBeStruck_6 rfl (by decide) ?_
  refine ax_icmp_ne 23 10 dX1_canBeStruck_7 (by decide) rfl (fun c => ?_) (fun c => ?_)
  · rw [decide_eq_false c, Bool.false_and]
    refine ax_iconst (v := 0) 24 dX1_canBeStruck_23 rfl (by decide) ?_
    exact ax_zret dX1_canBeStruck_24 rfl (by decide) rfl
  · refine ax_aload_n 0 11 dX1_canBeStruck_10 rfl rfl rfl ?_
    refine ax_getf 14 dX1_canBeStruck_11 rfl fl_X1_33 rfl rfl ?_
    refine ax_iload_n 1 15 dX1_canBeStruck_14 rfl rfl rfl ?_
    refine ax_zaldN 16 dX1_canBeStruck_15 rfl rfl rfl (by omega) (by decide) ?_
    refine ax_if_ne 23 19 dX1_canBeStruck_16 (by decide) rfl (fun c2 => ?_) (fun c2 => ?_)
    · rw [decide_eq_false c2, Bool.and_false]
      refine ax_iconst (v := 0) 24 dX1_canBeStruck_23 rfl (by decide) ?_
      exact ax_zret dX1_canBeStruck_24 rfl (by decide) rfl
    · rw [decide_eq_true c, decide_eq_true c2]
      refine ax_iconst (v := 1) 20 dX1_canBeStruck_19 rfl (by decide) ?_
      refine ax_goto 24 dX1_canBeStruck_20 (by decide) ?_
      exact ax_zret dX1_canBeStruck_24 rfl (by decide) rfl
theorem s_markStruck (i : Nat) (hi : i < 200) : ax_Met G M_X1_markStruck d 0 0 [.ref 20, .int (nI i)] (wQ q ++ r) (.inl none, wQ (qv q 28 i 1) ++ r) := by
  refine ax_of rfl (by decide) (Nat.le_of_ble_eq_true rfl) ?_
  refine ax_aload_n 0 1 dX1_markStruck_0 rfl rfl rfl ?_
  refine ax_getf 4 dX1_markStruck_1 rfl fl_X1_33 rfl rfl ?_
  refine ax_iload_n 1 5 dX1_markStruck_4 rfl rfl rfl ?_
  refine ax_iconst (v := 1) 6 dX1_markStruck_5 rfl (by decide) ?_
  refine ax_zastN 7 dX1_markStruck_6 rfl rfl rfl (by omega) (by decide) (by decide) ?_
  rw [wQs_28]
  exact ax_vret dX1_markStruck_7 rfl rfl
theorem s_countCounting (n : Nat) (hn : n ≤ 200) (hc : q 20 9 = nI n) : ax_Met G M_X1_countCounting d 0 0 [.ref 20] (wQ q ++ r) (.inl (some (.int (ctC (q 29) n))), wQ q ++ r) := by
  refine ax_of rfl (by decide) (Nat.le_of_ble_eq_true rfl) ?_
  refine ax_iconst (v := 0) 1 dX1_countCounting_0 rfl (by decide) ?_
  refine ax_istore_n 1 2 dX1_countCounting_1 rfl rfl (Nat.le_of_ble_eq_true rfl) ?_
  refine ax_iconst (v := 0) 3 dX1_countCounting_2 rfl (by decide) ?_
  refine ax_istore_n 2 4 dX1_countCounting_3 rfl rfl (Nat.le_of_ble_eq_true rfl) ?_
  refine ax_lvk (ax_down (P := fun j => ax_Ex G M_X1_countCounting d 0 0 4 [(0, .ref 20), (1, .int (ctC (q 29) j)), (2, .int (nI j))] [] (wQ q ++ r) (.inl (some (.int (ctC (q 29) n))), wQ q ++ r)) (n := n) ?_ (fun j hj ih => ?_) 0 (Nat.zero_le _)) ⟨rfl, rfl, rfl, trivial⟩
  · refine ax_iload_n 2 5 dX1_countCounting_4 rfl rfl rfl ?_
    refine ax_aload_n 0 6 dX1_countCounting_5 rfl rfl rfl ?_
    refine ax_getf 9 dX1_countCounting_6 rfl fl_X1_40 rfl rfl ?_
    rw [hc]
    refine ax_icmp_ge 30 12 dX1_countCounting_9 (by decide) rfl (fun c => ?_) (fun c => ?_)
    · refine ax_iload_n 1 31 dX1_countCounting_30 rfl rfl rfl ?_
      exact ax_iret dX1_countCounting_31 rfl rfl
    · exact absurd (nI_le (Nat.le_refl n) (by omega)) c
  · refine ax_iload_n 2 5 dX1_countCounting_4 rfl rfl rfl ?_
    refine ax_aload_n 0 6 dX1_countCounting_5 rfl rfl rfl ?_
    refine ax_getf 9 dX1_countCounting_6 rfl fl_X1_40 rfl rfl ?_
    rw [hc]
    refine ax_icmp_ge 30 12 dX1_countCounting_9 (by decide) rfl (fun c => ?_) (fun c => ?_)
    · exact absurd c (nI_ge hj (by omega))
    · refine ax_aload_n 0 13 dX1_countCounting_12 rfl rfl rfl ?_
      refine ax_getf 16 dX1_countCounting_13 rfl fl_X1_37 rfl rfl ?_
      refine ax_iload_n 2 17 dX1_countCounting_16 rfl rfl rfl ?_
      refine ax_zaldN 18 dX1_countCounting_17 rfl rfl rfl (by omega) (by decide) ?_
      refine ax_if_eq 24 21 dX1_countCounting_18 (by decide) rfl (fun c2 => ?_) (fun c2 => ?_)
      · refine ax_iinc (v := (_ : Int32) + 1) 27 dX1_countCounting_24 rfl rfl rfl (Nat.le_of_ble_eq_true rfl) ?_
        refine ax_goto 4 dX1_countCounting_27 (by decide) ?_
        exact ax_lvk ih ⟨rfl, gI (by simp only [ctC, itF_s]; rw [if_pos c2]), gI (nI_1 j), trivial⟩
      · refine ax_iinc (v := (_ : Int32) + 1) 24 dX1_countCounting_21 rfl rfl rfl (Nat.le_of_ble_eq_true rfl) ?_
        refine ax_iinc (v := (_ : Int32) + 1) 27 dX1_countCounting_24 rfl rfl rfl (Nat.le_of_ble_eq_true rfl) ?_
        refine ax_goto 4 dX1_countCounting_27 (by decide) ?_
        exact ax_lvk ih ⟨rfl, gI (by simp only [ctC, itF_s]; rw [if_neg c2]), gI (nI_1 j), trivial⟩
theorem s_workLease (hd : 2 ≤ d) (i : Nat) (hi : i < 200) (he : evOK q i) (hk : q 21 i = 0) : ax_Met G M_X1_workLease d 0 0 [.ref 20, .int (nI i), .ref 9] (wQ q ++ r) (.inl (some (.int (bI (evC q i).1))), wQ (evC q i).2 ++ r) := by
  obtain ⟨h1, h2, h3, h4, h5, h6, h7, -⟩ := he
  obtain ⟨h8, h9⟩ := h7 hk
  refine ax_of rfl (by decide) (Nat.le_of_ble_eq_true rfl) ?_
  refine ax_aload_n 2 1 dX1_workLease_0 rfl rfl rfl ?_
  refine ax_aload_n 0 2 dX1_workLease_1 rfl rfl rfl ?_
  refine ax_getf 5 dX1_workLease_2 rfl fl_X1_15 rfl rfl ?_
  refine ax_iload_n 1 6 dX1_workLease_5 rfl rfl rfl ?_
  refine ax_ialdN 7 dX1_workLease_6 rfl rfl rfl (by omega) (by decide) ?_
  refine ax_aload_n 0 8 dX1_workLease_7 rfl rfl rfl ?_
  refine ax_getf 11 dX1_workLease_8 rfl fl_X1_18 rfl rfl ?_
  refine ax_iload_n 1 12 dX1_workLease_11 rfl rfl rfl ?_
  refine ax_ialdN 13 dX1_workLease_12 rfl rfl rfl (by omega) (by decide) ?_
  refine ax_aload_n 0 14 dX1_workLease_13 rfl rfl rfl ?_
  refine ax_getf 17 dX1_workLease_14 rfl fl_X1_21 rfl rfl ?_
  refine ax_iload_n 1 18 dX1_workLease_17 rfl rfl rfl ?_
  refine ax_ialdN 19 dX1_workLease_18 rfl rfl rfl (by omega) (by decide) ?_
  refine ax_aload_n 0 20 dX1_workLease_19 rfl rfl rfl ?_
  refine ax_getf 23 dX1_workLease_20 rfl fl_X1_30 rfl rfl ?_
  refine ax_iload_n 1 24 dX1_workLease_23 rfl rfl rfl ?_
  refine ax_ialdN 25 dX1_workLease_24 rfl rfl rfl (by omega) (by decide) ?_
  rw [h1, h3, h5]
  refine ax_cV 28 dX1_workLease_25 rfl ml_X1_62 (s_hasLeft (d := d - 1) (by omega) _ _ _ _ (by omega)) rfl (by omega) rfl rfl (Nat.le_of_ble_eq_true rfl) ?_
  refine ax_if_ne 33 31 dX1_workLease_28 (by decide) rfl (fun c => ?_) (fun c => ?_)
  · rw [show evC q i = (true, mvC q (24 * yr q i + 4 * vs q i + sp q i) (24 * yr q i + 4 * ot q i + sp q i) (q 27 i)) by unfold evC; rw [if_pos hk, if_pos (of_decide_eq_true (bI_n0.mp c))]]
    refine ax_aload_n 2 34 dX1_workLease_33 rfl rfl rfl ?_
    refine ax_aload_n 0 35 dX1_workLease_34 rfl rfl rfl ?_
    refine ax_getf 38 dX1_workLease_35 rfl fl_X1_15 rfl rfl ?_
    refine ax_iload_n 1 39 dX1_workLease_38 rfl rfl rfl ?_
    refine ax_ialdN 40 dX1_workLease_39 rfl rfl rfl (by omega) (by decide) ?_
    refine ax_aload_n 0 41 dX1_workLease_40 rfl rfl rfl ?_
    refine ax_getf 44 dX1_workLease_41 rfl fl_X1_21 rfl rfl ?_
    refine ax_iload_n 1 45 dX1_workLease_44 rfl rfl rfl ?_
    refine ax_ialdN 46 dX1_workLease_45 rfl rfl rfl (by omega) (by decide) ?_
    refine ax_aload_n 0 47 dX1_workLease_46 rfl rfl rfl ?_
    refine ax_getf 50 dX1_workLease_47 rfl fl_X1_18 rfl rfl ?_
    refine ax_iload_n 1 51 dX1_workLease_50 rfl rfl rfl ?_
    refine ax_ialdN 52 dX1_workLease_51 rfl rfl rfl (by omega) (by decide) ?_
    refine ax_aload_n 0 53 dX1_workLease_52 rfl rfl rfl ?_
    refine ax_getf 56 dX1_workLease_53 rfl fl_X1_24 rfl rfl ?_
    refine ax_iload_n 1 57 dX1_workLease_56 rfl rfl rfl ?_
    refine ax_ialdN 58 dX1_workLease_57 rfl rfl rfl (by omega) (by decide) ?_
    refine ax_aload_n 0 59 dX1_workLease_58 rfl rfl rfl ?_
    refine ax_getf 62 dX1_workLease_59 rfl fl_X1_30 rfl rfl ?_
    refine ax_iload_n 1 63 dX1_workLease_62 rfl rfl rfl ?_
    refine ax_ialdN 64 dX1_workLease_63 rfl rfl rfl (by omega) (by decide) ?_
    rw [h1, h3, h5, h8]
    refine ax_cVv 67 dX1_workLease_64 rfl ml_X1_68 (s_moveLeased (d := d - 1) (by omega) _ _ _ _ _ (by omega) (by omega)) rfl (by omega) rfl rfl (Nat.le_of_ble_eq_true rfl) ?_
    refine ax_iconst (v := 1) 68 dX1_workLease_67 rfl (by decide) ?_
    exact ax_zret dX1_workLease_68 rfl (by decide) rfl
  · rw [show evC q i = (false, q) by unfold evC; rw [if_pos hk, if_neg (of_decide_eq_false (bI_0.mp c))]]
    refine ax_iconst (v := 0) 32 dX1_workLease_31 rfl (by decide) ?_
    exact ax_zret dX1_workLease_32 rfl (by decide) rfl
theorem s_workLanding (hd : 2 ≤ d) (i : Nat) (hi : i < 200) (he : evOK q i) (hk : q 21 i = 1) : ax_Met G M_X1_workLanding d 0 0 [.ref 20, .int (nI i), .ref 9] (wQ q ++ r) (.inl (some (.int (bI (evC q i).1))), wQ (evC q i).2 ++ r) := by
  obtain ⟨h1, h2, h3, h4, h5, h6, -⟩ := he
  have hk0 : ¬ q 21 i = 0 := by rw [hk]; decide
  refine ax_of rfl (by decide) (Nat.le_of_ble_eq_true rfl) ?_
  refine ax_aload_n 0 1 dX1_workLanding_0 rfl rfl rfl ?_
  refine ax_getf 4 dX1_workLanding_1 rfl fl_X1_33 rfl rfl ?_
  refine ax_iload_n 1 5 dX1_workLanding_4 rfl rfl rfl ?_
  refine ax_zaldN 6 dX1_workLanding_5 rfl rfl rfl (by omega) (by decide) ?_
  refine ax_if_eq 11 9 dX1_workLanding_6 (by decide) rfl (fun c => ?_) (fun c => ?_)
  · rw [show evC q i = (true, qv q 14 (24 * yr q i + 4 * vs q i + sp q i) (q 14 (24 * yr q i + 4 * vs q i + sp q i) + q 27 i)) by unfold evC; rw [if_neg hk0, if_pos hk, if_pos c]]
    refine ax_aload_n 2 12 dX1_workLanding_11 rfl rfl rfl ?_
    refine ax_aload_n 0 13 dX1_workLanding_12 rfl rfl rfl ?_
    refine ax_getf 16 dX1_workLanding_13 rfl fl_X1_15 rfl rfl ?_
    refine ax_iload_n 1 17 dX1_workLanding_16 rfl rfl rfl ?_
    refine ax_ialdN 18 dX1_workLanding_17 rfl rfl rfl (by omega) (by decide) ?_
    refine ax_aload_n 0 19 dX1_workLanding_18 rfl rfl rfl ?_
    refine ax_getf 22 dX1_workLanding_19 rfl fl_X1_18 rfl rfl ?_
    refine ax_iload_n 1 23 dX1_workLanding_22 rfl rfl rfl ?_
    refine ax_ialdN 24 dX1_workLanding_23 rfl rfl rfl (by omega) (by decide) ?_
    refine ax_aload_n 0 25 dX1_workLanding_24 rfl rfl rfl ?_
    refine ax_getf 28 dX1_workLanding_25 rfl fl_X1_21 rfl rfl ?_
    refine ax_iload_n 1 29 dX1_workLanding_28 rfl rfl rfl ?_
    refine ax_ialdN 30 dX1_workLanding_29 rfl rfl rfl (by omega) (by decide) ?_
    refine ax_aload_n 0 31 dX1_workLanding_30 rfl rfl rfl ?_
    refine ax_getf 34 dX1_workLanding_31 rfl fl_X1_30 rfl rfl ?_
    refine ax_iload_n 1 35 dX1_workLanding_34 rfl rfl rfl ?_
    refine ax_ialdN 36 dX1_workLanding_35 rfl rfl rfl (by omega) (by decide) ?_
    rw [h1, h3, h5]
    refine ax_cVv 39 dX1_workLanding_36 rfl ml_X1_72 (s_charge (d := d - 1) (by omega) _ _ _ _ (by omega)) rfl (by omega) rfl rfl (Nat.le_of_ble_eq_true rfl) ?_
    refine ax_iconst (v := 1) 40 dX1_workLanding_39 rfl (by decide) ?_
    exact ax_zret dX1_workLanding_40 rfl (by decide) rfl
  · rw [show evC q i = (false, q) by unfold evC; rw [if_neg hk0, if_pos hk, if_neg c]]
    refine ax_iconst (v := 0) 10 dX1_workLanding_9 rfl (by decide) ?_
    exact ax_zret dX1_workLanding_10 rfl (by decide) rfl
theorem s_workEquivalent (hd : 3 ≤ d) (i : Nat) (hi : i < 200) (he : evOK q i) (hk0 : ¬ q 21 i = 0) (hk : ¬ q 21 i = 1) : ax_Met G M_X1_workEquivalent d 0 0 [.ref 20, .int (nI i), .ref 9] (wQ q ++ r) (.inl (some (.int (bI (evC q i).1))), wQ (evC q i).2 ++ r) := by
  obtain ⟨h1, h2, h3, h4, h5, h6, -, h7⟩ := he
  obtain ⟨h8, h9⟩ := h7 hk0 hk
  refine ax_of rfl (by decide) (Nat.le_of_ble_eq_true rfl) ?_
  refine ax_aload_n 2 1 dX1_workEquivalent_0 rfl rfl rfl ?_
  refine ax_aload_n 0 2 dX1_workEquivalent_1 rfl rfl rfl ?_
  refine ax_getf 5 dX1_workEquivalent_2 rfl fl_X1_15 rfl rfl ?_
  refine ax_iload_n 1 6 dX1_workEquivalent_5 rfl rfl rfl ?_
  refine ax_ialdN 7 dX1_workEquivalent_6 rfl rfl rfl (by omega) (by decide) ?_
  refine ax_aload_n 0 8 dX1_workEquivalent_7 rfl rfl rfl ?_
  refine ax_getf 11 dX1_workEquivalent_8 rfl fl_X1_18 rfl rfl ?_
  refine ax_iload_n 1 12 dX1_workEquivalent_11 rfl rfl rfl ?_
  refine ax_ialdN 13 dX1_workEquivalent_12 rfl rfl rfl (by omega) (by decide) ?_
  refine ax_aload_n 0 14 dX1_workEquivalent_13 rfl rfl rfl ?_
  refine ax_getf 17 dX1_workEquivalent_14 rfl fl_X1_21 rfl rfl ?_
  refine ax_iload_n 1 18 dX1_workEquivalent_17 rfl rfl rfl ?_
  refine ax_ialdN 19 dX1_workEquivalent_18 rfl rfl rfl (by omega) (by decide) ?_
  refine ax_aload_n 0 20 dX1_workEquivalent_19 rfl rfl rfl ?_
  refine ax_getf 23 dX1_workEquivalent_20 rfl fl_X1_24 rfl rfl ?_
  refine ax_iload_n 1 24 dX1_workEquivalent_23 rfl rfl rfl ?_
  refine ax_ialdN 25 dX1_workEquivalent_24 rfl rfl rfl (by omega) (by decide) ?_
  refine ax_aload_n 0 26 dX1_workEquivalent_25 rfl rfl rfl ?_
  refine ax_getf 29 dX1_workEquivalent_26 rfl fl_X1_27 rfl rfl ?_
  refine ax_iload_n 1 30 dX1_workEquivalent_29 rfl rfl rfl ?_
  refine ax_ialdN 31 dX1_workEquivalent_30 rfl rfl rfl (by omega) (by decide) ?_
  refine ax_aload_n 0 32 dX1_workEquivalent_31 rfl rfl rfl ?_
  refine ax_getf 35 dX1_workEquivalent_32 rfl fl_X1_30 rfl rfl ?_
  refine ax_iload_n 1 36 dX1_workEquivalent_35 rfl rfl rfl ?_
  refine ax_ialdN 37 dX1_workEquivalent_36 rfl rfl rfl (by omega) (by decide) ?_
  rw [h1, h3, h5, h8]
  refine ax_cV 40 dX1_workEquivalent_37 rfl ml_X1_76 (s_canExchange (d := d - 1) (by omega) _ _ _ _ _ _ (by omega) (by omega) (by omega)) rfl (by omega) rfl rfl (Nat.le_of_ble_eq_true rfl) ?_
  refine ax_if_ne 45 43 dX1_workEquivalent_40 (by decide) rfl (fun c => ?_) (fun c => ?_)
  · rw [show evC q i = (true, exC q (24 * yr q i + 4 * vs q i + sp q i) (24 * yr q i + 4 * vs q i + ot q i) (6 * yr q i + vs q i) (q 26 i) (q 27 i)) by unfold evC; rw [if_neg hk0, if_neg hk, if_pos (bI_n0.mp c)]]
    refine ax_aload_n 2 46 dX1_workEquivalent_45 rfl rfl rfl ?_
    refine ax_aload_n 0 47 dX1_workEquivalent_46 rfl rfl rfl ?_
    refine ax_getf 50 dX1_workEquivalent_47 rfl fl_X1_15 rfl rfl ?_
    refine ax_iload_n 1 51 dX1_workEquivalent_50 rfl rfl rfl ?_
    refine ax_ialdN 52 dX1_workEquivalent_51 rfl rfl rfl (by omega) (by decide) ?_
    refine ax_aload_n 0 53 dX1_workEquivalent_52 rfl rfl rfl ?_
    refine ax_getf 56 dX1_workEquivalent_53 rfl fl_X1_18 rfl rfl ?_
    refine ax_iload_n 1 57 dX1_workEquivalent_56 rfl rfl rfl ?_
    refine ax_ialdN 58 dX1_workEquivalent_57 rfl rfl rfl (by omega) (by decide) ?_
    refine ax_aload_n 0 59 dX1_workEquivalent_58 rfl rfl rfl ?_
    refine ax_getf 62 dX1_workEquivalent_59 rfl fl_X1_21 rfl rfl ?_
    refine ax_iload_n 1 63 dX1_workEquivalent_62 rfl rfl rfl ?_
    refine ax_ialdN 64 dX1_workEquivalent_63 rfl rfl rfl (by omega) (by decide) ?_
    refine ax_aload_n 0 65 dX1_workEquivalent_64 rfl rfl rfl ?_
    refine ax_getf 68 dX1_workEquivalent_65 rfl fl_X1_24 rfl rfl ?_
    refine ax_iload_n 1 69 dX1_workEquivalent_68 rfl rfl rfl ?_
    refine ax_ialdN 70 dX1_workEquivalent_69 rfl rfl rfl (by omega) (by decide) ?_
    refine ax_aload_n 0 71 dX1_workEquivalent_70 rfl rfl rfl ?_
    refine ax_getf 74 dX1_workEquivalent_71 rfl fl_X1_27 rfl rfl ?_
    refine ax_iload_n 1 75 dX1_workEquivalent_74 rfl rfl rfl ?_
    refine ax_ialdN 76 dX1_workEquivalent_75 rfl rfl rfl (by omega) (by decide) ?_
    refine ax_aload_n 0 77 dX1_workEquivalent_76 rfl rfl rfl ?_
    refine ax_getf 80 dX1_workEquivalent_77 rfl fl_X1_30 rfl rfl ?_
    refine ax_iload_n 1 81 dX1_workEquivalent_80 rfl rfl rfl ?_
    refine ax_ialdN 82 dX1_workEquivalent_81 rfl rfl rfl (by omega) (by decide) ?_
    rw [h1, h3, h5, h8]
    refine ax_cVv 85 dX1_workEquivalent_82 rfl ml_X1_80 (s_exchange (d := d - 1) (by omega) _ _ _ _ _ _ (by omega) (by omega) (by omega)) rfl (by omega) rfl rfl (Nat.le_of_ble_eq_true rfl) ?_
    refine ax_iconst (v := 1) 86 dX1_workEquivalent_85 rfl (by decide) ?_
    exact ax_zret dX1_workEquivalent_86 rfl (by decide) rfl
  · rw [show evC q i = (false, q) by unfold evC; rw [if_neg hk0, if_neg hk, if_neg (by rw [bI_0.mp c]; decide)]]
    refine ax_iconst (v := 0) 44 dX1_workEquivalent_43 rfl (by decide) ?_
    exact ax_zret dX1_workEquivalent_44 rfl (by decide) rfl
theorem s_work (hd : 4 ≤ d) (i : Nat) (hi : i < 200) (he : evOK q i) : ax_Met G M_X1_work d 0 0 [.ref 20, .int (nI i), .ref 9] (wQ q ++ r) (.inl none, wQ (wkC q i) ++ r) := by
  refine ax_of rfl (by decide) (Nat.le_of_ble_eq_true rfl) ?_
  refine ax_aload_n 0 1 dX1_work_0 rfl rfl rfl ?_
  refine ax_getf 4 dX1_work_1 rfl fl_X1_9 rfl rfl ?_
  refine ax_iload_n 1 5 dX1_work_4 rfl rfl rfl ?_
  refine ax_ialdN 6 dX1_work_5 rfl rfl rfl (by omega) (by decide) ?_
  by_cases hk : q 21 i = 0
  · refine ax_lookup (off := 26) 32 dX1_work_6 (by decide) (by rw [hk]; decide) (by decide) ?_
    refine ax_aload_n 0 33 dX1_work_32 rfl rfl rfl ?_
    refine ax_getf 36 dX1_work_33 rfl fl_X1_37 rfl rfl ?_
    refine ax_iload_n 1 37 dX1_work_36 rfl rfl rfl ?_
    refine ax_aload_n 0 38 dX1_work_37 rfl rfl rfl ?_
    refine ax_iload_n 1 39 dX1_work_38 rfl rfl rfl ?_
    refine ax_aload_n 2 40 dX1_work_39 rfl rfl rfl ?_
    refine ax_cV 43 dX1_work_40 rfl ml_X1_52 (s_workLease (d := d - 1) (by omega) i hi he hk) rfl (by omega) rfl rfl (Nat.le_of_ble_eq_true rfl) ?_
    refine ax_zastN 44 dX1_work_43 rfl rfl rfl (by omega) (by decide) (bI_vp _) ?_
    rw [wQs_29]
    refine ax_goto 74 dX1_work_44 (by decide) ?_
    exact ax_vret dX1_work_74 rfl rfl
  · by_cases hk1 : q 21 i = 1
    · refine ax_lookup (off := 41) 47 dX1_work_6 (by decide) (by rw [hk1]; decide) (by decide) ?_
      refine ax_aload_n 0 48 dX1_work_47 rfl rfl rfl ?_
      refine ax_getf 51 dX1_work_48 rfl fl_X1_37 rfl rfl ?_
      refine ax_iload_n 1 52 dX1_work_51 rfl rfl rfl ?_
      refine ax_aload_n 0 53 dX1_work_52 rfl rfl rfl ?_
      refine ax_iload_n 1 54 dX1_work_53 rfl rfl rfl ?_
      refine ax_aload_n 2 55 dX1_work_54 rfl rfl rfl ?_
      refine ax_cV 58 dX1_work_55 rfl ml_X1_56 (s_workLanding (d := d - 1) (by omega) i hi he hk1) rfl (by omega) rfl rfl (Nat.le_of_ble_eq_true rfl) ?_
      refine ax_zastN 59 dX1_work_58 rfl rfl rfl (by omega) (by decide) (bI_vp _) ?_
      rw [wQs_29]
      refine ax_goto 74 dX1_work_59 (by decide) ?_
      exact ax_vret dX1_work_74 rfl rfl
    · refine ax_lookup (off := 56) 62 dX1_work_6 (by decide) ((lv_osw hk rfl).trans (lv_osw hk1 rfl)) (by decide) ?_
      refine ax_aload_n 0 63 dX1_work_62 rfl rfl rfl ?_
      refine ax_getf 66 dX1_work_63 rfl fl_X1_37 rfl rfl ?_
      refine ax_iload_n 1 67 dX1_work_66 rfl rfl rfl ?_
      refine ax_aload_n 0 68 dX1_work_67 rfl rfl rfl ?_
      refine ax_iload_n 1 69 dX1_work_68 rfl rfl rfl ?_
      refine ax_aload_n 2 70 dX1_work_69 rfl rfl rfl ?_
      refine ax_cV 73 dX1_work_70 rfl ml_X1_59 (s_workEquivalent (d := d - 1) (by omega) i hi he hk hk1) rfl (by omega) rfl rfl (Nat.le_of_ble_eq_true rfl) ?_
      refine ax_zastN 74 dX1_work_73 rfl rfl rfl (by omega) (by decide) (bI_vp _) ?_
      rw [wQs_29]
      exact ax_vret dX1_work_74 rfl rfl
theorem s_workYear (hd : 5 ≤ d) (t n : Nat) (hn : n ≤ 200) (hc : q 20 9 = nI n) (he : ∀ i, i < n → evOK q i) : ax_Met G M_X1_workYear d 0 0 [.ref 20, .int (nI t), .ref 9] (wQ q ++ r) (.inl none, wQ (wyC q t n) ++ r) := by
  refine ax_of rfl (by decide) (Nat.le_of_ble_eq_true rfl) ?_
  refine ax_iconst (v := 0) 1 dX1_workYear_0 rfl (by decide) ?_
  refine ax_istore_n 3 2 dX1_workYear_1 rfl rfl (Nat.le_of_ble_eq_true rfl) ?_
  refine ax_lvk (ax_down (P := fun j => ax_Ex G M_X1_workYear d 0 0 2 [(0, .ref 20), (1, .int (nI t)), (2, .ref 9), (3, .int (nI j))] [] (wQ (wyC q t j) ++ r) (.inl none, wQ (wyC q t n) ++ r)) (n := n) ?_ (fun j hj ih => ?_) 0 (Nat.zero_le _)) ⟨rfl, rfl, rfl, rfl, trivial⟩
  · refine ax_iload_n 3 3 dX1_workYear_2 rfl rfl rfl ?_
    refine ax_aload_n 0 4 dX1_workYear_3 rfl rfl rfl ?_
    refine ax_getf 7 dX1_workYear_4 rfl fl_X1_40 rfl rfl ?_
    rw [wyC_k (by decide) (by decide) (by decide) (by decide), hc]
    refine ax_icmp_ge 32 10 dX1_workYear_7 (by decide) rfl (fun c => ?_) (fun c => ?_)
    · exact ax_vret dX1_workYear_32 rfl rfl
    · exact absurd (nI_le (Nat.le_refl n) (by omega)) c
  · refine ax_iload_n 3 3 dX1_workYear_2 rfl rfl rfl ?_
    refine ax_aload_n 0 4 dX1_workYear_3 rfl rfl rfl ?_
    refine ax_getf 7 dX1_workYear_4 rfl fl_X1_40 rfl rfl ?_
    rw [wyC_k (by decide) (by decide) (by decide) (by decide), hc]
    refine ax_icmp_ge 32 10 dX1_workYear_7 (by decide) rfl (fun c => ?_) (fun c => ?_)
    · exact absurd c (nI_ge hj (by omega))
    · have hev : evOK (wyC q t j) j := evOK_eq (wyC_k (by decide) (by decide) (by decide) (by decide)) (wyC_k (by decide) (by decide) (by decide) (by decide)) (wyC_k (by decide) (by decide) (by decide) (by decide)) (wyC_k (by decide) (by decide) (by decide) (by decide)) (wyC_k (by decide) (by decide) (by decide) (by decide)) (he j hj)
      refine ax_aload_n 0 11 dX1_workYear_10 rfl rfl rfl ?_
      refine ax_getf 14 dX1_workYear_11 rfl fl_X1_15 rfl rfl ?_
      refine ax_iload_n 3 15 dX1_workYear_14 rfl rfl rfl ?_
      refine ax_ialdN 16 dX1_workYear_15 rfl rfl rfl (by omega) (by decide) ?_
      refine ax_iload_n 1 17 dX1_workYear_16 rfl rfl rfl ?_
      refine ax_icmp_ne 26 20 dX1_workYear_17 (by decide) rfl (fun c2 => ?_) (fun c2 => ?_)
      · refine ax_iinc (v := (_ : Int32) + 1) 29 dX1_workYear_26 rfl rfl rfl (Nat.le_of_ble_eq_true rfl) ?_
        refine ax_goto 2 dX1_workYear_29 (by decide) ?_
        rw [show wyC q t (j + 1) = wyC q t j from if_neg c2] at ih
        exact ax_lvk ih ⟨rfl, rfl, rfl, gI (nI_1 j), trivial⟩
      · refine ax_aload_n 0 21 dX1_workYear_20 rfl rfl rfl ?_
        refine ax_iload_n 3 22 dX1_workYear_21 rfl rfl rfl ?_
        refine ax_aload_n 2 23 dX1_workYear_22 rfl rfl rfl ?_
        refine ax_cVv 26 dX1_workYear_23 rfl ml_X1_48 (s_work (d := d - 1) (by omega) j (by omega) hev) rfl (by omega) rfl rfl (Nat.le_of_ble_eq_true rfl) ?_
        refine ax_iinc (v := (_ : Int32) + 1) 29 dX1_workYear_26 rfl rfl rfl (Nat.le_of_ble_eq_true rfl) ?_
        refine ax_goto 2 dX1_workYear_29 (by decide) ?_
        rw [show wyC q t (j + 1) = wkC (wyC q t j) j from if_pos c2] at ih
        exact ax_lvk ih ⟨rfl, rfl, rfl, gI (nI_1 j), trivial⟩
end EV
