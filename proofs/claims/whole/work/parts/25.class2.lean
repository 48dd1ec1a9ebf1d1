/-! the class's own methods, second part: years and events -/
def opC (q : Nat → Nat → Int32) (x : Int32) : Bool := ntz (q 0 7) && decide (x = q 0 6)
def tkC (q : Nat → Nat → Int32) (x : Int32) : Bool := opC q x || ntz (q 30 (tN x))
def lwF (kg f u : Int32) : Int32 := if u = 0 then ((kg.toInt64 * f.toInt64 + 500) / 1000).toInt32 else (((kg.toInt64 * f.toInt64 + 500) / 1000).toInt32 + 1) / 2
def eqF (kg a b : Int32) : Int32 := (kg * a + b - 1) / b
def yC (q : Nat → Nat → Int32) (n j : Nat) : Nat → Nat → Int32 := if opC (wyC (begC q j) j n) (nI j) = true then wyC (begC q j) j n else setC (wyC (begC q j) j n) j
def waC (q : Nat → Nat → Int32) (n t m : Nat) : Nat → Nat → Int32 := itF (fun i q => yC q n (t + i)) m q
theorem itF_k {α : Type} {f : Nat → (Nat → α) → Nat → α} {k : Nat} (h : ∀ i q, f i q k = q k) : ∀ (n : Nat) (q : Nat → α), itF f n q k = q k
  | 0, _ => rfl
  | n + 1, q => by rw [itF_s, h, itF_k h n q]
theorem begC_k {q : Nat → Nat → Int32} {y k : Nat} (h1 : k ≠ 11) (h2 : k ≠ 12) (h3 : k ≠ 13) (h4 : k ≠ 14) (h5 : k ≠ 18) : begC q y k = q k := by
  unfold begC
  rw [itF_k (fun i q => qv_n h5), itF_k (fun i q => by unfold bg1; rw [qv_n h3, qv_n h2, qv_n h4, qv_n h1])]
theorem setC_k {q : Nat → Nat → Int32} {y k : Nat} (h1 : k ≠ 15) (h2 : k ≠ 16) (h3 : k ≠ 17) : setC q y k = q k := by
  unfold setC
  rw [itF_k (fun i q => by unfold st1; rw [qv_n h3, qv_n h2, qv_n h1])]
/-- which cells the work of years leaves as they are -/
def kpY (k : Nat) : Bool := decide (k ≤ 10) || (decide (19 ≤ k) && !decide (k = 29))
theorem yC_k {q : Nat → Nat → Int32} {n j k : Nat} (h : kpY k = true) : yC q n j k = q k := by
  have hk : k ≤ 10 ∨ (19 ≤ k ∧ k ≠ 29) := by simpa [kpY] using h
  have e1 : wyC (begC q j) j n k = q k := by rw [wyC_k (by omega) (by omega) (by omega) (by omega), begC_k (by omega) (by omega) (by omega) (by omega) (by omega)]
  unfold yC
  split
  · exact e1
  · rw [setC_k (by omega) (by omega) (by omega)]; exact e1
theorem waC_k {q : Nat → Nat → Int32} {n t m k : Nat} (h : kpY k = true) : waC q n t m k = q k := by
  unfold waC
  rw [itF_k (fun i q => yC_k h)]
theorem al2_k {q : Nat → Nat → Int32} {y s k : Nat} (h1 : k ≠ 10) (h2 : k ≠ 19) : al2 y s q k = q k := by
  unfold al2; rw [qv_n h2, qv_n h1]
theorem alS_k {q : Nat → Nat → Int32} {lim : Int32} {y s k : Nat} (h1 : k ≠ 10) (h2 : k ≠ 19) : ∀ n : Nat, (alS lim y s n q).1 k = q k
  | 0 => rfl
  | n + 1 => by
    unfold alS
    rw [itF_s]
    unfold al1
    dsimp only
    rw [qv_n h2, qv_n h1]
    exact alS_k h1 h2 n
theorem allotC_k {q : Nat → Nat → Int32} {lim : Int32} {y s k : Nat} (h1 : k ≠ 10) (h2 : k ≠ 19) : allotC q lim y s k = q k := by
  unfold allotC
  rw [itF_k (fun i q => al2_k h1 h2), alS_k h1 h2]
section C2
variable {G : ax_G} {d : Nat} {q : Nat → Nat → Int32} {r : ax_W}
theorem s_wasOpened (hd : 1 ≤ d) (x : Int32) : ax_Met G M_X3_wasOpened d 0 0 [.ref 0, .int x] (wQ q ++ r) (.inl (some (.int (bI (isW x 1 (q 0 6))))), wQ q ++ r) := by
  refine ax_of rfl (by decide) (Nat.le_of_ble_eq_true rfl) ?_
  refine ax_iload_n 1 1 dX3_wasOpened_0 rfl rfl rfl ?_
  refine ax_iconst (v := 1) 2 dX3_wasOpened_1 rfl (by decide) ?_
  refine ax_aload_n 0 3 dX3_wasOpened_2 rfl rfl rfl ?_
  refine ax_getf 6 dX3_wasOpened_3 rfl fl_X3_41 rfl rfl ?_
  refine ax_cS 9 dX3_wasOpened_6 rfl ml_X3_59 (s_isWithin (d := d - 1) x 1 _) (by omega) rfl rfl (Nat.le_of_ble_eq_true rfl) ?_
  exact ax_zret dX3_wasOpened_9 rfl (bI_nar _) rfl
theorem s_isOpen (x : Int32) : ax_Met G M_X3_isOpen d 0 0 [.ref 0, .int x] (wQ q ++ r) (.inl (some (.int (bI (opC q x)))), wQ q ++ r) := by
  refine ax_of rfl (by decide) (Nat.le_of_ble_eq_true rfl) ?_
  refine ax_aload_n 0 1 dX3_isOpen_0 rfl rfl rfl ?_
  refine ax_getf 4 dX3_isOpen_1 rfl fl_X3_45 rfl rfl ?_
  refine ax_if_eq 19 7 dX3_isOpen_4 (by decide) rfl (fun c => ?_) (fun c => ?_)
  · rw [show opC q x = false by simp [opC, ntz_f c]]
    refine ax_iconst (v := 0) 20 dX3_isOpen_19 rfl (by decide) ?_
    exact ax_zret dX3_isOpen_20 rfl (by decide) rfl
  · refine ax_iload_n 1 8 dX3_isOpen_7 rfl rfl rfl ?_
    refine ax_aload_n 0 9 dX3_isOpen_8 rfl rfl rfl ?_
    refine ax_getf 12 dX3_isOpen_9 rfl fl_X3_41 rfl rfl ?_
    refine ax_icmp_ne 19 15 dX3_isOpen_12 (by decide) rfl (fun c2 => ?_) (fun c2 => ?_)
    · rw [show opC q x = false by simp [opC, c2]]
      refine ax_iconst (v := 0) 20 dX3_isOpen_19 rfl (by decide) ?_
      exact ax_zret dX3_isOpen_20 rfl (by decide) rfl
    · rw [show opC q x = true by simp [opC, ntz_t c, c2]]
      refine ax_iconst (v := 1) 16 dX3_isOpen_15 rfl (by decide) ?_
      refine ax_goto 20 dX3_isOpen_16 (by decide) ?_
      exact ax_zret dX3_isOpen_20 rfl (by decide) rfl
theorem s_takesChanges (hd : 1 ≤ d) (t : Nat) (ht : t ≤ 8) : ax_Met G M_X3_takesChanges d 0 0 [.ref 0, .int (nI t)] (wQ q ++ r) (.inl (some (.int (bI (tkC q (nI t))))), wQ q ++ r) := by
  refine ax_of rfl (by decide) (Nat.le_of_ble_eq_true rfl) ?_
  have et : tN (nI t) = t := tN_nI (by omega)
  refine ax_aload_n 0 1 dX3_takesChanges_0 rfl rfl rfl ?_
  refine ax_iload_n 1 2 dX3_takesChanges_1 rfl rfl rfl ?_
  refine ax_cV 5 dX3_takesChanges_2 rfl ml_X3_310 (s_isOpen (d := d - 1) (nI t)) rfl (by omega) rfl rfl (Nat.le_of_ble_eq_true rfl) ?_
  refine ax_if_ne 17 8 dX3_takesChanges_5 (by decide) rfl (fun c => ?_) (fun c => ?_)
  · rw [show tkC q (nI t) = true by simp [tkC, bI_n0.mp c]]
    refine ax_iconst (v := 1) 18 dX3_takesChanges_17 rfl (by decide) ?_
    refine ax_goto 22 dX3_takesChanges_18 (by decide) ?_
    exact ax_zret dX3_takesChanges_22 rfl (by decide) rfl
  · refine ax_aload_n 0 9 dX3_takesChanges_8 rfl rfl rfl ?_
    refine ax_getf 12 dX3_takesChanges_9 rfl fl_X3_37 rfl rfl ?_
    refine ax_iload_n 1 13 dX3_takesChanges_12 rfl rfl rfl ?_
    refine ax_zaldN 14 dX3_takesChanges_13 rfl rfl rfl (by omega) (by decide) ?_
    refine ax_if_eq 21 17 dX3_takesChanges_14 (by decide) rfl (fun c2 => ?_) (fun c2 => ?_)
    · rw [show tkC q (nI t) = false by rw [tkC, bI_0.mp c, et, ntz_f c2]; rfl]
      refine ax_iconst (v := 0) 22 dX3_takesChanges_21 rfl (by decide) ?_
      exact ax_zret dX3_takesChanges_22 rfl (by decide) rfl
    · rw [show tkC q (nI t) = true by rw [tkC, et, ntz_t c2, Bool.or_true]]
      refine ax_iconst (v := 1) 18 dX3_takesChanges_17 rfl (by decide) ?_
      refine ax_goto 22 dX3_takesChanges_18 (by decide) ?_
      exact ax_zret dX3_takesChanges_22 rfl (by decide) rfl
theorem s_liveWeight {w : ax_W} (kg f u : Int32) : ax_Met G M_X3_liveWeight d 0 0 [.int kg, .int f, .int u] w (.inl (some (.int (lwF kg f u))), w) := by
  refine ax_of rfl (by decide) (Nat.le_of_ble_eq_true rfl) ?_
  refine ax_iload_n 0 1 dX3_liveWeight_0 rfl rfl rfl ?_
  refine ax_i2l 2 dX3_liveWeight_1 rfl ?_
  refine ax_iload_n 1 3 dX3_liveWeight_2 rfl rfl rfl ?_
  refine ax_i2l 4 dX3_liveWeight_3 rfl ?_
  refine ax_lmul 5 dX3_liveWeight_4 rfl ?_
  refine ax_ldc2 (v := 500) 8 dX3_liveWeight_5 rfl cj_X3_313 ?_
  refine ax_ladd 9 dX3_liveWeight_8 rfl ?_
  refine ax_ldc2 (v := 1000) 12 dX3_liveWeight_9 rfl cj_X3_315 ?_
  refine ax_ldiv 13 dX3_liveWeight_12 rfl (by decide) ?_
  refine ax_l2i 14 dX3_liveWeight_13 rfl ?_
  refine ax_istore_n 3 15 dX3_liveWeight_14 rfl rfl (Nat.le_of_ble_eq_true rfl) ?_
  refine ax_iload_n 2 16 dX3_liveWeight_15 rfl rfl rfl ?_
  refine ax_if_eq 27 19 dX3_liveWeight_16 (by decide) rfl (fun c => ?_) (fun c => ?_)
  · rw [show lwF kg f u = ((kg.toInt64 * f.toInt64 + 500) / 1000).toInt32 from if_pos c]
    refine ax_iload_n 3 28 dX3_liveWeight_27 rfl rfl rfl ?_
    exact ax_iret dX3_liveWeight_28 rfl rfl
  · rw [show lwF kg f u = (((kg.toInt64 * f.toInt64 + 500) / 1000).toInt32 + 1) / 2 from if_neg c]
    refine ax_iload_n 3 20 dX3_liveWeight_19 rfl rfl rfl ?_
    refine ax_iconst (v := 1) 21 dX3_liveWeight_20 rfl (by decide) ?_
    refine ax_iadd 22 dX3_liveWeight_21 rfl ?_
    refine ax_iconst (v := 2) 23 dX3_liveWeight_22 rfl (by decide) ?_
    refine ax_idiv 24 dX3_liveWeight_23 rfl (by decide) ?_
    refine ax_goto 28 dX3_liveWeight_24 (by decide) ?_
    exact ax_iret dX3_liveWeight_28 rfl rfl
theorem s_equalWeight {w : ax_W} (kg a b : Int32) (hb : ¬ b = 0) : ax_Met G M_X3_equalWeight d 0 0 [.int kg, .int a, .int b] w (.inl (some (.int (eqF kg a b))), w) := by
  refine ax_of rfl (by decide) (Nat.le_of_ble_eq_true rfl) ?_
  refine ax_iload_n 0 1 dX3_equalWeight_0 rfl rfl rfl ?_
  refine ax_iload_n 1 2 dX3_equalWeight_1 rfl rfl rfl ?_
  refine ax_imul 3 dX3_equalWeight_2 rfl ?_
  refine ax_iload_n 2 4 dX3_equalWeight_3 rfl rfl rfl ?_
  refine ax_iadd 5 dX3_equalWeight_4 rfl ?_
  refine ax_iconst (v := 1) 6 dX3_equalWeight_5 rfl (by decide) ?_
  refine ax_isub 7 dX3_equalWeight_6 rfl ?_
  refine ax_iload_n 2 8 dX3_equalWeight_7 rfl rfl rfl ?_
  refine ax_idiv 9 dX3_equalWeight_8 rfl hb ?_
  exact ax_iret dX3_equalWeight_9 rfl rfl
theorem s_workAnew (hd : 6 ≤ d) (t y n : Nat) (ht : 1 ≤ t) (hty : t ≤ y) (hy8 : y ≤ 8) (hy : q 0 6 = nI y) (hn : n ≤ 200) (hc : q 20 9 = nI n) (he : ∀ i, i < n → evOK q i) : ax_Met G M_X3_workAnew d 0 0 [.ref 0, .int (nI t)] (wQ q ++ r) (.inl none, wQ (waC q n t (y + 1 - t)) ++ r) := by
  refine ax_of rfl (by decide) (Nat.le_of_ble_eq_true rfl) ?_
  refine ax_iload_n 1 1 dX3_workAnew_0 rfl rfl rfl ?_
  refine ax_istore_n 2 2 dX3_workAnew_1 rfl rfl (Nat.le_of_ble_eq_true rfl) ?_
  refine ax_lvk (ax_down (P := fun j => ax_Ex G M_X3_workAnew d 0 0 2 [(0, .ref 0), (2, .int (nI (t + j)))] [] (wQ (waC q n t j) ++ r) (.inl none, wQ (waC q n t (y + 1 - t)) ++ r)) (n := y + 1 - t) ?_ (fun j hj ih => ?_) 0 (Nat.zero_le _)) ⟨rfl, rfl, trivial⟩
  · refine ax_iload_n 2 3 dX3_workAnew_2 rfl rfl rfl ?_
    refine ax_aload_n 0 4 dX3_workAnew_3 rfl rfl rfl ?_
    refine ax_getf 7 dX3_workAnew_4 rfl fl_X3_41 rfl rfl ?_
    rw [waC_k rfl, hy]
    refine ax_icmp_gt 52 10 dX3_workAnew_7 (by decide) rfl (fun c => ?_) (fun c => ?_)
    · exact ax_vret dX3_workAnew_52 rfl rfl
    · exact absurd (nI_lt (show y < t + (y + 1 - t) by omega) (by omega)) c
  · refine ax_iload_n 2 3 dX3_workAnew_2 rfl rfl rfl ?_
    refine ax_aload_n 0 4 dX3_workAnew_3 rfl rfl rfl ?_
    refine ax_getf 7 dX3_workAnew_4 rfl fl_X3_41 rfl rfl ?_
    rw [waC_k rfl, hy]
    refine ax_icmp_gt 52 10 dX3_workAnew_7 (by decide) rfl (fun c => ?_) (fun c => ?_)
    · exact absurd c (nI_nlt (show t + j ≤ y by omega) (by omega))
    · have hc1 : begC (waC q n t j) (t + j) 20 9 = nI n := by rw [begC_k (by decide) (by decide) (by decide) (by decide) (by decide), waC_k rfl]; exact hc
      have he1 : ∀ i, i < n → evOK (begC (waC q n t j) (t + j)) i := fun i hi => by
        refine evOK_eq ?_ ?_ ?_ ?_ ?_ (he i hi)
        all_goals rw [begC_k (by decide) (by decide) (by decide) (by decide) (by decide), waC_k rfl]
      refine ax_aload_n 0 11 dX3_workAnew_10 rfl rfl rfl ?_
      refine ax_getf 14 dX3_workAnew_11 rfl fl_X3_26 rfl rfl ?_
      refine ax_iload_n 2 15 dX3_workAnew_14 rfl rfl rfl ?_
      refine ax_cVv 18 dX3_workAnew_15 rfl ml_X3_180 (s_begin (d := d - 1) (by omega) (t + j) (by omega) (by omega)) rfl (by omega) rfl rfl (Nat.le_of_ble_eq_true rfl) ?_
      refine ax_aload_n 0 19 dX3_workAnew_18 rfl rfl rfl ?_
      refine ax_getf 22 dX3_workAnew_19 rfl fl_X3_33 rfl rfl ?_
      refine ax_iload_n 2 23 dX3_workAnew_22 rfl rfl rfl ?_
      refine ax_aload_n 0 24 dX3_workAnew_23 rfl rfl rfl ?_
      refine ax_getf 27 dX3_workAnew_24 rfl fl_X3_26 rfl rfl ?_
      refine ax_cVv 30 dX3_workAnew_27 rfl ml_X3_317 (s_workYear (d := d - 1) (by omega) (t + j) n hn hc1 he1) rfl (by omega) rfl rfl (Nat.le_of_ble_eq_true rfl) ?_
      refine ax_aload_n 0 31 dX3_workAnew_30 rfl rfl rfl ?_
      refine ax_iload_n 2 32 dX3_workAnew_31 rfl rfl rfl ?_
      refine ax_cV 35 dX3_workAnew_32 rfl ml_X3_310 (s_isOpen (d := d - 1) (nI (t + j))) rfl (by omega) rfl rfl (Nat.le_of_ble_eq_true rfl) ?_
      refine ax_if_ne 46 38 dX3_workAnew_35 (by decide) rfl (fun c2 => ?_) (fun c2 => ?_)
      · refine ax_iinc (v := (_ : Int32) + 1) 49 dX3_workAnew_46 rfl rfl rfl (Nat.le_of_ble_eq_true rfl) ?_
        refine ax_goto 2 dX3_workAnew_49 (by decide) ?_
        rw [show waC q n t (j + 1) = wyC (begC (waC q n t j) (t + j)) (t + j) n from if_pos (bI_n0.mp c2)] at ih
        exact ax_lvk ih ⟨rfl, gI (nI_1 (t + j)), trivial⟩
      · refine ax_aload_n 0 39 dX3_workAnew_38 rfl rfl rfl ?_
        refine ax_getf 42 dX3_workAnew_39 rfl fl_X3_26 rfl rfl ?_
        refine ax_iload_n 2 43 dX3_workAnew_42 rfl rfl rfl ?_
        refine ax_cVv 46 dX3_workAnew_43 rfl ml_X3_186 (s_settle (d := d - 1) (by omega) (t + j) (by omega)) rfl (by omega) rfl rfl (Nat.le_of_ble_eq_true rfl) ?_
        refine ax_iinc (v := (_ : Int32) + 1) 49 dX3_workAnew_46 rfl rfl rfl (Nat.le_of_ble_eq_true rfl) ?_
        refine ax_goto 2 dX3_workAnew_49 (by decide) ?_
        rw [show waC q n t (j + 1) = setC (wyC (begC (waC q n t j) (t + j)) (t + j) n) (t + j) from if_neg (fun z => absurd ((bI_0.mp c2).symm.trans z) (by decide))] at ih
        exact ax_lvk ih ⟨rfl, gI (nI_1 (t + j)), trivial⟩
def lvV (q : Nat → Nat → Int32) (v y n : Nat) : Int64 := itF (fun s a => a + (q 17 (24 * y + 4 * v + s)).toInt64 * (q 1 s).toInt64) n 0
def lvO (q : Nat → Nat → Int32) (o : Int32) (y n : Nat) : Int64 := itF (fun v a => if q 6 v = o then a + lvV q v y 4 else a) n 0
theorem s_levyOfVessel (hd : 2 ≤ d) (v y : Nat) (hv : v < 6) (hy : y ≤ 8) : ax_Met G M_X3_levyOfVessel d 0 0 [.ref 0, .int (nI v), .int (nI y)] (wQ q ++ r) (.inl (some (.long (lvV q v y 4))), wQ q ++ r) := by
  refine ax_of rfl (by decide) (Nat.le_of_ble_eq_true rfl) ?_
  refine ax_lconst (v := 0) 1 dX3_levyOfVessel_0 rfl (by decide) ?_
  refine ax_lstore_n 3 2 dX3_levyOfVessel_1 rfl rfl (Nat.le_of_ble_eq_true rfl) ?_
  refine ax_iconst (v := 0) 3 dX3_levyOfVessel_2 rfl (by decide) ?_
  refine ax_istore 5 dX3_levyOfVessel_3 rfl (Nat.le_of_ble_eq_true rfl) ?_
  refine ax_lvk (ax_down (P := fun j => ax_Ex G M_X3_levyOfVessel d 0 0 5 [(0, .ref 0), (1, .int (nI v)), (2, .int (nI y)), (3, .long (lvV q v y j)), (5, .int (nI j))] [] (wQ q ++ r) (.inl (some (.long (lvV q v y 4))), wQ q ++ r)) (n := 4) ?_ (fun j hj ih => ?_) 0 (Nat.zero_le _)) ⟨rfl, rfl, rfl, rfl, rfl, trivial⟩
  · refine ax_iload 7 dX3_levyOfVessel_5 rfl rfl ?_
    refine ax_iconst (v := 4) 8 dX3_levyOfVessel_7 rfl (by decide) ?_
    refine ax_icmp_ge 41 11 dX3_levyOfVessel_8 (by decide) rfl (fun c => ?_) (fun c => ?_)
    · refine ax_lload_n 3 42 dX3_levyOfVessel_41 rfl rfl rfl ?_
      exact ax_lret dX3_levyOfVessel_42 rfl rfl
    · exact absurd (by decide) c
  · refine ax_iload 7 dX3_levyOfVessel_5 rfl rfl ?_
    refine ax_iconst (v := 4) 8 dX3_levyOfVessel_7 rfl (by decide) ?_
    refine ax_icmp_ge 41 11 dX3_levyOfVessel_8 (by decide) rfl (fun c => ?_) (fun c => ?_)
    · exact absurd c (nI_ge hj (by decide))
    · refine ax_lload_n 3 12 dX3_levyOfVessel_11 rfl rfl rfl ?_
      refine ax_aload_n 0 13 dX3_levyOfVessel_12 rfl rfl rfl ?_
      refine ax_getf 16 dX3_levyOfVessel_13 rfl fl_X3_26 rfl rfl ?_
      refine ax_iload_n 2 17 dX3_levyOfVessel_16 rfl rfl rfl ?_
      refine ax_iload_n 1 18 dX3_levyOfVessel_17 rfl rfl rfl ?_
      refine ax_iload 20 dX3_levyOfVessel_18 rfl rfl ?_
      refine ax_cV 23 dX3_levyOfVessel_20 rfl ml_X3_320 (s_leviedOn (d := d - 1) (by omega) y v j (by omega)) rfl (by omega) rfl rfl (Nat.le_of_ble_eq_true rfl) ?_
      refine ax_i2l 24 dX3_levyOfVessel_23 rfl ?_
      refine ax_aload_n 0 25 dX3_levyOfVessel_24 rfl rfl rfl ?_
      refine ax_getf 28 dX3_levyOfVessel_25 rfl fl_X3_9 rfl rfl ?_
      refine ax_iload 30 dX3_levyOfVessel_28 rfl rfl ?_
      refine ax_ialdN 31 dX3_levyOfVessel_30 rfl rfl rfl (by omega) (by decide) ?_
      refine ax_i2l 32 dX3_levyOfVessel_31 rfl ?_
      refine ax_lmul 33 dX3_levyOfVessel_32 rfl ?_
      refine ax_ladd 34 dX3_levyOfVessel_33 rfl ?_
      refine ax_lstore_n 3 35 dX3_levyOfVessel_34 rfl rfl (Nat.le_of_ble_eq_true rfl) ?_
      refine ax_iinc (v := (_ : Int32) + 1) 38 dX3_levyOfVessel_35 rfl rfl rfl (Nat.le_of_ble_eq_true rfl) ?_
      refine ax_goto 5 dX3_levyOfVessel_38 (by decide) ?_
      exact ax_lvk ih ⟨rfl, rfl, rfl, rfl, gI (nI_1 j), trivial⟩
def fgC (q : Nat → Nat → Int32) (k w : Nat) : Int32 := match w with
  | 0 => q 10 k
  | 1 => q 11 k
  | 2 => q 12 k
  | 3 => q 13 k
  | 4 => q 14 k
  | 5 => leftF q k
  | 6 => q 15 k
  | 7 => q 16 k
  | _ => q 17 k
theorem w8 {x : Int32} (h : isW x 0 8 = true) : ∃ j : Nat, j < 9 ∧ x = nI j ∧ tN (nI j) = j := by
  obtain ⟨j, hj, e⟩ := isW_nI 8 rfl h
  exact ⟨j, hj, e, tN_nI (by omega)⟩
theorem s_figure (hd : 1 ≤ d) (k w : Nat) (hk : k < 216) (hw : w < 9) : ax_Met G M_X0_figure d 0 0 [.ref 9, .int (nI k), .int (nI w)] (wQ q ++ r) (.inl (some (.int (fgC q k w))), wQ q ++ r) := by
  refine ax_of rfl (by decide) (Nat.le_of_ble_eq_true rfl) ?_
  refine ax_iload_n 2 1 dX0_figure_0 rfl rfl rfl ?_
  match w, hw with
  | 0, _ =>
    refine ax_tableIn (off := 47) 48 dX0_figure_1 (by decide) (by decide) (by decide) (by decide) ?_
    refine ax_aload_n 0 49 dX0_figure_48 rfl rfl rfl ?_
    refine ax_getf 52 dX0_figure_49 rfl fl_X0_11 rfl rfl ?_
    refine ax_iload_n 1 53 dX0_figure_52 rfl rfl rfl ?_
    refine ax_ialdN 54 dX0_figure_53 rfl rfl rfl (by omega) (by decide) ?_
    exact ax_iret dX0_figure_54 rfl rfl
  | 1, _ =>
    refine ax_tableIn (off := 54) 55 dX0_figure_1 (by decide) (by decide) (by decide) (by decide) ?_
    refine ax_aload_n 0 56 dX0_figure_55 rfl rfl rfl ?_
    refine ax_getf 59 dX0_figure_56 rfl fl_X0_15 rfl rfl ?_
    refine ax_iload_n 1 60 dX0_figure_59 rfl rfl rfl ?_
    refine ax_ialdN 61 dX0_figure_60 rfl rfl rfl (by omega) (by decide) ?_
    exact ax_iret dX0_figure_61 rfl rfl
  | 2, _ =>
    refine ax_tableIn (off := 61) 62 dX0_figure_1 (by decide) (by decide) (by decide) (by decide) ?_
    refine ax_aload_n 0 63 dX0_figure_62 rfl rfl rfl ?_
    refine ax_getf 66 dX0_figure_63 rfl fl_X0_18 rfl rfl ?_
    refine ax_iload_n 1 67 dX0_figure_66 rfl rfl rfl ?_
    refine ax_ialdN 68 dX0_figure_67 rfl rfl rfl (by omega) (by decide) ?_
    exact ax_iret dX0_figure_68 rfl rfl
  | 3, _ =>
    refine ax_tableIn (off := 68) 69 dX0_figure_1 (by decide) (by decide) (by decide) (by decide) ?_
    refine ax_aload_n 0 70 dX0_figure_69 rfl rfl rfl ?_
    refine ax_getf 73 dX0_figure_70 rfl fl_X0_21 rfl rfl ?_
    refine ax_iload_n 1 74 dX0_figure_73 rfl rfl rfl ?_
    refine ax_ialdN 75 dX0_figure_74 rfl rfl rfl (by omega) (by decide) ?_
    exact ax_iret dX0_figure_75 rfl rfl
  | 4, _ =>
    refine ax_tableIn (off := 75) 76 dX0_figure_1 (by decide) (by decide) (by decide) (by decide) ?_
    refine ax_aload_n 0 77 dX0_figure_76 rfl rfl rfl ?_
    refine ax_getf 80 dX0_figure_77 rfl fl_X0_24 rfl rfl ?_
    refine ax_iload_n 1 81 dX0_figure_80 rfl rfl rfl ?_
    refine ax_ialdN 82 dX0_figure_81 rfl rfl rfl (by omega) (by decide) ?_
    exact ax_iret dX0_figure_82 rfl rfl
  | 5, _ =>
    refine ax_tableIn (off := 82) 83 dX0_figure_1 (by decide) (by decide) (by decide) (by decide) ?_
    refine ax_aload_n 0 84 dX0_figure_83 rfl rfl rfl ?_
    refine ax_iload_n 1 85 dX0_figure_84 rfl rfl rfl ?_
    refine ax_cV 88 dX0_figure_85 rfl ml_X0_58 (s_leftOn (d := d - 1) k hk) rfl (by omega) rfl rfl (Nat.le_of_ble_eq_true rfl) ?_
    exact ax_iret dX0_figure_88 rfl rfl
  | 6, _ =>
    refine ax_tableIn (off := 88) 89 dX0_figure_1 (by decide) (by decide) (by decide) (by decide) ?_
    refine ax_aload_n 0 90 dX0_figure_89 rfl rfl rfl ?_
    refine ax_getf 93 dX0_figure_90 rfl fl_X0_27 rfl rfl ?_
    refine ax_iload_n 1 94 dX0_figure_93 rfl rfl rfl ?_
    refine ax_ialdN 95 dX0_figure_94 rfl rfl rfl (by omega) (by decide) ?_
    exact ax_iret dX0_figure_95 rfl rfl
  | 7, _ =>
    refine ax_tableIn (off := 95) 96 dX0_figure_1 (by decide) (by decide) (by decide) (by decide) ?_
    refine ax_aload_n 0 97 dX0_figure_96 rfl rfl rfl ?_
    refine ax_getf 100 dX0_figure_97 rfl fl_X0_30 rfl rfl ?_
    refine ax_iload_n 1 101 dX0_figure_100 rfl rfl rfl ?_
    refine ax_ialdN 102 dX0_figure_101 rfl rfl rfl (by omega) (by decide) ?_
    exact ax_iret dX0_figure_102 rfl rfl
  | 8, _ =>
    refine ax_tableOut 103 dX0_figure_1 (by decide) (by decide) ?_
    refine ax_aload_n 0 104 dX0_figure_103 rfl rfl rfl ?_
    refine ax_getf 107 dX0_figure_104 rfl fl_X0_33 rfl rfl ?_
    refine ax_iload_n 1 108 dX0_figure_107 rfl rfl rfl ?_
    refine ax_ialdN 109 dX0_figure_108 rfl rfl rfl (by omega) (by decide) ?_
    exact ax_iret dX0_figure_109 rfl rfl
  | w + 9, h => exact absurd h (by omega)
def efC (q : Nat → Nat → Int32) (i w : Nat) : Int32 := match w with
  | 0 => q 21 i
  | 1 => q 22 i
  | 2 => bI (ntz (q 29 i))
  | _ => q 27 i
theorem s_efigure (i w : Nat) (hi : i < 200) (hw : w < 4) : ax_Met G M_X1_figure d 0 0 [.ref 20, .int (nI i), .int (nI w)] (wQ q ++ r) (.inl (some (.int (efC q i w))), wQ q ++ r) := by
  refine ax_of rfl (by decide) (Nat.le_of_ble_eq_true rfl) ?_
  refine ax_iload_n 2 1 dX1_figure_0 rfl rfl rfl ?_
  match w, hw with
  | 0, _ =>
    refine ax_tableIn (off := 27) 28 dX1_figure_1 (by decide) (by decide) (by decide) (by decide) ?_
    refine ax_aload_n 0 29 dX1_figure_28 rfl rfl rfl ?_
    refine ax_getf 32 dX1_figure_29 rfl fl_X1_9 rfl rfl ?_
    refine ax_iload_n 1 33 dX1_figure_32 rfl rfl rfl ?_
    refine ax_ialdN 34 dX1_figure_33 rfl rfl rfl (by omega) (by decide) ?_
    exact ax_iret dX1_figure_34 rfl rfl
  | 1, _ =>
    refine ax_tableIn (off := 34) 35 dX1_figure_1 (by decide) (by decide) (by decide) (by decide) ?_
    refine ax_aload_n 0 36 dX1_figure_35 rfl rfl rfl ?_
    refine ax_getf 39 dX1_figure_36 rfl fl_X1_15 rfl rfl ?_
    refine ax_iload_n 1 40 dX1_figure_39 rfl rfl rfl ?_
    refine ax_ialdN 41 dX1_figure_40 rfl rfl rfl (by omega) (by decide) ?_
    exact ax_iret dX1_figure_41 rfl rfl
  | 2, _ =>
    refine ax_tableIn (off := 41) 42 dX1_figure_1 (by decide) (by decide) (by decide) (by decide) ?_
    refine ax_aload_n 0 43 dX1_figure_42 rfl rfl rfl ?_
    refine ax_getf 46 dX1_figure_43 rfl fl_X1_37 rfl rfl ?_
    refine ax_iload_n 1 47 dX1_figure_46 rfl rfl rfl ?_
    refine ax_zaldN 48 dX1_figure_47 rfl rfl rfl (by omega) (by decide) ?_
    refine ax_if_eq 55 51 dX1_figure_48 (by decide) rfl (fun c => ?_) (fun c => ?_)
    · rw [show efC q i 2 = 0 by simp [efC, ntz_f c, bI]]
      refine ax_iconst (v := 0) 56 dX1_figure_55 rfl (by decide) ?_
      exact ax_iret dX1_figure_56 rfl rfl
    · rw [show efC q i 2 = 1 by simp [efC, ntz_t c, bI]]
      refine ax_iconst (v := 1) 52 dX1_figure_51 rfl (by decide) ?_
      refine ax_goto 56 dX1_figure_52 (by decide) ?_
      exact ax_iret dX1_figure_56 rfl rfl
  | 3, _ =>
    refine ax_tableOut 57 dX1_figure_1 (by decide) (by decide) ?_
    refine ax_aload_n 0 58 dX1_figure_57 rfl rfl rfl ?_
    refine ax_getf 61 dX1_figure_58 rfl fl_X1_30 rfl rfl ?_
    refine ax_iload_n 1 62 dX1_figure_61 rfl rfl rfl ?_
    refine ax_ialdN 63 dX1_figure_62 rfl rfl rfl (by omega) (by decide) ?_
    exact ax_iret dX1_figure_63 rfl rfl
  | w + 4, h => exact absurd h (by omega)
end C2
theorem addC_n {q : Nat → Nat → Int32} {n : Nat} {a b c e f g h : Int32} (hn : q 20 9 = nI n) : addC q n a b c e f g h 20 9 = nI (n + 1) := by
  show q 20 9 + 1 = _
  rw [hn]; exact nI_1 n
theorem addC_o {q : Nat → Nat → Int32} {n i k : Nat} {a b c e f g h : Int32} (hi : i ≠ n) (hk : k ≠ 20) : addC q n a b c e f g h k i = q k i := by
  unfold addC
  have key : ∀ (q : Nat → Nat → Int32) (m : Nat) (x : Int32), qv q m n x k i = q k i := fun q m x => by
    unfold qv qw
    by_cases hm : k = m
    · subst hm; rw [if_pos rfl, pk_un hi]
    · rw [if_neg hm]
  rw [qv_n hk, key, key, key, key, key, key, key]
theorem tN_e (n : Nat) (h : n < 2 ^ 31) : (nI n).toNatClampNeg = n := nI_clamp h
theorem evOK_new {q : Nat → Nat → Int32} {n y v s o : Nat} {a f g h : Int32} (hy : y ≤ 8) (hv : v < 6) (hs : s < 4) (h0 : a = 0 → f = nI o ∧ o < 6) (h2 : ¬ a = 0 → ¬ a = 1 → f = nI o ∧ o < 4) : evOK (addC q n a (nI y) (nI v) (nI s) f g h) n := by
  have e21 : addC q n a (nI y) (nI v) (nI s) f g h 21 n = a := pk_us
  have e22 : addC q n a (nI y) (nI v) (nI s) f g h 22 n = nI y := pk_us
  have e23 : addC q n a (nI y) (nI v) (nI s) f g h 23 n = nI v := pk_us
  have e24 : addC q n a (nI y) (nI v) (nI s) f g h 24 n = nI s := pk_us
  have e25 : addC q n a (nI y) (nI v) (nI s) f g h 25 n = f := pk_us
  unfold evOK yr vs sp ot
  rw [e21, e22, e23, e24, e25, tN_e y (by omega), tN_e v (by omega), tN_e s (by omega)]
  refine ⟨rfl, hy, rfl, hv, rfl, hs, fun z => ?_, fun z1 z2 => ?_⟩
  · obtain ⟨e1, e2⟩ := h0 z
    rw [e1, tN_e o (by omega)]; exact ⟨rfl, e2⟩
  · obtain ⟨e1, e2⟩ := h2 z1 z2
    rw [e1, tN_e o (by omega)]; exact ⟨rfl, e2⟩
theorem evOK_add0 {q : Nat → Nat → Int32} {n y v s o : Nat} {g h : Int32} (hy : y ≤ 8) (hv : v < 6) (hs : s < 4) (ho : o < 6) : evOK (addC q n 0 (nI y) (nI v) (nI s) (nI o) g h) n := evOK_new hy hv hs (fun _ => ⟨rfl, ho⟩) (fun z => absurd rfl z)
theorem evOK_add1 {q : Nat → Nat → Int32} {n y v s : Nat} {f g h : Int32} (hy : y ≤ 8) (hv : v < 6) (hs : s < 4) : evOK (addC q n 1 (nI y) (nI v) (nI s) f g h) n := evOK_new (o := 0) hy hv hs (fun z => absurd z (by decide)) (fun _ z => absurd rfl z)
theorem evOK_add2 {q : Nat → Nat → Int32} {n y v s o : Nat} {g h : Int32} (hy : y ≤ 8) (hv : v < 6) (hs : s < 4) (ho : o < 4) : evOK (addC q n 2 (nI y) (nI v) (nI s) (nI o) g h) n := evOK_new hy hv hs (fun z => absurd z (by decide)) (fun _ _ => ⟨rfl, ho⟩)
theorem evOK_addA {q : Nat → Nat → Int32} {n : Nat} {a b c e f g h : Int32} (he : ∀ i, i < n → evOK q i) (hn : evOK (addC q n a b c e f g h) n) : ∀ i, i < n + 1 → evOK (addC q n a b c e f g h) i := by
  intro i hi
  by_cases e0 : i = n
  · rw [e0]; exact hn
  · have h9 := he i (by omega)
    unfold evOK yr vs sp ot at h9 ⊢
    rw [addC_o e0 (by decide), addC_o e0 (by decide), addC_o e0 (by decide), addC_o e0 (by decide), addC_o e0 (by decide)]
    exact h9
theorem wn {x z : Int32} {n : Nat} (hn2 : n ≤ 200) (hn : z = nI n) (h : isW x 0 (z - 1) = true) : ∃ j : Nat, j < n ∧ x = nI j ∧ tN (nI j) = j := by
  subst hn
  obtain ⟨h1, h2⟩ := isW_t.mp h
  cases n with
  | zero =>
    have h3 : (0 : Int32) ≤ nI 0 - 1 := Int32.le_trans h1 h2
    exact absurd h3 (by decide)
  | succ n =>
    rw [nI_pred] at h2
    obtain ⟨j, hj, e⟩ := nI_of2 (n := n) (nI_toInt (by omega)) (Int32.not_lt.mpr h1) h2
    exact ⟨j, by omega, e, tN_nI (by omega)⟩
theorem wout {x : Int32} (h : ¬ isW x 0 3 = true) : x.toInt < 0 ∨ 3 < x.toInt := by
  by_cases h1 : x.toInt < 0
  · exact Or.inl h1
  · refine Or.inr (Int.not_le.mp fun h2 => h (isW_t.mpr ⟨?_, ?_⟩))
    · rw [Int32.le_iff_toInt_le]; exact Int.not_lt.mp h1
    · rw [Int32.le_iff_toInt_le]; exact h2

def oC (q : Nat → Nat → Int32) (l0 l1 l2 l3 : Int32) : Nat → Nat → Int32 :=
  let y := tN (q 0 6) + 1
  begC (allotC (allotC (allotC (allotC (qv (qv q 0 6 (q 0 6 + 1)) 0 7 1) l0 y 0) l1 y 1) l2 y 2) l3 y 3) y
def cOpen (q : Nat → Nat → Int32) (l0 l1 l2 l3 : Int32) : ax_KO :=
  if isW l0 0 1000000 = false then (.inr IAE, q) else if isW l1 0 1000000 = false then (.inr IAE, q) else if isW l2 0 1000000 = false then (.inr IAE, q) else if isW l3 0 1000000 = false then (.inr IAE, q) else
  if q 0 7 = 0 then (if q 0 6 < 8 then (.inl (some (.int (q 0 6 + 1))), oC q l0 l1 l2 l3) else (.inr ISE, q)) else (.inr ISE, q)
theorem c_open {G : ax_G} {d : Nat} {q : Nat → Nat → Int32} {r : ax_W} (hd : 9 ≤ d) (l0 l1 l2 l3 : Int32) (y : Nat) (hy : q 0 6 = nI y) (hy8 : y ≤ 8) : ax_Met G M_X3_open d 1 6 [.ref 0, .int l0, .int l1, .int l2, .int l3] (wQ q ++ r) ((cOpen q l0 l1 l2 l3).1, wQ (cOpen q l0 l1 l2 l3).2 ++ r) := by
  refine ax_of rfl (by decide) (Nat.le_of_ble_eq_true rfl) ?_
  refine ax_iload_n 1 1 dX3_open_0 rfl rfl rfl ?_
  refine ax_cS 4 dX3_open_1 rfl ml_X3_169 (s_isLimit (d := d - 1) (by omega) l0) (by omega) rfl rfl (Nat.le_of_ble_eq_true rfl) ?_
  refine ax_if_eq 29 7 dX3_open_4 (by decide) rfl (fun c1 => ?_) (fun c1 => ?_)
  · rw [show cOpen q l0 l1 l2 l3 = (.inr IAE, q) by simp [cOpen, bI_0.mp c1]]
    exact ax_throw th_X3_172_64 rfl (by omega) dX3_open_29 dX3_open_32 dX3_open_33 dX3_open_35 dX3_open_38 (by omega) (by omega) rfl
  · have h1 := bI_n0.mp c1
    refine ax_iload_n 2 8 dX3_open_7 rfl rfl rfl ?_
    refine ax_cS 11 dX3_open_8 rfl ml_X3_169 (s_isLimit (d := d - 1) (by omega) l1) (by omega) rfl rfl (Nat.le_of_ble_eq_true rfl) ?_
    refine ax_if_eq 29 14 dX3_open_11 (by decide) rfl (fun c2 => ?_) (fun c2 => ?_)
    · rw [show cOpen q l0 l1 l2 l3 = (.inr IAE, q) by simp [cOpen, h1, bI_0.mp c2]]
      exact ax_throw th_X3_172_64 rfl (by omega) dX3_open_29 dX3_open_32 dX3_open_33 dX3_open_35 dX3_open_38 (by omega) (by omega) rfl
    · have h2 := bI_n0.mp c2
      refine ax_iload_n 3 15 dX3_open_14 rfl rfl rfl ?_
      refine ax_cS 18 dX3_open_15 rfl ml_X3_169 (s_isLimit (d := d - 1) (by omega) l2) (by omega) rfl rfl (Nat.le_of_ble_eq_true rfl) ?_
      refine ax_if_eq 29 21 dX3_open_18 (by decide) rfl (fun c3 => ?_) (fun c3 => ?_)
      · rw [show cOpen q l0 l1 l2 l3 = (.inr IAE, q) by simp [cOpen, h1, h2, bI_0.mp c3]]
        exact ax_throw th_X3_172_64 rfl (by omega) dX3_open_29 dX3_open_32 dX3_open_33 dX3_open_35 dX3_open_38 (by omega) (by omega) rfl
      · have h3 := bI_n0.mp c3
        refine ax_iload 23 dX3_open_21 rfl rfl ?_
        refine ax_cS 26 dX3_open_23 rfl ml_X3_169 (s_isLimit (d := d - 1) (by omega) l3) (by omega) rfl rfl (Nat.le_of_ble_eq_true rfl) ?_
        refine ax_if_ne 39 29 dX3_open_26 (by decide) rfl (fun c4 => ?_) (fun c4 => ?_)
        · have h4 := bI_n0.mp c4
          rw [show cOpen q l0 l1 l2 l3 = if q 0 7 = 0 then (if q 0 6 < 8 then (.inl (some (.int (q 0 6 + 1))), oC q l0 l1 l2 l3) else (.inr ISE, q)) else (.inr ISE, q) by simp only [cOpen, h1, h2, h3, h4, Bool.true_eq_false, if_false]]
          refine ax_aload_n 0 40 dX3_open_39 rfl rfl rfl ?_
          refine ax_getf 43 dX3_open_40 rfl fl_X3_45 rfl rfl ?_
          refine ax_if_ne 55 46 dX3_open_43 (by decide) rfl (fun c5 => ?_) (fun c5 => ?_)
          · rw [if_neg c5]
            exact ax_throw th_X3_174_97 rfl (by omega) dX3_open_55 dX3_open_58 dX3_open_59 dX3_open_61 dX3_open_64 (by omega) (by omega) rfl
          · rw [if_pos c5]
            refine ax_aload_n 0 47 dX3_open_46 rfl rfl rfl ?_
            refine ax_getf 50 dX3_open_47 rfl fl_X3_41 rfl rfl ?_
            refine ax_bipush (v := 8) 52 dX3_open_50 rfl (by decide) ?_
            refine ax_icmp_lt 65 55 dX3_open_52 (by decide) rfl (fun c6 => ?_) (fun c6 => ?_)
            · rw [if_pos c6]
              have hy7 : y < 8 := by
                rcases Nat.lt_or_ge y 8 with h | h
                · exact h
                · rw [hy] at c6
                  exact absurd c6 (nI_nlt (a := y) (b := 8) h (by omega))
              have ey : tN (q 0 6) = y := by rw [hy]; exact tN_nI (by omega)
              have e1 : q 0 6 + 1 = nI (y + 1) := by rw [hy]; exact nI_1 y
              unfold oC
              rw [ey]
              refine ax_aload_n 0 66 dX3_open_65 rfl rfl rfl ?_
              refine ax_dup 67 dX3_open_66 rfl rfl ?_
              refine ax_getf 70 dX3_open_67 rfl fl_X3_41 rfl rfl ?_
              refine ax_iconst (v := 1) 71 dX3_open_70 rfl (by decide) ?_
              refine ax_iadd 72 dX3_open_71 rfl ?_
              refine ax_putf 75 dX3_open_72 rfl fp_X3_41 rfl rfl rfl (Nat.le_of_ble_eq_true rfl) ?_
              rw [wQp_0_6]
              refine ax_aload_n 0 76 dX3_open_75 rfl rfl rfl ?_
              refine ax_iconst (v := 1) 77 dX3_open_76 rfl (by decide) ?_
              refine ax_putf 80 dX3_open_77 rfl fp_X3_45 rfl (by decide) (by decide) (Nat.le_of_ble_eq_true rfl) ?_
              rw [wQp_0_7]
              refine ax_aload_n 0 81 dX3_open_80 rfl rfl rfl ?_
              refine ax_getf 84 dX3_open_81 rfl fl_X3_26 rfl rfl ?_
              refine ax_aload_n 0 85 dX3_open_84 rfl rfl rfl ?_
              refine ax_getf 88 dX3_open_85 rfl fl_X3_41 rfl rfl ?_
              refine ax_iconst (v := 0) 89 dX3_open_88 rfl (by decide) ?_
              refine ax_iload_n 1 90 dX3_open_89 rfl rfl rfl ?_
              refine ax_aload_n 0 91 dX3_open_90 rfl rfl rfl ?_
              refine ax_getf 94 dX3_open_91 rfl fl_X3_19 rfl rfl ?_
              rw [show qv (qv q 0 6 (q 0 6 + 1)) 0 7 1 0 6 = nI (y + 1) from e1]
              refine ax_cVv 97 dX3_open_94 rfl ml_X3_176 (s_allot (d := d - 1) (by omega) (y + 1) 0 l0 (by omega) (by decide)) rfl (by omega) rfl rfl (Nat.le_of_ble_eq_true rfl) ?_
              refine ax_aload_n 0 98 dX3_open_97 rfl rfl rfl ?_
              refine ax_getf 101 dX3_open_98 rfl fl_X3_26 rfl rfl ?_
              refine ax_aload_n 0 102 dX3_open_101 rfl rfl rfl ?_
              refine ax_getf 105 dX3_open_102 rfl fl_X3_41 rfl rfl ?_
              refine ax_iconst (v := 1) 106 dX3_open_105 rfl (by decide) ?_
              refine ax_iload_n 2 107 dX3_open_106 rfl rfl rfl ?_
              refine ax_aload_n 0 108 dX3_open_107 rfl rfl rfl ?_
              refine ax_getf 111 dX3_open_108 rfl fl_X3_19 rfl rfl ?_
              rw [allotC_k (k := 0) (by decide) (by decide), show qv (qv q 0 6 (q 0 6 + 1)) 0 7 1 0 6 = nI (y + 1) from e1]
              refine ax_cVv 114 dX3_open_111 rfl ml_X3_176 (s_allot (d := d - 1) (by omega) (y + 1) 1 l1 (by omega) (by decide)) rfl (by omega) rfl rfl (Nat.le_of_ble_eq_true rfl) ?_
              refine ax_aload_n 0 115 dX3_open_114 rfl rfl rfl ?_
              refine ax_getf 118 dX3_open_115 rfl fl_X3_26 rfl rfl ?_
              refine ax_aload_n 0 119 dX3_open_118 rfl rfl rfl ?_
              refine ax_getf 122 dX3_open_119 rfl fl_X3_41 rfl rfl ?_
              refine ax_iconst (v := 2) 123 dX3_open_122 rfl (by decide) ?_
              refine ax_iload_n 3 124 dX3_open_123 rfl rfl rfl ?_
              refine ax_aload_n 0 125 dX3_open_124 rfl rfl rfl ?_
              refine ax_getf 128 dX3_open_125 rfl fl_X3_19 rfl rfl ?_
              rw [allotC_k (k := 0) (by decide) (by decide), allotC_k (k := 0) (by decide) (by decide), show qv (qv q 0 6 (q 0 6 + 1)) 0 7 1 0 6 = nI (y + 1) from e1]
              refine ax_cVv 131 dX3_open_128 rfl ml_X3_176 (s_allot (d := d - 1) (by omega) (y + 1) 2 l2 (by omega) (by decide)) rfl (by omega) rfl rfl (Nat.le_of_ble_eq_true rfl) ?_
              refine ax_aload_n 0 132 dX3_open_131 rfl rfl rfl ?_
              refine ax_getf 135 dX3_open_132 rfl fl_X3_26 rfl rfl ?_
              refine ax_aload_n 0 136 dX3_open_135 rfl rfl rfl ?_
              refine ax_getf 139 dX3_open_136 rfl fl_X3_41 rfl rfl ?_
              refine ax_iconst (v := 3) 140 dX3_open_139 rfl (by decide) ?_
              refine ax_iload 142 dX3_open_140 rfl rfl ?_
              refine ax_aload_n 0 143 dX3_open_142 rfl rfl rfl ?_
              refine ax_getf 146 dX3_open_143 rfl fl_X3_19 rfl rfl ?_
              rw [allotC_k (k := 0) (by decide) (by decide), allotC_k (k := 0) (by decide) (by decide), allotC_k (k := 0) (by decide) (by decide), show qv (qv q 0 6 (q 0 6 + 1)) 0 7 1 0 6 = nI (y + 1) from e1]
              refine ax_cVv 149 dX3_open_146 rfl ml_X3_176 (s_allot (d := d - 1) (by omega) (y + 1) 3 l3 (by omega) (by decide)) rfl (by omega) rfl rfl (Nat.le_of_ble_eq_true rfl) ?_
              refine ax_aload_n 0 150 dX3_open_149 rfl rfl rfl ?_
              refine ax_getf 153 dX3_open_150 rfl fl_X3_26 rfl rfl ?_
              refine ax_aload_n 0 154 dX3_open_153 rfl rfl rfl ?_
              refine ax_getf 157 dX3_open_154 rfl fl_X3_41 rfl rfl ?_
              rw [allotC_k (k := 0) (by decide) (by decide), allotC_k (k := 0) (by decide) (by decide), allotC_k (k := 0) (by decide) (by decide), allotC_k (k := 0) (by decide) (by decide), show qv (qv q 0 6 (q 0 6 + 1)) 0 7 1 0 6 = nI (y + 1) from e1]
              refine ax_cVv 160 dX3_open_157 rfl ml_X3_180 (s_begin (d := d - 1) (by omega) (y + 1) (by omega) (by omega)) rfl (by omega) rfl rfl (Nat.le_of_ble_eq_true rfl) ?_
              refine ax_aload_n 0 161 dX3_open_160 rfl rfl rfl ?_
              refine ax_getf 164 dX3_open_161 rfl fl_X3_41 rfl rfl ?_
              rw [begC_k (k := 0) (by decide) (by decide) (by decide) (by decide) (by decide), allotC_k (k := 0) (by decide) (by decide), allotC_k (k := 0) (by decide) (by decide), allotC_k (k := 0) (by decide) (by decide), allotC_k (k := 0) (by decide) (by decide), show qv (qv q 0 6 (q 0 6 + 1)) 0 7 1 0 6 = q 0 6 + 1 from rfl]
              exact ax_iret dX3_open_164 rfl rfl
            · rw [if_neg c6]
              exact ax_throw th_X3_174_97 rfl (by omega) dX3_open_55 dX3_open_58 dX3_open_59 dX3_open_61 dX3_open_64 (by omega) (by omega) rfl
        · rw [show cOpen q l0 l1 l2 l3 = (.inr IAE, q) by simp [cOpen, h1, h2, h3, bI_0.mp c4]]
          exact ax_throw th_X3_172_64 rfl (by omega) dX3_open_29 dX3_open_32 dX3_open_33 dX3_open_35 dX3_open_38 (by omega) (by omega) rfl
def cEnd (q : Nat → Nat → Int32) : ax_KO :=
  if q 0 7 = 0 then (.inr ISE, q) else (.inl (some (.int (clC (setC (qv q 0 7 0) (tN (q 0 6))) (tN (q 0 6)) 24))), setC (qv q 0 7 0) (tN (q 0 6)))
theorem c_end {G : ax_G} {d : Nat} {q : Nat → Nat → Int32} {r : ax_W} (hd : 9 ≤ d) (y : Nat) (hy : q 0 6 = nI y) (hy8 : y ≤ 8) : ax_Met G M_X3_end d 1 6 [.ref 0] (wQ q ++ r) ((cEnd q).1, wQ (cEnd q).2 ++ r) := by
  refine ax_of rfl (by decide) (Nat.le_of_ble_eq_true rfl) ?_
  have ey : tN (q 0 6) = y := by rw [hy]; exact tN_nI (by omega)
  unfold cEnd
  rw [ey]
  refine ax_aload_n 0 1 dX3_end_0 rfl rfl rfl ?_
  refine ax_getf 4 dX3_end_1 rfl fl_X3_45 rfl rfl ?_
  refine ax_if_ne 17 7 dX3_end_4 (by decide) rfl (fun c1 => ?_) (fun c1 => ?_)
  · rw [if_neg c1]
    refine ax_aload_n 0 18 dX3_end_17 rfl rfl rfl ?_
    refine ax_iconst (v := 0) 19 dX3_end_18 rfl (by decide) ?_
    refine ax_putf 22 dX3_end_19 rfl fp_X3_45 rfl (by decide) (by decide) (Nat.le_of_ble_eq_true rfl) ?_
    rw [wQp_0_7]
    refine ax_aload_n 0 23 dX3_end_22 rfl rfl rfl ?_
    refine ax_getf 26 dX3_end_23 rfl fl_X3_26 rfl rfl ?_
    refine ax_aload_n 0 27 dX3_end_26 rfl rfl rfl ?_
    refine ax_getf 30 dX3_end_27 rfl fl_X3_41 rfl rfl ?_
    rw [show qv q 0 7 0 0 6 = nI y from hy]
    refine ax_cVv 33 dX3_end_30 rfl ml_X3_186 (s_settle (d := d - 1) (by omega) y hy8) rfl (by omega) rfl rfl (Nat.le_of_ble_eq_true rfl) ?_
    refine ax_aload_n 0 34 dX3_end_33 rfl rfl rfl ?_
    refine ax_getf 37 dX3_end_34 rfl fl_X3_26 rfl rfl ?_
    refine ax_aload_n 0 38 dX3_end_37 rfl rfl rfl ?_
    refine ax_getf 41 dX3_end_38 rfl fl_X3_41 rfl rfl ?_
    rw [setC_k (k := 0) (by decide) (by decide) (by decide), show qv q 0 7 0 0 6 = nI y from hy]
    refine ax_cV 44 dX3_end_41 rfl ml_X3_189 (s_countLevied (d := d - 1) (by omega) y hy8) rfl (by omega) rfl rfl (Nat.le_of_ble_eq_true rfl) ?_
    exact ax_iret dX3_end_44 rfl rfl
  · rw [if_pos c1]
    exact ax_throw th_X3_184_97 rfl (by omega) dX3_end_7 dX3_end_10 dX3_end_11 dX3_end_13 dX3_end_16 (by omega) (by omega) rfl
def cLease (q : Nat → Nat → Int32) (s a b k : Int32) : ax_KO :=
  if isW s 0 3 = false then (.inr IAE, q) else if two5 a b = false then (.inr IAE, q) else if isW k 1 1000000 = false then (.inr IAE, q) else
  if q 0 7 = 0 then (.inr ISE, q) else if 200 ≤ q 20 9 then (.inr ISE, q) else if k ≤ leftF q (24 * tN (q 0 6) + 4 * tN a + tN s) then (.inl (some (.int (q 20 9))), wkC (addC q (tN (q 20 9)) 0 (q 0 6) a s b k k) (tN (q 20 9))) else (.inr ISE, q)
theorem c_lease {G : ax_G} {d : Nat} {q : Nat → Nat → Int32} {r : ax_W} (hd : 9 ≤ d) (s a b k : Int32) (y : Nat) (hy : q 0 6 = nI y) (hy8 : y ≤ 8) (n : Nat) (hn : q 20 9 = nI n) (hn2 : n ≤ 200) : ax_Met G M_X3_lease d 1 6 [.ref 0, .int s, .int a, .int b, .int k] (wQ q ++ r) ((cLease q s a b k).1, wQ (cLease q s a b k).2 ++ r) := by
  refine ax_of rfl (by decide) (Nat.le_of_ble_eq_true rfl) ?_
  refine ax_iload_n 1 1 dX3_lease_0 rfl rfl rfl ?_
  refine ax_cS 4 dX3_lease_1 rfl ml_X3_55 (s_isSpecies (d := d - 1) (by omega) s) (by omega) rfl rfl (Nat.le_of_ble_eq_true rfl) ?_
  refine ax_if_eq 26 7 dX3_lease_4 (by decide) rfl (fun c1 => ?_) (fun c1 => ?_)
  · rw [show cLease q s a b k = (.inr IAE, q) by simp [cLease, bI_0.mp c1]]
    exact ax_throw th_X3_195_64 rfl (by omega) dX3_lease_26 dX3_lease_29 dX3_lease_30 dX3_lease_32 dX3_lease_35 (by omega) (by omega) rfl
  · have h1 := bI_n0.mp c1
    refine ax_iload_n 2 8 dX3_lease_7 rfl rfl rfl ?_
    refine ax_iload_n 3 9 dX3_lease_8 rfl rfl rfl ?_
    refine ax_cS 12 dX3_lease_9 rfl ml_X3_192 (s_areTwoVessels (d := d - 1) (by omega) a b) (by omega) rfl rfl (Nat.le_of_ble_eq_true rfl) ?_
    refine ax_if_eq 26 15 dX3_lease_12 (by decide) rfl (fun c2 => ?_) (fun c2 => ?_)
    · rw [show cLease q s a b k = (.inr IAE, q) by simp [cLease, h1, bI_0.mp c2]]
      exact ax_throw th_X3_195_64 rfl (by omega) dX3_lease_26 dX3_lease_29 dX3_lease_30 dX3_lease_32 dX3_lease_35 (by omega) (by omega) rfl
    · have h2 := bI_n0.mp c2
      refine ax_iload 17 dX3_lease_15 rfl rfl ?_
      refine ax_iconst (v := 1) 18 dX3_lease_17 rfl (by decide) ?_
      refine ax_ldc (v := 1000000) 20 dX3_lease_18 rfl ci_X3_63 ?_
      refine ax_cS 23 dX3_lease_20 rfl ml_X3_59 (s_isWithin (d := d - 1) k 1 1000000) (by omega) rfl rfl (Nat.le_of_ble_eq_true rfl) ?_
      refine ax_if_ne 36 26 dX3_lease_23 (by decide) rfl (fun c3 => ?_) (fun c3 => ?_)
      · have h3 := bI_n0.mp c3
        rw [show cLease q s a b k = if q 0 7 = 0 then (.inr ISE, q) else if 200 ≤ q 20 9 then (.inr ISE, q) else if k ≤ leftF q (24 * tN (q 0 6) + 4 * tN a + tN s) then (.inl (some (.int (q 20 9))), wkC (addC q (tN (q 20 9)) 0 (q 0 6) a s b k k) (tN (q 20 9))) else (.inr ISE, q) by simp only [cLease, h1, h2, h3, Bool.true_eq_false, if_false]]
        obtain ⟨k1, k2, k3⟩ := two5_t h2
        obtain ⟨t, ht, rfl, et⟩ := w3 h1
        obtain ⟨i, hi, rfl, ei⟩ := w5 k1
        obtain ⟨j, hj, rfl, ej⟩ := w5 k2
        have ey : tN (q 0 6) = y := by rw [hy]; exact tN_nI (by omega)
        have en : tN (q 20 9) = n := by rw [hn]; exact tN_nI (by omega)
        rw [et, ei, ey, en]
        refine ax_aload_n 0 37 dX3_lease_36 rfl rfl rfl ?_
        refine ax_getf 40 dX3_lease_37 rfl fl_X3_45 rfl rfl ?_
        refine ax_if_eq 53 43 dX3_lease_40 (by decide) rfl (fun c4 => ?_) (fun c4 => ?_)
        · rw [if_pos c4]
          exact ax_throw th_X3_201_97 rfl (by omega) dX3_lease_53 dX3_lease_56 dX3_lease_57 dX3_lease_59 dX3_lease_62 (by omega) (by omega) rfl
        · rw [if_neg c4]
          refine ax_aload_n 0 44 dX3_lease_43 rfl rfl rfl ?_
          refine ax_getf 47 dX3_lease_44 rfl fl_X3_33 rfl rfl ?_
          refine ax_cV 50 dX3_lease_47 rfl ml_X3_197 (s_areFull (d := d - 1)) rfl (by omega) rfl rfl (Nat.le_of_ble_eq_true rfl) ?_
          refine ax_if_eq 63 53 dX3_lease_50 (by decide) rfl (fun c5 => ?_) (fun c5 => ?_)
          · have h5 := of_decide_eq_false (bI_0.mp c5)
            rw [if_neg h5]
            have hn3 : n < 200 := by
              rcases Nat.lt_or_ge n 200 with h | h
              · exact h
              · rw [hn] at h5
                exact absurd (nI_le (a := 200) (b := n) h (by omega)) h5
            refine ax_aload_n 0 64 dX3_lease_63 rfl rfl rfl ?_
            refine ax_getf 67 dX3_lease_64 rfl fl_X3_26 rfl rfl ?_
            refine ax_aload_n 0 68 dX3_lease_67 rfl rfl rfl ?_
            refine ax_getf 71 dX3_lease_68 rfl fl_X3_41 rfl rfl ?_
            refine ax_iload_n 2 72 dX3_lease_71 rfl rfl rfl ?_
            refine ax_iload_n 1 73 dX3_lease_72 rfl rfl rfl ?_
            refine ax_iload 75 dX3_lease_73 rfl rfl ?_
            rw [hy]
            refine ax_cV 78 dX3_lease_75 rfl ml_X3_203 (s_hasLeft (d := d - 1) (by omega) y i t k (by omega)) rfl (by omega) rfl rfl (Nat.le_of_ble_eq_true rfl) ?_
            refine ax_if_ne 91 81 dX3_lease_78 (by decide) rfl (fun c6 => ?_) (fun c6 => ?_)
            · rw [if_pos (of_decide_eq_true (bI_n0.mp c6))]
              refine ax_aload_n 0 92 dX3_lease_91 rfl rfl rfl ?_
              refine ax_getf 95 dX3_lease_92 rfl fl_X3_33 rfl rfl ?_
              refine ax_iconst (v := 0) 96 dX3_lease_95 rfl (by decide) ?_
              refine ax_aload_n 0 97 dX3_lease_96 rfl rfl rfl ?_
              refine ax_getf 100 dX3_lease_97 rfl fl_X3_41 rfl rfl ?_
              refine ax_iload_n 2 101 dX3_lease_100 rfl rfl rfl ?_
              refine ax_iload_n 1 102 dX3_lease_101 rfl rfl rfl ?_
              refine ax_iload_n 3 103 dX3_lease_102 rfl rfl rfl ?_
              refine ax_iload 105 dX3_lease_103 rfl rfl ?_
              refine ax_iload 107 dX3_lease_105 rfl rfl ?_
              rw [hy]
              have hev : evOK (addC q n 0 (nI y) (nI i) (nI t) (nI j) k k) n := evOK_add0 hy8 hi ht hj
              refine ax_cV 110 dX3_lease_107 rfl ml_X3_209 (s_add (d := d - 1) n 0 (nI y) (nI i) (nI t) (nI j) k k hn3 hn) rfl (by omega) rfl rfl (Nat.le_of_ble_eq_true rfl) ?_
              refine ax_istore 112 dX3_lease_110 rfl (Nat.le_of_ble_eq_true rfl) ?_
              refine ax_aload_n 0 113 dX3_lease_112 rfl rfl rfl ?_
              refine ax_getf 116 dX3_lease_113 rfl fl_X3_33 rfl rfl ?_
              refine ax_iload 118 dX3_lease_116 rfl rfl ?_
              refine ax_aload_n 0 119 dX3_lease_118 rfl rfl rfl ?_
              refine ax_getf 122 dX3_lease_119 rfl fl_X3_26 rfl rfl ?_
              refine ax_cVv 125 dX3_lease_122 rfl ml_X3_213 (s_work (d := d - 1) (by omega) n hn3 hev) rfl (by omega) rfl rfl (Nat.le_of_ble_eq_true rfl) ?_
              refine ax_iload 127 dX3_lease_125 rfl rfl ?_
              exact ax_iret dX3_lease_127 rfl (by rw [hn])
            · rw [if_neg (of_decide_eq_false (bI_0.mp c6))]
              exact ax_throw th_X3_207_97 rfl (by omega) dX3_lease_81 dX3_lease_84 dX3_lease_85 dX3_lease_87 dX3_lease_90 (by omega) (by omega) rfl
          · rw [if_pos (of_decide_eq_true (bI_n0.mp c5))]
            exact ax_throw th_X3_201_97 rfl (by omega) dX3_lease_53 dX3_lease_56 dX3_lease_57 dX3_lease_59 dX3_lease_62 (by omega) (by omega) rfl
      · rw [show cLease q s a b k = (.inr IAE, q) by simp [cLease, h1, h2, bI_0.mp c3]]
        exact ax_throw th_X3_195_64 rfl (by omega) dX3_lease_26 dX3_lease_29 dX3_lease_30 dX3_lease_32 dX3_lease_35 (by omega) (by omega) rfl
def cLand (q : Nat → Nat → Int32) (z v s f k u : Int32) : ax_KO :=
  if isW z 1 (q 0 6) = false then (.inr IAE, q) else if isW v 0 5 = false then (.inr IAE, q) else if isW s 0 3 = false then (.inr IAE, q) else if isW f 0 2 = false then (.inr IAE, q) else if isW k 1 1000000 = false then (.inr IAE, q) else
  if q 2 (3 * tN s + tN f) = 0 then (.inr IAE, q) else if tkC q z = false then (.inr ISE, q) else if 200 ≤ q 20 9 then (.inr ISE, q) else (.inl (some (.int (q 20 9))), waC (addC q (tN (q 20 9)) 1 z v s (-1) k (lwF k (q 2 (3 * tN s + tN f)) u)) (tN (q 20 9) + 1) (tN z) (tN (q 0 6) + 1 - tN z))
theorem c_land {G : ax_G} {d : Nat} {q : Nat → Nat → Int32} {r : ax_W} (hd : 9 ≤ d) (z v s f k u : Int32) (y : Nat) (hy : q 0 6 = nI y) (hy8 : y ≤ 8) (n : Nat) (hn : q 20 9 = nI n) (hn2 : n ≤ 200) (he : ∀ i, i < n → evOK q i) : ax_Met G M_X3_land d 1 6 [.ref 0, .int z, .int v, .int s, .int f, .int k, .int u] (wQ q ++ r) ((cLand q z v s f k u).1, wQ (cLand q z v s f k u).2 ++ r) := by
  refine ax_of rfl (by decide) (Nat.le_of_ble_eq_true rfl) ?_
  refine ax_aload_n 0 1 dX3_land_0 rfl rfl rfl ?_
  refine ax_iload_n 1 2 dX3_land_1 rfl rfl rfl ?_
  refine ax_cV 5 dX3_land_2 rfl ml_X3_217 (s_wasOpened (d := d - 1) (by omega) z) rfl (by omega) rfl rfl (Nat.le_of_ble_eq_true rfl) ?_
  refine ax_if_eq 41 8 dX3_land_5 (by decide) rfl (fun c1 => ?_) (fun c1 => ?_)
  · rw [show cLand q z v s f k u = (.inr IAE, q) by simp [cLand, bI_0.mp c1]]
    exact ax_throw th_X3_220_64 rfl (by omega) dX3_land_41 dX3_land_44 dX3_land_45 dX3_land_47 dX3_land_50 (by omega) (by omega) rfl
  · have h1 := bI_n0.mp c1
    refine ax_iload_n 2 9 dX3_land_8 rfl rfl rfl ?_
    refine ax_cS 12 dX3_land_9 rfl ml_X3_86 (s_isVessel (d := d - 1) (by omega) v) (by omega) rfl rfl (Nat.le_of_ble_eq_true rfl) ?_
    refine ax_if_eq 41 15 dX3_land_12 (by decide) rfl (fun c2 => ?_) (fun c2 => ?_)
    · rw [show cLand q z v s f k u = (.inr IAE, q) by simp [cLand, h1, bI_0.mp c2]]
      exact ax_throw th_X3_220_64 rfl (by omega) dX3_land_41 dX3_land_44 dX3_land_45 dX3_land_47 dX3_land_50 (by omega) (by omega) rfl
    · have h2 := bI_n0.mp c2
      refine ax_iload_n 3 16 dX3_land_15 rfl rfl rfl ?_
      refine ax_cS 19 dX3_land_16 rfl ml_X3_55 (s_isSpecies (d := d - 1) (by omega) s) (by omega) rfl rfl (Nat.le_of_ble_eq_true rfl) ?_
      refine ax_if_eq 41 22 dX3_land_19 (by decide) rfl (fun c3 => ?_) (fun c3 => ?_)
      · rw [show cLand q z v s f k u = (.inr IAE, q) by simp [cLand, h1, h2, bI_0.mp c3]]
        exact ax_throw th_X3_220_64 rfl (by omega) dX3_land_41 dX3_land_44 dX3_land_45 dX3_land_47 dX3_land_50 (by omega) (by omega) rfl
      · have h3 := bI_n0.mp c3
        refine ax_iload 24 dX3_land_22 rfl rfl ?_
        refine ax_cS 27 dX3_land_24 rfl ml_X3_81 (s_isForm (d := d - 1) (by omega) f) (by omega) rfl rfl (Nat.le_of_ble_eq_true rfl) ?_
        refine ax_if_eq 41 30 dX3_land_27 (by decide) rfl (fun c4 => ?_) (fun c4 => ?_)
        · rw [show cLand q z v s f k u = (.inr IAE, q) by simp [cLand, h1, h2, h3, bI_0.mp c4]]
          exact ax_throw th_X3_220_64 rfl (by omega) dX3_land_41 dX3_land_44 dX3_land_45 dX3_land_47 dX3_land_50 (by omega) (by omega) rfl
        · have h4 := bI_n0.mp c4
          refine ax_iload 32 dX3_land_30 rfl rfl ?_
          refine ax_iconst (v := 1) 33 dX3_land_32 rfl (by decide) ?_
          refine ax_ldc (v := 1000000) 35 dX3_land_33 rfl ci_X3_63 ?_
          refine ax_cS 38 dX3_land_35 rfl ml_X3_59 (s_isWithin (d := d - 1) k 1 1000000) (by omega) rfl rfl (Nat.le_of_ble_eq_true rfl) ?_
          refine ax_if_ne 51 41 dX3_land_38 (by decide) rfl (fun c5 => ?_) (fun c5 => ?_)
          · have h5 := bI_n0.mp c5
            rw [show cLand q z v s f k u = if q 2 (3 * tN s + tN f) = 0 then (.inr IAE, q) else if tkC q z = false then (.inr ISE, q) else if 200 ≤ q 20 9 then (.inr ISE, q) else (.inl (some (.int (q 20 9))), waC (addC q (tN (q 20 9)) 1 z v s (-1) k (lwF k (q 2 (3 * tN s + tN f)) u)) (tN (q 20 9) + 1) (tN z) (tN (q 0 6) + 1 - tN z)) by simp only [cLand, h1, h2, h3, h4, h5, Bool.true_eq_false, if_false]]
            rw [hy] at h1
            obtain ⟨t, ht, hty, rfl, et⟩ := wy hy8 h1
            obtain ⟨i, hi, rfl, ei⟩ := w5 h2
            obtain ⟨j, hj, rfl, ej⟩ := w3 h3
            obtain ⟨m, hm, rfl, em⟩ := w2 h4
            have ey : tN (q 0 6) = y := by rw [hy]; exact tN_nI (by omega)
            have en : tN (q 20 9) = n := by rw [hn]; exact tN_nI (by omega)
            rw [et, ej, em, ey, en]
            refine ax_aload_n 0 52 dX3_land_51 rfl rfl rfl ?_
            refine ax_getf 55 dX3_land_52 rfl fl_X3_13 rfl rfl ?_
            refine ax_iload_n 3 56 dX3_land_55 rfl rfl rfl ?_
            refine ax_iconst (v := 3) 57 dX3_land_56 rfl (by decide) ?_
            refine ax_imul 58 dX3_land_57 rfl ?_
            refine ax_iload 60 dX3_land_58 rfl rfl ?_
            refine ax_iadd 61 dX3_land_60 rfl ?_
            refine ax_ialdN 62 dX3_land_61 rfl rfl (ix3 j m) (by omega) (by decide) ?_
            refine ax_istore 64 dX3_land_62 rfl (Nat.le_of_ble_eq_true rfl) ?_
            refine ax_iload 66 dX3_land_64 rfl rfl ?_
            refine ax_if_ne 79 69 dX3_land_66 (by decide) rfl (fun c6 => ?_) (fun c6 => ?_)
            · rw [if_neg c6]
              refine ax_aload_n 0 80 dX3_land_79 rfl rfl rfl ?_
              refine ax_iload_n 1 81 dX3_land_80 rfl rfl rfl ?_
              refine ax_cV 84 dX3_land_81 rfl ml_X3_224 (s_takesChanges (d := d - 1) (by omega) t (by omega)) rfl (by omega) rfl rfl (Nat.le_of_ble_eq_true rfl) ?_
              refine ax_if_eq 97 87 dX3_land_84 (by decide) rfl (fun c7 => ?_) (fun c7 => ?_)
              · rw [if_pos (bI_0.mp c7)]
                exact ax_throw th_X3_227_97 rfl (by omega) dX3_land_97 dX3_land_100 dX3_land_101 dX3_land_103 dX3_land_106 (by omega) (by omega) rfl
              · rw [if_neg (by rw [bI_n0.mp c7]; decide)]
                refine ax_aload_n 0 88 dX3_land_87 rfl rfl rfl ?_
                refine ax_getf 91 dX3_land_88 rfl fl_X3_33 rfl rfl ?_
                refine ax_cV 94 dX3_land_91 rfl ml_X3_197 (s_areFull (d := d - 1)) rfl (by omega) rfl rfl (Nat.le_of_ble_eq_true rfl) ?_
                refine ax_if_eq 107 97 dX3_land_94 (by decide) rfl (fun c8 => ?_) (fun c8 => ?_)
                · have h8 := of_decide_eq_false (bI_0.mp c8)
                  rw [if_neg h8]
                  have hn3 : n < 200 := by
                    rcases Nat.lt_or_ge n 200 with h | h
                    · exact h
                    · rw [hn] at h8
                      exact absurd (nI_le (a := 200) (b := n) h (by omega)) h8
                  have hev : ∀ a, a < n + 1 → evOK (addC q n 1 (nI t) (nI i) (nI j) (-1) k (lwF k (q 2 (3 * j + m)) u)) a := evOK_addA he (evOK_add1 (by omega) hi hj)
                  refine ax_aload_n 0 108 dX3_land_107 rfl rfl rfl ?_
                  refine ax_getf 111 dX3_land_108 rfl fl_X3_33 rfl rfl ?_
                  refine ax_iconst (v := 1) 112 dX3_land_111 rfl (by decide) ?_
                  refine ax_iload_n 1 113 dX3_land_112 rfl rfl rfl ?_
                  refine ax_iload_n 2 114 dX3_land_113 rfl rfl rfl ?_
                  refine ax_iload_n 3 115 dX3_land_114 rfl rfl rfl ?_
                  refine ax_iconst (v := (-1)) 116 dX3_land_115 rfl (by decide) ?_
                  refine ax_iload 118 dX3_land_116 rfl rfl ?_
                  refine ax_iload 120 dX3_land_118 rfl rfl ?_
                  refine ax_iload 122 dX3_land_120 rfl rfl ?_
                  refine ax_iload 124 dX3_land_122 rfl rfl ?_
                  refine ax_cS 127 dX3_land_124 rfl ml_X3_229 (s_liveWeight (d := d - 1) k _ u) (by omega) rfl rfl (Nat.le_of_ble_eq_true rfl) ?_
                  refine ax_cV 130 dX3_land_127 rfl ml_X3_209 (s_add (d := d - 1) n 1 (nI t) (nI i) (nI j) (-1) k _ hn3 hn) rfl (by omega) rfl rfl (Nat.le_of_ble_eq_true rfl) ?_
                  refine ax_istore 132 dX3_land_130 rfl (Nat.le_of_ble_eq_true rfl) ?_
                  refine ax_aload_n 0 133 dX3_land_132 rfl rfl rfl ?_
                  refine ax_iload_n 1 134 dX3_land_133 rfl rfl rfl ?_
                  refine ax_cVv 137 dX3_land_134 rfl ml_X3_233 (s_workAnew (d := d - 1) (by omega) t y (n + 1) ht hty hy8 hy (by omega) (addC_n hn) hev) rfl (by omega) rfl rfl (Nat.le_of_ble_eq_true rfl) ?_
                  refine ax_iload 139 dX3_land_137 rfl rfl ?_
                  exact ax_iret dX3_land_139 rfl (by rw [hn])
                · rw [if_pos (of_decide_eq_true (bI_n0.mp c8))]
                  exact ax_throw th_X3_227_97 rfl (by omega) dX3_land_97 dX3_land_100 dX3_land_101 dX3_land_103 dX3_land_106 (by omega) (by omega) rfl
            · rw [if_pos c6]
              exact ax_throw th_X3_222_64 rfl (by omega) dX3_land_69 dX3_land_72 dX3_land_73 dX3_land_75 dX3_land_78 (by omega) (by omega) rfl
          · rw [show cLand q z v s f k u = (.inr IAE, q) by simp [cLand, h1, h2, h3, h4, bI_0.mp c5]]
            exact ax_throw th_X3_220_64 rfl (by omega) dX3_land_41 dX3_land_44 dX3_land_45 dX3_land_47 dX3_land_50 (by omega) (by omega) rfl
def cEquivalent (q : Nat → Nat → Int32) (v a b k : Int32) : ax_KO :=
  if isW v 0 5 = false then (.inr IAE, q) else if two3 a b = false then (.inr IAE, q) else if isW k 1 1000 = false then (.inr IAE, q) else
  if q 0 7 = 0 then (.inr ISE, q) else if 200 ≤ q 20 9 then (.inr ISE, q) else if canC q (24 * tN (q 0 6) + 4 * tN v + tN a) (24 * tN (q 0 6) + 4 * tN v + tN b) (6 * tN (q 0 6) + tN v) k (eqF k (q 1 (tN a)) (q 1 (tN b))) = false then (.inr ISE, q) else (.inl (some (.int (q 20 9))), wkC (addC q (tN (q 20 9)) 2 (q 0 6) v a b k (eqF k (q 1 (tN a)) (q 1 (tN b)))) (tN (q 20 9)))
theorem c_equivalent {G : ax_G} {d : Nat} {q : Nat → Nat → Int32} {r : ax_W} (hd : 9 ≤ d) (v a b k : Int32) (y : Nat) (hy : q 0 6 = nI y) (hy8 : y ≤ 8) (n : Nat) (hn : q 20 9 = nI n) (hn2 : n ≤ 200) (hv : ∀ i, i < 4 → ¬ q 1 i = 0) : ax_Met G M_X3_equivalent d 1 6 [.ref 0, .int v, .int a, .int b, .int k] (wQ q ++ r) ((cEquivalent q v a b k).1, wQ (cEquivalent q v a b k).2 ++ r) := by
  refine ax_of rfl (by decide) (Nat.le_of_ble_eq_true rfl) ?_
  refine ax_iload_n 1 1 dX3_equivalent_0 rfl rfl rfl ?_
  refine ax_cS 4 dX3_equivalent_1 rfl ml_X3_86 (s_isVessel (d := d - 1) (by omega) v) (by omega) rfl rfl (Nat.le_of_ble_eq_true rfl) ?_
  refine ax_if_eq 27 7 dX3_equivalent_4 (by decide) rfl (fun c1 => ?_) (fun c1 => ?_)
  · rw [show cEquivalent q v a b k = (.inr IAE, q) by simp [cEquivalent, bI_0.mp c1]]
    exact ax_throw th_X3_239_64 rfl (by omega) dX3_equivalent_27 dX3_equivalent_30 dX3_equivalent_31 dX3_equivalent_33 dX3_equivalent_36 (by omega) (by omega) rfl
  · have h1 := bI_n0.mp c1
    refine ax_iload_n 2 8 dX3_equivalent_7 rfl rfl rfl ?_
    refine ax_iload_n 3 9 dX3_equivalent_8 rfl rfl rfl ?_
    refine ax_cS 12 dX3_equivalent_9 rfl ml_X3_236 (s_areTwoSpecies (d := d - 1) (by omega) a b) (by omega) rfl rfl (Nat.le_of_ble_eq_true rfl) ?_
    refine ax_if_eq 27 15 dX3_equivalent_12 (by decide) rfl (fun c2 => ?_) (fun c2 => ?_)
    · rw [show cEquivalent q v a b k = (.inr IAE, q) by simp [cEquivalent, h1, bI_0.mp c2]]
      exact ax_throw th_X3_239_64 rfl (by omega) dX3_equivalent_27 dX3_equivalent_30 dX3_equivalent_31 dX3_equivalent_33 dX3_equivalent_36 (by omega) (by omega) rfl
    · have h2 := bI_n0.mp c2
      refine ax_iload 17 dX3_equivalent_15 rfl rfl ?_
      refine ax_iconst (v := 1) 18 dX3_equivalent_17 rfl (by decide) ?_
      refine ax_sipush (v := 1000) 21 dX3_equivalent_18 rfl (by decide) ?_
      refine ax_cS 24 dX3_equivalent_21 rfl ml_X3_59 (s_isWithin (d := d - 1) k 1 1000) (by omega) rfl rfl (Nat.le_of_ble_eq_true rfl) ?_
      refine ax_if_ne 37 27 dX3_equivalent_24 (by decide) rfl (fun c3 => ?_) (fun c3 => ?_)
      · have h3 := bI_n0.mp c3
        rw [show cEquivalent q v a b k = if q 0 7 = 0 then (.inr ISE, q) else if 200 ≤ q 20 9 then (.inr ISE, q) else if canC q (24 * tN (q 0 6) + 4 * tN v + tN a) (24 * tN (q 0 6) + 4 * tN v + tN b) (6 * tN (q 0 6) + tN v) k (eqF k (q 1 (tN a)) (q 1 (tN b))) = false then (.inr ISE, q) else (.inl (some (.int (q 20 9))), wkC (addC q (tN (q 20 9)) 2 (q 0 6) v a b k (eqF k (q 1 (tN a)) (q 1 (tN b)))) (tN (q 20 9))) by simp only [cEquivalent, h1, h2, h3, Bool.true_eq_false, if_false]]
        obtain ⟨k1, k2, k3⟩ := two3_t h2
        obtain ⟨t, ht, rfl, et⟩ := w5 h1
        obtain ⟨i, hi, rfl, ei⟩ := w3 k1
        obtain ⟨j, hj, rfl, ej⟩ := w3 k2
        have ey : tN (q 0 6) = y := by rw [hy]; exact tN_nI (by omega)
        have en : tN (q 20 9) = n := by rw [hn]; exact tN_nI (by omega)
        rw [et, ei, ej, ey, en]
        refine ax_aload_n 0 38 dX3_equivalent_37 rfl rfl rfl ?_
        refine ax_getf 41 dX3_equivalent_38 rfl fl_X3_45 rfl rfl ?_
        refine ax_if_eq 54 44 dX3_equivalent_41 (by decide) rfl (fun c4 => ?_) (fun c4 => ?_)
        · rw [if_pos c4]
          exact ax_throw th_X3_201_97 rfl (by omega) dX3_equivalent_54 dX3_equivalent_57 dX3_equivalent_58 dX3_equivalent_60 dX3_equivalent_63 (by omega) (by omega) rfl
        · rw [if_neg c4]
          refine ax_aload_n 0 45 dX3_equivalent_44 rfl rfl rfl ?_
          refine ax_getf 48 dX3_equivalent_45 rfl fl_X3_33 rfl rfl ?_
          refine ax_cV 51 dX3_equivalent_48 rfl ml_X3_197 (s_areFull (d := d - 1)) rfl (by omega) rfl rfl (Nat.le_of_ble_eq_true rfl) ?_
          refine ax_if_eq 64 54 dX3_equivalent_51 (by decide) rfl (fun c5 => ?_) (fun c5 => ?_)
          · have h5 := of_decide_eq_false (bI_0.mp c5)
            rw [if_neg h5]
            have hn3 : n < 200 := by
              rcases Nat.lt_or_ge n 200 with h | h
              · exact h
              · rw [hn] at h5
                exact absurd (nI_le (a := 200) (b := n) h (by omega)) h5
            refine ax_iload 66 dX3_equivalent_64 rfl rfl ?_
            refine ax_aload_n 0 67 dX3_equivalent_66 rfl rfl rfl ?_
            refine ax_getf 70 dX3_equivalent_67 rfl fl_X3_9 rfl rfl ?_
            refine ax_iload_n 2 71 dX3_equivalent_70 rfl rfl rfl ?_
            refine ax_ialdN 72 dX3_equivalent_71 rfl rfl rfl (by omega) (by decide) ?_
            refine ax_aload_n 0 73 dX3_equivalent_72 rfl rfl rfl ?_
            refine ax_getf 76 dX3_equivalent_73 rfl fl_X3_9 rfl rfl ?_
            refine ax_iload_n 3 77 dX3_equivalent_76 rfl rfl rfl ?_
            refine ax_ialdN 78 dX3_equivalent_77 rfl rfl rfl (by omega) (by decide) ?_
            refine ax_cS 81 dX3_equivalent_78 rfl ml_X3_241 (s_equalWeight (d := d - 1) k _ _ (hv j hj)) (by omega) rfl rfl (Nat.le_of_ble_eq_true rfl) ?_
            refine ax_istore 83 dX3_equivalent_81 rfl (Nat.le_of_ble_eq_true rfl) ?_
            refine ax_aload_n 0 84 dX3_equivalent_83 rfl rfl rfl ?_
            refine ax_getf 87 dX3_equivalent_84 rfl fl_X3_26 rfl rfl ?_
            refine ax_aload_n 0 88 dX3_equivalent_87 rfl rfl rfl ?_
            refine ax_getf 91 dX3_equivalent_88 rfl fl_X3_41 rfl rfl ?_
            refine ax_iload_n 1 92 dX3_equivalent_91 rfl rfl rfl ?_
            refine ax_iload_n 2 93 dX3_equivalent_92 rfl rfl rfl ?_
            refine ax_iload_n 3 94 dX3_equivalent_93 rfl rfl rfl ?_
            refine ax_iload 96 dX3_equivalent_94 rfl rfl ?_
            refine ax_iload 98 dX3_equivalent_96 rfl rfl ?_
            rw [hy]
            refine ax_cV 101 dX3_equivalent_98 rfl ml_X3_244 (s_canExchange (d := d - 1) (by omega) y t i j k _ (by omega) (by omega) (by omega)) rfl (by omega) rfl rfl (Nat.le_of_ble_eq_true rfl) ?_
            refine ax_if_ne 114 104 dX3_equivalent_101 (by decide) rfl (fun c6 => ?_) (fun c6 => ?_)
            · rw [if_neg (by rw [bI_n0.mp c6]; decide)]
              refine ax_aload_n 0 115 dX3_equivalent_114 rfl rfl rfl ?_
              refine ax_getf 118 dX3_equivalent_115 rfl fl_X3_33 rfl rfl ?_
              refine ax_iconst (v := 2) 119 dX3_equivalent_118 rfl (by decide) ?_
              refine ax_aload_n 0 120 dX3_equivalent_119 rfl rfl rfl ?_
              refine ax_getf 123 dX3_equivalent_120 rfl fl_X3_41 rfl rfl ?_
              refine ax_iload_n 1 124 dX3_equivalent_123 rfl rfl rfl ?_
              refine ax_iload_n 2 125 dX3_equivalent_124 rfl rfl rfl ?_
              refine ax_iload_n 3 126 dX3_equivalent_125 rfl rfl rfl ?_
              refine ax_iload 128 dX3_equivalent_126 rfl rfl ?_
              refine ax_iload 130 dX3_equivalent_128 rfl rfl ?_
              rw [hy]
              have hev : evOK (addC q n 2 (nI y) (nI t) (nI i) (nI j) k (eqF k (q 1 i) (q 1 j))) n := evOK_add2 hy8 ht hi hj
              refine ax_cV 133 dX3_equivalent_130 rfl ml_X3_209 (s_add (d := d - 1) n 2 (nI y) (nI t) (nI i) (nI j) k _ hn3 hn) rfl (by omega) rfl rfl (Nat.le_of_ble_eq_true rfl) ?_
              refine ax_istore 135 dX3_equivalent_133 rfl (Nat.le_of_ble_eq_true rfl) ?_
              refine ax_aload_n 0 136 dX3_equivalent_135 rfl rfl rfl ?_
              refine ax_getf 139 dX3_equivalent_136 rfl fl_X3_33 rfl rfl ?_
              refine ax_iload 141 dX3_equivalent_139 rfl rfl ?_
              refine ax_aload_n 0 142 dX3_equivalent_141 rfl rfl rfl ?_
              refine ax_getf 145 dX3_equivalent_142 rfl fl_X3_26 rfl rfl ?_
              refine ax_cVv 148 dX3_equivalent_145 rfl ml_X3_213 (s_work (d := d - 1) (by omega) n hn3 hev) rfl (by omega) rfl rfl (Nat.le_of_ble_eq_true rfl) ?_
              refine ax_iload 150 dX3_equivalent_148 rfl rfl ?_
              exact ax_iret dX3_equivalent_150 rfl (by rw [hn])
            · rw [if_pos (bI_0.mp c6)]
              exact ax_throw th_X3_248_97 rfl (by omega) dX3_equivalent_104 dX3_equivalent_107 dX3_equivalent_108 dX3_equivalent_110 dX3_equivalent_113 (by omega) (by omega) rfl
          · rw [if_pos (of_decide_eq_true (bI_n0.mp c5))]
            exact ax_throw th_X3_201_97 rfl (by omega) dX3_equivalent_54 dX3_equivalent_57 dX3_equivalent_58 dX3_equivalent_60 dX3_equivalent_63 (by omega) (by omega) rfl
      · rw [show cEquivalent q v a b k = (.inr IAE, q) by simp [cEquivalent, h1, h2, bI_0.mp c3]]
        exact ax_throw th_X3_239_64 rfl (by omega) dX3_equivalent_27 dX3_equivalent_30 dX3_equivalent_31 dX3_equivalent_33 dX3_equivalent_36 (by omega) (by omega) rfl
def cStrike (q : Nat → Nat → Int32) (i : Int32) : ax_KO :=
  if isW i 0 (q 20 9 - 1) = false then (.inr IOE, q) else
  if (decide (q 21 (tN i) = 1) && decide (q 28 (tN i) = 0)) = false then (.inr ISE, q) else if tkC q (q 22 (tN i)) = false then (.inr ISE, q) else (.inl none, waC (qv q 28 (tN i) 1) (tN (q 20 9)) (tN (q 22 (tN i))) (tN (q 0 6) + 1 - tN (q 22 (tN i))))
theorem c_strike {G : ax_G} {d : Nat} {q : Nat → Nat → Int32} {r : ax_W} (hd : 9 ≤ d) (i : Int32) (y : Nat) (hy : q 0 6 = nI y) (hy8 : y ≤ 8) (n : Nat) (hn : q 20 9 = nI n) (hn2 : n ≤ 200) (he : ∀ i, i < n → evOK q i) (hyr : ∀ i, i < n → 1 ≤ yr q i ∧ yr q i ≤ y) : ax_Met G M_X3_strike d 1 6 [.ref 0, .int i] (wQ q ++ r) ((cStrike q i).1, wQ (cStrike q i).2 ++ r) := by
  refine ax_of rfl (by decide) (Nat.le_of_ble_eq_true rfl) ?_
  refine ax_aload_n 0 1 dX3_strike_0 rfl rfl rfl ?_
  refine ax_getf 4 dX3_strike_1 rfl fl_X3_33 rfl rfl ?_
  refine ax_iload_n 1 5 dX3_strike_4 rfl rfl rfl ?_
  refine ax_cV 8 dX3_strike_5 rfl ml_X3_250 (s_has (d := d - 1) (by omega) i) rfl (by omega) rfl rfl (Nat.le_of_ble_eq_true rfl) ?_
  refine ax_if_ne 21 11 dX3_strike_8 (by decide) rfl (fun c1 => ?_) (fun c1 => ?_)
  · have h1 := bI_n0.mp c1
    rw [show cStrike q i = if (decide (q 21 (tN i) = 1) && decide (q 28 (tN i) = 0)) = false then (.inr ISE, q) else if tkC q (q 22 (tN i)) = false then (.inr ISE, q) else (.inl none, waC (qv q 28 (tN i) 1) (tN (q 20 9)) (tN (q 22 (tN i))) (tN (q 0 6) + 1 - tN (q 22 (tN i)))) by simp only [cStrike, h1, Bool.true_eq_false, if_false]]
    obtain ⟨j, hj, rfl, ej⟩ := wn hn2 hn h1
    have ey : tN (q 0 6) = y := by rw [hy]; exact tN_nI (by omega)
    have en : tN (q 20 9) = n := by rw [hn]; exact tN_nI (by omega)
    rw [ej, ey, en]
    obtain ⟨e1, e2, -⟩ := he j hj
    obtain ⟨e3, e4⟩ := hyr j hj
    refine ax_aload_n 0 22 dX3_strike_21 rfl rfl rfl ?_
    refine ax_getf 25 dX3_strike_22 rfl fl_X3_33 rfl rfl ?_
    refine ax_iload_n 1 26 dX3_strike_25 rfl rfl rfl ?_
    refine ax_cV 29 dX3_strike_26 rfl ml_X3_258 (s_canBeStruck (d := d - 1) j (by omega)) rfl (by omega) rfl rfl (Nat.le_of_ble_eq_true rfl) ?_
    refine ax_if_ne 43 32 dX3_strike_29 (by decide) rfl (fun c2 => ?_) (fun c2 => ?_)
    · rw [if_neg (by rw [bI_n0.mp c2]; decide)]
      refine ax_aload_n 0 44 dX3_strike_43 rfl rfl rfl ?_
      refine ax_getf 47 dX3_strike_44 rfl fl_X3_33 rfl rfl ?_
      refine ax_iload_n 1 48 dX3_strike_47 rfl rfl rfl ?_
      refine ax_cV 51 dX3_strike_48 rfl ml_X3_263 (s_yearOf (d := d - 1) j (by omega)) rfl (by omega) rfl rfl (Nat.le_of_ble_eq_true rfl) ?_
      refine ax_istore_n 2 52 dX3_strike_51 rfl rfl (Nat.le_of_ble_eq_true rfl) ?_
      refine ax_aload_n 0 53 dX3_strike_52 rfl rfl rfl ?_
      refine ax_iload_n 2 54 dX3_strike_53 rfl rfl rfl ?_
      have e5 : tN (q 22 j) = yr q j := rfl
      rw [e5]
      rw [e1]
      refine ax_cV 57 dX3_strike_54 rfl ml_X3_224 (s_takesChanges (d := d - 1) (by omega) (yr q j) (by omega)) rfl (by omega) rfl rfl (Nat.le_of_ble_eq_true rfl) ?_
      refine ax_if_ne 71 60 dX3_strike_57 (by decide) rfl (fun c3 => ?_) (fun c3 => ?_)
      · rw [if_neg (by rw [bI_n0.mp c3]; decide)]
        refine ax_aload_n 0 72 dX3_strike_71 rfl rfl rfl ?_
        refine ax_getf 75 dX3_strike_72 rfl fl_X3_33 rfl rfl ?_
        refine ax_iload_n 1 76 dX3_strike_75 rfl rfl rfl ?_
        refine ax_cVv 79 dX3_strike_76 rfl ml_X3_268 (s_markStruck (d := d - 1) j (by omega)) rfl (by omega) rfl rfl (Nat.le_of_ble_eq_true rfl) ?_
        refine ax_aload_n 0 80 dX3_strike_79 rfl rfl rfl ?_
        refine ax_iload_n 2 81 dX3_strike_80 rfl rfl rfl ?_
        refine ax_cVv 84 dX3_strike_81 rfl ml_X3_233 (s_workAnew (d := d - 1) (by omega) (yr q j) y n e3 e4 hy8 hy hn2 hn (fun i hi => evOK_eq rfl rfl rfl rfl rfl (he i hi))) rfl (by omega) rfl rfl (Nat.le_of_ble_eq_true rfl) ?_
        exact ax_vret dX3_strike_84 rfl rfl
      · rw [if_pos (bI_0.mp c3)]
        exact ax_throwW th_X3_266_97 rfl (by omega) dX3_strike_60 dX3_strike_63 dX3_strike_64 dX3_strike_67 dX3_strike_70 (by omega) (by omega) rfl
    · rw [if_pos (bI_0.mp c2)]
      exact ax_throwW th_X3_261_97 rfl (by omega) dX3_strike_32 dX3_strike_35 dX3_strike_36 dX3_strike_39 dX3_strike_42 (by omega) (by omega) rfl
  · rw [show cStrike q i = (.inr IOE, q) by simp [cStrike, bI_0.mp c1]]
    exact ax_throw th_X3_255_253 rfl (by omega) dX3_strike_11 dX3_strike_14 dX3_strike_15 dX3_strike_17 dX3_strike_20 (by omega) (by omega) rfl
def cReopen (q : Nat → Nat → Int32) (z : Int32) : ax_KO :=
  if isW z 1 (q 0 6) = false then (.inr IAE, q) else
  if tkC q z = true then (.inr ISE, q) else (.inl none, qv q 30 (tN z) 1)
theorem c_reopen {G : ax_G} {d : Nat} {q : Nat → Nat → Int32} {r : ax_W} (hd : 9 ≤ d) (z : Int32) (y : Nat) (hy : q 0 6 = nI y) (hy8 : y ≤ 8) : ax_Met G M_X3_reopen d 1 6 [.ref 0, .int z] (wQ q ++ r) ((cReopen q z).1, wQ (cReopen q z).2 ++ r) := by
  refine ax_of rfl (by decide) (Nat.le_of_ble_eq_true rfl) ?_
  refine ax_aload_n 0 1 dX3_reopen_0 rfl rfl rfl ?_
  refine ax_iload_n 1 2 dX3_reopen_1 rfl rfl rfl ?_
  refine ax_cV 5 dX3_reopen_2 rfl ml_X3_217 (s_wasOpened (d := d - 1) (by omega) z) rfl (by omega) rfl rfl (Nat.le_of_ble_eq_true rfl) ?_
  refine ax_if_ne 19 8 dX3_reopen_5 (by decide) rfl (fun c1 => ?_) (fun c1 => ?_)
  · have h1 := bI_n0.mp c1
    rw [show cReopen q z = if tkC q z = true then (.inr ISE, q) else (.inl none, qv q 30 (tN z) 1) by simp only [cReopen, h1, Bool.true_eq_false, if_false]]
    rw [hy] at h1
    obtain ⟨t, ht, hty, rfl, et⟩ := wy hy8 h1
    rw [et]
    refine ax_aload_n 0 20 dX3_reopen_19 rfl rfl rfl ?_
    refine ax_iload_n 1 21 dX3_reopen_20 rfl rfl rfl ?_
    refine ax_cV 24 dX3_reopen_21 rfl ml_X3_224 (s_takesChanges (d := d - 1) (by omega) t (by omega)) rfl (by omega) rfl rfl (Nat.le_of_ble_eq_true rfl) ?_
    refine ax_if_eq 38 27 dX3_reopen_24 (by decide) rfl (fun c2 => ?_) (fun c2 => ?_)
    · rw [if_neg (by rw [bI_0.mp c2]; decide)]
      refine ax_aload_n 0 39 dX3_reopen_38 rfl rfl rfl ?_
      refine ax_getf 42 dX3_reopen_39 rfl fl_X3_37 rfl rfl ?_
      refine ax_iload_n 1 43 dX3_reopen_42 rfl rfl rfl ?_
      refine ax_iconst (v := 1) 44 dX3_reopen_43 rfl (by decide) ?_
      refine ax_zastN 45 dX3_reopen_44 rfl rfl rfl (by omega) (by decide) (by decide) ?_
      rw [wQs_30]
      exact ax_vret dX3_reopen_45 rfl rfl
    · rw [if_pos (bI_n0.mp c2)]
      exact ax_throwW th_X3_273_97 rfl (by omega) dX3_reopen_27 dX3_reopen_30 dX3_reopen_31 dX3_reopen_34 dX3_reopen_37 (by omega) (by omega) rfl
  · rw [show cReopen q z = (.inr IAE, q) by simp [cReopen, bI_0.mp c1]]
    exact ax_throwW th_X3_271_64 rfl (by omega) dX3_reopen_8 dX3_reopen_11 dX3_reopen_12 dX3_reopen_15 dX3_reopen_18 (by omega) (by omega) rfl
def cAccount (q : Nat → Nat → Int32) (z v s w : Int32) : ax_KO :=
  if isW z 1 (q 0 6) = false then (.inr IAE, q) else if isW v 0 5 = false then (.inr IAE, q) else if isW s 0 3 = false then (.inr IAE, q) else if isW w 0 8 = false then (.inr IAE, q) else
  (.inl (some (.int (fgC q (24 * tN z + 4 * tN v + tN s) (tN w)))), q)
theorem c_account {G : ax_G} {d : Nat} {q : Nat → Nat → Int32} {r : ax_W} (hd : 9 ≤ d) (z v s w : Int32) (y : Nat) (hy : q 0 6 = nI y) (hy8 : y ≤ 8) : ax_Met G M_X3_account d 1 6 [.ref 0, .int z, .int v, .int s, .int w] (wQ q ++ r) ((cAccount q z v s w).1, wQ (cAccount q z v s w).2 ++ r) := by
  refine ax_of rfl (by decide) (Nat.le_of_ble_eq_true rfl) ?_
  refine ax_aload_n 0 1 dX3_account_0 rfl rfl rfl ?_
  refine ax_iload_n 1 2 dX3_account_1 rfl rfl rfl ?_
  refine ax_cV 5 dX3_account_2 rfl ml_X3_217 (s_wasOpened (d := d - 1) (by omega) z) rfl (by omega) rfl rfl (Nat.le_of_ble_eq_true rfl) ?_
  refine ax_if_eq 33 8 dX3_account_5 (by decide) rfl (fun c1 => ?_) (fun c1 => ?_)
  · rw [show cAccount q z v s w = (.inr IAE, q) by simp [cAccount, bI_0.mp c1]]
    exact ax_throwW th_X3_275_64 rfl (by omega) dX3_account_33 dX3_account_36 dX3_account_37 dX3_account_40 dX3_account_43 (by omega) (by omega) rfl
  · have h1 := bI_n0.mp c1
    refine ax_iload_n 2 9 dX3_account_8 rfl rfl rfl ?_
    refine ax_cS 12 dX3_account_9 rfl ml_X3_86 (s_isVessel (d := d - 1) (by omega) v) (by omega) rfl rfl (Nat.le_of_ble_eq_true rfl) ?_
    refine ax_if_eq 33 15 dX3_account_12 (by decide) rfl (fun c2 => ?_) (fun c2 => ?_)
    · rw [show cAccount q z v s w = (.inr IAE, q) by simp [cAccount, h1, bI_0.mp c2]]
      exact ax_throwW th_X3_275_64 rfl (by omega) dX3_account_33 dX3_account_36 dX3_account_37 dX3_account_40 dX3_account_43 (by omega) (by omega) rfl
    · have h2 := bI_n0.mp c2
      refine ax_iload_n 3 16 dX3_account_15 rfl rfl rfl ?_
      refine ax_cS 19 dX3_account_16 rfl ml_X3_55 (s_isSpecies (d := d - 1) (by omega) s) (by omega) rfl rfl (Nat.le_of_ble_eq_true rfl) ?_
      refine ax_if_eq 33 22 dX3_account_19 (by decide) rfl (fun c3 => ?_) (fun c3 => ?_)
      · rw [show cAccount q z v s w = (.inr IAE, q) by simp [cAccount, h1, h2, bI_0.mp c3]]
        exact ax_throwW th_X3_275_64 rfl (by omega) dX3_account_33 dX3_account_36 dX3_account_37 dX3_account_40 dX3_account_43 (by omega) (by omega) rfl
      · have h3 := bI_n0.mp c3
        refine ax_iload 24 dX3_account_22 rfl rfl ?_
        refine ax_iconst (v := 0) 25 dX3_account_24 rfl (by decide) ?_
        refine ax_bipush (v := 8) 27 dX3_account_25 rfl (by decide) ?_
        refine ax_cS 30 dX3_account_27 rfl ml_X3_59 (s_isWithin (d := d - 1) w 0 8) (by omega) rfl rfl (Nat.le_of_ble_eq_true rfl) ?_
        refine ax_if_ne 44 33 dX3_account_30 (by decide) rfl (fun c4 => ?_) (fun c4 => ?_)
        · have h4 := bI_n0.mp c4
          rw [show cAccount q z v s w = (.inl (some (.int (fgC q (24 * tN z + 4 * tN v + tN s) (tN w)))), q) by simp only [cAccount, h1, h2, h3, h4, Bool.true_eq_false, if_false]]
          rw [hy] at h1
          obtain ⟨t, ht, hty, rfl, et⟩ := wy hy8 h1
          obtain ⟨i, hi, rfl, ei⟩ := w5 h2
          obtain ⟨j, hj, rfl, ej⟩ := w3 h3
          obtain ⟨m, hm, rfl, em⟩ := w8 h4
          rw [et, ei, ej, em]
          refine ax_aload_n 0 45 dX3_account_44 rfl rfl rfl ?_
          refine ax_getf 48 dX3_account_45 rfl fl_X3_26 rfl rfl ?_
          refine ax_iload_n 1 49 dX3_account_48 rfl rfl rfl ?_
          refine ax_iload_n 2 50 dX3_account_49 rfl rfl rfl ?_
          refine ax_iload_n 3 51 dX3_account_50 rfl rfl rfl ?_
          refine ax_cS 54 dX3_account_51 rfl ml_X3_277 (s_row (d := d - 1) t i j) (by omega) rfl rfl (Nat.le_of_ble_eq_true rfl) ?_
          refine ax_iload 56 dX3_account_54 rfl rfl ?_
          refine ax_cV 59 dX3_account_56 rfl ml_X3_280 (s_figure (d := d - 1) (by omega) _ m (by omega) hm) rfl (by omega) rfl rfl (Nat.le_of_ble_eq_true rfl) ?_
          exact ax_iret dX3_account_59 rfl rfl
        · rw [show cAccount q z v s w = (.inr IAE, q) by simp [cAccount, h1, h2, h3, bI_0.mp c4]]
          exact ax_throwW th_X3_275_64 rfl (by omega) dX3_account_33 dX3_account_36 dX3_account_37 dX3_account_40 dX3_account_43 (by omega) (by omega) rfl
def cLevy (q : Nat → Nat → Int32) (o z : Int32) : ax_KO :=
  if isW o 0 5 = false then (.inr IAE, q) else if isW z 1 (q 0 6) = false then (.inr IAE, q) else
  (.inl (some (.long (lvO q o (tN z) 6))), q)
theorem c_levy {G : ax_G} {d : Nat} {q : Nat → Nat → Int32} {r : ax_W} (hd : 9 ≤ d) (o z : Int32) (y : Nat) (hy : q 0 6 = nI y) (hy8 : y ≤ 8) : ax_Met G M_X3_levy d 1 6 [.ref 0, .int o, .int z] (wQ q ++ r) ((cLevy q o z).1, wQ (cLevy q o z).2 ++ r) := by
  refine ax_of rfl (by decide) (Nat.le_of_ble_eq_true rfl) ?_
  refine ax_iload_n 1 1 dX3_levy_0 rfl rfl rfl ?_
  refine ax_cS 4 dX3_levy_1 rfl ml_X3_89 (s_isOwner (d := d - 1) (by omega) o) (by omega) rfl rfl (Nat.le_of_ble_eq_true rfl) ?_
  refine ax_if_eq 15 7 dX3_levy_4 (by decide) rfl (fun c1 => ?_) (fun c1 => ?_)
  · rw [show cLevy q o z = (.inr IAE, q) by simp [cLevy, bI_0.mp c1]]
    exact ax_throwW th_X3_283_64 rfl (by omega) dX3_levy_15 dX3_levy_18 dX3_levy_19 dX3_levy_22 dX3_levy_25 (by omega) (by omega) rfl
  · have h1 := bI_n0.mp c1
    refine ax_aload_n 0 8 dX3_levy_7 rfl rfl rfl ?_
    refine ax_iload_n 2 9 dX3_levy_8 rfl rfl rfl ?_
    refine ax_cV 12 dX3_levy_9 rfl ml_X3_217 (s_wasOpened (d := d - 1) (by omega) z) rfl (by omega) rfl rfl (Nat.le_of_ble_eq_true rfl) ?_
    refine ax_if_ne 26 15 dX3_levy_12 (by decide) rfl (fun c2 => ?_) (fun c2 => ?_)
    · have h2 := bI_n0.mp c2
      rw [show cLevy q o z = (.inl (some (.long (lvO q o (tN z) 6))), q) by simp only [cLevy, h1, h2, Bool.true_eq_false, if_false]]
      rw [hy] at h2
      obtain ⟨t, ht, hty, rfl, et⟩ := wy hy8 h2
      rw [et]
      refine ax_lconst (v := 0) 27 dX3_levy_26 rfl (by decide) ?_
      refine ax_lstore_n 3 28 dX3_levy_27 rfl rfl (Nat.le_of_ble_eq_true rfl) ?_
      refine ax_iconst (v := 0) 29 dX3_levy_28 rfl (by decide) ?_
      refine ax_istore 31 dX3_levy_29 rfl (Nat.le_of_ble_eq_true rfl) ?_
      refine ax_lvk (ax_down (P := fun j => ax_Ex G M_X3_levy d 1 6 31 [(0, .ref 0), (1, .int o), (2, .int (nI t)), (3, .long (lvO q o t j)), (5, .int (nI j))] [] (wQ q ++ r) (.inl (some (.long (lvO q o t 6))), wQ q ++ r)) (n := 6) ?_ (fun j hj ih => ?_) 0 (Nat.zero_le _)) ⟨rfl, rfl, rfl, rfl, rfl, trivial⟩
      · refine ax_iload 33 dX3_levy_31 rfl rfl ?_
        refine ax_bipush (v := 6) 35 dX3_levy_33 rfl (by decide) ?_
        refine ax_icmp_ge 67 38 dX3_levy_35 (by decide) rfl (fun c => ?_) (fun c => ?_)
        · refine ax_lload_n 3 68 dX3_levy_67 rfl rfl rfl ?_
          exact ax_lret dX3_levy_68 rfl rfl
        · exact absurd (by decide) c
      · refine ax_iload 33 dX3_levy_31 rfl rfl ?_
        refine ax_bipush (v := 6) 35 dX3_levy_33 rfl (by decide) ?_
        refine ax_icmp_ge 67 38 dX3_levy_35 (by decide) rfl (fun c => ?_) (fun c => ?_)
        · exact absurd c (nI_ge hj (by decide))
        · refine ax_aload_n 0 39 dX3_levy_38 rfl rfl rfl ?_
          refine ax_getf 42 dX3_levy_39 rfl fl_X3_19 rfl rfl ?_
          refine ax_iload 44 dX3_levy_42 rfl rfl ?_
          refine ax_cV 47 dX3_levy_44 rfl ml_X3_158 (s_ownerOf (d := d - 1) j hj) rfl (by omega) rfl rfl (Nat.le_of_ble_eq_true rfl) ?_
          refine ax_iload_n 1 48 dX3_levy_47 rfl rfl rfl ?_
          refine ax_icmp_ne 61 51 dX3_levy_48 (by decide) rfl (fun c4 => ?_) (fun c4 => ?_)
          · refine ax_iinc (v := (_ : Int32) + 1) 64 dX3_levy_61 rfl rfl rfl (Nat.le_of_ble_eq_true rfl) ?_
            refine ax_goto 31 dX3_levy_64 (by decide) ?_
            rw [show lvO q o t (j + 1) = lvO q o t j from if_neg c4] at ih
            exact ax_lvk ih ⟨rfl, rfl, rfl, rfl, gI (nI_1 j), trivial⟩
          · refine ax_lload_n 3 52 dX3_levy_51 rfl rfl rfl ?_
            refine ax_aload_n 0 53 dX3_levy_52 rfl rfl rfl ?_
            refine ax_iload 55 dX3_levy_53 rfl rfl ?_
            refine ax_iload_n 2 56 dX3_levy_55 rfl rfl rfl ?_
            refine ax_cV 59 dX3_levy_56 rfl ml_X3_285 (s_levyOfVessel (d := d - 1) (by omega) j t hj (by omega)) rfl (by omega) rfl rfl (Nat.le_of_ble_eq_true rfl) ?_
            refine ax_ladd 60 dX3_levy_59 rfl ?_
            refine ax_lstore_n 3 61 dX3_levy_60 rfl rfl (Nat.le_of_ble_eq_true rfl) ?_
            refine ax_iinc (v := (_ : Int32) + 1) 64 dX3_levy_61 rfl rfl rfl (Nat.le_of_ble_eq_true rfl) ?_
            refine ax_goto 31 dX3_levy_64 (by decide) ?_
            rw [show lvO q o t (j + 1) = lvO q o t j + lvV q j t 4 from if_pos c4] at ih
            exact ax_lvk ih ⟨rfl, rfl, rfl, rfl, gI (nI_1 j), trivial⟩
    · rw [show cLevy q o z = (.inr IAE, q) by simp [cLevy, h1, bI_0.mp c2]]
      exact ax_throwW th_X3_283_64 rfl (by omega) dX3_levy_15 dX3_levy_18 dX3_levy_19 dX3_levy_22 dX3_levy_25 (by omega) (by omega) rfl
def hdC (q : Nat → Nat → Int32) (s o w : Nat) : Int32 := match w with
  | 0 => q 7 (6 * s + o)
  | 1 => freeC (q 7) (q 6) (q 8) s (nI o) (q 7 (6 * s + o)) 6
  | _ => sumC q s (grpC (q 5) o) 6
def cHeld (q : Nat → Nat → Int32) (s o w : Int32) : ax_KO :=
  if isW s 0 3 = false then (.inr IAE, q) else if isW o 0 5 = false then (.inr IAE, q) else if isW w 0 2 = false then (.inr IAE, q) else
  (.inl (some (.int (hdC q (tN s) (tN o) (tN w)))), q)
theorem c_held {G : ax_G} {d : Nat} {q : Nat → Nat → Int32} {r : ax_W} (hd : 9 ≤ d) (s o w : Int32) : ax_Met G M_X3_held d 1 6 [.ref 0, .int s, .int o, .int w] (wQ q ++ r) ((cHeld q s o w).1, wQ (cHeld q s o w).2 ++ r) := by
  refine ax_of rfl (by decide) (Nat.le_of_ble_eq_true rfl) ?_
  refine ax_iload_n 1 1 dX3_held_0 rfl rfl rfl ?_
  refine ax_cS 4 dX3_held_1 rfl ml_X3_55 (s_isSpecies (d := d - 1) (by omega) s) (by omega) rfl rfl (Nat.le_of_ble_eq_true rfl) ?_
  refine ax_if_eq 23 7 dX3_held_4 (by decide) rfl (fun c1 => ?_) (fun c1 => ?_)
  · rw [show cHeld q s o w = (.inr IAE, q) by simp [cHeld, bI_0.mp c1]]
    exact ax_throwW th_X3_289_64 rfl (by omega) dX3_held_23 dX3_held_26 dX3_held_27 dX3_held_30 dX3_held_33 (by omega) (by omega) rfl
  · have h1 := bI_n0.mp c1
    refine ax_iload_n 2 8 dX3_held_7 rfl rfl rfl ?_
    refine ax_cS 11 dX3_held_8 rfl ml_X3_89 (s_isOwner (d := d - 1) (by omega) o) (by omega) rfl rfl (Nat.le_of_ble_eq_true rfl) ?_
    refine ax_if_eq 23 14 dX3_held_11 (by decide) rfl (fun c2 => ?_) (fun c2 => ?_)
    · rw [show cHeld q s o w = (.inr IAE, q) by simp [cHeld, h1, bI_0.mp c2]]
      exact ax_throwW th_X3_289_64 rfl (by omega) dX3_held_23 dX3_held_26 dX3_held_27 dX3_held_30 dX3_held_33 (by omega) (by omega) rfl
    · have h2 := bI_n0.mp c2
      refine ax_iload_n 3 15 dX3_held_14 rfl rfl rfl ?_
      refine ax_iconst (v := 0) 16 dX3_held_15 rfl (by decide) ?_
      refine ax_iconst (v := 2) 17 dX3_held_16 rfl (by decide) ?_
      refine ax_cS 20 dX3_held_17 rfl ml_X3_59 (s_isWithin (d := d - 1) w 0 2) (by omega) rfl rfl (Nat.le_of_ble_eq_true rfl) ?_
      refine ax_if_ne 34 23 dX3_held_20 (by decide) rfl (fun c3 => ?_) (fun c3 => ?_)
      · have h3 := bI_n0.mp c3
        rw [show cHeld q s o w = (.inl (some (.int (hdC q (tN s) (tN o) (tN w)))), q) by simp only [cHeld, h1, h2, h3, Bool.true_eq_false, if_false]]
        obtain ⟨i, hi, rfl, ei⟩ := w3 h1
        obtain ⟨j, hj, rfl, ej⟩ := w5 h2
        obtain ⟨m, hm, rfl, em⟩ := w2 h3
        rw [ei, ej, em]
        refine ax_iload_n 3 35 dX3_held_34 rfl rfl rfl ?_
        match m, hm with
        | 0, _ =>
          refine ax_lookup (off := 25) 60 dX3_held_35 (by decide) (by decide) (by decide) ?_
          refine ax_aload_n 0 61 dX3_held_60 rfl rfl rfl ?_
          refine ax_getf 64 dX3_held_61 rfl fl_X3_19 rfl rfl ?_
          refine ax_iload_n 1 65 dX3_held_64 rfl rfl rfl ?_
          refine ax_iload_n 2 66 dX3_held_65 rfl rfl rfl ?_
          refine ax_cV 69 dX3_held_66 rfl ml_X3_291 (s_partsOf (d := d - 1) i j hi hj) rfl (by omega) rfl rfl (Nat.le_of_ble_eq_true rfl) ?_
          exact ax_iret dX3_held_69 rfl rfl
        | 1, _ =>
          refine ax_lookup (off := 35) 70 dX3_held_35 (by decide) (by decide) (by decide) ?_
          refine ax_aload_n 0 71 dX3_held_70 rfl rfl rfl ?_
          refine ax_getf 74 dX3_held_71 rfl fl_X3_19 rfl rfl ?_
          refine ax_iload_n 1 75 dX3_held_74 rfl rfl rfl ?_
          refine ax_iload_n 2 76 dX3_held_75 rfl rfl rfl ?_
          refine ax_cV 79 dX3_held_76 rfl ml_X3_145 (s_freeParts (d := d - 1) (by omega) i j hi hj) rfl (by omega) rfl rfl (Nat.le_of_ble_eq_true rfl) ?_
          exact ax_iret dX3_held_79 rfl rfl
        | 2, _ =>
          refine ax_lookup (off := 45) 80 dX3_held_35 (by decide) (by decide) (by decide) ?_
          refine ax_aload_n 0 81 dX3_held_80 rfl rfl rfl ?_
          refine ax_getf 84 dX3_held_81 rfl fl_X3_19 rfl rfl ?_
          refine ax_iload_n 1 85 dX3_held_84 rfl rfl rfl ?_
          refine ax_aload_n 0 86 dX3_held_85 rfl rfl rfl ?_
          refine ax_getf 89 dX3_held_86 rfl fl_X3_19 rfl rfl ?_
          refine ax_iload_n 2 90 dX3_held_89 rfl rfl rfl ?_
          refine ax_cV 93 dX3_held_90 rfl ml_X3_294 (s_groupOf (d := d - 1) j hj) rfl (by omega) rfl rfl (Nat.le_of_ble_eq_true rfl) ?_
          refine ax_cV 96 dX3_held_93 rfl ml_X3_297 (s_partsOfGroup (d := d - 1) (by omega) i _ hi) rfl (by omega) rfl rfl (Nat.le_of_ble_eq_true rfl) ?_
          exact ax_iret dX3_held_96 rfl rfl
        | m + 3, h => exact absurd h (by omega)
      · rw [show cHeld q s o w = (.inr IAE, q) by simp [cHeld, h1, h2, bI_0.mp c3]]
        exact ax_throwW th_X3_289_64 rfl (by omega) dX3_held_23 dX3_held_26 dX3_held_27 dX3_held_30 dX3_held_33 (by omega) (by omega) rfl
def cEvent (q : Nat → Nat → Int32) (i w : Int32) : ax_KO :=
  if isW i 0 (q 20 9 - 1) = false then (.inr IOE, q) else if isW w 0 3 = false then (.inr IAE, q) else
  (.inl (some (.int (efC q (tN i) (tN w)))), q)
theorem c_event {G : ax_G} {d : Nat} {q : Nat → Nat → Int32} {r : ax_W} (hd : 9 ≤ d) (i w : Int32) (n : Nat) (hn : q 20 9 = nI n) (hn2 : n ≤ 200) : ax_Met G M_X3_event d 1 6 [.ref 0, .int i, .int w] (wQ q ++ r) ((cEvent q i w).1, wQ (cEvent q i w).2 ++ r) := by
  refine ax_of rfl (by decide) (Nat.le_of_ble_eq_true rfl) ?_
  refine ax_aload_n 0 1 dX3_event_0 rfl rfl rfl ?_
  refine ax_getf 4 dX3_event_1 rfl fl_X3_33 rfl rfl ?_
  refine ax_iload_n 1 5 dX3_event_4 rfl rfl rfl ?_
  refine ax_cV 8 dX3_event_5 rfl ml_X3_250 (s_has (d := d - 1) (by omega) i) rfl (by omega) rfl rfl (Nat.le_of_ble_eq_true rfl) ?_
  refine ax_if_ne 21 11 dX3_event_8 (by decide) rfl (fun c1 => ?_) (fun c1 => ?_)
  · have h1 := bI_n0.mp c1
    refine ax_iload_n 2 22 dX3_event_21 rfl rfl rfl ?_
    refine ax_iconst (v := 0) 23 dX3_event_22 rfl (by decide) ?_
    refine ax_iconst (v := 3) 24 dX3_event_23 rfl (by decide) ?_
    refine ax_cS 27 dX3_event_24 rfl ml_X3_59 (s_isWithin (d := d - 1) w 0 3) (by omega) rfl rfl (Nat.le_of_ble_eq_true rfl) ?_
    refine ax_if_ne 41 30 dX3_event_27 (by decide) rfl (fun c2 => ?_) (fun c2 => ?_)
    · have h2 := bI_n0.mp c2
      rw [show cEvent q i w = (.inl (some (.int (efC q (tN i) (tN w)))), q) by simp only [cEvent, h1, h2, Bool.true_eq_false, if_false]]
      obtain ⟨j, hj, rfl, ej⟩ := wn hn2 hn h1
      obtain ⟨m, hm, rfl, em⟩ := w3 h2
      rw [ej, em]
      refine ax_aload_n 0 42 dX3_event_41 rfl rfl rfl ?_
      refine ax_getf 45 dX3_event_42 rfl fl_X3_33 rfl rfl ?_
      refine ax_iload_n 1 46 dX3_event_45 rfl rfl rfl ?_
      refine ax_iload_n 2 47 dX3_event_46 rfl rfl rfl ?_
      refine ax_cV 50 dX3_event_47 rfl ml_X3_302 (s_efigure (d := d - 1) j m (by omega) hm) rfl (by omega) rfl rfl (Nat.le_of_ble_eq_true rfl) ?_
      exact ax_iret dX3_event_50 rfl rfl
    · rw [show cEvent q i w = (.inr IAE, q) by simp [cEvent, h1, bI_0.mp c2]]
      exact ax_throwW th_X3_300_64 rfl (by omega) dX3_event_30 dX3_event_33 dX3_event_34 dX3_event_37 dX3_event_40 (by omega) (by omega) rfl
  · rw [show cEvent q i w = (.inr IOE, q) by simp [cEvent, bI_0.mp c1]]
    exact ax_throw th_X3_255_253 rfl (by omega) dX3_event_11 dX3_event_14 dX3_event_15 dX3_event_17 dX3_event_20 (by omega) (by omega) rfl
def abC (q : Nat → Nat → Int32) (w : Nat) : Int32 := match w with
  | 0 => q 0 6
  | 1 => bI (ntz (q 0 7))
  | 2 => q 20 9
  | _ => ctC (q 29) (tN (q 20 9))
def cAbout (q : Nat → Nat → Int32) (w : Int32) : ax_KO :=
  if isW w 0 3 = false then (.inr IAE, q) else (.inl (some (.int (abC q (tN w)))), q)
theorem c_about {G : ax_G} {d : Nat} {q : Nat → Nat → Int32} {r : ax_W} (hd : 9 ≤ d) (w : Int32) (n : Nat) (hn : q 20 9 = nI n) (hn2 : n ≤ 200) : ax_Met G M_X3_about d 1 6 [.ref 0, .int w] (wQ q ++ r) ((cAbout q w).1, wQ (cAbout q w).2 ++ r) := by
  refine ax_of rfl (by decide) (Nat.le_of_ble_eq_true rfl) ?_
  refine ax_iload_n 1 1 dX3_about_0 rfl rfl rfl ?_
  by_cases h : isW w 0 3 = true
  · rw [show cAbout q w = (.inl (some (.int (abC q (tN w)))), q) by simp [cAbout, h]]
    obtain ⟨m, hm, rfl, em⟩ := w3 h
    rw [em]
    match m, hm with
    | 0, _ =>
      refine ax_tableIn (off := 31) 32 dX3_about_1 (by decide) (by decide) (by decide) (by decide) ?_
      refine ax_aload_n 0 33 dX3_about_32 rfl rfl rfl ?_
      refine ax_getf 36 dX3_about_33 rfl fl_X3_41 rfl rfl ?_
      exact ax_iret dX3_about_36 rfl rfl
    | 1, _ =>
      refine ax_tableIn (off := 36) 37 dX3_about_1 (by decide) (by decide) (by decide) (by decide) ?_
      refine ax_aload_n 0 38 dX3_about_37 rfl rfl rfl ?_
      refine ax_getf 41 dX3_about_38 rfl fl_X3_45 rfl rfl ?_
      refine ax_if_eq 48 44 dX3_about_41 (by decide) rfl (fun c => ?_) (fun c => ?_)
      · rw [show abC q 1 = 0 by simp [abC, ntz_f c, bI]]
        refine ax_iconst (v := 0) 49 dX3_about_48 rfl (by decide) ?_
        exact ax_iret dX3_about_49 rfl rfl
      · rw [show abC q 1 = 1 by simp [abC, ntz_t c, bI]]
        refine ax_iconst (v := 1) 45 dX3_about_44 rfl (by decide) ?_
        refine ax_goto 49 dX3_about_45 (by decide) ?_
        exact ax_iret dX3_about_49 rfl rfl
    | 2, _ =>
      refine ax_tableIn (off := 49) 50 dX3_about_1 (by decide) (by decide) (by decide) (by decide) ?_
      refine ax_aload_n 0 51 dX3_about_50 rfl rfl rfl ?_
      refine ax_getf 54 dX3_about_51 rfl fl_X3_33 rfl rfl ?_
      refine ax_cV 57 dX3_about_54 rfl ml_X3_303 (s_size (d := d - 1)) rfl (by omega) rfl rfl (Nat.le_of_ble_eq_true rfl) ?_
      exact ax_iret dX3_about_57 rfl rfl
    | 3, _ =>
      refine ax_tableIn (off := 57) 58 dX3_about_1 (by decide) (by decide) (by decide) (by decide) ?_
      have en : tN (q 20 9) = n := by rw [hn]; exact tN_nI (by omega)
      rw [show abC q 3 = ctC (q 29) n by show ctC (q 29) (tN (q 20 9)) = _; rw [en]]
      refine ax_aload_n 0 59 dX3_about_58 rfl rfl rfl ?_
      refine ax_getf 62 dX3_about_59 rfl fl_X3_33 rfl rfl ?_
      refine ax_cV 65 dX3_about_62 rfl ml_X3_307 (s_countCounting (d := d - 1) n hn2 hn) rfl (by omega) rfl rfl (Nat.le_of_ble_eq_true rfl) ?_
      exact ax_iret dX3_about_65 rfl rfl
    | m + 4, h => exact absurd h (by omega)
  · rw [show cAbout q w = (.inr IAE, q) by simp [cAbout, h]]
    refine ax_tableOut 66 dX3_about_1 (wout h) (by decide) ?_
    exact ax_throwW th_X3_300_64 rfl (by omega) dX3_about_66 dX3_about_69 dX3_about_70 dX3_about_73 dX3_about_76 (by omega) (by omega) rfl
