/-! accounts -/
def mxF (x y : Int32) : Int32 := if x < y then y else x
def mnF (x y : Int32) : Int32 := if y < x then y else x
theorem c24 {a j : Nat} (h : j < 24) (ha : a < 1000) : ¬ nI a + 24 ≤ nI (a + j) := by
  rw [show (24 : Int32) = nI 24 from by decide, nI_add]
  exact nI_ge (by omega) (by omega)
theorem c24' {a : Nat} (ha : a < 1000) : nI a + 24 ≤ nI (a + 24) := by
  rw [show (24 : Int32) = nI 24 from by decide, nI_add]
  exact nI_le (Nat.le_refl _) (by omega)
theorem nI_m24 {a : Nat} (h : 24 ≤ a) : nI a - 24 = nI (a - 24) := by
  rw [show (24 : Int32) = nI 24 from by decide, pk_sub h]
/-- a loop 'for (k = x; k < y; k++)' runs so many times -/
def cnt (x y : Int32) : Nat := (y.toInt - x.toInt).toNat
theorem cnt_lt {x y : Int32} (h : ¬ y ≤ x) : cnt x y = cnt (x + 1) y + 1 := by
  have h1 : x.toInt < y.toInt := Int32.lt_iff_toInt_lt.mp (Int32.not_le.mp h)
  have h2 : y.toInt < 2 ^ 31 := y.toInt_lt
  have h3 : -2 ^ 31 ≤ x.toInt := x.le_toInt
  have h4 : (x + 1).toInt = x.toInt + 1 := by
    rw [Int32.toInt_add]
    show (x.toInt + 1).bmod (2 ^ 32) = x.toInt + 1
    rw [Int.bmod_eq_of_le (by omega) (by omega)]
  unfold cnt
  rw [h4]
  omega
theorem cnt_ge {x y : Int32} (h : y ≤ x) : cnt x y = 0 := by
  have h1 : y.toInt ≤ x.toInt := Int32.le_iff_toInt_le.mp h
  unfold cnt
  omega
theorem itF_comm {α : Type} {f : α → α} : ∀ (n : Nat) (a : α), itF (fun _ => f) n (f a) = f (itF (fun _ => f) n a)
  | 0, _ => rfl
  | n + 1, a => by rw [itF_s, itF_s, itF_comm n a]
def bg1 (y j : Nat) (q : Nat → Nat → Int32) : Nat → Nat → Int32 :=
  let q1 := qv q 11 (24 * y + j) 0
  let q2 := qv q1 14 (24 * y + j) 0
  let q3 := qv q2 12 (24 * y + j) (q2 15 (24 * y + j - 24))
  qv q3 13 (24 * y + j) (q3 16 (24 * y + j - 24))
def begC (q : Nat → Nat → Int32) (y : Nat) : Nat → Nat → Int32 := itF (fun v q => qv q 18 (6 * y + v) 0) 6 (itF (bg1 y) 24 q)
def st1 (y j : Nat) (q : Nat → Nat → Int32) : Nat → Nat → Int32 :=
  let over := mxF 0 (-(leftF q (24 * y + j)))
  let q1 := qv q 15 (24 * y + j) (mnF (q 10 (24 * y + j) * 15 / 100) (mxF 0 (leftF q (24 * y + j))))
  let q2 := qv q1 16 (24 * y + j) (mnF (q1 10 (24 * y + j) * 5 / 100) over)
  qv q2 17 (24 * y + j) (over - q2 16 (24 * y + j))
def setC (q : Nat → Nat → Int32) (y : Nat) : Nat → Nat → Int32 := itF (st1 y) 24 q
def clC (q : Nat → Nat → Int32) (y n : Nat) : Int32 := itF (fun j c => if 0 < q 17 (24 * y + j) then c + 1 else c) n 0
def mvC (q : Nat → Nat → Int32) (a b : Nat) (x : Int32) : Nat → Nat → Int32 := qv (qv q 11 a (q 11 a - x)) 11 b (qv q 11 a (q 11 a - x) 11 b + x)
def exC (q : Nat → Nat → Int32) (a b c : Nat) (x z : Int32) : Nat → Nat → Int32 :=
  let q1 := qv q 14 a (q 14 a - x)
  let q2 := qv q1 14 b (q1 14 b + z)
  qv q2 18 c (q2 18 c + x)
def canC (q : Nat → Nat → Int32) (a b c : Nat) (x z : Int32) : Bool := decide (x ≤ q 14 a) && (decide (z ≤ leftF q b) && decide (q 18 c + x ≤ 1000))
def grC1 (q : Nat → Nat → Int32) (n : Nat) : Nat := itF (fun v b => if q 19 (v + 1) ≤ q 19 b then b else v + 1) n 0
theorem grC1_lt (q : Nat → Nat → Int32) : ∀ n : Nat, grC1 q n < n + 1
  | 0 => Nat.zero_lt_one
  | n + 1 => by
    have h := grC1_lt q n
    unfold grC1 at h ⊢
    rw [itF_s]
    by_cases c : q 19 (n + 1) ≤ q 19 (itF (fun v b => if q 19 (v + 1) ≤ q 19 b then b else v + 1) n 0)
    · rw [if_pos c]; omega
    · rw [if_neg c]; omega
abbrev ax_S3 : Type := (Nat → Nat → Int32) × Int64 × Int32
def al1 (lim : Int32) (y s v : Nat) (z : ax_S3) : ax_S3 :=
  let e := lim.toInt64 * (z.1 8 (6 * s + v)).toInt64
  (qv (qv z.1 10 (24 * y + 4 * v + s) (e / 1000000).toInt32) 19 v (e - e / 1000000 * 1000000).toInt32, z.2.1 + e, z.2.2 + (e / 1000000).toInt32)
def alS (lim : Int32) (y s n : Nat) (q : Nat → Nat → Int32) : ax_S3 := itF (al1 lim y s) n (q, 0, 0)
def al2 (y s : Nat) (q : Nat → Nat → Int32) : Nat → Nat → Int32 :=
  let q1 := qv q 10 (24 * y + 4 * grC1 q 5 + s) (q 10 (24 * y + 4 * grC1 q 5 + s) + 1)
  qv q1 19 (grC1 q 5) (-1)
def allotC (q : Nat → Nat → Int32) (lim : Int32) (y s : Nat) : Nat → Nat → Int32 :=
  let z := alS lim y s 6 q
  itF (fun _ => al2 y s) (cnt z.2.2 (z.2.1 / 1000000).toInt32) z.1
section ACC
variable {G : ax_G} {d : Nat} {q : Nat → Nat → Int32} {r : ax_W}
theorem ax_mmax {M : ax_M} {nc ns pc index : Nat} {lv : ax_V} {st : List Value} {w : ax_W} {o : ax_O} {x y : Int32} (q : Nat) (hd : decode M.2.1 pc = .ok (.invokestatic index, 3)) (hq : pc + 3 = q) (hL : ax_lks M.1.cls index M_J9_max_7cf53 2) (hdd : 1 ≤ d) (hc : (st.map fun v => v.category).sum ≤ 8) (k : ax_Ex G M d nc ns q lv (.int (mxF x y) :: st) w o) : ax_Ex G M d nc ns pc lv (.int y :: .int x :: st) w o := by
  subst hq
  intro hG p e R s m args below meth c H locs cells slots mc ms n0 ad ad0 ls hC hR hH hl hs
  obtain ⟨h1, h2, h3, h4, -⟩ := hL
  have h9 : ((st.map (ax_rv ad)).map fun v => v.category).sum ≤ 8 := by rw [ax_cats]; exact hc
  exact va_mmax hC.1 hC.2.1 (by rw [hC.2.2.2.1]; exact hl.1.1.symm) hC.2.2.2.2.1 (ax_wd hG hC h1 rfl) (ax_wd hG hC h2 rfl) (ax_wd hG hC h3 rfl) (ax_wd hG hC (x := Cond.code Lib.Math.max.name Lib.Math.max.code 2 (some .int)) h4 rfl) (by omega) (by omega) (by omega) (by omega) hd (k hG p e R s m args below meth c H locs cells slots mc ms n0 ad ad0 ls hC hR hH hl ⟨trivial, hs.2.2⟩)
theorem ax_mmin {M : ax_M} {nc ns pc index : Nat} {lv : ax_V} {st : List Value} {w : ax_W} {o : ax_O} {x y : Int32} (q : Nat) (hd : decode M.2.1 pc = .ok (.invokestatic index, 3)) (hq : pc + 3 = q) (hL : ax_lks M.1.cls index M_J9_min_7cf53 2) (hdd : 1 ≤ d) (hc : (st.map fun v => v.category).sum ≤ 8) (k : ax_Ex G M d nc ns q lv (.int (mnF x y) :: st) w o) : ax_Ex G M d nc ns pc lv (.int y :: .int x :: st) w o := by
  subst hq
  intro hG p e R s m args below meth c H locs cells slots mc ms n0 ad ad0 ls hC hR hH hl hs
  obtain ⟨h1, h2, h3, h4, -⟩ := hL
  have h9 : ((st.map (ax_rv ad)).map fun v => v.category).sum ≤ 8 := by rw [ax_cats]; exact hc
  exact va_mmin hC.1 hC.2.1 (by rw [hC.2.2.2.1]; exact hl.1.1.symm) hC.2.2.2.2.1 (ax_wd hG hC h1 rfl) (ax_wd hG hC h2 rfl) (ax_wd hG hC h3 rfl) (ax_wd hG hC (x := Cond.code Lib.Math.min.name Lib.Math.min.code 2 (some .int)) h4 rfl) (by omega) (by omega) (by omega) (by omega) hd (k hG p e R s m args below meth c H locs cells slots mc ms n0 ad ad0 ls hC hR hH hl ⟨trivial, hs.2.2⟩)
theorem s_hasLeft (hd : 1 ≤ d) (y v s : Nat) (x : Int32) (hk : 24 * y + 4 * v + s < 216) : ax_Met G M_X0_hasLeft d 0 0 [.ref 9, .int (nI y), .int (nI v), .int (nI s), .int x] (wQ q ++ r) (.inl (some (.int (bI (decide (x ≤ leftF q (24 * y + 4 * v + s)))))), wQ q ++ r) := by
  refine ax_of rfl (by decide) (Nat.le_of_ble_eq_true rfl) ?_
  refine ax_aload_n 0 1 dX0_hasLeft_0 rfl rfl rfl ?_
  refine ax_iload_n 1 2 dX0_hasLeft_1 rfl rfl rfl ?_
  refine ax_iload_n 2 3 dX0_hasLeft_2 rfl rfl rfl ?_
  refine ax_iload_n 3 4 dX0_hasLeft_3 rfl rfl rfl ?_
  refine ax_cS 7 dX0_hasLeft_4 rfl ml_X0_50 (s_row (d := d - 1) y v s) (by omega) rfl rfl (Nat.le_of_ble_eq_true rfl) ?_
  refine ax_cV 10 dX0_hasLeft_7 rfl ml_X0_58 (s_leftOn (d := d - 1) _ hk) rfl (by omega) rfl rfl (Nat.le_of_ble_eq_true rfl) ?_
  refine ax_iload 12 dX0_hasLeft_10 rfl rfl ?_
  refine ax_icmp_lt 19 15 dX0_hasLeft_12 (by decide) rfl (fun c => ?_) (fun c => ?_)
  · rw [decide_eq_false (Int32.not_le.mpr c)]
    refine ax_iconst (v := 0) 20 dX0_hasLeft_19 rfl (by decide) ?_
    exact ax_zret dX0_hasLeft_20 rfl (by decide) rfl
  · rw [decide_eq_true (Int32.not_lt.mp c)]
    refine ax_iconst (v := 1) 16 dX0_hasLeft_15 rfl (by decide) ?_
    refine ax_goto 20 dX0_hasLeft_16 (by decide) ?_
    exact ax_zret dX0_hasLeft_20 rfl (by decide) rfl
theorem s_leviedOn (hd : 1 ≤ d) (y v s : Nat) (hk : 24 * y + 4 * v + s < 216) : ax_Met G M_X0_leviedOn d 0 0 [.ref 9, .int (nI y), .int (nI v), .int (nI s)] (wQ q ++ r) (.inl (some (.int (q 17 (24 * y + 4 * v + s)))), wQ q ++ r) := by
  refine ax_of rfl (by decide) (Nat.le_of_ble_eq_true rfl) ?_
  refine ax_aload_n 0 1 dX0_leviedOn_0 rfl rfl rfl ?_
  refine ax_getf 4 dX0_leviedOn_1 rfl fl_X0_33 rfl rfl ?_
  refine ax_iload_n 1 5 dX0_leviedOn_4 rfl rfl rfl ?_
  refine ax_iload_n 2 6 dX0_leviedOn_5 rfl rfl rfl ?_
  refine ax_iload_n 3 7 dX0_leviedOn_6 rfl rfl rfl ?_
  refine ax_cS 10 dX0_leviedOn_7 rfl ml_X0_50 (s_row (d := d - 1) y v s) (by omega) rfl rfl (Nat.le_of_ble_eq_true rfl) ?_
  refine ax_ialdN 11 dX0_leviedOn_10 rfl rfl rfl (by omega) (by decide) ?_
  exact ax_iret dX0_leviedOn_11 rfl rfl
theorem s_charge (hd : 1 ≤ d) (y v s : Nat) (x : Int32) (hk : 24 * y + 4 * v + s < 216) : ax_Met G M_X0_charge d 0 0 [.ref 9, .int (nI y), .int (nI v), .int (nI s), .int x] (wQ q ++ r) (.inl none, wQ (qv q 14 (24 * y + 4 * v + s) (q 14 (24 * y + 4 * v + s) + x)) ++ r) := by
  refine ax_of rfl (by decide) (Nat.le_of_ble_eq_true rfl) ?_
  refine ax_aload_n 0 1 dX0_charge_0 rfl rfl rfl ?_
  refine ax_getf 4 dX0_charge_1 rfl fl_X0_24 rfl rfl ?_
  refine ax_iload_n 1 5 dX0_charge_4 rfl rfl rfl ?_
  refine ax_iload_n 2 6 dX0_charge_5 rfl rfl rfl ?_
  refine ax_iload_n 3 7 dX0_charge_6 rfl rfl rfl ?_
  refine ax_cS 10 dX0_charge_7 rfl ml_X0_50 (s_row (d := d - 1) y v s) (by omega) rfl rfl (Nat.le_of_ble_eq_true rfl) ?_
  refine ax_dup2 11 dX0_charge_10 rfl rfl rfl ?_
  refine ax_ialdN 12 dX0_charge_11 rfl rfl rfl (by omega) (by decide) ?_
  refine ax_iload 14 dX0_charge_12 rfl rfl ?_
  refine ax_iadd 15 dX0_charge_14 rfl ?_
  refine ax_iastN 16 dX0_charge_15 rfl rfl rfl (by omega) (by decide) ?_
  rw [wQs_14]
  exact ax_vret dX0_charge_16 rfl rfl
theorem s_moveLeased (hd : 1 ≤ d) (y s a b : Nat) (x : Int32) (ha : 24 * y + 4 * a + s < 216) (hb : 24 * y + 4 * b + s < 216) : ax_Met G M_X0_moveLeased d 0 0 [.ref 9, .int (nI y), .int (nI s), .int (nI a), .int (nI b), .int x] (wQ q ++ r) (.inl none, wQ (mvC q (24 * y + 4 * a + s) (24 * y + 4 * b + s) x) ++ r) := by
  refine ax_of rfl (by decide) (Nat.le_of_ble_eq_true rfl) ?_
  refine ax_aload_n 0 1 dX0_moveLeased_0 rfl rfl rfl ?_
  refine ax_getf 4 dX0_moveLeased_1 rfl fl_X0_15 rfl rfl ?_
  refine ax_iload_n 1 5 dX0_moveLeased_4 rfl rfl rfl ?_
  refine ax_iload_n 3 6 dX0_moveLeased_5 rfl rfl rfl ?_
  refine ax_iload_n 2 7 dX0_moveLeased_6 rfl rfl rfl ?_
  refine ax_cS 10 dX0_moveLeased_7 rfl ml_X0_50 (s_row (d := d - 1) y a s) (by omega) rfl rfl (Nat.le_of_ble_eq_true rfl) ?_
  refine ax_dup2 11 dX0_moveLeased_10 rfl rfl rfl ?_
  refine ax_ialdN 12 dX0_moveLeased_11 rfl rfl rfl (by omega) (by decide) ?_
  refine ax_iload 14 dX0_moveLeased_12 rfl rfl ?_
  refine ax_isub 15 dX0_moveLeased_14 rfl ?_
  refine ax_iastN 16 dX0_moveLeased_15 rfl rfl rfl (by omega) (by decide) ?_
  rw [wQs_11]
  refine ax_aload_n 0 17 dX0_moveLeased_16 rfl rfl rfl ?_
  refine ax_getf 20 dX0_moveLeased_17 rfl fl_X0_15 rfl rfl ?_
  refine ax_iload_n 1 21 dX0_moveLeased_20 rfl rfl rfl ?_
  refine ax_iload 23 dX0_moveLeased_21 rfl rfl ?_
  refine ax_iload_n 2 24 dX0_moveLeased_23 rfl rfl rfl ?_
  refine ax_cS 27 dX0_moveLeased_24 rfl ml_X0_50 (s_row (d := d - 1) y b s) (by omega) rfl rfl (Nat.le_of_ble_eq_true rfl) ?_
  refine ax_dup2 28 dX0_moveLeased_27 rfl rfl rfl ?_
  refine ax_ialdN 29 dX0_moveLeased_28 rfl rfl rfl (by omega) (by decide) ?_
  refine ax_iload 31 dX0_moveLeased_29 rfl rfl ?_
  refine ax_iadd 32 dX0_moveLeased_31 rfl ?_
  refine ax_iastN 33 dX0_moveLeased_32 rfl rfl rfl (by omega) (by decide) ?_
  rw [wQs_11]
  exact ax_vret dX0_moveLeased_33 rfl rfl
theorem s_canExchange (hd : 2 ≤ d) (y v a b : Nat) (x z : Int32) (ha : 24 * y + 4 * v + a < 216) (hb : 24 * y + 4 * v + b < 216) (hc : 6 * y + v < 54) : ax_Met G M_X0_canExchange d 0 0 [.ref 9, .int (nI y), .int (nI v), .int (nI a), .int (nI b), .int x, .int z] (wQ q ++ r) (.inl (some (.int (bI (canC q (24 * y + 4 * v + a) (24 * y + 4 * v + b) (6 * y + v) x z)))), wQ q ++ r) := by
  refine ax_of rfl (by decide) (Nat.le_of_ble_eq_true rfl) ?_
  refine ax_aload_n 0 1 dX0_canExchange_0 rfl rfl rfl ?_
  refine ax_getf 4 dX0_canExchange_1 rfl fl_X0_24 rfl rfl ?_
  refine ax_iload_n 1 5 dX0_canExchange_4 rfl rfl rfl ?_
  refine ax_iload_n 2 6 dX0_canExchange_5 rfl rfl rfl ?_
  refine ax_iload_n 3 7 dX0_canExchange_6 rfl rfl rfl ?_
  refine ax_cS 10 dX0_canExchange_7 rfl ml_X0_50 (s_row (d := d - 1) y v a) (by omega) rfl rfl (Nat.le_of_ble_eq_true rfl) ?_
  refine ax_ialdN 11 dX0_canExchange_10 rfl rfl rfl (by omega) (by decide) ?_
  refine ax_iload 13 dX0_canExchange_11 rfl rfl ?_
  refine ax_icmp_lt 53 16 dX0_canExchange_13 (by decide) rfl (fun c => ?_) (fun c => ?_)
  · rw [show canC q (24 * y + 4 * v + a) (24 * y + 4 * v + b) (6 * y + v) x z = false by simp [canC, Int32.not_le.mpr c]]
    refine ax_iconst (v := 0) 54 dX0_canExchange_53 rfl (by decide) ?_
    exact ax_zret dX0_canExchange_54 rfl (by decide) rfl
  · refine ax_aload_n 0 17 dX0_canExchange_16 rfl rfl rfl ?_
    refine ax_iload_n 1 18 dX0_canExchange_17 rfl rfl rfl ?_
    refine ax_iload_n 2 19 dX0_canExchange_18 rfl rfl rfl ?_
    refine ax_iload 21 dX0_canExchange_19 rfl rfl ?_
    refine ax_iload 23 dX0_canExchange_21 rfl rfl ?_
    refine ax_cV 26 dX0_canExchange_23 rfl ml_X0_70 (s_hasLeft (d := d - 1) (by omega) y v b z hb) rfl (by omega) rfl rfl (Nat.le_of_ble_eq_true rfl) ?_
    refine ax_if_eq 53 29 dX0_canExchange_26 (by decide) rfl (fun c2 => ?_) (fun c2 => ?_)
    · rw [show canC q (24 * y + 4 * v + a) (24 * y + 4 * v + b) (6 * y + v) x z = false by simp [canC, bI_0.mp c2]]
      refine ax_iconst (v := 0) 54 dX0_canExchange_53 rfl (by decide) ?_
      exact ax_zret dX0_canExchange_54 rfl (by decide) rfl
    · refine ax_aload_n 0 30 dX0_canExchange_29 rfl rfl rfl ?_
      refine ax_getf 33 dX0_canExchange_30 rfl fl_X0_36 rfl rfl ?_
      refine ax_iload_n 1 34 dX0_canExchange_33 rfl rfl rfl ?_
      refine ax_bipush (v := 6) 36 dX0_canExchange_34 rfl (by decide) ?_
      refine ax_imul 37 dX0_canExchange_36 rfl ?_
      refine ax_iload_n 2 38 dX0_canExchange_37 rfl rfl rfl ?_
      refine ax_iadd 39 dX0_canExchange_38 rfl ?_
      refine ax_ialdN 40 dX0_canExchange_39 rfl rfl (ix6 y v) (by omega) (by decide) ?_
      refine ax_iload 42 dX0_canExchange_40 rfl rfl ?_
      refine ax_iadd 43 dX0_canExchange_42 rfl ?_
      refine ax_sipush (v := 1000) 46 dX0_canExchange_43 rfl (by decide) ?_
      refine ax_icmp_gt 53 49 dX0_canExchange_46 (by decide) rfl (fun c3 => ?_) (fun c3 => ?_)
      · rw [show canC q (24 * y + 4 * v + a) (24 * y + 4 * v + b) (6 * y + v) x z = false by simp [canC, Int32.not_le.mpr c3]]
        refine ax_iconst (v := 0) 54 dX0_canExchange_53 rfl (by decide) ?_
        exact ax_zret dX0_canExchange_54 rfl (by decide) rfl
      · rw [show canC q (24 * y + 4 * v + a) (24 * y + 4 * v + b) (6 * y + v) x z = true by simp only [canC, decide_eq_true (Int32.not_lt.mp c), bI_n0.mp c2, decide_eq_true (Int32.not_lt.mp c3), Bool.and_self]]
        refine ax_iconst (v := 1) 50 dX0_canExchange_49 rfl (by decide) ?_
        refine ax_goto 54 dX0_canExchange_50 (by decide) ?_
        exact ax_zret dX0_canExchange_54 rfl (by decide) rfl
theorem s_exchange (hd : 1 ≤ d) (y v a b : Nat) (x z : Int32) (ha : 24 * y + 4 * v + a < 216) (hb : 24 * y + 4 * v + b < 216) (hc : 6 * y + v < 54) : ax_Met G M_X0_exchange d 0 0 [.ref 9, .int (nI y), .int (nI v), .int (nI a), .int (nI b), .int x, .int z] (wQ q ++ r) (.inl none, wQ (exC q (24 * y + 4 * v + a) (24 * y + 4 * v + b) (6 * y + v) x z) ++ r) := by
  refine ax_of rfl (by decide) (Nat.le_of_ble_eq_true rfl) ?_
  refine ax_aload_n 0 1 dX0_exchange_0 rfl rfl rfl ?_
  refine ax_getf 4 dX0_exchange_1 rfl fl_X0_24 rfl rfl ?_
  refine ax_iload_n 1 5 dX0_exchange_4 rfl rfl rfl ?_
  refine ax_iload_n 2 6 dX0_exchange_5 rfl rfl rfl ?_
  refine ax_iload_n 3 7 dX0_exchange_6 rfl rfl rfl ?_
  refine ax_cS 10 dX0_exchange_7 rfl ml_X0_50 (s_row (d := d - 1) y v a) (by omega) rfl rfl (Nat.le_of_ble_eq_true rfl) ?_
  refine ax_dup2 11 dX0_exchange_10 rfl rfl rfl ?_
  refine ax_ialdN 12 dX0_exchange_11 rfl rfl rfl (by omega) (by decide) ?_
  refine ax_iload 14 dX0_exchange_12 rfl rfl ?_
  refine ax_isub 15 dX0_exchange_14 rfl ?_
  refine ax_iastN 16 dX0_exchange_15 rfl rfl rfl (by omega) (by decide) ?_
  rw [wQs_14]
  refine ax_aload_n 0 17 dX0_exchange_16 rfl rfl rfl ?_
  refine ax_getf 20 dX0_exchange_17 rfl fl_X0_24 rfl rfl ?_
  refine ax_iload_n 1 21 dX0_exchange_20 rfl rfl rfl ?_
  refine ax_iload_n 2 22 dX0_exchange_21 rfl rfl rfl ?_
  refine ax_iload 24 dX0_exchange_22 rfl rfl ?_
  refine ax_cS 27 dX0_exchange_24 rfl ml_X0_50 (s_row (d := d - 1) y v b) (by omega) rfl rfl (Nat.le_of_ble_eq_true rfl) ?_
  refine ax_dup2 28 dX0_exchange_27 rfl rfl rfl ?_
  refine ax_ialdN 29 dX0_exchange_28 rfl rfl rfl (by omega) (by decide) ?_
  refine ax_iload 31 dX0_exchange_29 rfl rfl ?_
  refine ax_iadd 32 dX0_exchange_31 rfl ?_
  refine ax_iastN 33 dX0_exchange_32 rfl rfl rfl (by omega) (by decide) ?_
  rw [wQs_14]
  refine ax_aload_n 0 34 dX0_exchange_33 rfl rfl rfl ?_
  refine ax_getf 37 dX0_exchange_34 rfl fl_X0_36 rfl rfl ?_
  refine ax_iload_n 1 38 dX0_exchange_37 rfl rfl rfl ?_
  refine ax_bipush (v := 6) 40 dX0_exchange_38 rfl (by decide) ?_
  refine ax_imul 41 dX0_exchange_40 rfl ?_
  refine ax_iload_n 2 42 dX0_exchange_41 rfl rfl rfl ?_
  refine ax_iadd 43 dX0_exchange_42 rfl ?_
  refine ax_dup2 44 dX0_exchange_43 rfl rfl rfl ?_
  refine ax_ialdN 45 dX0_exchange_44 rfl rfl (ix6 y v) (by omega) (by decide) ?_
  refine ax_iload 47 dX0_exchange_45 rfl rfl ?_
  refine ax_iadd 48 dX0_exchange_47 rfl ?_
  refine ax_iastN 49 dX0_exchange_48 rfl rfl (ix6 y v) (by omega) (by decide) ?_
  rw [wQs_18]
  exact ax_vret dX0_exchange_49 rfl rfl
theorem s_begin (hd : 1 ≤ d) (y : Nat) (hy : 1 ≤ y) (hy8 : y ≤ 8) : ax_Met G M_X0_begin d 0 0 [.ref 9, .int (nI y)] (wQ q ++ r) (.inl none, wQ (begC q y) ++ r) := by
  refine ax_of rfl (by decide) (Nat.le_of_ble_eq_true rfl) ?_
  refine ax_iload_n 1 1 dX0_begin_0 rfl rfl rfl ?_
  refine ax_iconst (v := 0) 2 dX0_begin_1 rfl (by decide) ?_
  refine ax_iconst (v := 0) 3 dX0_begin_2 rfl (by decide) ?_
  refine ax_cS 6 dX0_begin_3 rfl ml_X0_50 (s_row (d := d - 1) y 0 0) (by omega) rfl rfl (Nat.le_of_ble_eq_true rfl) ?_
  refine ax_istore_n 2 7 dX0_begin_6 rfl rfl (Nat.le_of_ble_eq_true rfl) ?_
  refine ax_iload_n 2 8 dX0_begin_7 rfl rfl rfl ?_
  refine ax_istore_n 3 9 dX0_begin_8 rfl rfl (Nat.le_of_ble_eq_true rfl) ?_
  refine ax_lvk (ax_down (P := fun j => ax_Ex G M_X0_begin d 0 0 9 [(0, .ref 9), (1, .int (nI y)), (2, .int (nI (24 * y))), (3, .int (nI (24 * y + j)))] [] (wQ (itF (bg1 y) j q) ++ r) (.inl none, wQ (begC q y) ++ r)) (n := 24) ?_ (fun j hj ih => ?_) 0 (Nat.zero_le _)) ⟨rfl, rfl, rfl, rfl, trivial⟩
  · refine ax_iload_n 3 10 dX0_begin_9 rfl rfl rfl ?_
    refine ax_iload_n 2 11 dX0_begin_10 rfl rfl rfl ?_
    refine ax_bipush (v := 24) 13 dX0_begin_11 rfl (by decide) ?_
    refine ax_iadd 14 dX0_begin_13 rfl ?_
    refine ax_icmp_ge 67 17 dX0_begin_14 (by decide) rfl (fun c => ?_) (fun c => ?_)
    · refine ax_iconst (v := 0) 68 dX0_begin_67 rfl (by decide) ?_
      refine ax_istore_n 3 69 dX0_begin_68 rfl rfl (Nat.le_of_ble_eq_true rfl) ?_
      refine ax_lvk (ax_down (P := fun v => ax_Ex G M_X0_begin d 0 0 69 [(0, .ref 9), (1, .int (nI y)), (3, .int (nI v))] [] (wQ (itF (fun v q => qv q 18 (6 * y + v) 0) v (itF (bg1 y) 24 q)) ++ r) (.inl none, wQ (begC q y) ++ r)) (n := 6) ?_ (fun v hv ih => ?_) 0 (Nat.zero_le _)) ⟨rfl, rfl, rfl, trivial⟩
      · refine ax_iload_n 3 70 dX0_begin_69 rfl rfl rfl ?_
        refine ax_bipush (v := 6) 72 dX0_begin_70 rfl (by decide) ?_
        refine ax_icmp_ge 93 75 dX0_begin_72 (by decide) rfl (fun c2 => ?_) (fun c2 => ?_)
        · exact ax_vret dX0_begin_93 rfl rfl
        · exact absurd (by decide) c2
      · refine ax_iload_n 3 70 dX0_begin_69 rfl rfl rfl ?_
        refine ax_bipush (v := 6) 72 dX0_begin_70 rfl (by decide) ?_
        refine ax_icmp_ge 93 75 dX0_begin_72 (by decide) rfl (fun c2 => ?_) (fun c2 => ?_)
        · exact absurd c2 (nI_ge hv (by decide))
        · refine ax_aload_n 0 76 dX0_begin_75 rfl rfl rfl ?_
          refine ax_getf 79 dX0_begin_76 rfl fl_X0_36 rfl rfl ?_
          refine ax_iload_n 1 80 dX0_begin_79 rfl rfl rfl ?_
          refine ax_bipush (v := 6) 82 dX0_begin_80 rfl (by decide) ?_
          refine ax_imul 83 dX0_begin_82 rfl ?_
          refine ax_iload_n 3 84 dX0_begin_83 rfl rfl rfl ?_
          refine ax_iadd 85 dX0_begin_84 rfl ?_
          refine ax_iconst (v := 0) 86 dX0_begin_85 rfl (by decide) ?_
          refine ax_iastN 87 dX0_begin_86 rfl rfl (ix6 y v) (by omega) (by decide) ?_
          rw [wQs_18]
          refine ax_iinc (v := (_ : Int32) + 1) 90 dX0_begin_87 rfl rfl rfl (Nat.le_of_ble_eq_true rfl) ?_
          refine ax_goto 69 dX0_begin_90 (by decide) ?_
          exact ax_lvk ih ⟨rfl, rfl, gI (nI_1 v), trivial⟩
    · exact absurd (c24' (by omega)) c
  · refine ax_iload_n 3 10 dX0_begin_9 rfl rfl rfl ?_
    refine ax_iload_n 2 11 dX0_begin_10 rfl rfl rfl ?_
    refine ax_bipush (v := 24) 13 dX0_begin_11 rfl (by decide) ?_
    refine ax_iadd 14 dX0_begin_13 rfl ?_
    refine ax_icmp_ge 67 17 dX0_begin_14 (by decide) rfl (fun c => ?_) (fun c => ?_)
    · exact absurd c (c24 hj (by omega))
    · refine ax_aload_n 0 18 dX0_begin_17 rfl rfl rfl ?_
      refine ax_getf 21 dX0_begin_18 rfl fl_X0_15 rfl rfl ?_
      refine ax_iload_n 3 22 dX0_begin_21 rfl rfl rfl ?_
      refine ax_iconst (v := 0) 23 dX0_begin_22 rfl (by decide) ?_
      refine ax_iastN 24 dX0_begin_23 rfl rfl rfl (by omega) (by decide) ?_
      rw [wQs_11]
      refine ax_aload_n 0 25 dX0_begin_24 rfl rfl rfl ?_
      refine ax_getf 28 dX0_begin_25 rfl fl_X0_24 rfl rfl ?_
      refine ax_iload_n 3 29 dX0_begin_28 rfl rfl rfl ?_
      refine ax_iconst (v := 0) 30 dX0_begin_29 rfl (by decide) ?_
      refine ax_iastN 31 dX0_begin_30 rfl rfl rfl (by omega) (by decide) ?_
      rw [wQs_14]
      refine ax_aload_n 0 32 dX0_begin_31 rfl rfl rfl ?_
      refine ax_getf 35 dX0_begin_32 rfl fl_X0_18 rfl rfl ?_
      refine ax_iload_n 3 36 dX0_begin_35 rfl rfl rfl ?_
      refine ax_aload_n 0 37 dX0_begin_36 rfl rfl rfl ?_
      refine ax_getf 40 dX0_begin_37 rfl fl_X0_27 rfl rfl ?_
      refine ax_iload_n 3 41 dX0_begin_40 rfl rfl rfl ?_
      refine ax_bipush (v := 24) 43 dX0_begin_41 rfl (by decide) ?_
      refine ax_isub 44 dX0_begin_43 rfl ?_
      refine ax_ialdN 45 dX0_begin_44 rfl rfl (nI_m24 (by omega)) (by omega) (by decide) ?_
      refine ax_iastN 46 dX0_begin_45 rfl rfl rfl (by omega) (by decide) ?_
      rw [wQs_12]
      refine ax_aload_n 0 47 dX0_begin_46 rfl rfl rfl ?_
      refine ax_getf 50 dX0_begin_47 rfl fl_X0_21 rfl rfl ?_
      refine ax_iload_n 3 51 dX0_begin_50 rfl rfl rfl ?_
      refine ax_aload_n 0 52 dX0_begin_51 rfl rfl rfl ?_
      refine ax_getf 55 dX0_begin_52 rfl fl_X0_30 rfl rfl ?_
      refine ax_iload_n 3 56 dX0_begin_55 rfl rfl rfl ?_
      refine ax_bipush (v := 24) 58 dX0_begin_56 rfl (by decide) ?_
      refine ax_isub 59 dX0_begin_58 rfl ?_
      refine ax_ialdN 60 dX0_begin_59 rfl rfl (nI_m24 (by omega)) (by omega) (by decide) ?_
      refine ax_iastN 61 dX0_begin_60 rfl rfl rfl (by omega) (by decide) ?_
      rw [wQs_13]
      refine ax_iinc (v := (_ : Int32) + 1) 64 dX0_begin_61 rfl rfl rfl (Nat.le_of_ble_eq_true rfl) ?_
      refine ax_goto 9 dX0_begin_64 (by decide) ?_
      exact ax_lvk ih ⟨rfl, rfl, rfl, gI (nI_1 (24 * y + j)), trivial⟩
theorem s_settle (hd : 1 ≤ d) (y : Nat) (hy8 : y ≤ 8) : ax_Met G M_X0_settle d 0 0 [.ref 9, .int (nI y)] (wQ q ++ r) (.inl none, wQ (setC q y) ++ r) := by
  refine ax_of rfl (by decide) (Nat.le_of_ble_eq_true rfl) ?_
  refine ax_iload_n 1 1 dX0_settle_0 rfl rfl rfl ?_
  refine ax_iconst (v := 0) 2 dX0_settle_1 rfl (by decide) ?_
  refine ax_iconst (v := 0) 3 dX0_settle_2 rfl (by decide) ?_
  refine ax_cS 6 dX0_settle_3 rfl ml_X0_50 (s_row (d := d - 1) y 0 0) (by omega) rfl rfl (Nat.le_of_ble_eq_true rfl) ?_
  refine ax_istore_n 2 7 dX0_settle_6 rfl rfl (Nat.le_of_ble_eq_true rfl) ?_
  refine ax_iload_n 2 8 dX0_settle_7 rfl rfl rfl ?_
  refine ax_istore_n 3 9 dX0_settle_8 rfl rfl (Nat.le_of_ble_eq_true rfl) ?_
  refine ax_lvk (ax_down (P := fun j => ax_Ex G M_X0_settle d 0 0 9 [(0, .ref 9), (1, .int (nI y)), (2, .int (nI (24 * y))), (3, .int (nI (24 * y + j)))] [] (wQ (itF (st1 y) j q) ++ r) (.inl none, wQ (setC q y) ++ r)) (n := 24) ?_ (fun j hj ih => ?_) 0 (Nat.zero_le _)) ⟨rfl, rfl, rfl, rfl, trivial⟩
  · refine ax_iload_n 3 10 dX0_settle_9 rfl rfl rfl ?_
    refine ax_iload_n 2 11 dX0_settle_10 rfl rfl rfl ?_
    refine ax_bipush (v := 24) 13 dX0_settle_11 rfl (by decide) ?_
    refine ax_iadd 14 dX0_settle_13 rfl ?_
    refine ax_icmp_ge 103 17 dX0_settle_14 (by decide) rfl (fun c => ?_) (fun c => ?_)
    · exact ax_vret dX0_settle_103 rfl rfl
    · exact absurd (c24' (by omega)) c
  · refine ax_iload_n 3 10 dX0_settle_9 rfl rfl rfl ?_
    refine ax_iload_n 2 11 dX0_settle_10 rfl rfl rfl ?_
    refine ax_bipush (v := 24) 13 dX0_settle_11 rfl (by decide) ?_
    refine ax_iadd 14 dX0_settle_13 rfl ?_
    refine ax_icmp_ge 103 17 dX0_settle_14 (by decide) rfl (fun c => ?_) (fun c => ?_)
    · exact absurd c (c24 hj (by omega))
    · refine ax_aload_n 0 18 dX0_settle_17 rfl rfl rfl ?_
      refine ax_iload_n 3 19 dX0_settle_18 rfl rfl rfl ?_
      refine ax_cV 22 dX0_settle_19 rfl ml_X0_58 (s_leftOn (d := d - 1) _ (by omega)) rfl (by omega) rfl rfl (Nat.le_of_ble_eq_true rfl) ?_
      refine ax_istore 24 dX0_settle_22 rfl (Nat.le_of_ble_eq_true rfl) ?_
      refine ax_iconst (v := 0) 25 dX0_settle_24 rfl (by decide) ?_
      refine ax_iload 27 dX0_settle_25 rfl rfl ?_
      refine ax_ineg 28 dX0_settle_27 rfl ?_
      refine ax_mmax 31 dX0_settle_28 rfl ml_X0_62 (by omega) (Nat.le_of_ble_eq_true rfl) ?_
      refine ax_istore 33 dX0_settle_31 rfl (Nat.le_of_ble_eq_true rfl) ?_
      refine ax_aload_n 0 34 dX0_settle_33 rfl rfl rfl ?_
      refine ax_getf 37 dX0_settle_34 rfl fl_X0_27 rfl rfl ?_
      refine ax_iload_n 3 38 dX0_settle_37 rfl rfl rfl ?_
      refine ax_aload_n 0 39 dX0_settle_38 rfl rfl rfl ?_
      refine ax_getf 42 dX0_settle_39 rfl fl_X0_11 rfl rfl ?_
      refine ax_iload_n 3 43 dX0_settle_42 rfl rfl rfl ?_
      refine ax_ialdN 44 dX0_settle_43 rfl rfl rfl (by omega) (by decide) ?_
      refine ax_bipush (v := 15) 46 dX0_settle_44 rfl (by decide) ?_
      refine ax_imul 47 dX0_settle_46 rfl ?_
      refine ax_bipush (v := 100) 49 dX0_settle_47 rfl (by decide) ?_
      refine ax_idiv 50 dX0_settle_49 rfl (by decide) ?_
      refine ax_iconst (v := 0) 51 dX0_settle_50 rfl (by decide) ?_
      refine ax_iload 53 dX0_settle_51 rfl rfl ?_
      refine ax_mmax 56 dX0_settle_53 rfl ml_X0_62 (by omega) (Nat.le_of_ble_eq_true rfl) ?_
      refine ax_mmin 59 dX0_settle_56 rfl ml_X0_67 (by omega) (Nat.le_of_ble_eq_true rfl) ?_
      refine ax_iastN 60 dX0_settle_59 rfl rfl rfl (by omega) (by decide) ?_
      rw [wQs_15]
      refine ax_aload_n 0 61 dX0_settle_60 rfl rfl rfl ?_
      refine ax_getf 64 dX0_settle_61 rfl fl_X0_30 rfl rfl ?_
      refine ax_iload_n 3 65 dX0_settle_64 rfl rfl rfl ?_
      refine ax_aload_n 0 66 dX0_settle_65 rfl rfl rfl ?_
      refine ax_getf 69 dX0_settle_66 rfl fl_X0_11 rfl rfl ?_
      refine ax_iload_n 3 70 dX0_settle_69 rfl rfl rfl ?_
      refine ax_ialdN 71 dX0_settle_70 rfl rfl rfl (by omega) (by decide) ?_
      refine ax_iconst (v := 5) 72 dX0_settle_71 rfl (by decide) ?_
      refine ax_imul 73 dX0_settle_72 rfl ?_
      refine ax_bipush (v := 100) 75 dX0_settle_73 rfl (by decide) ?_
      refine ax_idiv 76 dX0_settle_75 rfl (by decide) ?_
      refine ax_iload 78 dX0_settle_76 rfl rfl ?_
      refine ax_mmin 81 dX0_settle_78 rfl ml_X0_67 (by omega) (Nat.le_of_ble_eq_true rfl) ?_
      refine ax_iastN 82 dX0_settle_81 rfl rfl rfl (by omega) (by decide) ?_
      rw [wQs_16]
      refine ax_aload_n 0 83 dX0_settle_82 rfl rfl rfl ?_
      refine ax_getf 86 dX0_settle_83 rfl fl_X0_33 rfl rfl ?_
      refine ax_iload_n 3 87 dX0_settle_86 rfl rfl rfl ?_
      refine ax_iload 89 dX0_settle_87 rfl rfl ?_
      refine ax_aload_n 0 90 dX0_settle_89 rfl rfl rfl ?_
      refine ax_getf 93 dX0_settle_90 rfl fl_X0_30 rfl rfl ?_
      refine ax_iload_n 3 94 dX0_settle_93 rfl rfl rfl ?_
      refine ax_ialdN 95 dX0_settle_94 rfl rfl rfl (by omega) (by decide) ?_
      refine ax_isub 96 dX0_settle_95 rfl ?_
      refine ax_iastN 97 dX0_settle_96 rfl rfl rfl (by omega) (by decide) ?_
      rw [wQs_17]
      refine ax_iinc (v := (_ : Int32) + 1) 100 dX0_settle_97 rfl rfl rfl (Nat.le_of_ble_eq_true rfl) ?_
      refine ax_goto 9 dX0_settle_100 (by decide) ?_
      exact ax_lvk ih ⟨rfl, rfl, rfl, gI (nI_1 (24 * y + j)), trivial⟩
theorem s_countLevied (hd : 1 ≤ d) (y : Nat) (hy8 : y ≤ 8) : ax_Met G M_X0_countLevied d 0 0 [.ref 9, .int (nI y)] (wQ q ++ r) (.inl (some (.int (clC q y 24))), wQ q ++ r) := by
  refine ax_of rfl (by decide) (Nat.le_of_ble_eq_true rfl) ?_
  refine ax_iconst (v := 0) 1 dX0_countLevied_0 rfl (by decide) ?_
  refine ax_istore_n 2 2 dX0_countLevied_1 rfl rfl (Nat.le_of_ble_eq_true rfl) ?_
  refine ax_iload_n 1 3 dX0_countLevied_2 rfl rfl rfl ?_
  refine ax_iconst (v := 0) 4 dX0_countLevied_3 rfl (by decide) ?_
  refine ax_iconst (v := 0) 5 dX0_countLevied_4 rfl (by decide) ?_
  refine ax_cS 8 dX0_countLevied_5 rfl ml_X0_50 (s_row (d := d - 1) y 0 0) (by omega) rfl rfl (Nat.le_of_ble_eq_true rfl) ?_
  refine ax_istore_n 3 9 dX0_countLevied_8 rfl rfl (Nat.le_of_ble_eq_true rfl) ?_
  refine ax_iload_n 3 10 dX0_countLevied_9 rfl rfl rfl ?_
  refine ax_istore 12 dX0_countLevied_10 rfl (Nat.le_of_ble_eq_true rfl) ?_
  refine ax_lvk (ax_down (P := fun j => ax_Ex G M_X0_countLevied d 0 0 12 [(0, .ref 9), (2, .int (clC q y j)), (3, .int (nI (24 * y))), (4, .int (nI (24 * y + j)))] [] (wQ q ++ r) (.inl (some (.int (clC q y 24))), wQ q ++ r)) (n := 24) ?_ (fun j hj ih => ?_) 0 (Nat.zero_le _)) ⟨rfl, rfl, rfl, rfl, trivial⟩
  · refine ax_iload 14 dX0_countLevied_12 rfl rfl ?_
    refine ax_iload_n 3 15 dX0_countLevied_14 rfl rfl rfl ?_
    refine ax_bipush (v := 24) 17 dX0_countLevied_15 rfl (by decide) ?_
    refine ax_iadd 18 dX0_countLevied_17 rfl ?_
    refine ax_icmp_ge 40 21 dX0_countLevied_18 (by decide) rfl (fun c => ?_) (fun c => ?_)
    · refine ax_iload_n 2 41 dX0_countLevied_40 rfl rfl rfl ?_
      exact ax_iret dX0_countLevied_41 rfl rfl
    · exact absurd (c24' (by omega)) c
  · refine ax_iload 14 dX0_countLevied_12 rfl rfl ?_
    refine ax_iload_n 3 15 dX0_countLevied_14 rfl rfl rfl ?_
    refine ax_bipush (v := 24) 17 dX0_countLevied_15 rfl (by decide) ?_
    refine ax_iadd 18 dX0_countLevied_17 rfl ?_
    refine ax_icmp_ge 40 21 dX0_countLevied_18 (by decide) rfl (fun c => ?_) (fun c => ?_)
    · exact absurd c (c24 hj (by omega))
    · refine ax_aload_n 0 22 dX0_countLevied_21 rfl rfl rfl ?_
      refine ax_getf 25 dX0_countLevied_22 rfl fl_X0_33 rfl rfl ?_
      refine ax_iload 27 dX0_countLevied_25 rfl rfl ?_
      refine ax_ialdN 28 dX0_countLevied_27 rfl rfl rfl (by omega) (by decide) ?_
      refine ax_if_le 34 31 dX0_countLevied_28 (by decide) rfl (fun c2 => ?_) (fun c2 => ?_)
      · refine ax_iinc (v := (_ : Int32) + 1) 37 dX0_countLevied_34 rfl rfl rfl (Nat.le_of_ble_eq_true rfl) ?_
        refine ax_goto 12 dX0_countLevied_37 (by decide) ?_
        exact ax_lvk ih ⟨rfl, gI (by simp only [clC, itF_s]; rw [if_neg (Int32.not_lt.mpr c2)]), rfl, gI (nI_1 (24 * y + j)), trivial⟩
      · refine ax_iinc (v := (_ : Int32) + 1) 34 dX0_countLevied_31 rfl rfl rfl (Nat.le_of_ble_eq_true rfl) ?_
        refine ax_iinc (v := (_ : Int32) + 1) 37 dX0_countLevied_34 rfl rfl rfl (Nat.le_of_ble_eq_true rfl) ?_
        refine ax_goto 12 dX0_countLevied_37 (by decide) ?_
        exact ax_lvk ih ⟨rfl, gI (by simp only [clC, itF_s]; rw [if_pos (Int32.not_le.mp c2)]), rfl, gI (nI_1 (24 * y + j)), trivial⟩
theorem s_greatestRemainder : ax_Met G M_X0_greatestRemainder d 0 0 [.ref 9] (wQ q ++ r) (.inl (some (.int (nI (grC1 q 5)))), wQ q ++ r) := by
  refine ax_of rfl (by decide) (Nat.le_of_ble_eq_true rfl) ?_
  refine ax_iconst (v := 0) 1 dX0_greatestRemainder_0 rfl (by decide) ?_
  refine ax_istore_n 1 2 dX0_greatestRemainder_1 rfl rfl (Nat.le_of_ble_eq_true rfl) ?_
  refine ax_iconst (v := 1) 3 dX0_greatestRemainder_2 rfl (by decide) ?_
  refine ax_istore_n 2 4 dX0_greatestRemainder_3 rfl rfl (Nat.le_of_ble_eq_true rfl) ?_
  refine ax_lvk (ax_down (P := fun j => ax_Ex G M_X0_greatestRemainder d 0 0 4 [(0, .ref 9), (1, .int (nI (grC1 q j))), (2, .int (nI (j + 1)))] [] (wQ q ++ r) (.inl (some (.int (nI (grC1 q 5)))), wQ q ++ r)) (n := 5) ?_ (fun j hj ih => ?_) 0 (Nat.zero_le _)) ⟨rfl, rfl, rfl, trivial⟩
  · refine ax_iload_n 2 5 dX0_greatestRemainder_4 rfl rfl rfl ?_
    refine ax_bipush (v := 6) 7 dX0_greatestRemainder_5 rfl (by decide) ?_
    refine ax_icmp_ge 33 10 dX0_greatestRemainder_7 (by decide) rfl (fun c => ?_) (fun c => ?_)
    · refine ax_iload_n 1 34 dX0_greatestRemainder_33 rfl rfl rfl ?_
      exact ax_iret dX0_greatestRemainder_34 rfl rfl
    · exact absurd (by decide) c
  · have hb := grC1_lt q j
    refine ax_iload_n 2 5 dX0_greatestRemainder_4 rfl rfl rfl ?_
    refine ax_bipush (v := 6) 7 dX0_greatestRemainder_5 rfl (by decide) ?_
    refine ax_icmp_ge 33 10 dX0_greatestRemainder_7 (by decide) rfl (fun c => ?_) (fun c => ?_)
    · exact absurd c (nI_ge (a := j + 1) (b := 6) (by omega) (by decide))
    · refine ax_aload_n 0 11 dX0_greatestRemainder_10 rfl rfl rfl ?_
      refine ax_getf 14 dX0_greatestRemainder_11 rfl fl_X0_39 rfl rfl ?_
      refine ax_iload_n 2 15 dX0_greatestRemainder_14 rfl rfl rfl ?_
      refine ax_ialdN 16 dX0_greatestRemainder_15 rfl rfl rfl (by omega) (by decide) ?_
      refine ax_aload_n 0 17 dX0_greatestRemainder_16 rfl rfl rfl ?_
      refine ax_getf 20 dX0_greatestRemainder_17 rfl fl_X0_39 rfl rfl ?_
      refine ax_iload_n 1 21 dX0_greatestRemainder_20 rfl rfl rfl ?_
      refine ax_ialdN 22 dX0_greatestRemainder_21 rfl rfl rfl (by omega) (by decide) ?_
      refine ax_icmp_le 27 25 dX0_greatestRemainder_22 (by decide) rfl (fun c2 => ?_) (fun c2 => ?_)
      · refine ax_iinc (v := (_ : Int32) + 1) 30 dX0_greatestRemainder_27 rfl rfl rfl (Nat.le_of_ble_eq_true rfl) ?_
        refine ax_goto 4 dX0_greatestRemainder_30 (by decide) ?_
        exact ax_lvk ih ⟨rfl, gI (by unfold grC1 at c2 ⊢; rw [itF_s, if_pos c2]), gI (nI_1 (j + 1)), trivial⟩
      · refine ax_iload_n 2 26 dX0_greatestRemainder_25 rfl rfl rfl ?_
        refine ax_istore_n 1 27 dX0_greatestRemainder_26 rfl rfl (Nat.le_of_ble_eq_true rfl) ?_
        refine ax_iinc (v := (_ : Int32) + 1) 30 dX0_greatestRemainder_27 rfl rfl rfl (Nat.le_of_ble_eq_true rfl) ?_
        refine ax_goto 4 dX0_greatestRemainder_30 (by decide) ?_
        exact ax_lvk ih ⟨rfl, gI (by unfold grC1 at c2 ⊢; rw [itF_s, if_neg c2]), gI (nI_1 (j + 1)), trivial⟩
theorem s_allot (hd : 1 ≤ d) (y s : Nat) (lim : Int32) (hy : y ≤ 8) (hs : s < 4) : ax_Met G M_X0_allot d 0 0 [.ref 9, .int (nI y), .int (nI s), .int lim, .ref 3] (wQ q ++ r) (.inl none, wQ (allotC q lim y s) ++ r) := by
  refine ax_of rfl (by decide) (Nat.le_of_ble_eq_true rfl) ?_
  refine ax_lconst (v := 0) 1 dX0_allot_0 rfl (by decide) ?_
  refine ax_lstore 3 dX0_allot_1 rfl (Nat.le_of_ble_eq_true rfl) ?_
  refine ax_iconst (v := 0) 4 dX0_allot_3 rfl (by decide) ?_
  refine ax_istore 6 dX0_allot_4 rfl (Nat.le_of_ble_eq_true rfl) ?_
  refine ax_iconst (v := 0) 7 dX0_allot_6 rfl (by decide) ?_
  refine ax_istore 9 dX0_allot_7 rfl (Nat.le_of_ble_eq_true rfl) ?_
  refine ax_lvk (ax_down (P := fun v => ax_Ex G M_X0_allot d 0 0 9 [(0, .ref 9), (1, .int (nI y)), (2, .int (nI s)), (3, .int lim), (4, .ref 3), (5, .long (alS lim y s v q).2.1), (7, .int (alS lim y s v q).2.2), (8, .int (nI v))] [] (wQ (alS lim y s v q).1 ++ r) (.inl none, wQ (allotC q lim y s) ++ r)) (n := 6) ?_ (fun v hv ih => ?_) 0 (Nat.zero_le _)) ⟨rfl, rfl, rfl, rfl, rfl, rfl, rfl, rfl, trivial⟩
  · refine ax_iload 11 dX0_allot_9 rfl rfl ?_
    refine ax_bipush (v := 6) 13 dX0_allot_11 rfl (by decide) ?_
    refine ax_icmp_ge 87 16 dX0_allot_13 (by decide) rfl (fun c => ?_) (fun c => ?_)
    · refine ax_lload 89 dX0_allot_87 rfl rfl ?_
      refine ax_ldc2 (v := 1000000) 92 dX0_allot_89 rfl cj_X0_48 ?_
      refine ax_ldiv 93 dX0_allot_92 rfl (by decide) ?_
      refine ax_l2i 94 dX0_allot_93 rfl ?_
      refine ax_istore 96 dX0_allot_94 rfl (Nat.le_of_ble_eq_true rfl) ?_
      refine ax_iload 98 dX0_allot_96 rfl rfl ?_
      refine ax_istore 100 dX0_allot_98 rfl (Nat.le_of_ble_eq_true rfl) ?_
      have key : ∀ (n : Nat) (x : Int32) (q' : Nat → Nat → Int32), cnt x ((alS lim y s 6 q).2.1 / 1000000).toInt32 = n → ax_Ex G M_X0_allot d 0 0 100 [(0, .ref 9), (1, .int (nI y)), (2, .int (nI s)), (8, .int ((alS lim y s 6 q).2.1 / 1000000).toInt32), (9, .int x)] [] (wQ q' ++ r) (.inl none, wQ (itF (fun _ => al2 y s) n q') ++ r) := by
        intro n
        induction n with
        | zero =>
          intro x q' hc
          refine ax_iload 102 dX0_allot_100 rfl rfl ?_
          refine ax_iload 104 dX0_allot_102 rfl rfl ?_
          refine ax_icmp_ge 143 107 dX0_allot_104 (by decide) rfl (fun c2 => ?_) (fun c2 => ?_)
          · exact ax_vret dX0_allot_143 rfl rfl
          · rw [cnt_lt c2] at hc
            cases hc
        | succ n ih =>
          intro x q' hc
          refine ax_iload 102 dX0_allot_100 rfl rfl ?_
          refine ax_iload 104 dX0_allot_102 rfl rfl ?_
          refine ax_icmp_ge 143 107 dX0_allot_104 (by decide) rfl (fun c2 => ?_) (fun c2 => ?_)
          · rw [cnt_ge c2] at hc
            cases hc
          · have hg := grC1_lt q' 5
            refine ax_aload_n 0 108 dX0_allot_107 rfl rfl rfl ?_
            refine ax_cV 111 dX0_allot_108 rfl ml_X0_54 (s_greatestRemainder (d := d - 1)) rfl (by omega) rfl rfl (Nat.le_of_ble_eq_true rfl) ?_
            refine ax_istore 113 dX0_allot_111 rfl (Nat.le_of_ble_eq_true rfl) ?_
            refine ax_aload_n 0 114 dX0_allot_113 rfl rfl rfl ?_
            refine ax_getf 117 dX0_allot_114 rfl fl_X0_11 rfl rfl ?_
            refine ax_iload_n 1 118 dX0_allot_117 rfl rfl rfl ?_
            refine ax_iload 120 dX0_allot_118 rfl rfl ?_
            refine ax_iload_n 2 121 dX0_allot_120 rfl rfl rfl ?_
            refine ax_cS 124 dX0_allot_121 rfl ml_X0_50 (s_row (d := d - 1) y _ s) (by omega) rfl rfl (Nat.le_of_ble_eq_true rfl) ?_
            refine ax_dup2 125 dX0_allot_124 rfl rfl rfl ?_
            refine ax_ialdN 126 dX0_allot_125 rfl rfl rfl (by omega) (by decide) ?_
            refine ax_iconst (v := 1) 127 dX0_allot_126 rfl (by decide) ?_
            refine ax_iadd 128 dX0_allot_127 rfl ?_
            refine ax_iastN 129 dX0_allot_128 rfl rfl rfl (by omega) (by decide) ?_
            rw [wQs_10]
            refine ax_aload_n 0 130 dX0_allot_129 rfl rfl rfl ?_
            refine ax_getf 133 dX0_allot_130 rfl fl_X0_39 rfl rfl ?_
            refine ax_iload 135 dX0_allot_133 rfl rfl ?_
            refine ax_iconst (v := (-1)) 136 dX0_allot_135 rfl (by decide) ?_
            refine ax_iastN 137 dX0_allot_136 rfl rfl rfl (by omega) (by decide) ?_
            rw [wQs_19]
            refine ax_iinc (v := (_ : Int32) + 1) 140 dX0_allot_137 rfl rfl rfl (Nat.le_of_ble_eq_true rfl) ?_
            refine ax_goto 100 dX0_allot_140 (by decide) ?_
            rw [show itF (fun _ => al2 y s) (n + 1) q' = itF (fun _ => al2 y s) n (al2 y s q') from (itF_comm n q').symm]
            have hn : cnt (x + 1) ((alS lim y s 6 q).2.1 / 1000000).toInt32 = n := by
              have h9 := cnt_lt c2
              omega
            exact ax_lvk (ih (x + 1) _ hn) ⟨rfl, rfl, rfl, rfl, rfl, trivial⟩
      exact ax_lvk (key _ _ _ rfl) ⟨rfl, rfl, rfl, rfl, rfl, trivial⟩
    · exact absurd (by decide) c
  · refine ax_iload 11 dX0_allot_9 rfl rfl ?_
    refine ax_bipush (v := 6) 13 dX0_allot_11 rfl (by decide) ?_
    refine ax_icmp_ge 87 16 dX0_allot_13 (by decide) rfl (fun c => ?_) (fun c => ?_)
    · exact absurd c (nI_ge hv (by decide))
    · refine ax_iload_n 3 17 dX0_allot_16 rfl rfl rfl ?_
      refine ax_i2l 18 dX0_allot_17 rfl ?_
      refine ax_aload 20 dX0_allot_18 rfl rfl ?_
      refine ax_iload_n 2 21 dX0_allot_20 rfl rfl rfl ?_
      refine ax_iload 23 dX0_allot_21 rfl rfl ?_
      refine ax_cV 26 dX0_allot_23 rfl ml_X0_42 (s_placedOn (d := d - 1) s v hs hv) rfl (by omega) rfl rfl (Nat.le_of_ble_eq_true rfl) ?_
      refine ax_i2l 27 dX0_allot_26 rfl ?_
      refine ax_lmul 28 dX0_allot_27 rfl ?_
      refine ax_lstore 30 dX0_allot_28 rfl (Nat.le_of_ble_eq_true rfl) ?_
      refine ax_lload 32 dX0_allot_30 rfl rfl ?_
      refine ax_ldc2 (v := 1000000) 35 dX0_allot_32 rfl cj_X0_48 ?_
      refine ax_ldiv 36 dX0_allot_35 rfl (by decide) ?_
      refine ax_l2i 37 dX0_allot_36 rfl ?_
      refine ax_istore 39 dX0_allot_37 rfl (Nat.le_of_ble_eq_true rfl) ?_
      refine ax_aload_n 0 40 dX0_allot_39 rfl rfl rfl ?_
      refine ax_getf 43 dX0_allot_40 rfl fl_X0_11 rfl rfl ?_
      refine ax_iload_n 1 44 dX0_allot_43 rfl rfl rfl ?_
      refine ax_iload 46 dX0_allot_44 rfl rfl ?_
      refine ax_iload_n 2 47 dX0_allot_46 rfl rfl rfl ?_
      refine ax_cS 50 dX0_allot_47 rfl ml_X0_50 (s_row (d := d - 1) y v s) (by omega) rfl rfl (Nat.le_of_ble_eq_true rfl) ?_
      refine ax_iload 52 dX0_allot_50 rfl rfl ?_
      refine ax_iastN 53 dX0_allot_52 rfl rfl rfl (by omega) (by decide) ?_
      rw [wQs_10]
      refine ax_aload_n 0 54 dX0_allot_53 rfl rfl rfl ?_
      refine ax_getf 57 dX0_allot_54 rfl fl_X0_39 rfl rfl ?_
      refine ax_iload 59 dX0_allot_57 rfl rfl ?_
      refine ax_lload 61 dX0_allot_59 rfl rfl ?_
      refine ax_ldc2 (v := 1000000) 64 dX0_allot_61 rfl cj_X0_48 ?_
      refine ax_lrem 65 dX0_allot_64 rfl (by decide) ?_
      refine ax_l2i 66 dX0_allot_65 rfl ?_
      refine ax_iastN 67 dX0_allot_66 rfl rfl rfl (by omega) (by decide) ?_
      rw [wQs_19]
      refine ax_lload 69 dX0_allot_67 rfl rfl ?_
      refine ax_lload 71 dX0_allot_69 rfl rfl ?_
      refine ax_ladd 72 dX0_allot_71 rfl ?_
      refine ax_lstore 74 dX0_allot_72 rfl (Nat.le_of_ble_eq_true rfl) ?_
      refine ax_iload 76 dX0_allot_74 rfl rfl ?_
      refine ax_iload 78 dX0_allot_76 rfl rfl ?_
      refine ax_iadd 79 dX0_allot_78 rfl ?_
      refine ax_istore 81 dX0_allot_79 rfl (Nat.le_of_ble_eq_true rfl) ?_
      refine ax_iinc (v := (_ : Int32) + 1) 84 dX0_allot_81 rfl rfl rfl (Nat.le_of_ble_eq_true rfl) ?_
      refine ax_goto 9 dX0_allot_84 (by decide) ?_
      exact ax_lvk ih ⟨rfl, rfl, rfl, rfl, rfl, rfl, rfl, gI (nI_1 v), trivial⟩
end ACC
