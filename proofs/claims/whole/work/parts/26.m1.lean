/-! the reference: small methods -/
theorem bI_1 {b : Bool} : bI b = 1 ↔ b = true := by cases b <;> decide
theorem bI_01 (b : Bool) : bI b = 0 ∨ bI b = 1 := by cases b <;> decide
section JN
variable {G : ax_G} {M : ax_M} {d nc ns pc : Nat} {lv : ax_V} {st : List Value} {w : ax_W} {o : ax_O}
/-- roads that come together again, with a truth value on top -/
theorem ax_jn (to : Nat) (b : Bool) (k : ax_Ex G M d nc ns to lv (.int (bI b) :: st) w o → ax_Ex G M d nc ns pc lv st w o) (K : ax_Ex G M d nc ns to lv (.int (bI b) :: st) w o) : ax_Ex G M d nc ns pc lv st w o := k K
theorem ax_jnW (to : Nat) (b : Bool) (w1 : ax_W) (k : ax_Ex G M d nc ns to lv (.int (bI b) :: st) w1 o → ax_Ex G M d nc ns pc lv st w o) (K : ax_Ex G M d nc ns to lv (.int (bI b) :: st) w1 o) : ax_Ex G M d nc ns pc lv st w o := k K
theorem ax_bx {x : Int32} {b : Bool} (K : ax_Ex G M d nc ns pc lv (.int (bI b) :: st) w o) (h : bI b = x) : ax_Ex G M d nc ns pc lv (.int x :: st) w o := h ▸ K
end JN
theorem c64 (x : Int32) : x.toInt64.toInt = x.toInt := Int32.toInt_toInt64 x
theorem isW64 (x a b : Int32) : (decide (a.toInt64 ≤ x.toInt64) && decide (x.toInt64 ≤ b.toInt64)) = isW x a b := by
  unfold isW
  congr 1
  · rw [decide_eq_decide, Int64.le_iff_toInt_le, Int32.le_iff_toInt_le, c64, c64]
  · rw [decide_eq_decide, Int64.le_iff_toInt_le, Int32.le_iff_toInt_le, c64, c64]
/-- what refuse makes of its two questions -/
def rfM (a b : Bool) : Int32 := if a = true then 1 else if b = true then 2 else 0
section M1
variable {G : ax_G} {d : Nat} {q p : Nat → Nat → Int32} {l : Nat → Int64} {r : ax_W}
theorem m_in {w : ax_W} (x a b : Int32) (A B : Int64) (hA : a.toInt64 = A) (hB : b.toInt64 = B) : ax_Met G M_X4_in d 0 0 [.long x.toInt64, .long A, .long B] w (.inl (some (.int (bI (isW x a b)))), w) := by
  subst hA; subst hB
  rw [← isW64]
  refine ax_of rfl (by decide) (Nat.le_of_ble_eq_true rfl) ?_
  refine ax_jn 18 (decide (a.toInt64 ≤ x.toInt64) && decide (x.toInt64 ≤ b.toInt64)) (fun K => ?_) ?_
  · refine ax_lload_n 0 1 dX4_in_0 rfl rfl rfl ?_
    refine ax_lload_n 2 2 dX4_in_1 rfl rfl rfl ?_
    refine ax_lcmp 3 dX4_in_2 rfl ?_
    refine ax_if_lt 17 6 dX4_in_3 (by decide) rfl (fun c3 => ?_) (fun c3 => ?_)
    · refine ax_iconst (v := 0) 18 dX4_in_17 rfl (by decide) ?_
      exact ax_bx K (by simp [bI_0, bI_1, ((lg_cmp_lt _ _).mp c3), Int64.not_le.mpr ((lg_cmp_lt _ _).mp c3)])
    · refine ax_lload_n 0 7 dX4_in_6 rfl rfl rfl ?_
      refine ax_lload 9 dX4_in_7 rfl rfl ?_
      refine ax_lcmp 10 dX4_in_9 rfl ?_
      refine ax_if_gt 17 13 dX4_in_10 (by decide) rfl (fun c10 => ?_) (fun c10 => ?_)
      · refine ax_iconst (v := 0) 18 dX4_in_17 rfl (by decide) ?_
        exact ax_bx K (by simp [bI_0, bI_1, Int64.not_lt.mp (fun h9 => c3 ((lg_cmp_lt _ _).mpr h9)), ((lg_cmp_gt _ _).mp c10), Int64.not_le.mpr ((lg_cmp_gt _ _).mp c10)])
      · refine ax_iconst (v := 1) 14 dX4_in_13 rfl (by decide) ?_
        refine ax_goto 18 dX4_in_14 (by decide) ?_
        exact ax_bx K (by simp [bI_0, bI_1, Int64.not_lt.mp (fun h9 => c3 ((lg_cmp_lt _ _).mpr h9)), Int64.not_lt.mp (fun h9 => c10 ((lg_cmp_gt _ _).mpr h9))])
  exact ax_zret dX4_in_18 rfl (bI_nar _) rfl
theorem m_isSpecies {w : ax_W} (hd : 1 ≤ d) (x : Int32) : ax_Met G M_X4_isSpecies d 0 0 [.int x] w (.inl (some (.int (bI (isW x 0 3)))), w) := by
  refine ax_of rfl (by decide) (Nat.le_of_ble_eq_true rfl) ?_
  refine ax_iload_n 0 1 dX4_isSpecies_0 rfl rfl rfl ?_
  refine ax_i2l 2 dX4_isSpecies_1 rfl ?_
  refine ax_lconst (v := 0) 3 dX4_isSpecies_2 rfl (by decide) ?_
  refine ax_ldc2 (v := 3) 6 dX4_isSpecies_3 rfl cj_X4_98 ?_
  refine ax_cS 9 dX4_isSpecies_6 rfl ml_X4_100 (m_in (d := d - 1) x 0 3 0 3 rfl rfl) (by omega) rfl rfl (Nat.le_of_ble_eq_true rfl) ?_
  exact ax_zret dX4_isSpecies_9 rfl (bI_nar _) rfl
theorem m_isOne {w : ax_W} (hd : 1 ≤ d) (x : Int32) : ax_Met G M_X4_isOne d 0 0 [.int x] w (.inl (some (.int (bI (isW x 0 5)))), w) := by
  refine ax_of rfl (by decide) (Nat.le_of_ble_eq_true rfl) ?_
  refine ax_iload_n 0 1 dX4_isOne_0 rfl rfl rfl ?_
  refine ax_i2l 2 dX4_isOne_1 rfl ?_
  refine ax_lconst (v := 0) 3 dX4_isOne_2 rfl (by decide) ?_
  refine ax_ldc2 (v := 5) 6 dX4_isOne_3 rfl cj_X4_104 ?_
  refine ax_cS 9 dX4_isOne_6 rfl ml_X4_100 (m_in (d := d - 1) x 0 5 0 5 rfl rfl) (by omega) rfl rfl (Nat.le_of_ble_eq_true rfl) ?_
  exact ax_zret dX4_isOne_9 rfl (bI_nar _) rfl
theorem m_wasYear (hd : 1 ≤ d) (x : Int32) : ax_Met G M_X4_wasYear d 0 0 [.ref 31, .int x] (wQ q ++ (wM p l ++ r)) (.inl (some (.int (bI (isW x 1 (p 31 9))))), wQ q ++ (wM p l ++ r)) := by
  refine ax_of rfl (by decide) (Nat.le_of_ble_eq_true rfl) ?_
  refine ax_iload_n 1 1 dX4_wasYear_0 rfl rfl rfl ?_
  refine ax_i2l 2 dX4_wasYear_1 rfl ?_
  refine ax_lconst (v := 1) 3 dX4_wasYear_2 rfl (by decide) ?_
  refine ax_aload_n 0 4 dX4_wasYear_3 rfl rfl rfl ?_
  refine ax_getf 7 dX4_wasYear_4 rfl fl_X4_141 rfl rfl ?_
  refine ax_i2l 8 dX4_wasYear_7 rfl ?_
  refine ax_cS 11 dX4_wasYear_8 rfl ml_X4_100 (m_in (d := d - 1) x 1 _ 1 _ rfl rfl) (by omega) rfl rfl (Nat.le_of_ble_eq_true rfl) ?_
  exact ax_zret dX4_wasYear_11 rfl (bI_nar _) rfl
theorem m_thrown : ax_Met G M_X4_thrown d 0 0 [.ref 31] (wQ q ++ (wM p l ++ r)) (.inl (some (.int (p 31 0))), wQ q ++ (wM p l ++ r)) := by
  refine ax_of rfl (by decide) (Nat.le_of_ble_eq_true rfl) ?_
  refine ax_aload_n 0 1 dX4_thrown_0 rfl rfl rfl ?_
  refine ax_getf 4 dX4_thrown_1 rfl fl_X4_94 rfl rfl ?_
  exact ax_iret dX4_thrown_4 rfl rfl
theorem m_at {w : ax_W} (y v s : Nat) : ax_Met G M_X4_at d 0 0 [.int (nI y), .int (nI v), .int (nI s)] w (.inl (some (.int (nI (24 * y + 4 * v + s)))), w) := by
  refine ax_of rfl (by decide) (Nat.le_of_ble_eq_true rfl) ?_
  rw [← ixr']
  refine ax_bipush (v := 24) 2 dX4_at_0 rfl (by decide) ?_
  refine ax_iload_n 0 3 dX4_at_2 rfl rfl rfl ?_
  refine ax_imul 4 dX4_at_3 rfl ?_
  refine ax_iconst (v := 4) 5 dX4_at_4 rfl (by decide) ?_
  refine ax_iload_n 1 6 dX4_at_5 rfl rfl rfl ?_
  refine ax_imul 7 dX4_at_6 rfl ?_
  refine ax_iadd 8 dX4_at_7 rfl ?_
  refine ax_iload_n 2 9 dX4_at_8 rfl rfl rfl ?_
  refine ax_iadd 10 dX4_at_9 rfl ?_
  exact ax_iret dX4_at_10 rfl rfl
theorem m_refuse (a b : Bool) : ax_Met G M_X4_refuse d 0 0 [.ref 31, .int (bI a), .int (bI b)] (wQ q ++ (wM p l ++ r)) (.inl (some (.int (bI (a || b)))), wQ q ++ (wM (qv p 31 0 (rfM a b)) l ++ r)) := by
  refine ax_of rfl (by decide) (Nat.le_of_ble_eq_true rfl) ?_
  cases a with
  | true =>
    refine ax_aload_n 0 1 dX4_refuse_0 rfl rfl rfl ?_
    refine ax_iload_n 1 2 dX4_refuse_1 rfl rfl rfl ?_
    refine ax_if_eq 9 5 dX4_refuse_2 (by decide) rfl (fun c => ?_) (fun c => ?_)
    · cases c
    · refine ax_iconst (v := 1) 6 dX4_refuse_5 rfl (by decide) ?_
      refine ax_goto 18 dX4_refuse_6 (by decide) ?_
      refine ax_putf 21 dX4_refuse_18 rfl fp_X4_94 rfl rfl rfl (Nat.le_of_ble_eq_true rfl) ?_
      rw [wMp_31_0]
      refine ax_aload_n 0 22 dX4_refuse_21 rfl rfl rfl ?_
      refine ax_getf 25 dX4_refuse_22 rfl fl_X4_94 rfl rfl ?_
      refine ax_if_le 32 28 dX4_refuse_25 (by decide) rfl (fun c2 => ?_) (fun c2 => ?_)
      · exact absurd c2 (by simp only [qv, qw_s, pk_us]; decide)
      · refine ax_iconst (v := 1) 29 dX4_refuse_28 rfl (by decide) ?_
        refine ax_goto 33 dX4_refuse_29 (by decide) ?_
        exact ax_zret dX4_refuse_33 rfl (by decide) rfl
  | false =>
    refine ax_aload_n 0 1 dX4_refuse_0 rfl rfl rfl ?_
    refine ax_iload_n 1 2 dX4_refuse_1 rfl rfl rfl ?_
    refine ax_if_eq 9 5 dX4_refuse_2 (by decide) rfl (fun c => ?_) (fun c => ?_)
    · cases b with
      | true =>
        refine ax_iload_n 2 10 dX4_refuse_9 rfl rfl rfl ?_
        refine ax_if_eq 17 13 dX4_refuse_10 (by decide) rfl (fun c1 => ?_) (fun c1 => ?_)
        · cases c1
        · refine ax_iconst (v := 2) 14 dX4_refuse_13 rfl (by decide) ?_
          refine ax_goto 18 dX4_refuse_14 (by decide) ?_
          refine ax_putf 21 dX4_refuse_18 rfl fp_X4_94 rfl rfl rfl (Nat.le_of_ble_eq_true rfl) ?_
          rw [wMp_31_0]
          refine ax_aload_n 0 22 dX4_refuse_21 rfl rfl rfl ?_
          refine ax_getf 25 dX4_refuse_22 rfl fl_X4_94 rfl rfl ?_
          refine ax_if_le 32 28 dX4_refuse_25 (by decide) rfl (fun c2 => ?_) (fun c2 => ?_)
          · exact absurd c2 (by simp only [qv, qw_s, pk_us]; decide)
          · refine ax_iconst (v := 1) 29 dX4_refuse_28 rfl (by decide) ?_
            refine ax_goto 33 dX4_refuse_29 (by decide) ?_
            exact ax_zret dX4_refuse_33 rfl (by decide) rfl
      | false =>
        refine ax_iload_n 2 10 dX4_refuse_9 rfl rfl rfl ?_
        refine ax_if_eq 17 13 dX4_refuse_10 (by decide) rfl (fun c1 => ?_) (fun c1 => ?_)
        · refine ax_iconst (v := 0) 18 dX4_refuse_17 rfl (by decide) ?_
          refine ax_putf 21 dX4_refuse_18 rfl fp_X4_94 rfl rfl rfl (Nat.le_of_ble_eq_true rfl) ?_
          rw [wMp_31_0]
          refine ax_aload_n 0 22 dX4_refuse_21 rfl rfl rfl ?_
          refine ax_getf 25 dX4_refuse_22 rfl fl_X4_94 rfl rfl ?_
          refine ax_if_le 32 28 dX4_refuse_25 (by decide) rfl (fun c2 => ?_) (fun c2 => ?_)
          · refine ax_iconst (v := 0) 33 dX4_refuse_32 rfl (by decide) ?_
            exact ax_zret dX4_refuse_33 rfl (by decide) rfl
          · exact absurd (by simp only [qv, qw_s, pk_us]; decide) c2
        · exact absurd rfl c1
    · exact absurd rfl c
/-- what is left on the account k -/
def leftM (p : Nat → Nat → Int32) (k : Nat) : Int32 := p 41 k + p 42 k + p 43 k - p 44 k - p 45 k
theorem m_left (k : Nat) (h : k < 216) : ax_Met G M_X4_left d 0 0 [.ref 31, .int (nI k)] (wQ q ++ (wM p l ++ r)) (.inl (some (.int (leftM p k))), wQ q ++ (wM p l ++ r)) := by
  refine ax_of rfl (by decide) (Nat.le_of_ble_eq_true rfl) ?_
  refine ax_aload_n 0 1 dX4_left_0 rfl rfl rfl ?_
  refine ax_getf 4 dX4_left_1 rfl fl_X4_38 rfl rfl ?_
  refine ax_iload_n 1 5 dX4_left_4 rfl rfl rfl ?_
  refine ax_ialdN 6 dX4_left_5 rfl rfl rfl (by omega) (by decide) ?_
  refine ax_aload_n 0 7 dX4_left_6 rfl rfl rfl ?_
  refine ax_getf 10 dX4_left_7 rfl fl_X4_41 rfl rfl ?_
  refine ax_iload_n 1 11 dX4_left_10 rfl rfl rfl ?_
  refine ax_ialdN 12 dX4_left_11 rfl rfl rfl (by omega) (by decide) ?_
  refine ax_iadd 13 dX4_left_12 rfl ?_
  refine ax_aload_n 0 14 dX4_left_13 rfl rfl rfl ?_
  refine ax_getf 17 dX4_left_14 rfl fl_X4_44 rfl rfl ?_
  refine ax_iload_n 1 18 dX4_left_17 rfl rfl rfl ?_
  refine ax_ialdN 19 dX4_left_18 rfl rfl rfl (by omega) (by decide) ?_
  refine ax_iadd 20 dX4_left_19 rfl ?_
  refine ax_aload_n 0 21 dX4_left_20 rfl rfl rfl ?_
  refine ax_getf 24 dX4_left_21 rfl fl_X4_47 rfl rfl ?_
  refine ax_iload_n 1 25 dX4_left_24 rfl rfl rfl ?_
  refine ax_ialdN 26 dX4_left_25 rfl rfl rfl (by omega) (by decide) ?_
  refine ax_isub 27 dX4_left_26 rfl ?_
  refine ax_aload_n 0 28 dX4_left_27 rfl rfl rfl ?_
  refine ax_getf 31 dX4_left_28 rfl fl_X4_50 rfl rfl ?_
  refine ax_iload_n 1 32 dX4_left_31 rfl rfl rfl ?_
  refine ax_ialdN 33 dX4_left_32 rfl rfl rfl (by omega) (by decide) ?_
  refine ax_isub 34 dX4_left_33 rfl ?_
  exact ax_iret dX4_left_34 rfl rfl
def freeM (p : Nat → Nat → Int32) (s : Nat) (o : Int32) (x : Int32) (n : Nat) : Int32 := itF (fun v a => if p 35 v = o then a - p 37 (6 * s + v) else a) n x
theorem m_free (s : Nat) (o : Nat) (hs : s < 4) (ho : o < 6) : ax_Met G M_X4_free d 0 0 [.ref 31, .int (nI s), .int (nI o)] (wQ q ++ (wM p l ++ r)) (.inl (some (.int (freeM p s (nI o) (p 36 (6 * s + o)) 6))), wQ q ++ (wM p l ++ r)) := by
  refine ax_of rfl (by decide) (Nat.le_of_ble_eq_true rfl) ?_
  refine ax_aload_n 0 1 dX4_free_0 rfl rfl rfl ?_
  refine ax_getf 4 dX4_free_1 rfl fl_X4_22 rfl rfl ?_
  refine ax_bipush (v := 6) 6 dX4_free_4 rfl (by decide) ?_
  refine ax_iload_n 1 7 dX4_free_6 rfl rfl rfl ?_
  refine ax_imul 8 dX4_free_7 rfl ?_
  refine ax_iload_n 2 9 dX4_free_8 rfl rfl rfl ?_
  refine ax_iadd 10 dX4_free_9 rfl ?_
  refine ax_ialdN 11 dX4_free_10 rfl rfl (ix6' s o) (by omega) (by decide) ?_
  refine ax_istore_n 3 12 dX4_free_11 rfl rfl (Nat.le_of_ble_eq_true rfl) ?_
  refine ax_iconst (v := 0) 13 dX4_free_12 rfl (by decide) ?_
  refine ax_istore 15 dX4_free_13 rfl (Nat.le_of_ble_eq_true rfl) ?_
  refine ax_lvk (ax_down (P := fun i => ax_Ex G M_X4_free d 0 0 15 [(0, .ref 31), (1, .int (nI s)), (2, .int (nI o)), (3, .int (freeM p s (nI o) (p 36 (6 * s + o)) i)), (4, .int (nI i))] [] (wQ q ++ (wM p l ++ r)) (.inl (some (.int (freeM p s (nI o) (p 36 (6 * s + o)) 6))), wQ q ++ (wM p l ++ r))) (n := 6) ?_ (fun i hi ih => ?_) 0 (Nat.zero_le _)) ⟨rfl, rfl, rfl, rfl, rfl, trivial⟩
  · refine ax_iload 17 dX4_free_15 rfl rfl ?_
    refine ax_bipush (v := 6) 19 dX4_free_17 rfl (by decide) ?_
    refine ax_icmp_ge 58 22 dX4_free_19 (by decide) rfl (fun c => ?_) (fun c => ?_)
    · refine ax_iload_n 3 59 dX4_free_58 rfl rfl rfl ?_
      exact ax_iret dX4_free_59 rfl rfl
    · exact absurd (by decide) c
  · refine ax_iload 17 dX4_free_15 rfl rfl ?_
    refine ax_bipush (v := 6) 19 dX4_free_17 rfl (by decide) ?_
    refine ax_icmp_ge 58 22 dX4_free_19 (by decide) rfl (fun c => ?_) (fun c => ?_)
    · exact absurd c (nI_ge hi (by decide))
    · refine ax_aload_n 0 23 dX4_free_22 rfl rfl rfl ?_
      refine ax_getf 26 dX4_free_23 rfl fl_X4_19 rfl rfl ?_
      refine ax_iload 28 dX4_free_26 rfl rfl ?_
      refine ax_ialdN 29 dX4_free_28 rfl rfl rfl (by omega) (by decide) ?_
      refine ax_iload_n 2 30 dX4_free_29 rfl rfl rfl ?_
      refine ax_icmp_ne 50 33 dX4_free_30 (by decide) rfl (fun c2 => ?_) (fun c2 => ?_)
      · refine ax_iload_n 3 51 dX4_free_50 rfl rfl rfl ?_
        refine ax_istore_n 3 52 dX4_free_51 rfl rfl (Nat.le_of_ble_eq_true rfl) ?_
        refine ax_iinc (v := (_ : Int32) + 1) 55 dX4_free_52 rfl rfl rfl (Nat.le_of_ble_eq_true rfl) ?_
        refine ax_goto 15 dX4_free_55 (by decide) ?_
        exact ax_lvk ih ⟨rfl, rfl, rfl, gI (by simp only [freeM, itF_s]; rw [if_neg c2]), gI (nI_1 i), trivial⟩
      · refine ax_iload_n 3 34 dX4_free_33 rfl rfl rfl ?_
        refine ax_aload_n 0 35 dX4_free_34 rfl rfl rfl ?_
        refine ax_getf 38 dX4_free_35 rfl fl_X4_25 rfl rfl ?_
        refine ax_bipush (v := 6) 40 dX4_free_38 rfl (by decide) ?_
        refine ax_iload_n 1 41 dX4_free_40 rfl rfl rfl ?_
        refine ax_imul 42 dX4_free_41 rfl ?_
        refine ax_iload 44 dX4_free_42 rfl rfl ?_
        refine ax_iadd 45 dX4_free_44 rfl ?_
        refine ax_ialdN 46 dX4_free_45 rfl rfl (ix6' s i) (by omega) (by decide) ?_
        refine ax_isub 47 dX4_free_46 rfl ?_
        refine ax_goto 51 dX4_free_47 (by decide) ?_
        refine ax_istore_n 3 52 dX4_free_51 rfl rfl (Nat.le_of_ble_eq_true rfl) ?_
        refine ax_iinc (v := (_ : Int32) + 1) 55 dX4_free_52 rfl rfl rfl (Nat.le_of_ble_eq_true rfl) ?_
        refine ax_goto 15 dX4_free_55 (by decide) ?_
        exact ax_lvk ih ⟨rfl, rfl, rfl, gI (by simp only [freeM, itF_s]; rw [if_pos c2]), gI (nI_1 i), trivial⟩
/-- links set both ways -/
def slM (p : Nat → Nat → Int32) (a b : Nat) (x : Int32) : Nat → Nat → Int32 := qv (qv p 38 (6 * a + b) x) 38 (6 * b + a) x
theorem m_setLink (a b : Nat) (x : Int32) (ha : a < 6) (hb : b < 6) (hx : vp_nar .boolean x = x) : ax_Met G M_X4_setLink d 0 0 [.ref 31, .int (nI a), .int (nI b), .int x] (wQ q ++ (wM p l ++ r)) (.inl none, wQ q ++ (wM (slM p a b x) l ++ r)) := by
  refine ax_of rfl (by decide) (Nat.le_of_ble_eq_true rfl) ?_
  refine ax_aload_n 0 1 dX4_setLink_0 rfl rfl rfl ?_
  refine ax_getf 4 dX4_setLink_1 rfl fl_X4_28 rfl rfl ?_
  refine ax_bipush (v := 6) 6 dX4_setLink_4 rfl (by decide) ?_
  refine ax_iload_n 1 7 dX4_setLink_6 rfl rfl rfl ?_
  refine ax_imul 8 dX4_setLink_7 rfl ?_
  refine ax_iload_n 2 9 dX4_setLink_8 rfl rfl rfl ?_
  refine ax_iadd 10 dX4_setLink_9 rfl ?_
  refine ax_iload_n 3 11 dX4_setLink_10 rfl rfl rfl ?_
  refine ax_zastN 12 dX4_setLink_11 rfl rfl (ix6' a b) (by omega) (by decide) hx ?_
  rw [wMs_38]
  refine ax_aload_n 0 13 dX4_setLink_12 rfl rfl rfl ?_
  refine ax_getf 16 dX4_setLink_13 rfl fl_X4_28 rfl rfl ?_
  refine ax_bipush (v := 6) 18 dX4_setLink_16 rfl (by decide) ?_
  refine ax_iload_n 2 19 dX4_setLink_18 rfl rfl rfl ?_
  refine ax_imul 20 dX4_setLink_19 rfl ?_
  refine ax_iload_n 1 21 dX4_setLink_20 rfl rfl rfl ?_
  refine ax_iadd 22 dX4_setLink_21 rfl ?_
  refine ax_iload_n 3 23 dX4_setLink_22 rfl rfl rfl ?_
  refine ax_zastN 24 dX4_setLink_23 rfl rfl (ix6' b a) (by omega) (by decide) hx ?_
  rw [wMs_38]
  exact ax_vret dX4_setLink_24 rfl rfl
/-- gather: its first loop, the inmost step, a round -/
def ga0 (o : Int32) (n : Nat) (p : Nat → Nat → Int32) : Nat → Nat → Int32 := itF (fun k p => qv p 39 k (bI (decide (nI k = o)))) n p
def gaB (p : Nat → Nat → Int32) (a b : Nat) : Bool := ntz (p 39 b) || (ntz (p 39 a) && ntz (p 38 (6 * a + b)))
def ga1 (a n : Nat) (p : Nat → Nat → Int32) : Nat → Nat → Int32 := itF (fun b p => qv p 39 b (bI (gaB p a b))) n p
def ga2 (n : Nat) (p : Nat → Nat → Int32) : Nat → Nat → Int32 := itF (fun a p => ga1 a 6 p) n p
def ga3 (n : Nat) (p : Nat → Nat → Int32) : Nat → Nat → Int32 := itF (fun _ p => ga2 6 p) n p
def gaM (p : Nat → Nat → Int32) (o : Int32) : Nat → Nat → Int32 := ga3 6 (ga0 o 6 p)
theorem ga1_s {a n : Nat} : ga1 a (n + 1) p = qv (ga1 a n p) 39 n (bI (gaB (ga1 a n p) a n)) := rfl
theorem ga2_s {n : Nat} : ga2 (n + 1) p = ga1 n 6 (ga2 n p) := by
  unfold ga2
  rw [itF_s]
theorem ga3_s {n : Nat} : ga3 (n + 1) p = ga2 6 (ga3 n p) := by
  unfold ga3
  rw [itF_s]
theorem ga0_s {o : Int32} {n : Nat} : ga0 o (n + 1) p = qv (ga0 o n p) 39 n (bI (decide (nI n = o))) := rfl
theorem m_gather1 {o : ax_O} (i a : Nat) (ha : a < 6) (k : ax_Ex G M_X4_gather d 0 0 108 [(0, .ref 31), (2, .int (nI i)), (3, .int (nI a))] [] (wQ q ++ (wM (ga1 a 6 p) l ++ r)) o) : ax_Ex G M_X4_gather d 0 0 46 [(0, .ref 31), (2, .int (nI i)), (3, .int (nI a))] [] (wQ q ++ (wM p l ++ r)) o := by
  refine ax_iconst (v := 0) 47 dX4_gather_46 rfl (by decide) ?_
  refine ax_istore 49 dX4_gather_47 rfl (Nat.le_of_ble_eq_true rfl) ?_
  refine ax_lvk (ax_down (P := fun b => ax_Ex G M_X4_gather d 0 0 49 [(0, .ref 31), (2, .int (nI i)), (3, .int (nI a)), (4, .int (nI b))] [] (wQ q ++ (wM (ga1 a b p) l ++ r)) o) (n := 6) ?_ (fun b hb bh => ?_) 0 (Nat.zero_le _)) ⟨rfl, rfl, rfl, rfl, trivial⟩
  · refine ax_iload 51 dX4_gather_49 rfl rfl ?_
    refine ax_bipush (v := 6) 53 dX4_gather_51 rfl (by decide) ?_
    refine ax_icmp_ge 108 56 dX4_gather_53 (by decide) rfl (fun c3 => ?_) (fun c3 => ?_)
    · exact ax_lvk k ⟨rfl, rfl, rfl, trivial⟩
    · exact absurd (by decide) c3
  · rw [ga1_s] at bh
    revert bh
    generalize ga1 a b p = p1
    intro bh
    refine ax_iload 51 dX4_gather_49 rfl rfl ?_
    refine ax_bipush (v := 6) 53 dX4_gather_51 rfl (by decide) ?_
    refine ax_icmp_ge 108 56 dX4_gather_53 (by decide) rfl (fun c3 => ?_) (fun c3 => ?_)
    · exact absurd c3 (nI_ge hb (by decide))
    · refine ax_aload_n 0 57 dX4_gather_56 rfl rfl rfl ?_
      refine ax_getf 60 dX4_gather_57 rfl fl_X4_32 rfl rfl ?_
      refine ax_iload 62 dX4_gather_60 rfl rfl ?_
      refine ax_jn 101 (gaB p1 a b) (fun K => ?_) ?_
      · refine ax_aload_n 0 63 dX4_gather_62 rfl rfl rfl ?_
        refine ax_getf 66 dX4_gather_63 rfl fl_X4_32 rfl rfl ?_
        refine ax_iload 68 dX4_gather_66 rfl rfl ?_
        refine ax_zaldN 69 dX4_gather_68 rfl rfl rfl (by omega) (by decide) ?_
        refine ax_if_ne 96 72 dX4_gather_69 (by decide) rfl (fun c69 => ?_) (fun c69 => ?_)
        · refine ax_iconst (v := 1) 97 dX4_gather_96 rfl (by decide) ?_
          refine ax_goto 101 dX4_gather_97 (by decide) ?_
          exact ax_bx K (by simp [bI_0, bI_1, gaB, ntz, c69])
        · refine ax_aload_n 0 73 dX4_gather_72 rfl rfl rfl ?_
          refine ax_getf 76 dX4_gather_73 rfl fl_X4_32 rfl rfl ?_
          refine ax_iload_n 3 77 dX4_gather_76 rfl rfl rfl ?_
          refine ax_zaldN 78 dX4_gather_77 rfl rfl rfl (by omega) (by decide) ?_
          refine ax_if_eq 100 81 dX4_gather_78 (by decide) rfl (fun c78 => ?_) (fun c78 => ?_)
          · refine ax_iconst (v := 0) 101 dX4_gather_100 rfl (by decide) ?_
            exact ax_bx K (by simp [bI_0, bI_1, gaB, ntz, c69, c78])
          · refine ax_aload_n 0 82 dX4_gather_81 rfl rfl rfl ?_
            refine ax_getf 85 dX4_gather_82 rfl fl_X4_28 rfl rfl ?_
            refine ax_bipush (v := 6) 87 dX4_gather_85 rfl (by decide) ?_
            refine ax_iload_n 3 88 dX4_gather_87 rfl rfl rfl ?_
            refine ax_imul 89 dX4_gather_88 rfl ?_
            refine ax_iload 91 dX4_gather_89 rfl rfl ?_
            refine ax_iadd 92 dX4_gather_91 rfl ?_
            refine ax_zaldN 93 dX4_gather_92 rfl rfl (ix6' a b) (by omega) (by decide) ?_
            refine ax_if_eq 100 96 dX4_gather_93 (by decide) rfl (fun c93 => ?_) (fun c93 => ?_)
            · refine ax_iconst (v := 0) 101 dX4_gather_100 rfl (by decide) ?_
              exact ax_bx K (by simp [bI_0, bI_1, gaB, ntz, c69, c78, c93])
            · refine ax_iconst (v := 1) 97 dX4_gather_96 rfl (by decide) ?_
              refine ax_goto 101 dX4_gather_97 (by decide) ?_
              exact ax_bx K (by simp [bI_0, bI_1, gaB, ntz, c69, c78, c93])
      refine ax_zastN 102 dX4_gather_101 rfl rfl rfl (by omega) (by decide) (bI_vp _) ?_
      rw [wMs_39]
      refine ax_iinc (v := (_ : Int32) + 1) 105 dX4_gather_102 rfl rfl rfl (Nat.le_of_ble_eq_true rfl) ?_
      refine ax_goto 49 dX4_gather_105 (by decide) ?_
      exact ax_lvk bh ⟨rfl, rfl, rfl, gI (nI_1 b), trivial⟩
theorem m_gather2 {o : ax_O} (i : Nat) (k : ax_Ex G M_X4_gather d 0 0 114 [(0, .ref 31), (2, .int (nI i))] [] (wQ q ++ (wM (ga2 6 p) l ++ r)) o) : ax_Ex G M_X4_gather d 0 0 38 [(0, .ref 31), (2, .int (nI i))] [] (wQ q ++ (wM p l ++ r)) o := by
  refine ax_iconst (v := 0) 39 dX4_gather_38 rfl (by decide) ?_
  refine ax_istore_n 3 40 dX4_gather_39 rfl rfl (Nat.le_of_ble_eq_true rfl) ?_
  refine ax_lvk (ax_down (P := fun a => ax_Ex G M_X4_gather d 0 0 40 [(0, .ref 31), (2, .int (nI i)), (3, .int (nI a))] [] (wQ q ++ (wM (ga2 a p) l ++ r)) o) (n := 6) ?_ (fun a ha ah => ?_) 0 (Nat.zero_le _)) ⟨rfl, rfl, rfl, trivial⟩
  · refine ax_iload_n 3 41 dX4_gather_40 rfl rfl rfl ?_
    refine ax_bipush (v := 6) 43 dX4_gather_41 rfl (by decide) ?_
    refine ax_icmp_ge 114 46 dX4_gather_43 (by decide) rfl (fun c3 => ?_) (fun c3 => ?_)
    · exact ax_lvk k ⟨rfl, rfl, trivial⟩
    · exact absurd (by decide) c3
  · rw [ga2_s] at ah
    revert ah
    generalize ga2 a p = p1
    intro ah
    refine ax_iload_n 3 41 dX4_gather_40 rfl rfl rfl ?_
    refine ax_bipush (v := 6) 43 dX4_gather_41 rfl (by decide) ?_
    refine ax_icmp_ge 114 46 dX4_gather_43 (by decide) rfl (fun c3 => ?_) (fun c3 => ?_)
    · exact absurd c3 (nI_ge ha (by decide))
    · refine ax_lvk (m_gather1 i a ha ?_) ⟨rfl, rfl, rfl, trivial⟩
      refine ax_iinc (v := (_ : Int32) + 1) 111 dX4_gather_108 rfl rfl rfl (Nat.le_of_ble_eq_true rfl) ?_
      refine ax_goto 40 dX4_gather_111 (by decide) ?_
      exact ax_lvk ah ⟨rfl, rfl, gI (nI_1 a), trivial⟩
theorem m_gather3 {o : ax_O} (k : ax_Ex G M_X4_gather d 0 0 120 [(0, .ref 31)] [] (wQ q ++ (wM (ga3 6 p) l ++ r)) o) : ax_Ex G M_X4_gather d 0 0 30 [(0, .ref 31)] [] (wQ q ++ (wM p l ++ r)) o := by
  refine ax_iconst (v := 0) 31 dX4_gather_30 rfl (by decide) ?_
  refine ax_istore_n 2 32 dX4_gather_31 rfl rfl (Nat.le_of_ble_eq_true rfl) ?_
  refine ax_lvk (ax_down (P := fun a => ax_Ex G M_X4_gather d 0 0 32 [(0, .ref 31), (2, .int (nI a))] [] (wQ q ++ (wM (ga3 a p) l ++ r)) o) (n := 6) ?_ (fun a ha ah => ?_) 0 (Nat.zero_le _)) ⟨rfl, rfl, trivial⟩
  · refine ax_iload_n 2 33 dX4_gather_32 rfl rfl rfl ?_
    refine ax_bipush (v := 6) 35 dX4_gather_33 rfl (by decide) ?_
    refine ax_icmp_ge 120 38 dX4_gather_35 (by decide) rfl (fun c3 => ?_) (fun c3 => ?_)
    · exact ax_lvk k ⟨rfl, trivial⟩
    · exact absurd (by decide) c3
  · rw [ga3_s] at ah
    revert ah
    generalize ga3 a p = p1
    intro ah
    refine ax_iload_n 2 33 dX4_gather_32 rfl rfl rfl ?_
    refine ax_bipush (v := 6) 35 dX4_gather_33 rfl (by decide) ?_
    refine ax_icmp_ge 120 38 dX4_gather_35 (by decide) rfl (fun c3 => ?_) (fun c3 => ?_)
    · exact absurd c3 (nI_ge ha (by decide))
    · refine ax_lvk (m_gather2 a ?_) ⟨rfl, rfl, trivial⟩
      refine ax_iinc (v := (_ : Int32) + 1) 117 dX4_gather_114 rfl rfl rfl (Nat.le_of_ble_eq_true rfl) ?_
      refine ax_goto 32 dX4_gather_117 (by decide) ?_
      exact ax_lvk ah ⟨rfl, gI (nI_1 a), trivial⟩
theorem m_gather (o : Int32) : ax_Met G M_X4_gather d 0 0 [.ref 31, .int o] (wQ q ++ (wM p l ++ r)) (.inl none, wQ q ++ (wM (gaM p o) l ++ r)) := by
  refine ax_of rfl (by decide) (Nat.le_of_ble_eq_true rfl) ?_
  unfold gaM
  refine ax_iconst (v := 0) 1 dX4_gather_0 rfl (by decide) ?_
  refine ax_istore_n 2 2 dX4_gather_1 rfl rfl (Nat.le_of_ble_eq_true rfl) ?_
  refine ax_lvk (ax_down (P := fun i => ax_Ex G M_X4_gather d 0 0 2 [(0, .ref 31), (1, .int o), (2, .int (nI i))] [] (wQ q ++ (wM (ga0 o i p) l ++ r)) (.inl none, wQ q ++ (wM (ga3 6 (ga0 o 6 p)) l ++ r))) (n := 6) ?_ (fun i hi ih => ?_) 0 (Nat.zero_le _)) ⟨rfl, rfl, rfl, trivial⟩
  · generalize ga0 o 6 p = p1
    refine ax_iload_n 2 3 dX4_gather_2 rfl rfl rfl ?_
    refine ax_bipush (v := 6) 5 dX4_gather_3 rfl (by decide) ?_
    refine ax_icmp_ge 30 8 dX4_gather_5 (by decide) rfl (fun c => ?_) (fun c => ?_)
    · refine ax_lvk (m_gather3 ?_) ⟨rfl, trivial⟩
      exact ax_vret dX4_gather_120 rfl rfl
    · exact absurd (by decide) c
  · generalize ga3 6 (ga0 o 6 p) = p2 at ih ⊢
    rw [ga0_s] at ih
    revert ih
    generalize ga0 o i p = p1
    intro ih
    refine ax_iload_n 2 3 dX4_gather_2 rfl rfl rfl ?_
    refine ax_bipush (v := 6) 5 dX4_gather_3 rfl (by decide) ?_
    refine ax_icmp_ge 30 8 dX4_gather_5 (by decide) rfl (fun c => ?_) (fun c => ?_)
    · exact absurd c (nI_ge hi (by decide))
    · refine ax_aload_n 0 9 dX4_gather_8 rfl rfl rfl ?_
      refine ax_getf 12 dX4_gather_9 rfl fl_X4_32 rfl rfl ?_
      refine ax_iload_n 2 13 dX4_gather_12 rfl rfl rfl ?_
      refine ax_jn 23 (decide (nI i = o)) (fun K => ?_) ?_
      · refine ax_iload_n 2 14 dX4_gather_13 rfl rfl rfl ?_
        refine ax_iload_n 1 15 dX4_gather_14 rfl rfl rfl ?_
        refine ax_icmp_ne 22 18 dX4_gather_15 (by decide) rfl (fun c15 => ?_) (fun c15 => ?_)
        · refine ax_iconst (v := 0) 23 dX4_gather_22 rfl (by decide) ?_
          exact ax_bx K (by simp [bI_0, bI_1, c15])
        · refine ax_iconst (v := 1) 19 dX4_gather_18 rfl (by decide) ?_
          refine ax_goto 23 dX4_gather_19 (by decide) ?_
          exact ax_bx K (by simp [bI_0, bI_1, c15])
      refine ax_zastN 24 dX4_gather_23 rfl rfl rfl (by omega) (by decide) (bI_vp _) ?_
      rw [wMs_39]
      refine ax_iinc (v := (_ : Int32) + 1) 27 dX4_gather_24 rfl rfl rfl (Nat.le_of_ble_eq_true rfl) ?_
      refine ax_goto 2 dX4_gather_27 (by decide) ?_
      exact ax_lvk ih ⟨rfl, rfl, gI (nI_1 i), trivial⟩
theorem ga0_k {o : Int32} {n k : Nat} (h : k ≠ 39) : ga0 o n p k = p k := itF_k (fun _ _ => qv_n h) n p
theorem ga1_k {a n k : Nat} (h : k ≠ 39) : ga1 a n p k = p k := itF_k (fun _ _ => qv_n h) n p
theorem ga2_k {n k : Nat} (h : k ≠ 39) : ga2 n p k = p k := itF_k (fun _ _ => ga1_k h) n p
theorem ga3_k {n k : Nat} (h : k ≠ 39) : ga3 n p k = p k := itF_k (fun _ _ => ga2_k h) n p
theorem gaM_k {o : Int32} {k : Nat} (h : k ≠ 39) : gaM p o k = p k := by
  unfold gaM
  rw [ga3_k h, ga0_k h]
def sumM (p : Nat → Nat → Int32) (s n : Nat) : Int32 := itF (fun k a => if p 39 k = 0 then a else a + p 36 (6 * s + k)) n 0
abbrev ogM (p : Nat → Nat → Int32) (s : Nat) (o : Int32) : Int32 := sumM (gaM p o) s 6
theorem m_ofGroup (hd : 1 ≤ d) (s : Nat) (o : Int32) (hs : s < 4) : ax_Met G M_X4_ofGroup d 0 0 [.ref 31, .int (nI s), .int o] (wQ q ++ (wM p l ++ r)) (.inl (some (.int (ogM p s o))), wQ q ++ (wM (gaM p o) l ++ r)) := by
  refine ax_of rfl (by decide) (Nat.le_of_ble_eq_true rfl) ?_
  refine ax_aload_n 0 1 dX4_ofGroup_0 rfl rfl rfl ?_
  refine ax_iload_n 2 2 dX4_ofGroup_1 rfl rfl rfl ?_
  refine ax_cVv 5 dX4_ofGroup_2 rfl ml_X4_106 (m_gather (d := d - 1) o) rfl (by omega) rfl rfl (Nat.le_of_ble_eq_true rfl) ?_
  refine ax_iconst (v := 0) 6 dX4_ofGroup_5 rfl (by decide) ?_
  refine ax_istore_n 3 7 dX4_ofGroup_6 rfl rfl (Nat.le_of_ble_eq_true rfl) ?_
  refine ax_iconst (v := 0) 8 dX4_ofGroup_7 rfl (by decide) ?_
  refine ax_istore 10 dX4_ofGroup_8 rfl (Nat.le_of_ble_eq_true rfl) ?_
  unfold ogM
  generalize gaM p o = p1
  refine ax_lvk (ax_down (P := fun i => ax_Ex G M_X4_ofGroup d 0 0 10 [(0, .ref 31), (1, .int (nI s)), (3, .int (sumM p1 s i)), (4, .int (nI i))] [] (wQ q ++ (wM p1 l ++ r)) (.inl (some (.int (sumM p1 s 6))), wQ q ++ (wM p1 l ++ r))) (n := 6) ?_ (fun i hi ih => ?_) 0 (Nat.zero_le _)) ⟨rfl, rfl, rfl, rfl, trivial⟩
  · refine ax_iload 12 dX4_ofGroup_10 rfl rfl ?_
    refine ax_bipush (v := 6) 14 dX4_ofGroup_12 rfl (by decide) ?_
    refine ax_icmp_ge 52 17 dX4_ofGroup_14 (by decide) rfl (fun c => ?_) (fun c => ?_)
    · refine ax_iload_n 3 53 dX4_ofGroup_52 rfl rfl rfl ?_
      exact ax_iret dX4_ofGroup_53 rfl rfl
    · exact absurd (by decide) c
  · refine ax_iload 12 dX4_ofGroup_10 rfl rfl ?_
    refine ax_bipush (v := 6) 14 dX4_ofGroup_12 rfl (by decide) ?_
    refine ax_icmp_ge 52 17 dX4_ofGroup_14 (by decide) rfl (fun c => ?_) (fun c => ?_)
    · exact absurd c (nI_ge hi (by decide))
    · refine ax_aload_n 0 18 dX4_ofGroup_17 rfl rfl rfl ?_
      refine ax_getf 21 dX4_ofGroup_18 rfl fl_X4_32 rfl rfl ?_
      refine ax_iload 23 dX4_ofGroup_21 rfl rfl ?_
      refine ax_zaldN 24 dX4_ofGroup_23 rfl rfl rfl (by omega) (by decide) ?_
      refine ax_if_eq 44 27 dX4_ofGroup_24 (by decide) rfl (fun c2 => ?_) (fun c2 => ?_)
      · refine ax_iload_n 3 45 dX4_ofGroup_44 rfl rfl rfl ?_
        refine ax_istore_n 3 46 dX4_ofGroup_45 rfl rfl (Nat.le_of_ble_eq_true rfl) ?_
        refine ax_iinc (v := (_ : Int32) + 1) 49 dX4_ofGroup_46 rfl rfl rfl (Nat.le_of_ble_eq_true rfl) ?_
        refine ax_goto 10 dX4_ofGroup_49 (by decide) ?_
        exact ax_lvk ih ⟨rfl, rfl, gI (by simp only [sumM, itF_s]; rw [if_pos c2]), gI (nI_1 i), trivial⟩
      · refine ax_iload_n 3 28 dX4_ofGroup_27 rfl rfl rfl ?_
        refine ax_aload_n 0 29 dX4_ofGroup_28 rfl rfl rfl ?_
        refine ax_getf 32 dX4_ofGroup_29 rfl fl_X4_22 rfl rfl ?_
        refine ax_bipush (v := 6) 34 dX4_ofGroup_32 rfl (by decide) ?_
        refine ax_iload_n 1 35 dX4_ofGroup_34 rfl rfl rfl ?_
        refine ax_imul 36 dX4_ofGroup_35 rfl ?_
        refine ax_iload 38 dX4_ofGroup_36 rfl rfl ?_
        refine ax_iadd 39 dX4_ofGroup_38 rfl ?_
        refine ax_ialdN 40 dX4_ofGroup_39 rfl rfl (ix6' s i) (by omega) (by decide) ?_
        refine ax_iadd 41 dX4_ofGroup_40 rfl ?_
        refine ax_goto 45 dX4_ofGroup_41 (by decide) ?_
        refine ax_istore_n 3 46 dX4_ofGroup_45 rfl rfl (Nat.le_of_ble_eq_true rfl) ?_
        refine ax_iinc (v := (_ : Int32) + 1) 49 dX4_ofGroup_46 rfl rfl rfl (Nat.le_of_ble_eq_true rfl) ?_
        refine ax_goto 10 dX4_ofGroup_49 (by decide) ?_
        exact ax_lvk ih ⟨rfl, rfl, gI (by simp only [sumM, itF_s]; rw [if_neg c2]), gI (nI_1 i), trivial⟩
/-- fits: whether all is well so far, and the state -/
def ft1 (s : Nat) (cap : Int32) (k : Nat) (z : Bool × (Nat → Nat → Int32)) : Bool × (Nat → Nat → Int32) :=
  if z.1 = true then (decide (ogM z.2 s (nI k) ≤ cap), gaM z.2 (nI k)) else z
def ftM (s : Nat) (cap : Int32) (n : Nat) (p : Nat → Nat → Int32) : Bool × (Nat → Nat → Int32) := itF (ft1 s cap) n (true, p)
theorem ftM_k {s : Nat} {cap : Int32} {k : Nat} (h : k ≠ 39) : ∀ n : Nat, (ftM s cap n p).2 k = p k
  | 0 => rfl
  | n + 1 => by
    have ih := ftM_k (s := s) (cap := cap) h n
    unfold ftM at ih ⊢
    rw [itF_s]
    unfold ft1
    split
    · exact (gaM_k h).trans ih
    · exact ih
theorem ftM_s {s : Nat} {cap : Int32} {n : Nat} : ftM s cap (n + 1) p = ft1 s cap n (ftM s cap n p) := rfl
theorem m_fits (hd : 2 ≤ d) (s : Nat) (cap : Int32) (hs : s < 4) : ax_Met G M_X4_fits d 0 0 [.ref 31, .int (nI s), .int cap] (wQ q ++ (wM p l ++ r)) (.inl (some (.int (bI (ftM s cap 6 p).1))), wQ q ++ (wM (ftM s cap 6 p).2 l ++ r)) := by
  refine ax_of rfl (by decide) (Nat.le_of_ble_eq_true rfl) ?_
  refine ax_iconst (v := 1) 1 dX4_fits_0 rfl (by decide) ?_
  refine ax_istore_n 3 2 dX4_fits_1 rfl rfl (Nat.le_of_ble_eq_true rfl) ?_
  refine ax_iconst (v := 0) 3 dX4_fits_2 rfl (by decide) ?_
  refine ax_istore 5 dX4_fits_3 rfl (Nat.le_of_ble_eq_true rfl) ?_
  refine ax_lvk (ax_down (P := fun i => ax_Ex G M_X4_fits d 0 0 5 [(0, .ref 31), (1, .int (nI s)), (2, .int cap), (3, .int (bI (ftM s cap i p).1)), (4, .int (nI i))] [] (wQ q ++ (wM (ftM s cap i p).2 l ++ r)) (.inl (some (.int (bI (ftM s cap 6 p).1))), wQ q ++ (wM (ftM s cap 6 p).2 l ++ r))) (n := 6) ?_ (fun i hi ih => ?_) 0 (Nat.zero_le _)) ⟨rfl, rfl, rfl, rfl, rfl, trivial⟩
  · generalize ftM s cap 6 p = z
    refine ax_iload 7 dX4_fits_5 rfl rfl ?_
    refine ax_bipush (v := 6) 9 dX4_fits_7 rfl (by decide) ?_
    refine ax_icmp_ge 39 12 dX4_fits_9 (by decide) rfl (fun c => ?_) (fun c => ?_)
    · refine ax_iload_n 3 40 dX4_fits_39 rfl rfl rfl ?_
      exact ax_zret dX4_fits_40 rfl (bI_nar _) rfl
    · exact absurd (by decide) c
  · generalize ftM s cap 6 p = z2 at ih ⊢
    rw [ftM_s] at ih
    revert ih
    generalize ftM s cap i p = z
    obtain ⟨z1, z3⟩ := z
    intro ih
    refine ax_iload 7 dX4_fits_5 rfl rfl ?_
    refine ax_bipush (v := 6) 9 dX4_fits_7 rfl (by decide) ?_
    refine ax_icmp_ge 39 12 dX4_fits_9 (by decide) rfl (fun c => ?_) (fun c => ?_)
    · exact absurd c (nI_ge hi (by decide))
    · refine ax_iload_n 3 13 dX4_fits_12 rfl rfl rfl ?_
      refine ax_if_eq 31 16 dX4_fits_13 (by decide) rfl (fun c2 => ?_) (fun c2 => ?_)
      · rw [show ft1 s cap i (z1, z3) = (z1, z3) from if_neg (by rw [bI_0.mp c2]; decide)] at ih
        refine ax_iconst (v := 0) 32 dX4_fits_31 rfl (by decide) ?_
        refine ax_istore_n 3 33 dX4_fits_32 rfl rfl (Nat.le_of_ble_eq_true rfl) ?_
        refine ax_iinc (v := (_ : Int32) + 1) 36 dX4_fits_33 rfl rfl rfl (Nat.le_of_ble_eq_true rfl) ?_
        refine ax_goto 5 dX4_fits_36 (by decide) ?_
        exact ax_lvk ih ⟨rfl, rfl, rfl, gI c2.symm, gI (nI_1 i), trivial⟩
      · rw [show ft1 s cap i (z1, z3) = (decide (ogM z3 s (nI i) ≤ cap), gaM z3 (nI i)) from if_pos (bI_n0.mp c2)] at ih
        refine ax_aload_n 0 17 dX4_fits_16 rfl rfl rfl ?_
        refine ax_iload_n 1 18 dX4_fits_17 rfl rfl rfl ?_
        refine ax_iload 20 dX4_fits_18 rfl rfl ?_
        refine ax_cV 23 dX4_fits_20 rfl ml_X4_110 (m_ofGroup (d := d - 1) (by omega) s (nI i) hs) rfl (by omega) rfl rfl (Nat.le_of_ble_eq_true rfl) ?_
        refine ax_iload_n 2 24 dX4_fits_23 rfl rfl rfl ?_
        refine ax_icmp_gt 31 27 dX4_fits_24 (by decide) rfl (fun c3 => ?_) (fun c3 => ?_)
        · refine ax_iconst (v := 0) 32 dX4_fits_31 rfl (by decide) ?_
          refine ax_istore_n 3 33 dX4_fits_32 rfl rfl (Nat.le_of_ble_eq_true rfl) ?_
          refine ax_iinc (v := (_ : Int32) + 1) 36 dX4_fits_33 rfl rfl rfl (Nat.le_of_ble_eq_true rfl) ?_
          refine ax_goto 5 dX4_fits_36 (by decide) ?_
          exact ax_lvk ih ⟨rfl, rfl, rfl, gI (by simp only [decide_eq_false (Int32.not_le.mpr c3)]; rfl), gI (nI_1 i), trivial⟩
        · refine ax_iconst (v := 1) 28 dX4_fits_27 rfl (by decide) ?_
          refine ax_goto 32 dX4_fits_28 (by decide) ?_
          refine ax_istore_n 3 33 dX4_fits_32 rfl rfl (Nat.le_of_ble_eq_true rfl) ?_
          refine ax_iinc (v := (_ : Int32) + 1) 36 dX4_fits_33 rfl rfl rfl (Nat.le_of_ble_eq_true rfl) ?_
          refine ax_goto 5 dX4_fits_36 (by decide) ?_
          exact ax_lvk ih ⟨rfl, rfl, rfl, gI (by simp only [decide_eq_true (Int32.not_lt.mp c3)]; rfl), gI (nI_1 i), trivial⟩
end M1
