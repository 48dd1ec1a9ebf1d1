/-! the reference: the work, allotting -/
section M3
variable {G : ax_G} {d : Nat} {q p : Nat → Nat → Int32} {l : Nat → Int64} {r : ax_W}
theorem clrM_s {y n : Nat} : clrM p y (n + 1) = cl1 y n (clrM p y n) := rfl
theorem evsM_s {y n : Nat} : evsM p y (n + 1) = wk1 y n (evsM p y n) := rfl
theorem clsM_s {y n : Nat} : clsM p y (n + 1) = closeM (clsM p y n) (24 * y + n) := rfl
theorem workM_s {n m : Nat} : workM p n (m + 1) = yM (workM p n m) n (1 + m) := rfl
theorem m24 (y : Nat) : 24 * nI y = nI (24 * y) := by rw [show (24 : Int32) = nI 24 from by decide, nI_m]
theorem m24' (y : Nat) : 24 * nI y + 24 = nI (24 * y + 24) := by rw [m24, show (24 : Int32) = nI 24 from by decide, nI_add]
theorem nI_ne1 {y : Nat} (h : y ≤ 8) (h1 : y ≠ 1) : ¬ nI y = 1 := by
  intro e
  have e2 := congrArg Int32.toInt e
  rw [nI_toInt (by omega)] at e2
  have e3 : (1 : Int32).toInt = 1 := rfl
  omega
theorem m_work1 {o : ax_O} (y : Nat) (hy : 1 ≤ y) (hy8 : y ≤ 8) (k : ax_Ex G M_X4_work d 0 0 115 [(0, .ref 31), (1, .int (nI y))] [] (wQ q ++ (wM (clrM p y 24) l ++ r)) o) : ax_Ex G M_X4_work d 0 0 10 [(0, .ref 31), (1, .int (nI y))] [] (wQ q ++ (wM p l ++ r)) o := by
  refine ax_bipush (v := 24) 12 dX4_work_10 rfl (by decide) ?_
  refine ax_iload_n 1 13 dX4_work_12 rfl rfl rfl ?_
  refine ax_imul 14 dX4_work_13 rfl ?_
  refine ax_istore_n 2 15 dX4_work_14 rfl rfl (Nat.le_of_ble_eq_true rfl) ?_
  rw [m24]
  refine ax_lvk (ax_down (P := fun j => ax_Ex G M_X4_work d 0 0 15 [(0, .ref 31), (1, .int (nI y)), (2, .int (nI (24 * y + j)))] [] (wQ q ++ (wM (clrM p y j) l ++ r)) o) (n := 24) ?_ (fun j hj ih => ?_) 0 (Nat.zero_le _)) ⟨rfl, rfl, rfl, trivial⟩
  · generalize clrM p y 24 = p1 at k ⊢
    refine ax_iload_n 2 16 dX4_work_15 rfl rfl rfl ?_
    refine ax_bipush (v := 24) 18 dX4_work_16 rfl (by decide) ?_
    refine ax_iload_n 1 19 dX4_work_18 rfl rfl rfl ?_
    refine ax_imul 20 dX4_work_19 rfl ?_
    refine ax_bipush (v := 24) 22 dX4_work_20 rfl (by decide) ?_
    refine ax_iadd 23 dX4_work_22 rfl ?_
    refine ax_icmp_ge 115 26 dX4_work_23 (by decide) rfl (fun c => ?_) (fun c => ?_)
    · exact ax_lvk k ⟨rfl, rfl, trivial⟩
    · rw [m24'] at c
      exact absurd (nI_le (Nat.le_refl _) (by omega)) c
  · rw [clrM_s] at ih
    revert ih
    generalize clrM p y j = p1
    intro ih
    refine ax_iload_n 2 16 dX4_work_15 rfl rfl rfl ?_
    refine ax_bipush (v := 24) 18 dX4_work_16 rfl (by decide) ?_
    refine ax_iload_n 1 19 dX4_work_18 rfl rfl rfl ?_
    refine ax_imul 20 dX4_work_19 rfl ?_
    refine ax_bipush (v := 24) 22 dX4_work_20 rfl (by decide) ?_
    refine ax_iadd 23 dX4_work_22 rfl ?_
    refine ax_icmp_ge 115 26 dX4_work_23 (by decide) rfl (fun c => ?_) (fun c => ?_)
    · rw [m24'] at c
      exact absurd c (nI_ge (by omega) (by omega))
    · refine ax_aload_n 0 27 dX4_work_26 rfl rfl rfl ?_
      refine ax_getf 30 dX4_work_27 rfl fl_X4_41 rfl rfl ?_
      refine ax_iload_n 2 31 dX4_work_30 rfl rfl rfl ?_
      refine ax_iconst (v := 0) 32 dX4_work_31 rfl (by decide) ?_
      refine ax_iastN 33 dX4_work_32 rfl rfl rfl (by omega) (by decide) ?_
      rw [wMs_42]
      refine ax_aload_n 0 34 dX4_work_33 rfl rfl rfl ?_
      refine ax_getf 37 dX4_work_34 rfl fl_X4_50 rfl rfl ?_
      refine ax_iload_n 2 38 dX4_work_37 rfl rfl rfl ?_
      refine ax_iconst (v := 0) 39 dX4_work_38 rfl (by decide) ?_
      refine ax_iastN 40 dX4_work_39 rfl rfl rfl (by omega) (by decide) ?_
      rw [wMs_45]
      refine ax_aload_n 0 41 dX4_work_40 rfl rfl rfl ?_
      refine ax_getf 44 dX4_work_41 rfl fl_X4_44 rfl rfl ?_
      refine ax_iload_n 2 45 dX4_work_44 rfl rfl rfl ?_
      refine ax_iload_n 1 46 dX4_work_45 rfl rfl rfl ?_
      refine ax_iconst (v := 1) 47 dX4_work_46 rfl (by decide) ?_
      refine ax_icmp_ne 54 50 dX4_work_47 (by decide) rfl (fun c1 => ?_) (fun c1 => ?_)
      · have e : y ≠ 1 := fun z => c1 (by rw [z]; decide)
        simp only [cl1, if_neg e] at ih
        refine ax_aload_n 0 55 dX4_work_54 rfl rfl rfl ?_
        refine ax_getf 58 dX4_work_55 rfl fl_X4_53 rfl rfl ?_
        refine ax_iload_n 2 59 dX4_work_58 rfl rfl rfl ?_
        refine ax_bipush (v := 24) 61 dX4_work_59 rfl (by decide) ?_
        refine ax_isub 62 dX4_work_61 rfl ?_
        refine ax_ialdN 63 dX4_work_62 rfl rfl (nI_m24 (by omega)) (by omega) (by decide) ?_
        refine ax_iastN 64 dX4_work_63 rfl rfl rfl (by omega) (by decide) ?_
        rw [wMs_43]
        refine ax_aload_n 0 65 dX4_work_64 rfl rfl rfl ?_
        refine ax_getf 68 dX4_work_65 rfl fl_X4_47 rfl rfl ?_
        refine ax_iload_n 2 69 dX4_work_68 rfl rfl rfl ?_
        refine ax_iload_n 1 70 dX4_work_69 rfl rfl rfl ?_
        refine ax_iconst (v := 1) 71 dX4_work_70 rfl (by decide) ?_
        refine ax_icmp_ne 78 74 dX4_work_71 (by decide) rfl (fun c2 => ?_) (fun c2 => ?_)
        · refine ax_aload_n 0 79 dX4_work_78 rfl rfl rfl ?_
          refine ax_getf 82 dX4_work_79 rfl fl_X4_56 rfl rfl ?_
          refine ax_iload_n 2 83 dX4_work_82 rfl rfl rfl ?_
          refine ax_bipush (v := 24) 85 dX4_work_83 rfl (by decide) ?_
          refine ax_isub 86 dX4_work_85 rfl ?_
          refine ax_ialdN 87 dX4_work_86 rfl rfl (nI_m24 (by omega)) (by omega) (by decide) ?_
          refine ax_iastN 88 dX4_work_87 rfl rfl rfl (by omega) (by decide) ?_
          rw [wMs_44]
          refine ax_aload_n 0 89 dX4_work_88 rfl rfl rfl ?_
          refine ax_getf 92 dX4_work_89 rfl fl_X4_53 rfl rfl ?_
          refine ax_iload_n 2 93 dX4_work_92 rfl rfl rfl ?_
          refine ax_iconst (v := 0) 94 dX4_work_93 rfl (by decide) ?_
          refine ax_iastN 95 dX4_work_94 rfl rfl rfl (by omega) (by decide) ?_
          rw [wMs_46]
          refine ax_aload_n 0 96 dX4_work_95 rfl rfl rfl ?_
          refine ax_getf 99 dX4_work_96 rfl fl_X4_56 rfl rfl ?_
          refine ax_iload_n 2 100 dX4_work_99 rfl rfl rfl ?_
          refine ax_iconst (v := 0) 101 dX4_work_100 rfl (by decide) ?_
          refine ax_iastN 102 dX4_work_101 rfl rfl rfl (by omega) (by decide) ?_
          rw [wMs_47]
          refine ax_aload_n 0 103 dX4_work_102 rfl rfl rfl ?_
          refine ax_getf 106 dX4_work_103 rfl fl_X4_59 rfl rfl ?_
          refine ax_iload_n 2 107 dX4_work_106 rfl rfl rfl ?_
          refine ax_iconst (v := 0) 108 dX4_work_107 rfl (by decide) ?_
          refine ax_iastN 109 dX4_work_108 rfl rfl rfl (by omega) (by decide) ?_
          rw [wMs_48]
          refine ax_iinc (v := (_ : Int32) + 1) 112 dX4_work_109 rfl rfl rfl (Nat.le_of_ble_eq_true rfl) ?_
          refine ax_goto 15 dX4_work_112 (by decide) ?_
          exact ax_lvk ih ⟨rfl, rfl, gI (nI_1 _), trivial⟩
        · exact absurd c2 c1
      · have e : y = 1 := by
          refine Classical.byContradiction fun h => nI_ne1 hy8 h c1
        simp only [cl1, if_pos e] at ih
        refine ax_iconst (v := 0) 51 dX4_work_50 rfl (by decide) ?_
        refine ax_goto 63 dX4_work_51 (by decide) ?_
        refine ax_iastN 64 dX4_work_63 rfl rfl rfl (by omega) (by decide) ?_
        rw [wMs_43]
        refine ax_aload_n 0 65 dX4_work_64 rfl rfl rfl ?_
        refine ax_getf 68 dX4_work_65 rfl fl_X4_47 rfl rfl ?_
        refine ax_iload_n 2 69 dX4_work_68 rfl rfl rfl ?_
        refine ax_iload_n 1 70 dX4_work_69 rfl rfl rfl ?_
        refine ax_iconst (v := 1) 71 dX4_work_70 rfl (by decide) ?_
        refine ax_icmp_ne 78 74 dX4_work_71 (by decide) rfl (fun c2 => ?_) (fun c2 => ?_)
        · exact absurd c1 c2
        · refine ax_iconst (v := 0) 75 dX4_work_74 rfl (by decide) ?_
          refine ax_goto 87 dX4_work_75 (by decide) ?_
          refine ax_iastN 88 dX4_work_87 rfl rfl rfl (by omega) (by decide) ?_
          rw [wMs_44]
          refine ax_aload_n 0 89 dX4_work_88 rfl rfl rfl ?_
          refine ax_getf 92 dX4_work_89 rfl fl_X4_53 rfl rfl ?_
          refine ax_iload_n 2 93 dX4_work_92 rfl rfl rfl ?_
          refine ax_iconst (v := 0) 94 dX4_work_93 rfl (by decide) ?_
          refine ax_iastN 95 dX4_work_94 rfl rfl rfl (by omega) (by decide) ?_
          rw [wMs_46]
          refine ax_aload_n 0 96 dX4_work_95 rfl rfl rfl ?_
          refine ax_getf 99 dX4_work_96 rfl fl_X4_56 rfl rfl ?_
          refine ax_iload_n 2 100 dX4_work_99 rfl rfl rfl ?_
          refine ax_iconst (v := 0) 101 dX4_work_100 rfl (by decide) ?_
          refine ax_iastN 102 dX4_work_101 rfl rfl rfl (by omega) (by decide) ?_
          rw [wMs_47]
          refine ax_aload_n 0 103 dX4_work_102 rfl rfl rfl ?_
          refine ax_getf 106 dX4_work_103 rfl fl_X4_59 rfl rfl ?_
          refine ax_iload_n 2 107 dX4_work_106 rfl rfl rfl ?_
          refine ax_iconst (v := 0) 108 dX4_work_107 rfl (by decide) ?_
          refine ax_iastN 109 dX4_work_108 rfl rfl rfl (by omega) (by decide) ?_
          rw [wMs_48]
          refine ax_iinc (v := (_ : Int32) + 1) 112 dX4_work_109 rfl rfl rfl (Nat.le_of_ble_eq_true rfl) ?_
          refine ax_goto 15 dX4_work_112 (by decide) ?_
          exact ax_lvk ih ⟨rfl, rfl, gI (nI_1 _), trivial⟩
theorem m_work2 {o : ax_O} (hd : 2 ≤ d) (y n : Nat) (hn : n ≤ 200) (hc : p 31 20 = nI n) (he : ∀ i, i < n → evOK (eP p) i) (k : ax_Ex G M_X4_work d 0 0 169 [(0, .ref 31), (1, .int (nI y))] [] (wQ q ++ (wM (evsM p y n) l ++ r)) o) : ax_Ex G M_X4_work d 0 0 115 [(0, .ref 31), (1, .int (nI y))] [] (wQ q ++ (wM p l ++ r)) o := by
  refine ax_iconst (v := 0) 116 dX4_work_115 rfl (by decide) ?_
  refine ax_istore_n 2 117 dX4_work_116 rfl rfl (Nat.le_of_ble_eq_true rfl) ?_
  refine ax_lvk (ax_down (P := fun j => ax_Ex G M_X4_work d 0 0 117 [(0, .ref 31), (1, .int (nI y)), (2, .int (nI j))] [] (wQ q ++ (wM (evsM p y j) l ++ r)) o) (n := n) ?_ (fun j hj ih => ?_) 0 (Nat.zero_le _)) ⟨rfl, rfl, rfl, trivial⟩
  · have hc2 : evsM p y n 31 20 = nI n := by rw [evsM_k rfl]; exact hc
    generalize evsM p y n = p1 at k hc2 ⊢
    refine ax_iload_n 2 118 dX4_work_117 rfl rfl rfl ?_
    refine ax_aload_n 0 119 dX4_work_118 rfl rfl rfl ?_
    refine ax_getf 122 dX4_work_119 rfl fl_X4_164 rfl rfl ?_
    rw [hc2]
    refine ax_icmp_ge 169 125 dX4_work_122 (by decide) rfl (fun c => ?_) (fun c => ?_)
    · exact ax_lvk k ⟨rfl, rfl, trivial⟩
    · exact absurd (nI_le (Nat.le_refl n) (by omega)) c
  · have hc2 : evsM p y j 31 20 = nI n := by rw [evsM_k rfl]; exact hc
    have he2 : evOK (eP (evsM p y j)) j := evOK_eq (q := eP p) (evsM_k (p := p) (y := y) (n := j) (k := 49) rfl) (evsM_k (p := p) (y := y) (n := j) (k := 50) rfl) (evsM_k (p := p) (y := y) (n := j) (k := 51) rfl) (evsM_k (p := p) (y := y) (n := j) (k := 52) rfl) (evsM_k (p := p) (y := y) (n := j) (k := 53) rfl) (he j hj)
    rw [evsM_s] at ih
    revert ih hc2 he2
    generalize evsM p y j = p1
    intro ih hc2 he2
    refine ax_iload_n 2 118 dX4_work_117 rfl rfl rfl ?_
    refine ax_aload_n 0 119 dX4_work_118 rfl rfl rfl ?_
    refine ax_getf 122 dX4_work_119 rfl fl_X4_164 rfl rfl ?_
    rw [hc2]
    refine ax_icmp_ge 169 125 dX4_work_122 (by decide) rfl (fun c => ?_) (fun c => ?_)
    · exact absurd c (nI_ge hj (by omega))
    · refine ax_aload_n 0 126 dX4_work_125 rfl rfl rfl ?_
      refine ax_getf 129 dX4_work_126 rfl fl_X4_65 rfl rfl ?_
      refine ax_iload_n 2 130 dX4_work_129 rfl rfl rfl ?_
      refine ax_ialdN 131 dX4_work_130 rfl rfl rfl (by omega) (by decide) ?_
      refine ax_iload_n 1 132 dX4_work_131 rfl rfl rfl ?_
      refine ax_icmp_eq 138 135 dX4_work_132 (by decide) rfl (fun c1 => ?_) (fun c1 => ?_)
      · have hw : wk1 y j p1 = (if mayM p1 j = true then actM (qv p1 57 j (bI (mayM p1 j))) j else qv p1 57 j (bI (mayM p1 j))) := if_pos c1
        rw [hw] at ih
        refine ax_aload_n 0 139 dX4_work_138 rfl rfl rfl ?_
        refine ax_getf 142 dX4_work_139 rfl fl_X4_86 rfl rfl ?_
        refine ax_iload_n 2 143 dX4_work_142 rfl rfl rfl ?_
        refine ax_aload_n 0 144 dX4_work_143 rfl rfl rfl ?_
        refine ax_iload_n 2 145 dX4_work_144 rfl rfl rfl ?_
        refine ax_cV 148 dX4_work_145 rfl ml_X4_167 (m_may (d := d - 1) (by omega) j (by omega) he2) rfl (by omega) rfl rfl (Nat.le_of_ble_eq_true rfl) ?_
        refine ax_zastN 149 dX4_work_148 rfl rfl rfl (by omega) (by decide) (bI_vp _) ?_
        rw [wMs_57]
        refine ax_aload_n 0 150 dX4_work_149 rfl rfl rfl ?_
        refine ax_getf 153 dX4_work_150 rfl fl_X4_86 rfl rfl ?_
        refine ax_iload_n 2 154 dX4_work_153 rfl rfl rfl ?_
        refine ax_zaldN 155 dX4_work_154 rfl rfl rfl (by omega) (by decide) ?_
        rw [show qw p1 57 (upd (p1 57) j (bI (mayM p1 j))) 57 j = bI (mayM p1 j) by rw [qw_s, pk_us]]
        refine ax_if_eq 163 158 dX4_work_155 (by decide) rfl (fun c2 => ?_) (fun c2 => ?_)
        · rw [if_neg (by rw [bI_0.mp c2]; decide)] at ih
          refine ax_iinc (v := (_ : Int32) + 1) 166 dX4_work_163 rfl rfl rfl (Nat.le_of_ble_eq_true rfl) ?_
          refine ax_goto 117 dX4_work_166 (by decide) ?_
          exact ax_lvk ih ⟨rfl, rfl, gI (nI_1 _), trivial⟩
        · rw [if_pos (bI_n0.mp c2)] at ih
          refine ax_aload_n 0 159 dX4_work_158 rfl rfl rfl ?_
          refine ax_iload_n 2 160 dX4_work_159 rfl rfl rfl ?_
          refine ax_cVv 163 dX4_work_160 rfl ml_X4_170 (m_act (d := d - 1) (by omega) j (by omega) he2) rfl (by omega) rfl rfl (Nat.le_of_ble_eq_true rfl) ?_
          refine ax_iinc (v := (_ : Int32) + 1) 166 dX4_work_163 rfl rfl rfl (Nat.le_of_ble_eq_true rfl) ?_
          refine ax_goto 117 dX4_work_166 (by decide) ?_
          exact ax_lvk ih ⟨rfl, rfl, gI (nI_1 _), trivial⟩
      · rw [show wk1 y j p1 = p1 from if_neg c1] at ih
        refine ax_goto 163 dX4_work_135 (by decide) ?_
        refine ax_iinc (v := (_ : Int32) + 1) 166 dX4_work_163 rfl rfl rfl (Nat.le_of_ble_eq_true rfl) ?_
        refine ax_goto 117 dX4_work_166 (by decide) ?_
        exact ax_lvk ih ⟨rfl, rfl, gI (nI_1 _), trivial⟩
theorem m_work3 {o : ax_O} (hd : 2 ≤ d) (y : Nat) (hy8 : y ≤ 8) (k : ax_Ex G M_X4_work d 0 0 211 [(0, .ref 31), (1, .int (nI y))] [] (wQ q ++ (wM (if opM p y = true then clsM p y 24 else p) l ++ r)) o) : ax_Ex G M_X4_work d 0 0 169 [(0, .ref 31), (1, .int (nI y))] [] (wQ q ++ (wM p l ++ r)) o := by
  refine ax_bipush (v := 24) 171 dX4_work_169 rfl (by decide) ?_
  refine ax_iload_n 1 172 dX4_work_171 rfl rfl rfl ?_
  refine ax_imul 173 dX4_work_172 rfl ?_
  refine ax_istore_n 2 174 dX4_work_173 rfl rfl (Nat.le_of_ble_eq_true rfl) ?_
  rw [m24]
  by_cases ho : opM p y = true
  · rw [if_pos ho] at k
    refine ax_lvk (ax_down (P := fun j => ax_Ex G M_X4_work d 0 0 174 [(0, .ref 31), (1, .int (nI y)), (2, .int (nI (24 * y + j)))] [] (wQ q ++ (wM (clsM p y j) l ++ r)) o) (n := 24) ?_ (fun j hj ih => ?_) 0 (Nat.zero_le _)) ⟨rfl, rfl, rfl, trivial⟩
    · generalize clsM p y 24 = p1 at k ⊢
      refine ax_iload_n 2 175 dX4_work_174 rfl rfl rfl ?_
      refine ax_bipush (v := 24) 177 dX4_work_175 rfl (by decide) ?_
      refine ax_iload_n 1 178 dX4_work_177 rfl rfl rfl ?_
      refine ax_imul 179 dX4_work_178 rfl ?_
      refine ax_bipush (v := 24) 181 dX4_work_179 rfl (by decide) ?_
      refine ax_iadd 182 dX4_work_181 rfl ?_
      refine ax_icmp_ge 211 185 dX4_work_182 (by decide) rfl (fun c => ?_) (fun c => ?_)
      · exact ax_lvk k ⟨rfl, rfl, trivial⟩
      · rw [m24'] at c
        exact absurd (nI_le (Nat.le_refl _) (by omega)) c
    · have ho2 : opM (clsM p y j) y = true := by
        unfold opM
        rw [clsM_k rfl]
        exact ho
      rw [clsM_s] at ih
      revert ih ho2
      generalize clsM p y j = p1
      intro ih ho2
      refine ax_iload_n 2 175 dX4_work_174 rfl rfl rfl ?_
      refine ax_bipush (v := 24) 177 dX4_work_175 rfl (by decide) ?_
      refine ax_iload_n 1 178 dX4_work_177 rfl rfl rfl ?_
      refine ax_imul 179 dX4_work_178 rfl ?_
      refine ax_bipush (v := 24) 181 dX4_work_179 rfl (by decide) ?_
      refine ax_iadd 182 dX4_work_181 rfl ?_
      refine ax_icmp_ge 211 185 dX4_work_182 (by decide) rfl (fun c => ?_) (fun c => ?_)
      · rw [m24'] at c
        exact absurd c (nI_ge (by omega) (by omega))
      · have K : ax_Ex G M_X4_work d 0 0 200 [(0, .ref 31), (1, .int (nI y)), (2, .int (nI (24 * y + j)))] [] (wQ q ++ (wM p1 l ++ r)) o := by
          refine ax_aload_n 0 201 dX4_work_200 rfl rfl rfl ?_
          refine ax_iload_n 2 202 dX4_work_201 rfl rfl rfl ?_
          refine ax_cVv 205 dX4_work_202 rfl ml_X4_177 (m_close (d := d - 1) (by omega) _ (by omega)) rfl (by omega) rfl rfl (Nat.le_of_ble_eq_true rfl) ?_
          refine ax_iinc (v := (_ : Int32) + 1) 208 dX4_work_205 rfl rfl rfl (Nat.le_of_ble_eq_true rfl) ?_
          refine ax_goto 174 dX4_work_208 (by decide) ?_
          exact ax_lvk ih ⟨rfl, rfl, gI (nI_1 _), trivial⟩
        refine ax_iload_n 1 186 dX4_work_185 rfl rfl rfl ?_
        refine ax_aload_n 0 187 dX4_work_186 rfl rfl rfl ?_
        refine ax_getf 190 dX4_work_187 rfl fl_X4_141 rfl rfl ?_
        refine ax_icmp_lt 200 193 dX4_work_190 (by decide) rfl (fun c2 => ?_) (fun c2 => ?_)
        · exact ax_lvk K ⟨rfl, rfl, rfl, trivial⟩
        · refine ax_aload_n 0 194 dX4_work_193 rfl rfl rfl ?_
          refine ax_getf 197 dX4_work_194 rfl fl_X4_173 rfl rfl ?_
          refine ax_if_ne 211 200 dX4_work_197 (by decide) rfl (fun c3 => ?_) (fun c3 => ?_)
          · exact absurd ho2 (by simp [opM, c2, c3, Int32.not_lt.mp c2])
          · exact ax_lvk K ⟨rfl, rfl, rfl, trivial⟩
  · rw [if_neg ho] at k
    refine ax_iload_n 2 175 dX4_work_174 rfl rfl rfl ?_
    refine ax_bipush (v := 24) 177 dX4_work_175 rfl (by decide) ?_
    refine ax_iload_n 1 178 dX4_work_177 rfl rfl rfl ?_
    refine ax_imul 179 dX4_work_178 rfl ?_
    refine ax_bipush (v := 24) 181 dX4_work_179 rfl (by decide) ?_
    refine ax_iadd 182 dX4_work_181 rfl ?_
    refine ax_icmp_ge 211 185 dX4_work_182 (by decide) rfl (fun c => ?_) (fun c => ?_)
    · exact ax_lvk k ⟨rfl, rfl, trivial⟩
    · refine ax_iload_n 1 186 dX4_work_185 rfl rfl rfl ?_
      refine ax_aload_n 0 187 dX4_work_186 rfl rfl rfl ?_
      refine ax_getf 190 dX4_work_187 rfl fl_X4_141 rfl rfl ?_
      refine ax_icmp_lt 200 193 dX4_work_190 (by decide) rfl (fun c2 => ?_) (fun c2 => ?_)
      · exact absurd (by simp [opM, c2]) ho
      · refine ax_aload_n 0 194 dX4_work_193 rfl rfl rfl ?_
        refine ax_getf 197 dX4_work_194 rfl fl_X4_173 rfl rfl ?_
        refine ax_if_ne 211 200 dX4_work_197 (by decide) rfl (fun c3 => ?_) (fun c3 => ?_)
        · exact ax_lvk k ⟨rfl, rfl, trivial⟩
        · exact absurd (by simp [opM, c3]) ho
theorem m_work (hd : 2 ≤ d) (n m : Nat) (hn : n ≤ 200) (hc : p 31 20 = nI n) (hm : m ≤ 8) (hy : p 31 9 = nI m) (he : ∀ i, i < n → evOK (eP p) i) : ax_Met G M_X4_work d 0 0 [.ref 31] (wQ q ++ (wM p l ++ r)) (.inl none, wQ q ++ (wM (workM p n m) l ++ r)) := by
  refine ax_of rfl (by decide) (Nat.le_of_ble_eq_true rfl) ?_
  refine ax_iconst (v := 1) 1 dX4_work_0 rfl (by decide) ?_
  refine ax_istore_n 1 2 dX4_work_1 rfl rfl (Nat.le_of_ble_eq_true rfl) ?_
  refine ax_lvk (ax_down (P := fun j => ax_Ex G M_X4_work d 0 0 2 [(0, .ref 31), (1, .int (nI (1 + j)))] [] (wQ q ++ (wM (workM p n j) l ++ r)) (.inl none, wQ q ++ (wM (workM p n m) l ++ r))) (n := m) ?_ (fun j hj ih => ?_) 0 (Nat.zero_le _)) ⟨rfl, rfl, trivial⟩
  · have hy2 : workM p n m 31 9 = nI m := by rw [workM_k rfl]; exact hy
    generalize workM p n m = p1 at hy2 ⊢
    refine ax_iload_n 1 3 dX4_work_2 rfl rfl rfl ?_
    refine ax_aload_n 0 4 dX4_work_3 rfl rfl rfl ?_
    refine ax_getf 7 dX4_work_4 rfl fl_X4_141 rfl rfl ?_
    rw [hy2]
    refine ax_icmp_gt 217 10 dX4_work_7 (by decide) rfl (fun c => ?_) (fun c => ?_)
    · exact ax_vret dX4_work_217 rfl rfl
    · exact absurd (nI_lt (show m < 1 + m by omega) (by omega)) c
  · have hy2 : workM p n j 31 9 = nI m := by rw [workM_k rfl]; exact hy
    have hc2 : workM p n j 31 20 = nI n := by rw [workM_k rfl]; exact hc
    have he2 : ∀ i, i < n → evOK (eP (workM p n j)) i := fun i hi => evOK_eq (q := eP p) (workM_k (p := p) (n := n) (m := j) (k := 49) rfl) (workM_k (p := p) (n := n) (m := j) (k := 50) rfl) (workM_k (p := p) (n := n) (m := j) (k := 51) rfl) (workM_k (p := p) (n := n) (m := j) (k := 52) rfl) (workM_k (p := p) (n := n) (m := j) (k := 53) rfl) (he i hi)
    rw [workM_s] at ih
    revert ih hy2 hc2 he2
    generalize workM p n m = p2
    generalize workM p n j = p1
    intro ih hy2 hc2 he2
    refine ax_iload_n 1 3 dX4_work_2 rfl rfl rfl ?_
    refine ax_aload_n 0 4 dX4_work_3 rfl rfl rfl ?_
    refine ax_getf 7 dX4_work_4 rfl fl_X4_141 rfl rfl ?_
    rw [hy2]
    refine ax_icmp_gt 217 10 dX4_work_7 (by decide) rfl (fun c => ?_) (fun c => ?_)
    · exact absurd c (nI_nlt (show 1 + j ≤ m by omega) (by omega))
    · refine ax_lvk (m_work1 (1 + j) (by omega) (by omega) ?_) ⟨rfl, rfl, trivial⟩
      have hc3 : clrM p1 (1 + j) 24 31 20 = nI n := by rw [clrM_k rfl]; exact hc2
      have he3 : ∀ i, i < n → evOK (eP (clrM p1 (1 + j) 24)) i := fun i hi => evOK_eq (q := eP p1) (clrM_k (p := p1) (y := 1 + j) (n := 24) (k := 49) rfl) (clrM_k (p := p1) (y := 1 + j) (n := 24) (k := 50) rfl) (clrM_k (p := p1) (y := 1 + j) (n := 24) (k := 51) rfl) (clrM_k (p := p1) (y := 1 + j) (n := 24) (k := 52) rfl) (clrM_k (p := p1) (y := 1 + j) (n := 24) (k := 53) rfl) (he2 i hi)
      refine m_work2 hd (1 + j) n hn hc3 he3 ?_
      refine m_work3 hd (1 + j) (by omega) ?_
      unfold yM at ih
      revert ih
      generalize evsM (clrM p1 (1 + j) 24) (1 + j) n = p3
      intro ih
      revert ih
      generalize (if opM p3 (1 + j) = true then clsM p3 (1 + j) 24 else p3) = p4
      intro ih
      refine ax_iinc (v := (_ : Int32) + 1) 214 dX4_work_211 rfl rfl rfl (Nat.le_of_ble_eq_true rfl) ?_
      refine ax_goto 2 dX4_work_214 (by decide) ?_
      exact ax_lvk ih ⟨rfl, gI (nI_1 _), trivial⟩
theorem m_put (hd : 3 ≤ d) (n m : Nat) (hn : n < 200) (hc : p 31 20 = nI n) (hm : m ≤ 8) (hy : p 31 9 = nI m) (he : ∀ i, i < n + 1 → evOK (eP p) i) : ax_Met G M_X4_put d 0 0 [.ref 31] (wQ q ++ (wM p l ++ r)) (.inl (some (.int (nI n))), wQ q ++ (wM (workM (qv p 31 20 (nI (n + 1))) (n + 1) m) l ++ r)) := by
  refine ax_of rfl (by decide) (Nat.le_of_ble_eq_true rfl) ?_
  refine ax_aload_n 0 1 dX4_put_0 rfl rfl rfl ?_
  refine ax_dup 2 dX4_put_1 rfl rfl ?_
  refine ax_getf 5 dX4_put_2 rfl fl_X4_164 rfl rfl ?_
  refine ax_iconst (v := 1) 6 dX4_put_5 rfl (by decide) ?_
  refine ax_iadd 7 dX4_put_6 rfl ?_
  refine ax_putf 10 dX4_put_7 rfl fp_X4_164 rfl rfl rfl (Nat.le_of_ble_eq_true rfl) ?_
  rw [wMp_31_20]
  rw [hc, nI_1]
  refine ax_aload_n 0 11 dX4_put_10 rfl rfl rfl ?_
  refine ax_cVv 14 dX4_put_11 rfl ml_X4_184 (m_work (d := d - 1) (by omega) (n + 1) m (by omega) rfl hm hy he) rfl (by omega) rfl rfl (Nat.le_of_ble_eq_true rfl) ?_
  refine ax_aload_n 0 15 dX4_put_14 rfl rfl rfl ?_
  refine ax_getf 18 dX4_put_15 rfl fl_X4_164 rfl rfl ?_
  rw [workM_k rfl]
  refine ax_iconst (v := 1) 19 dX4_put_18 rfl (by decide) ?_
  refine ax_isub 20 dX4_put_19 rfl ?_
  exact ax_iret dX4_put_20 rfl (by rw [show qv p 31 20 (nI (n + 1)) 31 20 = nI (n + 1) from rfl, show nI (n + 1) - 1 = nI n by rw [show (1 : Int32) = nI 1 from by decide, pk_sub (by omega)]; rfl])
/-! allotting -/
abbrev ax_S4 : Type := (Nat → Nat → Int32) × (Nat → Int64) × Int64 × Int64
def am1 (lim : Int32) (y s v : Nat) (z : ax_S4) : ax_S4 :=
  let e := lim.toInt64 * (z.1 37 (6 * s + v)).toInt64
  (qv z.1 41 (24 * y + 4 * v + s) (e / 1000000).toInt32, vp_updL z.2.1 v (e - e / 1000000 * 1000000), z.2.2.1 + (z.1 37 (6 * s + v)).toInt64, z.2.2.2 + e / 1000000)
def amS (lim : Int32) (y s n : Nat) (p : Nat → Nat → Int32) (l : Nat → Int64) : ax_S4 := itF (am1 lim y s) n (p, l, 0, 0)
def grM (l : Nat → Int64) (n : Nat) : Nat := itF (fun v b => if l (v + 1) ≤ l b then b else v + 1) n 0
theorem grM_lt (l : Nat → Int64) : ∀ n : Nat, grM l n < n + 1
  | 0 => Nat.zero_lt_one
  | n + 1 => by
    have h := grM_lt l n
    unfold grM at h ⊢
    rw [itF_s]
    by_cases c : l (n + 1) ≤ l (itF (fun v b => if l (v + 1) ≤ l b then b else v + 1) n 0)
    · rw [if_pos c]; omega
    · rw [if_neg c]; omega
abbrev ax_S2 : Type := (Nat → Nat → Int32) × (Nat → Int64)
def am2 (y s : Nat) (z : ax_S2) : ax_S2 :=
  (qv z.1 41 (24 * y + 4 * grM z.2 5 + s) (z.1 41 (24 * y + 4 * grM z.2 5 + s) + 1), vp_updL z.2 (grM z.2 5) (-1))
def cntL (x y : Int64) : Nat := (y.toInt - x.toInt).toNat
theorem cntL_lt {x y : Int64} (h : ¬ y ≤ x) : cntL x y = cntL (x + 1) y + 1 := by
  have h1 : x.toInt < y.toInt := Int64.lt_iff_toInt_lt.mp (Int64.not_le.mp h)
  have h2 : y.toInt < 2 ^ 63 := y.toInt_lt
  have h3 : -2 ^ 63 ≤ x.toInt := x.le_toInt
  have h4 : (x + 1).toInt = x.toInt + 1 := by
    rw [Int64.toInt_add]
    show (x.toInt + 1).bmod (2 ^ 64) = x.toInt + 1
    rw [Int.bmod_eq_of_le (by omega) (by omega)]
  unfold cntL
  rw [h4]
  omega
theorem cntL_ge {x y : Int64} (h : y ≤ x) : cntL x y = 0 := by
  have h1 : y.toInt ≤ x.toInt := Int64.le_iff_toInt_le.mp h
  unfold cntL
  omega
def allotM (p : Nat → Nat → Int32) (l : Nat → Int64) (lim : Int32) (y s : Nat) : ax_S2 :=
  let z := amS lim y s 6 p l
  itF (fun _ => am2 y s) (cntL z.2.2.2 (lim.toInt64 * z.2.2.1 / 1000000)) (z.1, z.2.1)
theorem amS_s {lim : Int32} {y s n : Nat} : amS lim y s (n + 1) p l = am1 lim y s n (amS lim y s n p l) := rfl
theorem m_allot (hd : 1 ≤ d) (y s : Nat) (lim : Int32) (hy : y ≤ 8) (hs : s < 4) : ax_Met G M_X4_allot d 0 0 [.ref 31, .int (nI y), .int (nI s), .int lim] (wQ q ++ (wM p l ++ r)) (.inl none, wQ q ++ (wM (allotM p l lim y s).1 (allotM p l lim y s).2 ++ r)) := by
  refine ax_of rfl (by decide) (Nat.le_of_ble_eq_true rfl) ?_
  unfold allotM
  dsimp only
  refine ax_lconst (v := 0) 1 dX4_allot_0 rfl (by decide) ?_
  refine ax_lstore 3 dX4_allot_1 rfl (Nat.le_of_ble_eq_true rfl) ?_
  refine ax_lconst (v := 0) 4 dX4_allot_3 rfl (by decide) ?_
  refine ax_lstore 6 dX4_allot_4 rfl (Nat.le_of_ble_eq_true rfl) ?_
  refine ax_iconst (v := 0) 7 dX4_allot_6 rfl (by decide) ?_
  refine ax_istore 9 dX4_allot_7 rfl (Nat.le_of_ble_eq_true rfl) ?_
  refine ax_lvk (ax_down (P := fun v => ax_Ex G M_X4_allot d 0 0 9 [(0, .ref 31), (1, .int (nI y)), (2, .int (nI s)), (3, .int lim), (4, .long (amS lim y s v p l).2.2.1), (6, .long (amS lim y s v p l).2.2.2), (8, .int (nI v))] [] (wQ q ++ (wM (amS lim y s v p l).1 (amS lim y s v p l).2.1 ++ r)) (.inl none, wQ q ++ (wM (itF (fun _ => am2 y s) (cntL (amS lim y s 6 p l).2.2.2 (lim.toInt64 * (amS lim y s 6 p l).2.2.1 / 1000000)) ((amS lim y s 6 p l).1, (amS lim y s 6 p l).2.1)).1 (itF (fun _ => am2 y s) (cntL (amS lim y s 6 p l).2.2.2 (lim.toInt64 * (amS lim y s 6 p l).2.2.1 / 1000000)) ((amS lim y s 6 p l).1, (amS lim y s 6 p l).2.1)).2 ++ r))) (n := 6) ?_ (fun v hv ih => ?_) 0 (Nat.zero_le _)) ⟨rfl, rfl, rfl, rfl, rfl, rfl, rfl, trivial⟩
  · generalize amS lim y s 6 p l = z
    obtain ⟨p1, l1, z1, z2⟩ := z
    dsimp only
    refine ax_iload 11 dX4_allot_9 rfl rfl ?_
    refine ax_bipush (v := 6) 13 dX4_allot_11 rfl (by decide) ?_
    refine ax_icmp_ge 101 16 dX4_allot_13 (by decide) rfl (fun c => ?_) (fun c => ?_)
    · refine ax_iload_n 3 102 dX4_allot_101 rfl rfl rfl ?_
      refine ax_i2l 103 dX4_allot_102 rfl ?_
      refine ax_lload 105 dX4_allot_103 rfl rfl ?_
      refine ax_lmul 106 dX4_allot_105 rfl ?_
      refine ax_ldc2 (v := 1000000) 109 dX4_allot_106 rfl cj_X4_120 ?_
      refine ax_ldiv 110 dX4_allot_109 rfl (by decide) ?_
      refine ax_lstore 112 dX4_allot_110 rfl (Nat.le_of_ble_eq_true rfl) ?_
      generalize lim.toInt64 * z1 / 1000000 = tot
      have key : ∀ (n : Nat) (x : Int64) (p' : Nat → Nat → Int32) (l' : Nat → Int64), cntL x tot = n → ax_Ex G M_X4_allot d 0 0 112 [(0, .ref 31), (1, .int (nI y)), (2, .int (nI s)), (6, .long x), (8, .long tot)] [] (wQ q ++ (wM p' l' ++ r)) (.inl none, wQ q ++ (wM (itF (fun _ => am2 y s) n (p', l')).1 (itF (fun _ => am2 y s) n (p', l')).2 ++ r)) := by
        intro n
        induction n with
        | zero =>
          intro x p' l' hc
          refine ax_lload 114 dX4_allot_112 rfl rfl ?_
          refine ax_lload 116 dX4_allot_114 rfl rfl ?_
          refine ax_lcmp 117 dX4_allot_116 rfl ?_
          refine ax_if_ge 201 120 dX4_allot_117 (by decide) rfl (fun c2 => ?_) (fun c2 => ?_)
          · exact ax_vret dX4_allot_201 rfl rfl
          · have c3 : ¬ tot ≤ x := fun h => c2 ((lg_cmp_ge _ _).mpr h)
            rw [cntL_lt c3] at hc
            cases hc
        | succ n ih =>
          intro x p' l' hc
          refine ax_lload 114 dX4_allot_112 rfl rfl ?_
          refine ax_lload 116 dX4_allot_114 rfl rfl ?_
          refine ax_lcmp 117 dX4_allot_116 rfl ?_
          refine ax_if_ge 201 120 dX4_allot_117 (by decide) rfl (fun c2 => ?_) (fun c2 => ?_)
          · rw [cntL_ge ((lg_cmp_ge _ _).mp c2)] at hc
            cases hc
          · have c3 : ¬ tot ≤ x := fun h => c2 ((lg_cmp_ge _ _).mpr h)
            have hg := grM_lt l' 5
            rw [show itF (fun _ => am2 y s) (n + 1) (p', l') = itF (fun _ => am2 y s) n (am2 y s (p', l')) from (itF_comm n (p', l')).symm]
            have hn : cntL (x + 1) tot = n := by
              have h9 := cntL_lt c3
              omega
            have ih := ih (x + 1) (am2 y s (p', l')).1 (am2 y s (p', l')).2 hn
            generalize (itF (fun _ => am2 y s) n (am2 y s (p', l'))) = zz at ih ⊢
            refine ax_iconst (v := 0) 121 dX4_allot_120 rfl (by decide) ?_
            refine ax_istore 123 dX4_allot_121 rfl (Nat.le_of_ble_eq_true rfl) ?_
            refine ax_iconst (v := 1) 124 dX4_allot_123 rfl (by decide) ?_
            refine ax_istore 126 dX4_allot_124 rfl (Nat.le_of_ble_eq_true rfl) ?_
            refine ax_lvk (ax_down (P := fun j => ax_Ex G M_X4_allot d 0 0 126 [(0, .ref 31), (1, .int (nI y)), (2, .int (nI s)), (6, .long x), (8, .long tot), (10, .int (nI (grM l' j))), (11, .int (nI (j + 1)))] [] (wQ q ++ (wM p' l' ++ r)) (.inl none, wQ q ++ (wM zz.1 zz.2 ++ r))) (n := 5) ?_ (fun j hj jh => ?_) 0 (Nat.zero_le _)) ⟨rfl, rfl, rfl, rfl, rfl, rfl, rfl, trivial⟩
            · refine ax_iload 128 dX4_allot_126 rfl rfl ?_
              refine ax_bipush (v := 6) 130 dX4_allot_128 rfl (by decide) ?_
              refine ax_icmp_ge 166 133 dX4_allot_130 (by decide) rfl (fun c4 => ?_) (fun c4 => ?_)
              · refine ax_aload_n 0 167 dX4_allot_166 rfl rfl rfl ?_
                refine ax_getf 170 dX4_allot_167 rfl fl_X4_38 rfl rfl ?_
                refine ax_iload_n 1 171 dX4_allot_170 rfl rfl rfl ?_
                refine ax_iload 173 dX4_allot_171 rfl rfl ?_
                refine ax_iload_n 2 174 dX4_allot_173 rfl rfl rfl ?_
                refine ax_cS 177 dX4_allot_174 rfl ml_X4_147 (m_at (d := d - 1) y (grM l' 5) s) (by omega) rfl rfl (Nat.le_of_ble_eq_true rfl) ?_
                refine ax_dup2 178 dX4_allot_177 rfl rfl rfl ?_
                refine ax_ialdN 179 dX4_allot_178 rfl rfl rfl (by omega) (by decide) ?_
                refine ax_iconst (v := 1) 180 dX4_allot_179 rfl (by decide) ?_
                refine ax_iadd 181 dX4_allot_180 rfl ?_
                refine ax_iastN 182 dX4_allot_181 rfl rfl rfl (by omega) (by decide) ?_
                rw [wMs_41]
                refine ax_aload_n 0 183 dX4_allot_182 rfl rfl rfl ?_
                refine ax_getf 186 dX4_allot_183 rfl fl_X4_89 rfl rfl ?_
                refine ax_iload 188 dX4_allot_186 rfl rfl ?_
                refine ax_ldc2 (v := (-1)) 191 dX4_allot_188 rfl cj_X4_151 ?_
                refine ax_lastN 192 dX4_allot_191 rfl rfl rfl (by omega) (by decide) ?_
                rw [wMs_58]
                refine ax_lload 194 dX4_allot_192 rfl rfl ?_
                refine ax_lconst (v := 1) 195 dX4_allot_194 rfl (by decide) ?_
                refine ax_ladd 196 dX4_allot_195 rfl ?_
                refine ax_lstore 198 dX4_allot_196 rfl (Nat.le_of_ble_eq_true rfl) ?_
                refine ax_goto 112 dX4_allot_198 (by decide) ?_
                exact ax_lvk ih ⟨rfl, rfl, rfl, rfl, rfl, trivial⟩
              · exact absurd (by decide) c4
            · have hb := grM_lt l' j
              refine ax_iload 128 dX4_allot_126 rfl rfl ?_
              refine ax_bipush (v := 6) 130 dX4_allot_128 rfl (by decide) ?_
              refine ax_icmp_ge 166 133 dX4_allot_130 (by decide) rfl (fun c4 => ?_) (fun c4 => ?_)
              · exact absurd c4 (nI_ge (a := j + 1) (b := 6) (by omega) (by decide))
              · refine ax_aload_n 0 134 dX4_allot_133 rfl rfl rfl ?_
                refine ax_getf 137 dX4_allot_134 rfl fl_X4_89 rfl rfl ?_
                refine ax_iload 139 dX4_allot_137 rfl rfl ?_
                refine ax_laldN 140 dX4_allot_139 rfl rfl rfl (by omega) (by decide) ?_
                refine ax_aload_n 0 141 dX4_allot_140 rfl rfl rfl ?_
                refine ax_getf 144 dX4_allot_141 rfl fl_X4_89 rfl rfl ?_
                refine ax_iload 146 dX4_allot_144 rfl rfl ?_
                refine ax_laldN 147 dX4_allot_146 rfl rfl rfl (by omega) (by decide) ?_
                refine ax_lcmp 148 dX4_allot_147 rfl ?_
                refine ax_if_le 156 151 dX4_allot_148 (by decide) rfl (fun c5 => ?_) (fun c5 => ?_)
                · refine ax_iload 158 dX4_allot_156 rfl rfl ?_
                  refine ax_istore 160 dX4_allot_158 rfl (Nat.le_of_ble_eq_true rfl) ?_
                  refine ax_iinc (v := (_ : Int32) + 1) 163 dX4_allot_160 rfl rfl rfl (Nat.le_of_ble_eq_true rfl) ?_
                  refine ax_goto 126 dX4_allot_163 (by decide) ?_
                  exact ax_lvk jh ⟨rfl, rfl, rfl, rfl, rfl, gI (by have c6 := (lg_cmp_le _ _).mp c5; unfold grM at c6 ⊢; rw [itF_s, if_pos c6]), gI (nI_1 (j + 1)), trivial⟩
                · refine ax_iload 153 dX4_allot_151 rfl rfl ?_
                  refine ax_goto 158 dX4_allot_153 (by decide) ?_
                  refine ax_istore 160 dX4_allot_158 rfl (Nat.le_of_ble_eq_true rfl) ?_
                  refine ax_iinc (v := (_ : Int32) + 1) 163 dX4_allot_160 rfl rfl rfl (Nat.le_of_ble_eq_true rfl) ?_
                  refine ax_goto 126 dX4_allot_163 (by decide) ?_
                  exact ax_lvk jh ⟨rfl, rfl, rfl, rfl, rfl, gI (by have c6 := fun h => c5 ((lg_cmp_le _ _).mpr h); unfold grM at c6 ⊢; rw [itF_s, if_neg c6]), gI (nI_1 (j + 1)), trivial⟩
      exact ax_lvk (key _ _ _ _ rfl) ⟨rfl, rfl, rfl, rfl, rfl, trivial⟩
    · exact absurd (by decide) c
  · revert ih
    rw [amS_s]
    generalize (wQ q ++ (wM (itF (fun _ => am2 y s) (cntL (amS lim y s 6 p l).2.2.2 (lim.toInt64 * (amS lim y s 6 p l).2.2.1 / 1000000)) ((amS lim y s 6 p l).1, (amS lim y s 6 p l).2.1)).1 (itF (fun _ => am2 y s) (cntL (amS lim y s 6 p l).2.2.2 (lim.toInt64 * (amS lim y s 6 p l).2.2.1 / 1000000)) ((amS lim y s 6 p l).1, (amS lim y s 6 p l).2.1)).2 ++ r)) = w2
    generalize amS lim y s v p l = z
    obtain ⟨p1, l1, z1, z2⟩ := z
    intro ih
    refine ax_iload 11 dX4_allot_9 rfl rfl ?_
    refine ax_bipush (v := 6) 13 dX4_allot_11 rfl (by decide) ?_
    refine ax_icmp_ge 101 16 dX4_allot_13 (by decide) rfl (fun c => ?_) (fun c => ?_)
    · exact absurd c (nI_ge hv (by decide))
    · refine ax_iload_n 3 17 dX4_allot_16 rfl rfl rfl ?_
      refine ax_i2l 18 dX4_allot_17 rfl ?_
      refine ax_aload_n 0 19 dX4_allot_18 rfl rfl rfl ?_
      refine ax_getf 22 dX4_allot_19 rfl fl_X4_25 rfl rfl ?_
      refine ax_bipush (v := 6) 24 dX4_allot_22 rfl (by decide) ?_
      refine ax_iload_n 2 25 dX4_allot_24 rfl rfl rfl ?_
      refine ax_imul 26 dX4_allot_25 rfl ?_
      refine ax_iload 28 dX4_allot_26 rfl rfl ?_
      refine ax_iadd 29 dX4_allot_28 rfl ?_
      refine ax_ialdN 30 dX4_allot_29 rfl rfl (ix6' s v) (by omega) (by decide) ?_
      refine ax_i2l 31 dX4_allot_30 rfl ?_
      refine ax_lmul 32 dX4_allot_31 rfl ?_
      refine ax_lstore 34 dX4_allot_32 rfl (Nat.le_of_ble_eq_true rfl) ?_
      refine ax_lload 36 dX4_allot_34 rfl rfl ?_
      refine ax_aload_n 0 37 dX4_allot_36 rfl rfl rfl ?_
      refine ax_getf 40 dX4_allot_37 rfl fl_X4_25 rfl rfl ?_
      refine ax_bipush (v := 6) 42 dX4_allot_40 rfl (by decide) ?_
      refine ax_iload_n 2 43 dX4_allot_42 rfl rfl rfl ?_
      refine ax_imul 44 dX4_allot_43 rfl ?_
      refine ax_iload 46 dX4_allot_44 rfl rfl ?_
      refine ax_iadd 47 dX4_allot_46 rfl ?_
      refine ax_ialdN 48 dX4_allot_47 rfl rfl (ix6' s v) (by omega) (by decide) ?_
      refine ax_i2l 49 dX4_allot_48 rfl ?_
      refine ax_ladd 50 dX4_allot_49 rfl ?_
      refine ax_lstore 52 dX4_allot_50 rfl (Nat.le_of_ble_eq_true rfl) ?_
      refine ax_aload_n 0 53 dX4_allot_52 rfl rfl rfl ?_
      refine ax_getf 56 dX4_allot_53 rfl fl_X4_38 rfl rfl ?_
      refine ax_iload_n 1 57 dX4_allot_56 rfl rfl rfl ?_
      refine ax_iload 59 dX4_allot_57 rfl rfl ?_
      refine ax_iload_n 2 60 dX4_allot_59 rfl rfl rfl ?_
      refine ax_cS 63 dX4_allot_60 rfl ml_X4_147 (m_at (d := d - 1) y v s) (by omega) rfl rfl (Nat.le_of_ble_eq_true rfl) ?_
      refine ax_lload 65 dX4_allot_63 rfl rfl ?_
      refine ax_ldc2 (v := 1000000) 68 dX4_allot_65 rfl cj_X4_120 ?_
      refine ax_ldiv 69 dX4_allot_68 rfl (by decide) ?_
      refine ax_l2i 70 dX4_allot_69 rfl ?_
      refine ax_iastN 71 dX4_allot_70 rfl rfl rfl (by omega) (by decide) ?_
      rw [wMs_41]
      refine ax_aload_n 0 72 dX4_allot_71 rfl rfl rfl ?_
      refine ax_getf 75 dX4_allot_72 rfl fl_X4_89 rfl rfl ?_
      refine ax_iload 77 dX4_allot_75 rfl rfl ?_
      refine ax_lload 79 dX4_allot_77 rfl rfl ?_
      refine ax_ldc2 (v := 1000000) 82 dX4_allot_79 rfl cj_X4_120 ?_
      refine ax_lrem 83 dX4_allot_82 rfl (by decide) ?_
      refine ax_lastN 84 dX4_allot_83 rfl rfl rfl (by omega) (by decide) ?_
      rw [wMs_58]
      refine ax_lload 86 dX4_allot_84 rfl rfl ?_
      refine ax_lload 88 dX4_allot_86 rfl rfl ?_
      refine ax_ldc2 (v := 1000000) 91 dX4_allot_88 rfl cj_X4_120 ?_
      refine ax_ldiv 92 dX4_allot_91 rfl (by decide) ?_
      refine ax_ladd 93 dX4_allot_92 rfl ?_
      refine ax_lstore 95 dX4_allot_93 rfl (Nat.le_of_ble_eq_true rfl) ?_
      refine ax_iinc (v := (_ : Int32) + 1) 98 dX4_allot_95 rfl rfl rfl (Nat.le_of_ble_eq_true rfl) ?_
      refine ax_goto 9 dX4_allot_98 (by decide) ?_
      exact ax_lvk ih ⟨rfl, rfl, rfl, rfl, rfl, rfl, gI (nI_1 v), trivial⟩
end M3
