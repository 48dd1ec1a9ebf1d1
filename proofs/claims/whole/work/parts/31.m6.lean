section M6
variable {G : ax_G} {d : Nat} {q p : Nat → Nat → Int32} {l : Nat → Int64} {r : ax_W}
theorem gLa_t {y v s f kg : Int32} (h : gLa p y v s f kg = true) : isW y 1 (p 31 9) = true ∧ isW v 0 5 = true ∧ isW s 0 3 = true ∧ isW f 0 2 = true ∧ isW kg 1 1000000 = true := by
  simp [gLa] at h
  exact h
theorem laG_t {y v s f kg : Int32} (h : laG p y v s f kg = true) : gLa p y v s f kg = true := by
  simp [laG] at h
  exact h.1
theorem gEq_t {v f t kg : Int32} (h : gEq v f t kg = true) : isW v 0 5 = true ∧ isW f 0 3 = true ∧ isW t 0 3 = true ∧ ¬ f = t ∧ isW kg 1 1000 = true := by
  simp [gEq] at h
  exact h
theorem m_land (hd : 5 ≤ d) (n m : Nat) (y v s f kg u : Int32) (hn : n ≤ 200) (hc : p 31 20 = nI n) (hm : m ≤ 8) (hy : p 31 9 = nI m) (he : ∀ i, i < n → evOK (eP p) i) : ax_Met G M_X4_land d 0 0 [.ref 31, .int y, .int v, .int s, .int f, .int kg, .int u] (wQ q ++ (wM p l ++ r)) (.inl (some (.int (mLand p n m y v s f kg u).1)), wQ q ++ (wM (mLand p n m y v s f kg u).2 l ++ r)) := by
  refine ax_of rfl (by decide) (Nat.le_of_ble_eq_true rfl) ?_
  refine ax_jn 53 (gLa p y v s f kg) (fun K => ?_) ?_
  · refine ax_aload_n 0 1 dX4_land_0 rfl rfl rfl ?_
    refine ax_iload_n 1 2 dX4_land_1 rfl rfl rfl ?_
    refine ax_cV 5 dX4_land_2 rfl ml_X4_195 (m_wasYear (d := d - 1) (by omega) _) rfl (by omega) rfl rfl (Nat.le_of_ble_eq_true rfl) ?_
    refine ax_if_eq 52 8 dX4_land_5 (by decide) rfl (fun c5 => ?_) (fun c5 => ?_)
    · refine ax_iconst (v := 0) 53 dX4_land_52 rfl (by decide) ?_
      exact ax_bx K (by simp [bI_0, bI_1, gLa, bI_0.mp c5])
    · refine ax_iload_n 2 9 dX4_land_8 rfl rfl rfl ?_
      refine ax_cS 12 dX4_land_9 rfl ml_X4_134 (m_isOne (d := d - 1) (by omega) _) (by omega) rfl rfl (Nat.le_of_ble_eq_true rfl) ?_
      refine ax_if_eq 52 15 dX4_land_12 (by decide) rfl (fun c12 => ?_) (fun c12 => ?_)
      · refine ax_iconst (v := 0) 53 dX4_land_52 rfl (by decide) ?_
        exact ax_bx K (by simp [bI_0, bI_1, gLa, bI_n0.mp c5, bI_0.mp c12])
      · refine ax_iload_n 3 16 dX4_land_15 rfl rfl rfl ?_
        refine ax_cS 19 dX4_land_16 rfl ml_X4_114 (m_isSpecies (d := d - 1) (by omega) _) (by omega) rfl rfl (Nat.le_of_ble_eq_true rfl) ?_
        refine ax_if_eq 52 22 dX4_land_19 (by decide) rfl (fun c19 => ?_) (fun c19 => ?_)
        · refine ax_iconst (v := 0) 53 dX4_land_52 rfl (by decide) ?_
          exact ax_bx K (by simp [bI_0, bI_1, gLa, bI_n0.mp c5, bI_n0.mp c12, bI_0.mp c19])
        · refine ax_iload 24 dX4_land_22 rfl rfl ?_
          refine ax_i2l 25 dX4_land_24 rfl ?_
          refine ax_lconst (v := 0) 26 dX4_land_25 rfl (by decide) ?_
          refine ax_ldc2 (v := 2) 29 dX4_land_26 rfl cj_X4_130 ?_
          refine ax_cS 32 dX4_land_29 rfl ml_X4_100 (m_in (d := d - 1) _ 0 2 0 2 rfl rfl) (by omega) rfl rfl (Nat.le_of_ble_eq_true rfl) ?_
          refine ax_if_eq 52 35 dX4_land_32 (by decide) rfl (fun c32 => ?_) (fun c32 => ?_)
          · refine ax_iconst (v := 0) 53 dX4_land_52 rfl (by decide) ?_
            exact ax_bx K (by simp [bI_0, bI_1, gLa, bI_n0.mp c5, bI_n0.mp c12, bI_n0.mp c19, bI_0.mp c32])
          · refine ax_iload 37 dX4_land_35 rfl rfl ?_
            refine ax_i2l 38 dX4_land_37 rfl ?_
            refine ax_lconst (v := 1) 39 dX4_land_38 rfl (by decide) ?_
            refine ax_ldc2 (v := 1000000) 42 dX4_land_39 rfl cj_X4_120 ?_
            refine ax_cS 45 dX4_land_42 rfl ml_X4_100 (m_in (d := d - 1) _ 1 1000000 1 1000000 rfl rfl) (by omega) rfl rfl (Nat.le_of_ble_eq_true rfl) ?_
            refine ax_if_eq 52 48 dX4_land_45 (by decide) rfl (fun c45 => ?_) (fun c45 => ?_)
            · refine ax_iconst (v := 0) 53 dX4_land_52 rfl (by decide) ?_
              exact ax_bx K (by simp [bI_0, bI_1, gLa, bI_n0.mp c5, bI_n0.mp c12, bI_n0.mp c19, bI_n0.mp c32, bI_0.mp c45])
            · refine ax_iconst (v := 1) 49 dX4_land_48 rfl (by decide) ?_
              refine ax_goto 53 dX4_land_49 (by decide) ?_
              exact ax_bx K (by simp [bI_0, bI_1, gLa, bI_n0.mp c5, bI_n0.mp c12, bI_n0.mp c19, bI_n0.mp c32, bI_n0.mp c45])
  refine ax_istore 55 dX4_land_53 rfl (Nat.le_of_ble_eq_true rfl) ?_
  refine ax_jn 79 (laG p y v s f kg) (fun K => ?_) ?_
  · refine ax_iload 57 dX4_land_55 rfl rfl ?_
    refine ax_if_eq 78 60 dX4_land_57 (by decide) rfl (fun c => ?_) (fun c => ?_)
    · refine ax_iconst (v := 0) 79 dX4_land_78 rfl (by decide) ?_
      exact ax_bx K (by simp [bI_0, laG, bI_0.mp c])
    · obtain ⟨g1, g2, g3, g4, -⟩ := gLa_t (bI_n0.mp c)
      obtain ⟨j, hj, e, ej⟩ := w3 g3
      obtain ⟨k, hk, e2, ek⟩ := w2 g4
      subst e e2
      refine ax_aload_n 0 61 dX4_land_60 rfl rfl rfl ?_
      refine ax_getf 64 dX4_land_61 rfl fl_X4_16 rfl rfl ?_
      refine ax_iconst (v := 3) 65 dX4_land_64 rfl (by decide) ?_
      refine ax_iload_n 3 66 dX4_land_65 rfl rfl rfl ?_
      refine ax_imul 67 dX4_land_66 rfl ?_
      refine ax_iload 69 dX4_land_67 rfl rfl ?_
      refine ax_iadd 70 dX4_land_69 rfl ?_
      refine ax_ialdN 71 dX4_land_70 rfl rfl (ix3' j k) (by omega) (by decide) ?_
      refine ax_if_le 78 74 dX4_land_71 (by decide) rfl (fun c2 => ?_) (fun c2 => ?_)
      · refine ax_iconst (v := 0) 79 dX4_land_78 rfl (by decide) ?_
        exact ax_bx K (by simp [bI_0, laG, ej, ek, Int32.not_lt.mpr c2])
      · refine ax_iconst (v := 1) 75 dX4_land_74 rfl (by decide) ?_
        refine ax_goto 79 dX4_land_75 (by decide) ?_
        exact ax_bx K (by simp [bI_1, laG, ej, ek, bI_n0.mp c, Int32.not_le.mp c2])
  · refine ax_istore 81 dX4_land_79 rfl (Nat.le_of_ble_eq_true rfl) ?_
    refine ax_aload_n 0 82 dX4_land_81 rfl rfl rfl ?_
    refine ax_jn 92 (!laG p y v s f kg) (fun K => ?_) ?_
    · refine ax_iload 84 dX4_land_82 rfl rfl ?_
      refine ax_if_ne 91 87 dX4_land_84 (by decide) rfl (fun c84 => ?_) (fun c84 => ?_)
      · refine ax_iconst (v := 0) 92 dX4_land_91 rfl (by decide) ?_
        exact ax_bx K (by simp [bI_0, bI_1, bI_n0.mp c84])
      · refine ax_iconst (v := 1) 88 dX4_land_87 rfl (by decide) ?_
        refine ax_goto 92 dX4_land_88 (by decide) ?_
        exact ax_bx K (by simp [bI_0, bI_1, bI_0.mp c84])
    refine ax_jn 120 (laB p y v s f kg) (fun K => ?_) ?_
    · refine ax_iload 94 dX4_land_92 rfl rfl ?_
      refine ax_if_eq 119 97 dX4_land_94 (by decide) rfl (fun c => ?_) (fun c => ?_)
      · refine ax_iconst (v := 0) 120 dX4_land_119 rfl (by decide) ?_
        exact ax_bx K (by simp [bI_0, laB, bI_0.mp c])
      · obtain ⟨g1, g2, g3, g4, -⟩ := gLa_t (laG_t (bI_n0.mp c))
        rw [hy] at g1
        obtain ⟨j, hj, hj2, e, ej⟩ := wy hm g1
        subst e
        refine ax_aload_n 0 98 dX4_land_97 rfl rfl rfl ?_
        refine ax_iload_n 1 99 dX4_land_98 rfl rfl rfl ?_
        refine ax_cV 102 dX4_land_99 rfl ml_X4_198 (m_takes (d := d - 1) j (by omega)) rfl (by omega) rfl rfl (Nat.le_of_ble_eq_true rfl) ?_
        refine ax_if_eq 115 105 dX4_land_102 (by decide) rfl (fun c2 => ?_) (fun c2 => ?_)
        · refine ax_iconst (v := 1) 116 dX4_land_115 rfl (by decide) ?_
          refine ax_goto 120 dX4_land_116 (by decide) ?_
          exact ax_bx K (by simp [bI_1, laB, ej, bI_n0.mp c, bI_0.mp c2])
        · refine ax_aload_n 0 106 dX4_land_105 rfl rfl rfl ?_
          refine ax_getf 109 dX4_land_106 rfl fl_X4_164 rfl rfl ?_
          refine ax_sipush (v := 200) 112 dX4_land_109 rfl (by decide) ?_
          refine ax_icmp_ne 119 115 dX4_land_112 (by decide) rfl (fun c3 => ?_) (fun c3 => ?_)
          · refine ax_iconst (v := 0) 120 dX4_land_119 rfl (by decide) ?_
            exact ax_bx K (by simp [bI_0, laB, ej, bI_n0.mp c2, c3])
          · refine ax_iconst (v := 1) 116 dX4_land_115 rfl (by decide) ?_
            refine ax_goto 120 dX4_land_116 (by decide) ?_
            exact ax_bx K (by simp [bI_1, laB, ej, bI_n0.mp c, c3])
    · refine ax_cV 123 dX4_land_120 rfl ml_X4_126 (m_refuse (d := d - 1) _ _) rfl (by omega) rfl rfl (Nat.le_of_ble_eq_true rfl) ?_
      refine ax_if_eq 128 126 dX4_land_123 (by decide) rfl (fun c => ?_) (fun c => ?_)
      · rw [show mLand p n m y v s f kg u = _ from if_neg (by rw [bI_0.mp c]; decide)]
        have gg := nn_f (or_f (bI_0.mp c)).1
        obtain ⟨g1, g2, g3, g4, -⟩ := gLa_t (laG_t gg)
        have g5 := (or_f (bI_0.mp c)).2
        rw [hy] at g1
        obtain ⟨j, hj, hj2, e, ej⟩ := wy hm g1
        obtain ⟨k, hk, e2, ek⟩ := w5 g2
        obtain ⟨k3, hk3, e3, ek3⟩ := w3 g3
        obtain ⟨k4, hk4, e4, ek4⟩ := w2 g4
        subst e e2 e3 e4
        have hn2 : n < 200 := by
          refine Classical.byContradiction fun z => ?_
          have h9 : p 31 20 = 200 := by rw [hc, show n = 200 by omega]; decide
          simp [laB, gg, h9] at g5
        generalize rfM (!laG p (nI j) (nI k) (nI k3) (nI k4) kg) (laB p (nI j) (nI k) (nI k3) (nI k4) kg) = x0
        rw [ek3, ek4, show p 34 (3 * k3 + k4) = qv p 31 0 x0 34 (3 * k3 + k4) from rfl]
        have hc1 : qv p 31 0 x0 31 20 = nI n := hc
        have hy1 : qv p 31 0 x0 31 9 = nI m := hy
        have he1 : ∀ i, i < n → evOK (eP (qv p 31 0 x0)) i := he
        revert hc1 hy1 he1
        generalize qv p 31 0 x0 = p1
        intro hc1 hy1 he1
        refine ax_iload 130 dX4_land_128 rfl rfl ?_
        refine ax_i2l 131 dX4_land_130 rfl ?_
        refine ax_aload_n 0 132 dX4_land_131 rfl rfl rfl ?_
        refine ax_getf 135 dX4_land_132 rfl fl_X4_16 rfl rfl ?_
        refine ax_iconst (v := 3) 136 dX4_land_135 rfl (by decide) ?_
        refine ax_iload_n 3 137 dX4_land_136 rfl rfl rfl ?_
        refine ax_imul 138 dX4_land_137 rfl ?_
        refine ax_iload 140 dX4_land_138 rfl rfl ?_
        refine ax_iadd 141 dX4_land_140 rfl ?_
        refine ax_ialdN 142 dX4_land_141 rfl rfl (ix3' k3 k4) (by omega) (by decide) ?_
        refine ax_i2l 143 dX4_land_142 rfl ?_
        refine ax_lmul 144 dX4_land_143 rfl ?_
        refine ax_ldc2 (v := 500) 147 dX4_land_144 rfl cj_X4_201 ?_
        refine ax_ladd 148 dX4_land_147 rfl ?_
        refine ax_ldc2 (v := 1000) 151 dX4_land_148 rfl cj_X4_118 ?_
        refine ax_ldiv 152 dX4_land_151 rfl (by decide) ?_
        refine ax_lstore 154 dX4_land_152 rfl (Nat.le_of_ble_eq_true rfl) ?_
        have KK : ax_Ex G M_X4_land d 0 0 172 [(0, .ref 31), (1, .int (nI j)), (2, .int (nI k)), (3, .int (nI k3)), (5, .int kg)] [.long (laW kg (p1 34 (3 * k3 + k4)) u)] (wQ q ++ (wM p1 l ++ r)) (.inl (some (.int (nI n))), wQ q ++ (wM (workM (qv (tellM p1 n 1 (nI j) (nI k) (nI k3) 0 kg (laW kg (p1 34 (3 * k3 + k4)) u).toInt32) 31 20 (nI (n + 1))) (n + 1) m) l ++ r)) := by
          generalize laW kg (p1 34 (3 * k3 + k4)) u = x
          have he2 := evA (p := p1) (n := n) (y := j) (v := k) (s := k3) (x := 1) (f := 0) (g := kg) (h := x.toInt32) he1 (by omega) hk hk3 (fun z => absurd z (by decide)) (fun _ z => absurd rfl z)
          have hc2 : tellM p1 n 1 (nI j) (nI k) (nI k3) 0 kg x.toInt32 31 20 = nI n := hc1
          have hy2 : tellM p1 n 1 (nI j) (nI k) (nI k3) 0 kg x.toInt32 31 9 = nI m := hy1
          refine ax_lstore 174 dX4_land_172 rfl (Nat.le_of_ble_eq_true rfl) ?_
          refine ax_aload_n 0 175 dX4_land_174 rfl rfl rfl ?_
          refine ax_iconst (v := 1) 176 dX4_land_175 rfl (by decide) ?_
          refine ax_iload_n 1 177 dX4_land_176 rfl rfl rfl ?_
          refine ax_iload_n 2 178 dX4_land_177 rfl rfl rfl ?_
          refine ax_iload_n 3 179 dX4_land_178 rfl rfl rfl ?_
          refine ax_iconst (v := 0) 180 dX4_land_179 rfl (by decide) ?_
          refine ax_iload 182 dX4_land_180 rfl rfl ?_
          refine ax_lload 184 dX4_land_182 rfl rfl ?_
          refine ax_l2i 185 dX4_land_184 rfl ?_
          refine ax_cVv 188 dX4_land_185 rfl ml_X4_187 (m_tell (d := d - 1) n 1 (nI j) (nI k) (nI k3) 0 kg x.toInt32 hn2 hc1) rfl (by omega) rfl rfl (Nat.le_of_ble_eq_true rfl) ?_
          refine ax_aload_n 0 189 dX4_land_188 rfl rfl rfl ?_
          refine ax_cV 192 dX4_land_189 rfl ml_X4_191 (m_put (d := d - 1) (by omega) n m hn2 hc2 hm hy2 he2) rfl (by omega) rfl rfl (Nat.le_of_ble_eq_true rfl) ?_
          exact ax_iret dX4_land_192 rfl rfl
        refine ax_iload 156 dX4_land_154 rfl rfl ?_
        refine ax_if_eq 170 159 dX4_land_156 (by decide) rfl (fun c2 => ?_) (fun c2 => ?_)
        · refine ax_lload 172 dX4_land_170 rfl rfl ?_
          rw [show laW kg (p1 34 (3 * k3 + k4)) u = liM kg (p1 34 (3 * k3 + k4)) from if_pos c2] at KK ⊢
          exact ax_lvk KK ⟨rfl, rfl, rfl, rfl, rfl, trivial⟩
        · refine ax_lload 161 dX4_land_159 rfl rfl ?_
          refine ax_lconst (v := 1) 162 dX4_land_161 rfl (by decide) ?_
          refine ax_ladd 163 dX4_land_162 rfl ?_
          refine ax_ldc2 (v := 2) 166 dX4_land_163 rfl cj_X4_130 ?_
          refine ax_ldiv 167 dX4_land_166 rfl (by decide) ?_
          refine ax_goto 172 dX4_land_167 (by decide) ?_
          rw [show laW kg (p1 34 (3 * k3 + k4)) u = (liM kg (p1 34 (3 * k3 + k4)) + 1) / 2 from if_neg c2] at KK ⊢
          exact ax_lvk KK ⟨rfl, rfl, rfl, rfl, rfl, trivial⟩
      · rw [show mLand p n m y v s f kg u = _ from if_pos (bI_n0.mp c)]
        refine ax_iconst (v := 0) 127 dX4_land_126 rfl (by decide) ?_
        exact ax_iret dX4_land_127 rfl rfl
theorem m_equivalent (hd : 5 ≤ d) (n m : Nat) (v f t kg : Int32) (hn : n ≤ 200) (hc : p 31 20 = nI n) (hm : m ≤ 8) (hy : p 31 9 = nI m) (he : ∀ i, i < n → evOK (eP p) i) (hV : ∀ s, s < 4 → ¬ p 32 s = 0) : ax_Met G M_X4_equivalent d 0 0 [.ref 31, .int v, .int f, .int t, .int kg] (wQ q ++ (wM p l ++ r)) (.inl (some (.int (mEquivalent p n m v f t kg).1)), wQ q ++ (wM (mEquivalent p n m v f t kg).2 l ++ r)) := by
  refine ax_of rfl (by decide) (Nat.le_of_ble_eq_true rfl) ?_
  refine ax_jn 44 (gEq v f t kg) (fun K => ?_) ?_
  · refine ax_iload_n 1 1 dX4_equivalent_0 rfl rfl rfl ?_
    refine ax_cS 4 dX4_equivalent_1 rfl ml_X4_134 (m_isOne (d := d - 1) (by omega) _) (by omega) rfl rfl (Nat.le_of_ble_eq_true rfl) ?_
    refine ax_if_eq 43 7 dX4_equivalent_4 (by decide) rfl (fun c4 => ?_) (fun c4 => ?_)
    · refine ax_iconst (v := 0) 44 dX4_equivalent_43 rfl (by decide) ?_
      exact ax_bx K (by simp [bI_0, bI_1, gEq, bI_0.mp c4])
    · refine ax_iload_n 2 8 dX4_equivalent_7 rfl rfl rfl ?_
      refine ax_cS 11 dX4_equivalent_8 rfl ml_X4_114 (m_isSpecies (d := d - 1) (by omega) _) (by omega) rfl rfl (Nat.le_of_ble_eq_true rfl) ?_
      refine ax_if_eq 43 14 dX4_equivalent_11 (by decide) rfl (fun c11 => ?_) (fun c11 => ?_)
      · refine ax_iconst (v := 0) 44 dX4_equivalent_43 rfl (by decide) ?_
        exact ax_bx K (by simp [bI_0, bI_1, gEq, bI_n0.mp c4, bI_0.mp c11])
      · refine ax_iload_n 3 15 dX4_equivalent_14 rfl rfl rfl ?_
        refine ax_cS 18 dX4_equivalent_15 rfl ml_X4_114 (m_isSpecies (d := d - 1) (by omega) _) (by omega) rfl rfl (Nat.le_of_ble_eq_true rfl) ?_
        refine ax_if_eq 43 21 dX4_equivalent_18 (by decide) rfl (fun c18 => ?_) (fun c18 => ?_)
        · refine ax_iconst (v := 0) 44 dX4_equivalent_43 rfl (by decide) ?_
          exact ax_bx K (by simp [bI_0, bI_1, gEq, bI_n0.mp c4, bI_n0.mp c11, bI_0.mp c18])
        · refine ax_iload_n 2 22 dX4_equivalent_21 rfl rfl rfl ?_
          refine ax_iload_n 3 23 dX4_equivalent_22 rfl rfl rfl ?_
          refine ax_icmp_eq 43 26 dX4_equivalent_23 (by decide) rfl (fun c23 => ?_) (fun c23 => ?_)
          · refine ax_iconst (v := 0) 44 dX4_equivalent_43 rfl (by decide) ?_
            exact ax_bx K (by simp [bI_0, bI_1, gEq, bI_n0.mp c4, bI_n0.mp c11, bI_n0.mp c18, c23])
          · refine ax_iload 28 dX4_equivalent_26 rfl rfl ?_
            refine ax_i2l 29 dX4_equivalent_28 rfl ?_
            refine ax_lconst (v := 1) 30 dX4_equivalent_29 rfl (by decide) ?_
            refine ax_ldc2 (v := 1000) 33 dX4_equivalent_30 rfl cj_X4_118 ?_
            refine ax_cS 36 dX4_equivalent_33 rfl ml_X4_100 (m_in (d := d - 1) _ 1 1000 1 1000 rfl rfl) (by omega) rfl rfl (Nat.le_of_ble_eq_true rfl) ?_
            refine ax_if_eq 43 39 dX4_equivalent_36 (by decide) rfl (fun c36 => ?_) (fun c36 => ?_)
            · refine ax_iconst (v := 0) 44 dX4_equivalent_43 rfl (by decide) ?_
              exact ax_bx K (by simp [bI_0, bI_1, gEq, bI_n0.mp c4, bI_n0.mp c11, bI_n0.mp c18, c23, bI_0.mp c36])
            · refine ax_iconst (v := 1) 40 dX4_equivalent_39 rfl (by decide) ?_
              refine ax_goto 44 dX4_equivalent_40 (by decide) ?_
              exact ax_bx K (by simp [bI_0, bI_1, gEq, bI_n0.mp c4, bI_n0.mp c11, bI_n0.mp c18, c23, bI_n0.mp c36])
  refine ax_istore 46 dX4_equivalent_44 rfl (Nat.le_of_ble_eq_true rfl) ?_
  refine ax_jn 73 (eqN p v f t kg) (fun K => ?_) ?_
  · refine ax_iload 48 dX4_equivalent_46 rfl rfl ?_
    refine ax_if_eq 72 51 dX4_equivalent_48 (by decide) rfl (fun c48 => ?_) (fun c48 => ?_)
    · refine ax_iconst (v := 0) 73 dX4_equivalent_72 rfl (by decide) ?_
      exact ax_bx K (by simp [bI_0, bI_1, eqN, ntz, bI_0.mp c48])
    · refine ax_aload_n 0 52 dX4_equivalent_51 rfl rfl rfl ?_
      refine ax_getf 55 dX4_equivalent_52 rfl fl_X4_173 rfl rfl ?_
      refine ax_if_eq 72 58 dX4_equivalent_55 (by decide) rfl (fun c55 => ?_) (fun c55 => ?_)
      · refine ax_iconst (v := 0) 73 dX4_equivalent_72 rfl (by decide) ?_
        exact ax_bx K (by simp [bI_0, bI_1, eqN, ntz, bI_n0.mp c48, c55])
      · refine ax_aload_n 0 59 dX4_equivalent_58 rfl rfl rfl ?_
        refine ax_getf 62 dX4_equivalent_59 rfl fl_X4_164 rfl rfl ?_
        refine ax_sipush (v := 200) 65 dX4_equivalent_62 rfl (by decide) ?_
        refine ax_icmp_ge 72 68 dX4_equivalent_65 (by decide) rfl (fun c65 => ?_) (fun c65 => ?_)
        · refine ax_iconst (v := 0) 73 dX4_equivalent_72 rfl (by decide) ?_
          exact ax_bx K (by simp [bI_0, bI_1, eqN, ntz, bI_n0.mp c48, c55, c65, Int32.not_lt.mpr c65])
        · refine ax_iconst (v := 1) 69 dX4_equivalent_68 rfl (by decide) ?_
          refine ax_goto 73 dX4_equivalent_69 (by decide) ?_
          exact ax_bx K (by simp [bI_0, bI_1, eqN, ntz, bI_n0.mp c48, c55, c65, Int32.not_le.mp c65])
  refine ax_istore 75 dX4_equivalent_73 rfl (Nat.le_of_ble_eq_true rfl) ?_
  have K : ∀ z : Bool × (Nat → Nat → Int32), eqZ p n m v f t kg = z → z.2 31 20 = nI n → z.2 31 9 = nI m → (z.1 = true → n < 200) → (z.1 = true → ∀ i, i < n + 1 → evOK (eP z.2) i) → ax_Ex G M_X4_equivalent d 0 0 129 [(0, .ref 31), (5, .int (bI (gEq v f t kg))), (6, .int (bI z.1))] [] (wQ q ++ (wM z.2 l ++ r)) (.inl (some (.int (mEquivalent p n m v f t kg).1)), wQ q ++ (wM (mEquivalent p n m v f t kg).2 l ++ r)) := by
    intro z hz k1 k2 k3 k4
    unfold mEquivalent
    dsimp only
    rw [hz]
    obtain ⟨z1, z2⟩ := z
    dsimp only at k1 k2 k3 k4 ⊢
    refine ax_aload_n 0 130 dX4_equivalent_129 rfl rfl rfl ?_
    refine ax_jn 140 (!gEq v f t kg) (fun K => ?_) ?_
    · refine ax_iload 132 dX4_equivalent_130 rfl rfl ?_
      refine ax_if_ne 139 135 dX4_equivalent_132 (by decide) rfl (fun c132 => ?_) (fun c132 => ?_)
      · refine ax_iconst (v := 0) 140 dX4_equivalent_139 rfl (by decide) ?_
        exact ax_bx K (by simp [bI_0, bI_1, bI_n0.mp c132])
      · refine ax_iconst (v := 1) 136 dX4_equivalent_135 rfl (by decide) ?_
        refine ax_goto 140 dX4_equivalent_136 (by decide) ?_
        exact ax_bx K (by simp [bI_0, bI_1, bI_0.mp c132])
    refine ax_jn 150 (!z1) (fun K => ?_) ?_
    · refine ax_iload 142 dX4_equivalent_140 rfl rfl ?_
      refine ax_if_ne 149 145 dX4_equivalent_142 (by decide) rfl (fun c142 => ?_) (fun c142 => ?_)
      · refine ax_iconst (v := 0) 150 dX4_equivalent_149 rfl (by decide) ?_
        exact ax_bx K (by simp [bI_0, bI_1, bI_n0.mp c142])
      · refine ax_iconst (v := 1) 146 dX4_equivalent_145 rfl (by decide) ?_
        refine ax_goto 150 dX4_equivalent_146 (by decide) ?_
        exact ax_bx K (by simp [bI_0, bI_1, bI_0.mp c142])
    refine ax_cV 153 dX4_equivalent_150 rfl ml_X4_126 (m_refuse (d := d - 1) _ _) rfl (by omega) rfl rfl (Nat.le_of_ble_eq_true rfl) ?_
    refine ax_if_eq 158 156 dX4_equivalent_153 (by decide) rfl (fun c => ?_) (fun c => ?_)
    · rw [if_neg (by rw [bI_0.mp c]; decide)]
      have hz1 := nn_f (or_f (bI_0.mp c)).2
      refine ax_aload_n 0 159 dX4_equivalent_158 rfl rfl rfl ?_
      refine ax_cV 162 dX4_equivalent_159 rfl ml_X4_191 (m_put (d := d - 1) (by omega) n m (k3 hz1) k1 hm k2 (k4 hz1)) rfl (by omega) rfl rfl (Nat.le_of_ble_eq_true rfl) ?_
      exact ax_iret dX4_equivalent_162 rfl rfl
    · rw [if_pos (bI_n0.mp c)]
      refine ax_iconst (v := 0) 157 dX4_equivalent_156 rfl (by decide) ?_
      exact ax_iret dX4_equivalent_157 rfl rfl
  refine ax_iload 77 dX4_equivalent_75 rfl rfl ?_
  refine ax_if_eq 129 80 dX4_equivalent_77 (by decide) rfl (fun c => ?_) (fun c => ?_)
  · exact ax_lvk (K (false, p) (if_neg (by rw [bI_0.mp c]; decide)) hc hy (fun z => absurd (show false = true from z) (by decide)) (fun z => absurd (show false = true from z) (by decide))) ⟨rfl, rfl, gI c, trivial⟩
  · have gg : eqN p v f t kg = true := bI_n0.mp c
    have hz : eqZ p n m v f t kg = (mayM (tellM p n 2 (nI m) v f t kg ((kg * p 32 (tN f) + p 32 (tN t) - 1) / p 32 (tN t))) n, tellM p n 2 (nI m) v f t kg ((kg * p 32 (tN f) + p 32 (tN t) - 1) / p 32 (tN t))) := if_pos gg
    have g5 : gEq v f t kg = true ∧ p 31 20 < 200 := by
      simp [eqN] at gg
      exact ⟨gg.1, gg.2.2⟩
    obtain ⟨g1, g2, g3, -⟩ := gEq_t g5.1
    have hn2 : n < 200 := by
      refine nI_lt200 hn fun z => ?_
      have h9 := g5.2
      rw [hc] at h9
      exact absurd z (Int32.not_le.mpr h9)
    obtain ⟨j, hj, e, ej⟩ := w5 g1
    obtain ⟨k, hk, e2, ek⟩ := w3 g2
    obtain ⟨k3, hk3, e3, ek3⟩ := w3 g3
    subst e e2 e3
    rw [ek, ek3] at hz
    have he2 := evA (p := p) (n := n) (y := m) (v := j) (s := k) (x := 2) (f := nI k3) (g := kg) (h := (kg * p 32 k + p 32 k3 - 1) / p 32 k3) he hm hj hk (fun z => absurd z (by decide)) (fun _ _ => ⟨k3, rfl, hk3⟩)
    have hc2 : tellM p n 2 (nI m) (nI j) (nI k) (nI k3) kg ((kg * p 32 k + p 32 k3 - 1) / p 32 k3) 31 20 = nI n := hc
    have hy2 : tellM p n 2 (nI m) (nI j) (nI k) (nI k3) kg ((kg * p 32 k + p 32 k3 - 1) / p 32 k3) 31 9 = nI m := hy
    have K := K _ hz hc2 hy2 (fun _ => hn2) (fun _ => he2)
    refine ax_aload_n 0 81 dX4_equivalent_80 rfl rfl rfl ?_
    refine ax_iconst (v := 2) 82 dX4_equivalent_81 rfl (by decide) ?_
    refine ax_aload_n 0 83 dX4_equivalent_82 rfl rfl rfl ?_
    refine ax_getf 86 dX4_equivalent_83 rfl fl_X4_141 rfl rfl ?_
    rw [hy]
    refine ax_iload_n 1 87 dX4_equivalent_86 rfl rfl rfl ?_
    refine ax_iload_n 2 88 dX4_equivalent_87 rfl rfl rfl ?_
    refine ax_iload_n 3 89 dX4_equivalent_88 rfl rfl rfl ?_
    refine ax_iload 91 dX4_equivalent_89 rfl rfl ?_
    refine ax_iload 93 dX4_equivalent_91 rfl rfl ?_
    refine ax_aload_n 0 94 dX4_equivalent_93 rfl rfl rfl ?_
    refine ax_getf 97 dX4_equivalent_94 rfl fl_X4_7 rfl rfl ?_
    refine ax_iload_n 2 98 dX4_equivalent_97 rfl rfl rfl ?_
    refine ax_ialdN 99 dX4_equivalent_98 rfl rfl rfl (by omega) (by decide) ?_
    refine ax_imul 100 dX4_equivalent_99 rfl ?_
    refine ax_aload_n 0 101 dX4_equivalent_100 rfl rfl rfl ?_
    refine ax_getf 104 dX4_equivalent_101 rfl fl_X4_7 rfl rfl ?_
    refine ax_iload_n 3 105 dX4_equivalent_104 rfl rfl rfl ?_
    refine ax_ialdN 106 dX4_equivalent_105 rfl rfl rfl (by omega) (by decide) ?_
    refine ax_iadd 107 dX4_equivalent_106 rfl ?_
    refine ax_iconst (v := 1) 108 dX4_equivalent_107 rfl (by decide) ?_
    refine ax_isub 109 dX4_equivalent_108 rfl ?_
    refine ax_aload_n 0 110 dX4_equivalent_109 rfl rfl rfl ?_
    refine ax_getf 113 dX4_equivalent_110 rfl fl_X4_7 rfl rfl ?_
    refine ax_iload_n 3 114 dX4_equivalent_113 rfl rfl rfl ?_
    refine ax_ialdN 115 dX4_equivalent_114 rfl rfl rfl (by omega) (by decide) ?_
    refine ax_idiv 116 dX4_equivalent_115 rfl (hV k3 hk3) ?_
    refine ax_cVv 119 dX4_equivalent_116 rfl ml_X4_187 (m_tell (d := d - 1) n 2 (nI m) (nI j) (nI k) (nI k3) kg ((kg * p 32 k + p 32 k3 - 1) / p 32 k3) hn2 hc) rfl (by omega) rfl rfl (Nat.le_of_ble_eq_true rfl) ?_
    generalize tellM p n 2 (nI m) (nI j) (nI k) (nI k3) kg ((kg * p 32 k + p 32 k3 - 1) / p 32 k3) = p1 at K hc2 he2 ⊢
    refine ax_aload_n 0 120 dX4_equivalent_119 rfl rfl rfl ?_
    refine ax_aload_n 0 121 dX4_equivalent_120 rfl rfl rfl ?_
    refine ax_getf 124 dX4_equivalent_121 rfl fl_X4_164 rfl rfl ?_
    rw [hc2]
    refine ax_cV 127 dX4_equivalent_124 rfl ml_X4_167 (m_may (d := d - 1) (by omega) n (by omega) (he2 n (by omega))) rfl (by omega) rfl rfl (Nat.le_of_ble_eq_true rfl) ?_
    refine ax_istore 129 dX4_equivalent_127 rfl (Nat.le_of_ble_eq_true rfl) ?_
    exact ax_lvk K ⟨rfl, rfl, rfl, trivial⟩
theorem wI {x : Int32} {n : Nat} (hn : n ≤ 200) (h : isW x 0 (nI n - 1) = true) : ∃ j : Nat, j < n ∧ x = nI j ∧ tN (nI j) = j := by
  by_cases h0 : n = 0
  · rw [h0] at h
    obtain ⟨h1, h2⟩ := isW_t.mp h
    rw [Int32.le_iff_toInt_le] at h1 h2
    have e1 : (nI 0 - 1 : Int32).toInt = -1 := by decide
    have e0 : (0 : Int32).toInt = 0 := rfl
    omega
  · rw [show nI n - 1 = nI (n - 1) by rw [show (1 : Int32) = nI 1 from by decide, pk_sub (by omega)]] at h
    obtain ⟨j, hj, e⟩ := isW_nI (n - 1) (nI_toInt (by omega)) h
    exact ⟨j, by omega, e, tN_nI (by omega)⟩
theorem m_strike (hd : 5 ≤ d) (n m : Nat) (i : Int32) (hn : n ≤ 200) (hc : p 31 20 = nI n) (hm : m ≤ 8) (hy : p 31 9 = nI m) (he : ∀ i, i < n → evOK (eP p) i) : ax_Met G M_X4_strike d 0 0 [.ref 31, .int i] (wQ q ++ (wM p l ++ r)) (.inl none, wQ q ++ (wM (mStrike p n m i) l ++ r)) := by
  refine ax_of rfl (by decide) (Nat.le_of_ble_eq_true rfl) ?_
  refine ax_iload_n 1 1 dX4_strike_0 rfl rfl rfl ?_
  refine ax_i2l 2 dX4_strike_1 rfl ?_
  refine ax_lconst (v := 0) 3 dX4_strike_2 rfl (by decide) ?_
  refine ax_aload_n 0 4 dX4_strike_3 rfl rfl rfl ?_
  refine ax_getf 7 dX4_strike_4 rfl fl_X4_164 rfl rfl ?_
  refine ax_iconst (v := 1) 8 dX4_strike_7 rfl (by decide) ?_
  refine ax_isub 9 dX4_strike_8 rfl ?_
  refine ax_i2l 10 dX4_strike_9 rfl ?_
  refine ax_cS 13 dX4_strike_10 rfl ml_X4_100 (m_in (d := d - 1) i 0 (p 31 20 - 1) 0 _ rfl rfl) (by omega) rfl rfl (Nat.le_of_ble_eq_true rfl) ?_
  refine ax_istore_n 2 14 dX4_strike_13 rfl rfl (Nat.le_of_ble_eq_true rfl) ?_
  refine ax_jn 55 (stB p i) (fun K => ?_) ?_
  · refine ax_iload_n 2 15 dX4_strike_14 rfl rfl rfl ?_
    refine ax_if_eq 54 18 dX4_strike_15 (by decide) rfl (fun c => ?_) (fun c => ?_)
    · refine ax_iconst (v := 0) 55 dX4_strike_54 rfl (by decide) ?_
      exact ax_bx K (by simp [bI_0, stB, bI_0.mp c])
    · have g := bI_n0.mp c
      rw [hc] at g
      obtain ⟨j, hj, e, ej⟩ := wI hn g
      subst e
      obtain ⟨h1, h2, -⟩ := he j hj
      have h1 : p 50 j = nI (yr (eP p) j) := h1
      refine ax_aload_n 0 19 dX4_strike_18 rfl rfl rfl ?_
      refine ax_getf 22 dX4_strike_19 rfl fl_X4_62 rfl rfl ?_
      refine ax_iload_n 1 23 dX4_strike_22 rfl rfl rfl ?_
      refine ax_ialdN 24 dX4_strike_23 rfl rfl rfl (by omega) (by decide) ?_
      refine ax_iconst (v := 1) 25 dX4_strike_24 rfl (by decide) ?_
      refine ax_icmp_ne 54 28 dX4_strike_25 (by decide) rfl (fun c2 => ?_) (fun c2 => ?_)
      · refine ax_iconst (v := 0) 55 dX4_strike_54 rfl (by decide) ?_
        exact ax_bx K (by simp [bI_0, stB, ej, c2])
      · refine ax_aload_n 0 29 dX4_strike_28 rfl rfl rfl ?_
        refine ax_getf 32 dX4_strike_29 rfl fl_X4_83 rfl rfl ?_
        refine ax_iload_n 1 33 dX4_strike_32 rfl rfl rfl ?_
        refine ax_zaldN 34 dX4_strike_33 rfl rfl rfl (by omega) (by decide) ?_
        refine ax_if_ne 54 37 dX4_strike_34 (by decide) rfl (fun c3 => ?_) (fun c3 => ?_)
        · refine ax_iconst (v := 0) 55 dX4_strike_54 rfl (by decide) ?_
          exact ax_bx K (by simp [bI_0, stB, ej, c3])
        · refine ax_aload_n 0 38 dX4_strike_37 rfl rfl rfl ?_
          refine ax_aload_n 0 39 dX4_strike_38 rfl rfl rfl ?_
          refine ax_getf 42 dX4_strike_39 rfl fl_X4_65 rfl rfl ?_
          refine ax_iload_n 1 43 dX4_strike_42 rfl rfl rfl ?_
          refine ax_ialdN 44 dX4_strike_43 rfl rfl rfl (by omega) (by decide) ?_
          rw [h1]
          refine ax_cV 47 dX4_strike_44 rfl ml_X4_198 (m_takes (d := d - 1) _ h2) rfl (by omega) rfl rfl (Nat.le_of_ble_eq_true rfl) ?_
          refine ax_if_eq 54 50 dX4_strike_47 (by decide) rfl (fun c4 => ?_) (fun c4 => ?_)
          · refine ax_iconst (v := 0) 55 dX4_strike_54 rfl (by decide) ?_
            exact ax_bx K (by simp [bI_0, stB, ej, bI_0.mp c4])
          · refine ax_iconst (v := 1) 51 dX4_strike_50 rfl (by decide) ?_
            refine ax_goto 55 dX4_strike_51 (by decide) ?_
            exact ax_bx K (by simp [bI_1, stB, ej, bI_n0.mp c4, bI_n0.mp c, c2, c3])
  · refine ax_istore_n 3 56 dX4_strike_55 rfl rfl (Nat.le_of_ble_eq_true rfl) ?_
    refine ax_aload_n 0 57 dX4_strike_56 rfl rfl rfl ?_
    refine ax_jn 66 (!isW i 0 (p 31 20 - 1)) (fun K => ?_) ?_
    · refine ax_iload_n 2 58 dX4_strike_57 rfl rfl rfl ?_
      refine ax_if_ne 65 61 dX4_strike_58 (by decide) rfl (fun c58 => ?_) (fun c58 => ?_)
      · refine ax_iconst (v := 0) 66 dX4_strike_65 rfl (by decide) ?_
        exact ax_bx K (by simp [bI_0, bI_1, bI_n0.mp c58])
      · refine ax_iconst (v := 1) 62 dX4_strike_61 rfl (by decide) ?_
        refine ax_goto 66 dX4_strike_62 (by decide) ?_
        exact ax_bx K (by simp [bI_0, bI_1, bI_0.mp c58])
    refine ax_jn 75 (!stB p i) (fun K => ?_) ?_
    · refine ax_iload_n 3 67 dX4_strike_66 rfl rfl rfl ?_
      refine ax_if_ne 74 70 dX4_strike_67 (by decide) rfl (fun c67 => ?_) (fun c67 => ?_)
      · refine ax_iconst (v := 0) 75 dX4_strike_74 rfl (by decide) ?_
        exact ax_bx K (by simp [bI_0, bI_1, bI_n0.mp c67])
      · refine ax_iconst (v := 1) 71 dX4_strike_70 rfl (by decide) ?_
        refine ax_goto 75 dX4_strike_71 (by decide) ?_
        exact ax_bx K (by simp [bI_0, bI_1, bI_0.mp c67])
    refine ax_cV 78 dX4_strike_75 rfl ml_X4_126 (m_refuse (d := d - 1) _ _) rfl (by omega) rfl rfl (Nat.le_of_ble_eq_true rfl) ?_
    refine ax_if_eq 82 81 dX4_strike_78 (by decide) rfl (fun c => ?_) (fun c => ?_)
    · rw [show mStrike p n m i = _ from if_neg (by rw [bI_0.mp c]; decide)]
      have g := nn_f (or_f (bI_0.mp c)).1
      rw [hc] at g
      obtain ⟨j, hj, e, ej⟩ := wI hn g
      subst e
      rw [ej]
      generalize rfM (!isW (nI j) 0 (p 31 20 - 1)) (!stB p (nI j)) = x0
      refine ax_aload_n 0 83 dX4_strike_82 rfl rfl rfl ?_
      refine ax_getf 86 dX4_strike_83 rfl fl_X4_83 rfl rfl ?_
      refine ax_iload_n 1 87 dX4_strike_86 rfl rfl rfl ?_
      refine ax_iconst (v := 1) 88 dX4_strike_87 rfl (by decide) ?_
      refine ax_zastN 89 dX4_strike_88 rfl rfl rfl (by omega) (by decide) (by decide) ?_
      rw [wMs_56]
      refine ax_aload_n 0 90 dX4_strike_89 rfl rfl rfl ?_
      refine ax_cVv 93 dX4_strike_90 rfl ml_X4_184 (m_work (d := d - 1) (by omega) n m hn hc hm hy he) rfl (by omega) rfl rfl (Nat.le_of_ble_eq_true rfl) ?_
      exact ax_vret dX4_strike_93 rfl rfl
    · rw [show mStrike p n m i = _ from if_pos (bI_n0.mp c)]
      exact ax_vret dX4_strike_81 rfl rfl
theorem m_reopen (hd : 5 ≤ d) (m : Nat) (y : Int32) (hm : m ≤ 8) (hy : p 31 9 = nI m) : ax_Met G M_X4_reopen d 0 0 [.ref 31, .int y] (wQ q ++ (wM p l ++ r)) (.inl none, wQ q ++ (wM (mReopen p y) l ++ r)) := by
  refine ax_of rfl (by decide) (Nat.le_of_ble_eq_true rfl) ?_
  refine ax_aload_n 0 1 dX4_reopen_0 rfl rfl rfl ?_
  refine ax_iload_n 1 2 dX4_reopen_1 rfl rfl rfl ?_
  refine ax_cV 5 dX4_reopen_2 rfl ml_X4_195 (m_wasYear (d := d - 1) (by omega) _) rfl (by omega) rfl rfl (Nat.le_of_ble_eq_true rfl) ?_
  refine ax_istore_n 2 6 dX4_reopen_5 rfl rfl (Nat.le_of_ble_eq_true rfl) ?_
  refine ax_aload_n 0 7 dX4_reopen_6 rfl rfl rfl ?_
  refine ax_jn 16 (!isW y 1 (p 31 9)) (fun K => ?_) ?_
  · refine ax_iload_n 2 8 dX4_reopen_7 rfl rfl rfl ?_
    refine ax_if_ne 15 11 dX4_reopen_8 (by decide) rfl (fun c8 => ?_) (fun c8 => ?_)
    · refine ax_iconst (v := 0) 16 dX4_reopen_15 rfl (by decide) ?_
      exact ax_bx K (by simp [bI_0, bI_1, bI_n0.mp c8])
    · refine ax_iconst (v := 1) 12 dX4_reopen_11 rfl (by decide) ?_
      refine ax_goto 16 dX4_reopen_12 (by decide) ?_
      exact ax_bx K (by simp [bI_0, bI_1, bI_0.mp c8])
  refine ax_jn 33 (roB p y) (fun K => ?_) ?_
  · refine ax_iload_n 2 17 dX4_reopen_16 rfl rfl rfl ?_
    refine ax_if_eq 32 20 dX4_reopen_17 (by decide) rfl (fun c => ?_) (fun c => ?_)
    · refine ax_iconst (v := 0) 33 dX4_reopen_32 rfl (by decide) ?_
      exact ax_bx K (by simp [bI_0, roB, bI_0.mp c])
    · have g := bI_n0.mp c
      rw [hy] at g
      obtain ⟨j, hj, hj2, e, ej⟩ := wy hm g
      subst e
      refine ax_aload_n 0 21 dX4_reopen_20 rfl rfl rfl ?_
      refine ax_iload_n 1 22 dX4_reopen_21 rfl rfl rfl ?_
      refine ax_cV 25 dX4_reopen_22 rfl ml_X4_198 (m_takes (d := d - 1) j (by omega)) rfl (by omega) rfl rfl (Nat.le_of_ble_eq_true rfl) ?_
      refine ax_if_eq 32 28 dX4_reopen_25 (by decide) rfl (fun c2 => ?_) (fun c2 => ?_)
      · refine ax_iconst (v := 0) 33 dX4_reopen_32 rfl (by decide) ?_
        exact ax_bx K (by simp [bI_0, roB, ej, bI_0.mp c2])
      · refine ax_iconst (v := 1) 29 dX4_reopen_28 rfl (by decide) ?_
        refine ax_goto 33 dX4_reopen_29 (by decide) ?_
        exact ax_bx K (by simp [bI_1, roB, ej, bI_n0.mp c, bI_n0.mp c2])
  · refine ax_cV 36 dX4_reopen_33 rfl ml_X4_126 (m_refuse (d := d - 1) _ _) rfl (by omega) rfl rfl (Nat.le_of_ble_eq_true rfl) ?_
    refine ax_if_eq 40 39 dX4_reopen_36 (by decide) rfl (fun c => ?_) (fun c => ?_)
    · rw [show mReopen p y = _ from if_neg (by rw [bI_0.mp c]; decide)]
      have g := nn_f (or_f (bI_0.mp c)).1
      rw [hy] at g
      obtain ⟨j, hj, hj2, e, ej⟩ := wy hm g
      subst e
      rw [ej]
      refine ax_aload_n 0 41 dX4_reopen_40 rfl rfl rfl ?_
      refine ax_getf 44 dX4_reopen_41 rfl fl_X4_35 rfl rfl ?_
      refine ax_iload_n 1 45 dX4_reopen_44 rfl rfl rfl ?_
      refine ax_iconst (v := 1) 46 dX4_reopen_45 rfl (by decide) ?_
      refine ax_zastN 47 dX4_reopen_46 rfl rfl rfl (by omega) (by decide) (by decide) ?_
      rw [wMs_40]
      exact ax_vret dX4_reopen_47 rfl rfl
    · rw [show mReopen p y = _ from if_pos (bI_n0.mp c)]
      exact ax_vret dX4_reopen_39 rfl rfl
theorem m_account (hd : 5 ≤ d) (m : Nat) (y v s w : Int32) (hm : m ≤ 8) (hy : p 31 9 = nI m) : ax_Met G M_X4_account d 0 0 [.ref 31, .int y, .int v, .int s, .int w] (wQ q ++ (wM p l ++ r)) (.inl (some (.int (mAccount p y v s w).1)), wQ q ++ (wM (mAccount p y v s w).2 l ++ r)) := by
  refine ax_of rfl (by decide) (Nat.le_of_ble_eq_true rfl) ?_
  refine ax_aload_n 0 1 dX4_account_0 rfl rfl rfl ?_
  refine ax_jn 41 (gAc p y v s w) (fun K => ?_) ?_
  · refine ax_aload_n 0 2 dX4_account_1 rfl rfl rfl ?_
    refine ax_iload_n 1 3 dX4_account_2 rfl rfl rfl ?_
    refine ax_cV 6 dX4_account_3 rfl ml_X4_195 (m_wasYear (d := d - 1) (by omega) _) rfl (by omega) rfl rfl (Nat.le_of_ble_eq_true rfl) ?_
    refine ax_if_eq 36 9 dX4_account_6 (by decide) rfl (fun c6 => ?_) (fun c6 => ?_)
    · refine ax_iconst (v := 1) 37 dX4_account_36 rfl (by decide) ?_
      refine ax_goto 41 dX4_account_37 (by decide) ?_
      exact ax_bx K (by simp [bI_0, bI_1, gAc, bI_0.mp c6])
    · refine ax_iload_n 2 10 dX4_account_9 rfl rfl rfl ?_
      refine ax_cS 13 dX4_account_10 rfl ml_X4_134 (m_isOne (d := d - 1) (by omega) _) (by omega) rfl rfl (Nat.le_of_ble_eq_true rfl) ?_
      refine ax_if_eq 36 16 dX4_account_13 (by decide) rfl (fun c13 => ?_) (fun c13 => ?_)
      · refine ax_iconst (v := 1) 37 dX4_account_36 rfl (by decide) ?_
        refine ax_goto 41 dX4_account_37 (by decide) ?_
        exact ax_bx K (by simp [bI_0, bI_1, gAc, bI_n0.mp c6, bI_0.mp c13])
      · refine ax_iload_n 3 17 dX4_account_16 rfl rfl rfl ?_
        refine ax_cS 20 dX4_account_17 rfl ml_X4_114 (m_isSpecies (d := d - 1) (by omega) _) (by omega) rfl rfl (Nat.le_of_ble_eq_true rfl) ?_
        refine ax_if_eq 36 23 dX4_account_20 (by decide) rfl (fun c20 => ?_) (fun c20 => ?_)
        · refine ax_iconst (v := 1) 37 dX4_account_36 rfl (by decide) ?_
          refine ax_goto 41 dX4_account_37 (by decide) ?_
          exact ax_bx K (by simp [bI_0, bI_1, gAc, bI_n0.mp c6, bI_n0.mp c13, bI_0.mp c20])
        · refine ax_iload 25 dX4_account_23 rfl rfl ?_
          refine ax_i2l 26 dX4_account_25 rfl ?_
          refine ax_lconst (v := 0) 27 dX4_account_26 rfl (by decide) ?_
          refine ax_ldc2 (v := 8) 30 dX4_account_27 rfl cj_X4_203 ?_
          refine ax_cS 33 dX4_account_30 rfl ml_X4_100 (m_in (d := d - 1) _ 0 8 0 8 rfl rfl) (by omega) rfl rfl (Nat.le_of_ble_eq_true rfl) ?_
          refine ax_if_ne 40 36 dX4_account_33 (by decide) rfl (fun c33 => ?_) (fun c33 => ?_)
          · refine ax_iconst (v := 0) 41 dX4_account_40 rfl (by decide) ?_
            exact ax_bx K (by simp [bI_0, bI_1, gAc, bI_n0.mp c6, bI_n0.mp c13, bI_n0.mp c20, bI_n0.mp c33])
          · refine ax_iconst (v := 1) 37 dX4_account_36 rfl (by decide) ?_
            refine ax_goto 41 dX4_account_37 (by decide) ?_
            exact ax_bx K (by simp [bI_0, bI_1, gAc, bI_n0.mp c6, bI_n0.mp c13, bI_n0.mp c20, bI_0.mp c33])
  refine ax_iconst (v := 0) 42 dX4_account_41 rfl (by decide) ?_
  refine ax_cV 45 dX4_account_42 rfl ml_X4_126 (m_refuse (d := d - 1) _ false) rfl (by omega) rfl rfl (Nat.le_of_ble_eq_true rfl) ?_
  refine ax_if_eq 50 48 dX4_account_45 (by decide) rfl (fun c => ?_) (fun c => ?_)
  · rw [show mAccount p y v s w = _ from if_neg (by rw [bI_0.mp c]; decide)]
    have g : isW y 1 (p 31 9) = true ∧ isW v 0 5 = true ∧ isW s 0 3 = true ∧ isW w 0 8 = true := by simpa [gAc] using (or_f (bI_0.mp c)).1
    obtain ⟨g1, g2, g3, g4⟩ := g
    rw [hy] at g1
    obtain ⟨j, hj, hj2, e, ej⟩ := wy hm g1
    obtain ⟨k, hk, e2, ek⟩ := w5 g2
    obtain ⟨k3, hk3, e3, ek3⟩ := w3 g3
    obtain ⟨i, hi, e4, ei⟩ := w8 g4
    subst e e2 e3 e4
    rw [ej, ek, ek3, ei]
    generalize rfM (gAc p (nI j) (nI k) (nI k3) (nI i)) false = x0
    refine ax_iload_n 1 51 dX4_account_50 rfl rfl rfl ?_
    refine ax_iload_n 2 52 dX4_account_51 rfl rfl rfl ?_
    refine ax_iload_n 3 53 dX4_account_52 rfl rfl rfl ?_
    refine ax_cS 56 dX4_account_53 rfl ml_X4_147 (m_at (d := d - 1) j k k3) (by omega) rfl rfl (Nat.le_of_ble_eq_true rfl) ?_
    refine ax_istore 58 dX4_account_56 rfl (Nat.le_of_ble_eq_true rfl) ?_
    refine ax_iload 60 dX4_account_58 rfl rfl ?_
    match i, hi with
    | 0, _ =>
      refine ax_tableIn (off := 48) 108 dX4_account_60 (by decide) (by decide) (by decide) (by decide) ?_
      refine ax_aload_n 0 109 dX4_account_108 rfl rfl rfl ?_
      refine ax_getf 112 dX4_account_109 rfl fl_X4_38 rfl rfl ?_
      refine ax_iload 114 dX4_account_112 rfl rfl ?_
      refine ax_ialdN 115 dX4_account_114 rfl rfl rfl (by omega) (by decide) ?_
      exact ax_iret dX4_account_115 rfl rfl
    | 1, _ =>
      refine ax_tableIn (off := 56) 116 dX4_account_60 (by decide) (by decide) (by decide) (by decide) ?_
      refine ax_aload_n 0 117 dX4_account_116 rfl rfl rfl ?_
      refine ax_getf 120 dX4_account_117 rfl fl_X4_41 rfl rfl ?_
      refine ax_iload 122 dX4_account_120 rfl rfl ?_
      refine ax_ialdN 123 dX4_account_122 rfl rfl rfl (by omega) (by decide) ?_
      exact ax_iret dX4_account_123 rfl rfl
    | 2, _ =>
      refine ax_tableIn (off := 64) 124 dX4_account_60 (by decide) (by decide) (by decide) (by decide) ?_
      refine ax_aload_n 0 125 dX4_account_124 rfl rfl rfl ?_
      refine ax_getf 128 dX4_account_125 rfl fl_X4_44 rfl rfl ?_
      refine ax_iload 130 dX4_account_128 rfl rfl ?_
      refine ax_ialdN 131 dX4_account_130 rfl rfl rfl (by omega) (by decide) ?_
      exact ax_iret dX4_account_131 rfl rfl
    | 3, _ =>
      refine ax_tableIn (off := 72) 132 dX4_account_60 (by decide) (by decide) (by decide) (by decide) ?_
      refine ax_aload_n 0 133 dX4_account_132 rfl rfl rfl ?_
      refine ax_getf 136 dX4_account_133 rfl fl_X4_47 rfl rfl ?_
      refine ax_iload 138 dX4_account_136 rfl rfl ?_
      refine ax_ialdN 139 dX4_account_138 rfl rfl rfl (by omega) (by decide) ?_
      exact ax_iret dX4_account_139 rfl rfl
    | 4, _ =>
      refine ax_tableIn (off := 80) 140 dX4_account_60 (by decide) (by decide) (by decide) (by decide) ?_
      refine ax_aload_n 0 141 dX4_account_140 rfl rfl rfl ?_
      refine ax_getf 144 dX4_account_141 rfl fl_X4_50 rfl rfl ?_
      refine ax_iload 146 dX4_account_144 rfl rfl ?_
      refine ax_ialdN 147 dX4_account_146 rfl rfl rfl (by omega) (by decide) ?_
      exact ax_iret dX4_account_147 rfl rfl
    | 5, _ =>
      refine ax_tableIn (off := 88) 148 dX4_account_60 (by decide) (by decide) (by decide) (by decide) ?_
      refine ax_aload_n 0 149 dX4_account_148 rfl rfl rfl ?_
      refine ax_iload 151 dX4_account_149 rfl rfl ?_
      refine ax_cV 154 dX4_account_151 rfl ml_X4_153 (m_left (d := d - 1) _ (by omega)) rfl (by omega) rfl rfl (Nat.le_of_ble_eq_true rfl) ?_
      exact ax_iret dX4_account_154 rfl rfl
    | 6, _ =>
      refine ax_tableIn (off := 95) 155 dX4_account_60 (by decide) (by decide) (by decide) (by decide) ?_
      refine ax_aload_n 0 156 dX4_account_155 rfl rfl rfl ?_
      refine ax_getf 159 dX4_account_156 rfl fl_X4_53 rfl rfl ?_
      refine ax_iload 161 dX4_account_159 rfl rfl ?_
      refine ax_ialdN 162 dX4_account_161 rfl rfl rfl (by omega) (by decide) ?_
      exact ax_iret dX4_account_162 rfl rfl
    | 7, _ =>
      refine ax_tableIn (off := 103) 163 dX4_account_60 (by decide) (by decide) (by decide) (by decide) ?_
      refine ax_aload_n 0 164 dX4_account_163 rfl rfl rfl ?_
      refine ax_getf 167 dX4_account_164 rfl fl_X4_56 rfl rfl ?_
      refine ax_iload 169 dX4_account_167 rfl rfl ?_
      refine ax_ialdN 170 dX4_account_169 rfl rfl rfl (by omega) (by decide) ?_
      exact ax_iret dX4_account_170 rfl rfl
    | 8, _ =>
      refine ax_tableOut 171 dX4_account_60 (by decide) (by decide) ?_
      refine ax_aload_n 0 172 dX4_account_171 rfl rfl rfl ?_
      refine ax_getf 175 dX4_account_172 rfl fl_X4_59 rfl rfl ?_
      refine ax_iload 177 dX4_account_175 rfl rfl ?_
      refine ax_ialdN 178 dX4_account_177 rfl rfl rfl (by omega) (by decide) ?_
      exact ax_iret dX4_account_178 rfl rfl
    | i + 9, h => exact absurd h (by omega)
  · rw [show mAccount p y v s w = _ from if_pos (bI_n0.mp c)]
    refine ax_iconst (v := 0) 49 dX4_account_48 rfl (by decide) ?_
    exact ax_iret dX4_account_49 rfl rfl
theorem m_levy (hd : 5 ≤ d) (m : Nat) (o y : Int32) (hm : m ≤ 8) (hy : p 31 9 = nI m) : ax_Met G M_X4_levy d 0 0 [.ref 31, .int o, .int y] (wQ q ++ (wM p l ++ r)) (.inl (some (.long (mLevy p o y).1)), wQ q ++ (wM (mLevy p o y).2 l ++ r)) := by
  refine ax_of rfl (by decide) (Nat.le_of_ble_eq_true rfl) ?_
  refine ax_aload_n 0 1 dX4_levy_0 rfl rfl rfl ?_
  refine ax_jn 21 (gLy p o y) (fun K => ?_) ?_
  · refine ax_iload_n 1 2 dX4_levy_1 rfl rfl rfl ?_
    refine ax_cS 5 dX4_levy_2 rfl ml_X4_134 (m_isOne (d := d - 1) (by omega) _) (by omega) rfl rfl (Nat.le_of_ble_eq_true rfl) ?_
    refine ax_if_eq 16 8 dX4_levy_5 (by decide) rfl (fun c5 => ?_) (fun c5 => ?_)
    · refine ax_iconst (v := 1) 17 dX4_levy_16 rfl (by decide) ?_
      refine ax_goto 21 dX4_levy_17 (by decide) ?_
      exact ax_bx K (by simp [bI_0, bI_1, gLy, bI_0.mp c5])
    · refine ax_aload_n 0 9 dX4_levy_8 rfl rfl rfl ?_
      refine ax_iload_n 2 10 dX4_levy_9 rfl rfl rfl ?_
      refine ax_cV 13 dX4_levy_10 rfl ml_X4_195 (m_wasYear (d := d - 1) (by omega) _) rfl (by omega) rfl rfl (Nat.le_of_ble_eq_true rfl) ?_
      refine ax_if_ne 20 16 dX4_levy_13 (by decide) rfl (fun c13 => ?_) (fun c13 => ?_)
      · refine ax_iconst (v := 0) 21 dX4_levy_20 rfl (by decide) ?_
        exact ax_bx K (by simp [bI_0, bI_1, gLy, bI_n0.mp c5, bI_n0.mp c13])
      · refine ax_iconst (v := 1) 17 dX4_levy_16 rfl (by decide) ?_
        refine ax_goto 21 dX4_levy_17 (by decide) ?_
        exact ax_bx K (by simp [bI_0, bI_1, gLy, bI_n0.mp c5, bI_0.mp c13])
  refine ax_iconst (v := 0) 22 dX4_levy_21 rfl (by decide) ?_
  refine ax_cV 25 dX4_levy_22 rfl ml_X4_126 (m_refuse (d := d - 1) _ false) rfl (by omega) rfl rfl (Nat.le_of_ble_eq_true rfl) ?_
  refine ax_if_eq 30 28 dX4_levy_25 (by decide) rfl (fun c => ?_) (fun c => ?_)
  · rw [show mLevy p o y = _ from if_neg (by rw [bI_0.mp c]; decide)]
    have g : isW o 0 5 = true ∧ isW y 1 (p 31 9) = true := by simpa [gLy] using (or_f (bI_0.mp c)).1
    obtain ⟨g1, g2⟩ := g
    rw [hy] at g2
    obtain ⟨j, hj, hj2, e, ej⟩ := wy hm g2
    subst e
    rw [ej]
    generalize rfM (gLy p o (nI j)) false = x0
    refine ax_lconst (v := 0) 31 dX4_levy_30 rfl (by decide) ?_
    refine ax_lstore_n 3 32 dX4_levy_31 rfl rfl (Nat.le_of_ble_eq_true rfl) ?_
    refine ax_iconst (v := 0) 33 dX4_levy_32 rfl (by decide) ?_
    refine ax_istore 35 dX4_levy_33 rfl (Nat.le_of_ble_eq_true rfl) ?_
    refine ax_lvk (ax_down (P := fun v => ax_Ex G M_X4_levy d 0 0 35 [(0, .ref 31), (1, .int o), (2, .int (nI j)), (3, .long (lvM p o j v)), (5, .int (nI v))] [] (wQ q ++ (wM (qv p 31 0 x0) l ++ r)) (.inl (some (.long (lvM p o j 6))), wQ q ++ (wM (qv p 31 0 x0) l ++ r))) (n := 6) ?_ (fun v hv ih => ?_) 0 (Nat.zero_le _)) ⟨rfl, rfl, rfl, rfl, rfl, trivial⟩
    · generalize lvM p o j 6 = x
      refine ax_iload 37 dX4_levy_35 rfl rfl ?_
      refine ax_bipush (v := 6) 39 dX4_levy_37 rfl (by decide) ?_
      refine ax_icmp_ge 100 42 dX4_levy_39 (by decide) rfl (fun c1 => ?_) (fun c1 => ?_)
      · refine ax_lload_n 3 101 dX4_levy_100 rfl rfl rfl ?_
        exact ax_lret dX4_levy_101 rfl rfl
      · exact absurd (by decide) c1
    · rw [show lvM p o j (v + 1) = if p 35 v = o then lv1 p j v 4 (lvM p o j v) else lvM p o j v from rfl] at ih
      revert ih
      generalize lvM p o j 6 = x9
      generalize lvM p o j v = x
      intro ih
      refine ax_iload 37 dX4_levy_35 rfl rfl ?_
      refine ax_bipush (v := 6) 39 dX4_levy_37 rfl (by decide) ?_
      refine ax_icmp_ge 100 42 dX4_levy_39 (by decide) rfl (fun c1 => ?_) (fun c1 => ?_)
      · exact absurd c1 (nI_ge hv (by decide))
      · refine ax_iconst (v := 0) 43 dX4_levy_42 rfl (by decide) ?_
        refine ax_istore 45 dX4_levy_43 rfl (Nat.le_of_ble_eq_true rfl) ?_
        by_cases ho : p 35 v = o
        · rw [if_pos ho] at ih
          refine ax_lvk (ax_down (P := fun s => ax_Ex G M_X4_levy d 0 0 45 [(0, .ref 31), (1, .int o), (2, .int (nI j)), (3, .long (lv1 p j v s x)), (5, .int (nI v)), (6, .int (nI s))] [] (wQ q ++ (wM (qv p 31 0 x0) l ++ r)) (.inl (some (.long x9)), wQ q ++ (wM (qv p 31 0 x0) l ++ r))) (n := 4) ?_ (fun s hs sh => ?_) 0 (Nat.zero_le _)) ⟨rfl, rfl, rfl, rfl, rfl, rfl, trivial⟩
          · generalize lv1 p j v 4 x = x1 at ih ⊢
            refine ax_iload 47 dX4_levy_45 rfl rfl ?_
            refine ax_iconst (v := 4) 48 dX4_levy_47 rfl (by decide) ?_
            refine ax_icmp_ge 94 51 dX4_levy_48 (by decide) rfl (fun c2 => ?_) (fun c2 => ?_)
            · refine ax_iinc (v := (_ : Int32) + 1) 97 dX4_levy_94 rfl rfl rfl (Nat.le_of_ble_eq_true rfl) ?_
              refine ax_goto 35 dX4_levy_97 (by decide) ?_
              exact ax_lvk ih ⟨rfl, rfl, rfl, rfl, gI (nI_1 v), trivial⟩
            · exact absurd (by decide) c2
          · refine ax_iload 47 dX4_levy_45 rfl rfl ?_
            refine ax_iconst (v := 4) 48 dX4_levy_47 rfl (by decide) ?_
            refine ax_icmp_ge 94 51 dX4_levy_48 (by decide) rfl (fun c2 => ?_) (fun c2 => ?_)
            · exact absurd c2 (nI_ge hs (by decide))
            · refine ax_aload_n 0 52 dX4_levy_51 rfl rfl rfl ?_
              refine ax_getf 55 dX4_levy_52 rfl fl_X4_19 rfl rfl ?_
              refine ax_iload 57 dX4_levy_55 rfl rfl ?_
              refine ax_ialdN 58 dX4_levy_57 rfl rfl rfl (by omega) (by decide) ?_
              refine ax_iload_n 1 59 dX4_levy_58 rfl rfl rfl ?_
              refine ax_icmp_ne 94 62 dX4_levy_59 (by decide) rfl (fun c3 => ?_) (fun c3 => ?_)
              · exact absurd ho c3
              · refine ax_lload_n 3 63 dX4_levy_62 rfl rfl rfl ?_
                refine ax_aload_n 0 64 dX4_levy_63 rfl rfl rfl ?_
                refine ax_getf 67 dX4_levy_64 rfl fl_X4_59 rfl rfl ?_
                refine ax_iload_n 2 68 dX4_levy_67 rfl rfl rfl ?_
                refine ax_iload 70 dX4_levy_68 rfl rfl ?_
                refine ax_iload 72 dX4_levy_70 rfl rfl ?_
                refine ax_cS 75 dX4_levy_72 rfl ml_X4_147 (m_at (d := d - 1) j v s) (by omega) rfl rfl (Nat.le_of_ble_eq_true rfl) ?_
                refine ax_ialdN 76 dX4_levy_75 rfl rfl rfl (by omega) (by decide) ?_
                refine ax_i2l 77 dX4_levy_76 rfl ?_
                refine ax_aload_n 0 78 dX4_levy_77 rfl rfl rfl ?_
                refine ax_getf 81 dX4_levy_78 rfl fl_X4_7 rfl rfl ?_
                refine ax_iload 83 dX4_levy_81 rfl rfl ?_
                refine ax_ialdN 84 dX4_levy_83 rfl rfl rfl (by omega) (by decide) ?_
                refine ax_i2l 85 dX4_levy_84 rfl ?_
                refine ax_lmul 86 dX4_levy_85 rfl ?_
                refine ax_ladd 87 dX4_levy_86 rfl ?_
                refine ax_lstore_n 3 88 dX4_levy_87 rfl rfl (Nat.le_of_ble_eq_true rfl) ?_
                refine ax_iinc (v := (_ : Int32) + 1) 91 dX4_levy_88 rfl rfl rfl (Nat.le_of_ble_eq_true rfl) ?_
                refine ax_goto 45 dX4_levy_91 (by decide) ?_
                exact ax_lvk sh ⟨rfl, rfl, rfl, rfl, rfl, gI (nI_1 s), trivial⟩
        · rw [if_neg ho] at ih
          refine ax_iload 47 dX4_levy_45 rfl rfl ?_
          refine ax_iconst (v := 4) 48 dX4_levy_47 rfl (by decide) ?_
          refine ax_icmp_ge 94 51 dX4_levy_48 (by decide) rfl (fun c2 => ?_) (fun c2 => ?_)
          · exact absurd c2 (by decide)
          · refine ax_aload_n 0 52 dX4_levy_51 rfl rfl rfl ?_
            refine ax_getf 55 dX4_levy_52 rfl fl_X4_19 rfl rfl ?_
            refine ax_iload 57 dX4_levy_55 rfl rfl ?_
            refine ax_ialdN 58 dX4_levy_57 rfl rfl rfl (by omega) (by decide) ?_
            refine ax_iload_n 1 59 dX4_levy_58 rfl rfl rfl ?_
            refine ax_icmp_ne 94 62 dX4_levy_59 (by decide) rfl (fun c3 => ?_) (fun c3 => ?_)
            · refine ax_iinc (v := (_ : Int32) + 1) 97 dX4_levy_94 rfl rfl rfl (Nat.le_of_ble_eq_true rfl) ?_
              refine ax_goto 35 dX4_levy_97 (by decide) ?_
              exact ax_lvk ih ⟨rfl, rfl, rfl, rfl, gI (nI_1 v), trivial⟩
            · exact absurd c3 ho
  · rw [show mLevy p o y = _ from if_pos (bI_n0.mp c)]
    refine ax_lconst (v := 0) 29 dX4_levy_28 rfl (by decide) ?_
    exact ax_lret dX4_levy_29 rfl rfl
theorem m_held (hd : 5 ≤ d) (s o w : Int32) : ax_Met G M_X4_held d 0 0 [.ref 31, .int s, .int o, .int w] (wQ q ++ (wM p l ++ r)) (.inl (some (.int (mHeld p s o w).1)), wQ q ++ (wM (mHeld p s o w).2 l ++ r)) := by
  refine ax_of rfl (by decide) (Nat.le_of_ble_eq_true rfl) ?_
  refine ax_aload_n 0 1 dX4_held_0 rfl rfl rfl ?_
  refine ax_jn 32 (gHe s o w) (fun K => ?_) ?_
  · refine ax_iload_n 1 2 dX4_held_1 rfl rfl rfl ?_
    refine ax_cS 5 dX4_held_2 rfl ml_X4_114 (m_isSpecies (d := d - 1) (by omega) _) (by omega) rfl rfl (Nat.le_of_ble_eq_true rfl) ?_
    refine ax_if_eq 27 8 dX4_held_5 (by decide) rfl (fun c5 => ?_) (fun c5 => ?_)
    · refine ax_iconst (v := 1) 28 dX4_held_27 rfl (by decide) ?_
      refine ax_goto 32 dX4_held_28 (by decide) ?_
      exact ax_bx K (by simp [bI_0, bI_1, gHe, bI_0.mp c5])
    · refine ax_iload_n 2 9 dX4_held_8 rfl rfl rfl ?_
      refine ax_cS 12 dX4_held_9 rfl ml_X4_134 (m_isOne (d := d - 1) (by omega) _) (by omega) rfl rfl (Nat.le_of_ble_eq_true rfl) ?_
      refine ax_if_eq 27 15 dX4_held_12 (by decide) rfl (fun c12 => ?_) (fun c12 => ?_)
      · refine ax_iconst (v := 1) 28 dX4_held_27 rfl (by decide) ?_
        refine ax_goto 32 dX4_held_28 (by decide) ?_
        exact ax_bx K (by simp [bI_0, bI_1, gHe, bI_n0.mp c5, bI_0.mp c12])
      · refine ax_iload_n 3 16 dX4_held_15 rfl rfl rfl ?_
        refine ax_i2l 17 dX4_held_16 rfl ?_
        refine ax_lconst (v := 0) 18 dX4_held_17 rfl (by decide) ?_
        refine ax_ldc2 (v := 2) 21 dX4_held_18 rfl cj_X4_130 ?_
        refine ax_cS 24 dX4_held_21 rfl ml_X4_100 (m_in (d := d - 1) _ 0 2 0 2 rfl rfl) (by omega) rfl rfl (Nat.le_of_ble_eq_true rfl) ?_
        refine ax_if_ne 31 27 dX4_held_24 (by decide) rfl (fun c24 => ?_) (fun c24 => ?_)
        · refine ax_iconst (v := 0) 32 dX4_held_31 rfl (by decide) ?_
          exact ax_bx K (by simp [bI_0, bI_1, gHe, bI_n0.mp c5, bI_n0.mp c12, bI_n0.mp c24])
        · refine ax_iconst (v := 1) 28 dX4_held_27 rfl (by decide) ?_
          refine ax_goto 32 dX4_held_28 (by decide) ?_
          exact ax_bx K (by simp [bI_0, bI_1, gHe, bI_n0.mp c5, bI_n0.mp c12, bI_0.mp c24])
  refine ax_iconst (v := 0) 33 dX4_held_32 rfl (by decide) ?_
  refine ax_cV 36 dX4_held_33 rfl ml_X4_126 (m_refuse (d := d - 1) _ false) rfl (by omega) rfl rfl (Nat.le_of_ble_eq_true rfl) ?_
  refine ax_if_eq 41 39 dX4_held_36 (by decide) rfl (fun c => ?_) (fun c => ?_)
  · rw [show mHeld p s o w = _ from if_neg (by rw [bI_0.mp c]; decide)]
    have g : isW s 0 3 = true ∧ isW o 0 5 = true ∧ isW w 0 2 = true := by simpa [gHe] using (or_f (bI_0.mp c)).1
    obtain ⟨g1, g2, g3⟩ := g
    obtain ⟨j, hj, e, ej⟩ := w3 g1
    obtain ⟨k, hk, e2, ek⟩ := w5 g2
    subst e e2
    rw [ej, ek]
    generalize rfM (gHe (nI j) (nI k) w) false = x0
    refine ax_iload_n 3 42 dX4_held_41 rfl rfl rfl ?_
    refine ax_if_ne 59 45 dX4_held_42 (by decide) rfl (fun c1 => ?_) (fun c1 => ?_)
    · rw [if_neg c1]
      refine ax_iload_n 3 60 dX4_held_59 rfl rfl rfl ?_
      refine ax_iconst (v := 1) 61 dX4_held_60 rfl (by decide) ?_
      refine ax_icmp_ne 73 64 dX4_held_61 (by decide) rfl (fun c2 => ?_) (fun c2 => ?_)
      · rw [if_neg c2]
        dsimp only
        refine ax_aload_n 0 74 dX4_held_73 rfl rfl rfl ?_
        refine ax_iload_n 1 75 dX4_held_74 rfl rfl rfl ?_
        refine ax_iload_n 2 76 dX4_held_75 rfl rfl rfl ?_
        refine ax_cV 79 dX4_held_76 rfl ml_X4_110 (m_ofGroup (d := d - 1) (by omega) j (nI k) hj) rfl (by omega) rfl rfl (Nat.le_of_ble_eq_true rfl) ?_
        exact ax_iret dX4_held_79 rfl rfl
      · rw [if_pos c2]
        refine ax_aload_n 0 65 dX4_held_64 rfl rfl rfl ?_
        refine ax_iload_n 1 66 dX4_held_65 rfl rfl rfl ?_
        refine ax_iload_n 2 67 dX4_held_66 rfl rfl rfl ?_
        refine ax_cV 70 dX4_held_67 rfl ml_X4_144 (m_free (d := d - 1) j k hj hk) rfl (by omega) rfl rfl (Nat.le_of_ble_eq_true rfl) ?_
        refine ax_goto 79 dX4_held_70 (by decide) ?_
        exact ax_iret dX4_held_79 rfl rfl
    · rw [if_pos c1]
      refine ax_aload_n 0 46 dX4_held_45 rfl rfl rfl ?_
      refine ax_getf 49 dX4_held_46 rfl fl_X4_22 rfl rfl ?_
      refine ax_bipush (v := 6) 51 dX4_held_49 rfl (by decide) ?_
      refine ax_iload_n 1 52 dX4_held_51 rfl rfl rfl ?_
      refine ax_imul 53 dX4_held_52 rfl ?_
      refine ax_iload_n 2 54 dX4_held_53 rfl rfl rfl ?_
      refine ax_iadd 55 dX4_held_54 rfl ?_
      refine ax_ialdN 56 dX4_held_55 rfl rfl (ix6' j k) (by omega) (by decide) ?_
      refine ax_goto 79 dX4_held_56 (by decide) ?_
      exact ax_iret dX4_held_79 rfl rfl
  · rw [show mHeld p s o w = _ from if_pos (bI_n0.mp c)]
    refine ax_iconst (v := 0) 40 dX4_held_39 rfl (by decide) ?_
    exact ax_iret dX4_held_40 rfl rfl
theorem m_event (hd : 5 ≤ d) (n : Nat) (i w : Int32) (hn : n ≤ 200) (hc : p 31 20 = nI n) : ax_Met G M_X4_event d 0 0 [.ref 31, .int i, .int w] (wQ q ++ (wM p l ++ r)) (.inl (some (.int (mEvent p i w).1)), wQ q ++ (wM (mEvent p i w).2 l ++ r)) := by
  refine ax_of rfl (by decide) (Nat.le_of_ble_eq_true rfl) ?_
  refine ax_iload_n 1 1 dX4_event_0 rfl rfl rfl ?_
  refine ax_i2l 2 dX4_event_1 rfl ?_
  refine ax_lconst (v := 0) 3 dX4_event_2 rfl (by decide) ?_
  refine ax_aload_n 0 4 dX4_event_3 rfl rfl rfl ?_
  refine ax_getf 7 dX4_event_4 rfl fl_X4_164 rfl rfl ?_
  refine ax_iconst (v := 1) 8 dX4_event_7 rfl (by decide) ?_
  refine ax_isub 9 dX4_event_8 rfl ?_
  refine ax_i2l 10 dX4_event_9 rfl ?_
  refine ax_cS 13 dX4_event_10 rfl ml_X4_100 (m_in (d := d - 1) i 0 (p 31 20 - 1) 0 _ rfl rfl) (by omega) rfl rfl (Nat.le_of_ble_eq_true rfl) ?_
  refine ax_istore_n 3 14 dX4_event_13 rfl rfl (Nat.le_of_ble_eq_true rfl) ?_
  refine ax_aload_n 0 15 dX4_event_14 rfl rfl rfl ?_
  refine ax_jn 24 (!isW i 0 (p 31 20 - 1)) (fun K => ?_) ?_
  · refine ax_iload_n 3 16 dX4_event_15 rfl rfl rfl ?_
    refine ax_if_ne 23 19 dX4_event_16 (by decide) rfl (fun c16 => ?_) (fun c16 => ?_)
    · refine ax_iconst (v := 0) 24 dX4_event_23 rfl (by decide) ?_
      exact ax_bx K (by simp [bI_0, bI_1, bI_n0.mp c16])
    · refine ax_iconst (v := 1) 20 dX4_event_19 rfl (by decide) ?_
      refine ax_goto 24 dX4_event_20 (by decide) ?_
      exact ax_bx K (by simp [bI_0, bI_1, bI_0.mp c16])
  refine ax_jn 45 (evB p i w) (fun K => ?_) ?_
  · refine ax_iload_n 3 25 dX4_event_24 rfl rfl rfl ?_
    refine ax_if_eq 44 28 dX4_event_25 (by decide) rfl (fun c25 => ?_) (fun c25 => ?_)
    · refine ax_iconst (v := 0) 45 dX4_event_44 rfl (by decide) ?_
      exact ax_bx K (by simp [bI_0, bI_1, evB, bI_0.mp c25])
    · refine ax_iload_n 2 29 dX4_event_28 rfl rfl rfl ?_
      refine ax_i2l 30 dX4_event_29 rfl ?_
      refine ax_lconst (v := 0) 31 dX4_event_30 rfl (by decide) ?_
      refine ax_ldc2 (v := 3) 34 dX4_event_31 rfl cj_X4_98 ?_
      refine ax_cS 37 dX4_event_34 rfl ml_X4_100 (m_in (d := d - 1) _ 0 3 0 3 rfl rfl) (by omega) rfl rfl (Nat.le_of_ble_eq_true rfl) ?_
      refine ax_if_ne 44 40 dX4_event_37 (by decide) rfl (fun c37 => ?_) (fun c37 => ?_)
      · refine ax_iconst (v := 0) 45 dX4_event_44 rfl (by decide) ?_
        exact ax_bx K (by simp [bI_0, bI_1, evB, bI_n0.mp c25, bI_n0.mp c37])
      · refine ax_iconst (v := 1) 41 dX4_event_40 rfl (by decide) ?_
        refine ax_goto 45 dX4_event_41 (by decide) ?_
        exact ax_bx K (by simp [bI_0, bI_1, evB, bI_n0.mp c25, bI_0.mp c37])
  refine ax_cV 48 dX4_event_45 rfl ml_X4_126 (m_refuse (d := d - 1) _ _) rfl (by omega) rfl rfl (Nat.le_of_ble_eq_true rfl) ?_
  refine ax_if_eq 53 51 dX4_event_48 (by decide) rfl (fun c => ?_) (fun c => ?_)
  · rw [show mEvent p i w = _ from if_neg (by rw [bI_0.mp c]; decide)]
    have g := nn_f (or_f (bI_0.mp c)).1
    rw [hc] at g
    obtain ⟨j, hj, e, ej⟩ := wI hn g
    subst e
    rw [ej]
    generalize rfM (!isW (nI j) 0 (p 31 20 - 1)) (evB p (nI j) w) = x0
    refine ax_iload_n 2 54 dX4_event_53 rfl rfl rfl ?_
    refine ax_if_ne 66 57 dX4_event_54 (by decide) rfl (fun c1 => ?_) (fun c1 => ?_)
    · rw [if_neg c1]
      refine ax_iload_n 2 67 dX4_event_66 rfl rfl rfl ?_
      refine ax_iconst (v := 1) 68 dX4_event_67 rfl (by decide) ?_
      refine ax_icmp_ne 80 71 dX4_event_68 (by decide) rfl (fun c2 => ?_) (fun c2 => ?_)
      · rw [if_neg c2]
        refine ax_iload_n 2 81 dX4_event_80 rfl rfl rfl ?_
        refine ax_iconst (v := 2) 82 dX4_event_81 rfl (by decide) ?_
        refine ax_icmp_ne 102 85 dX4_event_82 (by decide) rfl (fun c3 => ?_) (fun c3 => ?_)
        · rw [if_neg c3]
          refine ax_aload_n 0 103 dX4_event_102 rfl rfl rfl ?_
          refine ax_getf 106 dX4_event_103 rfl fl_X4_80 rfl rfl ?_
          refine ax_iload_n 1 107 dX4_event_106 rfl rfl rfl ?_
          refine ax_ialdN 108 dX4_event_107 rfl rfl rfl (by omega) (by decide) ?_
          exact ax_iret dX4_event_108 rfl rfl
        · rw [if_pos c3]
          refine ax_aload_n 0 86 dX4_event_85 rfl rfl rfl ?_
          refine ax_getf 89 dX4_event_86 rfl fl_X4_86 rfl rfl ?_
          refine ax_iload_n 1 90 dX4_event_89 rfl rfl rfl ?_
          refine ax_zaldN 91 dX4_event_90 rfl rfl rfl (by omega) (by decide) ?_
          refine ax_if_eq 98 94 dX4_event_91 (by decide) rfl (fun c4 => ?_) (fun c4 => ?_)
          · rw [if_pos (show p 57 j = 0 from c4)]
            refine ax_iconst (v := 0) 99 dX4_event_98 rfl (by decide) ?_
            refine ax_goto 108 dX4_event_99 (by decide) ?_
            exact ax_iret dX4_event_108 rfl rfl
          · rw [if_neg (show ¬ p 57 j = 0 from c4)]
            refine ax_iconst (v := 1) 95 dX4_event_94 rfl (by decide) ?_
            refine ax_goto 108 dX4_event_95 (by decide) ?_
            exact ax_iret dX4_event_108 rfl rfl
      · rw [if_pos c2]
        refine ax_aload_n 0 72 dX4_event_71 rfl rfl rfl ?_
        refine ax_getf 75 dX4_event_72 rfl fl_X4_65 rfl rfl ?_
        refine ax_iload_n 1 76 dX4_event_75 rfl rfl rfl ?_
        refine ax_ialdN 77 dX4_event_76 rfl rfl rfl (by omega) (by decide) ?_
        refine ax_goto 108 dX4_event_77 (by decide) ?_
        exact ax_iret dX4_event_108 rfl rfl
    · rw [if_pos c1]
      refine ax_aload_n 0 58 dX4_event_57 rfl rfl rfl ?_
      refine ax_getf 61 dX4_event_58 rfl fl_X4_62 rfl rfl ?_
      refine ax_iload_n 1 62 dX4_event_61 rfl rfl rfl ?_
      refine ax_ialdN 63 dX4_event_62 rfl rfl rfl (by omega) (by decide) ?_
      refine ax_goto 108 dX4_event_63 (by decide) ?_
      exact ax_iret dX4_event_108 rfl rfl
  · rw [show mEvent p i w = _ from if_pos (bI_n0.mp c)]
    refine ax_iconst (v := 0) 52 dX4_event_51 rfl (by decide) ?_
    exact ax_iret dX4_event_52 rfl rfl
theorem m_about (hd : 5 ≤ d) (n : Nat) (w : Int32) (hn : n ≤ 200) (hc : p 31 20 = nI n) : ax_Met G M_X4_about d 0 0 [.ref 31, .int w] (wQ q ++ (wM p l ++ r)) (.inl (some (.int (mAbout p n w).1)), wQ q ++ (wM (mAbout p n w).2 l ++ r)) := by
  refine ax_of rfl (by decide) (Nat.le_of_ble_eq_true rfl) ?_
  refine ax_aload_n 0 1 dX4_about_0 rfl rfl rfl ?_
  refine ax_jn 18 (!isW w 0 3) (fun K => ?_) ?_
  · refine ax_iload_n 1 2 dX4_about_1 rfl rfl rfl ?_
    refine ax_i2l 3 dX4_about_2 rfl ?_
    refine ax_lconst (v := 0) 4 dX4_about_3 rfl (by decide) ?_
    refine ax_ldc2 (v := 3) 7 dX4_about_4 rfl cj_X4_98 ?_
    refine ax_cS 10 dX4_about_7 rfl ml_X4_100 (m_in (d := d - 1) _ 0 3 0 3 rfl rfl) (by omega) rfl rfl (Nat.le_of_ble_eq_true rfl) ?_
    refine ax_if_ne 17 13 dX4_about_10 (by decide) rfl (fun c10 => ?_) (fun c10 => ?_)
    · refine ax_iconst (v := 0) 18 dX4_about_17 rfl (by decide) ?_
      exact ax_bx K (by simp [bI_0, bI_1, bI_n0.mp c10])
    · refine ax_iconst (v := 1) 14 dX4_about_13 rfl (by decide) ?_
      refine ax_goto 18 dX4_about_14 (by decide) ?_
      exact ax_bx K (by simp [bI_0, bI_1, bI_0.mp c10])
  refine ax_iconst (v := 0) 19 dX4_about_18 rfl (by decide) ?_
  refine ax_cV 22 dX4_about_19 rfl ml_X4_126 (m_refuse (d := d - 1) _ false) rfl (by omega) rfl rfl (Nat.le_of_ble_eq_true rfl) ?_
  refine ax_if_eq 27 25 dX4_about_22 (by decide) rfl (fun c => ?_) (fun c => ?_)
  · rw [show mAbout p n w = _ from if_neg (by rw [bI_0.mp c]; decide)]
    generalize rfM (!isW w 0 3) false = x0
    refine ax_iload_n 1 28 dX4_about_27 rfl rfl rfl ?_
    refine ax_iconst (v := 2) 29 dX4_about_28 rfl (by decide) ?_
    refine ax_icmp_ge 56 32 dX4_about_29 (by decide) rfl (fun c1 => ?_) (fun c1 => ?_)
    · rw [if_neg (Int32.not_lt.mpr c1)]
      refine ax_iconst (v := 0) 57 dX4_about_56 rfl (by decide) ?_
      refine ax_istore_n 2 58 dX4_about_57 rfl rfl (Nat.le_of_ble_eq_true rfl) ?_
      refine ax_iconst (v := 0) 59 dX4_about_58 rfl (by decide) ?_
      refine ax_istore_n 3 60 dX4_about_59 rfl rfl (Nat.le_of_ble_eq_true rfl) ?_
      refine ax_lvk (ax_down (P := fun j => ax_Ex G M_X4_about d 0 0 60 [(0, .ref 31), (1, .int w), (2, .int (ctC (p 57) j)), (3, .int (nI j))] [] (wQ q ++ (wM (qv p 31 0 x0) l ++ r)) (.inl (some (.int (if w = 2 then p 31 20 else ctC (p 57) n))), wQ q ++ (wM (qv p 31 0 x0) l ++ r))) (n := n) ?_ (fun j hj ih => ?_) 0 (Nat.zero_le _)) ⟨rfl, rfl, rfl, rfl, trivial⟩
      · refine ax_iload_n 3 61 dX4_about_60 rfl rfl rfl ?_
        refine ax_aload_n 0 62 dX4_about_61 rfl rfl rfl ?_
        refine ax_getf 65 dX4_about_62 rfl fl_X4_164 rfl rfl ?_
        rw [show qv p 31 0 x0 31 20 = p 31 20 from rfl, hc]
        refine ax_icmp_ge 91 68 dX4_about_65 (by decide) rfl (fun c2 => ?_) (fun c2 => ?_)
        · refine ax_iload_n 1 92 dX4_about_91 rfl rfl rfl ?_
          refine ax_iconst (v := 2) 93 dX4_about_92 rfl (by decide) ?_
          refine ax_icmp_ne 103 96 dX4_about_93 (by decide) rfl (fun c3 => ?_) (fun c3 => ?_)
          · rw [if_neg c3]
            refine ax_iload_n 2 104 dX4_about_103 rfl rfl rfl ?_
            exact ax_iret dX4_about_104 rfl rfl
          · rw [if_pos c3]
            refine ax_aload_n 0 97 dX4_about_96 rfl rfl rfl ?_
            refine ax_getf 100 dX4_about_97 rfl fl_X4_164 rfl rfl ?_
            refine ax_goto 104 dX4_about_100 (by decide) ?_
            exact ax_iret dX4_about_104 rfl (by rw [show qv p 31 0 x0 31 20 = p 31 20 from rfl, hc])
        · exact absurd (nI_le (Nat.le_refl n) (by omega)) c2
      · refine ax_iload_n 3 61 dX4_about_60 rfl rfl rfl ?_
        refine ax_aload_n 0 62 dX4_about_61 rfl rfl rfl ?_
        refine ax_getf 65 dX4_about_62 rfl fl_X4_164 rfl rfl ?_
        rw [show qv p 31 0 x0 31 20 = p 31 20 from rfl, hc]
        rw [hc] at ih
        refine ax_icmp_ge 91 68 dX4_about_65 (by decide) rfl (fun c2 => ?_) (fun c2 => ?_)
        · exact absurd c2 (nI_ge hj (by omega))
        · refine ax_aload_n 0 69 dX4_about_68 rfl rfl rfl ?_
          refine ax_getf 72 dX4_about_69 rfl fl_X4_86 rfl rfl ?_
          refine ax_iload_n 3 73 dX4_about_72 rfl rfl rfl ?_
          refine ax_zaldN 74 dX4_about_73 rfl rfl rfl (by omega) (by decide) ?_
          refine ax_if_eq 83 77 dX4_about_74 (by decide) rfl (fun c3 => ?_) (fun c3 => ?_)
          · refine ax_iload_n 2 84 dX4_about_83 rfl rfl rfl ?_
            refine ax_istore_n 2 85 dX4_about_84 rfl rfl (Nat.le_of_ble_eq_true rfl) ?_
            refine ax_iinc (v := (_ : Int32) + 1) 88 dX4_about_85 rfl rfl rfl (Nat.le_of_ble_eq_true rfl) ?_
            refine ax_goto 60 dX4_about_88 (by decide) ?_
            exact ax_lvk ih ⟨rfl, rfl, gI (by simp only [ctC, itF_s]; rw [if_pos (show p 57 j = 0 from c3)]), gI (nI_1 j), trivial⟩
          · refine ax_iload_n 2 78 dX4_about_77 rfl rfl rfl ?_
            refine ax_iconst (v := 1) 79 dX4_about_78 rfl (by decide) ?_
            refine ax_iadd 80 dX4_about_79 rfl ?_
            refine ax_goto 84 dX4_about_80 (by decide) ?_
            refine ax_istore_n 2 85 dX4_about_84 rfl rfl (Nat.le_of_ble_eq_true rfl) ?_
            refine ax_iinc (v := (_ : Int32) + 1) 88 dX4_about_85 rfl rfl rfl (Nat.le_of_ble_eq_true rfl) ?_
            refine ax_goto 60 dX4_about_88 (by decide) ?_
            exact ax_lvk ih ⟨rfl, rfl, gI (by simp only [ctC, itF_s]; rw [if_neg (show ¬ p 57 j = 0 from c3)]), gI (nI_1 j), trivial⟩
    · rw [if_pos (Int32.not_le.mp c1)]
      refine ax_iload_n 1 33 dX4_about_32 rfl rfl rfl ?_
      refine ax_if_ne 43 36 dX4_about_33 (by decide) rfl (fun c2 => ?_) (fun c2 => ?_)
      · rw [if_neg c2]
        refine ax_aload_n 0 44 dX4_about_43 rfl rfl rfl ?_
        refine ax_getf 47 dX4_about_44 rfl fl_X4_173 rfl rfl ?_
        refine ax_if_eq 54 50 dX4_about_47 (by decide) rfl (fun c3 => ?_) (fun c3 => ?_)
        · rw [if_pos (show p 31 10 = 0 from c3)]
          refine ax_iconst (v := 0) 55 dX4_about_54 rfl (by decide) ?_
          exact ax_iret dX4_about_55 rfl rfl
        · rw [if_neg (show ¬ p 31 10 = 0 from c3)]
          refine ax_iconst (v := 1) 51 dX4_about_50 rfl (by decide) ?_
          refine ax_goto 55 dX4_about_51 (by decide) ?_
          exact ax_iret dX4_about_55 rfl rfl
      · rw [if_pos c2]
        refine ax_aload_n 0 37 dX4_about_36 rfl rfl rfl ?_
        refine ax_getf 40 dX4_about_37 rfl fl_X4_141 rfl rfl ?_
        refine ax_goto 55 dX4_about_40 (by decide) ?_
        exact ax_iret dX4_about_55 rfl rfl
  · rw [show mAbout p n w = _ from if_pos (bI_n0.mp c)]
    refine ax_iconst (v := 0) 26 dX4_about_25 rfl (by decide) ?_
    exact ax_iret dX4_about_26 rfl rfl
end M6
