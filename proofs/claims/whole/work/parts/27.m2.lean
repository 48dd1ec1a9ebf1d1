/-! the reference: events and years -/
/-- the events of the reference, numbered as the class's -/
def eP (p : Nat → Nat → Int32) : Nat → Nat → Int32 := fun k => p (k + 28)
def mvB (p : Nat → Nat → Int32) (y v : Int32) (i : Nat) : Bool := decide (p 49 i = 2) && (decide (p 50 i = y) && (decide (p 51 i = v) && ntz (p 57 i)))
def movM (p : Nat → Nat → Int32) (y v : Int32) (n : Nat) : Int32 := itF (fun i a => if mvB p y v i = true then a + p 54 i else a) n 0
abbrev kM (p : Nat → Nat → Int32) (i : Nat) : Nat := 24 * yr (eP p) i + 4 * vs (eP p) i + sp (eP p) i
abbrev kV (p : Nat → Nat → Int32) (i : Nat) : Nat := 24 * yr (eP p) i + 4 * ot (eP p) i + sp (eP p) i
abbrev kS (p : Nat → Nat → Int32) (i : Nat) : Nat := 24 * yr (eP p) i + 4 * vs (eP p) i + ot (eP p) i
def mayM (p : Nat → Nat → Int32) (i : Nat) : Bool :=
  if p 49 i = 0 then decide (p 54 i ≤ leftM p (kM p i))
  else if p 49 i = 1 then decide (p 56 i = 0)
  else decide (p 54 i ≤ p 45 (kM p i)) && (decide (p 55 i ≤ leftM p (kS p i)) && decide (movM p (nI (yr (eP p) i)) (nI (vs (eP p) i)) i + p 54 i ≤ 1000))
def actM (p : Nat → Nat → Int32) (i : Nat) : Nat → Nat → Int32 :=
  if p 49 i = 0 then (let p1 := qv p 42 (kM p i) (p 42 (kM p i) - p 54 i); qv p1 42 (kV p i) (p1 42 (kV p i) + p 54 i))
  else if p 49 i = 1 then qv p 45 (kM p i) (p 45 (kM p i) + p 55 i)
  else (let p1 := qv p 45 (kM p i) (p 45 (kM p i) - p 54 i); qv p1 45 (kS p i) (p1 45 (kS p i) + p 55 i))
def clo1 (p : Nat → Nat → Int32) (k : Nat) (rest share over ahead : Int32) : Nat → Nat → Int32 :=
  let p1 := qv p 46 k (if 0 ≤ rest then (if share ≤ rest then share else rest) else 0)
  let p2 := qv p1 47 k (if ahead ≤ over then ahead else over)
  qv p2 48 k (over - p2 47 k)
def ovM (rest : Int32) : Int32 := if 0 ≤ rest then 0 else -rest
def closeM (p : Nat → Nat → Int32) (k : Nat) : Nat → Nat → Int32 :=
  clo1 p k (leftM p k) ((15 : Int64) * (p 41 k).toInt64 / 100).toInt32 (ovM (leftM p k)) ((5 : Int64) * (p 41 k).toInt64 / 100).toInt32
def cl1 (y j : Nat) (p : Nat → Nat → Int32) : Nat → Nat → Int32 :=
  let p2 := qv (qv p 42 (24 * y + j) 0) 45 (24 * y + j) 0
  let p3 := qv p2 43 (24 * y + j) (if y = 1 then 0 else p2 46 (24 * y + j - 24))
  let p4 := qv p3 44 (24 * y + j) (if y = 1 then 0 else p3 47 (24 * y + j - 24))
  qv (qv (qv p4 46 (24 * y + j) 0) 47 (24 * y + j) 0) 48 (24 * y + j) 0
def wk1 (y i : Nat) (p : Nat → Nat → Int32) : Nat → Nat → Int32 :=
  if p 50 i = nI y then (if mayM p i = true then actM (qv p 57 i (bI (mayM p i))) i else qv p 57 i (bI (mayM p i))) else p
def opM (p : Nat → Nat → Int32) (y : Nat) : Bool := decide (nI y < p 31 9) || decide (p 31 10 = 0)
def clsM (p : Nat → Nat → Int32) (y n : Nat) : Nat → Nat → Int32 := itF (fun j p => closeM p (24 * y + j)) n p
def clrM (p : Nat → Nat → Int32) (y n : Nat) : Nat → Nat → Int32 := itF (cl1 y) n p
def evsM (p : Nat → Nat → Int32) (y n : Nat) : Nat → Nat → Int32 := itF (wk1 y) n p
def yM (p : Nat → Nat → Int32) (n y : Nat) : Nat → Nat → Int32 :=
  let p1 := evsM (clrM p y 24) y n
  if opM p1 y = true then clsM p1 y 24 else p1
def workM (p : Nat → Nat → Int32) (n m : Nat) : Nat → Nat → Int32 := itF (fun i p => yM p n (1 + i)) m p
def tellM (p : Nat → Nat → Int32) (n : Nat) (a b c e f g h : Int32) : Nat → Nat → Int32 :=
  qv (qv (qv (qv (qv (qv (qv (qv (qv p 49 n a) 50 n b) 51 n c) 52 n e) 53 n f) 54 n g) 55 n h) 56 n 0) 57 n 0
def tkM (p : Nat → Nat → Int32) (t : Nat) : Bool := ntz (p 40 t) || (ntz (p 31 10) && decide (nI t = p 31 9))
/-- which cells the work leaves as they are -/
def kpM (k : Nat) : Bool := decide (k ≤ 41) || (decide (49 ≤ k) && !decide (k = 57))
section M2
variable {G : ax_G} {d : Nat} {q p : Nat → Nat → Int32} {l : Nat → Int64} {r : ax_W}
theorem actM_k {i k : Nat} (h1 : k ≠ 42) (h2 : k ≠ 45) : actM p i k = p k := by
  unfold actM
  split
  · dsimp only; rw [qv_n h1, qv_n h1]
  · split
    · rw [qv_n h2]
    · dsimp only; rw [qv_n h2, qv_n h2]
theorem closeM_k {i k : Nat} (h1 : k ≠ 46) (h2 : k ≠ 47) (h3 : k ≠ 48) : closeM p i k = p k := by
  unfold closeM clo1
  rw [qv_n h3, qv_n h2, qv_n h1]
theorem cl1_k {y i k : Nat} (h1 : k ≠ 42) (h2 : k ≠ 43) (h3 : k ≠ 44) (h4 : k ≠ 45) (h5 : k ≠ 46) (h6 : k ≠ 47) (h7 : k ≠ 48) : cl1 y i p k = p k := by
  unfold cl1
  rw [qv_n h7, qv_n h6, qv_n h5, qv_n h3, qv_n h2, qv_n h4, qv_n h1]
theorem wk1_k {y i k : Nat} (h1 : k ≠ 42) (h2 : k ≠ 45) (h3 : k ≠ 57) : wk1 y i p k = p k := by
  unfold wk1
  split
  · split
    · rw [actM_k h1 h2, qv_n h3]
    · rw [qv_n h3]
  · rfl
theorem kp_of {k : Nat} (h : kpM k = true) : k ≤ 41 ∨ (49 ≤ k ∧ k ≠ 57) := by simpa [kpM] using h
theorem clrM_k {y n k : Nat} (h : kpM k = true) : clrM p y n k = p k := by
  have := kp_of h
  exact itF_k (fun _ _ => cl1_k (by omega) (by omega) (by omega) (by omega) (by omega) (by omega) (by omega)) n p
theorem evsM_k {y n k : Nat} (h : kpM k = true) : evsM p y n k = p k := by
  have := kp_of h
  exact itF_k (fun _ _ => wk1_k (by omega) (by omega) (by omega)) n p
theorem clsM_k {y n k : Nat} (h : kpM k = true) : clsM p y n k = p k := by
  have := kp_of h
  exact itF_k (fun _ _ => closeM_k (by omega) (by omega) (by omega)) n p
theorem yM_k {n y k : Nat} (h : kpM k = true) : yM p n y k = p k := by
  unfold yM
  split
  · rw [clsM_k h, evsM_k h, clrM_k h]
  · rw [evsM_k h, clrM_k h]
theorem workM_k {n m k : Nat} (h : kpM k = true) : workM p n m k = p k := itF_k (fun _ _ => yM_k h) m p
theorem m_moved (y v : Int32) (n : Nat) (hn : n ≤ 200) : ax_Met G M_X4_moved d 0 0 [.ref 31, .int y, .int v, .int (nI n)] (wQ q ++ (wM p l ++ r)) (.inl (some (.int (movM p y v n))), wQ q ++ (wM p l ++ r)) := by
  refine ax_of rfl (by decide) (Nat.le_of_ble_eq_true rfl) ?_
  refine ax_iconst (v := 0) 1 dX4_moved_0 rfl (by decide) ?_
  refine ax_istore 3 dX4_moved_1 rfl (Nat.le_of_ble_eq_true rfl) ?_
  refine ax_iconst (v := 0) 4 dX4_moved_3 rfl (by decide) ?_
  refine ax_istore 6 dX4_moved_4 rfl (Nat.le_of_ble_eq_true rfl) ?_
  refine ax_lvk (ax_down (P := fun i => ax_Ex G M_X4_moved d 0 0 6 [(0, .ref 31), (1, .int y), (2, .int v), (3, .int (nI n)), (4, .int (movM p y v i)), (5, .int (nI i))] [] (wQ q ++ (wM p l ++ r)) (.inl (some (.int (movM p y v n))), wQ q ++ (wM p l ++ r))) (n := n) ?_ (fun i hi ih => ?_) 0 (Nat.zero_le _)) ⟨rfl, rfl, rfl, rfl, rfl, rfl, trivial⟩
  · refine ax_iload 8 dX4_moved_6 rfl rfl ?_
    refine ax_iload_n 3 9 dX4_moved_8 rfl rfl rfl ?_
    refine ax_icmp_ge 90 12 dX4_moved_9 (by decide) rfl (fun c => ?_) (fun c => ?_)
    · refine ax_iload 92 dX4_moved_90 rfl rfl ?_
      exact ax_iret dX4_moved_92 rfl rfl
    · exact absurd (nI_le (Nat.le_refl n) (by omega)) c
  · refine ax_iload 8 dX4_moved_6 rfl rfl ?_
    refine ax_iload_n 3 9 dX4_moved_8 rfl rfl rfl ?_
    refine ax_icmp_ge 90 12 dX4_moved_9 (by decide) rfl (fun c => ?_) (fun c => ?_)
    · exact absurd c (nI_ge hi (by omega))
    · refine ax_jn 60 (mvB p y v i) (fun K => ?_) ?_
      · refine ax_aload_n 0 13 dX4_moved_12 rfl rfl rfl ?_
        refine ax_getf 16 dX4_moved_13 rfl fl_X4_62 rfl rfl ?_
        refine ax_iload 18 dX4_moved_16 rfl rfl ?_
        refine ax_ialdN 19 dX4_moved_18 rfl rfl rfl (by omega) (by decide) ?_
        refine ax_iconst (v := 2) 20 dX4_moved_19 rfl (by decide) ?_
        refine ax_icmp_ne 59 23 dX4_moved_20 (by decide) rfl (fun c20 => ?_) (fun c20 => ?_)
        · refine ax_iconst (v := 0) 60 dX4_moved_59 rfl (by decide) ?_
          exact ax_bx K (by simp [bI_0, bI_1, mvB, ntz, c20])
        · refine ax_aload_n 0 24 dX4_moved_23 rfl rfl rfl ?_
          refine ax_getf 27 dX4_moved_24 rfl fl_X4_65 rfl rfl ?_
          refine ax_iload 29 dX4_moved_27 rfl rfl ?_
          refine ax_ialdN 30 dX4_moved_29 rfl rfl rfl (by omega) (by decide) ?_
          refine ax_iload_n 1 31 dX4_moved_30 rfl rfl rfl ?_
          refine ax_icmp_ne 59 34 dX4_moved_31 (by decide) rfl (fun c31 => ?_) (fun c31 => ?_)
          · refine ax_iconst (v := 0) 60 dX4_moved_59 rfl (by decide) ?_
            exact ax_bx K (by simp [bI_0, bI_1, mvB, ntz, c20, c31])
          · refine ax_aload_n 0 35 dX4_moved_34 rfl rfl rfl ?_
            refine ax_getf 38 dX4_moved_35 rfl fl_X4_68 rfl rfl ?_
            refine ax_iload 40 dX4_moved_38 rfl rfl ?_
            refine ax_ialdN 41 dX4_moved_40 rfl rfl rfl (by omega) (by decide) ?_
            refine ax_iload_n 2 42 dX4_moved_41 rfl rfl rfl ?_
            refine ax_icmp_ne 59 45 dX4_moved_42 (by decide) rfl (fun c42 => ?_) (fun c42 => ?_)
            · refine ax_iconst (v := 0) 60 dX4_moved_59 rfl (by decide) ?_
              exact ax_bx K (by simp [bI_0, bI_1, mvB, ntz, c20, c31, c42])
            · refine ax_aload_n 0 46 dX4_moved_45 rfl rfl rfl ?_
              refine ax_getf 49 dX4_moved_46 rfl fl_X4_86 rfl rfl ?_
              refine ax_iload 51 dX4_moved_49 rfl rfl ?_
              refine ax_zaldN 52 dX4_moved_51 rfl rfl rfl (by omega) (by decide) ?_
              refine ax_if_eq 59 55 dX4_moved_52 (by decide) rfl (fun c52 => ?_) (fun c52 => ?_)
              · refine ax_iconst (v := 0) 60 dX4_moved_59 rfl (by decide) ?_
                exact ax_bx K (by simp [bI_0, bI_1, mvB, ntz, c20, c31, c42, c52])
              · refine ax_iconst (v := 1) 56 dX4_moved_55 rfl (by decide) ?_
                refine ax_goto 60 dX4_moved_56 (by decide) ?_
                exact ax_bx K (by simp [bI_0, bI_1, mvB, ntz, c20, c31, c42, c52])
      refine ax_istore 62 dX4_moved_60 rfl (Nat.le_of_ble_eq_true rfl) ?_
      refine ax_iload 64 dX4_moved_62 rfl rfl ?_
      refine ax_if_eq 80 67 dX4_moved_64 (by decide) rfl (fun c2 => ?_) (fun c2 => ?_)
      · refine ax_iload 82 dX4_moved_80 rfl rfl ?_
        refine ax_istore 84 dX4_moved_82 rfl (Nat.le_of_ble_eq_true rfl) ?_
        refine ax_iinc (v := (_ : Int32) + 1) 87 dX4_moved_84 rfl rfl rfl (Nat.le_of_ble_eq_true rfl) ?_
        refine ax_goto 6 dX4_moved_87 (by decide) ?_
        exact ax_lvk ih ⟨rfl, rfl, rfl, rfl, gI (by simp only [movM, itF_s]; rw [if_neg (by rw [bI_0.mp c2]; decide)]), gI (nI_1 i), trivial⟩
      · refine ax_iload 69 dX4_moved_67 rfl rfl ?_
        refine ax_aload_n 0 70 dX4_moved_69 rfl rfl rfl ?_
        refine ax_getf 73 dX4_moved_70 rfl fl_X4_77 rfl rfl ?_
        refine ax_iload 75 dX4_moved_73 rfl rfl ?_
        refine ax_ialdN 76 dX4_moved_75 rfl rfl rfl (by omega) (by decide) ?_
        refine ax_iadd 77 dX4_moved_76 rfl ?_
        refine ax_goto 82 dX4_moved_77 (by decide) ?_
        refine ax_istore 84 dX4_moved_82 rfl (Nat.le_of_ble_eq_true rfl) ?_
        refine ax_iinc (v := (_ : Int32) + 1) 87 dX4_moved_84 rfl rfl rfl (Nat.le_of_ble_eq_true rfl) ?_
        refine ax_goto 6 dX4_moved_87 (by decide) ?_
        exact ax_lvk ih ⟨rfl, rfl, rfl, rfl, gI (by simp only [movM, itF_s]; rw [if_pos (bI_n0.mp c2)]), gI (nI_1 i), trivial⟩
theorem m_may (hd : 1 ≤ d) (i : Nat) (hi : i < 200) (he : evOK (eP p) i) : ax_Met G M_X4_may d 0 0 [.ref 31, .int (nI i)] (wQ q ++ (wM p l ++ r)) (.inl (some (.int (bI (mayM p i)))), wQ q ++ (wM p l ++ r)) := by
  obtain ⟨h1, h2, h3, h4, h5, h6, h7, h8⟩ := he
  have h1 : p 50 i = nI (yr (eP p) i) := h1
  have h3 : p 51 i = nI (vs (eP p) i) := h3
  have h5 : p 52 i = nI (sp (eP p) i) := h5
  have h8 : ¬ p 49 i = 0 → ¬ p 49 i = 1 → p 53 i = nI (ot (eP p) i) ∧ ot (eP p) i < 4 := h8
  refine ax_of rfl (by decide) (Nat.le_of_ble_eq_true rfl) ?_
  refine ax_aload_n 0 1 dX4_may_0 rfl rfl rfl ?_
  refine ax_getf 4 dX4_may_1 rfl fl_X4_65 rfl rfl ?_
  refine ax_iload_n 1 5 dX4_may_4 rfl rfl rfl ?_
  refine ax_ialdN 6 dX4_may_5 rfl rfl rfl (by omega) (by decide) ?_
  refine ax_aload_n 0 7 dX4_may_6 rfl rfl rfl ?_
  refine ax_getf 10 dX4_may_7 rfl fl_X4_68 rfl rfl ?_
  refine ax_iload_n 1 11 dX4_may_10 rfl rfl rfl ?_
  refine ax_ialdN 12 dX4_may_11 rfl rfl rfl (by omega) (by decide) ?_
  refine ax_aload_n 0 13 dX4_may_12 rfl rfl rfl ?_
  refine ax_getf 16 dX4_may_13 rfl fl_X4_71 rfl rfl ?_
  refine ax_iload_n 1 17 dX4_may_16 rfl rfl rfl ?_
  refine ax_ialdN 18 dX4_may_17 rfl rfl rfl (by omega) (by decide) ?_
  rw [h1, h3, h5]
  refine ax_cS 21 dX4_may_18 rfl ml_X4_147 (m_at (d := d - 1) _ _ _) (by omega) rfl rfl (Nat.le_of_ble_eq_true rfl) ?_
  refine ax_istore_n 2 22 dX4_may_21 rfl rfl (Nat.le_of_ble_eq_true rfl) ?_
  refine ax_aload_n 0 23 dX4_may_22 rfl rfl rfl ?_
  refine ax_getf 26 dX4_may_23 rfl fl_X4_62 rfl rfl ?_
  refine ax_iload_n 1 27 dX4_may_26 rfl rfl rfl ?_
  refine ax_ialdN 28 dX4_may_27 rfl rfl rfl (by omega) (by decide) ?_
  by_cases k0 : p 49 i = 0
  · rw [show mayM p i = decide (p 54 i ≤ leftM p (kM p i)) from if_pos k0]
    refine ax_lookup (off := 28) 56 dX4_may_28 (by decide) (by rw [k0]; decide) (by decide) ?_
    refine ax_jn 75 (decide (p 54 i ≤ leftM p (kM p i))) (fun K => ?_) ?_
    · refine ax_aload_n 0 57 dX4_may_56 rfl rfl rfl ?_
      refine ax_iload_n 2 58 dX4_may_57 rfl rfl rfl ?_
      refine ax_cV 61 dX4_may_58 rfl ml_X4_153 (m_left (d := d - 1) _ (by omega)) rfl (by omega) rfl rfl (Nat.le_of_ble_eq_true rfl) ?_
      refine ax_aload_n 0 62 dX4_may_61 rfl rfl rfl ?_
      refine ax_getf 65 dX4_may_62 rfl fl_X4_77 rfl rfl ?_
      refine ax_iload_n 1 66 dX4_may_65 rfl rfl rfl ?_
      refine ax_ialdN 67 dX4_may_66 rfl rfl rfl (by omega) (by decide) ?_
      refine ax_icmp_lt 74 70 dX4_may_67 (by decide) rfl (fun c67 => ?_) (fun c67 => ?_)
      · refine ax_iconst (v := 0) 75 dX4_may_74 rfl (by decide) ?_
        exact ax_bx K (by simp [bI_0, bI_1, c67, Int32.not_le.mpr c67])
      · refine ax_iconst (v := 1) 71 dX4_may_70 rfl (by decide) ?_
        refine ax_goto 75 dX4_may_71 (by decide) ?_
        exact ax_bx K (by simp [bI_0, bI_1, c67, Int32.not_lt.mp c67])
    exact ax_zret dX4_may_75 rfl (bI_nar _) rfl
  · by_cases k1 : p 49 i = 1
    · rw [show mayM p i = decide (p 56 i = 0) from (if_neg k0).trans (if_pos k1)]
      refine ax_lookup (off := 48) 76 dX4_may_28 (by decide) (by rw [k1]; decide) (by decide) ?_
      refine ax_jn 90 (decide (p 56 i = 0)) (fun K => ?_) ?_
      · refine ax_aload_n 0 77 dX4_may_76 rfl rfl rfl ?_
        refine ax_getf 80 dX4_may_77 rfl fl_X4_83 rfl rfl ?_
        refine ax_iload_n 1 81 dX4_may_80 rfl rfl rfl ?_
        refine ax_zaldN 82 dX4_may_81 rfl rfl rfl (by omega) (by decide) ?_
        refine ax_if_ne 89 85 dX4_may_82 (by decide) rfl (fun c82 => ?_) (fun c82 => ?_)
        · refine ax_iconst (v := 0) 90 dX4_may_89 rfl (by decide) ?_
          exact ax_bx K (by simp [bI_0, bI_1, c82])
        · refine ax_iconst (v := 1) 86 dX4_may_85 rfl (by decide) ?_
          refine ax_goto 90 dX4_may_86 (by decide) ?_
          exact ax_bx K (by simp [bI_0, bI_1, c82])
      exact ax_zret dX4_may_90 rfl (bI_nar _) rfl
    · obtain ⟨h9, h10⟩ := h8 k0 k1
      rw [show mayM p i = (decide (p 54 i ≤ p 45 (kM p i)) && (decide (p 55 i ≤ leftM p (kS p i)) && decide (movM p (nI (yr (eP p) i)) (nI (vs (eP p) i)) i + p 54 i ≤ 1000))) from (if_neg k0).trans (if_neg k1)]
      refine ax_lookup (off := 63) 91 dX4_may_28 (by decide) ((lv_osw k0 rfl).trans (lv_osw k1 rfl)) (by decide) ?_
      refine ax_jn 175 (decide (p 54 i ≤ p 45 (kM p i)) && (decide (p 55 i ≤ leftM p (kS p i)) && decide (movM p (nI (yr (eP p) i)) (nI (vs (eP p) i)) i + p 54 i ≤ 1000))) (fun K => ?_) ?_
      · refine ax_aload_n 0 92 dX4_may_91 rfl rfl rfl ?_
        refine ax_getf 95 dX4_may_92 rfl fl_X4_50 rfl rfl ?_
        refine ax_iload_n 2 96 dX4_may_95 rfl rfl rfl ?_
        refine ax_ialdN 97 dX4_may_96 rfl rfl rfl (by omega) (by decide) ?_
        refine ax_aload_n 0 98 dX4_may_97 rfl rfl rfl ?_
        refine ax_getf 101 dX4_may_98 rfl fl_X4_77 rfl rfl ?_
        refine ax_iload_n 1 102 dX4_may_101 rfl rfl rfl ?_
        refine ax_ialdN 103 dX4_may_102 rfl rfl rfl (by omega) (by decide) ?_
        refine ax_icmp_lt 174 106 dX4_may_103 (by decide) rfl (fun c => ?_) (fun c => ?_)
        · refine ax_iconst (v := 0) 175 dX4_may_174 rfl (by decide) ?_
          exact ax_bx K (by simp [bI_0, Int32.not_le.mpr c])
        · refine ax_aload_n 0 107 dX4_may_106 rfl rfl rfl ?_
          refine ax_aload_n 0 108 dX4_may_107 rfl rfl rfl ?_
          refine ax_getf 111 dX4_may_108 rfl fl_X4_65 rfl rfl ?_
          refine ax_iload_n 1 112 dX4_may_111 rfl rfl rfl ?_
          refine ax_ialdN 113 dX4_may_112 rfl rfl rfl (by omega) (by decide) ?_
          refine ax_aload_n 0 114 dX4_may_113 rfl rfl rfl ?_
          refine ax_getf 117 dX4_may_114 rfl fl_X4_68 rfl rfl ?_
          refine ax_iload_n 1 118 dX4_may_117 rfl rfl rfl ?_
          refine ax_ialdN 119 dX4_may_118 rfl rfl rfl (by omega) (by decide) ?_
          refine ax_aload_n 0 120 dX4_may_119 rfl rfl rfl ?_
          refine ax_getf 123 dX4_may_120 rfl fl_X4_74 rfl rfl ?_
          refine ax_iload_n 1 124 dX4_may_123 rfl rfl rfl ?_
          refine ax_ialdN 125 dX4_may_124 rfl rfl rfl (by omega) (by decide) ?_
          rw [h1, h3, h9]
          refine ax_cS 128 dX4_may_125 rfl ml_X4_147 (m_at (d := d - 1) _ _ _) (by omega) rfl rfl (Nat.le_of_ble_eq_true rfl) ?_
          refine ax_cV 131 dX4_may_128 rfl ml_X4_153 (m_left (d := d - 1) _ (by omega)) rfl (by omega) rfl rfl (Nat.le_of_ble_eq_true rfl) ?_
          refine ax_aload_n 0 132 dX4_may_131 rfl rfl rfl ?_
          refine ax_getf 135 dX4_may_132 rfl fl_X4_80 rfl rfl ?_
          refine ax_iload_n 1 136 dX4_may_135 rfl rfl rfl ?_
          refine ax_ialdN 137 dX4_may_136 rfl rfl rfl (by omega) (by decide) ?_
          refine ax_icmp_lt 174 140 dX4_may_137 (by decide) rfl (fun c2 => ?_) (fun c2 => ?_)
          · refine ax_iconst (v := 0) 175 dX4_may_174 rfl (by decide) ?_
            exact ax_bx K (by simp [bI_0, Int32.not_le.mpr c2])
          · refine ax_aload_n 0 141 dX4_may_140 rfl rfl rfl ?_
            refine ax_aload_n 0 142 dX4_may_141 rfl rfl rfl ?_
            refine ax_getf 145 dX4_may_142 rfl fl_X4_65 rfl rfl ?_
            refine ax_iload_n 1 146 dX4_may_145 rfl rfl rfl ?_
            refine ax_ialdN 147 dX4_may_146 rfl rfl rfl (by omega) (by decide) ?_
            refine ax_aload_n 0 148 dX4_may_147 rfl rfl rfl ?_
            refine ax_getf 151 dX4_may_148 rfl fl_X4_68 rfl rfl ?_
            refine ax_iload_n 1 152 dX4_may_151 rfl rfl rfl ?_
            refine ax_ialdN 153 dX4_may_152 rfl rfl rfl (by omega) (by decide) ?_
            rw [h1, h3]
            refine ax_iload_n 1 154 dX4_may_153 rfl rfl rfl ?_
            refine ax_cV 157 dX4_may_154 rfl ml_X4_157 (m_moved (d := d - 1) _ _ i (by omega)) rfl (by omega) rfl rfl (Nat.le_of_ble_eq_true rfl) ?_
            refine ax_aload_n 0 158 dX4_may_157 rfl rfl rfl ?_
            refine ax_getf 161 dX4_may_158 rfl fl_X4_77 rfl rfl ?_
            refine ax_iload_n 1 162 dX4_may_161 rfl rfl rfl ?_
            refine ax_ialdN 163 dX4_may_162 rfl rfl rfl (by omega) (by decide) ?_
            refine ax_iadd 164 dX4_may_163 rfl ?_
            refine ax_sipush (v := 1000) 167 dX4_may_164 rfl (by decide) ?_
            refine ax_icmp_gt 174 170 dX4_may_167 (by decide) rfl (fun c3 => ?_) (fun c3 => ?_)
            · refine ax_iconst (v := 0) 175 dX4_may_174 rfl (by decide) ?_
              exact ax_bx K (by simp [bI_0, Int32.not_le.mpr c3])
            · refine ax_iconst (v := 1) 171 dX4_may_170 rfl (by decide) ?_
              refine ax_goto 175 dX4_may_171 (by decide) ?_
              exact ax_bx K (by simp [bI_1, Int32.not_lt.mp c, Int32.not_lt.mp c2, Int32.not_lt.mp c3])
      · exact ax_zret dX4_may_175 rfl (bI_nar _) rfl
theorem m_act (hd : 1 ≤ d) (i : Nat) (hi : i < 200) (he : evOK (eP p) i) : ax_Met G M_X4_act d 0 0 [.ref 31, .int (nI i)] (wQ q ++ (wM p l ++ r)) (.inl none, wQ q ++ (wM (actM p i) l ++ r)) := by
  obtain ⟨h1, h2, h3, h4, h5, h6, h7, h8⟩ := he
  have h1 : p 50 i = nI (yr (eP p) i) := h1
  have h3 : p 51 i = nI (vs (eP p) i) := h3
  have h5 : p 52 i = nI (sp (eP p) i) := h5
  have h7 : p 49 i = 0 → p 53 i = nI (ot (eP p) i) ∧ ot (eP p) i < 6 := h7
  have h8 : ¬ p 49 i = 0 → ¬ p 49 i = 1 → p 53 i = nI (ot (eP p) i) ∧ ot (eP p) i < 4 := h8
  refine ax_of rfl (by decide) (Nat.le_of_ble_eq_true rfl) ?_
  refine ax_aload_n 0 1 dX4_act_0 rfl rfl rfl ?_
  refine ax_getf 4 dX4_act_1 rfl fl_X4_65 rfl rfl ?_
  refine ax_iload_n 1 5 dX4_act_4 rfl rfl rfl ?_
  refine ax_ialdN 6 dX4_act_5 rfl rfl rfl (by omega) (by decide) ?_
  refine ax_aload_n 0 7 dX4_act_6 rfl rfl rfl ?_
  refine ax_getf 10 dX4_act_7 rfl fl_X4_68 rfl rfl ?_
  refine ax_iload_n 1 11 dX4_act_10 rfl rfl rfl ?_
  refine ax_ialdN 12 dX4_act_11 rfl rfl rfl (by omega) (by decide) ?_
  refine ax_aload_n 0 13 dX4_act_12 rfl rfl rfl ?_
  refine ax_getf 16 dX4_act_13 rfl fl_X4_71 rfl rfl ?_
  refine ax_iload_n 1 17 dX4_act_16 rfl rfl rfl ?_
  refine ax_ialdN 18 dX4_act_17 rfl rfl rfl (by omega) (by decide) ?_
  rw [h1, h3, h5]
  refine ax_cS 21 dX4_act_18 rfl ml_X4_147 (m_at (d := d - 1) _ _ _) (by omega) rfl rfl (Nat.le_of_ble_eq_true rfl) ?_
  refine ax_istore_n 2 22 dX4_act_21 rfl rfl (Nat.le_of_ble_eq_true rfl) ?_
  refine ax_aload_n 0 23 dX4_act_22 rfl rfl rfl ?_
  refine ax_getf 26 dX4_act_23 rfl fl_X4_62 rfl rfl ?_
  refine ax_iload_n 1 27 dX4_act_26 rfl rfl rfl ?_
  refine ax_ialdN 28 dX4_act_27 rfl rfl rfl (by omega) (by decide) ?_
  by_cases k0 : p 49 i = 0
  · obtain ⟨h9, h10⟩ := h7 k0
    rw [show actM p i = qv (qv p 42 (kM p i) (p 42 (kM p i) - p 54 i)) 42 (kV p i) (qv p 42 (kM p i) (p 42 (kM p i) - p 54 i) 42 (kV p i) + p 54 i) from if_pos k0]
    refine ax_lookup (off := 28) 56 dX4_act_28 (by decide) (by rw [k0]; decide) (by decide) ?_
    refine ax_aload_n 0 57 dX4_act_56 rfl rfl rfl ?_
    refine ax_getf 60 dX4_act_57 rfl fl_X4_41 rfl rfl ?_
    refine ax_iload_n 2 61 dX4_act_60 rfl rfl rfl ?_
    refine ax_aload_n 0 62 dX4_act_61 rfl rfl rfl ?_
    refine ax_getf 65 dX4_act_62 rfl fl_X4_41 rfl rfl ?_
    refine ax_iload_n 2 66 dX4_act_65 rfl rfl rfl ?_
    refine ax_ialdN 67 dX4_act_66 rfl rfl rfl (by omega) (by decide) ?_
    refine ax_aload_n 0 68 dX4_act_67 rfl rfl rfl ?_
    refine ax_getf 71 dX4_act_68 rfl fl_X4_77 rfl rfl ?_
    refine ax_iload_n 1 72 dX4_act_71 rfl rfl rfl ?_
    refine ax_ialdN 73 dX4_act_72 rfl rfl rfl (by omega) (by decide) ?_
    refine ax_isub 74 dX4_act_73 rfl ?_
    refine ax_iastN 75 dX4_act_74 rfl rfl rfl (by omega) (by decide) ?_
    rw [wMs_42]
    refine ax_aload_n 0 76 dX4_act_75 rfl rfl rfl ?_
    refine ax_getf 79 dX4_act_76 rfl fl_X4_41 rfl rfl ?_
    refine ax_aload_n 0 80 dX4_act_79 rfl rfl rfl ?_
    refine ax_getf 83 dX4_act_80 rfl fl_X4_65 rfl rfl ?_
    refine ax_iload_n 1 84 dX4_act_83 rfl rfl rfl ?_
    refine ax_ialdN 85 dX4_act_84 rfl rfl rfl (by omega) (by decide) ?_
    refine ax_aload_n 0 86 dX4_act_85 rfl rfl rfl ?_
    refine ax_getf 89 dX4_act_86 rfl fl_X4_74 rfl rfl ?_
    refine ax_iload_n 1 90 dX4_act_89 rfl rfl rfl ?_
    refine ax_ialdN 91 dX4_act_90 rfl rfl rfl (by omega) (by decide) ?_
    refine ax_aload_n 0 92 dX4_act_91 rfl rfl rfl ?_
    refine ax_getf 95 dX4_act_92 rfl fl_X4_71 rfl rfl ?_
    refine ax_iload_n 1 96 dX4_act_95 rfl rfl rfl ?_
    refine ax_ialdN 97 dX4_act_96 rfl rfl rfl (by omega) (by decide) ?_
    rw [show (qw p 42 (upd (p 42) (kM p i) (p 42 (kM p i) - p 54 i))) 50 i = p 50 i from rfl, show (qw p 42 (upd (p 42) (kM p i) (p 42 (kM p i) - p 54 i))) 53 i = p 53 i from rfl, show (qw p 42 (upd (p 42) (kM p i) (p 42 (kM p i) - p 54 i))) 52 i = p 52 i from rfl, h1, h9, h5]
    refine ax_cS 100 dX4_act_97 rfl ml_X4_147 (m_at (d := d - 1) _ _ _) (by omega) rfl rfl (Nat.le_of_ble_eq_true rfl) ?_
    refine ax_dup2 101 dX4_act_100 rfl rfl rfl ?_
    refine ax_ialdN 102 dX4_act_101 rfl rfl rfl (by omega) (by decide) ?_
    refine ax_aload_n 0 103 dX4_act_102 rfl rfl rfl ?_
    refine ax_getf 106 dX4_act_103 rfl fl_X4_77 rfl rfl ?_
    refine ax_iload_n 1 107 dX4_act_106 rfl rfl rfl ?_
    refine ax_ialdN 108 dX4_act_107 rfl rfl rfl (by omega) (by decide) ?_
    refine ax_iadd 109 dX4_act_108 rfl ?_
    refine ax_iastN 110 dX4_act_109 rfl rfl rfl (by omega) (by decide) ?_
    rw [wMs_42]
    refine ax_goto 189 dX4_act_110 (by decide) ?_
    exact ax_vret dX4_act_189 rfl rfl
  · by_cases k1 : p 49 i = 1
    · rw [show actM p i = qv p 45 (kM p i) (p 45 (kM p i) + p 55 i) from (if_neg k0).trans (if_pos k1)]
      refine ax_lookup (off := 85) 113 dX4_act_28 (by decide) (by rw [k1]; decide) (by decide) ?_
      refine ax_aload_n 0 114 dX4_act_113 rfl rfl rfl ?_
      refine ax_getf 117 dX4_act_114 rfl fl_X4_50 rfl rfl ?_
      refine ax_iload_n 2 118 dX4_act_117 rfl rfl rfl ?_
      refine ax_aload_n 0 119 dX4_act_118 rfl rfl rfl ?_
      refine ax_getf 122 dX4_act_119 rfl fl_X4_50 rfl rfl ?_
      refine ax_iload_n 2 123 dX4_act_122 rfl rfl rfl ?_
      refine ax_ialdN 124 dX4_act_123 rfl rfl rfl (by omega) (by decide) ?_
      refine ax_aload_n 0 125 dX4_act_124 rfl rfl rfl ?_
      refine ax_getf 128 dX4_act_125 rfl fl_X4_80 rfl rfl ?_
      refine ax_iload_n 1 129 dX4_act_128 rfl rfl rfl ?_
      refine ax_ialdN 130 dX4_act_129 rfl rfl rfl (by omega) (by decide) ?_
      refine ax_iadd 131 dX4_act_130 rfl ?_
      refine ax_iastN 132 dX4_act_131 rfl rfl rfl (by omega) (by decide) ?_
      rw [wMs_45]
      refine ax_goto 189 dX4_act_132 (by decide) ?_
      exact ax_vret dX4_act_189 rfl rfl
    · obtain ⟨h9, h10⟩ := h8 k0 k1
      rw [show actM p i = qv (qv p 45 (kM p i) (p 45 (kM p i) - p 54 i)) 45 (kS p i) (qv p 45 (kM p i) (p 45 (kM p i) - p 54 i) 45 (kS p i) + p 55 i) from (if_neg k0).trans (if_neg k1)]
      refine ax_lookup (off := 107) 135 dX4_act_28 (by decide) ((lv_osw k0 rfl).trans (lv_osw k1 rfl)) (by decide) ?_
      refine ax_aload_n 0 136 dX4_act_135 rfl rfl rfl ?_
      refine ax_getf 139 dX4_act_136 rfl fl_X4_50 rfl rfl ?_
      refine ax_iload_n 2 140 dX4_act_139 rfl rfl rfl ?_
      refine ax_aload_n 0 141 dX4_act_140 rfl rfl rfl ?_
      refine ax_getf 144 dX4_act_141 rfl fl_X4_50 rfl rfl ?_
      refine ax_iload_n 2 145 dX4_act_144 rfl rfl rfl ?_
      refine ax_ialdN 146 dX4_act_145 rfl rfl rfl (by omega) (by decide) ?_
      refine ax_aload_n 0 147 dX4_act_146 rfl rfl rfl ?_
      refine ax_getf 150 dX4_act_147 rfl fl_X4_77 rfl rfl ?_
      refine ax_iload_n 1 151 dX4_act_150 rfl rfl rfl ?_
      refine ax_ialdN 152 dX4_act_151 rfl rfl rfl (by omega) (by decide) ?_
      refine ax_isub 153 dX4_act_152 rfl ?_
      refine ax_iastN 154 dX4_act_153 rfl rfl rfl (by omega) (by decide) ?_
      rw [wMs_45]
      refine ax_aload_n 0 155 dX4_act_154 rfl rfl rfl ?_
      refine ax_getf 158 dX4_act_155 rfl fl_X4_50 rfl rfl ?_
      refine ax_aload_n 0 159 dX4_act_158 rfl rfl rfl ?_
      refine ax_getf 162 dX4_act_159 rfl fl_X4_65 rfl rfl ?_
      refine ax_iload_n 1 163 dX4_act_162 rfl rfl rfl ?_
      refine ax_ialdN 164 dX4_act_163 rfl rfl rfl (by omega) (by decide) ?_
      refine ax_aload_n 0 165 dX4_act_164 rfl rfl rfl ?_
      refine ax_getf 168 dX4_act_165 rfl fl_X4_68 rfl rfl ?_
      refine ax_iload_n 1 169 dX4_act_168 rfl rfl rfl ?_
      refine ax_ialdN 170 dX4_act_169 rfl rfl rfl (by omega) (by decide) ?_
      refine ax_aload_n 0 171 dX4_act_170 rfl rfl rfl ?_
      refine ax_getf 174 dX4_act_171 rfl fl_X4_74 rfl rfl ?_
      refine ax_iload_n 1 175 dX4_act_174 rfl rfl rfl ?_
      refine ax_ialdN 176 dX4_act_175 rfl rfl rfl (by omega) (by decide) ?_
      rw [show (qw p 45 (upd (p 45) (kM p i) (p 45 (kM p i) - p 54 i))) 50 i = p 50 i from rfl, show (qw p 45 (upd (p 45) (kM p i) (p 45 (kM p i) - p 54 i))) 53 i = p 53 i from rfl, show (qw p 45 (upd (p 45) (kM p i) (p 45 (kM p i) - p 54 i))) 51 i = p 51 i from rfl, h1, h9, h3]
      refine ax_cS 179 dX4_act_176 rfl ml_X4_147 (m_at (d := d - 1) _ _ _) (by omega) rfl rfl (Nat.le_of_ble_eq_true rfl) ?_
      refine ax_dup2 180 dX4_act_179 rfl rfl rfl ?_
      refine ax_ialdN 181 dX4_act_180 rfl rfl rfl (by omega) (by decide) ?_
      refine ax_aload_n 0 182 dX4_act_181 rfl rfl rfl ?_
      refine ax_getf 185 dX4_act_182 rfl fl_X4_80 rfl rfl ?_
      refine ax_iload_n 1 186 dX4_act_185 rfl rfl rfl ?_
      refine ax_ialdN 187 dX4_act_186 rfl rfl rfl (by omega) (by decide) ?_
      refine ax_iadd 188 dX4_act_187 rfl ?_
      refine ax_iastN 189 dX4_act_188 rfl rfl rfl (by omega) (by decide) ?_
      rw [wMs_45]
      exact ax_vret dX4_act_189 rfl rfl
theorem m_close (hd : 1 ≤ d) (k : Nat) (hk : k < 216) : ax_Met G M_X4_close d 0 0 [.ref 31, .int (nI k)] (wQ q ++ (wM p l ++ r)) (.inl none, wQ q ++ (wM (closeM p k) l ++ r)) := by
  refine ax_of rfl (by decide) (Nat.le_of_ble_eq_true rfl) ?_
  refine ax_aload_n 0 1 dX4_close_0 rfl rfl rfl ?_
  refine ax_iload_n 1 2 dX4_close_1 rfl rfl rfl ?_
  refine ax_cV 5 dX4_close_2 rfl ml_X4_153 (m_left (d := d - 1) k hk) rfl (by omega) rfl rfl (Nat.le_of_ble_eq_true rfl) ?_
  refine ax_istore_n 2 6 dX4_close_5 rfl rfl (Nat.le_of_ble_eq_true rfl) ?_
  refine ax_ldc2 (v := 15) 9 dX4_close_6 rfl cj_X4_160 ?_
  refine ax_aload_n 0 10 dX4_close_9 rfl rfl rfl ?_
  refine ax_getf 13 dX4_close_10 rfl fl_X4_38 rfl rfl ?_
  refine ax_iload_n 1 14 dX4_close_13 rfl rfl rfl ?_
  refine ax_ialdN 15 dX4_close_14 rfl rfl rfl (by omega) (by decide) ?_
  refine ax_i2l 16 dX4_close_15 rfl ?_
  refine ax_lmul 17 dX4_close_16 rfl ?_
  refine ax_ldc2 (v := 100) 20 dX4_close_17 rfl cj_X4_162 ?_
  refine ax_ldiv 21 dX4_close_20 rfl (by decide) ?_
  refine ax_l2i 22 dX4_close_21 rfl ?_
  refine ax_istore_n 3 23 dX4_close_22 rfl rfl (Nat.le_of_ble_eq_true rfl) ?_
  have K0 : ax_Ex G M_X4_close d 0 0 33 [(0, .ref 31), (1, .int (nI k)), (2, .int (leftM p k)), (3, .int ((15 : Int64) * (p 41 k).toInt64 / 100).toInt32)] [.int (ovM (leftM p k))] (wQ q ++ (wM p l ++ r)) (.inl none, wQ q ++ (wM (closeM p k) l ++ r)) := by
    refine ax_istore 35 dX4_close_33 rfl (Nat.le_of_ble_eq_true rfl) ?_
    refine ax_ldc2 (v := 5) 38 dX4_close_35 rfl cj_X4_104 ?_
    refine ax_aload_n 0 39 dX4_close_38 rfl rfl rfl ?_
    refine ax_getf 42 dX4_close_39 rfl fl_X4_38 rfl rfl ?_
    refine ax_iload_n 1 43 dX4_close_42 rfl rfl rfl ?_
    refine ax_ialdN 44 dX4_close_43 rfl rfl rfl (by omega) (by decide) ?_
    refine ax_i2l 45 dX4_close_44 rfl ?_
    refine ax_lmul 46 dX4_close_45 rfl ?_
    refine ax_ldc2 (v := 100) 49 dX4_close_46 rfl cj_X4_162 ?_
    refine ax_ldiv 50 dX4_close_49 rfl (by decide) ?_
    refine ax_l2i 51 dX4_close_50 rfl ?_
    refine ax_istore 53 dX4_close_51 rfl (Nat.le_of_ble_eq_true rfl) ?_
    unfold closeM
    generalize leftM p k = rest
    generalize ((15 : Int64) * (p 41 k).toInt64 / 100).toInt32 = share
    generalize ovM rest = over
    generalize ((5 : Int64) * (p 41 k).toInt64 / 100).toInt32 = ahead
    have K2 : ∀ x : Int32, x = (if 0 ≤ rest then (if share ≤ rest then share else rest) else 0) → ax_Ex G M_X4_close d 0 0 76 [(0, .ref 31), (1, .int (nI k)), (4, .int over), (5, .int ahead)] [.int x, .int (nI k), .ref 46] (wQ q ++ (wM p l ++ r)) (.inl none, wQ q ++ (wM (clo1 p k rest share over ahead) l ++ r)) := by
      intro x hx
      subst hx
      unfold clo1
      dsimp only
      generalize (if 0 ≤ rest then (if share ≤ rest then share else rest) else 0) = x
      refine ax_iastN 77 dX4_close_76 rfl rfl rfl (by omega) (by decide) ?_
      rw [wMs_46]
      refine ax_aload_n 0 78 dX4_close_77 rfl rfl rfl ?_
      refine ax_getf 81 dX4_close_78 rfl fl_X4_56 rfl rfl ?_
      refine ax_iload_n 1 82 dX4_close_81 rfl rfl rfl ?_
      refine ax_iload 84 dX4_close_82 rfl rfl ?_
      refine ax_iload 86 dX4_close_84 rfl rfl ?_
      refine ax_icmp_ge 94 89 dX4_close_86 (by decide) rfl (fun c => ?_) (fun c => ?_)
      · rw [if_pos c]
        refine ax_iload 96 dX4_close_94 rfl rfl ?_
        refine ax_iastN 97 dX4_close_96 rfl rfl rfl (by omega) (by decide) ?_
        rw [wMs_47]
        refine ax_aload_n 0 98 dX4_close_97 rfl rfl rfl ?_
        refine ax_getf 101 dX4_close_98 rfl fl_X4_59 rfl rfl ?_
        refine ax_iload_n 1 102 dX4_close_101 rfl rfl rfl ?_
        refine ax_iload 104 dX4_close_102 rfl rfl ?_
        refine ax_aload_n 0 105 dX4_close_104 rfl rfl rfl ?_
        refine ax_getf 108 dX4_close_105 rfl fl_X4_56 rfl rfl ?_
        refine ax_iload_n 1 109 dX4_close_108 rfl rfl rfl ?_
        refine ax_ialdN 110 dX4_close_109 rfl rfl rfl (by omega) (by decide) ?_
        refine ax_isub 111 dX4_close_110 rfl ?_
        refine ax_iastN 112 dX4_close_111 rfl rfl rfl (by omega) (by decide) ?_
        rw [wMs_48]
        exact ax_vret dX4_close_112 rfl rfl
      · rw [if_neg c]
        refine ax_iload 91 dX4_close_89 rfl rfl ?_
        refine ax_goto 96 dX4_close_91 (by decide) ?_
        refine ax_iastN 97 dX4_close_96 rfl rfl rfl (by omega) (by decide) ?_
        rw [wMs_47]
        refine ax_aload_n 0 98 dX4_close_97 rfl rfl rfl ?_
        refine ax_getf 101 dX4_close_98 rfl fl_X4_59 rfl rfl ?_
        refine ax_iload_n 1 102 dX4_close_101 rfl rfl rfl ?_
        refine ax_iload 104 dX4_close_102 rfl rfl ?_
        refine ax_aload_n 0 105 dX4_close_104 rfl rfl rfl ?_
        refine ax_getf 108 dX4_close_105 rfl fl_X4_56 rfl rfl ?_
        refine ax_iload_n 1 109 dX4_close_108 rfl rfl rfl ?_
        refine ax_ialdN 110 dX4_close_109 rfl rfl rfl (by omega) (by decide) ?_
        refine ax_isub 111 dX4_close_110 rfl ?_
        refine ax_iastN 112 dX4_close_111 rfl rfl rfl (by omega) (by decide) ?_
        rw [wMs_48]
        exact ax_vret dX4_close_112 rfl rfl
    refine ax_aload_n 0 54 dX4_close_53 rfl rfl rfl ?_
    refine ax_getf 57 dX4_close_54 rfl fl_X4_53 rfl rfl ?_
    refine ax_iload_n 1 58 dX4_close_57 rfl rfl rfl ?_
    refine ax_iload_n 2 59 dX4_close_58 rfl rfl rfl ?_
    refine ax_if_ge 66 62 dX4_close_59 (by decide) rfl (fun c => ?_) (fun c => ?_)
    · refine ax_iload_n 2 67 dX4_close_66 rfl rfl rfl ?_
      refine ax_iload_n 3 68 dX4_close_67 rfl rfl rfl ?_
      refine ax_icmp_ge 75 71 dX4_close_68 (by decide) rfl (fun c2 => ?_) (fun c2 => ?_)
      · refine ax_iload_n 3 76 dX4_close_75 rfl rfl rfl ?_
        exact ax_lvk (K2 _ (by rw [if_pos c, if_pos c2])) ⟨rfl, rfl, rfl, rfl, trivial⟩
      · refine ax_iload_n 2 72 dX4_close_71 rfl rfl rfl ?_
        refine ax_goto 76 dX4_close_72 (by decide) ?_
        exact ax_lvk (K2 _ (by rw [if_pos c, if_neg c2])) ⟨rfl, rfl, rfl, rfl, trivial⟩
    · refine ax_iconst (v := 0) 63 dX4_close_62 rfl (by decide) ?_
      refine ax_goto 76 dX4_close_63 (by decide) ?_
      exact ax_lvk (K2 _ (by rw [if_neg c])) ⟨rfl, rfl, rfl, rfl, trivial⟩
  refine ax_iload_n 2 24 dX4_close_23 rfl rfl rfl ?_
  refine ax_if_ge 32 27 dX4_close_24 (by decide) rfl (fun c => ?_) (fun c => ?_)
  · refine ax_iconst (v := 0) 33 dX4_close_32 rfl (by decide) ?_
    rw [show ovM (leftM p k) = 0 from if_pos c] at K0
    exact ax_lvk K0 ⟨rfl, rfl, rfl, rfl, trivial⟩
  · refine ax_iload_n 2 28 dX4_close_27 rfl rfl rfl ?_
    refine ax_ineg 29 dX4_close_28 rfl ?_
    refine ax_goto 33 dX4_close_29 (by decide) ?_
    rw [show ovM (leftM p k) = -leftM p k from if_neg c] at K0
    exact ax_lvk K0 ⟨rfl, rfl, rfl, rfl, trivial⟩
theorem m_tell (n : Nat) (a b c e f g h : Int32) (hn : n < 200) (hc : p 31 20 = nI n) : ax_Met G M_X4_tell d 0 0 [.ref 31, .int a, .int b, .int c, .int e, .int f, .int g, .int h] (wQ q ++ (wM p l ++ r)) (.inl none, wQ q ++ (wM (tellM p n a b c e f g h) l ++ r)) := by
  refine ax_of rfl (by decide) (Nat.le_of_ble_eq_true rfl) ?_
  refine ax_aload_n 0 1 dX4_tell_0 rfl rfl rfl ?_
  refine ax_getf 4 dX4_tell_1 rfl fl_X4_62 rfl rfl ?_
  refine ax_aload_n 0 5 dX4_tell_4 rfl rfl rfl ?_
  refine ax_getf 8 dX4_tell_5 rfl fl_X4_164 rfl rfl ?_
  refine ax_iload_n 1 9 dX4_tell_8 rfl rfl rfl ?_
  refine ax_iastN 10 dX4_tell_9 rfl rfl hc (by omega) (by decide) ?_
  rw [wMs_49]
  refine ax_aload_n 0 11 dX4_tell_10 rfl rfl rfl ?_
  refine ax_getf 14 dX4_tell_11 rfl fl_X4_65 rfl rfl ?_
  refine ax_aload_n 0 15 dX4_tell_14 rfl rfl rfl ?_
  refine ax_getf 18 dX4_tell_15 rfl fl_X4_164 rfl rfl ?_
  refine ax_iload_n 2 19 dX4_tell_18 rfl rfl rfl ?_
  refine ax_iastN 20 dX4_tell_19 rfl rfl hc (by omega) (by decide) ?_
  rw [wMs_50]
  refine ax_aload_n 0 21 dX4_tell_20 rfl rfl rfl ?_
  refine ax_getf 24 dX4_tell_21 rfl fl_X4_68 rfl rfl ?_
  refine ax_aload_n 0 25 dX4_tell_24 rfl rfl rfl ?_
  refine ax_getf 28 dX4_tell_25 rfl fl_X4_164 rfl rfl ?_
  refine ax_iload_n 3 29 dX4_tell_28 rfl rfl rfl ?_
  refine ax_iastN 30 dX4_tell_29 rfl rfl hc (by omega) (by decide) ?_
  rw [wMs_51]
  refine ax_aload_n 0 31 dX4_tell_30 rfl rfl rfl ?_
  refine ax_getf 34 dX4_tell_31 rfl fl_X4_71 rfl rfl ?_
  refine ax_aload_n 0 35 dX4_tell_34 rfl rfl rfl ?_
  refine ax_getf 38 dX4_tell_35 rfl fl_X4_164 rfl rfl ?_
  refine ax_iload 40 dX4_tell_38 rfl rfl ?_
  refine ax_iastN 41 dX4_tell_40 rfl rfl hc (by omega) (by decide) ?_
  rw [wMs_52]
  refine ax_aload_n 0 42 dX4_tell_41 rfl rfl rfl ?_
  refine ax_getf 45 dX4_tell_42 rfl fl_X4_74 rfl rfl ?_
  refine ax_aload_n 0 46 dX4_tell_45 rfl rfl rfl ?_
  refine ax_getf 49 dX4_tell_46 rfl fl_X4_164 rfl rfl ?_
  refine ax_iload 51 dX4_tell_49 rfl rfl ?_
  refine ax_iastN 52 dX4_tell_51 rfl rfl hc (by omega) (by decide) ?_
  rw [wMs_53]
  refine ax_aload_n 0 53 dX4_tell_52 rfl rfl rfl ?_
  refine ax_getf 56 dX4_tell_53 rfl fl_X4_77 rfl rfl ?_
  refine ax_aload_n 0 57 dX4_tell_56 rfl rfl rfl ?_
  refine ax_getf 60 dX4_tell_57 rfl fl_X4_164 rfl rfl ?_
  refine ax_iload 62 dX4_tell_60 rfl rfl ?_
  refine ax_iastN 63 dX4_tell_62 rfl rfl hc (by omega) (by decide) ?_
  rw [wMs_54]
  refine ax_aload_n 0 64 dX4_tell_63 rfl rfl rfl ?_
  refine ax_getf 67 dX4_tell_64 rfl fl_X4_80 rfl rfl ?_
  refine ax_aload_n 0 68 dX4_tell_67 rfl rfl rfl ?_
  refine ax_getf 71 dX4_tell_68 rfl fl_X4_164 rfl rfl ?_
  refine ax_iload 73 dX4_tell_71 rfl rfl ?_
  refine ax_iastN 74 dX4_tell_73 rfl rfl hc (by omega) (by decide) ?_
  rw [wMs_55]
  refine ax_aload_n 0 75 dX4_tell_74 rfl rfl rfl ?_
  refine ax_getf 78 dX4_tell_75 rfl fl_X4_83 rfl rfl ?_
  refine ax_aload_n 0 79 dX4_tell_78 rfl rfl rfl ?_
  refine ax_getf 82 dX4_tell_79 rfl fl_X4_164 rfl rfl ?_
  refine ax_iconst (v := 0) 83 dX4_tell_82 rfl (by decide) ?_
  refine ax_zastN 84 dX4_tell_83 rfl rfl hc (by omega) (by decide) (by decide) ?_
  rw [wMs_56]
  refine ax_aload_n 0 85 dX4_tell_84 rfl rfl rfl ?_
  refine ax_getf 88 dX4_tell_85 rfl fl_X4_86 rfl rfl ?_
  refine ax_aload_n 0 89 dX4_tell_88 rfl rfl rfl ?_
  refine ax_getf 92 dX4_tell_89 rfl fl_X4_164 rfl rfl ?_
  refine ax_iconst (v := 0) 93 dX4_tell_92 rfl (by decide) ?_
  refine ax_zastN 94 dX4_tell_93 rfl rfl hc (by omega) (by decide) (by decide) ?_
  rw [wMs_57]
  exact ax_vret dX4_tell_94 rfl rfl
theorem m_takes (t : Nat) (ht : t ≤ 8) : ax_Met G M_X4_takes d 0 0 [.ref 31, .int (nI t)] (wQ q ++ (wM p l ++ r)) (.inl (some (.int (bI (tkM p t)))), wQ q ++ (wM p l ++ r)) := by
  refine ax_of rfl (by decide) (Nat.le_of_ble_eq_true rfl) ?_
  refine ax_jn 29 (tkM p t) (fun K => ?_) ?_
  · refine ax_aload_n 0 1 dX4_takes_0 rfl rfl rfl ?_
    refine ax_getf 4 dX4_takes_1 rfl fl_X4_35 rfl rfl ?_
    refine ax_iload_n 1 5 dX4_takes_4 rfl rfl rfl ?_
    refine ax_zaldN 6 dX4_takes_5 rfl rfl rfl (by omega) (by decide) ?_
    refine ax_if_ne 24 9 dX4_takes_6 (by decide) rfl (fun c6 => ?_) (fun c6 => ?_)
    · refine ax_iconst (v := 1) 25 dX4_takes_24 rfl (by decide) ?_
      refine ax_goto 29 dX4_takes_25 (by decide) ?_
      exact ax_bx K (by simp [bI_0, bI_1, tkM, ntz, c6])
    · refine ax_aload_n 0 10 dX4_takes_9 rfl rfl rfl ?_
      refine ax_getf 13 dX4_takes_10 rfl fl_X4_173 rfl rfl ?_
      refine ax_if_eq 28 16 dX4_takes_13 (by decide) rfl (fun c13 => ?_) (fun c13 => ?_)
      · refine ax_iconst (v := 0) 29 dX4_takes_28 rfl (by decide) ?_
        exact ax_bx K (by simp [bI_0, bI_1, tkM, ntz, c6, c13])
      · refine ax_iload_n 1 17 dX4_takes_16 rfl rfl rfl ?_
        refine ax_aload_n 0 18 dX4_takes_17 rfl rfl rfl ?_
        refine ax_getf 21 dX4_takes_18 rfl fl_X4_141 rfl rfl ?_
        refine ax_icmp_ne 28 24 dX4_takes_21 (by decide) rfl (fun c21 => ?_) (fun c21 => ?_)
        · refine ax_iconst (v := 0) 29 dX4_takes_28 rfl (by decide) ?_
          exact ax_bx K (by simp [bI_0, bI_1, tkM, ntz, c6, c13, c21])
        · refine ax_iconst (v := 1) 25 dX4_takes_24 rfl (by decide) ?_
          refine ax_goto 29 dX4_takes_25 (by decide) ?_
          exact ax_bx K (by simp [bI_0, bI_1, tkM, ntz, c6, c13, c21])
  exact ax_zret dX4_takes_29 rfl (bI_nar _) rfl
end M2
