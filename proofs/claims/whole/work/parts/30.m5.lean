/-! the reference: its public methods, second part -/
def gOp (a b c e : Int32) : Bool := isW a 0 1000000 && (isW b 0 1000000 && (isW c 0 1000000 && isW e 0 1000000))
def gLa (p : Nat → Nat → Int32) (y v s f kg : Int32) : Bool := isW y 1 (p 31 9) && (isW v 0 5 && (isW s 0 3 && (isW f 0 2 && isW kg 1 1000000)))
def gEq (v f t kg : Int32) : Bool := isW v 0 5 && (isW f 0 3 && (isW t 0 3 && (!decide (f = t) && isW kg 1 1000)))
def opB (p : Nat → Nat → Int32) : Bool := ntz (p 31 10) || decide (p 31 9 = 8)
def opZ (p : Nat → Nat → Int32) (l : Nat → Int64) (y : Nat) (a b c e : Int32) : ax_S2 :=
  let z0 := allotM p l a y 0
  let z1 := allotM z0.1 z0.2 b y 1
  let z2 := allotM z1.1 z1.2 c y 2
  allotM z2.1 z2.2 e y 3
def mOpen (p : Nat → Nat → Int32) (l : Nat → Int64) (n m : Nat) (a b c e : Int32) : Int32 × ax_S2 :=
  if (!gOp a b c e || opB p) = true then (0, (qv p 31 0 (rfM (!gOp a b c e) (opB p)), l))
  else
    let p2 := qv (qv (qv p 31 0 (rfM (!gOp a b c e) (opB p))) 31 9 (nI (m + 1))) 31 10 1
    (nI (m + 1), (workM (opZ p2 l (m + 1) a b c e).1 n (m + 1), (opZ p2 l (m + 1) a b c e).2))
def clvM (p : Nat → Nat → Int32) (y n : Nat) : Int32 := itF (fun j c => if 0 < p 48 (24 * y + j) then c + 1 else c) n 0
def mEnd (p : Nat → Nat → Int32) (n m : Nat) : Int32 × (Nat → Nat → Int32) :=
  if (decide (p 31 10 = 0) || false) = true then (0, qv p 31 0 (rfM (decide (p 31 10 = 0)) false))
  else
    let p3 := workM (qv (qv p 31 0 (rfM (decide (p 31 10 = 0)) false)) 31 10 0) n m
    (clvM p3 m 24, p3)
def leB (p : Nat → Nat → Int32) (m : Nat) (s f t kg : Int32) : Bool := gSe s f t kg && (ntz (p 31 10) && (decide (p 31 20 < 200) && decide (kg ≤ leftM p (24 * m + 4 * tN f + tN s))))
def mLease (p : Nat → Nat → Int32) (n m : Nat) (s f t kg : Int32) : Int32 × (Nat → Nat → Int32) :=
  if (!gSe s f t kg || !leB p m s f t kg) = true then (0, qv p 31 0 (rfM (!gSe s f t kg) (!leB p m s f t kg)))
  else (nI n, workM (qv (tellM (qv p 31 0 (rfM (!gSe s f t kg) (!leB p m s f t kg))) n 0 (nI m) f s t kg kg) 31 20 (nI (n + 1))) (n + 1) m)
def laG (p : Nat → Nat → Int32) (y v s f kg : Int32) : Bool := gLa p y v s f kg && decide (0 < p 34 (3 * tN s + tN f))
def laB (p : Nat → Nat → Int32) (y v s f kg : Int32) : Bool := laG p y v s f kg && (!tkM p (tN y) || decide (p 31 20 = 200))
def liM (kg f : Int32) : Int64 := (kg.toInt64 * f.toInt64 + 500) / 1000
def laW (kg f u : Int32) : Int64 := if u = 0 then liM kg f else (liM kg f + 1) / 2
def mLand (p : Nat → Nat → Int32) (n m : Nat) (y v s f kg u : Int32) : Int32 × (Nat → Nat → Int32) :=
  if (!laG p y v s f kg || laB p y v s f kg) = true then (0, qv p 31 0 (rfM (!laG p y v s f kg) (laB p y v s f kg)))
  else (nI n, workM (qv (tellM (qv p 31 0 (rfM (!laG p y v s f kg) (laB p y v s f kg))) n 1 y v s 0 kg (laW kg (p 34 (3 * tN s + tN f)) u).toInt32) 31 20 (nI (n + 1))) (n + 1) m)
def eqN (p : Nat → Nat → Int32) (v f t kg : Int32) : Bool := gEq v f t kg && (ntz (p 31 10) && decide (p 31 20 < 200))
def eqZ (p : Nat → Nat → Int32) (n m : Nat) (v f t kg : Int32) : Bool × (Nat → Nat → Int32) :=
  if eqN p v f t kg = true then
    (let p0 := tellM p n 2 (nI m) v f t kg ((kg * p 32 (tN f) + p 32 (tN t) - 1) / p 32 (tN t)); (mayM p0 n, p0))
  else (false, p)
def mEquivalent (p : Nat → Nat → Int32) (n m : Nat) (v f t kg : Int32) : Int32 × (Nat → Nat → Int32) :=
  let z := eqZ p n m v f t kg
  if (!gEq v f t kg || !z.1) = true then (0, qv z.2 31 0 (rfM (!gEq v f t kg) (!z.1)))
  else (nI n, workM (qv (qv z.2 31 0 (rfM (!gEq v f t kg) (!z.1))) 31 20 (nI (n + 1))) (n + 1) m)
def stB (p : Nat → Nat → Int32) (i : Int32) : Bool := isW i 0 (p 31 20 - 1) && (decide (p 49 (tN i) = 1) && (decide (p 56 (tN i) = 0) && tkM p (yr (eP p) (tN i))))
def mStrike (p : Nat → Nat → Int32) (n m : Nat) (i : Int32) : Nat → Nat → Int32 :=
  if (!isW i 0 (p 31 20 - 1) || !stB p i) = true then qv p 31 0 (rfM (!isW i 0 (p 31 20 - 1)) (!stB p i))
  else workM (qv (qv p 31 0 (rfM (!isW i 0 (p 31 20 - 1)) (!stB p i))) 56 (tN i) 1) n m
def roB (p : Nat → Nat → Int32) (y : Int32) : Bool := isW y 1 (p 31 9) && tkM p (tN y)
def mReopen (p : Nat → Nat → Int32) (y : Int32) : Nat → Nat → Int32 :=
  if (!isW y 1 (p 31 9) || roB p y) = true then qv p 31 0 (rfM (!isW y 1 (p 31 9)) (roB p y))
  else qv (qv p 31 0 (rfM (!isW y 1 (p 31 9)) (roB p y))) 40 (tN y) 1
def fgM (p : Nat → Nat → Int32) (k w : Nat) : Int32 := match w with
  | 0 => p 41 k
  | 1 => p 42 k
  | 2 => p 43 k
  | 3 => p 44 k
  | 4 => p 45 k
  | 5 => leftM p k
  | 6 => p 46 k
  | 7 => p 47 k
  | _ => p 48 k
def gAc (p : Nat → Nat → Int32) (y v s w : Int32) : Bool := !(isW y 1 (p 31 9)) || (!(isW v 0 5) || (!(isW s 0 3) || !(isW w 0 8)))
def mAccount (p : Nat → Nat → Int32) (y v s w : Int32) : Int32 × (Nat → Nat → Int32) :=
  if (gAc p y v s w || false) = true then (0, qv p 31 0 (rfM (gAc p y v s w) false)) else (fgM p (24 * tN y + 4 * tN v + tN s) (tN w), qv p 31 0 (rfM (gAc p y v s w) false))
def gLy (p : Nat → Nat → Int32) (o y : Int32) : Bool := !(isW o 0 5) || !(isW y 1 (p 31 9))
def lv1 (p : Nat → Nat → Int32) (y v n : Nat) (a : Int64) : Int64 := itF (fun s a => a + (p 48 (24 * y + 4 * v + s)).toInt64 * (p 32 s).toInt64) n a
def lvM (p : Nat → Nat → Int32) (o : Int32) (y n : Nat) : Int64 := itF (fun v a => if p 35 v = o then lv1 p y v 4 a else a) n 0
def mLevy (p : Nat → Nat → Int32) (o y : Int32) : Int64 × (Nat → Nat → Int32) :=
  if (gLy p o y || false) = true then (0, qv p 31 0 (rfM (gLy p o y) false)) else (lvM p o (tN y) 6, qv p 31 0 (rfM (gLy p o y) false))
def gHe (s o w : Int32) : Bool := !(isW s 0 3) || (!(isW o 0 5) || !(isW w 0 2))
def mHeld (p : Nat → Nat → Int32) (s o w : Int32) : Int32 × (Nat → Nat → Int32) :=
  if (gHe s o w || false) = true then (0, qv p 31 0 (rfM (gHe s o w) false))
  else if w = 0 then (p 36 (6 * tN s + tN o), qv p 31 0 (rfM (gHe s o w) false))
  else if w = 1 then (freeM p (tN s) o (p 36 (6 * tN s + tN o)) 6, qv p 31 0 (rfM (gHe s o w) false))
  else (ogM (qv p 31 0 (rfM (gHe s o w) false)) (tN s) o, gaM (qv p 31 0 (rfM (gHe s o w) false)) o)
def evB (p : Nat → Nat → Int32) (i w : Int32) : Bool := isW i 0 (p 31 20 - 1) && !(isW w 0 3)
def mEvent (p : Nat → Nat → Int32) (i w : Int32) : Int32 × (Nat → Nat → Int32) :=
  if (!isW i 0 (p 31 20 - 1) || evB p i w) = true then (0, qv p 31 0 (rfM (!isW i 0 (p 31 20 - 1)) (evB p i w)))
  else (if w = 0 then p 49 (tN i) else if w = 1 then p 50 (tN i) else if w = 2 then (if p 57 (tN i) = 0 then 0 else 1) else p 55 (tN i), qv p 31 0 (rfM (!isW i 0 (p 31 20 - 1)) (evB p i w)))
def mAbout (p : Nat → Nat → Int32) (n : Nat) (w : Int32) : Int32 × (Nat → Nat → Int32) :=
  if (!isW w 0 3 || false) = true then (0, qv p 31 0 (rfM (!isW w 0 3) false))
  else (if w < 2 then (if w = 0 then p 31 9 else if p 31 10 = 0 then 0 else 1) else if w = 2 then p 31 20 else ctC (p 57) n, qv p 31 0 (rfM (!isW w 0 3) false))
section M5
variable {G : ax_G} {d : Nat} {q p : Nat → Nat → Int32} {l : Nat → Int64} {r : ax_W}
theorem am2_k {y s k : Nat} {z : ax_S2} (h : k ≠ 41) : (am2 y s z).1 k = z.1 k := by
  unfold am2; exact qv_n h
theorem amS_k {lim : Int32} {y s k : Nat} (h : k ≠ 41) : ∀ n : Nat, (amS lim y s n p l).1 k = p k
  | 0 => rfl
  | n + 1 => by
    have ih := amS_k (lim := lim) (y := y) (s := s) h n
    rw [amS_s]
    unfold am1
    dsimp only
    rw [qv_n h]
    exact ih
theorem am2_it {y s k : Nat} (h : k ≠ 41) : ∀ (n : Nat) (z : ax_S2), (itF (fun _ => am2 y s) n z).1 k = z.1 k
  | 0, _ => rfl
  | n + 1, z => by rw [itF_s, am2_k h, am2_it h n z]
theorem allotM_k {lim : Int32} {y s k : Nat} (h : k ≠ 41) : (allotM p l lim y s).1 k = p k := by
  unfold allotM
  rw [am2_it h]
  exact amS_k h 6
theorem opZ_k {y k : Nat} {a b c e : Int32} (h : k ≠ 41) : (opZ p l y a b c e).1 k = p k := by
  unfold opZ
  rw [allotM_k h, allotM_k h, allotM_k h, allotM_k h]
theorem m_open (hd : 5 ≤ d) (n m : Nat) (a b c e : Int32) (hn : n ≤ 200) (hc : p 31 20 = nI n) (hm : m ≤ 8) (hy : p 31 9 = nI m) (he : ∀ i, i < n → evOK (eP p) i) : ax_Met G M_X4_open d 0 0 [.ref 31, .int a, .int b, .int c, .int e] (wQ q ++ (wM p l ++ r)) (.inl (some (.int (mOpen p l n m a b c e).1)), wQ q ++ (wM (mOpen p l n m a b c e).2.1 (mOpen p l n m a b c e).2.2 ++ r)) := by
  refine ax_of rfl (by decide) (Nat.le_of_ble_eq_true rfl) ?_
  refine ax_jn 54 (gOp a b c e) (fun K => ?_) ?_
  · refine ax_iload_n 1 1 dX4_open_0 rfl rfl rfl ?_
    refine ax_i2l 2 dX4_open_1 rfl ?_
    refine ax_lconst (v := 0) 3 dX4_open_2 rfl (by decide) ?_
    refine ax_ldc2 (v := 1000000) 6 dX4_open_3 rfl cj_X4_120 ?_
    refine ax_cS 9 dX4_open_6 rfl ml_X4_100 (m_in (d := d - 1) _ 0 1000000 0 1000000 rfl rfl) (by omega) rfl rfl (Nat.le_of_ble_eq_true rfl) ?_
    refine ax_if_eq 53 12 dX4_open_9 (by decide) rfl (fun c9 => ?_) (fun c9 => ?_)
    · refine ax_iconst (v := 0) 54 dX4_open_53 rfl (by decide) ?_
      exact ax_bx K (by simp [bI_0, bI_1, gOp, bI_0.mp c9])
    · refine ax_iload_n 2 13 dX4_open_12 rfl rfl rfl ?_
      refine ax_i2l 14 dX4_open_13 rfl ?_
      refine ax_lconst (v := 0) 15 dX4_open_14 rfl (by decide) ?_
      refine ax_ldc2 (v := 1000000) 18 dX4_open_15 rfl cj_X4_120 ?_
      refine ax_cS 21 dX4_open_18 rfl ml_X4_100 (m_in (d := d - 1) _ 0 1000000 0 1000000 rfl rfl) (by omega) rfl rfl (Nat.le_of_ble_eq_true rfl) ?_
      refine ax_if_eq 53 24 dX4_open_21 (by decide) rfl (fun c21 => ?_) (fun c21 => ?_)
      · refine ax_iconst (v := 0) 54 dX4_open_53 rfl (by decide) ?_
        exact ax_bx K (by simp [bI_0, bI_1, gOp, bI_n0.mp c9, bI_0.mp c21])
      · refine ax_iload_n 3 25 dX4_open_24 rfl rfl rfl ?_
        refine ax_i2l 26 dX4_open_25 rfl ?_
        refine ax_lconst (v := 0) 27 dX4_open_26 rfl (by decide) ?_
        refine ax_ldc2 (v := 1000000) 30 dX4_open_27 rfl cj_X4_120 ?_
        refine ax_cS 33 dX4_open_30 rfl ml_X4_100 (m_in (d := d - 1) _ 0 1000000 0 1000000 rfl rfl) (by omega) rfl rfl (Nat.le_of_ble_eq_true rfl) ?_
        refine ax_if_eq 53 36 dX4_open_33 (by decide) rfl (fun c33 => ?_) (fun c33 => ?_)
        · refine ax_iconst (v := 0) 54 dX4_open_53 rfl (by decide) ?_
          exact ax_bx K (by simp [bI_0, bI_1, gOp, bI_n0.mp c9, bI_n0.mp c21, bI_0.mp c33])
        · refine ax_iload 38 dX4_open_36 rfl rfl ?_
          refine ax_i2l 39 dX4_open_38 rfl ?_
          refine ax_lconst (v := 0) 40 dX4_open_39 rfl (by decide) ?_
          refine ax_ldc2 (v := 1000000) 43 dX4_open_40 rfl cj_X4_120 ?_
          refine ax_cS 46 dX4_open_43 rfl ml_X4_100 (m_in (d := d - 1) _ 0 1000000 0 1000000 rfl rfl) (by omega) rfl rfl (Nat.le_of_ble_eq_true rfl) ?_
          refine ax_if_eq 53 49 dX4_open_46 (by decide) rfl (fun c46 => ?_) (fun c46 => ?_)
          · refine ax_iconst (v := 0) 54 dX4_open_53 rfl (by decide) ?_
            exact ax_bx K (by simp [bI_0, bI_1, gOp, bI_n0.mp c9, bI_n0.mp c21, bI_n0.mp c33, bI_0.mp c46])
          · refine ax_iconst (v := 1) 50 dX4_open_49 rfl (by decide) ?_
            refine ax_goto 54 dX4_open_50 (by decide) ?_
            exact ax_bx K (by simp [bI_0, bI_1, gOp, bI_n0.mp c9, bI_n0.mp c21, bI_n0.mp c33, bI_n0.mp c46])
  refine ax_istore 56 dX4_open_54 rfl (Nat.le_of_ble_eq_true rfl) ?_
  refine ax_aload_n 0 57 dX4_open_56 rfl rfl rfl ?_
  refine ax_jn 67 (!gOp a b c e) (fun K => ?_) ?_
  · refine ax_iload 59 dX4_open_57 rfl rfl ?_
    refine ax_if_ne 66 62 dX4_open_59 (by decide) rfl (fun c59 => ?_) (fun c59 => ?_)
    · refine ax_iconst (v := 0) 67 dX4_open_66 rfl (by decide) ?_
      exact ax_bx K (by simp [bI_0, bI_1, bI_n0.mp c59])
    · refine ax_iconst (v := 1) 63 dX4_open_62 rfl (by decide) ?_
      refine ax_goto 67 dX4_open_63 (by decide) ?_
      exact ax_bx K (by simp [bI_0, bI_1, bI_0.mp c59])
  refine ax_jn 88 (opB p) (fun K => ?_) ?_
  · refine ax_aload_n 0 68 dX4_open_67 rfl rfl rfl ?_
    refine ax_getf 71 dX4_open_68 rfl fl_X4_173 rfl rfl ?_
    refine ax_if_ne 83 74 dX4_open_71 (by decide) rfl (fun c71 => ?_) (fun c71 => ?_)
    · refine ax_iconst (v := 1) 84 dX4_open_83 rfl (by decide) ?_
      refine ax_goto 88 dX4_open_84 (by decide) ?_
      exact ax_bx K (by simp [bI_0, bI_1, opB, ntz, c71])
    · refine ax_aload_n 0 75 dX4_open_74 rfl rfl rfl ?_
      refine ax_getf 78 dX4_open_75 rfl fl_X4_141 rfl rfl ?_
      refine ax_bipush (v := 8) 80 dX4_open_78 rfl (by decide) ?_
      refine ax_icmp_ne 87 83 dX4_open_80 (by decide) rfl (fun c80 => ?_) (fun c80 => ?_)
      · refine ax_iconst (v := 0) 88 dX4_open_87 rfl (by decide) ?_
        exact ax_bx K (by simp [bI_0, bI_1, opB, ntz, c71, c80])
      · refine ax_iconst (v := 1) 84 dX4_open_83 rfl (by decide) ?_
        refine ax_goto 88 dX4_open_84 (by decide) ?_
        exact ax_bx K (by simp [bI_0, bI_1, opB, ntz, c71, c80])
  refine ax_cV 91 dX4_open_88 rfl ml_X4_126 (m_refuse (d := d - 1) _ _) rfl (by omega) rfl rfl (Nat.le_of_ble_eq_true rfl) ?_
  refine ax_if_eq 96 94 dX4_open_91 (by decide) rfl (fun c1 => ?_) (fun c1 => ?_)
  · rw [show mOpen p l n m a b c e = _ from if_neg (by rw [bI_0.mp c1]; decide)]
    have h8 : m < 8 := by
      have h := (or_f (or_f (bI_0.mp c1)).2).2
      rw [hy] at h
      refine Classical.byContradiction fun z => ?_
      rw [show m = 8 by omega] at h
      exact absurd h (by decide)
    dsimp only
    generalize rfM (!gOp a b c e) (opB p) = x0
    refine ax_aload_n 0 97 dX4_open_96 rfl rfl rfl ?_
    refine ax_dup 98 dX4_open_97 rfl rfl ?_
    refine ax_getf 101 dX4_open_98 rfl fl_X4_141 rfl rfl ?_
    refine ax_iconst (v := 1) 102 dX4_open_101 rfl (by decide) ?_
    refine ax_iadd 103 dX4_open_102 rfl ?_
    refine ax_putf 106 dX4_open_103 rfl fp_X4_141 rfl rfl rfl (Nat.le_of_ble_eq_true rfl) ?_
    rw [wMp_31_9]
    rw [show qv p 31 0 x0 31 9 = p 31 9 from rfl, hy, nI_1]
    refine ax_aload_n 0 107 dX4_open_106 rfl rfl rfl ?_
    refine ax_iconst (v := 1) 108 dX4_open_107 rfl (by decide) ?_
    refine ax_putf 111 dX4_open_108 rfl fp_X4_173 rfl (by decide) (by decide) (Nat.le_of_ble_eq_true rfl) ?_
    rw [wMp_31_10]
    have hc2 : qv (qv (qv p 31 0 x0) 31 9 (nI (m + 1))) 31 10 1 31 20 = nI n := hc
    have hy2 : qv (qv (qv p 31 0 x0) 31 9 (nI (m + 1))) 31 10 1 31 9 = nI (m + 1) := rfl
    have he2 : ∀ i, i < n → evOK (eP (qv (qv (qv p 31 0 x0) 31 9 (nI (m + 1))) 31 10 1)) i := he
    revert hc2 hy2 he2
    generalize qv (qv (qv p 31 0 x0) 31 9 (nI (m + 1))) 31 10 1 = p1
    intro hc2 hy2 he2
    refine ax_aload_n 0 112 dX4_open_111 rfl rfl rfl ?_
    refine ax_aload_n 0 113 dX4_open_112 rfl rfl rfl ?_
    refine ax_getf 116 dX4_open_113 rfl fl_X4_141 rfl rfl ?_
    rw [hy2]
    refine ax_iconst (v := 0) 117 dX4_open_116 rfl (by decide) ?_
    refine ax_iload_n 1 118 dX4_open_117 rfl rfl rfl ?_
    refine ax_cVv 121 dX4_open_118 rfl ml_X4_180 (m_allot (d := d - 1) (by omega) (m + 1) 0 a (by omega) (by decide)) rfl (by omega) rfl rfl (Nat.le_of_ble_eq_true rfl) ?_
    refine ax_aload_n 0 122 dX4_open_121 rfl rfl rfl ?_
    refine ax_aload_n 0 123 dX4_open_122 rfl rfl rfl ?_
    refine ax_getf 126 dX4_open_123 rfl fl_X4_141 rfl rfl ?_
    rw [allotM_k (by decide), hy2]
    refine ax_iconst (v := 1) 127 dX4_open_126 rfl (by decide) ?_
    refine ax_iload_n 2 128 dX4_open_127 rfl rfl rfl ?_
    refine ax_cVv 131 dX4_open_128 rfl ml_X4_180 (m_allot (d := d - 1) (by omega) (m + 1) 1 b (by omega) (by decide)) rfl (by omega) rfl rfl (Nat.le_of_ble_eq_true rfl) ?_
    refine ax_aload_n 0 132 dX4_open_131 rfl rfl rfl ?_
    refine ax_aload_n 0 133 dX4_open_132 rfl rfl rfl ?_
    refine ax_getf 136 dX4_open_133 rfl fl_X4_141 rfl rfl ?_
    rw [allotM_k (by decide), allotM_k (by decide), hy2]
    refine ax_iconst (v := 2) 137 dX4_open_136 rfl (by decide) ?_
    refine ax_iload_n 3 138 dX4_open_137 rfl rfl rfl ?_
    refine ax_cVv 141 dX4_open_138 rfl ml_X4_180 (m_allot (d := d - 1) (by omega) (m + 1) 2 c (by omega) (by decide)) rfl (by omega) rfl rfl (Nat.le_of_ble_eq_true rfl) ?_
    refine ax_aload_n 0 142 dX4_open_141 rfl rfl rfl ?_
    refine ax_aload_n 0 143 dX4_open_142 rfl rfl rfl ?_
    refine ax_getf 146 dX4_open_143 rfl fl_X4_141 rfl rfl ?_
    rw [allotM_k (by decide), allotM_k (by decide), allotM_k (by decide), hy2]
    refine ax_iconst (v := 3) 147 dX4_open_146 rfl (by decide) ?_
    refine ax_iload 149 dX4_open_147 rfl rfl ?_
    refine ax_cVv 152 dX4_open_149 rfl ml_X4_180 (m_allot (d := d - 1) (by omega) (m + 1) 3 e (by omega) (by decide)) rfl (by omega) rfl rfl (Nat.le_of_ble_eq_true rfl) ?_
    have hc3 : (opZ p1 l (m + 1) a b c e).1 31 20 = nI n := by rw [opZ_k (by decide)]; exact hc2
    have hy3 : (opZ p1 l (m + 1) a b c e).1 31 9 = nI (m + 1) := by rw [opZ_k (by decide)]; exact hy2
    have he3 : ∀ i, i < n → evOK (eP (opZ p1 l (m + 1) a b c e).1) i := fun i hi => evOK_eq (q := eP p1) (opZ_k (k := 49) (by decide)) (opZ_k (k := 50) (by decide)) (opZ_k (k := 51) (by decide)) (opZ_k (k := 52) (by decide)) (opZ_k (k := 53) (by decide)) (he2 i hi)
    unfold opZ at hc3 hy3 he3 ⊢
    dsimp only at hc3 hy3 he3 ⊢
    generalize allotM (allotM (allotM (allotM p1 l a (m + 1) 0).1 (allotM p1 l a (m + 1) 0).2 b (m + 1) 1).1 (allotM (allotM p1 l a (m + 1) 0).1 (allotM p1 l a (m + 1) 0).2 b (m + 1) 1).2 c (m + 1) 2).1 (allotM (allotM (allotM p1 l a (m + 1) 0).1 (allotM p1 l a (m + 1) 0).2 b (m + 1) 1).1 (allotM (allotM p1 l a (m + 1) 0).1 (allotM p1 l a (m + 1) 0).2 b (m + 1) 1).2 c (m + 1) 2).2 e (m + 1) 3 = z at hc3 hy3 he3 ⊢
    refine ax_aload_n 0 153 dX4_open_152 rfl rfl rfl ?_
    refine ax_cVv 156 dX4_open_153 rfl ml_X4_184 (m_work (d := d - 1) (by omega) n (m + 1) hn hc3 (by omega) hy3 he3) rfl (by omega) rfl rfl (Nat.le_of_ble_eq_true rfl) ?_
    refine ax_aload_n 0 157 dX4_open_156 rfl rfl rfl ?_
    refine ax_getf 160 dX4_open_157 rfl fl_X4_141 rfl rfl ?_
    rw [workM_k rfl, hy3]
    exact ax_iret dX4_open_160 rfl rfl
  · rw [show mOpen p l n m a b c e = _ from if_pos (bI_n0.mp c1)]
    refine ax_iconst (v := 0) 95 dX4_open_94 rfl (by decide) ?_
    exact ax_iret dX4_open_95 rfl rfl
theorem m_end (hd : 5 ≤ d) (n m : Nat) (hn : n ≤ 200) (hc : p 31 20 = nI n) (hm : m ≤ 8) (hy : p 31 9 = nI m) (he : ∀ i, i < n → evOK (eP p) i) : ax_Met G M_X4_end d 0 0 [.ref 31] (wQ q ++ (wM p l ++ r)) (.inl (some (.int (mEnd p n m).1)), wQ q ++ (wM (mEnd p n m).2 l ++ r)) := by
  refine ax_of rfl (by decide) (Nat.le_of_ble_eq_true rfl) ?_
  refine ax_aload_n 0 1 dX4_end_0 rfl rfl rfl ?_
  refine ax_jn 13 (decide (p 31 10 = 0)) (fun K => ?_) ?_
  · refine ax_aload_n 0 2 dX4_end_1 rfl rfl rfl ?_
    refine ax_getf 5 dX4_end_2 rfl fl_X4_173 rfl rfl ?_
    refine ax_if_ne 12 8 dX4_end_5 (by decide) rfl (fun c5 => ?_) (fun c5 => ?_)
    · refine ax_iconst (v := 0) 13 dX4_end_12 rfl (by decide) ?_
      exact ax_bx K (by simp [bI_0, bI_1, c5])
    · refine ax_iconst (v := 1) 9 dX4_end_8 rfl (by decide) ?_
      refine ax_goto 13 dX4_end_9 (by decide) ?_
      exact ax_bx K (by simp [bI_0, bI_1, c5])
  refine ax_iconst (v := 0) 14 dX4_end_13 rfl (by decide) ?_
  refine ax_cV 17 dX4_end_14 rfl ml_X4_126 (m_refuse (d := d - 1) _ false) rfl (by omega) rfl rfl (Nat.le_of_ble_eq_true rfl) ?_
  refine ax_if_eq 22 20 dX4_end_17 (by decide) rfl (fun c1 => ?_) (fun c1 => ?_)
  · rw [show mEnd p n m = _ from if_neg (by rw [bI_0.mp c1]; decide)]
    dsimp only
    generalize rfM (decide (p 31 10 = 0)) false = x0
    refine ax_aload_n 0 23 dX4_end_22 rfl rfl rfl ?_
    refine ax_iconst (v := 0) 24 dX4_end_23 rfl (by decide) ?_
    refine ax_putf 27 dX4_end_24 rfl fp_X4_173 rfl (by decide) (by decide) (Nat.le_of_ble_eq_true rfl) ?_
    rw [wMp_31_10]
    have hc2 : qv (qv p 31 0 x0) 31 10 0 31 20 = nI n := hc
    have hy2 : qv (qv p 31 0 x0) 31 10 0 31 9 = nI m := hy
    have he2 : ∀ i, i < n → evOK (eP (qv (qv p 31 0 x0) 31 10 0)) i := he
    revert hc2 hy2 he2
    generalize qv (qv p 31 0 x0) 31 10 0 = p1
    intro hc2 hy2 he2
    refine ax_aload_n 0 28 dX4_end_27 rfl rfl rfl ?_
    refine ax_cVv 31 dX4_end_28 rfl ml_X4_184 (m_work (d := d - 1) (by omega) n m hn hc2 hm hy2 he2) rfl (by omega) rfl rfl (Nat.le_of_ble_eq_true rfl) ?_
    have hy3 : workM p1 n m 31 9 = nI m := by rw [workM_k rfl]; exact hy2
    revert hy3
    generalize workM p1 n m = p2
    intro hy3
    refine ax_iconst (v := 0) 32 dX4_end_31 rfl (by decide) ?_
    refine ax_istore_n 1 33 dX4_end_32 rfl rfl (Nat.le_of_ble_eq_true rfl) ?_
    refine ax_bipush (v := 24) 35 dX4_end_33 rfl (by decide) ?_
    refine ax_aload_n 0 36 dX4_end_35 rfl rfl rfl ?_
    refine ax_getf 39 dX4_end_36 rfl fl_X4_141 rfl rfl ?_
    rw [hy3]
    refine ax_imul 40 dX4_end_39 rfl ?_
    refine ax_istore_n 2 41 dX4_end_40 rfl rfl (Nat.le_of_ble_eq_true rfl) ?_
    rw [m24]
    refine ax_lvk (ax_down (P := fun j => ax_Ex G M_X4_end d 0 0 41 [(0, .ref 31), (1, .int (clvM p2 m j)), (2, .int (nI (24 * m + j)))] [] (wQ q ++ (wM p2 l ++ r)) (.inl (some (.int (clvM p2 m 24))), wQ q ++ (wM p2 l ++ r))) (n := 24) ?_ (fun j hj ih => ?_) 0 (Nat.zero_le _)) ⟨rfl, rfl, rfl, trivial⟩
    · generalize clvM p2 m 24 = x
      refine ax_iload_n 2 42 dX4_end_41 rfl rfl rfl ?_
      refine ax_bipush (v := 24) 44 dX4_end_42 rfl (by decide) ?_
      refine ax_aload_n 0 45 dX4_end_44 rfl rfl rfl ?_
      refine ax_getf 48 dX4_end_45 rfl fl_X4_141 rfl rfl ?_
      rw [hy3]
      refine ax_imul 49 dX4_end_48 rfl ?_
      refine ax_bipush (v := 24) 51 dX4_end_49 rfl (by decide) ?_
      refine ax_iadd 52 dX4_end_51 rfl ?_
      refine ax_icmp_ge 78 55 dX4_end_52 (by decide) rfl (fun c2 => ?_) (fun c2 => ?_)
      · refine ax_iload_n 1 79 dX4_end_78 rfl rfl rfl ?_
        exact ax_iret dX4_end_79 rfl rfl
      · rw [m24'] at c2
        exact absurd (nI_le (Nat.le_refl _) (by omega)) c2
    · refine ax_iload_n 2 42 dX4_end_41 rfl rfl rfl ?_
      refine ax_bipush (v := 24) 44 dX4_end_42 rfl (by decide) ?_
      refine ax_aload_n 0 45 dX4_end_44 rfl rfl rfl ?_
      refine ax_getf 48 dX4_end_45 rfl fl_X4_141 rfl rfl ?_
      rw [hy3]
      refine ax_imul 49 dX4_end_48 rfl ?_
      refine ax_bipush (v := 24) 51 dX4_end_49 rfl (by decide) ?_
      refine ax_iadd 52 dX4_end_51 rfl ?_
      refine ax_icmp_ge 78 55 dX4_end_52 (by decide) rfl (fun c2 => ?_) (fun c2 => ?_)
      · rw [m24'] at c2
        exact absurd c2 (nI_ge (by omega) (by omega))
      · refine ax_aload_n 0 56 dX4_end_55 rfl rfl rfl ?_
        refine ax_getf 59 dX4_end_56 rfl fl_X4_59 rfl rfl ?_
        refine ax_iload_n 2 60 dX4_end_59 rfl rfl rfl ?_
        refine ax_ialdN 61 dX4_end_60 rfl rfl rfl (by omega) (by decide) ?_
        refine ax_if_le 70 64 dX4_end_61 (by decide) rfl (fun c3 => ?_) (fun c3 => ?_)
        · refine ax_iload_n 1 71 dX4_end_70 rfl rfl rfl ?_
          refine ax_istore_n 1 72 dX4_end_71 rfl rfl (Nat.le_of_ble_eq_true rfl) ?_
          refine ax_iinc (v := (_ : Int32) + 1) 75 dX4_end_72 rfl rfl rfl (Nat.le_of_ble_eq_true rfl) ?_
          refine ax_goto 41 dX4_end_75 (by decide) ?_
          exact ax_lvk ih ⟨rfl, gI (by simp only [clvM, itF_s]; rw [if_neg (Int32.not_lt.mpr c3)]), gI (nI_1 _), trivial⟩
        · refine ax_iload_n 1 65 dX4_end_64 rfl rfl rfl ?_
          refine ax_iconst (v := 1) 66 dX4_end_65 rfl (by decide) ?_
          refine ax_iadd 67 dX4_end_66 rfl ?_
          refine ax_goto 71 dX4_end_67 (by decide) ?_
          refine ax_istore_n 1 72 dX4_end_71 rfl rfl (Nat.le_of_ble_eq_true rfl) ?_
          refine ax_iinc (v := (_ : Int32) + 1) 75 dX4_end_72 rfl rfl rfl (Nat.le_of_ble_eq_true rfl) ?_
          refine ax_goto 41 dX4_end_75 (by decide) ?_
          exact ax_lvk ih ⟨rfl, gI (by simp only [clvM, itF_s]; rw [if_pos (Int32.not_le.mp c3)]), gI (nI_1 _), trivial⟩
  · rw [show mEnd p n m = _ from if_pos (bI_n0.mp c1)]
    refine ax_iconst (v := 0) 21 dX4_end_20 rfl (by decide) ?_
    exact ax_iret dX4_end_21 rfl rfl
theorem nI_lt200 {n : Nat} (hn : n ≤ 200) (h : ¬ (200 : Int32) ≤ nI n) : n < 200 := by
  refine Classical.byContradiction fun z => h ?_
  rw [show n = 200 by omega]
  decide
theorem evT {n : Nat} {x b c e f g h : Int32} {i : Nat} (hi : i ≠ n) (H : evOK (eP p) i) : evOK (eP (tellM p n x b c e f g h)) i := by
  obtain ⟨h1, h2, h3, h4, h5, h6, h7, h8⟩ := H
  have e9 : ∀ k : Nat, eP (tellM p n x b c e f g h) k i = eP p k i := by
    intro k
    unfold eP tellM qv qw
    have hu : ∀ (ff : Nat → Int32) (z : Int32), upd ff n z i = ff i := fun ff z => pk_un (h := hi)
    by_cases k1 : k + 28 = 57
    · rw [if_pos k1, hu, k1]; rfl
    · rw [if_neg k1]
      by_cases k2 : k + 28 = 56
      · rw [if_pos k2, hu, k2]; rfl
      · rw [if_neg k2]
        by_cases k3 : k + 28 = 55
        · rw [if_pos k3, hu, k3]; rfl
        · rw [if_neg k3]
          by_cases k4 : k + 28 = 54
          · rw [if_pos k4, hu, k4]; rfl
          · rw [if_neg k4]
            by_cases k5 : k + 28 = 53
            · rw [if_pos k5, hu, k5]; rfl
            · rw [if_neg k5]
              by_cases k6 : k + 28 = 52
              · rw [if_pos k6, hu, k6]; rfl
              · rw [if_neg k6]
                by_cases k7 : k + 28 = 51
                · rw [if_pos k7, hu, k7]; rfl
                · rw [if_neg k7]
                  by_cases k8 : k + 28 = 50
                  · rw [if_pos k8, hu, k8]; rfl
                  · rw [if_neg k8]
                    by_cases k9 : k + 28 = 49
                    · rw [if_pos k9, hu, k9]
                    · rw [if_neg k9]
  unfold evOK yr vs sp ot
  rw [e9, e9, e9, e9, e9]
  exact ⟨h1, h2, h3, h4, h5, h6, h7, h8⟩
theorem tl_at {n : Nat} {x b c e f g h : Int32} : eP (tellM p n x b c e f g h) 21 n = x ∧ eP (tellM p n x b c e f g h) 22 n = b ∧ eP (tellM p n x b c e f g h) 23 n = c ∧ eP (tellM p n x b c e f g h) 24 n = e ∧ eP (tellM p n x b c e f g h) 25 n = f := by
  refine ⟨?_, ?_, ?_, ?_, ?_⟩ <;> exact pk_us
/-- the event that was told last is well made -/
theorem evN {n y v s : Nat} {x f g h : Int32} (hy : y ≤ 8) (hv : v < 6) (hs : s < 4) (h0 : x = 0 → ∃ o : Nat, f = nI o ∧ o < 6) (h2 : ¬ x = 0 → ¬ x = 1 → ∃ o : Nat, f = nI o ∧ o < 4) : evOK (eP (tellM p n x (nI y) (nI v) (nI s) f g h)) n := by
  obtain ⟨e1, e2, e3, e4, e5⟩ := tl_at (p := p) (n := n) (x := x) (b := nI y) (c := nI v) (e := nI s) (f := f) (g := g) (h := h)
  unfold evOK yr vs sp ot
  rw [e1, e2, e3, e4, e5, nI_clamp (by omega), nI_clamp (by omega), nI_clamp (by omega)]
  refine ⟨rfl, hy, rfl, hv, rfl, hs, fun z => ?_, fun z z2 => ?_⟩
  · obtain ⟨o, eo, ho⟩ := h0 z
    rw [eo, nI_clamp (by omega)]
    exact ⟨rfl, ho⟩
  · obtain ⟨o, eo, ho⟩ := h2 z z2
    rw [eo, nI_clamp (by omega)]
    exact ⟨rfl, ho⟩
theorem evA {n y v s : Nat} {x f g h : Int32} (he : ∀ i, i < n → evOK (eP p) i) (hy : y ≤ 8) (hv : v < 6) (hs : s < 4) (h0 : x = 0 → ∃ o : Nat, f = nI o ∧ o < 6) (h2 : ¬ x = 0 → ¬ x = 1 → ∃ o : Nat, f = nI o ∧ o < 4) : ∀ i, i < n + 1 → evOK (eP (tellM p n x (nI y) (nI v) (nI s) f g h)) i := by
  intro i hi
  by_cases e : i = n
  · rw [e]; exact evN hy hv hs h0 h2
  · exact evT e (he i (by omega))
theorem m_lease (hd : 5 ≤ d) (n m : Nat) (s f t kg : Int32) (hn : n ≤ 200) (hc : p 31 20 = nI n) (hm : m ≤ 8) (hy : p 31 9 = nI m) (he : ∀ i, i < n → evOK (eP p) i) : ax_Met G M_X4_lease d 0 0 [.ref 31, .int s, .int f, .int t, .int kg] (wQ q ++ (wM p l ++ r)) (.inl (some (.int (mLease p n m s f t kg).1)), wQ q ++ (wM (mLease p n m s f t kg).2 l ++ r)) := by
  refine ax_of rfl (by decide) (Nat.le_of_ble_eq_true rfl) ?_
  refine ax_jn 44 (gSe s f t kg) (fun K => ?_) ?_
  · refine ax_iload_n 1 1 dX4_lease_0 rfl rfl rfl ?_
    refine ax_cS 4 dX4_lease_1 rfl ml_X4_114 (m_isSpecies (d := d - 1) (by omega) _) (by omega) rfl rfl (Nat.le_of_ble_eq_true rfl) ?_
    refine ax_if_eq 43 7 dX4_lease_4 (by decide) rfl (fun c4 => ?_) (fun c4 => ?_)
    · refine ax_iconst (v := 0) 44 dX4_lease_43 rfl (by decide) ?_
      exact ax_bx K (by simp [bI_0, bI_1, gSe, bI_0.mp c4])
    · refine ax_iload_n 2 8 dX4_lease_7 rfl rfl rfl ?_
      refine ax_cS 11 dX4_lease_8 rfl ml_X4_134 (m_isOne (d := d - 1) (by omega) _) (by omega) rfl rfl (Nat.le_of_ble_eq_true rfl) ?_
      refine ax_if_eq 43 14 dX4_lease_11 (by decide) rfl (fun c11 => ?_) (fun c11 => ?_)
      · refine ax_iconst (v := 0) 44 dX4_lease_43 rfl (by decide) ?_
        exact ax_bx K (by simp [bI_0, bI_1, gSe, bI_n0.mp c4, bI_0.mp c11])
      · refine ax_iload_n 3 15 dX4_lease_14 rfl rfl rfl ?_
        refine ax_cS 18 dX4_lease_15 rfl ml_X4_134 (m_isOne (d := d - 1) (by omega) _) (by omega) rfl rfl (Nat.le_of_ble_eq_true rfl) ?_
        refine ax_if_eq 43 21 dX4_lease_18 (by decide) rfl (fun c18 => ?_) (fun c18 => ?_)
        · refine ax_iconst (v := 0) 44 dX4_lease_43 rfl (by decide) ?_
          exact ax_bx K (by simp [bI_0, bI_1, gSe, bI_n0.mp c4, bI_n0.mp c11, bI_0.mp c18])
        · refine ax_iload_n 2 22 dX4_lease_21 rfl rfl rfl ?_
          refine ax_iload_n 3 23 dX4_lease_22 rfl rfl rfl ?_
          refine ax_icmp_eq 43 26 dX4_lease_23 (by decide) rfl (fun c23 => ?_) (fun c23 => ?_)
          · refine ax_iconst (v := 0) 44 dX4_lease_43 rfl (by decide) ?_
            exact ax_bx K (by simp [bI_0, bI_1, gSe, bI_n0.mp c4, bI_n0.mp c11, bI_n0.mp c18, c23])
          · refine ax_iload 28 dX4_lease_26 rfl rfl ?_
            refine ax_i2l 29 dX4_lease_28 rfl ?_
            refine ax_lconst (v := 1) 30 dX4_lease_29 rfl (by decide) ?_
            refine ax_ldc2 (v := 1000000) 33 dX4_lease_30 rfl cj_X4_120 ?_
            refine ax_cS 36 dX4_lease_33 rfl ml_X4_100 (m_in (d := d - 1) _ 1 1000000 1 1000000 rfl rfl) (by omega) rfl rfl (Nat.le_of_ble_eq_true rfl) ?_
            refine ax_if_eq 43 39 dX4_lease_36 (by decide) rfl (fun c36 => ?_) (fun c36 => ?_)
            · refine ax_iconst (v := 0) 44 dX4_lease_43 rfl (by decide) ?_
              exact ax_bx K (by simp [bI_0, bI_1, gSe, bI_n0.mp c4, bI_n0.mp c11, bI_n0.mp c18, c23, bI_0.mp c36])
            · refine ax_iconst (v := 1) 40 dX4_lease_39 rfl (by decide) ?_
              refine ax_goto 44 dX4_lease_40 (by decide) ?_
              exact ax_bx K (by simp [bI_0, bI_1, gSe, bI_n0.mp c4, bI_n0.mp c11, bI_n0.mp c18, c23, bI_n0.mp c36])
  refine ax_istore 46 dX4_lease_44 rfl (Nat.le_of_ble_eq_true rfl) ?_
  refine ax_jn 91 (leB p m s f t kg) (fun K => ?_) ?_
  · refine ax_iload 48 dX4_lease_46 rfl rfl ?_
    refine ax_if_eq 90 51 dX4_lease_48 (by decide) rfl (fun c => ?_) (fun c => ?_)
    · refine ax_iconst (v := 0) 91 dX4_lease_90 rfl (by decide) ?_
      exact ax_bx K (by simp [bI_0, leB, bI_0.mp c])
    · obtain ⟨g1, g2, g3, -⟩ := gSe_t (bI_n0.mp c)
      obtain ⟨j, hj, e, ej⟩ := w3 g1
      obtain ⟨k, hk, e2, ek⟩ := w5 g2
      subst e e2
      refine ax_aload_n 0 52 dX4_lease_51 rfl rfl rfl ?_
      refine ax_getf 55 dX4_lease_52 rfl fl_X4_173 rfl rfl ?_
      refine ax_if_eq 90 58 dX4_lease_55 (by decide) rfl (fun c2 => ?_) (fun c2 => ?_)
      · refine ax_iconst (v := 0) 91 dX4_lease_90 rfl (by decide) ?_
        exact ax_bx K (by simp [bI_0, leB, ntz, c2])
      · refine ax_aload_n 0 59 dX4_lease_58 rfl rfl rfl ?_
        refine ax_getf 62 dX4_lease_59 rfl fl_X4_164 rfl rfl ?_
        refine ax_sipush (v := 200) 65 dX4_lease_62 rfl (by decide) ?_
        refine ax_icmp_ge 90 68 dX4_lease_65 (by decide) rfl (fun c3 => ?_) (fun c3 => ?_)
        · refine ax_iconst (v := 0) 91 dX4_lease_90 rfl (by decide) ?_
          exact ax_bx K (by simp [bI_0, leB, Int32.not_lt.mpr c3])
        · refine ax_aload_n 0 69 dX4_lease_68 rfl rfl rfl ?_
          refine ax_aload_n 0 70 dX4_lease_69 rfl rfl rfl ?_
          refine ax_getf 73 dX4_lease_70 rfl fl_X4_141 rfl rfl ?_
          rw [hy]
          refine ax_iload_n 2 74 dX4_lease_73 rfl rfl rfl ?_
          refine ax_iload_n 1 75 dX4_lease_74 rfl rfl rfl ?_
          refine ax_cS 78 dX4_lease_75 rfl ml_X4_147 (m_at (d := d - 1) m k j) (by omega) rfl rfl (Nat.le_of_ble_eq_true rfl) ?_
          refine ax_cV 81 dX4_lease_78 rfl ml_X4_153 (m_left (d := d - 1) _ (by omega)) rfl (by omega) rfl rfl (Nat.le_of_ble_eq_true rfl) ?_
          refine ax_iload 83 dX4_lease_81 rfl rfl ?_
          refine ax_icmp_lt 90 86 dX4_lease_83 (by decide) rfl (fun c4 => ?_) (fun c4 => ?_)
          · refine ax_iconst (v := 0) 91 dX4_lease_90 rfl (by decide) ?_
            exact ax_bx K (by simp [bI_0, leB, ej, ek, Int32.not_le.mpr c4])
          · refine ax_iconst (v := 1) 87 dX4_lease_86 rfl (by decide) ?_
            refine ax_goto 91 dX4_lease_87 (by decide) ?_
            exact ax_bx K (by simp [bI_1, leB, ej, ek, ntz, bI_n0.mp c, c2, Int32.not_le.mp c3, Int32.not_lt.mp c4])
  · refine ax_istore 93 dX4_lease_91 rfl (Nat.le_of_ble_eq_true rfl) ?_
    refine ax_aload_n 0 94 dX4_lease_93 rfl rfl rfl ?_
    refine ax_jn 104 (!gSe s f t kg) (fun K => ?_) ?_
    · refine ax_iload 96 dX4_lease_94 rfl rfl ?_
      refine ax_if_ne 103 99 dX4_lease_96 (by decide) rfl (fun c96 => ?_) (fun c96 => ?_)
      · refine ax_iconst (v := 0) 104 dX4_lease_103 rfl (by decide) ?_
        exact ax_bx K (by simp [bI_0, bI_1, bI_n0.mp c96])
      · refine ax_iconst (v := 1) 100 dX4_lease_99 rfl (by decide) ?_
        refine ax_goto 104 dX4_lease_100 (by decide) ?_
        exact ax_bx K (by simp [bI_0, bI_1, bI_0.mp c96])
    refine ax_jn 114 (!leB p m s f t kg) (fun K => ?_) ?_
    · refine ax_iload 106 dX4_lease_104 rfl rfl ?_
      refine ax_if_ne 113 109 dX4_lease_106 (by decide) rfl (fun c106 => ?_) (fun c106 => ?_)
      · refine ax_iconst (v := 0) 114 dX4_lease_113 rfl (by decide) ?_
        exact ax_bx K (by simp [bI_0, bI_1, bI_n0.mp c106])
      · refine ax_iconst (v := 1) 110 dX4_lease_109 rfl (by decide) ?_
        refine ax_goto 114 dX4_lease_110 (by decide) ?_
        exact ax_bx K (by simp [bI_0, bI_1, bI_0.mp c106])
    refine ax_cV 117 dX4_lease_114 rfl ml_X4_126 (m_refuse (d := d - 1) _ _) rfl (by omega) rfl rfl (Nat.le_of_ble_eq_true rfl) ?_
    refine ax_if_eq 122 120 dX4_lease_117 (by decide) rfl (fun c => ?_) (fun c => ?_)
    · rw [show mLease p n m s f t kg = _ from if_neg (by rw [bI_0.mp c]; decide)]
      obtain ⟨g1, g2, g3, -⟩ := gSe_t (nn_f (or_f (bI_0.mp c)).1)
      have g4 := nn_f (or_f (bI_0.mp c)).2
      obtain ⟨j, hj, e, ej⟩ := w3 g1
      obtain ⟨k, hk, e2, ek⟩ := w5 g2
      obtain ⟨k3, hk3, e3, ek3⟩ := w5 g3
      subst e e2 e3
      have hn2 : n < 200 := by
        refine nI_lt200 hn fun z => ?_
        have h9 : p 31 20 < 200 := by
          simp [leB] at g4
          exact g4.2.2.1
        rw [hc] at h9
        exact absurd z (Int32.not_le.mpr h9)
      generalize rfM (!gSe (nI j) (nI k) (nI k3) kg) (!leB p m (nI j) (nI k) (nI k3) kg) = x0
      have hc1 : qv p 31 0 x0 31 20 = nI n := hc
      have hy1 : qv p 31 0 x0 31 9 = nI m := hy
      have he1 : ∀ i, i < n → evOK (eP (qv p 31 0 x0)) i := he
      revert hc1 hy1 he1
      generalize qv p 31 0 x0 = p1
      intro hc1 hy1 he1
      have he2 := evA (p := p1) (n := n) (y := m) (v := k) (s := j) (x := 0) (f := nI k3) (g := kg) (h := kg) he1 hm hk hj (fun _ => ⟨k3, rfl, hk3⟩) (fun z _ => absurd rfl z)
      have hc2 : tellM p1 n 0 (nI m) (nI k) (nI j) (nI k3) kg kg 31 20 = nI n := hc1
      have hy2 : tellM p1 n 0 (nI m) (nI k) (nI j) (nI k3) kg kg 31 9 = nI m := hy1
      refine ax_aload_n 0 123 dX4_lease_122 rfl rfl rfl ?_
      refine ax_iconst (v := 0) 124 dX4_lease_123 rfl (by decide) ?_
      refine ax_aload_n 0 125 dX4_lease_124 rfl rfl rfl ?_
      refine ax_getf 128 dX4_lease_125 rfl fl_X4_141 rfl rfl ?_
      rw [hy1]
      refine ax_iload_n 2 129 dX4_lease_128 rfl rfl rfl ?_
      refine ax_iload_n 1 130 dX4_lease_129 rfl rfl rfl ?_
      refine ax_iload_n 3 131 dX4_lease_130 rfl rfl rfl ?_
      refine ax_iload 133 dX4_lease_131 rfl rfl ?_
      refine ax_iload 135 dX4_lease_133 rfl rfl ?_
      refine ax_cVv 138 dX4_lease_135 rfl ml_X4_187 (m_tell (d := d - 1) n 0 (nI m) (nI k) (nI j) (nI k3) kg kg hn2 hc1) rfl (by omega) rfl rfl (Nat.le_of_ble_eq_true rfl) ?_
      refine ax_aload_n 0 139 dX4_lease_138 rfl rfl rfl ?_
      refine ax_cV 142 dX4_lease_139 rfl ml_X4_191 (m_put (d := d - 1) (by omega) n m hn2 hc2 hm hy2 he2) rfl (by omega) rfl rfl (Nat.le_of_ble_eq_true rfl) ?_
      exact ax_iret dX4_lease_142 rfl rfl
    · rw [show mLease p n m s f t kg = _ from if_pos (bI_n0.mp c)]
      refine ax_iconst (v := 0) 121 dX4_lease_120 rfl (by decide) ?_
      exact ax_iret dX4_lease_121 rfl rfl
end M5
