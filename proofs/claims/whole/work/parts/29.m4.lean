/-! the reference: its public methods, first part -/
def gSp (s v c : Int32) : Bool := isW s 0 3 && (isW v 1 1000 && isW c 0 1000000)
def gFa (s f t : Int32) : Bool := !(isW s 0 3) || (!(isW f 0 2) || !(isW t 0 5000))
def gVe (v o : Int32) : Bool := isW v 0 5 && isW o 0 5
def gLk (a b : Int32) : Bool := !(isW a 0 5) || (!(isW b 0 5) || decide (a = b))
def gIs (s o m : Int32) : Bool := isW s 0 3 && (isW o 0 5 && isW m 1 1000000)
def gSe (s f t m : Int32) : Bool := isW s 0 3 && (isW f 0 5 && (isW t 0 5 && (!decide (f = t) && isW m 1 1000000)))
def gPl (s v : Int32) : Bool := isW s 0 3 && isW v 0 5
theorem gSe_t {s f t m : Int32} (h : gSe s f t m = true) : isW s 0 3 = true ∧ isW f 0 5 = true ∧ isW t 0 5 = true ∧ ¬ f = t ∧ isW m 1 1000000 = true := by
  simp [gSe] at h
  exact h
theorem noF {b : Bool} {P : Prop} (c : bI b = 0) (h : b = true) : P := absurd (bI_0.mp c) (by rw [h]; decide)
theorem noT {b : Bool} {P : Prop} (c : ¬ bI b = 0) (h : b = false) : P := absurd (bI_n0.mp c) (by rw [h]; decide)
theorem or_f {a b : Bool} (h : (a || b) = false) : a = false ∧ b = false := by cases a <;> cases b <;> simp_all
theorem nn_f {a : Bool} (h : (!a) = false) : a = true := by cases a <;> simp_all
def mSpecies (p : Nat → Nat → Int32) (s v c : Int32) : Nat → Nat → Int32 :=
  if gSp s v c = true then (if (ftM (tN s) c 6 p).1 = true then qv (qv (qv (ftM (tN s) c 6 p).2 31 0 0) 32 (tN s) v) 33 (tN s) c else qv (ftM (tN s) c 6 p).2 31 0 1) else qv p 31 0 1
def mFactor (p : Nat → Nat → Int32) (s f t : Int32) : Nat → Nat → Int32 :=
  if (gFa s f t || false) = true then qv p 31 0 (rfM (gFa s f t) false) else qv (qv p 31 0 (rfM (gFa s f t) false)) 34 (3 * tN s + tN f) t
def hasM (p : Nat → Nat → Int32) (v : Nat) (n : Nat) : Bool := anyF (fun s => decide (0 < p 37 (6 * s + v))) n
def mVessel (p : Nat → Nat → Int32) (v o : Int32) : Nat → Nat → Int32 :=
  if (!gVe v o || (gVe v o && hasM p (tN v) 4)) = true then qv p 31 0 (rfM (!gVe v o) (gVe v o && hasM p (tN v) 4)) else qv (qv p 31 0 (rfM (!gVe v o) (gVe v o && hasM p (tN v) 4))) 35 (tN v) o
def lk1 (s : Nat) (z : Bool × (Nat → Nat → Int32)) : Bool × (Nat → Nat → Int32) := if z.1 = true then ftM s (z.2 33 s) 6 z.2 else z
def lkM (n : Nat) (p : Nat → Nat → Int32) : Bool × (Nat → Nat → Int32) := itF lk1 n (true, p)
def lkE (p : Nat → Nat → Int32) (a b : Nat) (was : Int32) (z : Bool × (Nat → Nat → Int32)) : Nat → Nat → Int32 :=
  if (false || !z.1) = true then slM (qv z.2 31 0 (rfM false (!z.1))) a b was else qv z.2 31 0 (rfM false (!z.1))
def mLink (p : Nat → Nat → Int32) (a b : Int32) : Nat → Nat → Int32 :=
  if (gLk a b || false) = true then qv p 31 0 (rfM (gLk a b) false)
  else lkE p (tN a) (tN b) (p 38 (6 * tN a + tN b)) (lkM 4 (slM (qv p 31 0 (rfM (gLk a b) false)) (tN a) (tN b) 1))
def ulM (p : Nat → Nat → Int32) (a b : Int32) : Bool := two5 a b && decide (p 38 (6 * tN a + tN b) = 0)
def mUnlink (p : Nat → Nat → Int32) (a b : Int32) : Nat → Nat → Int32 :=
  if (!two5 a b || ulM p a b) = true then qv p 31 0 (rfM (!two5 a b) (ulM p a b)) else slM (qv p 31 0 (rfM (!two5 a b) (ulM p a b))) (tN a) (tN b) 0
def allP (p : Nat → Nat → Int32) (s n : Nat) (m : Int32) : Int32 := itF (fun k a => a + p 36 (6 * s + k)) n m
def isE (k : Nat) (m : Int32) (z : Bool × (Nat → Nat → Int32)) : Int32 × (Nat → Nat → Int32) :=
  if (false || z.1) = true then (0, qv (qv z.2 31 0 (rfM false z.1)) 36 k (qv z.2 31 0 (rfM false z.1) 36 k - m)) else (z.2 36 k, qv z.2 31 0 (rfM false z.1))
def isZ (p : Nat → Nat → Int32) (s : Nat) (all : Int32) : Bool × (Nat → Nat → Int32) :=
  if 1000000 < all then (true, p) else (!(ftM s (p 33 s) 6 p).1, (ftM s (p 33 s) 6 p).2)
def mIssue (p : Nat → Nat → Int32) (s o m : Int32) : Int32 × (Nat → Nat → Int32) :=
  if (!gIs s o m || decide (0 < p 31 9)) = true then (0, qv p 31 0 (rfM (!gIs s o m) (decide (0 < p 31 9))))
  else isE (6 * tN s + tN o) m (isZ (qv (qv p 31 0 (rfM (!gIs s o m) (decide (0 < p 31 9)))) 36 (6 * tN s + tN o) (p 36 (6 * tN s + tN o) + m)) (tN s) (allP p (tN s) 6 m))
def seB (p : Nat → Nat → Int32) (s f t m : Int32) : Bool := gSe s f t m && decide (freeM p (tN s) f (p 36 (6 * tN s + tN f)) 6 < m)
def seE (a b : Nat) (m : Int32) (z : Bool × (Nat → Nat → Int32)) : Nat → Nat → Int32 :=
  if (false || !z.1) = true then
    (let p4 := qv z.2 31 0 (rfM false (!z.1)); let p5 := qv p4 36 a (p4 36 a + m); qv p5 36 b (p5 36 b - m))
  else qv z.2 31 0 (rfM false (!z.1))
def mSell (p : Nat → Nat → Int32) (s f t m : Int32) : Nat → Nat → Int32 :=
  if (!gSe s f t m || seB p s f t m) = true then qv p 31 0 (rfM (!gSe s f t m) (seB p s f t m))
  else
    let p1 := qv p 31 0 (rfM (!gSe s f t m) (seB p s f t m))
    let p2 := qv p1 36 (6 * tN s + tN f) (p1 36 (6 * tN s + tN f) - m)
    let p3 := qv p2 36 (6 * tN s + tN t) (p2 36 (6 * tN s + tN t) + m)
    seE (6 * tN s + tN f) (6 * tN s + tN t) m (ftM (tN s) (p3 33 (tN s)) 6 p3)
def plR (p : Nat → Nat → Int32) (s v m : Int32) : Bool := gPl s v && (decide (m ≤ freeM p (tN s) (p 35 (tN v)) (p 36 (6 * tN s + tN (p 35 (tN v)))) 6) && decide ((0 : Int64) ≤ (p 37 (6 * tN s + tN v)).toInt64 + m.toInt64))
def mPlace (p : Nat → Nat → Int32) (s v m : Int32) : Int32 × (Nat → Nat → Int32) :=
  if (!gPl s v || !plR p s v m) = true then (0, qv p 31 0 (rfM (!gPl s v) (!plR p s v m)))
  else
    let p1 := qv p 31 0 (rfM (!gPl s v) (!plR p s v m))
    let p2 := qv p1 37 (6 * tN s + tN v) (p1 37 (6 * tN s + tN v) + m)
    (p2 37 (6 * tN s + tN v), p2)
theorem ax_jt {G : ax_G} {M : ax_M} {d nc ns pc : Nat} {lv : ax_V} {st : List Value} {w : ax_W} {o : ax_O} (to : Nat) (k : ax_Ex G M d nc ns to lv st w o → ax_Ex G M d nc ns pc lv st w o) (K : ax_Ex G M d nc ns to lv st w o) : ax_Ex G M d nc ns pc lv st w o := k K
theorem ax_jp {G : ax_G} {M : ax_M} {d nc ns pc : Nat} {lv : ax_V} {st : List Value} {x : Value} {w : ax_W} {o : ax_O} (to : Nat) (b : Bool) (k : ax_Ex G M d nc ns to lv (.int (bI b) :: st) w o → ax_Ex G M d nc ns pc lv (x :: st) w o) (K : ax_Ex G M d nc ns to lv (.int (bI b) :: st) w o) : ax_Ex G M d nc ns pc lv (x :: st) w o := k K
section M4
variable {G : ax_G} {d : Nat} {q p : Nat → Nat → Int32} {l : Nat → Int64} {r : ax_W}
theorem m_species (hd : 5 ≤ d) (s v c : Int32) : ax_Met G M_X4_species d 0 0 [.ref 31, .int s, .int v, .int c] (wQ q ++ (wM p l ++ r)) (.inl none, wQ q ++ (wM (mSpecies p s v c) l ++ r)) := by
  refine ax_of rfl (by decide) (Nat.le_of_ble_eq_true rfl) ?_
  by_cases g : gSp s v c = true
  · rw [show mSpecies p s v c = _ from if_pos g]
    have g1 : isW s 0 3 = true ∧ isW v 1 1000 = true ∧ isW c 0 1000000 = true := by simpa [gSp] using g
    obtain ⟨g1, g2, g3⟩ := g1
    obtain ⟨j, hj, e, ej⟩ := w3 g1
    subst e
    rw [ej]
    refine ax_jt 31 (fun K => ?_) ?_
    · refine ax_iload_n 1 1 dX4_species_0 rfl rfl rfl ?_
      refine ax_cS 4 dX4_species_1 rfl ml_X4_114 (m_isSpecies (d := d - 1) (by omega) _) (by omega) rfl rfl (Nat.le_of_ble_eq_true rfl) ?_
      refine ax_if_eq 44 7 dX4_species_4 (by decide) rfl (fun c4 => ?_) (fun c4 => ?_)
      · exact noF c4 g1
      · refine ax_iload_n 2 8 dX4_species_7 rfl rfl rfl ?_
        refine ax_i2l 9 dX4_species_8 rfl ?_
        refine ax_lconst (v := 1) 10 dX4_species_9 rfl (by decide) ?_
        refine ax_ldc2 (v := 1000) 13 dX4_species_10 rfl cj_X4_118 ?_
        refine ax_cS 16 dX4_species_13 rfl ml_X4_100 (m_in (d := d - 1) _ 1 1000 1 1000 rfl rfl) (by omega) rfl rfl (Nat.le_of_ble_eq_true rfl) ?_
        refine ax_if_eq 44 19 dX4_species_16 (by decide) rfl (fun c16 => ?_) (fun c16 => ?_)
        · exact noF c16 g2
        · refine ax_iload_n 3 20 dX4_species_19 rfl rfl rfl ?_
          refine ax_i2l 21 dX4_species_20 rfl ?_
          refine ax_lconst (v := 0) 22 dX4_species_21 rfl (by decide) ?_
          refine ax_ldc2 (v := 1000000) 25 dX4_species_22 rfl cj_X4_120 ?_
          refine ax_cS 28 dX4_species_25 rfl ml_X4_100 (m_in (d := d - 1) _ 0 1000000 0 1000000 rfl rfl) (by omega) rfl rfl (Nat.le_of_ble_eq_true rfl) ?_
          refine ax_if_eq 44 31 dX4_species_28 (by decide) rfl (fun c28 => ?_) (fun c28 => ?_)
          · exact noF c28 g3
          · exact K
    · refine ax_aload_n 0 32 dX4_species_31 rfl rfl rfl ?_
      refine ax_iload_n 1 33 dX4_species_32 rfl rfl rfl ?_
      refine ax_iload_n 3 34 dX4_species_33 rfl rfl rfl ?_
      refine ax_cV 37 dX4_species_34 rfl ml_X4_122 (m_fits (d := d - 1) (by omega) j c hj) rfl (by omega) rfl rfl (Nat.le_of_ble_eq_true rfl) ?_
      generalize ftM j c 6 p = z
      obtain ⟨z1, z2⟩ := z
      dsimp only
      refine ax_jp 45 (z1) (fun K => ?_) ?_
      · refine ax_if_eq 44 40 dX4_species_37 (by decide) rfl (fun c37 => ?_) (fun c37 => ?_)
        · refine ax_iconst (v := 0) 45 dX4_species_44 rfl (by decide) ?_
          exact ax_bx K (by simp [bI_0, bI_1, bI_0.mp c37])
        · refine ax_iconst (v := 1) 41 dX4_species_40 rfl (by decide) ?_
          refine ax_goto 45 dX4_species_41 (by decide) ?_
          exact ax_bx K (by simp [bI_0, bI_1, bI_n0.mp c37])
      refine ax_istore 47 dX4_species_45 rfl (Nat.le_of_ble_eq_true rfl) ?_
      refine ax_aload_n 0 48 dX4_species_47 rfl rfl rfl ?_
      refine ax_jn 58 (!z1) (fun K => ?_) ?_
      · refine ax_iload 50 dX4_species_48 rfl rfl ?_
        refine ax_if_ne 57 53 dX4_species_50 (by decide) rfl (fun c50 => ?_) (fun c50 => ?_)
        · refine ax_iconst (v := 0) 58 dX4_species_57 rfl (by decide) ?_
          exact ax_bx K (by simp [bI_0, bI_1, bI_n0.mp c50])
        · refine ax_iconst (v := 1) 54 dX4_species_53 rfl (by decide) ?_
          refine ax_goto 58 dX4_species_54 (by decide) ?_
          exact ax_bx K (by simp [bI_0, bI_1, bI_0.mp c50])
      refine ax_iconst (v := 0) 59 dX4_species_58 rfl (by decide) ?_
      refine ax_cV 62 dX4_species_59 rfl ml_X4_126 (m_refuse (d := d - 1) _ false) rfl (by omega) rfl rfl (Nat.le_of_ble_eq_true rfl) ?_
      refine ax_if_eq 66 65 dX4_species_62 (by decide) rfl (fun c1 => ?_) (fun c1 => ?_)
      · have h := or_f (bI_0.mp c1)
        have h1 := nn_f h.1
        subst h1
        rw [if_pos rfl]
        refine ax_aload_n 0 67 dX4_species_66 rfl rfl rfl ?_
        refine ax_getf 70 dX4_species_67 rfl fl_X4_7 rfl rfl ?_
        refine ax_iload_n 1 71 dX4_species_70 rfl rfl rfl ?_
        refine ax_iload_n 2 72 dX4_species_71 rfl rfl rfl ?_
        refine ax_iastN 73 dX4_species_72 rfl rfl rfl (by omega) (by decide) ?_
        rw [wMs_32]
        refine ax_aload_n 0 74 dX4_species_73 rfl rfl rfl ?_
        refine ax_getf 77 dX4_species_74 rfl fl_X4_13 rfl rfl ?_
        refine ax_iload_n 1 78 dX4_species_77 rfl rfl rfl ?_
        refine ax_iload_n 3 79 dX4_species_78 rfl rfl rfl ?_
        refine ax_iastN 80 dX4_species_79 rfl rfl rfl (by omega) (by decide) ?_
        rw [wMs_33]
        exact ax_vret dX4_species_80 rfl rfl
      · cases z1 with
        | true => exact absurd (bI_n0.mp c1) (by decide)
        | false =>
          rw [if_neg (by decide)]
          exact ax_vret dX4_species_65 rfl rfl
  · rw [show mSpecies p s v c = _ from if_neg g]
    refine ax_jt 44 (fun K => ?_) ?_
    · refine ax_iload_n 1 1 dX4_species_0 rfl rfl rfl ?_
      refine ax_cS 4 dX4_species_1 rfl ml_X4_114 (m_isSpecies (d := d - 1) (by omega) _) (by omega) rfl rfl (Nat.le_of_ble_eq_true rfl) ?_
      refine ax_if_eq 44 7 dX4_species_4 (by decide) rfl (fun c4 => ?_) (fun c4 => ?_)
      · exact K
      · refine ax_iload_n 2 8 dX4_species_7 rfl rfl rfl ?_
        refine ax_i2l 9 dX4_species_8 rfl ?_
        refine ax_lconst (v := 1) 10 dX4_species_9 rfl (by decide) ?_
        refine ax_ldc2 (v := 1000) 13 dX4_species_10 rfl cj_X4_118 ?_
        refine ax_cS 16 dX4_species_13 rfl ml_X4_100 (m_in (d := d - 1) _ 1 1000 1 1000 rfl rfl) (by omega) rfl rfl (Nat.le_of_ble_eq_true rfl) ?_
        refine ax_if_eq 44 19 dX4_species_16 (by decide) rfl (fun c16 => ?_) (fun c16 => ?_)
        · exact K
        · refine ax_iload_n 3 20 dX4_species_19 rfl rfl rfl ?_
          refine ax_i2l 21 dX4_species_20 rfl ?_
          refine ax_lconst (v := 0) 22 dX4_species_21 rfl (by decide) ?_
          refine ax_ldc2 (v := 1000000) 25 dX4_species_22 rfl cj_X4_120 ?_
          refine ax_cS 28 dX4_species_25 rfl ml_X4_100 (m_in (d := d - 1) _ 0 1000000 0 1000000 rfl rfl) (by omega) rfl rfl (Nat.le_of_ble_eq_true rfl) ?_
          refine ax_if_eq 44 31 dX4_species_28 (by decide) rfl (fun c28 => ?_) (fun c28 => ?_)
          · exact K
          · exact absurd (by simp [gSp, bI_n0.mp c4, bI_n0.mp c16, bI_n0.mp c28]) g
    · refine ax_iconst (v := 0) 45 dX4_species_44 rfl (by decide) ?_
      refine ax_istore 47 dX4_species_45 rfl (Nat.le_of_ble_eq_true rfl) ?_
      refine ax_aload_n 0 48 dX4_species_47 rfl rfl rfl ?_
      refine ax_iload 50 dX4_species_48 rfl rfl ?_
      refine ax_if_ne 57 53 dX4_species_50 (by decide) rfl (fun c7 => ?_) (fun c7 => ?_)
      · exact absurd rfl c7
      · refine ax_iconst (v := 1) 54 dX4_species_53 rfl (by decide) ?_
        refine ax_goto 58 dX4_species_54 (by decide) ?_
        refine ax_iconst (v := 0) 59 dX4_species_58 rfl (by decide) ?_
        refine ax_cV 62 dX4_species_59 rfl ml_X4_126 (m_refuse (d := d - 1) true false) rfl (by omega) rfl rfl (Nat.le_of_ble_eq_true rfl) ?_
        refine ax_if_eq 66 65 dX4_species_62 (by decide) rfl (fun c8 => ?_) (fun c8 => ?_)
        · cases c8
        · exact ax_vret dX4_species_65 rfl rfl
theorem m_factor (hd : 5 ≤ d) (s f t : Int32) : ax_Met G M_X4_factor d 0 0 [.ref 31, .int s, .int f, .int t] (wQ q ++ (wM p l ++ r)) (.inl none, wQ q ++ (wM (mFactor p s f t) l ++ r)) := by
  refine ax_of rfl (by decide) (Nat.le_of_ble_eq_true rfl) ?_
  refine ax_aload_n 0 1 dX4_factor_0 rfl rfl rfl ?_
  refine ax_jn 37 (gFa s f t) (fun K => ?_) ?_
  · refine ax_iload_n 1 2 dX4_factor_1 rfl rfl rfl ?_
    refine ax_cS 5 dX4_factor_2 rfl ml_X4_114 (m_isSpecies (d := d - 1) (by omega) _) (by omega) rfl rfl (Nat.le_of_ble_eq_true rfl) ?_
    refine ax_if_eq 32 8 dX4_factor_5 (by decide) rfl (fun c5 => ?_) (fun c5 => ?_)
    · refine ax_iconst (v := 1) 33 dX4_factor_32 rfl (by decide) ?_
      refine ax_goto 37 dX4_factor_33 (by decide) ?_
      exact ax_bx K (by simp [bI_0, bI_1, gFa, bI_0.mp c5])
    · refine ax_iload_n 2 9 dX4_factor_8 rfl rfl rfl ?_
      refine ax_i2l 10 dX4_factor_9 rfl ?_
      refine ax_lconst (v := 0) 11 dX4_factor_10 rfl (by decide) ?_
      refine ax_ldc2 (v := 2) 14 dX4_factor_11 rfl cj_X4_130 ?_
      refine ax_cS 17 dX4_factor_14 rfl ml_X4_100 (m_in (d := d - 1) _ 0 2 0 2 rfl rfl) (by omega) rfl rfl (Nat.le_of_ble_eq_true rfl) ?_
      refine ax_if_eq 32 20 dX4_factor_17 (by decide) rfl (fun c17 => ?_) (fun c17 => ?_)
      · refine ax_iconst (v := 1) 33 dX4_factor_32 rfl (by decide) ?_
        refine ax_goto 37 dX4_factor_33 (by decide) ?_
        exact ax_bx K (by simp [bI_0, bI_1, gFa, bI_n0.mp c5, bI_0.mp c17])
      · refine ax_iload_n 3 21 dX4_factor_20 rfl rfl rfl ?_
        refine ax_i2l 22 dX4_factor_21 rfl ?_
        refine ax_lconst (v := 0) 23 dX4_factor_22 rfl (by decide) ?_
        refine ax_ldc2 (v := 5000) 26 dX4_factor_23 rfl cj_X4_132 ?_
        refine ax_cS 29 dX4_factor_26 rfl ml_X4_100 (m_in (d := d - 1) _ 0 5000 0 5000 rfl rfl) (by omega) rfl rfl (Nat.le_of_ble_eq_true rfl) ?_
        refine ax_if_ne 36 32 dX4_factor_29 (by decide) rfl (fun c29 => ?_) (fun c29 => ?_)
        · refine ax_iconst (v := 0) 37 dX4_factor_36 rfl (by decide) ?_
          exact ax_bx K (by simp [bI_0, bI_1, gFa, bI_n0.mp c5, bI_n0.mp c17, bI_n0.mp c29])
        · refine ax_iconst (v := 1) 33 dX4_factor_32 rfl (by decide) ?_
          refine ax_goto 37 dX4_factor_33 (by decide) ?_
          exact ax_bx K (by simp [bI_0, bI_1, gFa, bI_n0.mp c5, bI_n0.mp c17, bI_0.mp c29])
  refine ax_iconst (v := 0) 38 dX4_factor_37 rfl (by decide) ?_
  refine ax_cV 41 dX4_factor_38 rfl ml_X4_126 (m_refuse (d := d - 1) _ false) rfl (by omega) rfl rfl (Nat.le_of_ble_eq_true rfl) ?_
  refine ax_if_eq 45 44 dX4_factor_41 (by decide) rfl (fun c => ?_) (fun c => ?_)
  · rw [show mFactor p s f t = _ from if_neg (by rw [bI_0.mp c]; decide)]
    have g1 : isW s 0 3 = true ∧ isW f 0 2 = true ∧ isW t 0 5000 = true := by simpa [gFa] using (or_f (bI_0.mp c)).1
    obtain ⟨g1, g2, g3⟩ := g1
    obtain ⟨j, hj, e, ej⟩ := w3 g1
    obtain ⟨k, hk, e2, ek⟩ := w2 g2
    subst e e2
    rw [ej, ek]
    refine ax_aload_n 0 46 dX4_factor_45 rfl rfl rfl ?_
    refine ax_getf 49 dX4_factor_46 rfl fl_X4_16 rfl rfl ?_
    refine ax_iconst (v := 3) 50 dX4_factor_49 rfl (by decide) ?_
    refine ax_iload_n 1 51 dX4_factor_50 rfl rfl rfl ?_
    refine ax_imul 52 dX4_factor_51 rfl ?_
    refine ax_iload_n 2 53 dX4_factor_52 rfl rfl rfl ?_
    refine ax_iadd 54 dX4_factor_53 rfl ?_
    refine ax_iload_n 3 55 dX4_factor_54 rfl rfl rfl ?_
    refine ax_iastN 56 dX4_factor_55 rfl rfl (ix3' j k) (by omega) (by decide) ?_
    rw [wMs_34]
    exact ax_vret dX4_factor_56 rfl rfl
  · rw [show mFactor p s f t = _ from if_pos (bI_n0.mp c)]
    exact ax_vret dX4_factor_44 rfl rfl
theorem m_vessel (hd : 5 ≤ d) (v o : Int32) : ax_Met G M_X4_vessel d 0 0 [.ref 31, .int v, .int o] (wQ q ++ (wM p l ++ r)) (.inl none, wQ q ++ (wM (mVessel p v o) l ++ r)) := by
  refine ax_of rfl (by decide) (Nat.le_of_ble_eq_true rfl) ?_
  refine ax_jn 19 (gVe v o) (fun K => ?_) ?_
  · refine ax_iload_n 1 1 dX4_vessel_0 rfl rfl rfl ?_
    refine ax_cS 4 dX4_vessel_1 rfl ml_X4_134 (m_isOne (d := d - 1) (by omega) _) (by omega) rfl rfl (Nat.le_of_ble_eq_true rfl) ?_
    refine ax_if_eq 18 7 dX4_vessel_4 (by decide) rfl (fun c4 => ?_) (fun c4 => ?_)
    · refine ax_iconst (v := 0) 19 dX4_vessel_18 rfl (by decide) ?_
      exact ax_bx K (by simp [bI_0, bI_1, gVe, bI_0.mp c4])
    · refine ax_iload_n 2 8 dX4_vessel_7 rfl rfl rfl ?_
      refine ax_cS 11 dX4_vessel_8 rfl ml_X4_134 (m_isOne (d := d - 1) (by omega) _) (by omega) rfl rfl (Nat.le_of_ble_eq_true rfl) ?_
      refine ax_if_eq 18 14 dX4_vessel_11 (by decide) rfl (fun c11 => ?_) (fun c11 => ?_)
      · refine ax_iconst (v := 0) 19 dX4_vessel_18 rfl (by decide) ?_
        exact ax_bx K (by simp [bI_0, bI_1, gVe, bI_n0.mp c4, bI_0.mp c11])
      · refine ax_iconst (v := 1) 15 dX4_vessel_14 rfl (by decide) ?_
        refine ax_goto 19 dX4_vessel_15 (by decide) ?_
        exact ax_bx K (by simp [bI_0, bI_1, gVe, bI_n0.mp c4, bI_n0.mp c11])
  have K : ax_Ex G M_X4_vessel d 0 0 69 [(0, .ref 31), (1, .int v), (2, .int o), (3, .int (bI (gVe v o))), (4, .int (bI (gVe v o && hasM p (tN v) 4)))] [] (wQ q ++ (wM p l ++ r)) (.inl none, wQ q ++ (wM (mVessel p v o) l ++ r)) := by
    refine ax_aload_n 0 70 dX4_vessel_69 rfl rfl rfl ?_
    refine ax_jn 79 (!gVe v o) (fun K => ?_) ?_
    · refine ax_iload_n 3 71 dX4_vessel_70 rfl rfl rfl ?_
      refine ax_if_ne 78 74 dX4_vessel_71 (by decide) rfl (fun c71 => ?_) (fun c71 => ?_)
      · refine ax_iconst (v := 0) 79 dX4_vessel_78 rfl (by decide) ?_
        exact ax_bx K (by simp [bI_0, bI_1, bI_n0.mp c71])
      · refine ax_iconst (v := 1) 75 dX4_vessel_74 rfl (by decide) ?_
        refine ax_goto 79 dX4_vessel_75 (by decide) ?_
        exact ax_bx K (by simp [bI_0, bI_1, bI_0.mp c71])
    refine ax_iload 81 dX4_vessel_79 rfl rfl ?_
    refine ax_cV 84 dX4_vessel_81 rfl ml_X4_126 (m_refuse (d := d - 1) _ _) rfl (by omega) rfl rfl (Nat.le_of_ble_eq_true rfl) ?_
    refine ax_if_eq 88 87 dX4_vessel_84 (by decide) rfl (fun c => ?_) (fun c => ?_)
    · rw [show mVessel p v o = _ from if_neg (by rw [bI_0.mp c]; decide)]
      have g1 : isW v 0 5 = true ∧ isW o 0 5 = true := by simpa [gVe] using nn_f (or_f (bI_0.mp c)).1
      obtain ⟨g1, g2⟩ := g1
      obtain ⟨j, hj, e, ej⟩ := w5 g1
      subst e
      rw [ej]
      refine ax_aload_n 0 89 dX4_vessel_88 rfl rfl rfl ?_
      refine ax_getf 92 dX4_vessel_89 rfl fl_X4_19 rfl rfl ?_
      refine ax_iload_n 1 93 dX4_vessel_92 rfl rfl rfl ?_
      refine ax_iload_n 2 94 dX4_vessel_93 rfl rfl rfl ?_
      refine ax_iastN 95 dX4_vessel_94 rfl rfl rfl (by omega) (by decide) ?_
      rw [wMs_35]
      exact ax_vret dX4_vessel_95 rfl rfl
    · rw [show mVessel p v o = _ from if_pos (bI_n0.mp c)]
      exact ax_vret dX4_vessel_87 rfl rfl
  refine ax_istore_n 3 20 dX4_vessel_19 rfl rfl (Nat.le_of_ble_eq_true rfl) ?_
  refine ax_iconst (v := 0) 21 dX4_vessel_20 rfl (by decide) ?_
  refine ax_istore 23 dX4_vessel_21 rfl (Nat.le_of_ble_eq_true rfl) ?_
  refine ax_iconst (v := 0) 24 dX4_vessel_23 rfl (by decide) ?_
  refine ax_istore 26 dX4_vessel_24 rfl (Nat.le_of_ble_eq_true rfl) ?_
  cases hg : gVe v o with
  | false =>
    rw [hg] at K
    refine ax_iload 28 dX4_vessel_26 rfl rfl ?_
    refine ax_iconst (v := 4) 29 dX4_vessel_28 rfl (by decide) ?_
    refine ax_icmp_ge 69 32 dX4_vessel_29 (by decide) rfl (fun c => ?_) (fun c => ?_)
    · exact absurd c (by decide)
    · refine ax_iload_n 3 33 dX4_vessel_32 rfl rfl rfl ?_
      refine ax_if_eq 69 36 dX4_vessel_33 (by decide) rfl (fun c2 => ?_) (fun c2 => ?_)
      · exact ax_lvk K ⟨rfl, rfl, rfl, rfl, rfl, trivial⟩
      · exact absurd rfl c2
  | true =>
    rw [hg] at K
    have g1 : isW v 0 5 = true ∧ isW o 0 5 = true := by simpa [gVe] using hg
    obtain ⟨j, hj, e, ej⟩ := w5 g1.1
    subst e
    rw [ej] at K
    refine ax_lvk (ax_down (P := fun i => ax_Ex G M_X4_vessel d 0 0 26 [(0, .ref 31), (1, .int (nI j)), (2, .int o), (3, .int (bI true)), (4, .int (bI (hasM p j i))), (5, .int (nI i))] [] (wQ q ++ (wM p l ++ r)) (.inl none, wQ q ++ (wM (mVessel p (nI j) o) l ++ r))) (n := 4) ?_ (fun i hi ih => ?_) 0 (Nat.zero_le _)) ⟨rfl, rfl, rfl, rfl, rfl, rfl, trivial⟩
    · refine ax_iload 28 dX4_vessel_26 rfl rfl ?_
      refine ax_iconst (v := 4) 29 dX4_vessel_28 rfl (by decide) ?_
      refine ax_icmp_ge 69 32 dX4_vessel_29 (by decide) rfl (fun c => ?_) (fun c => ?_)
      · exact ax_lvk K ⟨rfl, rfl, rfl, rfl, gI (by rw [Bool.true_and]), trivial⟩
      · exact absurd (by decide) c
    · refine ax_iload 28 dX4_vessel_26 rfl rfl ?_
      refine ax_iconst (v := 4) 29 dX4_vessel_28 rfl (by decide) ?_
      refine ax_icmp_ge 69 32 dX4_vessel_29 (by decide) rfl (fun c => ?_) (fun c => ?_)
      · exact absurd c (nI_ge hi (by decide))
      · refine ax_iload_n 3 33 dX4_vessel_32 rfl rfl rfl ?_
        refine ax_if_eq 69 36 dX4_vessel_33 (by decide) rfl (fun c2 => ?_) (fun c2 => ?_)
        · cases c2
        · refine ax_jn 61 (hasM p j i || decide (0 < p 37 (6 * i + j))) (fun K => ?_) ?_
          · refine ax_iload 38 dX4_vessel_36 rfl rfl ?_
            refine ax_if_ne 56 41 dX4_vessel_38 (by decide) rfl (fun c38 => ?_) (fun c38 => ?_)
            · refine ax_iconst (v := 1) 57 dX4_vessel_56 rfl (by decide) ?_
              refine ax_goto 61 dX4_vessel_57 (by decide) ?_
              exact ax_bx K (by simp [bI_0, bI_1, bI_n0.mp c38])
            · refine ax_aload_n 0 42 dX4_vessel_41 rfl rfl rfl ?_
              refine ax_getf 45 dX4_vessel_42 rfl fl_X4_25 rfl rfl ?_
              refine ax_bipush (v := 6) 47 dX4_vessel_45 rfl (by decide) ?_
              refine ax_iload 49 dX4_vessel_47 rfl rfl ?_
              refine ax_imul 50 dX4_vessel_49 rfl ?_
              refine ax_iload_n 1 51 dX4_vessel_50 rfl rfl rfl ?_
              refine ax_iadd 52 dX4_vessel_51 rfl ?_
              refine ax_ialdN 53 dX4_vessel_52 rfl rfl (ix6' i j) (by omega) (by decide) ?_
              refine ax_if_le 60 56 dX4_vessel_53 (by decide) rfl (fun c53 => ?_) (fun c53 => ?_)
              · refine ax_iconst (v := 0) 61 dX4_vessel_60 rfl (by decide) ?_
                exact ax_bx K (by simp [bI_0, bI_1, bI_0.mp c38, c53, Int32.not_lt.mpr c53])
              · refine ax_iconst (v := 1) 57 dX4_vessel_56 rfl (by decide) ?_
                refine ax_goto 61 dX4_vessel_57 (by decide) ?_
                exact ax_bx K (by simp [bI_0, bI_1, bI_0.mp c38, c53, Int32.not_le.mp c53])
          refine ax_istore 63 dX4_vessel_61 rfl (Nat.le_of_ble_eq_true rfl) ?_
          refine ax_iinc (v := (_ : Int32) + 1) 66 dX4_vessel_63 rfl rfl rfl (Nat.le_of_ble_eq_true rfl) ?_
          refine ax_goto 26 dX4_vessel_66 (by decide) ?_
          exact ax_lvk ih ⟨rfl, rfl, rfl, rfl, rfl, gI (nI_1 i), trivial⟩
theorem m_unlink (hd : 5 ≤ d) (a b : Int32) : ax_Met G M_X4_unlink d 0 0 [.ref 31, .int a, .int b] (wQ q ++ (wM p l ++ r)) (.inl none, wQ q ++ (wM (mUnlink p a b) l ++ r)) := by
  refine ax_of rfl (by decide) (Nat.le_of_ble_eq_true rfl) ?_
  refine ax_jn 24 (two5 a b) (fun K => ?_) ?_
  · refine ax_iload_n 1 1 dX4_unlink_0 rfl rfl rfl ?_
    refine ax_cS 4 dX4_unlink_1 rfl ml_X4_134 (m_isOne (d := d - 1) (by omega) _) (by omega) rfl rfl (Nat.le_of_ble_eq_true rfl) ?_
    refine ax_if_eq 23 7 dX4_unlink_4 (by decide) rfl (fun c4 => ?_) (fun c4 => ?_)
    · refine ax_iconst (v := 0) 24 dX4_unlink_23 rfl (by decide) ?_
      exact ax_bx K (by simp [bI_0, bI_1, two5, bI_0.mp c4])
    · refine ax_iload_n 2 8 dX4_unlink_7 rfl rfl rfl ?_
      refine ax_cS 11 dX4_unlink_8 rfl ml_X4_134 (m_isOne (d := d - 1) (by omega) _) (by omega) rfl rfl (Nat.le_of_ble_eq_true rfl) ?_
      refine ax_if_eq 23 14 dX4_unlink_11 (by decide) rfl (fun c11 => ?_) (fun c11 => ?_)
      · refine ax_iconst (v := 0) 24 dX4_unlink_23 rfl (by decide) ?_
        exact ax_bx K (by simp [bI_0, bI_1, two5, bI_n0.mp c4, bI_0.mp c11])
      · refine ax_iload_n 1 15 dX4_unlink_14 rfl rfl rfl ?_
        refine ax_iload_n 2 16 dX4_unlink_15 rfl rfl rfl ?_
        refine ax_icmp_eq 23 19 dX4_unlink_16 (by decide) rfl (fun c16 => ?_) (fun c16 => ?_)
        · refine ax_iconst (v := 0) 24 dX4_unlink_23 rfl (by decide) ?_
          exact ax_bx K (by simp [bI_0, bI_1, two5, bI_n0.mp c4, bI_n0.mp c11, c16])
        · refine ax_iconst (v := 1) 20 dX4_unlink_19 rfl (by decide) ?_
          refine ax_goto 24 dX4_unlink_20 (by decide) ?_
          exact ax_bx K (by simp [bI_0, bI_1, two5, bI_n0.mp c4, bI_n0.mp c11, c16])
  refine ax_istore_n 3 25 dX4_unlink_24 rfl rfl (Nat.le_of_ble_eq_true rfl) ?_
  refine ax_aload_n 0 26 dX4_unlink_25 rfl rfl rfl ?_
  refine ax_jn 35 (!two5 a b) (fun K => ?_) ?_
  · refine ax_iload_n 3 27 dX4_unlink_26 rfl rfl rfl ?_
    refine ax_if_ne 34 30 dX4_unlink_27 (by decide) rfl (fun c27 => ?_) (fun c27 => ?_)
    · refine ax_iconst (v := 0) 35 dX4_unlink_34 rfl (by decide) ?_
      exact ax_bx K (by simp [bI_0, bI_1, bI_n0.mp c27])
    · refine ax_iconst (v := 1) 31 dX4_unlink_30 rfl (by decide) ?_
      refine ax_goto 35 dX4_unlink_31 (by decide) ?_
      exact ax_bx K (by simp [bI_0, bI_1, bI_0.mp c27])
  refine ax_jn 58 (ulM p a b) (fun K => ?_) ?_
  · refine ax_iload_n 3 36 dX4_unlink_35 rfl rfl rfl ?_
    refine ax_if_eq 57 39 dX4_unlink_36 (by decide) rfl (fun c => ?_) (fun c => ?_)
    · refine ax_iconst (v := 0) 58 dX4_unlink_57 rfl (by decide) ?_
      exact ax_bx K (by simp [bI_0, ulM, bI_0.mp c])
    · obtain ⟨g1, g2, g3⟩ := two5_t (bI_n0.mp c)
      obtain ⟨j, hj, e, ej⟩ := w5 g1
      obtain ⟨k, hk, e2, ek⟩ := w5 g2
      subst e e2
      refine ax_aload_n 0 40 dX4_unlink_39 rfl rfl rfl ?_
      refine ax_getf 43 dX4_unlink_40 rfl fl_X4_28 rfl rfl ?_
      refine ax_bipush (v := 6) 45 dX4_unlink_43 rfl (by decide) ?_
      refine ax_iload_n 1 46 dX4_unlink_45 rfl rfl rfl ?_
      refine ax_imul 47 dX4_unlink_46 rfl ?_
      refine ax_iload_n 2 48 dX4_unlink_47 rfl rfl rfl ?_
      refine ax_iadd 49 dX4_unlink_48 rfl ?_
      refine ax_zaldN 50 dX4_unlink_49 rfl rfl (ix6' j k) (by omega) (by decide) ?_
      refine ax_if_ne 57 53 dX4_unlink_50 (by decide) rfl (fun c2 => ?_) (fun c2 => ?_)
      · refine ax_iconst (v := 0) 58 dX4_unlink_57 rfl (by decide) ?_
        exact ax_bx K (by simp [bI_0, ulM, ej, ek, c2])
      · refine ax_iconst (v := 1) 54 dX4_unlink_53 rfl (by decide) ?_
        refine ax_goto 58 dX4_unlink_54 (by decide) ?_
        exact ax_bx K (by simp [bI_1, ulM, ej, ek, c2, bI_n0.mp c])
  · refine ax_cV 61 dX4_unlink_58 rfl ml_X4_126 (m_refuse (d := d - 1) _ _) rfl (by omega) rfl rfl (Nat.le_of_ble_eq_true rfl) ?_
    refine ax_if_eq 65 64 dX4_unlink_61 (by decide) rfl (fun c => ?_) (fun c => ?_)
    · rw [show mUnlink p a b = _ from if_neg (by rw [bI_0.mp c]; decide)]
      obtain ⟨g1, g2, g3⟩ := two5_t (nn_f (or_f (bI_0.mp c)).1)
      obtain ⟨j, hj, e, ej⟩ := w5 g1
      obtain ⟨k, hk, e2, ek⟩ := w5 g2
      subst e e2
      rw [ej, ek]
      refine ax_aload_n 0 66 dX4_unlink_65 rfl rfl rfl ?_
      refine ax_iload_n 1 67 dX4_unlink_66 rfl rfl rfl ?_
      refine ax_iload_n 2 68 dX4_unlink_67 rfl rfl rfl ?_
      refine ax_iconst (v := 0) 69 dX4_unlink_68 rfl (by decide) ?_
      refine ax_cVv 72 dX4_unlink_69 rfl ml_X4_137 (m_setLink (d := d - 1) j k 0 hj hk (by decide)) rfl (by omega) rfl rfl (Nat.le_of_ble_eq_true rfl) ?_
      exact ax_vret dX4_unlink_72 rfl rfl
    · rw [show mUnlink p a b = _ from if_pos (bI_n0.mp c)]
      exact ax_vret dX4_unlink_64 rfl rfl
theorem m_place (hd : 5 ≤ d) (s v m : Int32) (hO : ∀ v, v < 6 → ∃ j, j < 6 ∧ p 35 v = nI j) : ax_Met G M_X4_place d 0 0 [.ref 31, .int s, .int v, .int m] (wQ q ++ (wM p l ++ r)) (.inl (some (.int (mPlace p s v m).1)), wQ q ++ (wM (mPlace p s v m).2 l ++ r)) := by
  refine ax_of rfl (by decide) (Nat.le_of_ble_eq_true rfl) ?_
  refine ax_jn 19 (gPl s v) (fun K => ?_) ?_
  · refine ax_iload_n 1 1 dX4_place_0 rfl rfl rfl ?_
    refine ax_cS 4 dX4_place_1 rfl ml_X4_114 (m_isSpecies (d := d - 1) (by omega) _) (by omega) rfl rfl (Nat.le_of_ble_eq_true rfl) ?_
    refine ax_if_eq 18 7 dX4_place_4 (by decide) rfl (fun c4 => ?_) (fun c4 => ?_)
    · refine ax_iconst (v := 0) 19 dX4_place_18 rfl (by decide) ?_
      exact ax_bx K (by simp [bI_0, bI_1, gPl, bI_0.mp c4])
    · refine ax_iload_n 2 8 dX4_place_7 rfl rfl rfl ?_
      refine ax_cS 11 dX4_place_8 rfl ml_X4_134 (m_isOne (d := d - 1) (by omega) _) (by omega) rfl rfl (Nat.le_of_ble_eq_true rfl) ?_
      refine ax_if_eq 18 14 dX4_place_11 (by decide) rfl (fun c11 => ?_) (fun c11 => ?_)
      · refine ax_iconst (v := 0) 19 dX4_place_18 rfl (by decide) ?_
        exact ax_bx K (by simp [bI_0, bI_1, gPl, bI_n0.mp c4, bI_0.mp c11])
      · refine ax_iconst (v := 1) 15 dX4_place_14 rfl (by decide) ?_
        refine ax_goto 19 dX4_place_15 (by decide) ?_
        exact ax_bx K (by simp [bI_0, bI_1, gPl, bI_n0.mp c4, bI_n0.mp c11])
  refine ax_istore 21 dX4_place_19 rfl (Nat.le_of_ble_eq_true rfl) ?_
  refine ax_jn 66 (plR p s v m) (fun K => ?_) ?_
  · refine ax_iload 23 dX4_place_21 rfl rfl ?_
    refine ax_if_eq 65 26 dX4_place_23 (by decide) rfl (fun c => ?_) (fun c => ?_)
    · refine ax_iconst (v := 0) 66 dX4_place_65 rfl (by decide) ?_
      exact ax_bx K (by simp [bI_0, plR, bI_0.mp c])
    · have g1 : isW s 0 3 = true ∧ isW v 0 5 = true := by simpa [gPl] using bI_n0.mp c
      obtain ⟨j, hj, e, ej⟩ := w3 g1.1
      obtain ⟨k, hk, e2, ek⟩ := w5 g1.2
      subst e e2
      obtain ⟨o, ho, eo⟩ := hO k hk
      have eo2 : tN (nI o) = o := tN_nI (by omega)
      refine ax_iload_n 3 27 dX4_place_26 rfl rfl rfl ?_
      refine ax_aload_n 0 28 dX4_place_27 rfl rfl rfl ?_
      refine ax_iload_n 1 29 dX4_place_28 rfl rfl rfl ?_
      refine ax_aload_n 0 30 dX4_place_29 rfl rfl rfl ?_
      refine ax_getf 33 dX4_place_30 rfl fl_X4_19 rfl rfl ?_
      refine ax_iload_n 2 34 dX4_place_33 rfl rfl rfl ?_
      refine ax_ialdN 35 dX4_place_34 rfl rfl rfl (by omega) (by decide) ?_
      rw [eo]
      refine ax_cV 38 dX4_place_35 rfl ml_X4_144 (m_free (d := d - 1) j o hj ho) rfl (by omega) rfl rfl (Nat.le_of_ble_eq_true rfl) ?_
      refine ax_icmp_gt 65 41 dX4_place_38 (by decide) rfl (fun c2 => ?_) (fun c2 => ?_)
      · refine ax_iconst (v := 0) 66 dX4_place_65 rfl (by decide) ?_
        exact ax_bx K (by simp [bI_0, plR, ej, ek, eo, eo2, Int32.not_le.mpr c2])
      · refine ax_aload_n 0 42 dX4_place_41 rfl rfl rfl ?_
        refine ax_getf 45 dX4_place_42 rfl fl_X4_25 rfl rfl ?_
        refine ax_bipush (v := 6) 47 dX4_place_45 rfl (by decide) ?_
        refine ax_iload_n 1 48 dX4_place_47 rfl rfl rfl ?_
        refine ax_imul 49 dX4_place_48 rfl ?_
        refine ax_iload_n 2 50 dX4_place_49 rfl rfl rfl ?_
        refine ax_iadd 51 dX4_place_50 rfl ?_
        refine ax_ialdN 52 dX4_place_51 rfl rfl (ix6' j k) (by omega) (by decide) ?_
        refine ax_i2l 53 dX4_place_52 rfl ?_
        refine ax_iload_n 3 54 dX4_place_53 rfl rfl rfl ?_
        refine ax_i2l 55 dX4_place_54 rfl ?_
        refine ax_ladd 56 dX4_place_55 rfl ?_
        refine ax_lconst (v := 0) 57 dX4_place_56 rfl (by decide) ?_
        refine ax_lcmp 58 dX4_place_57 rfl ?_
        refine ax_if_lt 65 61 dX4_place_58 (by decide) rfl (fun c3 => ?_) (fun c3 => ?_)
        · refine ax_iconst (v := 0) 66 dX4_place_65 rfl (by decide) ?_
          exact ax_bx K (by simp [bI_0, plR, ej, ek, eo, eo2, Int64.not_le.mpr ((lg_cmp_lt _ _).mp c3)])
        · refine ax_iconst (v := 1) 62 dX4_place_61 rfl (by decide) ?_
          refine ax_goto 66 dX4_place_62 (by decide) ?_
          exact ax_bx K (by simp [bI_1, plR, ej, ek, eo, eo2, bI_n0.mp c, Int32.not_lt.mp c2, Int64.not_lt.mp (fun h => c3 ((lg_cmp_lt _ _).mpr h))])
  · refine ax_istore 68 dX4_place_66 rfl (Nat.le_of_ble_eq_true rfl) ?_
    refine ax_aload_n 0 69 dX4_place_68 rfl rfl rfl ?_
    refine ax_jn 79 (!gPl s v) (fun K => ?_) ?_
    · refine ax_iload 71 dX4_place_69 rfl rfl ?_
      refine ax_if_ne 78 74 dX4_place_71 (by decide) rfl (fun c71 => ?_) (fun c71 => ?_)
      · refine ax_iconst (v := 0) 79 dX4_place_78 rfl (by decide) ?_
        exact ax_bx K (by simp [bI_0, bI_1, bI_n0.mp c71])
      · refine ax_iconst (v := 1) 75 dX4_place_74 rfl (by decide) ?_
        refine ax_goto 79 dX4_place_75 (by decide) ?_
        exact ax_bx K (by simp [bI_0, bI_1, bI_0.mp c71])
    refine ax_jn 89 (!plR p s v m) (fun K => ?_) ?_
    · refine ax_iload 81 dX4_place_79 rfl rfl ?_
      refine ax_if_ne 88 84 dX4_place_81 (by decide) rfl (fun c81 => ?_) (fun c81 => ?_)
      · refine ax_iconst (v := 0) 89 dX4_place_88 rfl (by decide) ?_
        exact ax_bx K (by simp [bI_0, bI_1, bI_n0.mp c81])
      · refine ax_iconst (v := 1) 85 dX4_place_84 rfl (by decide) ?_
        refine ax_goto 89 dX4_place_85 (by decide) ?_
        exact ax_bx K (by simp [bI_0, bI_1, bI_0.mp c81])
    refine ax_cV 92 dX4_place_89 rfl ml_X4_126 (m_refuse (d := d - 1) _ _) rfl (by omega) rfl rfl (Nat.le_of_ble_eq_true rfl) ?_
    refine ax_if_eq 97 95 dX4_place_92 (by decide) rfl (fun c => ?_) (fun c => ?_)
    · rw [show mPlace p s v m = _ from if_neg (by rw [bI_0.mp c]; decide)]
      have g1 : isW s 0 3 = true ∧ isW v 0 5 = true := by simpa [gPl] using nn_f (or_f (bI_0.mp c)).1
      obtain ⟨j, hj, e, ej⟩ := w3 g1.1
      obtain ⟨k, hk, e2, ek⟩ := w5 g1.2
      subst e e2
      rw [ej, ek]
      refine ax_aload_n 0 98 dX4_place_97 rfl rfl rfl ?_
      refine ax_getf 101 dX4_place_98 rfl fl_X4_25 rfl rfl ?_
      refine ax_bipush (v := 6) 103 dX4_place_101 rfl (by decide) ?_
      refine ax_iload_n 1 104 dX4_place_103 rfl rfl rfl ?_
      refine ax_imul 105 dX4_place_104 rfl ?_
      refine ax_iload_n 2 106 dX4_place_105 rfl rfl rfl ?_
      refine ax_iadd 107 dX4_place_106 rfl ?_
      refine ax_aload_n 0 108 dX4_place_107 rfl rfl rfl ?_
      refine ax_getf 111 dX4_place_108 rfl fl_X4_25 rfl rfl ?_
      refine ax_bipush (v := 6) 113 dX4_place_111 rfl (by decide) ?_
      refine ax_iload_n 1 114 dX4_place_113 rfl rfl rfl ?_
      refine ax_imul 115 dX4_place_114 rfl ?_
      refine ax_iload_n 2 116 dX4_place_115 rfl rfl rfl ?_
      refine ax_iadd 117 dX4_place_116 rfl ?_
      refine ax_ialdN 118 dX4_place_117 rfl rfl (ix6' j k) (by omega) (by decide) ?_
      refine ax_iload_n 3 119 dX4_place_118 rfl rfl rfl ?_
      refine ax_iadd 120 dX4_place_119 rfl ?_
      refine ax_iastN 121 dX4_place_120 rfl rfl (ix6' j k) (by omega) (by decide) ?_
      rw [wMs_37]
      refine ax_aload_n 0 122 dX4_place_121 rfl rfl rfl ?_
      refine ax_getf 125 dX4_place_122 rfl fl_X4_25 rfl rfl ?_
      refine ax_bipush (v := 6) 127 dX4_place_125 rfl (by decide) ?_
      refine ax_iload_n 1 128 dX4_place_127 rfl rfl rfl ?_
      refine ax_imul 129 dX4_place_128 rfl ?_
      refine ax_iload_n 2 130 dX4_place_129 rfl rfl rfl ?_
      refine ax_iadd 131 dX4_place_130 rfl ?_
      refine ax_ialdN 132 dX4_place_131 rfl rfl (ix6' j k) (by omega) (by decide) ?_
      exact ax_iret dX4_place_132 rfl rfl
    · rw [show mPlace p s v m = _ from if_pos (bI_n0.mp c)]
      refine ax_iconst (v := 0) 96 dX4_place_95 rfl (by decide) ?_
      exact ax_iret dX4_place_96 rfl rfl
theorem lkM_s {n : Nat} : lkM (n + 1) p = lk1 n (lkM n p) := rfl
theorem m_link (hd : 5 ≤ d) (a b : Int32) (hB : ∀ k, ∃ x : Bool, p 38 k = bI x) : ax_Met G M_X4_link d 0 0 [.ref 31, .int a, .int b] (wQ q ++ (wM p l ++ r)) (.inl none, wQ q ++ (wM (mLink p a b) l ++ r)) := by
  refine ax_of rfl (by decide) (Nat.le_of_ble_eq_true rfl) ?_
  refine ax_aload_n 0 1 dX4_link_0 rfl rfl rfl ?_
  refine ax_jn 25 (gLk a b) (fun K => ?_) ?_
  · refine ax_iload_n 1 2 dX4_link_1 rfl rfl rfl ?_
    refine ax_cS 5 dX4_link_2 rfl ml_X4_134 (m_isOne (d := d - 1) (by omega) _) (by omega) rfl rfl (Nat.le_of_ble_eq_true rfl) ?_
    refine ax_if_eq 20 8 dX4_link_5 (by decide) rfl (fun c5 => ?_) (fun c5 => ?_)
    · refine ax_iconst (v := 1) 21 dX4_link_20 rfl (by decide) ?_
      refine ax_goto 25 dX4_link_21 (by decide) ?_
      exact ax_bx K (by simp [bI_0, bI_1, gLk, bI_0.mp c5])
    · refine ax_iload_n 2 9 dX4_link_8 rfl rfl rfl ?_
      refine ax_cS 12 dX4_link_9 rfl ml_X4_134 (m_isOne (d := d - 1) (by omega) _) (by omega) rfl rfl (Nat.le_of_ble_eq_true rfl) ?_
      refine ax_if_eq 20 15 dX4_link_12 (by decide) rfl (fun c12 => ?_) (fun c12 => ?_)
      · refine ax_iconst (v := 1) 21 dX4_link_20 rfl (by decide) ?_
        refine ax_goto 25 dX4_link_21 (by decide) ?_
        exact ax_bx K (by simp [bI_0, bI_1, gLk, bI_n0.mp c5, bI_0.mp c12])
      · refine ax_iload_n 1 16 dX4_link_15 rfl rfl rfl ?_
        refine ax_iload_n 2 17 dX4_link_16 rfl rfl rfl ?_
        refine ax_icmp_ne 24 20 dX4_link_17 (by decide) rfl (fun c17 => ?_) (fun c17 => ?_)
        · refine ax_iconst (v := 0) 25 dX4_link_24 rfl (by decide) ?_
          exact ax_bx K (by simp [bI_0, bI_1, gLk, bI_n0.mp c5, bI_n0.mp c12, c17])
        · refine ax_iconst (v := 1) 21 dX4_link_20 rfl (by decide) ?_
          refine ax_goto 25 dX4_link_21 (by decide) ?_
          exact ax_bx K (by simp [bI_0, bI_1, gLk, bI_n0.mp c5, bI_n0.mp c12, c17])
  refine ax_iconst (v := 0) 26 dX4_link_25 rfl (by decide) ?_
  refine ax_cV 29 dX4_link_26 rfl ml_X4_126 (m_refuse (d := d - 1) _ false) rfl (by omega) rfl rfl (Nat.le_of_ble_eq_true rfl) ?_
  refine ax_if_eq 33 32 dX4_link_29 (by decide) rfl (fun c => ?_) (fun c => ?_)
  · rw [show mLink p a b = _ from if_neg (by rw [bI_0.mp c]; decide)]
    have g1 : isW a 0 5 = true ∧ isW b 0 5 = true ∧ ¬ a = b := by simpa [gLk] using (or_f (bI_0.mp c)).1
    obtain ⟨g1, g2, g3⟩ := g1
    obtain ⟨j, hj, e, ej⟩ := w5 g1
    obtain ⟨k, hk, e2, ek⟩ := w5 g2
    subst e e2
    rw [ej, ek]
    generalize rfM (gLk (nI j) (nI k)) false = x0
    refine ax_aload_n 0 34 dX4_link_33 rfl rfl rfl ?_
    refine ax_getf 37 dX4_link_34 rfl fl_X4_28 rfl rfl ?_
    refine ax_bipush (v := 6) 39 dX4_link_37 rfl (by decide) ?_
    refine ax_iload_n 1 40 dX4_link_39 rfl rfl rfl ?_
    refine ax_imul 41 dX4_link_40 rfl ?_
    refine ax_iload_n 2 42 dX4_link_41 rfl rfl rfl ?_
    refine ax_iadd 43 dX4_link_42 rfl ?_
    refine ax_zaldN 44 dX4_link_43 rfl rfl (ix6' j k) (by omega) (by decide) ?_
    refine ax_istore_n 3 45 dX4_link_44 rfl rfl (Nat.le_of_ble_eq_true rfl) ?_
    refine ax_aload_n 0 46 dX4_link_45 rfl rfl rfl ?_
    refine ax_iload_n 1 47 dX4_link_46 rfl rfl rfl ?_
    refine ax_iload_n 2 48 dX4_link_47 rfl rfl rfl ?_
    refine ax_iconst (v := 1) 49 dX4_link_48 rfl (by decide) ?_
    refine ax_cVv 52 dX4_link_49 rfl ml_X4_137 (m_setLink (d := d - 1) j k 1 hj hk (by decide)) rfl (by omega) rfl rfl (Nat.le_of_ble_eq_true rfl) ?_
    refine ax_iconst (v := 1) 53 dX4_link_52 rfl (by decide) ?_
    refine ax_istore 55 dX4_link_53 rfl (Nat.le_of_ble_eq_true rfl) ?_
    refine ax_iconst (v := 0) 56 dX4_link_55 rfl (by decide) ?_
    refine ax_istore 58 dX4_link_56 rfl (Nat.le_of_ble_eq_true rfl) ?_
    obtain ⟨wb, hwb⟩ := hB (6 * j + k)
    rw [show qv p 31 0 x0 38 (6 * j + k) = p 38 (6 * j + k) from rfl, hwb]
    generalize slM (qv p 31 0 x0) j k 1 = p1
    refine ax_lvk (ax_down (P := fun i => ax_Ex G M_X4_link d 0 0 58 [(0, .ref 31), (1, .int (nI j)), (2, .int (nI k)), (3, .int (bI wb)), (4, .int (bI (lkM i p1).1)), (5, .int (nI i))] [] (wQ q ++ (wM (lkM i p1).2 l ++ r)) (.inl none, wQ q ++ (wM (lkE p j k (bI wb) (lkM 4 p1)) l ++ r))) (n := 4) ?_ (fun i hi ih => ?_) 0 (Nat.zero_le _)) ⟨rfl, rfl, rfl, rfl, rfl, rfl, trivial⟩
    · generalize lkM 4 p1 = z
      obtain ⟨z1, z2⟩ := z
      dsimp only
      refine ax_iload 60 dX4_link_58 rfl rfl ?_
      refine ax_iconst (v := 4) 61 dX4_link_60 rfl (by decide) ?_
      refine ax_icmp_ge 98 64 dX4_link_61 (by decide) rfl (fun c1 => ?_) (fun c1 => ?_)
      · refine ax_aload_n 0 99 dX4_link_98 rfl rfl rfl ?_
        refine ax_iconst (v := 0) 100 dX4_link_99 rfl (by decide) ?_
        refine ax_jn 110 (!z1) (fun K => ?_) ?_
        · refine ax_iload 102 dX4_link_100 rfl rfl ?_
          refine ax_if_ne 109 105 dX4_link_102 (by decide) rfl (fun c102 => ?_) (fun c102 => ?_)
          · refine ax_iconst (v := 0) 110 dX4_link_109 rfl (by decide) ?_
            exact ax_bx K (by simp [bI_0, bI_1, bI_n0.mp c102])
          · refine ax_iconst (v := 1) 106 dX4_link_105 rfl (by decide) ?_
            refine ax_goto 110 dX4_link_106 (by decide) ?_
            exact ax_bx K (by simp [bI_0, bI_1, bI_0.mp c102])
        refine ax_cV 113 dX4_link_110 rfl ml_X4_126 (m_refuse (d := d - 1) false _) rfl (by omega) rfl rfl (Nat.le_of_ble_eq_true rfl) ?_
        refine ax_if_eq 123 116 dX4_link_113 (by decide) rfl (fun c2 => ?_) (fun c2 => ?_)
        · rw [show lkE p j k (bI wb) (z1, z2) = _ from if_neg (by rw [bI_0.mp c2]; decide)]
          exact ax_vret dX4_link_123 rfl rfl
        · rw [show lkE p j k (bI wb) (z1, z2) = _ from if_pos (bI_n0.mp c2)]
          refine ax_aload_n 0 117 dX4_link_116 rfl rfl rfl ?_
          refine ax_iload_n 1 118 dX4_link_117 rfl rfl rfl ?_
          refine ax_iload_n 2 119 dX4_link_118 rfl rfl rfl ?_
          refine ax_iload_n 3 120 dX4_link_119 rfl rfl rfl ?_
          refine ax_cVv 123 dX4_link_120 rfl ml_X4_137 (m_setLink (d := d - 1) j k (bI wb) hj hk (bI_vp wb)) rfl (by omega) rfl rfl (Nat.le_of_ble_eq_true rfl) ?_
          exact ax_vret dX4_link_123 rfl rfl
      · exact absurd (by decide) c1
    · generalize lkE p j k (bI wb) (lkM 4 p1) = p9 at ih ⊢
      rw [lkM_s] at ih
      revert ih
      generalize lkM i p1 = z
      obtain ⟨z1, z2⟩ := z
      dsimp only
      intro ih
      refine ax_iload 60 dX4_link_58 rfl rfl ?_
      refine ax_iconst (v := 4) 61 dX4_link_60 rfl (by decide) ?_
      refine ax_icmp_ge 98 64 dX4_link_61 (by decide) rfl (fun c1 => ?_) (fun c1 => ?_)
      · exact absurd c1 (nI_ge hi (by decide))
      · refine ax_iload 66 dX4_link_64 rfl rfl ?_
        refine ax_if_eq 89 69 dX4_link_66 (by decide) rfl (fun c2 => ?_) (fun c2 => ?_)
        · have hz : z1 = false := bI_0.mp c2
          subst hz
          refine ax_iconst (v := 0) 90 dX4_link_89 rfl (by decide) ?_
          refine ax_istore 92 dX4_link_90 rfl (Nat.le_of_ble_eq_true rfl) ?_
          refine ax_iinc (v := (_ : Int32) + 1) 95 dX4_link_92 rfl rfl rfl (Nat.le_of_ble_eq_true rfl) ?_
          refine ax_goto 58 dX4_link_95 (by decide) ?_
          exact ax_lvk ih ⟨rfl, rfl, rfl, rfl, rfl, gI (nI_1 i), trivial⟩
        · have hz : z1 = true := bI_n0.mp c2
          subst hz
          rw [show lk1 i (true, z2) = ftM i (z2 33 i) 6 z2 from rfl] at ih
          refine ax_aload_n 0 70 dX4_link_69 rfl rfl rfl ?_
          refine ax_iload 72 dX4_link_70 rfl rfl ?_
          refine ax_aload_n 0 73 dX4_link_72 rfl rfl rfl ?_
          refine ax_getf 76 dX4_link_73 rfl fl_X4_13 rfl rfl ?_
          refine ax_iload 78 dX4_link_76 rfl rfl ?_
          refine ax_ialdN 79 dX4_link_78 rfl rfl rfl (by omega) (by decide) ?_
          refine ax_cV 82 dX4_link_79 rfl ml_X4_122 (m_fits (d := d - 1) (by omega) i (z2 33 i) hi) rfl (by omega) rfl rfl (Nat.le_of_ble_eq_true rfl) ?_
          generalize ftM i (z2 33 i) 6 z2 = z at ih ⊢
          refine ax_jp 90 (z.1) (fun K => ?_) ?_
          · refine ax_if_eq 89 85 dX4_link_82 (by decide) rfl (fun c82 => ?_) (fun c82 => ?_)
            · refine ax_iconst (v := 0) 90 dX4_link_89 rfl (by decide) ?_
              exact ax_bx K (by simp [bI_0, bI_1, bI_0.mp c82])
            · refine ax_iconst (v := 1) 86 dX4_link_85 rfl (by decide) ?_
              refine ax_goto 90 dX4_link_86 (by decide) ?_
              exact ax_bx K (by simp [bI_0, bI_1, bI_n0.mp c82])
          refine ax_istore 92 dX4_link_90 rfl (Nat.le_of_ble_eq_true rfl) ?_
          refine ax_iinc (v := (_ : Int32) + 1) 95 dX4_link_92 rfl rfl rfl (Nat.le_of_ble_eq_true rfl) ?_
          refine ax_goto 58 dX4_link_95 (by decide) ?_
          exact ax_lvk ih ⟨rfl, rfl, rfl, rfl, rfl, gI (nI_1 i), trivial⟩
  · rw [show mLink p a b = _ from if_pos (bI_n0.mp c)]
    exact ax_vret dX4_link_32 rfl rfl
theorem m_issue (hd : 5 ≤ d) (s o m : Int32) : ax_Met G M_X4_issue d 0 0 [.ref 31, .int s, .int o, .int m] (wQ q ++ (wM p l ++ r)) (.inl (some (.int (mIssue p s o m).1)), wQ q ++ (wM (mIssue p s o m).2 l ++ r)) := by
  refine ax_of rfl (by decide) (Nat.le_of_ble_eq_true rfl) ?_
  refine ax_jn 31 (gIs s o m) (fun K => ?_) ?_
  · refine ax_iload_n 1 1 dX4_issue_0 rfl rfl rfl ?_
    refine ax_cS 4 dX4_issue_1 rfl ml_X4_114 (m_isSpecies (d := d - 1) (by omega) _) (by omega) rfl rfl (Nat.le_of_ble_eq_true rfl) ?_
    refine ax_if_eq 30 7 dX4_issue_4 (by decide) rfl (fun c4 => ?_) (fun c4 => ?_)
    · refine ax_iconst (v := 0) 31 dX4_issue_30 rfl (by decide) ?_
      exact ax_bx K (by simp [bI_0, bI_1, gIs, bI_0.mp c4])
    · refine ax_iload_n 2 8 dX4_issue_7 rfl rfl rfl ?_
      refine ax_cS 11 dX4_issue_8 rfl ml_X4_134 (m_isOne (d := d - 1) (by omega) _) (by omega) rfl rfl (Nat.le_of_ble_eq_true rfl) ?_
      refine ax_if_eq 30 14 dX4_issue_11 (by decide) rfl (fun c11 => ?_) (fun c11 => ?_)
      · refine ax_iconst (v := 0) 31 dX4_issue_30 rfl (by decide) ?_
        exact ax_bx K (by simp [bI_0, bI_1, gIs, bI_n0.mp c4, bI_0.mp c11])
      · refine ax_iload_n 3 15 dX4_issue_14 rfl rfl rfl ?_
        refine ax_i2l 16 dX4_issue_15 rfl ?_
        refine ax_lconst (v := 1) 17 dX4_issue_16 rfl (by decide) ?_
        refine ax_ldc2 (v := 1000000) 20 dX4_issue_17 rfl cj_X4_120 ?_
        refine ax_cS 23 dX4_issue_20 rfl ml_X4_100 (m_in (d := d - 1) _ 1 1000000 1 1000000 rfl rfl) (by omega) rfl rfl (Nat.le_of_ble_eq_true rfl) ?_
        refine ax_if_eq 30 26 dX4_issue_23 (by decide) rfl (fun c23 => ?_) (fun c23 => ?_)
        · refine ax_iconst (v := 0) 31 dX4_issue_30 rfl (by decide) ?_
          exact ax_bx K (by simp [bI_0, bI_1, gIs, bI_n0.mp c4, bI_n0.mp c11, bI_0.mp c23])
        · refine ax_iconst (v := 1) 27 dX4_issue_26 rfl (by decide) ?_
          refine ax_goto 31 dX4_issue_27 (by decide) ?_
          exact ax_bx K (by simp [bI_0, bI_1, gIs, bI_n0.mp c4, bI_n0.mp c11, bI_n0.mp c23])
  refine ax_istore 33 dX4_issue_31 rfl (Nat.le_of_ble_eq_true rfl) ?_
  refine ax_aload_n 0 34 dX4_issue_33 rfl rfl rfl ?_
  refine ax_jn 44 (!gIs s o m) (fun K => ?_) ?_
  · refine ax_iload 36 dX4_issue_34 rfl rfl ?_
    refine ax_if_ne 43 39 dX4_issue_36 (by decide) rfl (fun c36 => ?_) (fun c36 => ?_)
    · refine ax_iconst (v := 0) 44 dX4_issue_43 rfl (by decide) ?_
      exact ax_bx K (by simp [bI_0, bI_1, bI_n0.mp c36])
    · refine ax_iconst (v := 1) 40 dX4_issue_39 rfl (by decide) ?_
      refine ax_goto 44 dX4_issue_40 (by decide) ?_
      exact ax_bx K (by simp [bI_0, bI_1, bI_0.mp c36])
  refine ax_jn 56 (decide (0 < p 31 9)) (fun K => ?_) ?_
  · refine ax_aload_n 0 45 dX4_issue_44 rfl rfl rfl ?_
    refine ax_getf 48 dX4_issue_45 rfl fl_X4_141 rfl rfl ?_
    refine ax_if_le 55 51 dX4_issue_48 (by decide) rfl (fun c48 => ?_) (fun c48 => ?_)
    · refine ax_iconst (v := 0) 56 dX4_issue_55 rfl (by decide) ?_
      exact ax_bx K (by simp [bI_0, bI_1, c48, Int32.not_lt.mpr c48])
    · refine ax_iconst (v := 1) 52 dX4_issue_51 rfl (by decide) ?_
      refine ax_goto 56 dX4_issue_52 (by decide) ?_
      exact ax_bx K (by simp [bI_0, bI_1, c48, Int32.not_le.mp c48])
  refine ax_cV 59 dX4_issue_56 rfl ml_X4_126 (m_refuse (d := d - 1) _ _) rfl (by omega) rfl rfl (Nat.le_of_ble_eq_true rfl) ?_
  refine ax_if_eq 64 62 dX4_issue_59 (by decide) rfl (fun c => ?_) (fun c => ?_)
  · rw [show mIssue p s o m = _ from if_neg (by rw [bI_0.mp c]; decide)]
    have g1 : isW s 0 3 = true ∧ isW o 0 5 = true ∧ isW m 1 1000000 = true := by simpa [gIs] using nn_f (or_f (bI_0.mp c)).1
    obtain ⟨g1, g2, g3⟩ := g1
    obtain ⟨j, hj, e, ej⟩ := w3 g1
    obtain ⟨k, hk, e2, ek⟩ := w5 g2
    subst e e2
    rw [ej, ek]
    generalize rfM (!gIs (nI j) (nI k) m) (decide (0 < p 31 9)) = x0
    refine ax_iload_n 3 65 dX4_issue_64 rfl rfl rfl ?_
    refine ax_istore 67 dX4_issue_65 rfl (Nat.le_of_ble_eq_true rfl) ?_
    refine ax_iconst (v := 0) 68 dX4_issue_67 rfl (by decide) ?_
    refine ax_istore 70 dX4_issue_68 rfl (Nat.le_of_ble_eq_true rfl) ?_
    refine ax_lvk (ax_down (P := fun i => ax_Ex G M_X4_issue d 0 0 70 [(0, .ref 31), (1, .int (nI j)), (2, .int (nI k)), (3, .int m), (5, .int (allP p j i m)), (6, .int (nI i))] [] (wQ q ++ (wM (qv p 31 0 x0) l ++ r)) (.inl (some (.int (isE (6 * j + k) m (isZ (qv (qv p 31 0 x0) 36 (6 * j + k) (p 36 (6 * j + k) + m)) j (allP p j 6 m))).1)), wQ q ++ (wM (isE (6 * j + k) m (isZ (qv (qv p 31 0 x0) 36 (6 * j + k) (p 36 (6 * j + k) + m)) j (allP p j 6 m))).2 l ++ r))) (n := 6) ?_ (fun i hi ih => ?_) 0 (Nat.zero_le _)) ⟨rfl, rfl, rfl, rfl, rfl, rfl, trivial⟩
    · generalize allP p j 6 m = all
      refine ax_iload 72 dX4_issue_70 rfl rfl ?_
      refine ax_bipush (v := 6) 74 dX4_issue_72 rfl (by decide) ?_
      refine ax_icmp_ge 100 77 dX4_issue_74 (by decide) rfl (fun c1 => ?_) (fun c1 => ?_)
      · refine ax_aload_n 0 101 dX4_issue_100 rfl rfl rfl ?_
        refine ax_getf 104 dX4_issue_101 rfl fl_X4_22 rfl rfl ?_
        refine ax_bipush (v := 6) 106 dX4_issue_104 rfl (by decide) ?_
        refine ax_iload_n 1 107 dX4_issue_106 rfl rfl rfl ?_
        refine ax_imul 108 dX4_issue_107 rfl ?_
        refine ax_iload_n 2 109 dX4_issue_108 rfl rfl rfl ?_
        refine ax_iadd 110 dX4_issue_109 rfl ?_
        refine ax_aload_n 0 111 dX4_issue_110 rfl rfl rfl ?_
        refine ax_getf 114 dX4_issue_111 rfl fl_X4_22 rfl rfl ?_
        refine ax_bipush (v := 6) 116 dX4_issue_114 rfl (by decide) ?_
        refine ax_iload_n 1 117 dX4_issue_116 rfl rfl rfl ?_
        refine ax_imul 118 dX4_issue_117 rfl ?_
        refine ax_iload_n 2 119 dX4_issue_118 rfl rfl rfl ?_
        refine ax_iadd 120 dX4_issue_119 rfl ?_
        refine ax_ialdN 121 dX4_issue_120 rfl rfl (ix6' j k) (by omega) (by decide) ?_
        refine ax_iload_n 3 122 dX4_issue_121 rfl rfl rfl ?_
        refine ax_iadd 123 dX4_issue_122 rfl ?_
        refine ax_iastN 124 dX4_issue_123 rfl rfl (ix6' j k) (by omega) (by decide) ?_
        rw [wMs_36]
        rw [show qw (qv p 31 0 x0) 36 (upd (qv p 31 0 x0 36) (6 * j + k) (qv p 31 0 x0 36 (6 * j + k) + m)) = qv (qv p 31 0 x0) 36 (6 * j + k) (p 36 (6 * j + k) + m) from rfl]
        generalize qv (qv p 31 0 x0) 36 (6 * j + k) (p 36 (6 * j + k) + m) = p1
        have K : ∀ z : Bool × (Nat → Nat → Int32), ax_Ex G M_X4_issue d 0 0 152 [(0, .ref 31), (1, .int (nI j)), (2, .int (nI k)), (3, .int m)] [.int (bI z.1), .int 0, .ref 31] (wQ q ++ (wM z.2 l ++ r)) (.inl (some (.int (isE (6 * j + k) m z).1)), wQ q ++ (wM (isE (6 * j + k) m z).2 l ++ r)) := by
          intro z
          refine ax_cV 155 dX4_issue_152 rfl ml_X4_126 (m_refuse (d := d - 1) false _) rfl (by omega) rfl rfl (Nat.le_of_ble_eq_true rfl) ?_
          refine ax_if_eq 184 158 dX4_issue_155 (by decide) rfl (fun c2 => ?_) (fun c2 => ?_)
          · rw [show isE (6 * j + k) m z = _ from if_neg (by rw [bI_0.mp c2]; decide)]
            refine ax_aload_n 0 185 dX4_issue_184 rfl rfl rfl ?_
            refine ax_getf 188 dX4_issue_185 rfl fl_X4_22 rfl rfl ?_
            refine ax_bipush (v := 6) 190 dX4_issue_188 rfl (by decide) ?_
            refine ax_iload_n 1 191 dX4_issue_190 rfl rfl rfl ?_
            refine ax_imul 192 dX4_issue_191 rfl ?_
            refine ax_iload_n 2 193 dX4_issue_192 rfl rfl rfl ?_
            refine ax_iadd 194 dX4_issue_193 rfl ?_
            refine ax_ialdN 195 dX4_issue_194 rfl rfl (ix6' j k) (by omega) (by decide) ?_
            exact ax_iret dX4_issue_195 rfl rfl
          · rw [show isE (6 * j + k) m z = _ from if_pos (bI_n0.mp c2)]
            refine ax_aload_n 0 159 dX4_issue_158 rfl rfl rfl ?_
            refine ax_getf 162 dX4_issue_159 rfl fl_X4_22 rfl rfl ?_
            refine ax_bipush (v := 6) 164 dX4_issue_162 rfl (by decide) ?_
            refine ax_iload_n 1 165 dX4_issue_164 rfl rfl rfl ?_
            refine ax_imul 166 dX4_issue_165 rfl ?_
            refine ax_iload_n 2 167 dX4_issue_166 rfl rfl rfl ?_
            refine ax_iadd 168 dX4_issue_167 rfl ?_
            refine ax_aload_n 0 169 dX4_issue_168 rfl rfl rfl ?_
            refine ax_getf 172 dX4_issue_169 rfl fl_X4_22 rfl rfl ?_
            refine ax_bipush (v := 6) 174 dX4_issue_172 rfl (by decide) ?_
            refine ax_iload_n 1 175 dX4_issue_174 rfl rfl rfl ?_
            refine ax_imul 176 dX4_issue_175 rfl ?_
            refine ax_iload_n 2 177 dX4_issue_176 rfl rfl rfl ?_
            refine ax_iadd 178 dX4_issue_177 rfl ?_
            refine ax_ialdN 179 dX4_issue_178 rfl rfl (ix6' j k) (by omega) (by decide) ?_
            refine ax_iload_n 3 180 dX4_issue_179 rfl rfl rfl ?_
            refine ax_isub 181 dX4_issue_180 rfl ?_
            refine ax_iastN 182 dX4_issue_181 rfl rfl (ix6' j k) (by omega) (by decide) ?_
            rw [wMs_36]
            refine ax_iconst (v := 0) 183 dX4_issue_182 rfl (by decide) ?_
            exact ax_iret dX4_issue_183 rfl rfl
        refine ax_aload_n 0 125 dX4_issue_124 rfl rfl rfl ?_
        refine ax_iconst (v := 0) 126 dX4_issue_125 rfl (by decide) ?_
        refine ax_iload 128 dX4_issue_126 rfl rfl ?_
        refine ax_ldc (v := 1000000) 130 dX4_issue_128 rfl ci_X4_93 ?_
        refine ax_icmp_gt 147 133 dX4_issue_130 (by decide) rfl (fun c2 => ?_) (fun c2 => ?_)
        · rw [show isZ p1 j all = (true, p1) from if_pos c2]
          refine ax_iconst (v := 1) 148 dX4_issue_147 rfl (by decide) ?_
          refine ax_goto 152 dX4_issue_148 (by decide) ?_
          exact ax_lvk (K (true, p1)) ⟨rfl, rfl, rfl, rfl, trivial⟩
        · rw [show isZ p1 j all = _ from if_neg c2]
          refine ax_aload_n 0 134 dX4_issue_133 rfl rfl rfl ?_
          refine ax_iload_n 1 135 dX4_issue_134 rfl rfl rfl ?_
          refine ax_aload_n 0 136 dX4_issue_135 rfl rfl rfl ?_
          refine ax_getf 139 dX4_issue_136 rfl fl_X4_13 rfl rfl ?_
          refine ax_iload_n 1 140 dX4_issue_139 rfl rfl rfl ?_
          refine ax_ialdN 141 dX4_issue_140 rfl rfl rfl (by omega) (by decide) ?_
          refine ax_cV 144 dX4_issue_141 rfl ml_X4_122 (m_fits (d := d - 1) (by omega) j (p1 33 j) hj) rfl (by omega) rfl rfl (Nat.le_of_ble_eq_true rfl) ?_
          generalize ftM j (p1 33 j) 6 p1 = z
          obtain ⟨z1, z2⟩ := z
          dsimp only
          refine ax_jp 152 (!z1) (fun K => ?_) ?_
          · refine ax_if_ne 151 147 dX4_issue_144 (by decide) rfl (fun c144 => ?_) (fun c144 => ?_)
            · refine ax_iconst (v := 0) 152 dX4_issue_151 rfl (by decide) ?_
              exact ax_bx K (by simp [bI_0, bI_1, bI_n0.mp c144])
            · refine ax_iconst (v := 1) 148 dX4_issue_147 rfl (by decide) ?_
              refine ax_goto 152 dX4_issue_148 (by decide) ?_
              exact ax_bx K (by simp [bI_0, bI_1, bI_0.mp c144])
          exact ax_lvk (K (!z1, z2)) ⟨rfl, rfl, rfl, rfl, trivial⟩
      · exact absurd (by decide) c1
    · generalize (isE (6 * j + k) m (isZ (qv (qv p 31 0 x0) 36 (6 * j + k) (p 36 (6 * j + k) + m)) j (allP p j 6 m))) = zz at ih ⊢
      refine ax_iload 72 dX4_issue_70 rfl rfl ?_
      refine ax_bipush (v := 6) 74 dX4_issue_72 rfl (by decide) ?_
      refine ax_icmp_ge 100 77 dX4_issue_74 (by decide) rfl (fun c1 => ?_) (fun c1 => ?_)
      · exact absurd c1 (nI_ge hi (by decide))
      · refine ax_iload 79 dX4_issue_77 rfl rfl ?_
        refine ax_aload_n 0 80 dX4_issue_79 rfl rfl rfl ?_
        refine ax_getf 83 dX4_issue_80 rfl fl_X4_22 rfl rfl ?_
        refine ax_bipush (v := 6) 85 dX4_issue_83 rfl (by decide) ?_
        refine ax_iload_n 1 86 dX4_issue_85 rfl rfl rfl ?_
        refine ax_imul 87 dX4_issue_86 rfl ?_
        refine ax_iload 89 dX4_issue_87 rfl rfl ?_
        refine ax_iadd 90 dX4_issue_89 rfl ?_
        refine ax_ialdN 91 dX4_issue_90 rfl rfl (ix6' j i) (by omega) (by decide) ?_
        refine ax_iadd 92 dX4_issue_91 rfl ?_
        refine ax_istore 94 dX4_issue_92 rfl (Nat.le_of_ble_eq_true rfl) ?_
        refine ax_iinc (v := (_ : Int32) + 1) 97 dX4_issue_94 rfl rfl rfl (Nat.le_of_ble_eq_true rfl) ?_
        refine ax_goto 70 dX4_issue_97 (by decide) ?_
        exact ax_lvk ih ⟨rfl, rfl, rfl, rfl, rfl, gI (nI_1 i), trivial⟩
  · rw [show mIssue p s o m = _ from if_pos (bI_n0.mp c)]
    refine ax_iconst (v := 0) 63 dX4_issue_62 rfl (by decide) ?_
    exact ax_iret dX4_issue_63 rfl rfl
theorem m_sell (hd : 5 ≤ d) (s f t m : Int32) : ax_Met G M_X4_sell d 0 0 [.ref 31, .int s, .int f, .int t, .int m] (wQ q ++ (wM p l ++ r)) (.inl none, wQ q ++ (wM (mSell p s f t m) l ++ r)) := by
  refine ax_of rfl (by decide) (Nat.le_of_ble_eq_true rfl) ?_
  refine ax_jn 44 (gSe s f t m) (fun K => ?_) ?_
  · refine ax_iload_n 1 1 dX4_sell_0 rfl rfl rfl ?_
    refine ax_cS 4 dX4_sell_1 rfl ml_X4_114 (m_isSpecies (d := d - 1) (by omega) _) (by omega) rfl rfl (Nat.le_of_ble_eq_true rfl) ?_
    refine ax_if_eq 43 7 dX4_sell_4 (by decide) rfl (fun c4 => ?_) (fun c4 => ?_)
    · refine ax_iconst (v := 0) 44 dX4_sell_43 rfl (by decide) ?_
      exact ax_bx K (by simp [bI_0, bI_1, gSe, bI_0.mp c4])
    · refine ax_iload_n 2 8 dX4_sell_7 rfl rfl rfl ?_
      refine ax_cS 11 dX4_sell_8 rfl ml_X4_134 (m_isOne (d := d - 1) (by omega) _) (by omega) rfl rfl (Nat.le_of_ble_eq_true rfl) ?_
      refine ax_if_eq 43 14 dX4_sell_11 (by decide) rfl (fun c11 => ?_) (fun c11 => ?_)
      · refine ax_iconst (v := 0) 44 dX4_sell_43 rfl (by decide) ?_
        exact ax_bx K (by simp [bI_0, bI_1, gSe, bI_n0.mp c4, bI_0.mp c11])
      · refine ax_iload_n 3 15 dX4_sell_14 rfl rfl rfl ?_
        refine ax_cS 18 dX4_sell_15 rfl ml_X4_134 (m_isOne (d := d - 1) (by omega) _) (by omega) rfl rfl (Nat.le_of_ble_eq_true rfl) ?_
        refine ax_if_eq 43 21 dX4_sell_18 (by decide) rfl (fun c18 => ?_) (fun c18 => ?_)
        · refine ax_iconst (v := 0) 44 dX4_sell_43 rfl (by decide) ?_
          exact ax_bx K (by simp [bI_0, bI_1, gSe, bI_n0.mp c4, bI_n0.mp c11, bI_0.mp c18])
        · refine ax_iload_n 2 22 dX4_sell_21 rfl rfl rfl ?_
          refine ax_iload_n 3 23 dX4_sell_22 rfl rfl rfl ?_
          refine ax_icmp_eq 43 26 dX4_sell_23 (by decide) rfl (fun c23 => ?_) (fun c23 => ?_)
          · refine ax_iconst (v := 0) 44 dX4_sell_43 rfl (by decide) ?_
            exact ax_bx K (by simp [bI_0, bI_1, gSe, bI_n0.mp c4, bI_n0.mp c11, bI_n0.mp c18, c23])
          · refine ax_iload 28 dX4_sell_26 rfl rfl ?_
            refine ax_i2l 29 dX4_sell_28 rfl ?_
            refine ax_lconst (v := 1) 30 dX4_sell_29 rfl (by decide) ?_
            refine ax_ldc2 (v := 1000000) 33 dX4_sell_30 rfl cj_X4_120 ?_
            refine ax_cS 36 dX4_sell_33 rfl ml_X4_100 (m_in (d := d - 1) _ 1 1000000 1 1000000 rfl rfl) (by omega) rfl rfl (Nat.le_of_ble_eq_true rfl) ?_
            refine ax_if_eq 43 39 dX4_sell_36 (by decide) rfl (fun c36 => ?_) (fun c36 => ?_)
            · refine ax_iconst (v := 0) 44 dX4_sell_43 rfl (by decide) ?_
              exact ax_bx K (by simp [bI_0, bI_1, gSe, bI_n0.mp c4, bI_n0.mp c11, bI_n0.mp c18, c23, bI_0.mp c36])
            · refine ax_iconst (v := 1) 40 dX4_sell_39 rfl (by decide) ?_
              refine ax_goto 44 dX4_sell_40 (by decide) ?_
              exact ax_bx K (by simp [bI_0, bI_1, gSe, bI_n0.mp c4, bI_n0.mp c11, bI_n0.mp c18, c23, bI_n0.mp c36])
  refine ax_istore 46 dX4_sell_44 rfl (Nat.le_of_ble_eq_true rfl) ?_
  refine ax_aload_n 0 47 dX4_sell_46 rfl rfl rfl ?_
  refine ax_jn 57 (!gSe s f t m) (fun K => ?_) ?_
  · refine ax_iload 49 dX4_sell_47 rfl rfl ?_
    refine ax_if_ne 56 52 dX4_sell_49 (by decide) rfl (fun c49 => ?_) (fun c49 => ?_)
    · refine ax_iconst (v := 0) 57 dX4_sell_56 rfl (by decide) ?_
      exact ax_bx K (by simp [bI_0, bI_1, bI_n0.mp c49])
    · refine ax_iconst (v := 1) 53 dX4_sell_52 rfl (by decide) ?_
      refine ax_goto 57 dX4_sell_53 (by decide) ?_
      exact ax_bx K (by simp [bI_0, bI_1, bI_0.mp c49])
  refine ax_jn 78 (seB p s f t m) (fun K => ?_) ?_
  · refine ax_iload 59 dX4_sell_57 rfl rfl ?_
    refine ax_if_eq 77 62 dX4_sell_59 (by decide) rfl (fun c => ?_) (fun c => ?_)
    · refine ax_iconst (v := 0) 78 dX4_sell_77 rfl (by decide) ?_
      exact ax_bx K (by simp [bI_0, seB, bI_0.mp c])
    · obtain ⟨g1, g2, g3, -⟩ := gSe_t (bI_n0.mp c)
      obtain ⟨j, hj, e, ej⟩ := w3 g1
      obtain ⟨k, hk, e2, ek⟩ := w5 g2
      subst e e2
      refine ax_aload_n 0 63 dX4_sell_62 rfl rfl rfl ?_
      refine ax_iload_n 1 64 dX4_sell_63 rfl rfl rfl ?_
      refine ax_iload_n 2 65 dX4_sell_64 rfl rfl rfl ?_
      refine ax_cV 68 dX4_sell_65 rfl ml_X4_144 (m_free (d := d - 1) j k hj hk) rfl (by omega) rfl rfl (Nat.le_of_ble_eq_true rfl) ?_
      refine ax_iload 70 dX4_sell_68 rfl rfl ?_
      refine ax_icmp_ge 77 73 dX4_sell_70 (by decide) rfl (fun c2 => ?_) (fun c2 => ?_)
      · refine ax_iconst (v := 0) 78 dX4_sell_77 rfl (by decide) ?_
        exact ax_bx K (by simp [bI_0, seB, ej, ek, c2, Int32.not_lt.mpr c2])
      · refine ax_iconst (v := 1) 74 dX4_sell_73 rfl (by decide) ?_
        refine ax_goto 78 dX4_sell_74 (by decide) ?_
        exact ax_bx K (by simp [bI_1, seB, ej, ek, bI_n0.mp c, Int32.not_le.mp c2])
  · refine ax_cV 81 dX4_sell_78 rfl ml_X4_126 (m_refuse (d := d - 1) _ _) rfl (by omega) rfl rfl (Nat.le_of_ble_eq_true rfl) ?_
    refine ax_if_eq 85 84 dX4_sell_81 (by decide) rfl (fun c => ?_) (fun c => ?_)
    · rw [show mSell p s f t m = _ from if_neg (by rw [bI_0.mp c]; decide)]
      obtain ⟨g1, g2, g3, -⟩ := gSe_t (nn_f (or_f (bI_0.mp c)).1)
      obtain ⟨j, hj, e, ej⟩ := w3 g1
      obtain ⟨k, hk, e2, ek⟩ := w5 g2
      obtain ⟨k3, hk3, e3, ek3⟩ := w5 g3
      subst e e2 e3
      rw [ej, ek, ek3]
      generalize qv p 31 0 (rfM (!gSe (nI j) (nI k) (nI k3) m) (seB p (nI j) (nI k) (nI k3) m)) = p1
      dsimp only
      refine ax_aload_n 0 86 dX4_sell_85 rfl rfl rfl ?_
      refine ax_getf 89 dX4_sell_86 rfl fl_X4_22 rfl rfl ?_
      refine ax_bipush (v := 6) 91 dX4_sell_89 rfl (by decide) ?_
      refine ax_iload_n 1 92 dX4_sell_91 rfl rfl rfl ?_
      refine ax_imul 93 dX4_sell_92 rfl ?_
      refine ax_iload_n 2 94 dX4_sell_93 rfl rfl rfl ?_
      refine ax_iadd 95 dX4_sell_94 rfl ?_
      refine ax_aload_n 0 96 dX4_sell_95 rfl rfl rfl ?_
      refine ax_getf 99 dX4_sell_96 rfl fl_X4_22 rfl rfl ?_
      refine ax_bipush (v := 6) 101 dX4_sell_99 rfl (by decide) ?_
      refine ax_iload_n 1 102 dX4_sell_101 rfl rfl rfl ?_
      refine ax_imul 103 dX4_sell_102 rfl ?_
      refine ax_iload_n 2 104 dX4_sell_103 rfl rfl rfl ?_
      refine ax_iadd 105 dX4_sell_104 rfl ?_
      refine ax_ialdN 106 dX4_sell_105 rfl rfl (ix6' j k) (by omega) (by decide) ?_
      refine ax_iload 108 dX4_sell_106 rfl rfl ?_
      refine ax_isub 109 dX4_sell_108 rfl ?_
      refine ax_iastN 110 dX4_sell_109 rfl rfl (ix6' j k) (by omega) (by decide) ?_
      rw [wMs_36]
      refine ax_aload_n 0 111 dX4_sell_110 rfl rfl rfl ?_
      refine ax_getf 114 dX4_sell_111 rfl fl_X4_22 rfl rfl ?_
      refine ax_bipush (v := 6) 116 dX4_sell_114 rfl (by decide) ?_
      refine ax_iload_n 1 117 dX4_sell_116 rfl rfl rfl ?_
      refine ax_imul 118 dX4_sell_117 rfl ?_
      refine ax_iload_n 3 119 dX4_sell_118 rfl rfl rfl ?_
      refine ax_iadd 120 dX4_sell_119 rfl ?_
      refine ax_aload_n 0 121 dX4_sell_120 rfl rfl rfl ?_
      refine ax_getf 124 dX4_sell_121 rfl fl_X4_22 rfl rfl ?_
      refine ax_bipush (v := 6) 126 dX4_sell_124 rfl (by decide) ?_
      refine ax_iload_n 1 127 dX4_sell_126 rfl rfl rfl ?_
      refine ax_imul 128 dX4_sell_127 rfl ?_
      refine ax_iload_n 3 129 dX4_sell_128 rfl rfl rfl ?_
      refine ax_iadd 130 dX4_sell_129 rfl ?_
      refine ax_ialdN 131 dX4_sell_130 rfl rfl (ix6' j k3) (by omega) (by decide) ?_
      refine ax_iload 133 dX4_sell_131 rfl rfl ?_
      refine ax_iadd 134 dX4_sell_133 rfl ?_
      refine ax_iastN 135 dX4_sell_134 rfl rfl (ix6' j k3) (by omega) (by decide) ?_
      rw [wMs_36]
      rw [show qw (qw p1 36 (upd (p1 36) (6 * j + k) (p1 36 (6 * j + k) - m))) 36 (upd (qw p1 36 (upd (p1 36) (6 * j + k) (p1 36 (6 * j + k) - m)) 36) (6 * j + k3) (qw p1 36 (upd (p1 36) (6 * j + k) (p1 36 (6 * j + k) - m)) 36 (6 * j + k3) + m)) = qv (qv p1 36 (6 * j + k) (p1 36 (6 * j + k) - m)) 36 (6 * j + k3) (qv p1 36 (6 * j + k) (p1 36 (6 * j + k) - m) 36 (6 * j + k3) + m) from rfl]
      generalize qv (qv p1 36 (6 * j + k) (p1 36 (6 * j + k) - m)) 36 (6 * j + k3) (qv p1 36 (6 * j + k) (p1 36 (6 * j + k) - m) 36 (6 * j + k3) + m) = p3
      refine ax_aload_n 0 136 dX4_sell_135 rfl rfl rfl ?_
      refine ax_iconst (v := 0) 137 dX4_sell_136 rfl (by decide) ?_
      refine ax_aload_n 0 138 dX4_sell_137 rfl rfl rfl ?_
      refine ax_iload_n 1 139 dX4_sell_138 rfl rfl rfl ?_
      refine ax_aload_n 0 140 dX4_sell_139 rfl rfl rfl ?_
      refine ax_getf 143 dX4_sell_140 rfl fl_X4_13 rfl rfl ?_
      refine ax_iload_n 1 144 dX4_sell_143 rfl rfl rfl ?_
      refine ax_ialdN 145 dX4_sell_144 rfl rfl rfl (by omega) (by decide) ?_
      refine ax_cV 148 dX4_sell_145 rfl ml_X4_122 (m_fits (d := d - 1) (by omega) j (p3 33 j) hj) rfl (by omega) rfl rfl (Nat.le_of_ble_eq_true rfl) ?_
      generalize ftM j (p3 33 j) 6 p3 = z
      obtain ⟨z1, z2⟩ := z
      dsimp only
      refine ax_jp 156 (!z1) (fun K => ?_) ?_
      · refine ax_if_ne 155 151 dX4_sell_148 (by decide) rfl (fun c148 => ?_) (fun c148 => ?_)
        · refine ax_iconst (v := 0) 156 dX4_sell_155 rfl (by decide) ?_
          exact ax_bx K (by simp [bI_0, bI_1, bI_n0.mp c148])
        · refine ax_iconst (v := 1) 152 dX4_sell_151 rfl (by decide) ?_
          refine ax_goto 156 dX4_sell_152 (by decide) ?_
          exact ax_bx K (by simp [bI_0, bI_1, bI_0.mp c148])
      refine ax_cV 159 dX4_sell_156 rfl ml_X4_126 (m_refuse (d := d - 1) false _) rfl (by omega) rfl rfl (Nat.le_of_ble_eq_true rfl) ?_
      refine ax_if_eq 212 162 dX4_sell_159 (by decide) rfl (fun c2 => ?_) (fun c2 => ?_)
      · rw [show seE (6 * j + k) (6 * j + k3) m (z1, z2) = _ from if_neg (by rw [bI_0.mp c2]; decide)]
        exact ax_vret dX4_sell_212 rfl rfl
      · rw [show seE (6 * j + k) (6 * j + k3) m (z1, z2) = _ from if_pos (bI_n0.mp c2)]
        refine ax_aload_n 0 163 dX4_sell_162 rfl rfl rfl ?_
        refine ax_getf 166 dX4_sell_163 rfl fl_X4_22 rfl rfl ?_
        refine ax_bipush (v := 6) 168 dX4_sell_166 rfl (by decide) ?_
        refine ax_iload_n 1 169 dX4_sell_168 rfl rfl rfl ?_
        refine ax_imul 170 dX4_sell_169 rfl ?_
        refine ax_iload_n 2 171 dX4_sell_170 rfl rfl rfl ?_
        refine ax_iadd 172 dX4_sell_171 rfl ?_
        refine ax_aload_n 0 173 dX4_sell_172 rfl rfl rfl ?_
        refine ax_getf 176 dX4_sell_173 rfl fl_X4_22 rfl rfl ?_
        refine ax_bipush (v := 6) 178 dX4_sell_176 rfl (by decide) ?_
        refine ax_iload_n 1 179 dX4_sell_178 rfl rfl rfl ?_
        refine ax_imul 180 dX4_sell_179 rfl ?_
        refine ax_iload_n 2 181 dX4_sell_180 rfl rfl rfl ?_
        refine ax_iadd 182 dX4_sell_181 rfl ?_
        refine ax_ialdN 183 dX4_sell_182 rfl rfl (ix6' j k) (by omega) (by decide) ?_
        refine ax_iload 185 dX4_sell_183 rfl rfl ?_
        refine ax_iadd 186 dX4_sell_185 rfl ?_
        refine ax_iastN 187 dX4_sell_186 rfl rfl (ix6' j k) (by omega) (by decide) ?_
        rw [wMs_36]
        refine ax_aload_n 0 188 dX4_sell_187 rfl rfl rfl ?_
        refine ax_getf 191 dX4_sell_188 rfl fl_X4_22 rfl rfl ?_
        refine ax_bipush (v := 6) 193 dX4_sell_191 rfl (by decide) ?_
        refine ax_iload_n 1 194 dX4_sell_193 rfl rfl rfl ?_
        refine ax_imul 195 dX4_sell_194 rfl ?_
        refine ax_iload_n 3 196 dX4_sell_195 rfl rfl rfl ?_
        refine ax_iadd 197 dX4_sell_196 rfl ?_
        refine ax_aload_n 0 198 dX4_sell_197 rfl rfl rfl ?_
        refine ax_getf 201 dX4_sell_198 rfl fl_X4_22 rfl rfl ?_
        refine ax_bipush (v := 6) 203 dX4_sell_201 rfl (by decide) ?_
        refine ax_iload_n 1 204 dX4_sell_203 rfl rfl rfl ?_
        refine ax_imul 205 dX4_sell_204 rfl ?_
        refine ax_iload_n 3 206 dX4_sell_205 rfl rfl rfl ?_
        refine ax_iadd 207 dX4_sell_206 rfl ?_
        refine ax_ialdN 208 dX4_sell_207 rfl rfl (ix6' j k3) (by omega) (by decide) ?_
        refine ax_iload 210 dX4_sell_208 rfl rfl ?_
        refine ax_isub 211 dX4_sell_210 rfl ?_
        refine ax_iastN 212 dX4_sell_211 rfl rfl (ix6' j k3) (by omega) (by decide) ?_
        rw [wMs_36]
        exact ax_vret dX4_sell_212 rfl rfl
    · rw [show mSell p s f t m = _ from if_pos (bI_n0.mp c)]
      exact ax_vret dX4_sell_84 rfl rfl
end M4
