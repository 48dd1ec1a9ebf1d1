/-! end and open: class against reference -/
theorem sI_at {f : Nat → Int32} {g : Nat → Bool} (hp : ∀ o : Nat, o < 6 → 0 ≤ (f o).toInt) {v : Nat} (hg : g v = true) : ∀ n : Nat, n ≤ 6 → v < n → (f v).toInt ≤ sI f g n
  | 0, _, h => absurd h (Nat.not_lt_zero _)
  | n + 1, hn, hv => by
    rw [sI_s]
    by_cases e : v = n
    · rw [← e, if_pos hg]
      have := (sI_pos (g := g) hp v (by omega)).1
      omega
    · have ih := sI_at hp hg n (by omega) (by omega)
      have h9 := hp n (by omega)
      split <;> omega
theorem clC_0 {q : Nat → Nat → Int32} {y : Nat} : clC q y 0 = 0 := rfl
theorem clC_s {q : Nat → Nat → Int32} {y n : Nat} : clC q y (n + 1) = if 0 < q 17 (24 * y + n) then clC q y n + 1 else clC q y n := rfl
theorem clvM_0 {p : Nat → Nat → Int32} {y : Nat} : clvM p y 0 = 0 := rfl
theorem clvM_s {p : Nat → Nat → Int32} {y n : Nat} : clvM p y (n + 1) = if 0 < p 48 (24 * y + n) then clvM p y n + 1 else clvM p y n := rfl
theorem cl_eq {q p : Nat → Nat → Int32} {y : Nat} : ∀ n : Nat, (∀ j : Nat, j < n → q 17 (24 * y + j) = p 48 (24 * y + j)) → clvM p y n = clC q y n
  | 0, _ => by rw [clvM_0, clC_0]
  | n + 1, h => by rw [clvM_s, clC_s, cl_eq n (fun j hj => h j (by omega)), h n (by omega)]
section OE
variable {q p : Nat → Nat → Int32} {y n : Nat}
theorem place_b (hS : RS q p) : ∀ k : Nat, k < 24 → 0 ≤ (q 8 k).toInt ∧ (q 8 k).toInt ≤ 1000000 := fun k hk => by
  obtain ⟨-, -, -, b1, b2, b3, b4, b5, b6, b7, b8⟩ := hS
  refine ⟨b3 k hk, ?_⟩
  obtain ⟨o, ho, eo⟩ := b5 (k % 6) (by omega)
  have h1 := b4 (k / 6) o (by omega) ho
  rw [plI_I] at h1
  have h2 := sI_at (f := fun v => q 8 (6 * (k / 6) + v)) (g := fun v => decide (q 6 v = nI o)) (fun v hv => b3 _ (by omega)) (v := k % 6) (decide_eq_true eo) 6 (Nat.le_refl _) (by omega)
  have h3 := b1 (k / 6) (by omega)
  have h4 := sI_at (f := pt q (k / 6)) (g := fun _ => true) h3.1 (v := o) rfl 6 (Nat.le_refl _) ho
  have h5 : tot (pt q (k / 6)) 6 ≤ 1000000 := h3.2
  have h6 : (q 7 (6 * (k / 6) + o)).toInt ≤ tot (pt q (k / 6)) 6 := h4
  have h7 : (q 8 (6 * (k / 6) + k % 6)).toInt ≤ sI (fun v => q 8 (6 * (k / 6) + v)) (fun v => decide (q 6 v = nI o)) 6 := h2
  rw [show 6 * (k / 6) + k % 6 = k by omega] at h7
  omega
theorem op_y (hK : RB q p y n) (h : ¬ q 0 7 = 0) : opC q (nI y) = true := by
  unfold opC; rw [hK.1.1, ntz_t h, decide_eq_true (rfl : nI y = nI y)]; rfl
theorem op_n {t : Nat} (hK : RB q p y n) (ht : t ≤ 8) (h : t ≠ y) : opC q (nI t) = false := by
  unfold opC; rw [hK.1.1, decide_eq_false (nI_ne ht hK.1.2.1 h), Bool.and_false]
theorem RK_op (hK : RK q y n) (y1 : 1 ≤ y) (ho : opC q (nI y) = true) : ∀ j : Nat, j < 24 → q 15 (24 * y + j) = 0 ∧ q 16 (24 * y + j) = 0 ∧ q 17 (24 * y + j) = 0 := fun j hj => by
  have h := (hK.1 y y1 (Nat.le_refl _)).1.2.2.2 j hj
  unfold clF at h
  rw [if_neg (by rw [ho]; decide)] at h
  exact h
theorem t_end (hS : RS q p) (hY : RY q p y n) : RR (cEnd q).2 (mEnd p n y).2 ∧ kO ISE (cEnd q).1 = (mEnd p n y).2 31 0 ∧ ((∃ x : Int32, (cEnd q).1 = .inl (some (.int x)) ∧ (mEnd p n y).1 = x) ∨ (cEnd q).1 = .inr ISE) := by
  obtain ⟨hB, hE, hK, hM⟩ := id hY
  obtain ⟨⟨a1, a2, a3, a4⟩, ⟨b1, b2, b3, b4⟩, c1, c2, c3⟩ := id hB
  by_cases h : q 0 7 = 0
  · have h' : p 31 10 = 0 := b3.trans h
    rw [show cEnd q = (.inr ISE, q) from if_pos h, show mEnd p n y = (0, qv p 31 0 1) by simp [mEnd, rfM, h']]
    exact ⟨RR_ref hS hY 1, kO_1, Or.inr rfl⟩
  · have h' : ¬ p 31 10 = 0 := by rw [b3]; exact h
    have y1 : 1 ≤ y := b4.resolve_left h
    have ey : tN (q 0 6) = y := by rw [a1]; exact tN_nI (by omega)
    rw [show cEnd q = (.inl (some (.int (clC (setC (qv q 0 7 0) y) y 24))), setC (qv q 0 7 0) y) by unfold cEnd; rw [if_neg h, ey], show mEnd p n y = (clvM (workM (qv (qv p 31 0 0) 31 10 0) n y) y 24, workM (qv (qv p 31 0 0) 31 10 0) n y) by simp [mEnd, rfM, h']]
    dsimp only
    have sk : ∀ k : Nat, k ≠ 15 → k ≠ 16 → k ≠ 17 → setC (qv q 0 7 0) y k = qv q 0 7 0 k := fun k k1 k2 k3 => setC_k k1 k2 k3
    have sa : ∀ i : Nat, (setC (qv q 0 7 0) y 15 i = if 24 * y ≤ i ∧ i < 24 * y + 24 then bkF (q 10 i) (leftF q i) else q 15 i) ∧ (setC (qv q 0 7 0) y 16 i = if 24 * y ≤ i ∧ i < 24 * y + 24 then adF (q 10 i) (leftF q i) else q 16 i) ∧ (setC (qv q 0 7 0) y 17 i = if 24 * y ≤ i ∧ i < 24 * y + 24 then lvF (q 10 i) (leftF q i) else q 17 i) := fun i => st_at (q := qv q 0 7 0) (y := y) 24 (Nat.le_refl _) i
    generalize setC (qv q 0 7 0) y = Q at sk sa ⊢
    have Qk : ∀ k : Nat, k ≠ 0 → k ≠ 15 → k ≠ 16 → k ≠ 17 → Q k = q k := fun k k0 k1 k2 k3 => by rw [sk k k1 k2 k3, qv_n k0]
    have Q06 : Q 0 6 = q 0 6 := by rw [sk 0 (by decide) (by decide) (by decide)]; rfl
    have Q07 : Q 0 7 = 0 := by rw [sk 0 (by decide) (by decide) (by decide)]; rfl
    have Qo : ∀ k i : Nat, 15 ≤ k → k ≤ 17 → (i < 24 * y ∨ 24 * y + 24 ≤ i) → Q k i = q k i := fun k i k1 k2 hi => by
      obtain ⟨s1, s2, s3⟩ := sa i
      rcases (show k = 15 ∨ k = 16 ∨ k = 17 by omega) with rfl | rfl | rfl
      · rw [s1, if_neg (by omega)]
      · rw [s2, if_neg (by omega)]
      · rw [s3, if_neg (by omega)]
    have ho : ∀ i : Nat, i < n → evOK q i := fun i hi => (hE.1 i hi).1
    have opQ : ∀ x : Int32, opC Q x = false := fun x => by unfold opC; rw [Q07]; rfl
    have hEi : ∀ i : Nat, EqE q Q i := fun i => EqE_of fun k k1 k2 => by rw [Qk k (by omega) (by omega) (by omega) (by omega)]
    have hKQ : RK Q y n := by
      refine ⟨fun t t1 t2 => ?_, fun j hj => ?_, fun k j k1 k2 hj => ?_⟩
      · rw [opQ]
        by_cases e : t = y
        · subst e
          obtain ⟨u1, u2⟩ := CN_m3 (Q' := Q) (cl' := !false) (hK.1 t t1 t2).1 (fun k k1 k2 j _ => by rw [Qk k (by omega) (by omega) (by omega) (by omega)]) (fun k k1 k2 j hj => Qo k _ k1 (by omega) (by omega)) (fun i _ => by rw [Qk 22 (by omega) (by omega) (by omega) (by omega)]) (fun i _ _ => hEi i) ho (fun i _ _ => by rw [Qk 29 (by omega) (by omega) (by omega) (by omega)]) (fun j hj => by
            obtain ⟨s1, s2, s3⟩ := sa (24 * t + j)
            have el : leftF Q (24 * t + j) = leftF q (24 * t + j) := by
              unfold leftF; rw [Qk 10 (by decide) (by decide) (by decide) (by decide), Qk 11 (by decide) (by decide) (by decide) (by decide), Qk 12 (by decide) (by decide) (by decide) (by decide), Qk 13 (by decide) (by decide) (by decide) (by decide), Qk 14 (by decide) (by decide) (by decide) (by decide)]
            unfold clF
            rw [if_pos (show (!false) = true from rfl), el, Qk 10 (by decide) (by decide) (by decide) (by decide), s1, s2, s3, if_pos (by omega), if_pos (by omega), if_pos (by omega)]
            exact ⟨rfl, rfl, rfl⟩)
          exact ⟨u1, fun v hv => by rw [Qk 18 (by decide) (by decide) (by decide) (by decide), (hK.1 t t1 t2).2 v hv]; exact u2.2.2 v hv⟩
        · have h9 := hK.1 t t1 t2
          rw [op_n hB (by omega) e] at h9
          exact CK_m2 h9 (fun k k1 k2 j hj => by
            by_cases c : 15 ≤ k
            · exact Qo k _ c k2 (by omega)
            · rw [Qk k (by omega) (by omega) (by omega) (by omega)]) (fun k k1 k2 j hj => Qo k _ k1 (by omega) (by omega)) (fun i _ => by rw [Qk 22 (by omega) (by omega) (by omega) (by omega)]) (fun i _ _ => hEi i) ho (fun i _ _ => by rw [Qk 29 (by omega) (by omega) (by omega) (by omega)]) (fun v _ => by rw [Qk 18 (by omega) (by omega) (by omega) (by omega)])
      · rw [Qo 15 j (by omega) (by omega) (by omega), Qo 16 j (by omega) (by omega) (by omega)]; exact hK.2.1 j hj
      · rw [Qo k j k1 k2 (by omega)]; exact hK.2.2 k j k1 k2 hj
    have hY2 : RY Q (workM (qv (qv p 31 0 0) 31 10 0) n y) y n := by
      refine RY_work ⟨⟨Q06.trans a1, a2, ?_, a4⟩, ⟨b1, b2, ?_, Or.inl Q07⟩, ?_, ?_, ?_⟩ (RE_fr hE (fun k k1 k2 => Qk k (by omega) (by omega) (by omega) (by omega)) (fun i hi k k1 k2 => by rw [qv_n (by omega), qv_n (by omega)])) hKQ (fun j hj => by rw [qv_n (by decide), qv_n (by decide), qv_n (by decide), qv_n (by decide)]; exact hM.2 j hj)
      · rw [Qk 20 (by decide) (by decide) (by decide) (by decide)]; exact a3
      · rw [Q07]; rfl
      · rw [Qk 30 (by decide) (by decide) (by decide) (by decide), qv_n (by decide), qv_n (by decide)]; exact c1
      · rw [Qk 10 (by decide) (by decide) (by decide) (by decide), qv_n (by decide), qv_n (by decide)]; exact c2
      · rw [Qk 10 (by decide) (by decide) (by decide) (by decide)]; exact c3
    have wk : ∀ k : Nat, kpM k = true → workM (qv (qv p 31 0 0) 31 10 0) n y k = qv (qv p 31 0 0) 31 10 0 k := fun k hk => workM_k hk
    generalize workM (qv (qv p 31 0 0) 31 10 0) n y = P at hY2 wk ⊢
    refine ⟨⟨RS_p (RS_q hS fun k k1 k2 => Qk k (by omega) (by omega) (by omega) (by omega)) fun k k1 k2 => by rw [wk k (by simp [kpM]; omega), qv_n (by omega), qv_n (by omega)], y, n, hY2⟩, ?_, Or.inl ⟨_, rfl, ?_⟩⟩
    · show (0 : Int32) = P 31 0
      rw [wk 31 rfl]; rfl
    · exact cl_eq 24 fun j hj => (RY_acc hY2 y1 (Nat.le_refl _)).1 17 (by omega) (by omega) j hj
theorem all4 {l : Nat → Int64} {a b c e : Int32} (ha : 0 ≤ a.toInt ∧ a.toInt ≤ 1000000) (hb : 0 ≤ b.toInt ∧ b.toInt ≤ 1000000) (hc : 0 ≤ c.toInt ∧ c.toInt ≤ 1000000) (he : 0 ≤ e.toInt ∧ e.toInt ≤ 1000000) (h8 : q 8 = p 37) (hp : ∀ k : Nat, k < 24 → 0 ≤ (q 8 k).toInt ∧ (q 8 k).toInt ≤ 1000000) (h10 : q 10 = p 41) (hB : ∀ k : Nat, 0 ≤ (q 10 k).toInt ∧ (q 10 k).toInt ≤ 7000000) :
    allotC (allotC (allotC (allotC q a y 0) b y 1) c y 2) e y 3 10 = (opZ p l y a b c e).1 41 ∧ (∀ k : Nat, 0 ≤ (allotC (allotC (allotC (allotC q a y 0) b y 1) c y 2) e y 3 10 k).toInt ∧ (allotC (allotC (allotC (allotC q a y 0) b y 1) c y 2) e y 3 10 k).toInt ≤ 7000000) ∧ ∀ k : Nat, (k < 24 * y ∨ 24 * y + 24 ≤ k) → allotC (allotC (allotC (allotC q a y 0) b y 1) c y 2) e y 3 10 k = q 10 k := by
  unfold opZ
  dsimp only
  obtain ⟨d1, d2, d3⟩ := allot_eq (q := q) (p := p) (l := l) (y := y) (s := 0) ha (by decide) h8 hp h10 hB
  have k1 : allotC q a y 0 8 = q 8 := allotC_k (by decide) (by decide)
  have m1 : (allotM p l a y 0).1 37 = p 37 := allotM_k (by decide)
  generalize allotC q a y 0 = q1 at d1 d2 d3 k1 ⊢
  generalize allotM p l a y 0 = z1 at d1 m1 ⊢
  obtain ⟨f1, f2, f3⟩ := allot_eq (q := q1) (p := z1.1) (l := z1.2) (y := y) (s := 1) hb (by decide) (by rw [k1, m1]; exact h8) (by rw [k1]; exact hp) d1 d2
  have k2 : allotC q1 b y 1 8 = q1 8 := allotC_k (by decide) (by decide)
  have m2 : (allotM z1.1 z1.2 b y 1).1 37 = z1.1 37 := allotM_k (by decide)
  generalize allotC q1 b y 1 = q2 at f1 f2 f3 k2 ⊢
  generalize allotM z1.1 z1.2 b y 1 = z2 at f1 m2 ⊢
  obtain ⟨g1, g2, g3⟩ := allot_eq (q := q2) (p := z2.1) (l := z2.2) (y := y) (s := 2) hc (by decide) (by rw [k2, k1, m2, m1]; exact h8) (by rw [k2, k1]; exact hp) f1 f2
  have k3 : allotC q2 c y 2 8 = q2 8 := allotC_k (by decide) (by decide)
  have m3 : (allotM z2.1 z2.2 c y 2).1 37 = z2.1 37 := allotM_k (by decide)
  generalize allotC q2 c y 2 = q3 at g1 g2 g3 k3 ⊢
  generalize allotM z2.1 z2.2 c y 2 = z3 at g1 m3 ⊢
  obtain ⟨i1, i2, i3⟩ := allot_eq (q := q3) (p := z3.1) (l := z3.2) (y := y) (s := 3) he (by decide) (by rw [k3, k2, k1, m3, m2, m1]; exact h8) (by rw [k3, k2, k1]; exact hp) g1 g2
  exact ⟨i1, i2, fun k hk => by rw [i3 k hk, g3 k hk, f3 k hk, d3 k hk]⟩
theorem wyC_0 {t : Nat} : wyC q t 0 = q := rfl
theorem wyC_no {t : Nat} : ∀ m : Nat, (∀ i : Nat, i < m → ¬ q 22 i = nI t) → wyC q t m = q
  | 0, _ => by rw [wyC_0]
  | m + 1, h => by
    rw [wyC_s, wyC_no m (fun i hi => h i (by omega)), if_neg (h m (by omega))]
theorem RE_y {y' : Nat} (h : RE q p y n) (hy : y ≤ y') : RE q p y' n := ⟨fun i hi => by
  obtain ⟨d1, d2, d3, d4⟩ := h.1 i hi
  exact ⟨d1, ⟨d2.1, by omega⟩, d3, d4⟩, h.2⟩
theorem open_K {A : Nat → Nat → Int32} (hE : RE q p y n) (hK : RK q y n) (hB : RB q p y n) (h7 : q 0 7 = 0) (hy : y < 8) (Ak : ∀ k : Nat, k ≠ 0 → k ≠ 10 → k ≠ 19 → A k = q k) (A6 : A 0 6 = nI (y + 1)) (A7 : A 0 7 = 1) (A10 : ∀ k : Nat, (k < 24 * (y + 1) ∨ 24 * (y + 1) + 24 ≤ k) → A 10 k = q 10 k) : RK (begC A (y + 1)) (y + 1) n := by
  have ho : ∀ i : Nat, i < n → evOK A i := fun i hi => evOK_eq (Ak 21 (by decide) (by decide) (by decide)) (Ak 22 (by decide) (by decide) (by decide)) (Ak 23 (by decide) (by decide) (by decide)) (Ak 24 (by decide) (by decide) (by decide)) (Ak 25 (by decide) (by decide) (by decide)) (hE.1 i hi).1
  have hno : ∀ i : Nat, i < n → ¬ begC A (y + 1) 22 i = nI (y + 1) := fun i hi => by
    obtain ⟨d1, d2, d3, d4⟩ := hE.1 i hi
    rw [begC_k (by decide) (by decide) (by decide) (by decide) (by decide), Ak 22 (by decide) (by decide) (by decide), d1.1]
    exact nI_ne (by omega) (by omega) (by omega)
  have oA : ∀ t : Nat, t ≤ 8 → opC A (nI t) = decide (t = y + 1) := fun t ht => by
    unfold opC
    rw [A6, A7]
    by_cases e : t = y + 1
    · rw [e, decide_eq_true (rfl : nI (y + 1) = nI (y + 1)), decide_eq_true (rfl : y + 1 = y + 1)]; rfl
    · rw [decide_eq_false (nI_ne ht (by omega) e), decide_eq_false e]; rfl
  have o1 : opC A (nI (y + 1)) = true := by rw [oA _ (by omega)]; exact decide_eq_true rfl
  have eY : yC A n (y + 1) = begC A (y + 1) := by
    unfold yC
    rw [wyC_no n hno, opC_0 (q := A) (begC_k (by decide) (by decide) (by decide) (by decide) (by decide)), if_pos o1]
  have high : ∀ k j : Nat, 15 ≤ k → k ≤ 17 → 24 * y + 24 ≤ j → A k j = 0 := fun k j k1 k2 hj => by rw [Ak k (by omega) (by omega) (by omega)]; exact hK.2.2 k j k1 k2 hj
  obtain ⟨c1, c2, c3, c4⟩ := yC_cn (q := A) (n := n) (t := y + 1) (by omega) (by omega) ho (fun _ j hj => ⟨high 15 _ (by omega) (by omega) (by omega), high 16 _ (by omega) (by omega) (by omega), high 17 _ (by omega) (by omega) (by omega)⟩)
  rw [eY] at c1 c2 c3 c4
  have k0 : begC A (y + 1) 0 = A 0 := begC_k (by decide) (by decide) (by decide) (by decide) (by decide)
  have k15 : begC A (y + 1) 15 = A 15 := begC_k (by decide) (by decide) (by decide) (by decide) (by decide)
  have k16 : begC A (y + 1) 16 = A 16 := begC_k (by decide) (by decide) (by decide) (by decide) (by decide)
  have k17 : begC A (y + 1) 17 = A 17 := begC_k (by decide) (by decide) (by decide) (by decide) (by decide)
  generalize begC A (y + 1) = Q at c1 c2 c3 c4 k0 k15 k16 k17 ⊢
  refine ⟨fun t t1 t2 => ?_, fun j hj => ?_, fun k j k1 k2 hj => ?_⟩
  · rw [opC_0 k0]
    by_cases e : t = y + 1
    · rw [e]; exact ⟨c1, c3⟩
    · have h9 := hK.1 t t1 (by omega)
      have oq : opC q (nI t) = false := by unfold opC; rw [h7]; rfl
      have oA' : opC A (nI t) = false := by rw [oA t (by omega)]; exact decide_eq_false e
      rw [oq] at h9
      rw [oA']
      have h10 : CK A n t (!false) := CK_m2 h9 (fun k k1 k2 j hj => by
        by_cases c : k = 10
        · rw [c]; exact A10 _ (by omega)
        · rw [Ak k (by omega) c (by omega)]) (fun k k1 k2 j hj => by rw [Ak k (by omega) (by omega) (by omega)]) (fun i _ => by rw [Ak 22 (by decide) (by decide) (by decide)]) (fun i _ _ => EqE_of fun k k1 k2 => by rw [Ak k (by omega) (by omega) (by omega)]) (fun i hi => (hE.1 i hi).1) (fun i _ _ => by rw [Ak 29 (by decide) (by decide) (by decide)]) (fun v _ => by rw [Ak 18 (by decide) (by decide) (by decide)])
      obtain ⟨d1, d2⟩ := CN_fr h10.1 c2 t1 (by omega) (by omega) ho
      exact ⟨d1, fun v hv => by rw [c4 _ (Or.inl (by omega)), h10.2 v hv]; exact d2.2.2 v hv⟩
  · rw [k15, k16, Ak 15 (by decide) (by decide) (by decide), Ak 16 (by decide) (by decide) (by decide)]; exact hK.2.1 j hj
  · rcases (show k = 15 ∨ k = 16 ∨ k = 17 by omega) with rfl | rfl | rfl
    · rw [k15]; exact high 15 j k1 k2 (by omega)
    · rw [k16]; exact high 16 j k1 k2 (by omega)
    · rw [k17]; exact high 17 j k1 k2 (by omega)
theorem t_open (hS : RS q p) (hY : RY q p y n) (l : Nat → Int64) (a b c e : Int32) : RR (cOpen q a b c e).2 (mOpen p l n y a b c e).2.1 ∧ kO IAE (cOpen q a b c e).1 = (mOpen p l n y a b c e).2.1 31 0 ∧ ((∃ x : Int32, (cOpen q a b c e).1 = .inl (some (.int x)) ∧ (mOpen p l n y a b c e).1 = x) ∨ (cOpen q a b c e).1 = .inr IAE ∨ (cOpen q a b c e).1 = .inr ISE) := by
  obtain ⟨hB, hE, hK, hM⟩ := id hY
  obtain ⟨⟨a1, a2, a3, a4⟩, ⟨b1, b2, b3, b4⟩, c1, c2, c3⟩ := id hB
  cases h1 : isW a 0 1000000 with
  | false =>
    rw [show cOpen q a b c e = (.inr IAE, q) by simp [cOpen, h1], show mOpen p l n y a b c e = (0, (qv p 31 0 1, l)) by simp [mOpen, gOp, rfM, h1]]
    exact ⟨RR_ref hS hY 1, kO_1, Or.inr (Or.inl rfl)⟩
  | true =>
  cases h2 : isW b 0 1000000 with
  | false =>
    rw [show cOpen q a b c e = (.inr IAE, q) by simp [cOpen, h1, h2], show mOpen p l n y a b c e = (0, (qv p 31 0 1, l)) by simp [mOpen, gOp, rfM, h2]]
    exact ⟨RR_ref hS hY 1, kO_1, Or.inr (Or.inl rfl)⟩
  | true =>
  cases h3 : isW c 0 1000000 with
  | false =>
    rw [show cOpen q a b c e = (.inr IAE, q) by simp [cOpen, h1, h2, h3], show mOpen p l n y a b c e = (0, (qv p 31 0 1, l)) by simp [mOpen, gOp, rfM, h3]]
    exact ⟨RR_ref hS hY 1, kO_1, Or.inr (Or.inl rfl)⟩
  | true =>
  cases h4 : isW e 0 1000000 with
  | false =>
    rw [show cOpen q a b c e = (.inr IAE, q) by simp [cOpen, h1, h2, h3, h4], show mOpen p l n y a b c e = (0, (qv p 31 0 1, l)) by simp [mOpen, gOp, rfM, h4]]
    exact ⟨RR_ref hS hY 1, kO_1, Or.inr (Or.inl rfl)⟩
  | true =>
  have hg : gOp a b c e = true := by simp [gOp, h1, h2, h3, h4]
  by_cases h7 : q 0 7 = 0
  case neg =>
    have ob : opB p = true := by unfold opB; rw [b3, ntz_t h7]; rfl
    rw [show cOpen q a b c e = (.inr ISE, q) by simp [cOpen, h1, h2, h3, h4, h7], show mOpen p l n y a b c e = (0, (qv p 31 0 2, l)) by simp [mOpen, rfM, hg, ob]]
    exact ⟨RR_ref hS hY 2, kO_2, Or.inr (Or.inr rfl)⟩
  case pos =>
  by_cases h8 : q 0 6 < 8
  case neg =>
    have ey : y = 8 := by
      rw [a1, show (8 : Int32) = nI 8 from by decide, nI_lt8 a2 (Nat.le_refl _)] at h8
      omega
    have ob : opB p = true := by unfold opB; rw [b1, ey, decide_eq_true (show nI 8 = 8 by decide), Bool.or_true]
    rw [show cOpen q a b c e = (.inr ISE, q) by simp [cOpen, h1, h2, h3, h4, h7, h8], show mOpen p l n y a b c e = (0, (qv p 31 0 2, l)) by simp [mOpen, rfM, hg, ob]]
    exact ⟨RR_ref hS hY 2, kO_2, Or.inr (Or.inr rfl)⟩
  case pos =>
    have ey : y < 8 := by
      rw [a1, show (8 : Int32) = nI 8 from by decide, nI_lt8 a2 (Nat.le_refl _)] at h8
      exact h8
    have ob : opB p = false := by
      unfold opB; rw [b3, ntz_f h7, b1, decide_eq_false (fun h => absurd (show nI y = nI 8 from h.trans (by decide)) (nI_ne a2 (Nat.le_refl _) (by omega)))]; rfl
    have et : tN (q 0 6) = y := by rw [a1]; exact tN_nI (by omega)
    have en : q 0 6 + 1 = nI (y + 1) := by rw [a1]; exact nI_1 y
    have e1 : cOpen q a b c e = (.inl (some (.int (nI (y + 1)))), begC (allotC (allotC (allotC (allotC (qv (qv q 0 6 (nI (y + 1))) 0 7 1) a (y + 1) 0) b (y + 1) 1) c (y + 1) 2) e (y + 1) 3) (y + 1)) := by
      unfold cOpen oC
      dsimp only
      rw [if_neg (by rw [h1]; decide), if_neg (by rw [h2]; decide), if_neg (by rw [h3]; decide), if_neg (by rw [h4]; decide), if_pos h7, if_pos h8, et, en]
    have e2 : mOpen p l n y a b c e = (nI (y + 1), (workM (opZ (qv (qv (qv p 31 0 0) 31 9 (nI (y + 1))) 31 10 1) l (y + 1) a b c e).1 n (y + 1), (opZ (qv (qv (qv p 31 0 0) 31 9 (nI (y + 1))) 31 10 1) l (y + 1) a b c e).2)) := by
      unfold mOpen
      rw [if_neg (by rw [hg, ob]; decide), hg, ob]
      rfl
    rw [e1, e2]
    dsimp only
    have q8 : qv (qv q 0 6 (nI (y + 1))) 0 7 1 8 = q 8 := by rw [qv_n (by decide), qv_n (by decide)]
    have q10 : qv (qv q 0 6 (nI (y + 1))) 0 7 1 10 = q 10 := by rw [qv_n (by decide), qv_n (by decide)]
    have p37 : qv (qv (qv p 31 0 0) 31 9 (nI (y + 1))) 31 10 1 37 = p 37 := by rw [qv_n (by decide), qv_n (by decide), qv_n (by decide)]
    have p41 : qv (qv (qv p 31 0 0) 31 9 (nI (y + 1))) 31 10 1 41 = p 41 := by rw [qv_n (by decide), qv_n (by decide), qv_n (by decide)]
    obtain ⟨f1, f2, f3⟩ := all4 (q := qv (qv q 0 6 (nI (y + 1))) 0 7 1) (p := qv (qv (qv p 31 0 0) 31 9 (nI (y + 1))) 31 10 1) (l := l) (y := y + 1) (isW_i.mp h1) (isW_i.mp h2) (isW_i.mp h3) (isW_i.mp h4) (by rw [q8, p37]; exact hS.1.2.2.2.2.2) (by rw [q8]; exact place_b hS) (by rw [q10, p41]; exact c2) (by rw [q10]; exact c3)
    have Ak : ∀ k : Nat, k ≠ 10 → k ≠ 19 → allotC (allotC (allotC (allotC (qv (qv q 0 6 (nI (y + 1))) 0 7 1) a (y + 1) 0) b (y + 1) 1) c (y + 1) 2) e (y + 1) 3 k = qv (qv q 0 6 (nI (y + 1))) 0 7 1 k := fun k k1 k2 => by rw [allotC_k k1 k2, allotC_k k1 k2, allotC_k k1 k2, allotC_k k1 k2]
    have Zk : ∀ k : Nat, k ≠ 41 → (opZ (qv (qv (qv p 31 0 0) 31 9 (nI (y + 1))) 31 10 1) l (y + 1) a b c e).1 k = qv (qv (qv p 31 0 0) 31 9 (nI (y + 1))) 31 10 1 k := fun k k1 => opZ_k k1
    rw [q10] at f3
    generalize allotC (allotC (allotC (allotC (qv (qv q 0 6 (nI (y + 1))) 0 7 1) a (y + 1) 0) b (y + 1) 1) c (y + 1) 2) e (y + 1) 3 = A at f1 f2 f3 Ak ⊢
    generalize opZ (qv (qv (qv p 31 0 0) 31 9 (nI (y + 1))) 31 10 1) l (y + 1) a b c e = Z at f1 Zk ⊢
    have A6 : A 0 6 = nI (y + 1) := by rw [Ak 0 (by decide) (by decide)]; rfl
    have A7 : A 0 7 = 1 := by rw [Ak 0 (by decide) (by decide)]; rfl
    have Ak' : ∀ k : Nat, k ≠ 0 → k ≠ 10 → k ≠ 19 → A k = q k := fun k k0 k1 k2 => by rw [Ak k k1 k2, qv_n k0, qv_n k0]
    have Zk' : ∀ k : Nat, k ≠ 31 → k ≠ 41 → Z.1 k = p k := fun k k0 k1 => by rw [Zk k k1, qv_n k0, qv_n k0, qv_n k0]
    have hK2 := open_K hE hK hB h7 ey Ak' A6 A7 f3
    have Qk : ∀ k : Nat, k ≠ 11 → k ≠ 12 → k ≠ 13 → k ≠ 14 → k ≠ 18 → begC A (y + 1) k = A k := fun k k1 k2 k3 k4 k5 => begC_k k1 k2 k3 k4 k5
    generalize begC A (y + 1) = Q at hK2 Qk ⊢
    have Qk' : ∀ k : Nat, k ≠ 0 → k ≠ 10 → k ≠ 19 → k ≠ 11 → k ≠ 12 → k ≠ 13 → k ≠ 14 → k ≠ 18 → Q k = q k := fun k k0 k1 k2 k3 k4 k5 k6 k7 => by rw [Qk k k3 k4 k5 k6 k7, Ak' k k0 k1 k2]
    have hY2 : RY Q (workM Z.1 n (y + 1)) (y + 1) n := by
      refine RY_work ⟨⟨?_, by omega, ?_, a4⟩, ⟨?_, ?_, ?_, Or.inr (by omega)⟩, ?_, ?_, ?_⟩ (RE_y (RE_fr hE (fun k k1 k2 => Qk' k (by omega) (by omega) (by omega) (by omega) (by omega) (by omega) (by omega) (by omega)) (fun i hi k k1 k2 => by rw [Zk' k (by omega) (by omega)])) (by omega)) hK2 (fun j hj => by rw [Zk' 46 (by decide) (by decide), Zk' 47 (by decide) (by decide)]; exact hM.2 j hj)
      · rw [Qk 0 (by decide) (by decide) (by decide) (by decide) (by decide)]; exact A6
      · rw [Qk' 20 (by decide) (by decide) (by decide) (by decide) (by decide) (by decide) (by decide) (by decide)]; exact a3
      · rw [Zk 31 (by decide)]; rfl
      · rw [Zk 31 (by decide)]; exact b2
      · rw [Zk 31 (by decide), Qk 0 (by decide) (by decide) (by decide) (by decide) (by decide), A7]; rfl
      · rw [Qk' 30 (by decide) (by decide) (by decide) (by decide) (by decide) (by decide) (by decide) (by decide), Zk' 40 (by decide) (by decide)]; exact c1
      · rw [Qk 10 (by decide) (by decide) (by decide) (by decide) (by decide)]; exact f1
      · rw [Qk 10 (by decide) (by decide) (by decide) (by decide) (by decide)]; exact f2
    have wk : ∀ k : Nat, kpM k = true → workM Z.1 n (y + 1) k = Z.1 k := fun k hk => workM_k hk
    generalize workM Z.1 n (y + 1) = P at hY2 wk ⊢
    refine ⟨⟨RS_p (RS_q hS fun k k1 k2 => Qk' k (by omega) (by omega) (by omega) (by omega) (by omega) (by omega) (by omega) (by omega)) fun k k1 k2 => by rw [wk k (by simp [kpM]; omega), Zk' k (by omega) (by omega)], y + 1, n, hY2⟩, ?_, Or.inl ⟨_, rfl, rfl⟩⟩
    show (0 : Int32) = P 31 0
    rw [wk 31 rfl, Zk 31 (by decide)]; rfl
end OE
