/-! lease, land, equivalent, strike: class against reference -/
theorem gSe_e (s a b k : Int32) : gSe s a b k = (isW s 0 3 && (two5 a b && isW k 1 1000000)) := by
  unfold gSe two5
  cases isW s 0 3 <;> cases isW a 0 5 <;> cases isW b 0 5 <;> cases (decide (a = b)) <;> cases isW k 1 1000000 <;> rfl
theorem gEq_e (v a b k : Int32) : gEq v a b k = (isW v 0 5 && (two3 a b && isW k 1 1000)) := by
  unfold gEq two3
  cases isW v 0 5 <;> cases isW a 0 3 <;> cases isW b 0 3 <;> cases (decide (a = b)) <;> cases isW k 1 1000 <;> rfl
theorem i200 : (200 : Int32).toInt = 200 := by decide
theorem i1 : (1 : Int32).toInt = 1 := by decide
theorem n2 {n : Nat} (hn : n ≤ 200) : (200 : Int32) ≤ nI n ↔ ¬ n < 200 := by
  rw [leI, i200, nI_toInt (by omega)]; omega
theorem n2' {n : Nat} (hn : n ≤ 200) : nI n < 200 ↔ n < 200 := by
  rw [ltI, i200, nI_toInt (by omega)]; omega
theorem n2'' {n : Nat} (hn : n ≤ 200) : nI n = 200 ↔ ¬ n < 200 := by
  constructor
  · intro h
    have h2 := congrArg Int32.toInt h
    rw [i200, nI_toInt (by omega)] at h2
    omega
  · intro h
    rw [show n = 200 by omega]; decide
section CALLS
variable {q p q1 P : Nat → Nat → Int32} {y n : Nat}
theorem Ad_ev {a f g h : Int32} {t v s : Nat} (hA : Ad q q1 n a (nI t) (nI v) (nI s) f g h) (ht : t ≤ 8) (hv : v < 6) (hs : s < 4) (h0 : a = 0 → ∃ o : Nat, f = nI o ∧ o < 6) (h2 : ¬ a = 0 → ¬ a = 1 → ∃ o : Nat, f = nI o ∧ o < 4) : evOK q1 n ∧ yr q1 n = t := by
  obtain ⟨-, -, ⟨A3, A4, A5, A6, A7, A8, A9⟩, -⟩ := hA
  unfold evOK yr vs sp ot
  rw [A3, A4, A5, A6, A7, nI_clamp (by omega), nI_clamp (by omega), nI_clamp (by omega)]
  refine ⟨⟨rfl, ht, rfl, hv, rfl, hs, fun z => ?_, fun z z2 => ?_⟩, rfl⟩
  · obtain ⟨o, eo, ho⟩ := h0 z
    rw [eo, nI_clamp (by omega)]
    exact ⟨rfl, ho⟩
  · obtain ⟨o, eo, ho⟩ := h2 z z2
    rw [eo, nI_clamp (by omega)]
    exact ⟨rfl, ho⟩
theorem t_lease (hS : RS q p) (hY : RY q p y n) (s a b k : Int32) : RR (cLease q s a b k).2 (mLease p n y s a b k).2 ∧ kO IAE (cLease q s a b k).1 = (mLease p n y s a b k).2 31 0 ∧ ((∃ x : Int32, (cLease q s a b k).1 = .inl (some (.int x)) ∧ (mLease p n y s a b k).1 = x) ∨ (cLease q s a b k).1 = .inr IAE ∨ (cLease q s a b k).1 = .inr ISE) := by
  obtain ⟨hB, hE, hK, hM⟩ := id hY
  obtain ⟨⟨a1, a2, a3, a4⟩, ⟨b1, b2, b3, b4⟩, c1, c2, c3⟩ := id hB
  have bad : gSe s a b k = false → cLease q s a b k = (.inr IAE, q) → RR (cLease q s a b k).2 (mLease p n y s a b k).2 ∧ kO IAE (cLease q s a b k).1 = (mLease p n y s a b k).2 31 0 ∧ ((∃ x : Int32, (cLease q s a b k).1 = .inl (some (.int x)) ∧ (mLease p n y s a b k).1 = x) ∨ (cLease q s a b k).1 = .inr IAE ∨ (cLease q s a b k).1 = .inr ISE) := fun hg hc => by
    rw [hc, show mLease p n y s a b k = (0, qv p 31 0 1) by simp [mLease, rfM, hg]]
    exact ⟨RR_ref hS hY 1, kO_1, Or.inr (Or.inl rfl)⟩
  cases h1 : isW s 0 3 with
  | false => exact bad (by rw [gSe_e, h1]; rfl) (by simp [cLease, h1])
  | true =>
  cases h2 : two5 a b with
  | false => exact bad (by rw [gSe_e, h1, h2]; rfl) (by simp [cLease, h1, h2])
  | true =>
  cases h3 : isW k 1 1000000 with
  | false => exact bad (by rw [gSe_e, h1, h2, h3]; rfl) (by simp [cLease, h1, h2, h3])
  | true =>
  have hg : gSe s a b k = true := by rw [gSe_e, h1, h2, h3]; rfl
  have bad2 : leB p y s a b k = false → cLease q s a b k = (.inr ISE, q) → RR (cLease q s a b k).2 (mLease p n y s a b k).2 ∧ kO IAE (cLease q s a b k).1 = (mLease p n y s a b k).2 31 0 ∧ ((∃ x : Int32, (cLease q s a b k).1 = .inl (some (.int x)) ∧ (mLease p n y s a b k).1 = x) ∨ (cLease q s a b k).1 = .inr IAE ∨ (cLease q s a b k).1 = .inr ISE) := fun hl hc => by
    rw [hc, show mLease p n y s a b k = (0, qv p 31 0 2) by simp [mLease, rfM, hg, hl]]
    exact ⟨RR_ref hS hY 2, kO_2, Or.inr (Or.inr rfl)⟩
  by_cases h7 : q 0 7 = 0
  · exact bad2 (by unfold leB; rw [hg, b3, ntz_f h7]; rfl) (by simp [cLease, h1, h2, h3, h7])
  by_cases h20 : (200 : Int32) ≤ q 20 9
  · have h20' : ¬ n < 200 := (n2 a4).mp (by rw [← a3]; exact h20)
    exact bad2 (by unfold leB; rw [hg, b3, ntz_t h7, b2, decide_eq_false (fun h => h20' ((n2' a4).mp h))]; rfl) (by simp [cLease, h1, h2, h3, h7, h20])
  have hn : n < 200 := Classical.byContradiction fun h => h20 (by rw [a3]; exact (n2 a4).mpr h)
  have y1 : 1 ≤ y := b4.resolve_left h7
  have et : tN (q 0 6) = y := by rw [a1]; exact tN_nI (by omega)
  have en : tN (q 20 9) = n := by rw [a3]; exact tN_nI (by omega)
  have h2' := h2
  unfold two5 at h2'
  rw [Bool.and_eq_true, Bool.and_eq_true] at h2'
  obtain ⟨i, hi, rfl, ei⟩ := w5 h2'.1
  obtain ⟨o, ho, rfl, eo⟩ := w5 h2'.2.1
  obtain ⟨j, hj, rfl, ej⟩ := w3 h1
  have hl := left_eq hY y1 (Nat.le_refl _) (j := 4 * i + j) (by omega)
  rw [← Nat.add_assoc] at hl
  by_cases hk : k ≤ leftF q (24 * y + 4 * i + j)
  case neg =>
    exact bad2 (by unfold leB; rw [hg, b3, ntz_t h7, b2, decide_eq_true ((n2' a4).mpr hn), ei, ej, ← hl, decide_eq_false hk]; rfl) (by simp [cLease, h1, h2, h3, h7, h20, et, ei, ej, hk])
  case pos =>
    have lb : leB p y (nI j) (nI i) (nI o) k = true := by unfold leB; rw [hg, b3, ntz_t h7, b2, decide_eq_true ((n2' a4).mpr hn), ei, ej, ← hl, decide_eq_true hk]; rfl
    have e1 : cLease q (nI j) (nI i) (nI o) k = (.inl (some (.int (nI n))), wkC (addC q n 0 (nI y) (nI i) (nI j) (nI o) k k) n) := by
      unfold cLease
      rw [if_neg (by rw [h1]; decide), if_neg (by rw [h2]; decide), if_neg (by rw [h3]; decide), if_neg h7, if_neg h20, et, ei, ej, if_pos hk, en, a3, a1]
    have e2 : mLease p n y (nI j) (nI i) (nI o) k = (nI n, workM (qv (tellM (qv p 31 0 0) n 0 (nI y) (nI i) (nI j) (nI o) k k) 31 20 (nI (n + 1))) (n + 1) y) := by simp [mLease, rfM, hg, lb]
    rw [e1, e2]
    dsimp only
    have hA : Ad q (addC q n 0 (nI y) (nI i) (nI j) (nI o) k k) n 0 (nI y) (nI i) (nI j) (nI o) k k := Ad_1
    have hT : Tl p (qv (tellM (qv p 31 0 0) n 0 (nI y) (nI i) (nI j) (nI o) k k) 31 20 (nI (n + 1))) n 0 (nI y) (nI i) (nI j) (nI o) k k 0 := Tl_1
    generalize addC q n 0 (nI y) (nI i) (nI j) (nI o) k k = q1 at hA ⊢
    generalize qv (tellM (qv p 31 0 0) n 0 (nI y) (nI i) (nI j) (nI o) k k) 31 20 (nI (n + 1)) = P at hT ⊢
    obtain ⟨ev, eyr⟩ := Ad_ev hA a2 hi hj (fun _ => ⟨o, rfl, ho⟩) (fun h => absurd rfl h)
    have hk2 : 1 ≤ k.toInt ∧ k.toInt ≤ 1000000 := isW_i.mp h3
    have hb : EvB q1 n := by
      obtain ⟨-, -, ⟨A3, A4, A5, A6, A7, A8, A9⟩, -⟩ := hA
      unfold EvB; rw [A3, A8, A9]
      exact ⟨by omega, by omega, fun _ => rfl, Or.inl rfl⟩
    have hK2 := RK_wk hK y1 a2 (op_y hB h7) (fun i hi => (hE.1 i hi).1) hA ev
    have hQ : ∀ k : Nat, kpY k = true → wkC q1 n k = q1 k := fun k hk => by
      have hk' : k ≤ 10 ∨ (19 ≤ k ∧ k ≠ 29) := by simpa [kpY] using hk
      exact wkC_k (by omega) (by omega) (by omega) (by omega)
    generalize wkC q1 n = Q at hK2 hQ ⊢
    obtain ⟨r1, r2⟩ := RR_add hS hY hn hA hT (fun _ => rfl) ev (by omega) hb hK2 hQ
    generalize workM P (n + 1) y = P2 at r1 r2 ⊢
    exact ⟨r1, r2.symm, Or.inl ⟨_, rfl, rfl⟩⟩
theorem w_b {k fc : Int32} (hk : 1 ≤ k.toInt ∧ k.toInt ≤ 1000000) (hf : 0 ≤ fc.toInt ∧ fc.toInt ≤ 5000) : (liM k fc).toInt = (k.toInt * fc.toInt + 500) / 1000 ∧ 0 ≤ k.toInt * fc.toInt ∧ k.toInt * fc.toInt ≤ 5000000000 := by
  have h0 : 0 ≤ k.toInt * fc.toInt := Int.mul_nonneg (by omega) hf.1
  have h1 : k.toInt * fc.toInt ≤ 1000000 * 5000 := Int.mul_le_mul hk.2 hf.2 hf.1 (by omega)
  have e5 : (500 : Int64).toInt = 500 := by decide
  have e10 : (1000 : Int64).toInt = 1000 := by decide
  have e1 : (k.toInt64 * fc.toInt64).toInt = k.toInt * fc.toInt := by
    rw [mulL, c64, c64]
    · rw [c64, c64]; omega
    · rw [c64, c64]; omega
  have e2 : (k.toInt64 * fc.toInt64 + 500).toInt = k.toInt * fc.toInt + 500 := by
    rw [addL, e1, e5]
    · rw [e1, e5]; omega
    · rw [e1, e5]; omega
  refine ⟨?_, h0, by omega⟩
  unfold liM
  rw [divL (by omega) (by omega), e2, e10]
theorem lw_eq {k fc u : Int32} (hk : 1 ≤ k.toInt ∧ k.toInt ≤ 1000000) (hf : 0 ≤ fc.toInt ∧ fc.toInt ≤ 5000) : lwF k fc u = (laW k fc u).toInt32 ∧ 0 ≤ (lwF k fc u).toInt ∧ (lwF k fc u).toInt ≤ 5000000 := by
  obtain ⟨e1, e2, e3⟩ := w_b hk hf
  unfold lwF laW
  rw [show (k.toInt64 * fc.toInt64 + 500) / 1000 = liM k fc from rfl]
  generalize liM k fc = L at e1 ⊢
  have e4 : L.toInt32.toInt = L.toInt := l2i (by omega) (by omega)
  by_cases hu : u = 0
  · rw [if_pos hu, if_pos hu, e4]
    exact ⟨rfl, by omega, by omega⟩
  · rw [if_neg hu, if_neg hu]
    have f1 : (1 : Int64).toInt = 1 := by decide
    have f2 : (2 : Int64).toInt = 2 := by decide
    have f3 : (2 : Int32).toInt = 2 := by decide
    have e5 : (L.toInt32 + 1).toInt = L.toInt + 1 := by
      rw [addI, e4, i1]
      · rw [e4, i1]; omega
      · rw [e4, i1]; omega
    have e6 : ((L.toInt32 + 1) / 2).toInt = (L.toInt + 1) / 2 := by rw [divI (by omega) (by omega), e5, f3]
    have e7 : (L + 1).toInt = L.toInt + 1 := by
      rw [addL, f1]
      · rw [f1]; omega
      · rw [f1]; omega
    have e8 : ((L + 1) / 2).toInt = (L.toInt + 1) / 2 := by rw [divL (by omega) (by omega), e7, f2]
    refine ⟨?_, by omega, by omega⟩
    apply Int32.toInt_inj.mp
    rw [e6, l2i (by omega) (by omega), e8]
theorem tt_land (hS : RS q p) (hY : RY q p y n) (z v s f k u : Int32) : RR (cLand q z v s f k u).2 (mLand p n y z v s f k u).2 ∧ kO IAE (cLand q z v s f k u).1 = (mLand p n y z v s f k u).2 31 0 ∧ ((∃ x : Int32, (cLand q z v s f k u).1 = .inl (some (.int x)) ∧ (mLand p n y z v s f k u).1 = x) ∨ (cLand q z v s f k u).1 = .inr IAE ∨ (cLand q z v s f k u).1 = .inr ISE) := by
  obtain ⟨hB, hE, hK, hM⟩ := id hY
  obtain ⟨⟨a1, a2, a3, a4⟩, ⟨b1, b2, b3, b4⟩, c1, c2, c3⟩ := id hB
  have e9 : p 31 9 = q 0 6 := b1.trans a1.symm
  have e34 : p 34 = q 2 := hS.1.2.2.1.symm
  have bad : laG p z v s f k = false → cLand q z v s f k u = (.inr IAE, q) → RR (cLand q z v s f k u).2 (mLand p n y z v s f k u).2 ∧ kO IAE (cLand q z v s f k u).1 = (mLand p n y z v s f k u).2 31 0 ∧ ((∃ x : Int32, (cLand q z v s f k u).1 = .inl (some (.int x)) ∧ (mLand p n y z v s f k u).1 = x) ∨ (cLand q z v s f k u).1 = .inr IAE ∨ (cLand q z v s f k u).1 = .inr ISE) := fun hg hc => by
    rw [hc, show mLand p n y z v s f k u = (0, qv p 31 0 1) by simp [mLand, rfM, hg]]
    exact ⟨RR_ref hS hY 1, kO_1, Or.inr (Or.inl rfl)⟩
  cases h1 : isW z 1 (q 0 6) with
  | false => exact bad (by simp [laG, gLa, e9, h1]) (by simp [cLand, h1])
  | true =>
  cases h2 : isW v 0 5 with
  | false => exact bad (by simp [laG, gLa, h2]) (by simp [cLand, h1, h2])
  | true =>
  cases h3 : isW s 0 3 with
  | false => exact bad (by simp [laG, gLa, h3]) (by simp [cLand, h1, h2, h3])
  | true =>
  cases h4 : isW f 0 2 with
  | false => exact bad (by simp [laG, gLa, h4]) (by simp [cLand, h1, h2, h3, h4])
  | true =>
  cases h5 : isW k 1 1000000 with
  | false => exact bad (by simp [laG, gLa, h5]) (by simp [cLand, h1, h2, h3, h4, h5])
  | true =>
  have hgl : gLa p z v s f k = true := by simp [gLa, e9, h1, h2, h3, h4, h5]
  by_cases h6 : q 2 (3 * tN s + tN f) = 0
  · exact bad (by unfold laG; rw [hgl, e34, h6]; rfl) (by simp [cLand, h1, h2, h3, h4, h5, h6])
  have h1' := h1
  rw [a1] at h1'
  obtain ⟨t, t1, t2, rfl, et⟩ := wy a2 h1'
  obtain ⟨i, hi, rfl, ei⟩ := w5 h2
  obtain ⟨j, hj, rfl, ej⟩ := w3 h3
  obtain ⟨m, hm, rfl, em⟩ := w2 h4
  rw [ej, em] at h6
  have hfb : 0 ≤ (q 2 (3 * j + m)).toInt ∧ (q 2 (3 * j + m)).toInt ≤ 5000 := hS.2.2.2.2.2.2.2.2.2.1 (3 * j + m) (by omega)
  have hf0 : (0 : Int32) < q 2 (3 * j + m) := by
    rw [ltI, z32]
    have : ¬ (q 2 (3 * j + m)).toInt = 0 := fun h => h6 (Int32.toInt_inj.mp (by rw [h, z32]))
    omega
  have hg : laG p (nI t) (nI i) (nI j) (nI m) k = true := by unfold laG; rw [hgl, ej, em, e34, decide_eq_true hf0]; rfl
  have etk := tk_eq hY t2
  have bad2 : laB p (nI t) (nI i) (nI j) (nI m) k = true → cLand q (nI t) (nI i) (nI j) (nI m) k u = (.inr ISE, q) → RR (cLand q (nI t) (nI i) (nI j) (nI m) k u).2 (mLand p n y (nI t) (nI i) (nI j) (nI m) k u).2 ∧ kO IAE (cLand q (nI t) (nI i) (nI j) (nI m) k u).1 = (mLand p n y (nI t) (nI i) (nI j) (nI m) k u).2 31 0 ∧ ((∃ x : Int32, (cLand q (nI t) (nI i) (nI j) (nI m) k u).1 = .inl (some (.int x)) ∧ (mLand p n y (nI t) (nI i) (nI j) (nI m) k u).1 = x) ∨ (cLand q (nI t) (nI i) (nI j) (nI m) k u).1 = .inr IAE ∨ (cLand q (nI t) (nI i) (nI j) (nI m) k u).1 = .inr ISE) := fun hl hc => by
    rw [hc, show mLand p n y (nI t) (nI i) (nI j) (nI m) k u = (0, qv p 31 0 2) by simp [mLand, rfM, hg, hl]]
    exact ⟨RR_ref hS hY 2, kO_2, Or.inr (Or.inr rfl)⟩
  cases h8 : tkC q (nI t) with
  | false => exact bad2 (by unfold laB; rw [hg, et, ← etk, h8]; rfl) (by simp [cLand, h1, h2, h3, h4, h5, h6, h8, ej, em])
  | true =>
  by_cases h20 : (200 : Int32) ≤ q 20 9
  · have h20' : ¬ n < 200 := (n2 a4).mp (by rw [← a3]; exact h20)
    exact bad2 (by unfold laB; rw [hg, et, ← etk, h8, b2, decide_eq_true ((n2'' a4).mpr h20')]; rfl) (by simp [cLand, h1, h2, h3, h4, h5, h6, h8, h20, ej, em])
  have hn : n < 200 := Classical.byContradiction fun h => h20 (by rw [a3]; exact (n2 a4).mpr h)
  have lb : laB p (nI t) (nI i) (nI j) (nI m) k = false := by unfold laB; rw [hg, et, ← etk, h8, b2, decide_eq_false (fun h => (n2'' a4).mp h hn)]; rfl
  have e6 : tN (q 0 6) = y := by rw [a1]; exact tN_nI (by omega)
  have en : tN (q 20 9) = n := by rw [a3]; exact tN_nI (by omega)
  have hk2 : 1 ≤ k.toInt ∧ k.toInt ≤ 1000000 := isW_i.mp h5
  obtain ⟨w1, w2, w3⟩ := lw_eq (u := u) hk2 hfb
  have e1 : cLand q (nI t) (nI i) (nI j) (nI m) k u = (.inl (some (.int (nI n))), waC (addC q n 1 (nI t) (nI i) (nI j) (-1) k (lwF k (q 2 (3 * j + m)) u)) (n + 1) t (y + 1 - t)) := by
    unfold cLand
    rw [if_neg (by rw [h1]; decide), if_neg (by rw [h2]; decide), if_neg (by rw [h3]; decide), if_neg (by rw [h4]; decide), if_neg (by rw [h5]; decide), ej, em, if_neg h6, if_neg (by rw [h8]; decide), if_neg h20, e6, en, et, a3]
  have e2 : mLand p n y (nI t) (nI i) (nI j) (nI m) k u = (nI n, workM (qv (tellM (qv p 31 0 0) n 1 (nI t) (nI i) (nI j) 0 k (lwF k (q 2 (3 * j + m)) u)) 31 20 (nI (n + 1))) (n + 1) y) := by
    rw [w1]
    simp [mLand, rfM, hg, lb, ej, em, e34]
  rw [e1, e2]
  dsimp only
  generalize lwF k (q 2 (3 * j + m)) u = wt at w2 w3 ⊢
  have hA : Ad q (addC q n 1 (nI t) (nI i) (nI j) (-1) k wt) n 1 (nI t) (nI i) (nI j) (-1) k wt := Ad_1
  have hT : Tl p (qv (tellM (qv p 31 0 0) n 1 (nI t) (nI i) (nI j) 0 k wt) 31 20 (nI (n + 1))) n 1 (nI t) (nI i) (nI j) 0 k wt 0 := Tl_1
  generalize addC q n 1 (nI t) (nI i) (nI j) (-1) k wt = q1 at hA ⊢
  generalize qv (tellM (qv p 31 0 0) n 1 (nI t) (nI i) (nI j) 0 k wt) 31 20 (nI (n + 1)) = P at hT ⊢
  obtain ⟨ev, eyr⟩ := Ad_ev hA (by omega) hi hj (fun h => absurd h (by decide)) (fun _ h => absurd rfl h)
  have hb : EvB q1 n := by
    obtain ⟨-, -, ⟨A3, A4, A5, A6, A7, A8, A9⟩, -⟩ := hA
    unfold EvB; rw [A3, A8, A9]
    exact ⟨by omega, by omega, fun h => absurd h (by decide), Or.inr (Or.inl rfl)⟩
  obtain ⟨hK2, hQ⟩ := Ad_K hK hB (fun _ => by omega) (fun i hi => (hE.1 i hi).1) t1 t2 hA ev
  generalize waC q1 (n + 1) t (y + 1 - t) = Q at hK2 hQ ⊢
  obtain ⟨r1, r2⟩ := RR_add hS hY hn hA hT (fun h => absurd rfl h) ev (by omega) hb hK2 hQ
  generalize workM P (n + 1) y = P2 at r1 r2 ⊢
  exact ⟨r1, r2.symm, Or.inl ⟨_, rfl, rfl⟩⟩
theorem t_strike (hS : RS q p) (hY : RY q p y n) (i : Int32) : RR (cStrike q i).2 (mStrike p n y i) ∧ kO IOE (cStrike q i).1 = (mStrike p n y i) 31 0 ∧ ((cStrike q i).1 = .inl none ∨ (cStrike q i).1 = .inr IOE ∨ (cStrike q i).1 = .inr ISE) := by
  obtain ⟨hB, hE, hK, hM⟩ := id hY
  obtain ⟨⟨a1, a2, a3, a4⟩, ⟨b1, b2, b3, b4⟩, c1, c2, c3⟩ := id hB
  have e9 : p 31 20 = q 20 9 := b2.trans a3.symm
  cases h1 : isW i 0 (q 20 9 - 1) with
  | false =>
    rw [show cStrike q i = (.inr IOE, q) by simp [cStrike, h1], show mStrike p n y i = qv p 31 0 1 by simp [mStrike, rfM, e9, h1]]
    exact ⟨RR_ref hS hY 1, kO_1, Or.inr (Or.inl rfl)⟩
  | true =>
  have h1' := h1
  rw [a3] at h1'
  obtain ⟨m, hm, rfl, em⟩ := wI a4 h1'
  obtain ⟨d1, d2, d3, d4⟩ := hE.1 m hm
  obtain ⟨g1, g2, g3, g4, g5, g6, g7, g8⟩ := id d3
  rw [toQ_hi (by decide)] at g1 g2 g8
  have ey : yr (eP p) m = yr q m := by unfold yr; rw [g2]; rfl
  have etk := tk_eq hY d2.2
  rw [← d1.1] at etk
  have bad2 : stB p (nI m) = false → cStrike q (nI m) = (.inr ISE, q) → RR (cStrike q (nI m)).2 (mStrike p n y (nI m)) ∧ kO IOE (cStrike q (nI m)).1 = (mStrike p n y (nI m)) 31 0 ∧ ((cStrike q (nI m)).1 = .inl none ∨ (cStrike q (nI m)).1 = .inr IOE ∨ (cStrike q (nI m)).1 = .inr ISE) := fun hs hc => by
    rw [hc, show mStrike p n y (nI m) = qv p 31 0 2 by simp [mStrike, rfM, e9, h1, hs]]
    exact ⟨RR_ref hS hY 2, kO_3, Or.inr (Or.inr rfl)⟩
  have es : stB p (nI m) = ((decide (q 21 m = 1) && decide (q 28 m = 0)) && tkC q (q 22 m)) := by
    unfold stB
    rw [e9, h1, em, ey, ← etk, show p 49 m = q 21 m from g1.symm, show p 56 m = q 28 m from g8.symm]
    cases decide (q 21 m = 1) <;> cases decide (q 28 m = 0) <;> cases tkC q (q 22 m) <;> rfl
  cases h2 : (decide (q 21 m = 1) && decide (q 28 m = 0)) with
  | false => exact bad2 (by rw [es, h2]; rfl) (by unfold cStrike; rw [if_neg (by rw [h1]; decide), em, if_pos h2])
  | true =>
  cases h3 : tkC q (q 22 m) with
  | false => exact bad2 (by rw [es, h2, h3]; rfl) (by unfold cStrike; rw [if_neg (by rw [h1]; decide), em, if_neg (by rw [h2]; decide), if_pos h3])
  | true =>
    have hs : stB p (nI m) = true := by rw [es, h2, h3]; rfl
    have e6 : tN (q 0 6) = y := by rw [a1]; exact tN_nI (by omega)
    have en : tN (q 20 9) = n := by rw [a3]; exact tN_nI (by omega)
    have eyr : tN (q 22 m) = yr q m := rfl
    have e1 : cStrike q (nI m) = (.inl none, waC (qv q 28 m 1) n (yr q m) (y + 1 - yr q m)) := by
      unfold cStrike
      rw [if_neg (by rw [h1]; decide), em, if_neg (by rw [h2]; decide), if_neg (by rw [h3]; decide), e6, en, eyr]
    have e2 : mStrike p n y (nI m) = workM (qv (qv p 31 0 0) 56 m 1) n y := by simp [mStrike, rfM, e9, h1, hs, em]
    rw [e1, e2]
    dsimp only
    have q28 : ∀ k : Nat, k ≠ 28 → qv q 28 m 1 k = q k := fun k hk => qv_n hk
    have q28n : ∀ i : Nat, i ≠ m → qv q 28 m 1 28 i = q 28 i := fun i hi => (pk_un hi : upd (q 28) m 1 i = q 28 i)
    have q28m : qv q 28 m 1 28 m = 1 := (pk_us : upd (q 28) m 1 m = 1)
    have p56 : ∀ k : Nat, k ≠ 31 → k ≠ 56 → qv (qv p 31 0 0) 56 m 1 k = p k := fun k k1 k2 => by rw [qv_n k2, qv_n k1]
    have p56n : ∀ i : Nat, i ≠ m → qv (qv p 31 0 0) 56 m 1 56 i = p 56 i := fun i hi => (pk_un hi : upd (p 56) m 1 i = p 56 i)
    have p56m : qv (qv p 31 0 0) 56 m 1 56 m = 1 := (pk_us : upd (p 56) m 1 m = 1)
    have p31 : qv (qv p 31 0 0) 56 m 1 31 = qv p 31 0 0 31 := qv_n (by decide)
    generalize qv q 28 m 1 = q1 at q28 q28n q28m ⊢
    generalize qv (qv p 31 0 0) 56 m 1 = P at p56 p56n p56m p31 ⊢
    have ek : ∀ i : Nat, i ≠ m → ∀ k : Nat, 21 ≤ k → k ≤ 28 → q1 k i = q k i := fun i hi k k1 k2 => by
      by_cases c9 : k = 28
      · rw [c9]; exact q28n i hi
      · rw [q28 k c9]
    have ho : ∀ i : Nat, i < n → evOK q i := fun i hi => (hE.1 i hi).1
    have ho1 : ∀ i : Nat, i < n → evOK q1 i := fun i hi => evOK_eq (q28 21 (by decide)) (q28 22 (by decide)) (q28 23 (by decide)) (q28 24 (by decide)) (q28 25 (by decide)) (ho i hi)
    obtain ⟨hK2, hQ⟩ := RK_wa (q := q1) (m := n) (t := yr q m) d2.1 d2.2 a2 (by rw [q28 0 (by decide)]; exact a1) ho1 (fun s s1 s2 => by
      rw [opC_0 (q28 0 (by decide))]
      exact CK_m2 (hK.1 s s1 (by omega)) (fun k k1 k2 j _ => by rw [q28 k (by omega)]) (fun k k1 k2 j _ => by rw [q28 k (by omega)]) (fun i _ => by rw [q28 22 (by decide)]) (fun i hi hy => EqE_of (ek i (fun e => by
        rw [e, d1.1] at hy
        exact nI_ne (by omega) (by omega) (by omega) hy))) ho (fun i _ _ => by rw [q28 29 (by decide)]) (fun v _ => by rw [q28 18 (by decide)])) (fun h9 => by
      rw [opC_0 (q28 0 (by decide))] at h9
      rw [q28 15 (by decide), q28 16 (by decide), q28 17 (by decide)]
      exact RK_op hK (by omega) h9) (by rw [q28 15 (by decide), q28 16 (by decide)]; exact hK.2.1) (fun k j k1 k2 hj => by rw [q28 k (by omega)]; exact hK.2.2 k j k1 k2 hj)
    generalize waC q1 n (yr q m) (y + 1 - yr q m) = Q at hK2 hQ ⊢
    have Qk : ∀ k : Nat, kpY k = true → k ≠ 28 → Q k = q k := fun k k1 k2 => by rw [hQ k k1, q28 k k2]
    have hE1 : RE q1 P y n := by
      refine ⟨fun i hi => ?_, fun i hi => by rw [q28n i (by omega)]; exact hE.2 i hi⟩
      obtain ⟨f1, f2, ⟨k1, k2, k3, k4, k5, k6, k7, k8⟩, f4⟩ := hE.1 i hi
      rw [toQ_hi (by decide)] at k1 k2 k3 k4 k5 k6 k7 k8
      refine ⟨ho1 i hi, ?_, ?_, EvB_c f4 fun k hk => by rw [q28 k (by omega)]⟩
      · unfold yr at f2 ⊢; rw [q28 22 (by decide)]; exact f2
      · unfold EqE
        rw [toQ_hi (by decide), toQ_hi (by decide), toQ_hi (by decide), toQ_hi (by decide), toQ_hi (by decide), toQ_hi (by decide), toQ_hi (by decide), toQ_hi (by decide), q28 21 (by decide), q28 22 (by decide), q28 23 (by decide), q28 24 (by decide), q28 25 (by decide), q28 26 (by decide), q28 27 (by decide), p56 (21 + 28) (by decide) (by decide), p56 (22 + 28) (by decide) (by decide), p56 (23 + 28) (by decide) (by decide), p56 (24 + 28) (by decide) (by decide), p56 (25 + 28) (by decide) (by decide), p56 (26 + 28) (by decide) (by decide), p56 (27 + 28) (by decide) (by decide)]
        refine ⟨k1, k2, k3, k4, k5, k6, k7, ?_⟩
        by_cases e9 : i = m
        · rw [e9, q28m]; exact p56m.symm
        · rw [q28n i e9]; exact k8.trans (p56n i e9).symm
    have hY2 := RY_work (q := Q) (p := P) (y := y) (n := n) (by
      refine ⟨⟨?_, a2, ?_, a4⟩, ⟨?_, ?_, ?_, ?_⟩, ?_, ?_, ?_⟩
      · rw [Qk 0 rfl (by decide)]; exact a1
      · rw [Qk 20 rfl (by decide)]; exact a3
      · rw [p31]; exact b1
      · rw [p31]; exact b2
      · rw [p31, Qk 0 rfl (by decide)]; exact b3
      · rw [Qk 0 rfl (by decide)]; exact b4
      · rw [Qk 30 rfl (by decide), p56 40 (by decide) (by decide)]; exact c1
      · rw [Qk 10 rfl (by decide), p56 41 (by decide) (by decide)]; exact c2
      · rw [Qk 10 rfl (by decide)]; exact c3) (RE_fr (q' := Q) (p' := P) hE1 (fun k k1 k2 => hQ k (by simp [kpY]; omega)) (fun _ _ _ _ _ => rfl)) hK2 (fun j hj => by rw [p56 46 (by decide) (by decide), p56 47 (by decide) (by decide)]; exact hM.2 j hj)
    have wk : ∀ k : Nat, kpM k = true → workM P n y k = P k := fun k hk => workM_k hk
    generalize workM P n y = P2 at hY2 wk ⊢
    refine ⟨⟨RS_p (RS_q hS fun k k1 k2 => Qk k (by simp [kpY]; omega) (by omega)) fun k k1 k2 => by rw [wk k (by simp [kpM]; omega), p56 k (by omega) (by omega)], y, n, hY2⟩, ?_, Or.inl rfl⟩
    show (0 : Int32) = P2 31 0
    rw [wk 31 rfl, p31]; rfl
end CALLS
