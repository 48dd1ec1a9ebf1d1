/-! equivalent: class against reference -/
section EQV
variable {q p : Nat → Nat → Int32} {y n : Nat}
/-- what the reference adds up anew is what the tale has exchanged -/
theorem mov_ZF {t N : Nat} (h57 : ∀ i : Nat, i < N → p 50 i = nI t → p 57 i = bI (evF (toQ p) t i (ZF (toQ p) t i)).1) (ho : ∀ i : Nat, i < N → evOK (toQ p) i) (hb : ∀ i : Nat, i < N → EvB (toQ p) i) {v : Nat} (hv : v < 6) : ∀ m : Nat, m ≤ N → movM p (nI t) (nI v) m = (ZF (toQ p) t m).2.2 v
  | 0, _ => by rw [movM_0, ZF_0]
  | m + 1, hm => by
    have ih := mov_ZF h57 ho hb hv m (by omega)
    have h9 := h57 m (by omega)
    obtain ⟨-, -, o3, o4, -, o6, -, -⟩ := ho m (by omega)
    obtain ⟨-, -, -, k4⟩ := hb m (by omega)
    rw [toQ_hi (by decide)] at o3 k4
    have o3 : p 51 m = nI (vs (toQ p) m) := o3
    have k4 : p 49 m = 0 ∨ p 49 m = 1 ∨ p 49 m = 2 := k4
    rw [movM_s, ZF_s, toQ_hi (k := 22) (by decide)]
    show (if mvB p (nI t) (nI v) m = true then movM p (nI t) (nI v) m + p 54 m else movM p (nI t) (nI v) m) = (if p 50 m = nI t then (evF (toQ p) t m (ZF (toQ p) t m)).2 else ZF (toQ p) t m).2.2 v
    generalize ZF (toQ p) t m = z at ih h9 ⊢
    by_cases c : p 50 m = nI t
    · rw [if_pos c]
      have h9 := h9 c
      have e21 : toQ p 21 m = p 49 m := by rw [toQ_hi (by decide)]
      have e26 : toQ p 26 m = p 54 m := by rw [toQ_hi (by decide)]
      unfold evF evG at h9 ⊢
      rw [e21, e26] at h9 ⊢
      have hno : ¬ p 49 m = 2 → mvB p (nI t) (nI v) m = false := fun h => by unfold mvB; rw [decide_eq_false h, Bool.false_and]
      rcases k4 with k | k | k
      · rw [if_neg (by rw [hno (by rw [k]; decide)]; decide), if_pos k, ih]
        split <;> rfl
      · rw [if_neg (by rw [hno (by rw [k]; decide)]; decide), if_neg (by rw [k]; decide), if_pos k, ih]
        split <;> rfl
      · have k0 : ¬ p 49 m = 0 := by rw [k]; decide
        have k1 : ¬ p 49 m = 1 := by rw [k]; decide
        rw [if_neg k0, if_neg k1] at h9 ⊢
        have hm9 : mvB p (nI t) (nI v) m = (decide (nI (vs (toQ p) m) = nI v) && ntz (p 57 m)) := by
          unfold mvB; rw [decide_eq_true k, decide_eq_true c, o3]; rfl
        rw [hm9, h9, ntz_bI]
        generalize (decide (p 54 m ≤ z.2.1 (4 * vs (toQ p) m + sp (toQ p) m)) && (decide (toQ p 27 m ≤ lfG (sh (24 * t) (toQ p 10)) (sh (24 * t) (toQ p 12)) (sh (24 * t) (toQ p 13)) z (4 * vs (toQ p) m + ot (toQ p) m)) && decide (z.2.2 (vs (toQ p) m) + p 54 m ≤ 1000))) = B
        cases B with
        | false =>
          have hf : ¬ (false = true) := by decide
          rw [if_neg hf]
          dsimp only
          rw [Bool.and_false, if_neg hf]
          exact ih
        | true =>
          rw [if_pos rfl]
          dsimp only
          rw [Bool.and_true]
          by_cases e : v = vs (toQ p) m
          · rw [← e, pk_us, if_pos (decide_eq_true rfl), ih]
          · rw [pk_un e, if_neg (fun h => e ((nI_inj (by omega) (by omega)).mp (of_decide_eq_true h)).symm), ih]
    · rw [if_neg c, if_neg (by unfold mvB; rw [decide_eq_false c]; simp)]
      exact ih
theorem eq_b {k a b : Int32} (hk : 1 ≤ k.toInt ∧ k.toInt ≤ 1000) (ha : 1 ≤ a.toInt ∧ a.toInt ≤ 1000) (hb : 1 ≤ b.toInt ∧ b.toInt ≤ 1000) : 0 ≤ (eqF k a b).toInt ∧ (eqF k a b).toInt ≤ 5000000 := by
  have h0 : 0 ≤ k.toInt * a.toInt := Int.mul_nonneg (by omega) (by omega)
  have h1 : k.toInt * a.toInt ≤ 1000 * 1000 := Int.mul_le_mul hk.2 ha.2 (by omega) (by omega)
  have e1 : (k * a).toInt = k.toInt * a.toInt := mulI (by omega) (by omega)
  have e2 : (k * a + b).toInt = k.toInt * a.toInt + b.toInt := by
    rw [addI, e1]
    · rw [e1]; omega
    · rw [e1]; omega
  have e3 : (k * a + b - 1).toInt = k.toInt * a.toInt + b.toInt - 1 := by
    rw [subI, e2, i1]
    · rw [e2, i1]; omega
    · rw [e2, i1]; omega
  unfold eqF
  have h2 : 0 ≤ (k * a + b - 1).toInt := by rw [e3]; omega
  have h3 : (k * a + b - 1).toInt / b.toInt ≤ (k * a + b - 1).toInt := Int.ediv_le_self _ h2
  have h4 : 0 ≤ (k * a + b - 1).toInt / b.toInt := Int.ediv_nonneg h2 (by omega)
  rw [divI h2 (by omega)]
  rw [e3] at h3 h4 ⊢
  omega
/-- both say the same of whether a transfer may be -/
theorem can_eq (hY : RY q p y n) (y1 : 1 ≤ y) {v i j : Nat} {k w : Int32} (hv : v < 6) (hi : i < 4) (hj : j < 4) (hb : EvB (addC q n 2 (nI y) (nI v) (nI i) (nI j) k w) n) : mayM (tellM p n 2 (nI y) (nI v) (nI i) (nI j) k w) n = canC q (24 * y + 4 * v + i) (24 * y + 4 * v + j) (6 * y + v) k w := by
  obtain ⟨hB, hE, hK, hM⟩ := id hY
  have y8 := hB.1.2.1
  have hA : Ad q (addC q n 2 (nI y) (nI v) (nI i) (nI j) k w) n 2 (nI y) (nI v) (nI i) (nI j) k w := Ad_1
  obtain ⟨ev, eyr⟩ := Ad_ev hA y8 hv hi (fun h => absurd h (by decide)) (fun _ _ => ⟨j, rfl, hj⟩)
  have hT1 : ∀ k' : Nat, k' ≤ 48 → tellM p n 2 (nI y) (nI v) (nI i) (nI j) k w k' = p k' := fun k' hk => tl_k hk
  have hT2 : ∀ k' i' : Nat, 49 ≤ k' → k' ≤ 57 → i' ≠ n → tellM p n 2 (nI y) (nI v) (nI i) (nI j) k w k' i' = p k' i' := fun k' i' k1 k2 hi => tl_i k1 k2 hi
  obtain ⟨T49, T50, T51, T52, T53, T54, T55, T56⟩ : (tellM p n 2 (nI y) (nI v) (nI i) (nI j) k w 49 n = 2 ∧ tellM p n 2 (nI y) (nI v) (nI i) (nI j) k w 50 n = nI y ∧ tellM p n 2 (nI y) (nI v) (nI i) (nI j) k w 51 n = nI v ∧ tellM p n 2 (nI y) (nI v) (nI i) (nI j) k w 52 n = nI i ∧ tellM p n 2 (nI y) (nI v) (nI i) (nI j) k w 53 n = nI j ∧ tellM p n 2 (nI y) (nI v) (nI i) (nI j) k w 54 n = k ∧ tellM p n 2 (nI y) (nI v) (nI i) (nI j) k w 55 n = w ∧ tellM p n 2 (nI y) (nI v) (nI i) (nI j) k w 56 n = 0) := ⟨pk_us, pk_us, pk_us, pk_us, pk_us, pk_us, pk_us, pk_us⟩
  generalize addC q n 2 (nI y) (nI v) (nI i) (nI j) k w = q1 at hA ev eyr hb ⊢
  generalize tellM p n 2 (nI y) (nI v) (nI i) (nI j) k w = p0 at hT1 hT2 T49 T50 T51 T52 T53 T54 T55 T56 ⊢
  obtain ⟨A1, A2, ⟨A3, A4, A5, A6, A7, A8, A9⟩, A10⟩ := hA
  have hEE : EqE q1 (toQ p0) n := by
    unfold EqE
    rw [toQ_hi (by decide), toQ_hi (by decide), toQ_hi (by decide), toQ_hi (by decide), toQ_hi (by decide), toQ_hi (by decide), toQ_hi (by decide), toQ_hi (by decide), A3, A4, A5, A6, A7, A8, A9, A1 28 (by omega), hE.2 n (Nat.le_refl _)]
    exact ⟨T49.symm, T50.symm, T51.symm, T52.symm, fun _ => T53.symm, T54.symm, T55.symm, T56.symm⟩
  obtain ⟨u1, u2, u3⟩ := RY_acc hY y1 (Nat.le_refl _)
  have hR : EqR q1 (toQ p0) y := by
    refine ⟨fun j' hj' => ?_, fun j' hj' => ?_, fun j' hj' => ?_⟩
    · show q1 10 (24 * y + j') = toQ p0 10 (24 * y + j')
      rw [A1 10 (by omega), toQ_lo (by decide), hT1 _ (by decide)]; exact u1 10 (by omega) (by omega) j' hj'
    · show q1 12 (24 * y + j') = toQ p0 12 (24 * y + j')
      rw [A1 12 (by omega), toQ_lo (by decide), hT1 _ (by decide)]; exact u1 12 (by omega) (by omega) j' hj'
    · show q1 13 (24 * y + j') = toQ p0 13 (24 * y + j')
      rw [A1 13 (by omega), toQ_lo (by decide), hT1 _ (by decide)]; exact u1 13 (by omega) (by omega) j' hj'
  have hz : EqT (vwC q1 y) (vwM p0 y n) := by
    refine ⟨fun j' hj' => ?_, fun j' hj' => ?_, fun j' hj' => ?_⟩
    · show q1 11 (24 * y + j') = p0 42 (24 * y + j')
      rw [A1 11 (by omega), hT1 _ (by decide)]; exact u1 11 (by omega) (by omega) j' hj'
    · show q1 14 (24 * y + j') = p0 45 (24 * y + j')
      rw [A1 14 (by omega), hT1 _ (by decide)]; exact u1 14 (by omega) (by omega) j' hj'
    · show q1 18 (6 * y + j') = movM p0 (nI y) (nI j') n
      rw [A1 18 (by omega), (hK.1 y y1 (Nat.le_refl _)).2 j' hj', u3.2.2 j' hj']
      rw [movM_c (p := p) n (fun i' hi' => ⟨mvB_c fun k' hk' => hT2 k' i' (by omega) (by omega) (by omega), hT2 54 i' (by omega) (by omega) (by omega)⟩)]
      refine (mov_ZF (N := n) (fun i' hi' hy => ?_) (RE_ok hE) (fun i' hi' => EvB_E (hE.1 i' hi').2.2.1 (hE.1 i' hi').2.2.2) hj' n (Nat.le_refl _)).symm
      have h9 := (hM.1 y y1 (Nat.le_refl _)).2.2.1 i' hi'
      rw [toQ_hi (k := 22) (by decide), toQ_hi (k := 29) (by decide)] at h9
      exact h9 hy
  rw [mayM_v y8 T50 (EvB_E hEE hb), ← (evF_c hEE hR hz ev).1, ← (evC_v y8 A4).1]
  have ek : 24 * yr q1 n + 4 * vs q1 n + sp q1 n = 24 * y + 4 * v + i ∧ 24 * yr q1 n + 4 * vs q1 n + ot q1 n = 24 * y + 4 * v + j ∧ 6 * yr q1 n + vs q1 n = 6 * y + v := by
    unfold vs sp ot
    rw [eyr, A5, A6, A7, nI_clamp (by omega), nI_clamp (by omega), nI_clamp (by omega)]
    exact ⟨rfl, rfl, rfl⟩
  unfold evC
  rw [if_neg (by rw [A3]; decide), if_neg (by rw [A3]; decide), ek.1, ek.2.1, ek.2.2, A8, A9]
  have ec : canC q1 (24 * y + 4 * v + i) (24 * y + 4 * v + j) (6 * y + v) k w = canC q (24 * y + 4 * v + i) (24 * y + 4 * v + j) (6 * y + v) k w := by
    unfold canC leftF
    rw [A1 10 (by omega), A1 11 (by omega), A1 12 (by omega), A1 13 (by omega), A1 14 (by omega), A1 18 (by omega)]
  rw [ec]
  cases canC q (24 * y + 4 * v + i) (24 * y + 4 * v + j) (6 * y + v) k w with
  | false => rfl
  | true => rfl
theorem t_equivalent (hS : RS q p) (hY : RY q p y n) (v a b k : Int32) : RR (cEquivalent q v a b k).2 (mEquivalent p n y v a b k).2 ∧ kO IAE (cEquivalent q v a b k).1 = (mEquivalent p n y v a b k).2 31 0 ∧ ((∃ x : Int32, (cEquivalent q v a b k).1 = .inl (some (.int x)) ∧ (mEquivalent p n y v a b k).1 = x) ∨ (cEquivalent q v a b k).1 = .inr IAE ∨ (cEquivalent q v a b k).1 = .inr ISE) := by
  obtain ⟨hB, hE, hK, hM⟩ := id hY
  obtain ⟨⟨a1, a2, a3, a4⟩, ⟨b1, b2, b3, b4⟩, c1, c2, c3⟩ := id hB
  have bad : gEq v a b k = false → cEquivalent q v a b k = (.inr IAE, q) → RR (cEquivalent q v a b k).2 (mEquivalent p n y v a b k).2 ∧ kO IAE (cEquivalent q v a b k).1 = (mEquivalent p n y v a b k).2 31 0 ∧ ((∃ x : Int32, (cEquivalent q v a b k).1 = .inl (some (.int x)) ∧ (mEquivalent p n y v a b k).1 = x) ∨ (cEquivalent q v a b k).1 = .inr IAE ∨ (cEquivalent q v a b k).1 = .inr ISE) := fun hg hc => by
    have ez : eqZ p n y v a b k = (false, p) := if_neg (by unfold eqN; rw [hg, Bool.false_and]; decide)
    have em : mEquivalent p n y v a b k = (0, qv p 31 0 1) := by
      unfold mEquivalent
      rw [ez, hg]
      rfl
    rw [hc, em]
    exact ⟨RR_ref hS hY 1, kO_1, Or.inr (Or.inl rfl)⟩
  cases h1 : isW v 0 5 with
  | false => exact bad (by rw [gEq_e, h1]; rfl) (by simp [cEquivalent, h1])
  | true =>
  cases h2 : two3 a b with
  | false => exact bad (by rw [gEq_e, h1, h2]; rfl) (by simp [cEquivalent, h1, h2])
  | true =>
  cases h3 : isW k 1 1000 with
  | false => exact bad (by rw [gEq_e, h1, h2, h3]; rfl) (by simp [cEquivalent, h1, h2, h3])
  | true =>
  have hg : gEq v a b k = true := by rw [gEq_e, h1, h2, h3]; rfl
  have bad2 : eqN p v a b k = false → cEquivalent q v a b k = (.inr ISE, q) → RR (cEquivalent q v a b k).2 (mEquivalent p n y v a b k).2 ∧ kO IAE (cEquivalent q v a b k).1 = (mEquivalent p n y v a b k).2 31 0 ∧ ((∃ x : Int32, (cEquivalent q v a b k).1 = .inl (some (.int x)) ∧ (mEquivalent p n y v a b k).1 = x) ∨ (cEquivalent q v a b k).1 = .inr IAE ∨ (cEquivalent q v a b k).1 = .inr ISE) := fun hl hc => by
    have ez : eqZ p n y v a b k = (false, p) := if_neg (by rw [hl]; decide)
    have em : mEquivalent p n y v a b k = (0, qv p 31 0 2) := by
      unfold mEquivalent
      rw [ez, hg]
      rfl
    rw [hc, em]
    exact ⟨RR_ref hS hY 2, kO_2, Or.inr (Or.inr rfl)⟩
  by_cases h7 : q 0 7 = 0
  · exact bad2 (by unfold eqN; rw [hg, b3, ntz_f h7]; rfl) (by simp [cEquivalent, h1, h2, h3, h7])
  by_cases h20 : (200 : Int32) ≤ q 20 9
  · have h20' : ¬ n < 200 := (n2 a4).mp (by rw [← a3]; exact h20)
    exact bad2 (by unfold eqN; rw [hg, b3, ntz_t h7, b2, decide_eq_false (fun h => h20' ((n2' a4).mp h))]; rfl) (by simp [cEquivalent, h1, h2, h3, h7, h20])
  have hn : n < 200 := Classical.byContradiction fun h => h20 (by rw [a3]; exact (n2 a4).mpr h)
  have y1 : 1 ≤ y := b4.resolve_left h7
  have et : tN (q 0 6) = y := by rw [a1]; exact tN_nI (by omega)
  have en : tN (q 20 9) = n := by rw [a3]; exact tN_nI (by omega)
  have hN : eqN p v a b k = true := by unfold eqN; rw [hg, b3, ntz_t h7, b2, decide_eq_true ((n2' a4).mpr hn)]; rfl
  have h2' := h2
  unfold two3 at h2'
  rw [Bool.and_eq_true, Bool.and_eq_true] at h2'
  obtain ⟨o, ho, rfl, eo⟩ := w5 h1
  obtain ⟨i, hi, rfl, ei⟩ := w3 h2'.1
  obtain ⟨j, hj, rfl, ej⟩ := w3 h2'.2.1
  have e32 : p 32 = q 1 := hS.1.1.symm
  have hvb : ∀ s : Nat, s < 4 → 1 ≤ (q 1 s).toInt ∧ (q 1 s).toInt ≤ 1000 := hS.2.2.2.2.2.2.2.2.1
  have hk2 : 1 ≤ k.toInt ∧ k.toInt ≤ 1000 := isW_i.mp h3
  have hw := eq_b hk2 (hvb i hi) (hvb j hj)
  have ez : eqZ p n y (nI o) (nI i) (nI j) k = (mayM (tellM p n 2 (nI y) (nI o) (nI i) (nI j) k (eqF k (q 1 i) (q 1 j))) n, tellM p n 2 (nI y) (nI o) (nI i) (nI j) k (eqF k (q 1 i) (q 1 j))) := by
    unfold eqZ
    rw [if_pos hN, ei, ej, e32]
    rfl
  have ce : cEquivalent q (nI o) (nI i) (nI j) k = if canC q (24 * y + 4 * o + i) (24 * y + 4 * o + j) (6 * y + o) k (eqF k (q 1 i) (q 1 j)) = false then (.inr ISE, q) else (.inl (some (.int (nI n))), wkC (addC q n 2 (nI y) (nI o) (nI i) (nI j) k (eqF k (q 1 i) (q 1 j))) n) := by
    unfold cEquivalent
    rw [if_neg (by rw [h1]; decide), if_neg (by rw [h2]; decide), if_neg (by rw [h3]; decide), if_neg h7, if_neg h20, et, eo, ei, ej, en, a3, a1]
  generalize eqF k (q 1 i) (q 1 j) = w at hw ez ce
  have hA : Ad q (addC q n 2 (nI y) (nI o) (nI i) (nI j) k w) n 2 (nI y) (nI o) (nI i) (nI j) k w := Ad_1
  have hb : EvB (addC q n 2 (nI y) (nI o) (nI i) (nI j) k w) n := by
    obtain ⟨-, -, ⟨A3, A4, A5, A6, A7, A8, A9⟩, -⟩ := hA
    unfold EvB; rw [A3, A8, A9]
    exact ⟨by omega, hw, fun h => absurd h (by decide), Or.inr (Or.inr rfl)⟩
  have hcm := can_eq hY y1 ho hi hj hb
  cases hc : canC q (24 * y + 4 * o + i) (24 * y + 4 * o + j) (6 * y + o) k w with
  | false =>
    rw [hc] at hcm
    rw [if_pos hc] at ce
    have em : mEquivalent p n y (nI o) (nI i) (nI j) k = (0, qv (tellM p n 2 (nI y) (nI o) (nI i) (nI j) k w) 31 0 2) := by
      unfold mEquivalent
      rw [ez, hcm, hg]
      rfl
    rw [ce, em]
    dsimp only
    have T1 : ∀ k' : Nat, k' ≤ 48 → tellM p n 2 (nI y) (nI o) (nI i) (nI j) k w k' = p k' := fun k' hk => tl_k hk
    have T2 : ∀ k' i' : Nat, 49 ≤ k' → k' ≤ 57 → i' ≠ n → tellM p n 2 (nI y) (nI o) (nI i) (nI j) k w k' i' = p k' i' := fun k' i' k1 k2 hi => tl_i k1 k2 hi
    generalize tellM p n 2 (nI y) (nI o) (nI i) (nI j) k w = p0 at T1 T2 ⊢
    refine ⟨⟨RS_p hS fun k k1 k2 => by rw [qv_n (by omega), T1 k (by omega)], y, n, ⟨⟨a1, a2, a3, a4⟩, ⟨?_, ?_, ?_, b4⟩, ?_, ?_, c3⟩, RE_fr hE (fun _ _ _ => rfl) (fun i' hi' k' k1 k2 => by rw [qv_n (by omega)]; exact T2 k' i' k1 (by omega) (by omega)), hK, RM_fr hM (RE_ok hE) rfl (fun k k1 k2 => by rw [qv_n (by omega), T1 k k2]) (fun i' hi' k' k1 k2 => by rw [qv_n (by omega)]; exact T2 k' i' k1 k2 (by omega))⟩, ?_, Or.inr (Or.inr rfl)⟩
    · show p0 31 9 = _; rw [T1 31 (by decide)]; exact b1
    · show p0 31 20 = _; rw [T1 31 (by decide)]; exact b2
    · show p0 31 10 = _; rw [T1 31 (by decide)]; exact b3
    · rw [qv_n (by decide), T1 40 (by decide)]; exact c1
    · rw [qv_n (by decide), T1 41 (by decide)]; exact c2
    · exact kO_2
  | true =>
    rw [hc] at hcm
    rw [if_neg (by rw [hc]; decide)] at ce
    have em : mEquivalent p n y (nI o) (nI i) (nI j) k = (nI n, workM (qv (qv (tellM p n 2 (nI y) (nI o) (nI i) (nI j) k w) 31 0 0) 31 20 (nI (n + 1))) (n + 1) y) := by
      unfold mEquivalent
      rw [ez, hcm, hg]
      rfl
    rw [ce, em]
    dsimp only
    have hT : Tl p (qv (qv (tellM p n 2 (nI y) (nI o) (nI i) (nI j) k w) 31 0 0) 31 20 (nI (n + 1))) n 2 (nI y) (nI o) (nI i) (nI j) k w 0 := Tl_2
    generalize addC q n 2 (nI y) (nI o) (nI i) (nI j) k w = q1 at hA hb ⊢
    generalize qv (qv (tellM p n 2 (nI y) (nI o) (nI i) (nI j) k w) 31 0 0) 31 20 (nI (n + 1)) = P at hT ⊢
    obtain ⟨ev, eyr⟩ := Ad_ev hA a2 ho hi (fun h => absurd h (by decide)) (fun _ _ => ⟨j, rfl, hj⟩)
    have hK2 := RK_wk hK y1 a2 (op_y hB h7) (fun i hi => (hE.1 i hi).1) hA ev
    have hQ : ∀ k : Nat, kpY k = true → wkC q1 n k = q1 k := fun k hk => by
      have hk' : k ≤ 10 ∨ (19 ≤ k ∧ k ≠ 29) := by simpa [kpY] using hk
      exact wkC_k (by omega) (by omega) (by omega) (by omega)
    generalize wkC q1 n = Q at hK2 hQ ⊢
    obtain ⟨r1, r2⟩ := RR_add hS hY hn hA hT (fun _ => rfl) ev (by omega) hb hK2 hQ
    generalize workM P (n + 1) y = P2 at r1 r2 ⊢
    exact ⟨r1, r2.symm, Or.inl ⟨_, rfl, rfl⟩⟩
end EQV
