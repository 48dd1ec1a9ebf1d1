section SH4
variable {q p : Nat → Nat → Int32}
theorem add64 {x y : Int32} : (x.toInt64 + y.toInt64).toInt = x.toInt + y.toInt := by
  have h1 := x.toInt_lt
  have h2 := x.le_toInt
  have h3 := y.toInt_lt
  have h4 := y.le_toInt
  rw [Int64.toInt_add, c64, c64, Int.bmod_eq_of_le (by omega) (by omega)]
theorem owner_nI {v : Nat} (h : RC q) (hv : v < 6) : nI (tN (q 6 v)) = q 6 v ∧ tN (q 6 v) < 6 := by
  obtain ⟨j, hj, e⟩ := h.2.2.2.2.1 v hv
  rw [e, tN_nI (by omega)]
  exact ⟨rfl, hj⟩
theorem p_place (h : RS q p) (s v m : Int32) : RS (cPlace q s v m).2 (mPlace p s v m).2 ∧ kO IAE (cPlace q s v m).1 = (mPlace p s v m).2 31 0 ∧ ((∃ x : Int32, (cPlace q s v m).1 = .inl (some (.int x)) ∧ (mPlace p s v m).1 = x) ∨ (cPlace q s v m).1 = .inr IAE ∨ (cPlace q s v m).1 = .inr ISE) ∧ frQ q (cPlace q s v m).2 ∧ frP p (mPlace p s v m).2 := by
  cases h1 : isW s 0 3 with
  | false =>
    rw [show cPlace q s v m = (.inr IAE, q) by simp [cPlace, h1], show mPlace p s v m = (0, qv p 31 0 1) by simp [mPlace, gPl, rfM, h1]]
    exact ⟨RS_ref h 1, kO_1, Or.inr (Or.inl rfl), frQ_r, frP_ref 1⟩
  | true =>
  cases h2 : isW v 0 5 with
  | false =>
    rw [show cPlace q s v m = (.inr IAE, q) by simp [cPlace, h1, h2], show mPlace p s v m = (0, qv p 31 0 1) by simp [mPlace, gPl, rfM, h2]]
    exact ⟨RS_ref h 1, kO_1, Or.inr (Or.inl rfl), frQ_r, frP_ref 1⟩
  | true =>
    have hg : gPl s v = true := by simp [gPl, h1, h2]
    obtain ⟨t, ht, rfl, et⟩ := w3 h1
    obtain ⟨i, hi, rfl, ei⟩ := w5 h2
    obtain ⟨⟨a1, a2, a3, a4, a5, a6⟩, a7, a8, b1, b2, b3, b4, b5, b6, b7, b8⟩ := id h
    obtain ⟨o, ho, eo⟩ := b5 i hi
    have eo2 : tN (nI o) = o := tN_nI (by omega)
    have hP := b1 t ht
    have hpo := pt_le hP ho
    have hfr := freeC_I (q := q) (o := o) b3 ht hpo.2 (b4 t o ht ho)
    have hf6 := hfr 6 (Nat.le_refl _)
    have h8 := b3 (6 * t + i) (by omega)
    -- what is placed there is no more than the owner holds
    have h8b : (q 8 (6 * t + i)).toInt ≤ plI q t o 6 := by
      have g1 := hfr i (by omega)
      have g2 := hfr (i + 1) (by omega)
      rw [plI_s, if_pos eo] at g2
      omega
    have ec : cPlace q (nI t) (nI i) m = if m ≤ freeC (q 7) (q 6) (q 8) t (nI o) (q 7 (6 * t + o)) 6 then (if -(q 8 (6 * t + i)) ≤ m then (.inl (some (.int (q 8 (6 * t + i) + m))), qv q 8 (6 * t + i) (q 8 (6 * t + i) + m)) else (.inr ISE, q)) else (.inr ISE, q) := by
      simp only [cPlace, h1, h2, et, ei, eo, eo2, Bool.true_eq_false, if_false]
    have er : plR p (nI t) (nI i) m = (decide (m ≤ freeC (q 7) (q 6) (q 8) t (nI o) (q 7 (6 * t + o)) 6) && decide (-(q 8 (6 * t + i)) ≤ m)) := by
      unfold plR
      rw [hg, et, ei, ← a4, eo, eo2, free_eq h, ← a5, ← a6, Bool.true_and]
      congr 1
      rw [decide_eq_decide, leI, Int64.le_iff_toInt_le, add64, negI (by omega), show (0 : Int64).toInt = 0 from rfl]
      omega
    rw [ec]
    by_cases c1 : m ≤ freeC (q 7) (q 6) (q 8) t (nI o) (q 7 (6 * t + o)) 6
    case neg =>
      rw [if_neg c1, show mPlace p (nI t) (nI i) m = (0, qv p 31 0 2) by simp [mPlace, hg, er, rfM, c1]]
      exact ⟨RS_ref h 2, kO_2, Or.inr (Or.inr rfl), frQ_r, frP_ref 2⟩
    case pos =>
    rw [if_pos c1]
    by_cases c2 : -(q 8 (6 * t + i)) ≤ m
    case neg =>
      rw [if_neg c2, show mPlace p (nI t) (nI i) m = (0, qv p 31 0 2) by simp [mPlace, hg, er, rfM, c2]]
      exact ⟨RS_ref h 2, kO_2, Or.inr (Or.inr rfl), frQ_r, frP_ref 2⟩
    case pos =>
    rw [if_pos c2]
    have em : mPlace p (nI t) (nI i) m = (q 8 (6 * t + i) + m, qv (qv p 31 0 0) 37 (6 * t + i) (q 8 (6 * t + i) + m)) := by
      have hs : (!gPl (nI t) (nI i) || !plR p (nI t) (nI i) m) = false := by rw [hg, er, decide_eq_true c1, decide_eq_true c2]; rfl
      have hr : rfM (!gPl (nI t) (nI i)) (!plR p (nI t) (nI i) m) = 0 := by rw [hg, er, decide_eq_true c1, decide_eq_true c2]; rfl
      unfold mPlace
      rw [if_neg (by rw [hs]; decide), hr, et, ei]
      show (upd (p 37) (6 * t + i) (p 37 (6 * t + i) + m) (6 * t + i), qv (qv p 31 0 0) 37 (6 * t + i) (p 37 (6 * t + i) + m)) = _
      rw [pk_us, a6]
    rw [em]
    rw [leI, hf6.1] at c1
    rw [leI, negI (by omega)] at c2
    have hx : (q 8 (6 * t + i) + m).toInt = (q 8 (6 * t + i)).toInt + m.toInt := addI (by omega) (by omega)
    dsimp only
    refine ⟨⟨⟨a1, a2, a3, a4, a5, ?_⟩, a7, a8, b1, b2, ?_, ?_, b5, b6, b7, b8⟩, rfl, Or.inl ⟨_, rfl, rfl⟩, fun k hk => qv_n (by omega), fun k hk => by rw [qv_n (by omega), qv_n (by omega)], rfl, rfl, rfl⟩
    · show upd (q 8) _ _ = upd (p 37) _ _; rw [a6]
    · intro k hk
      show 0 ≤ (upd (q 8) (6 * t + i) (q 8 (6 * t + i) + m) k).toInt
      by_cases e : k = 6 * t + i
      · rw [e, pk_us, hx]; omega
      · rw [pk_un e]; exact b3 k hk
    · intro s o' hs ho'
      have h9 := b4 s o' hs ho'
      rw [plI_I] at h9 ⊢
      show sI (fun v => upd (q 8) (6 * t + i) (q 8 (6 * t + i) + m) (6 * s + v)) (fun v => decide (q 6 v = nI o')) 6 ≤ (q 7 (6 * s + o')).toInt
      by_cases e : s = t
      · subst e
        rw [sI_f (f' := upd (fun v => q 8 (6 * s + v)) i (q 8 (6 * s + i) + m)) (fun k hk => by rw [upd_in hi hk, if_pos rfl]) 6 (Nat.le_refl _), sI_upd6 hi, hx]
        by_cases c : q 6 i = nI o'
        · have e2 : o' = o := by
            rw [eo] at c
            exact ((nI_inj (by omega) (by omega)).mp c).symm
          rw [if_pos (decide_eq_true c)]
          have h10 := plI_I (q := q) (s := s) (o := o) 6
          rw [e2] at h9 ⊢
          omega
        · rw [if_neg (by rw [decide_eq_false c]; decide)]; omega
      · rw [sI_f (f' := fun v => q 8 (6 * s + v)) (fun k hk => by rw [upd_in hi hk, if_neg e]) 6 (Nat.le_refl _)]
        exact h9
theorem p_held (h : RS q p) (s o w : Int32) : RS (cHeld q s o w).2 (mHeld p s o w).2 ∧ kO IAE (cHeld q s o w).1 = (mHeld p s o w).2 31 0 ∧ ((∃ x : Int32, (cHeld q s o w).1 = .inl (some (.int x)) ∧ (mHeld p s o w).1 = x) ∨ (cHeld q s o w).1 = .inr IAE) ∧ frQ q (cHeld q s o w).2 ∧ frP p (mHeld p s o w).2 := by
  cases h1 : isW s 0 3 with
  | false =>
    rw [show cHeld q s o w = (.inr IAE, q) by simp [cHeld, h1], show mHeld p s o w = (0, qv p 31 0 1) by simp [mHeld, gHe, rfM, h1]]
    exact ⟨RS_ref h 1, kO_1, Or.inr rfl, frQ_r, frP_ref 1⟩
  | true =>
  cases h2 : isW o 0 5 with
  | false =>
    rw [show cHeld q s o w = (.inr IAE, q) by simp [cHeld, h1, h2], show mHeld p s o w = (0, qv p 31 0 1) by simp [mHeld, gHe, rfM, h2]]
    exact ⟨RS_ref h 1, kO_1, Or.inr rfl, frQ_r, frP_ref 1⟩
  | true =>
  cases h3 : isW w 0 2 with
  | false =>
    rw [show cHeld q s o w = (.inr IAE, q) by simp [cHeld, h1, h2, h3], show mHeld p s o w = (0, qv p 31 0 1) by simp [mHeld, gHe, rfM, h3]]
    exact ⟨RS_ref h 1, kO_1, Or.inr rfl, frQ_r, frP_ref 1⟩
  | true =>
    have hg : gHe s o w = false := by simp [gHe, h1, h2, h3]
    obtain ⟨t, ht, rfl, et⟩ := w3 h1
    obtain ⟨i, hi, rfl, ei⟩ := w5 h2
    obtain ⟨k, hk, rfl, ek⟩ := w2 h3
    obtain ⟨⟨a1, a2, a3, a4, a5, a6⟩, a7, a8, b1, b2, b3, b4, b5, b6, b7, b8⟩ := id h
    rw [show cHeld q (nI t) (nI i) (nI k) = (.inl (some (.int (hdC q t i k))), q) by simp [cHeld, h1, h2, h3, et, ei, ek]]
    have em : mHeld p (nI t) (nI i) (nI k) = if nI k = 0 then (p 36 (6 * t + i), qv p 31 0 0) else if nI k = 1 then (freeM p t (nI i) (p 36 (6 * t + i)) 6, qv p 31 0 0) else (ogM (qv p 31 0 0) t (nI i), gaM (qv p 31 0 0) (nI i)) := by
      have hr : rfM (gHe (nI t) (nI i) (nI k)) false = 0 := by rw [hg]; rfl
      unfold mHeld
      rw [if_neg (by rw [hg]; decide), hr, et, ei]
    rw [em]
    match k, hk with
    | 0, _ =>
      rw [if_pos (show nI 0 = 0 by decide)]
      exact ⟨RS_ref h 0, rfl, Or.inl ⟨_, rfl, by rw [← a5]; rfl⟩, frQ_r, frP_ref 0⟩
    | 1, _ =>
      rw [if_neg (show ¬ nI 1 = 0 by decide), if_pos (show nI 1 = 1 by decide)]
      exact ⟨RS_ref h 0, rfl, Or.inl ⟨_, rfl, by rw [free_eq h, ← a5]; rfl⟩, frQ_r, frP_ref 0⟩
    | 2, _ =>
      rw [if_neg (show ¬ nI 2 = 0 by decide), if_neg (show ¬ nI 2 = 1 by decide)]
      have eg : ogM (qv p 31 0 0) t (nI i) = sumC q t (grpC (q 5) i) 6 := by
        rw [ogM_B hi, sumG_B hi, show (fun k => qv p 31 0 0 36 (6 * t + k)) = pt q t by unfold pt; rw [a5]; rfl]
        exact sB_e (fun b hb => (grp_L (L := LC (q 5)) (L' := LM (qv p 31 0 0)) a7 hi b hb).symm) 6 (Nat.le_refl _)
      have e9 : ∀ k : Nat, k ≠ 31 → k ≠ 39 → gaM (qv p 31 0 0) (nI i) k = p k := fun k k1 k2 => (gaM_k k2).trans (qv_n k1)
      have e31 : gaM (qv p 31 0 0) (nI i) 31 = qv p 31 0 0 31 := gaM_k (by decide)
      have key : ∀ (x : Int32) (p' : Nat → Nat → Int32), x = sumC q t (grpC (q 5) i) 6 → (∀ k : Nat, k ≠ 31 → k ≠ 39 → p' k = p k) → p' 31 = qv p 31 0 0 31 → RS q p' ∧ kO IAE (.inl (some (.int (hdC q t i 2)))) = p' 31 0 ∧ ((∃ x' : Int32, (.inl (some (.int (hdC q t i 2))) : Option Value ⊕ String) = .inl (some (.int x')) ∧ x = x') ∨ (.inl (some (.int (hdC q t i 2))) : Option Value ⊕ String) = .inr IAE) ∧ frQ q q ∧ frP p p' := by
        intro x p' h1 h2 h3
        refine ⟨RS_p h fun k k1 k2 => h2 k (by omega) (by omega), ?_, Or.inl ⟨_, rfl, h1⟩, frQ_r, fun k hk => h2 k (by omega) (by omega), ?_, ?_, ?_⟩
        · rw [h3]; rfl
        · rw [h3]; rfl
        · rw [h3]; rfl
        · rw [h3]; rfl
      have k9 := key (ogM (qv p 31 0 0) t (nI i)) (gaM (qv p 31 0 0) (nI i)) eg e9 e31
      revert k9
      generalize ogM (qv p 31 0 0) t (nI i) = x9
      generalize gaM (qv p 31 0 0) (nI i) = p9
      intro k9
      exact k9
    | k + 3, h => exact absurd h (by omega)
end SH4
