section SH2
variable {q p : Nat → Nat → Int32}
theorem lk1_s {n : Nat} : lkM (n + 1) p = lk1 n (lkM n p) := rfl
theorem lkM_k {k : Nat} (h : k ≠ 39) : ∀ n : Nat, (lkM n p).2 k = p k
  | 0 => rfl
  | n + 1 => by
    rw [lk1_s]
    unfold lk1
    split
    · rw [ftM_k h 6]; exact lkM_k h n
    · exact lkM_k h n
theorem lkM_t : ∀ n : Nat, ((lkM n p).1 = true ↔ ∀ s : Nat, s < n → (ftM s (p 33 s) 6 p).1 = true)
  | 0 => ⟨fun _ s h => absurd h (Nat.not_lt_zero _), fun _ => rfl⟩
  | n + 1 => by
    have ih := lkM_t n
    have e : (ftM n ((lkM n p).2 33 n) 6 (lkM n p).2).1 = true ↔ (ftM n (p 33 n) 6 p).1 = true := by
      rw [ftM_t 6 (Nat.le_refl _), ftM_t 6 (Nat.le_refl _), lkM_k (by decide), lkM_k (by decide), LM_k (lkM_k (by decide) n)]
    rw [lk1_s]
    unfold lk1
    by_cases c : (lkM n p).1 = true
    · rw [if_pos c, e]
      constructor
      · intro h s hs
        by_cases e2 : s = n
        · rw [e2]; exact h
        · exact ih.mp c s (by omega)
      · intro h; exact h n (by omega)
    · rw [if_neg c]
      constructor
      · intro h; exact absurd h c
      · intro h; exact absurd (ih.mpr fun s hs => h s (by omega)) c
theorem upd_back {f : Nat → Int32} {i j : Nat} {x y : Int32} (h1 : f i = y) (h2 : f j = y) : upd (upd (upd (upd f i x) j x) i y) j y = f := by
  funext k
  by_cases e1 : k = j
  · rw [e1, pk_us, h2]
  · rw [pk_un e1]
    by_cases e2 : k = i
    · rw [e2, pk_us, h1]
    · rw [pk_un e2, pk_un e1, pk_un e2]
theorem gLk_two (a b : Int32) : gLk a b = !two5 a b := by
  unfold gLk two5
  cases isW a 0 5 <;> cases isW b 0 5 <;> cases decide (a = b) <;> rfl
theorem p_link (h : RS q p) (a b : Int32) : RS (cLink q a b).2 (mLink p a b) ∧ kO IAE (cLink q a b).1 = mLink p a b 31 0 ∧ ((cLink q a b).1 = .inl none ∨ (cLink q a b).1 = .inr IAE ∨ (cLink q a b).1 = .inr ISE) ∧ frQ q (cLink q a b).2 ∧ frP p (mLink p a b) := by
  cases h1 : two5 a b with
  | false =>
    rw [show cLink q a b = (.inr IAE, q) by simp [cLink, h1], show mLink p a b = qv p 31 0 1 by simp [mLink, gLk_two, rfM, h1]]
    exact ⟨RS_ref h 1, kO_1, Or.inr (Or.inl rfl), frQ_r, frP_ref 1⟩
  | true =>
    obtain ⟨g1, g2, g3⟩ := two5_t h1
    obtain ⟨i, hi, rfl, ei⟩ := w5 g1
    obtain ⟨j, hj, rfl, ej⟩ := w5 g2
    have hij : i ≠ j := fun e => g3 (by rw [e])
    have em : mLink p (nI i) (nI j) = lkE p i j (p 38 (6 * i + j)) (lkM 4 (slM (qv p 31 0 0) i j 1)) := by simp [mLink, gLk_two, rfM, h1, ei, ej]
    rw [em]
    obtain ⟨⟨a1, a2, a3, a4, a5, a6⟩, a7, a8, b1, b2, b3, b4, b5, b6, b7, b8⟩ := id h
    -- the links with the new one
    have hLC : ∀ x y : Nat, x < 6 → y < 6 → LC (lkJ (q 5) i j) x y = lkA (LC (q 5)) i j x y := fun x y hx hy => LC_join hi hj hij hx hy
    have hLM : ∀ x y : Nat, x < 6 → y < 6 → LC (lkJ (q 5) i j) x y = LM (slM (qv p 31 0 0) i j 1) x y := fun x y hx hy => by
      rw [hLC x y hx hy, show (1 : Int32) = bI true from rfl, LM_set hi hj hx hy, LM_k (p' := qv p 31 0 0) (p := p) rfl, ← a7 x y hx hy]
      unfold lkA
      by_cases e : (x = i ∧ y = j) ∨ (x = j ∧ y = i)
      · rw [if_pos e]; rcases e with ⟨rfl, rfl⟩ | ⟨rfl, rfl⟩ <;> simp
      · rw [if_neg e]
        rw [not_or] at e
        have e1 : (decide (x = i) && decide (y = j)) = false := by rw [← Bool.decide_and]; exact decide_eq_false e.1
        have e2 : (decide (x = j) && decide (y = i)) = false := by rw [← Bool.decide_and]; exact decide_eq_false e.2
        rw [e1, e2]; simp
    have hgj : ∀ k : Nat, k < 6 → Eq6 (grp (LC (lkJ (q 5) i j)) k) (fun x => if (grp (LC (q 5)) i k || grp (LC (q 5)) j k) = true then grp (LC (q 5)) i x || grp (LC (q 5)) j x else grp (LC (q 5)) k x) := fun k hk x hx => by
      rw [grp_L hLC hk x hx]; exact grp_join b8 hi hj hk x hx
    -- when every group keeps its cap
    have hcap : ∀ s : Nat, s < 4 → ((∀ k : Nat, k < 6 → sI (pt q s) (grp (LC (lkJ (q 5) i j)) k) 6 ≤ (q 4 s).toInt) ↔ sI (pt q s) (fun x => grp (LC (q 5)) i x || grp (LC (q 5)) j x) 6 ≤ (q 4 s).toInt) := by
      intro s hs
      constructor
      · intro hh
        have h2 := hh i hi
        rw [sI_e (hgj i hi) 6 (Nat.le_refl _)] at h2
        simpa [(grp_C (L := LC (q 5)) hi).1] using h2
      · intro hh k hk
        rw [sI_e (hgj k hk) 6 (Nat.le_refl _)]
        by_cases c : (grp (LC (q 5)) i k || grp (LC (q 5)) j k) = true
        · simp only [c, if_true]; exact hh
        · simp only [c, if_false, Bool.false_eq_true]; exact b2 s k hs hk
    have hjC : ∀ s : Nat, s < 4 → (joinC q (grpC (q 5) i ||| grpC (q 5) j) s = true ↔ ¬ sI (pt q s) (fun x => grp (LC (q 5)) i x || grp (LC (q 5)) j x) 6 ≤ (q 4 s).toInt) := by
      intro s hs
      unfold joinC
      rw [decide_eq_true_eq, ltI, sumC_B, sB_I (b1 s hs) 6 (Nat.le_refl _), sI_e (h := fun x => grp (LC (q 5)) i x || grp (LC (q 5)) j x) (fun x hx => by show gM _ x = _; rw [gM_or, show ntz (grpC (q 5) j &&& bt x) = gM (grpC (q 5) j) x from rfl, grpC_g hi x hx, grpC_g hj x hx]) 6 (Nat.le_refl _)]
      omega
    have hft : (lkM 4 (slM (qv p 31 0 0) i j 1)).1 = true ↔ ∀ s : Nat, s < 4 → sI (pt q s) (fun x => grp (LC (q 5)) i x || grp (LC (q 5)) j x) 6 ≤ (q 4 s).toInt := by
      rw [lkM_t]
      have key : ∀ s : Nat, s < 4 → ((ftM s (slM (qv p 31 0 0) i j 1 33 s) 6 (slM (qv p 31 0 0) i j 1)).1 = true ↔ sI (pt q s) (fun x => grp (LC (q 5)) i x || grp (LC (q 5)) j x) 6 ≤ (q 4 s).toInt) := by
        intro s hs
        rw [← hcap s hs, ftM_t 6 (Nat.le_refl _)]
        have e33 : slM (qv p 31 0 0) i j 1 33 = q 4 := by rw [slM_k (by decide)]; exact a2.symm
        have e36 : slM (qv p 31 0 0) i j 1 36 = q 7 := by rw [slM_k (by decide)]; exact a5.symm
        have k2 : ∀ k : Nat, k < 6 → (sB (fun o => slM (qv p 31 0 0) i j 1 36 (6 * s + o)) (grp (LM (slM (qv p 31 0 0) i j 1)) k) 6 ≤ slM (qv p 31 0 0) i j 1 33 s ↔ sI (pt q s) (grp (LC (lkJ (q 5) i j)) k) 6 ≤ (q 4 s).toInt) := fun k hk => by
          rw [e33, e36, leI, sB_I (f := fun o => q 7 (6 * s + o)) (b1 s hs) 6 (Nat.le_refl _), sI_e (grp_L hLM hk) 6 (Nat.le_refl _)]
        exact ⟨fun hh k hk => (k2 k hk).mp (hh k hk), fun hh k hk => (k2 k hk).mpr (hh k hk)⟩
      exact ⟨fun hh s hs => (key s hs).mp (hh s hs), fun hh s hs => (key s hs).mpr (hh s hs)⟩
    have hz2 : ∀ k : Nat, k ≠ 39 → (lkM 4 (slM (qv p 31 0 0) i j 1)).2 k = slM (qv p 31 0 0) i j 1 k := fun k hk => lkM_k hk 4
    revert hft hz2
    generalize lkM 4 (slM (qv p 31 0 0) i j 1) = z
    obtain ⟨z1, z2⟩ := z
    intro hft hz2
    dsimp only at hft hz2
    cases z1 with
    | true =>
      have hok := hft.mp rfl
      have ha : anyF (joinC q (grpC (q 5) i ||| grpC (q 5) j)) 4 = false := by
        cases e : anyF (joinC q (grpC (q 5) i ||| grpC (q 5) j)) 4 with
        | false => rfl
        | true =>
          obtain ⟨s, hs, h2⟩ := (anyF_iff 4).mp e
          exact absurd (hok s hs) ((hjC s hs).mp h2)
      rw [show cLink q (nI i) (nI j) = (.inl none, qw q 5 (lkJ (q 5) i j)) by simp [cLink, h1, ei, ej, ha], show lkE p i j (p 38 (6 * i + j)) (true, z2) = qv z2 31 0 0 by simp [lkE, rfM]]
      have e9 : ∀ k : Nat, 32 ≤ k → k ≠ 39 → qv z2 31 0 0 k = slM (qv p 31 0 0) i j 1 k := fun k hk h9 => by rw [qv_n (by omega), hz2 k h9]
      refine ⟨⟨⟨?_, ?_, ?_, ?_, ?_, ?_⟩, ?_, ?_, b1, ?_, b3, b4, b5, b6, b7, ?_⟩, rfl, Or.inl rfl, fun k hk => qw_n (by omega), ?_, ?_, ?_, ?_⟩
      · rw [e9 32 (by decide) (by decide)]; exact a1
      · rw [e9 33 (by decide) (by decide)]; exact a2
      · rw [e9 34 (by decide) (by decide)]; exact a3
      · rw [e9 35 (by decide) (by decide)]; exact a4
      · rw [e9 36 (by decide) (by decide)]; exact a5
      · rw [e9 37 (by decide) (by decide)]; exact a6
      · intro x y hx hy
        rw [LM_k (e9 38 (by decide) (by decide))]
        exact hLM x y hx hy
      · rw [e9 38 (by decide) (by decide)]
        exact slM_b (z := true) a8
      · intro s o hs ho
        exact (hcap s hs).mpr (hok s hs) o ho
      · intro x y hx hy
        show LC (lkJ (q 5) i j) x y = LC (lkJ (q 5) i j) y x
        rw [hLC x y hx hy, hLC y x hy hx]
        unfold lkA
        rw [b8 x y hx hy]
        congr 1
        rw [Bool.or_comm, Bool.and_comm, Bool.and_comm (decide (x = i))]
      · intro k hk
        by_cases e : k = 39
        · omega
        · rw [e9 k (by omega) e, slM_k (by omega), qv_n (by omega)]
      · show z2 31 9 = _; rw [hz2 31 (by decide)]; rfl
      · show z2 31 10 = _; rw [hz2 31 (by decide)]; rfl
      · show z2 31 20 = _; rw [hz2 31 (by decide)]; rfl
    | false =>
      have ha : anyF (joinC q (grpC (q 5) i ||| grpC (q 5) j)) 4 = true := by
        have h3 : ¬ ∀ s : Nat, s < 4 → sI (pt q s) (fun x => grp (LC (q 5)) i x || grp (LC (q 5)) j x) 6 ≤ (q 4 s).toInt := fun hh => absurd (hft.mpr hh) (by decide)
        obtain ⟨s, hs⟩ := Classical.not_forall.mp h3
        obtain ⟨hs, h4⟩ := Classical.not_imp.mp hs
        exact anyF_t hs ((hjC s hs).mpr h4)
      rw [show cLink q (nI i) (nI j) = (.inr ISE, q) by simp [cLink, h1, ei, ej, ha], show lkE p i j (p 38 (6 * i + j)) (false, z2) = slM (qv z2 31 0 2) i j (p 38 (6 * i + j)) by simp [lkE, rfM]]
      have e38 : slM (qv z2 31 0 2) i j (p 38 (6 * i + j)) 38 = p 38 := by
        show upd (upd (z2 38) (6 * i + j) (p 38 (6 * i + j))) (6 * j + i) (p 38 (6 * i + j)) = p 38
        rw [hz2 38 (by decide)]
        show upd (upd (upd (upd (p 38) (6 * i + j) 1) (6 * j + i) 1) (6 * i + j) (p 38 (6 * i + j))) (6 * j + i) (p 38 (6 * i + j)) = p 38
        refine upd_back rfl ?_
        have h5 : LM p j i = LM p i j := by rw [← a7 j i hj hi, ← a7 i j hi hj]; exact b8 j i hj hi
        unfold LM at h5
        obtain ⟨x1, e1⟩ := a8 (6 * j + i)
        obtain ⟨x2, e2⟩ := a8 (6 * i + j)
        rw [e1, e2, ntz_bI, ntz_bI] at h5
        rw [e1, e2, h5]
      have e9 : ∀ k : Nat, k ≠ 31 → k ≠ 39 → slM (qv z2 31 0 2) i j (p 38 (6 * i + j)) k = p k := fun k h8 h9 => by
        by_cases e : k = 38
        · rw [e]; exact e38
        · rw [slM_k e, qv_n h8, hz2 k h9, slM_k e, qv_n h8]
      refine ⟨RS_p h fun k k1 k2 => e9 k (by omega) (by omega), ?_, Or.inr (Or.inr rfl), frQ_r, fun k hk => e9 k (by omega) (by omega), ?_, ?_, ?_⟩
      · rw [slM_k (by decide)]; exact kO_2
      · show z2 31 9 = _; rw [hz2 31 (by decide)]; rfl
      · show z2 31 10 = _; rw [hz2 31 (by decide)]; rfl
      · show z2 31 20 = _; rw [hz2 31 (by decide)]; rfl
end SH2
