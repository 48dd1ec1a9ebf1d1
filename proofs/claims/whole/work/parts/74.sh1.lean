/-! the shares' calls, class against reference, first part -/
theorem kO_1 {E : String} : kO E (.inr E) = 1 := if_pos rfl
theorem kO_2 : kO IAE (.inr ISE) = 2 := by decide
theorem kO_3 : kO IOE (.inr ISE) = 2 := by decide
theorem kO_4 : kO IOE (.inr IAE) = 2 := by decide
theorem anyF_iff {f : Nat → Bool} : ∀ n : Nat, (anyF f n = true ↔ ∃ i : Nat, i < n ∧ f i = true)
  | 0 => ⟨fun h => Bool.noConfusion h, fun h => by obtain ⟨i, h, -⟩ := h; exact absurd h (Nat.not_lt_zero _)⟩
  | n + 1 => by
    have ih := anyF_iff (f := f) n
    constructor
    · intro h
      simp only [anyF, Bool.or_eq_true] at h
      rcases h with h | h
      · obtain ⟨i, hi, h2⟩ := ih.mp h
        exact ⟨i, by omega, h2⟩
      · exact ⟨n, by omega, h⟩
    · intro ⟨i, hi, h2⟩
      exact anyF_t hi h2
section SH
variable {q p : Nat → Nat → Int32}
theorem RS_ref (h : RS q p) (x : Int32) : RS q (qv p 31 0 x) := RS_p h fun k h1 h2 => qv_n (by omega)
theorem frP_ref (x : Int32) : frP p (qv p 31 0 x) := ⟨fun k h => qv_n (by omega), rfl, rfl, rfl⟩
/-- the state behind fits, with the thrown field set -/
theorem RS_ft {s : Nat} {cap x : Int32} (h : RS q p) : RS q (qv (ftM s cap 6 p).2 31 0 x) := RS_p h fun k h1 h2 => by rw [qv_n (by omega), ftM_k (by omega) 6]
theorem frP_ft {s : Nat} {cap x : Int32} : frP p (qv (ftM s cap 6 p).2 31 0 x) := by
  refine ⟨fun k h => by rw [qv_n (by omega), ftM_k (by omega) 6], ?_, ?_, ?_⟩
  · show (ftM s cap 6 p).2 31 9 = _; rw [ftM_k (by decide) 6]
  · show (ftM s cap 6 p).2 31 10 = _; rw [ftM_k (by decide) 6]
  · show (ftM s cap 6 p).2 31 20 = _; rw [ftM_k (by decide) 6]
theorem more_iff (h : RS q p) {s : Nat} {cap : Int32} (hs : s < 4) : anyF (moreC q s cap) 6 = true ↔ ¬ (ftM s cap 6 p).1 = true := by
  rw [anyF_iff, RS_fits hs h]
  have key : ∀ o : Nat, o < 6 → (moreC q s cap o = true ↔ ¬ sI (pt q s) (grp (LC (q 5)) o) 6 ≤ cap.toInt) := fun o ho => by
    unfold moreC
    rw [decide_eq_true_eq, ltI, sumG_B ho, sB_I (h.2.2.2.1 s hs) 6 (Nat.le_refl _)]
    omega
  constructor
  · intro ⟨o, ho, h1⟩ h2
    exact (key o ho).mp h1 (h2 o ho)
  · intro h2
    obtain ⟨o, ho⟩ := Classical.not_forall.mp h2
    obtain ⟨ho, h3⟩ := Classical.not_imp.mp ho
    exact ⟨o, ho, (key o ho).mpr h3⟩
theorem p_species (h : RS q p) (s v c : Int32) : RS (cSpecies q s v c).2 (mSpecies p s v c) ∧ kO IAE (cSpecies q s v c).1 = mSpecies p s v c 31 0 ∧ ((cSpecies q s v c).1 = .inl none ∨ (cSpecies q s v c).1 = .inr IAE) ∧ frQ q (cSpecies q s v c).2 ∧ frP p (mSpecies p s v c) := by
  cases h1 : isW s 0 3 with
  | false =>
    rw [show cSpecies q s v c = (.inr IAE, q) by simp [cSpecies, h1], show mSpecies p s v c = qv p 31 0 1 by simp [mSpecies, gSp, h1]]
    exact ⟨RS_ref h 1, kO_1, Or.inr rfl, frQ_r, frP_ref 1⟩
  | true =>
  cases h2 : isW v 1 1000 with
  | false =>
    rw [show cSpecies q s v c = (.inr IAE, q) by simp [cSpecies, h1, h2], show mSpecies p s v c = qv p 31 0 1 by simp [mSpecies, gSp, h2]]
    exact ⟨RS_ref h 1, kO_1, Or.inr rfl, frQ_r, frP_ref 1⟩
  | true =>
  cases h3 : isW c 0 1000000 with
  | false =>
    rw [show cSpecies q s v c = (.inr IAE, q) by simp [cSpecies, h1, h2, h3], show mSpecies p s v c = qv p 31 0 1 by simp [mSpecies, gSp, h3]]
    exact ⟨RS_ref h 1, kO_1, Or.inr rfl, frQ_r, frP_ref 1⟩
  | true =>
    obtain ⟨j, hj, rfl, ej⟩ := w3 h1
    have hm := more_iff h (cap := c) hj
    by_cases f : (ftM j c 6 p).1 = true
    · have ha : anyF (moreC q j c) 6 = false := by
        cases e : anyF (moreC q j c) 6 with
        | false => rfl
        | true => exact absurd f (hm.mp e)
      rw [show cSpecies q (nI j) v c = (.inl none, qv (qv q 1 j v) 4 j c) by simp [cSpecies, h1, h2, h3, ej, ha], show mSpecies p (nI j) v c = qv (qv (qv (ftM j c 6 p).2 31 0 0) 32 j v) 33 j c by simp [mSpecies, gSp, h1, h2, h3, ej, f]]
      have hf := (RS_fits hj h).mp f
      have hv : 1 ≤ v.toInt ∧ v.toInt ≤ 1000 := isW_i.mp h2
      obtain ⟨⟨a1, a2, a3, a4, a5, a6⟩, a7, a8, b1, b2, b3, b4, b5, b6, b7, b8⟩ := RS_ft (s := j) (cap := c) (x := 0) h
      refine ⟨⟨⟨?_, ?_, a3, a4, a5, a6⟩, a7, a8, b1, ?_, b3, b4, b5, ?_, b7, b8⟩, rfl, Or.inl rfl, ?_, ?_⟩
      · show upd (q 1) j v = upd ((qv (ftM j c 6 p).2 31 0 0) 32) j v; rw [a1]
      · show upd (q 4) j c = upd ((qv (ftM j c 6 p).2 31 0 0) 33) j c; rw [a2]
      · intro s o hs ho
        show sI (pt q s) (grp (LC (q 5)) o) 6 ≤ (upd (q 4) j c s).toInt
        by_cases e : s = j
        · rw [e, pk_us]; exact hf o ho
        · rw [pk_un e]; exact b2 s o hs ho
      · intro s hs
        show 1 ≤ (upd (q 1) j v s).toInt ∧ (upd (q 1) j v s).toInt ≤ 1000
        by_cases e : s = j
        · rw [e, pk_us]; exact hv
        · rw [pk_un e]; exact b6 s hs
      · intro k hk
        show qv (qv q 1 j v) 4 j c k = q k
        rw [qv_n (by omega), qv_n (by omega)]
      · obtain ⟨f1, f2, f3, f4⟩ := frP_ft (p := p) (s := j) (cap := c) (x := 0)
        exact ⟨fun k hk => by rw [qv_n (by omega), qv_n (by omega)]; exact f1 k hk, f2, f3, f4⟩
    · rw [show cSpecies q (nI j) v c = (.inr IAE, q) by simp [cSpecies, h1, h2, h3, ej, hm.mpr f], show mSpecies p (nI j) v c = qv (ftM j c 6 p).2 31 0 1 by simp [mSpecies, gSp, h1, h2, h3, ej, f]]
      exact ⟨RS_ft h, kO_1, Or.inr rfl, frQ_r, frP_ft⟩
theorem p_factor (h : RS q p) (s f t : Int32) : RS (cFactor q s f t).2 (mFactor p s f t) ∧ kO IAE (cFactor q s f t).1 = mFactor p s f t 31 0 ∧ ((cFactor q s f t).1 = .inl none ∨ (cFactor q s f t).1 = .inr IAE) ∧ frQ q (cFactor q s f t).2 ∧ frP p (mFactor p s f t) := by
  cases h1 : isW s 0 3 with
  | false =>
    rw [show cFactor q s f t = (.inr IAE, q) by simp [cFactor, h1], show mFactor p s f t = qv p 31 0 1 by simp [mFactor, gFa, rfM, h1]]
    exact ⟨RS_ref h 1, kO_1, Or.inr rfl, frQ_r, frP_ref 1⟩
  | true =>
  cases h2 : isW f 0 2 with
  | false =>
    rw [show cFactor q s f t = (.inr IAE, q) by simp [cFactor, h1, h2], show mFactor p s f t = qv p 31 0 1 by simp [mFactor, gFa, rfM, h2]]
    exact ⟨RS_ref h 1, kO_1, Or.inr rfl, frQ_r, frP_ref 1⟩
  | true =>
  cases h3 : isW t 0 5000 with
  | false =>
    rw [show cFactor q s f t = (.inr IAE, q) by simp [cFactor, h1, h2, h3], show mFactor p s f t = qv p 31 0 1 by simp [mFactor, gFa, rfM, h3]]
    exact ⟨RS_ref h 1, kO_1, Or.inr rfl, frQ_r, frP_ref 1⟩
  | true =>
    rw [show cFactor q s f t = (.inl none, qv q 2 (3 * tN s + tN f) t) by simp [cFactor, h1, h2, h3], show mFactor p s f t = qv (qv p 31 0 0) 34 (3 * tN s + tN f) t by simp [mFactor, gFa, rfM, h1, h2, h3]]
    obtain ⟨⟨a1, a2, a3, a4, a5, a6⟩, a7, a8, b1, b2, b3, b4, b5, b6, b7, b8⟩ := h
    refine ⟨⟨⟨a1, a2, ?_, a4, a5, a6⟩, a7, a8, b1, b2, b3, b4, b5, b6, ?_, b8⟩, rfl, Or.inl rfl, fun k hk => qv_n (by omega), fun k hk => by rw [qv_n (by omega), qv_n (by omega)], rfl, rfl, rfl⟩
    · show upd (q 2) _ t = upd (p 34) _ t; rw [a3]
    · intro k hk
      show 0 ≤ (upd (q 2) (3 * tN s + tN f) t k).toInt ∧ (upd (q 2) (3 * tN s + tN f) t k).toInt ≤ 5000
      by_cases e : k = 3 * tN s + tN f
      · rw [e, pk_us]; exact isW_i.mp h3
      · rw [pk_un e]; exact b7 k hk
theorem plI_I {s o : Nat} : ∀ n : Nat, plI q s o n = sI (fun v => q 8 (6 * s + v)) (fun v => decide (q 6 v = nI o)) n
  | 0 => rfl
  | n + 1 => by
    rw [plI_s, sI_s, plI_I n]
    by_cases c : q 6 n = nI o
    · rw [if_pos c, if_pos (decide_eq_true c)]
    · rw [if_neg c, if_neg (by rw [decide_eq_false c]; decide)]
theorem sI_z {f : Nat → Int32} {g h : Nat → Bool} (e : ∀ v : Nat, v < 6 → (g v = h v ∨ (f v).toInt = 0)) : ∀ n : Nat, n ≤ 6 → sI f g n = sI f h n
  | 0, _ => rfl
  | n + 1, hn => by
    rw [sI_s, sI_s, sI_z e n (by omega)]
    rcases e n (by omega) with h1 | h1
    · rw [h1]
    · rw [h1]; split <;> split <;> omega
theorem p_vessel (h : RS q p) (v w : Int32) : RS (cVessel q v w).2 (mVessel p v w) ∧ kO IAE (cVessel q v w).1 = mVessel p v w 31 0 ∧ ((cVessel q v w).1 = .inl none ∨ (cVessel q v w).1 = .inr IAE ∨ (cVessel q v w).1 = .inr ISE) ∧ frQ q (cVessel q v w).2 ∧ frP p (mVessel p v w) := by
  cases h1 : isW v 0 5 with
  | false =>
    rw [show cVessel q v w = (.inr IAE, q) by simp [cVessel, h1], show mVessel p v w = qv p 31 0 1 by simp [mVessel, gVe, rfM, h1]]
    exact ⟨RS_ref h 1, kO_1, Or.inr (Or.inl rfl), frQ_r, frP_ref 1⟩
  | true =>
  cases h2 : isW w 0 5 with
  | false =>
    rw [show cVessel q v w = (.inr IAE, q) by simp [cVessel, h1, h2], show mVessel p v w = qv p 31 0 1 by simp [mVessel, gVe, rfM, h2]]
    exact ⟨RS_ref h 1, kO_1, Or.inr (Or.inl rfl), frQ_r, frP_ref 1⟩
  | true =>
    obtain ⟨j, hj, rfl, ej⟩ := w5 h1
    have e8 : hasM p j 4 = anyF (fun s => decide (0 < q 8 (6 * s + j))) 4 := by
      unfold hasM; rw [h.1.2.2.2.2.2]
    cases ha : anyF (fun s => decide (0 < q 8 (6 * s + j))) 4 with
    | true =>
      rw [show cVessel q (nI j) w = (.inr ISE, q) by simp [cVessel, h1, h2, ej, ha], show mVessel p (nI j) w = qv p 31 0 2 by simp [mVessel, gVe, rfM, h1, h2, ej, e8, ha]]
      exact ⟨RS_ref h 2, kO_2, Or.inr (Or.inr rfl), frQ_r, frP_ref 2⟩
    | false =>
      rw [show cVessel q (nI j) w = (.inl none, qv q 6 j w) by simp [cVessel, h1, h2, ej, ha], show mVessel p (nI j) w = qv (qv p 31 0 0) 35 j w by simp [mVessel, gVe, rfM, h1, h2, ej, e8, ha]]
      obtain ⟨k, hk, rfl, ek⟩ := w5 h2
      obtain ⟨⟨a1, a2, a3, a4, a5, a6⟩, a7, a8, b1, b2, b3, b4, b5, b6, b7, b8⟩ := h
      have hz : ∀ s : Nat, s < 4 → (q 8 (6 * s + j)).toInt = 0 := by
        intro s hs
        have h0 := b3 (6 * s + j) (by omega)
        have h9 : ¬ 0 < q 8 (6 * s + j) := fun z => by
          have := anyF_t (f := fun s => decide (0 < q 8 (6 * s + j))) hs (by simp [z])
          rw [ha] at this; cases this
        rw [ltI, show (0 : Int32).toInt = 0 from rfl] at h9
        omega
      refine ⟨⟨⟨a1, a2, a3, ?_, a5, a6⟩, a7, a8, b1, b2, b3, ?_, ?_, b6, b7, b8⟩, rfl, Or.inl rfl, fun k hk => qv_n (by omega), fun k hk => by rw [qv_n (by omega), qv_n (by omega)], rfl, rfl, rfl⟩
      · show upd (q 6) j _ = upd (p 35) j _; rw [a4]
      · intro s o hs ho
        have h5 := b4 s o hs ho
        rw [plI_I] at h5 ⊢
        show sI (fun v => q 8 (6 * s + v)) (fun v => decide (upd (q 6) j (nI k) v = nI o)) 6 ≤ (q 7 (6 * s + o)).toInt
        rw [← sI_z (f := fun v => q 8 (6 * s + v)) (g := fun v => decide (q 6 v = nI o)) (h := fun v => decide (upd (q 6) j (nI k) v = nI o)) (fun v hv => ?_) 6 (Nat.le_refl _)]
        · exact h5
        · by_cases e : v = j
          · right; rw [e]; exact hz s hs
          · left; rw [pk_un e]
      · intro v hv
        show ∃ j' : Nat, j' < 6 ∧ upd (q 6) j (nI k) v = nI j'
        by_cases e : v = j
        · rw [e, pk_us]; exact ⟨k, hk, rfl⟩
        · rw [pk_un e]; exact b5 v hv
/-! links -/
theorem LC_join {f : Nat → Int32} {a b : Nat} (ha : a < 6) (hb : b < 6) (hab : a ≠ b) {x y : Nat} (hx : x < 6) (hy : y < 6) : LC (lkJ f a b) x y = lkA (LC f) a b x y := by
  unfold LC lkJ lkA
  by_cases e1 : x = b
  · subst e1
    rw [pk_us, pk_un (Ne.symm hab), iand_or, ntz_or, bt_bt ⟨a, ha⟩ ⟨y, hy⟩]
    simp [Ne.symm hab]
  · rw [pk_un e1]
    by_cases e2 : x = a
    · subst e2
      rw [pk_us, iand_or, ntz_or, bt_bt ⟨b, hb⟩ ⟨y, hy⟩]
      simp [hab]
    · rw [pk_un e2]; simp [e1, e2]
theorem bt_np : ∀ b y : Fin 6, (bt b.val ^^^ (-1)) &&& bt y.val = if y.val = b.val then 0 else bt y.val := by decide
theorem LC_part {f : Nat → Int32} {a b : Nat} (ha : a < 6) (hb : b < 6) (hab : a ≠ b) {x y : Nat} (hx : x < 6) (hy : y < 6) : LC (lkP f a b) x y = (LC f x y && !((decide (x = a) && decide (y = b)) || (decide (x = b) && decide (y = a)))) := by
  unfold LC lkP
  have key : ∀ (u : Int32) (c : Nat), c < 6 → ntz ((u &&& (bt c ^^^ (-1))) &&& bt y) = (ntz (u &&& bt y) && !decide (y = c)) := by
    intro u c hc
    rw [Int32.and_assoc, bt_np ⟨c, hc⟩ ⟨y, hy⟩]
    by_cases e : y = c
    · subst e
      simp [ntz]
    · simp [e]
  by_cases e1 : x = b
  · subst e1
    rw [pk_us, pk_un (Ne.symm hab), key _ a ha]
    simp [Ne.symm hab]
  · rw [pk_un e1]
    by_cases e2 : x = a
    · subst e2
      rw [pk_us, key _ b hb]
      simp [hab]
    · rw [pk_un e2]; simp [e1, e2]
theorem LM_set {a b : Nat} {z : Bool} (ha : a < 6) (hb : b < 6) {x y : Nat} (hx : x < 6) (hy : y < 6) : LM (slM p a b (bI z)) x y = if (x = a ∧ y = b) ∨ (x = b ∧ y = a) then z else LM p x y := by
  unfold LM slM
  show ntz (upd (upd (p 38) (6 * a + b) (bI z)) (6 * b + a) (bI z) (6 * x + y)) = _
  by_cases e1 : 6 * x + y = 6 * b + a
  · rw [e1, pk_us, ntz_bI, if_pos (Or.inr ⟨by omega, by omega⟩)]
  · rw [pk_un e1]
    by_cases e2 : 6 * x + y = 6 * a + b
    · rw [e2, pk_us, ntz_bI, if_pos (Or.inl ⟨by omega, by omega⟩)]
    · rw [pk_un e2, if_neg (fun h => by omega)]
theorem slM_k {a b k : Nat} {x : Int32} (h : k ≠ 38) : slM p a b x k = p k := by unfold slM; rw [qv_n h, qv_n h]
theorem slM_b {a b : Nat} {z : Bool} (hB : ∀ k : Nat, ∃ x : Bool, p 38 k = bI x) : ∀ k : Nat, ∃ x : Bool, slM p a b (bI z) 38 k = bI x := by
  intro k
  show ∃ x : Bool, upd (upd (p 38) (6 * a + b) (bI z)) (6 * b + a) (bI z) k = bI x
  by_cases e1 : k = 6 * b + a
  · rw [e1, pk_us]; exact ⟨z, rfl⟩
  · rw [pk_un e1]
    by_cases e2 : k = 6 * a + b
    · rw [e2, pk_us]; exact ⟨z, rfl⟩
    · rw [pk_un e2]; exact hB k
theorem p_unlink (h : RS q p) (a b : Int32) : RS (cUnlink q a b).2 (mUnlink p a b) ∧ kO IAE (cUnlink q a b).1 = mUnlink p a b 31 0 ∧ ((cUnlink q a b).1 = .inl none ∨ (cUnlink q a b).1 = .inr IAE ∨ (cUnlink q a b).1 = .inr ISE) ∧ frQ q (cUnlink q a b).2 ∧ frP p (mUnlink p a b) := by
  cases h1 : two5 a b with
  | false =>
    rw [show cUnlink q a b = (.inr IAE, q) by simp [cUnlink, h1], show mUnlink p a b = qv p 31 0 1 by simp [mUnlink, rfM, h1]]
    exact ⟨RS_ref h 1, kO_1, Or.inr (Or.inl rfl), frQ_r, frP_ref 1⟩
  | true =>
    obtain ⟨g1, g2, g3⟩ := two5_t h1
    obtain ⟨i, hi, rfl, ei⟩ := w5 g1
    obtain ⟨j, hj, rfl, ej⟩ := w5 g2
    have hij : i ≠ j := fun e => g3 (by rw [e])
    have hL := h.2.1 i j hi hj
    cases hn : ntz (q 5 i &&& bt j) with
    | false =>
      have hp0 : p 38 (6 * i + j) = 0 := by
        have : LM p i j = false := by rw [← hL]; exact hn
        unfold LM ntz at this
        simpa using this
      rw [show cUnlink q (nI i) (nI j) = (.inr ISE, q) by simp [cUnlink, h1, ei, ej, hn], show mUnlink p (nI i) (nI j) = qv p 31 0 2 by simp [mUnlink, ulM, rfM, h1, ei, ej, hp0]]
      exact ⟨RS_ref h 2, kO_2, Or.inr (Or.inr rfl), frQ_r, frP_ref 2⟩
    | true =>
      have hp0 : ¬ p 38 (6 * i + j) = 0 := by
        have : LM p i j = true := by rw [← hL]; exact hn
        unfold LM ntz at this
        simpa using this
      rw [show cUnlink q (nI i) (nI j) = (.inl none, qw q 5 (lkP (q 5) i j)) by simp [cUnlink, h1, ei, ej, hn], show mUnlink p (nI i) (nI j) = slM (qv p 31 0 0) i j (bI false) by simp [mUnlink, ulM, rfM, h1, ei, ej, hp0, bI]]
      obtain ⟨⟨a1, a2, a3, a4, a5, a6⟩, a7, a8, b1, b2, b3, b4, b5, b6, b7, b8⟩ := h
      have hLC : ∀ x y : Nat, x < 6 → y < 6 → LC (lkP (q 5) i j) x y = (LC (q 5) x y && !((decide (x = i) && decide (y = j)) || (decide (x = j) && decide (y = i)))) := fun x y hx hy => LC_part hi hj hij hx hy
      refine ⟨⟨⟨a1, a2, a3, a4, a5, a6⟩, ?_, slM_b a8, b1, ?_, b3, b4, b5, b6, b7, ?_⟩, rfl, Or.inl rfl, fun k hk => qw_n (by omega), fun k hk => by rw [slM_k (by omega), qv_n (by omega)], rfl, rfl, rfl⟩
      · intro x y hx hy
        show LC (lkP (q 5) i j) x y = _
        rw [hLC x y hx hy, LM_set hi hj hx hy, a7 x y hx hy, LM_k (p' := qv p 31 0 0) (p := p) rfl]
        by_cases e : (x = i ∧ y = j) ∨ (x = j ∧ y = i)
        · rw [if_pos e]; rcases e with ⟨rfl, rfl⟩ | ⟨rfl, rfl⟩ <;> simp
        · rw [if_neg e]
          rw [not_or] at e
          have e1 : (decide (x = i) && decide (y = j)) = false := by rw [← Bool.decide_and]; exact decide_eq_false e.1
          have e2 : (decide (x = j) && decide (y = i)) = false := by rw [← Bool.decide_and]; exact decide_eq_false e.2
          rw [e1, e2]; simp
      · intro s o hs ho
        refine Int.le_trans (sI_sub (b1 s hs).1 (grp_mono (L := LC (q 5)) (L' := LC (lkP (q 5) i j)) (fun x y hx hy hxy => ?_) ho) 6 (Nat.le_refl _)) (b2 s o hs ho)
        rw [hLC x y hx hy, Bool.and_eq_true] at hxy
        exact hxy.1
      · intro x y hx hy
        show LC (lkP (q 5) i j) x y = LC (lkP (q 5) i j) y x
        rw [hLC x y hx hy, hLC y x hy hx, b8 x y hx hy]
        congr 2
        rw [Bool.or_comm, Bool.and_comm, Bool.and_comm (decide (x = i))]
end SH
