section SH3
variable {q p : Nat → Nat → Int32}
theorem sI_0 {f : Nat → Int32} {g : Nat → Bool} : sI f g 0 = 0 := rfl
theorem sI_f {f f' : Nat → Int32} {g : Nat → Bool} (e : ∀ k : Nat, k < 6 → f k = f' k) : ∀ n : Nat, n ≤ 6 → sI f g n = sI f' g n := by
  intro n
  induction n with
  | zero => intro _; exact (sI_0 (f := f) (g := g)).trans (sI_0 (f := f') (g := g)).symm
  | succ n ih =>
    intro hn
    have e1 := e n (by omega)
    have e2 := ih (by omega)
    by_cases c : g n = true
    · rw [sI_s, sI_s, if_pos c, if_pos c]
      exact congr (congrArg (fun a b : Int => a + b) e2) (congrArg Int32.toInt e1)
    · rw [sI_s, sI_s, if_neg c, if_neg c]
      exact e2
theorem PtOK_f {f f' : Nat → Int32} (e : ∀ k : Nat, k < 6 → f k = f' k) (h : PtOK f) : PtOK f' :=
  ⟨fun o ho => by rw [← e o ho]; exact h.1 o ho, by unfold tot; rw [← sI_f e 6 (Nat.le_refl _)]; exact h.2⟩
theorem fits_i {s : Nat} {cap : Int32} (h5 : q 7 = p 36) (h7 : ∀ a b : Nat, a < 6 → b < 6 → LC (q 5) a b = LM p a b) (hP : PtOK (pt q s)) : (ftM s cap 6 p).1 = true ↔ ∀ k : Nat, k < 6 → sI (pt q s) (grp (LC (q 5)) k) 6 ≤ cap.toInt := by
  rw [ftM_t 6 (Nat.le_refl _)]
  have key : ∀ k : Nat, k < 6 → (sB (fun o => p 36 (6 * s + o)) (grp (LM p) k) 6 ≤ cap ↔ sI (pt q s) (grp (LC (q 5)) k) 6 ≤ cap.toInt) := fun k hk => by
    rw [← h5, leI, sB_I (f := fun o => q 7 (6 * s + o)) hP 6 (Nat.le_refl _), sI_e (grp_L h7 hk) 6 (Nat.le_refl _)]
  exact ⟨fun h k hk => (key k hk).mp (h k hk), fun h k hk => (key k hk).mpr (h k hk)⟩
theorem upd_in {f : Nat → Int32} {s s' o k : Nat} {x : Int32} (ho : o < 6) (hk : k < 6) : upd f (6 * s + o) x (6 * s' + k) = if s' = s then upd (fun k => f (6 * s + k)) o x k else f (6 * s' + k) := by
  by_cases e : s' = s
  · subst e
    rw [if_pos rfl]
    by_cases e2 : k = o
    · subst e2; rw [pk_us, pk_us]
    · rw [pk_un e2, pk_un (by omega)]
  · rw [if_neg e, pk_un (by omega)]
theorem freeC_I {s o : Nat} {x : Int32} (h8 : ∀ k : Nat, k < 24 → 0 ≤ (q 8 k).toInt) (hs : s < 4) (hx : x.toInt ≤ 1000000) (hp : plI q s o 6 ≤ x.toInt) : ∀ n : Nat, n ≤ 6 → (freeC (q 7) (q 6) (q 8) s (nI o) x n).toInt = x.toInt - plI q s o n ∧ 0 ≤ plI q s o n ∧ plI q s o n + plI q s o 6 - plI q s o n ≤ x.toInt ∧ plI q s o n ≤ plI q s o 6 := by
  have hpos : ∀ v : Nat, v < 6 → 0 ≤ ((fun v => q 8 (6 * s + v)) v).toInt := fun v hv => h8 (6 * s + v) (by omega)
  have hup : ∀ k : Nat, k ≤ 6 → plI q s o (6 - k) ≤ plI q s o 6 := by
    intro k
    induction k with
    | zero => intro _; exact Int.le_refl _
    | succ k ih =>
      intro hk
      have h1 := ih (by omega)
      have h2 := hpos (6 - (k + 1)) (by omega)
      dsimp only at h2
      rw [show 6 - k = (6 - (k + 1)) + 1 by omega, plI_s] at h1
      split at h1 <;> omega
  intro n
  induction n with
  | zero =>
    intro _
    have := hup 6 (Nat.le_refl _)
    have e0 : plI q s o 0 = 0 := rfl
    refine ⟨?_, ?_, ?_, this⟩
    · show x.toInt = x.toInt - 0; omega
    · rw [e0]; omega
    · omega
  | succ n ih =>
    intro hn
    obtain ⟨i1, i2, i3, i4⟩ := ih (by omega)
    have h2 := hpos n (by omega)
    dsimp only at h2
    have h3 := hup (6 - (n + 1)) (by omega)
    rw [show 6 - (6 - (n + 1)) = n + 1 by omega] at h3
    have e : freeC (q 7) (q 6) (q 8) s (nI o) x (n + 1) = if q 6 n = nI o then freeC (q 7) (q 6) (q 8) s (nI o) x n - q 8 (6 * s + n) else freeC (q 7) (q 6) (q 8) s (nI o) x n := rfl
    rw [e]
    rw [plI_s] at h3 ⊢
    by_cases c : q 6 n = nI o
    · rw [if_pos c] at h3 ⊢
      rw [if_pos c, subI (by omega) (by omega), i1]
      refine ⟨by omega, by omega, by omega, h3⟩
    · rw [if_neg c] at h3 ⊢
      rw [if_neg c]
      exact ⟨i1, i2, i3, i4⟩
theorem free_eq (h : RS q p) {s : Nat} {o x : Int32} : ∀ n : Nat, freeM p s o x n = freeC (q 7) (q 6) (q 8) s o x n := by
  intro n
  unfold freeM freeC
  rw [h.1.2.2.2.1, h.1.2.2.2.2.2]
theorem allP_I {s : Nat} {m : Int32} (hP : PtOK (fun o => p 36 (6 * s + o))) (hm : 0 ≤ m.toInt ∧ m.toInt ≤ 1000000) : ∀ n : Nat, n ≤ 6 → (allP p s n m).toInt = m.toInt + tot (fun o => p 36 (6 * s + o)) n
  | 0, _ => by show m.toInt = m.toInt + 0; omega
  | n + 1, hn => by
    have ih := allP_I hP hm n (by omega)
    have b1 := sI_bd (g := fun _ => true) hP (n := n) (by omega)
    have b2 := sI_bd (g := fun _ => true) hP (n := n + 1) hn
    have e : allP p s (n + 1) m = allP p s n m + p 36 (6 * s + n) := rfl
    rw [e, tot_s]
    have b3 : tot (fun o => p 36 (6 * s + o)) (n + 1) = tot (fun o => p 36 (6 * s + o)) n + (p 36 (6 * s + n)).toInt := rfl
    unfold tot at *
    rw [addI (by omega) (by omega), ih]
    omega
theorem gM63 : ∀ b : Fin 6, gM 63 b.val = true := by decide
theorem sum63 {s : Nat} (hP : PtOK (pt q s)) : (sumC q s 63 6).toInt = tot (pt q s) 6 := by
  rw [sumC_B, sB_I hP 6 (Nat.le_refl _)]
  exact sI_e (fun b hb => gM63 ⟨b, hb⟩) 6 (Nat.le_refl _)
theorem p_issue (h : RS q p) (e06 : q 0 6 = p 31 9) (s o m : Int32) : RS (cIssue q s o m).2 (mIssue p s o m).2 ∧ kO IAE (cIssue q s o m).1 = (mIssue p s o m).2 31 0 ∧ ((∃ x : Int32, (cIssue q s o m).1 = .inl (some (.int x)) ∧ (mIssue p s o m).1 = x) ∨ (cIssue q s o m).1 = .inr IAE ∨ (cIssue q s o m).1 = .inr ISE) ∧ frQ q (cIssue q s o m).2 ∧ frP p (mIssue p s o m).2 := by
  cases h1 : isW s 0 3 with
  | false =>
    rw [show cIssue q s o m = (.inr IAE, q) by simp [cIssue, h1], show mIssue p s o m = (0, qv p 31 0 1) by simp [mIssue, gIs, rfM, h1]]
    exact ⟨RS_ref h 1, kO_1, Or.inr (Or.inl rfl), frQ_r, frP_ref 1⟩
  | true =>
  cases h2 : isW o 0 5 with
  | false =>
    rw [show cIssue q s o m = (.inr IAE, q) by simp [cIssue, h1, h2], show mIssue p s o m = (0, qv p 31 0 1) by simp [mIssue, gIs, rfM, h2]]
    exact ⟨RS_ref h 1, kO_1, Or.inr (Or.inl rfl), frQ_r, frP_ref 1⟩
  | true =>
  cases h3 : isW m 1 1000000 with
  | false =>
    rw [show cIssue q s o m = (.inr IAE, q) by simp [cIssue, h1, h2, h3], show mIssue p s o m = (0, qv p 31 0 1) by simp [mIssue, gIs, rfM, h3]]
    exact ⟨RS_ref h 1, kO_1, Or.inr (Or.inl rfl), frQ_r, frP_ref 1⟩
  | true =>
    by_cases hy : q 0 6 ≤ 0
    case neg =>
      have hy2 : 0 < p 31 9 := by rw [← e06]; exact Int32.not_le.mp hy
      rw [show cIssue q s o m = (.inr ISE, q) by simp [cIssue, h1, h2, h3, hy], show mIssue p s o m = (0, qv p 31 0 2) by simp [mIssue, gIs, rfM, h1, h2, h3, hy2]]
      exact ⟨RS_ref h 2, kO_2, Or.inr (Or.inr rfl), frQ_r, frP_ref 2⟩
    case pos =>
      have hy2 : ¬ 0 < p 31 9 := by rw [← e06]; exact Int32.not_lt.mpr hy
      obtain ⟨j, hj, rfl, ej⟩ := w3 h1
      obtain ⟨k, hk, rfl, ek⟩ := w5 h2
      have hm := isW_i.mp h3
      rw [show (1 : Int32).toInt = 1 from rfl, show (1000000 : Int32).toInt = 1000000 from rfl] at hm
      have em : mIssue p (nI j) (nI k) m = isE (6 * j + k) m (isZ (qv (qv p 31 0 0) 36 (6 * j + k) (p 36 (6 * j + k) + m)) j (allP p j 6 m)) := by simp [mIssue, gIs, rfM, h1, h2, h3, hy2, ej, ek]
      have ec : cIssue q (nI j) (nI k) m = if 1000000 < sumC q j 63 6 + m then (.inr ISE, q) else if q 4 j < sumC q j (grpC (q 5) k) 6 + m then (.inr ISE, q) else (.inl (some (.int (q 7 (6 * j + k) + m))), qv q 7 (6 * j + k) (q 7 (6 * j + k) + m)) := by
        simp only [cIssue, h1, h2, h3, ej, ek, if_pos hy, Bool.true_eq_false, if_false]
      rw [em, ec]
      obtain ⟨⟨a1, a2, a3, a4, a5, a6⟩, a7, a8, b1, b2, b3, b4, b5, b6, b7, b8⟩ := id h
      have hP := b1 j hj
      have hP' : PtOK (fun o => p 36 (6 * j + o)) := by rw [← a5]; exact hP
      have etot : tot (fun o => p 36 (6 * j + o)) 6 = tot (pt q j) 6 := by rw [← a5]
      have eall : (allP p j 6 m).toInt = m.toInt + tot (pt q j) 6 := by rw [allP_I hP' (by omega) 6 (Nat.le_refl _), etot]
      have bt0 := sI_bd (g := fun _ => true) hP (n := 6) (Nat.le_refl _)
      have bg := sI_bd (g := grp (LC (q 5)) k) hP (n := 6) (Nat.le_refl _)
      have e63 : (sumC q j 63 6 + m).toInt = m.toInt + tot (pt q j) 6 := by
        rw [addI, sum63 hP]
        · omega
        · rw [sum63 hP]; unfold tot; omega
        · rw [sum63 hP]; unfold tot; omega
      have eg : (sumC q j (grpC (q 5) k) 6 + m).toInt = m.toInt + sI (pt q j) (grp (LC (q 5)) k) 6 := by
        rw [addI, sumG_B hk, sB_I hP 6 (Nat.le_refl _)]
        · omega
        · rw [sumG_B hk, sB_I hP 6 (Nat.le_refl _)]; omega
        · rw [sumG_B hk, sB_I hP 6 (Nat.le_refl _)]; omega
      have c1 : 1000000 < sumC q j 63 6 + m ↔ 1000000 < allP p j 6 m := by rw [ltI, ltI, e63, eall]
      -- the refused roads end alike
      have refd : ∀ z2 : Nat → Nat → Int32, (∀ i : Nat, i ≠ 39 → z2 i = qv (qv p 31 0 0) 36 (6 * j + k) (p 36 (6 * j + k) + m) i) → RS q (isE (6 * j + k) m (true, z2)).2 ∧ kO IAE (.inr ISE) = (isE (6 * j + k) m (true, z2)).2 31 0 ∧ frP p (isE (6 * j + k) m (true, z2)).2 := by
        intro z2 hz
        have e1 : (isE (6 * j + k) m (true, z2)).2 = qv (qv z2 31 0 2) 36 (6 * j + k) (z2 36 (6 * j + k) - m) := by simp [isE, rfM]; rfl
        rw [e1]
        have e36 : qv (qv z2 31 0 2) 36 (6 * j + k) (z2 36 (6 * j + k) - m) 36 = p 36 := by
          show upd (z2 36) (6 * j + k) (z2 36 (6 * j + k) - m) = p 36
          rw [hz 36 (by decide)]
          show upd (upd (p 36) (6 * j + k) (p 36 (6 * j + k) + m)) (6 * j + k) (upd (p 36) (6 * j + k) (p 36 (6 * j + k) + m) (6 * j + k) - m) = p 36
          funext i
          by_cases e : i = 6 * j + k
          · rw [e, pk_us, pk_us, Int32.add_sub_cancel]
          · rw [pk_un e, pk_un e]
        have e9 : ∀ i : Nat, i ≠ 31 → i ≠ 39 → qv (qv z2 31 0 2) 36 (6 * j + k) (z2 36 (6 * j + k) - m) i = p i := fun i h8 h9 => by
          by_cases e : i = 36
          · rw [e]; exact e36
          · rw [qv_n e, qv_n h8, hz i h9, qv_n e, qv_n h8]
        refine ⟨RS_p h fun i k1 k2 => e9 i (by omega) (by omega), kO_2, fun i hi => e9 i (by omega) (by omega), ?_, ?_, ?_⟩
        · show z2 31 9 = _; rw [hz 31 (by decide)]; rfl
        · show z2 31 10 = _; rw [hz 31 (by decide)]; rfl
        · show z2 31 20 = _; rw [hz 31 (by decide)]; rfl
      by_cases hb : 1000000 < sumC q j 63 6 + m
      · rw [if_pos hb, show isZ (qv (qv p 31 0 0) 36 (6 * j + k) (p 36 (6 * j + k) + m)) j (allP p j 6 m) = _ from if_pos (c1.mp hb)]
        obtain ⟨r1, r2, r3⟩ := refd _ fun i _ => rfl
        exact ⟨r1, r2, Or.inr (Or.inr rfl), frQ_r, r3⟩
      · rw [if_neg hb, show isZ (qv (qv p 31 0 0) 36 (6 * j + k) (p 36 (6 * j + k) + m)) j (allP p j 6 m) = _ from if_neg (fun z => hb (c1.mpr z))]
        have hb2 : m.toInt + tot (pt q j) 6 ≤ 1000000 := by
          rw [ltI, e63, show (1000000 : Int32).toInt = 1000000 from rfl] at hb; omega
        -- the new parts
        have hfk := hP.1 k hk
        have hfk2 := sI_bd (g := gOne k) hP (n := 6) (Nat.le_refl _)
        have hx : (q 7 (6 * j + k) + m).toInt = (q 7 (6 * j + k)).toInt + m.toInt := by
          have h9 : (q 7 (6 * j + k)).toInt ≤ 1000000 := by
            have h8 := sI_upd6 (f := pt q j) (g := fun _ => true) (o := k) (x := 0) hk
            have h7 := sI_pos (f := upd (pt q j) k 0) (g := fun _ => true) (fun o ho => by
              by_cases e : o = k
              · rw [e, pk_us]; decide
              · rw [pk_un e]; exact hP.1 o ho) 6 (Nat.le_refl _)
            rw [if_pos rfl, show (0 : Int32).toInt = 0 from rfl] at h8
            have h6 : (pt q j k).toInt = (q 7 (6 * j + k)).toInt := rfl
            omega
          have h6 : (pt q j k).toInt = (q 7 (6 * j + k)).toInt := rfl
          exact addI (by omega) (by omega)
        have hpj : ∀ i : Nat, i < 6 → pt (qv q 7 (6 * j + k) (q 7 (6 * j + k) + m)) j i = upd (pt q j) k (q 7 (6 * j + k) + m) i := fun i hi => by
          show upd (q 7) (6 * j + k) _ (6 * j + i) = _
          rw [upd_in hk hi, if_pos rfl]
        have hpn : ∀ s : Nat, s ≠ j → ∀ i : Nat, i < 6 → pt (qv q 7 (6 * j + k) (q 7 (6 * j + k) + m)) s i = pt q s i := fun s hs i hi => by
          show upd (q 7) (6 * j + k) _ (6 * s + i) = _
          rw [upd_in hk hi, if_neg hs]
        have hsum : ∀ g : Nat → Bool, sI (pt (qv q 7 (6 * j + k) (q 7 (6 * j + k) + m)) j) g 6 = sI (pt q j) g 6 + (if g k = true then m.toInt else 0) := fun g => by
          rw [sI_f hpj 6 (Nat.le_refl _), sI_upd6 hk, hx]
          have h6 : (pt q j k).toInt = (q 7 (6 * j + k)).toInt := rfl
          split <;> omega
        have hPn : PtOK (pt (qv q 7 (6 * j + k) (q 7 (6 * j + k) + m)) j) := by
          refine ⟨fun i hi => ?_, ?_⟩
          · rw [hpj i hi]
            by_cases e : i = k
            · rw [e, pk_us, hx]
              have h6 : (pt q j k).toInt = (q 7 (6 * j + k)).toInt := rfl
              omega
            · rw [pk_un e]; exact hP.1 i hi
          · unfold tot; rw [hsum, if_pos rfl]; unfold tot at hb2; omega
        have e7 : qv q 7 (6 * j + k) (q 7 (6 * j + k) + m) 7 = qv (qv p 31 0 0) 36 (6 * j + k) (p 36 (6 * j + k) + m) 36 := by
          show upd (q 7) _ _ = upd (p 36) _ _; rw [a5]
        have hfit := fits_i (q := qv q 7 (6 * j + k) (q 7 (6 * j + k) + m)) (p := qv (qv p 31 0 0) 36 (6 * j + k) (p 36 (6 * j + k) + m)) (s := j) (cap := qv (qv p 31 0 0) 36 (6 * j + k) (p 36 (6 * j + k) + m) 33 j) e7 a7 hPn
        have e33 : (qv (qv p 31 0 0) 36 (6 * j + k) (p 36 (6 * j + k) + m) 33 j).toInt = (q 4 j).toInt := by rw [a2]; rfl
        rw [e33] at hfit
        have hcap : (∀ o : Nat, o < 6 → sI (pt (qv q 7 (6 * j + k) (q 7 (6 * j + k) + m)) j) (grp (LC (q 5)) o) 6 ≤ (q 4 j).toInt) ↔ ¬ q 4 j < sumC q j (grpC (q 5) k) 6 + m := by
          rw [ltI, eg]
          constructor
          · intro hh
            have h9 := hh k hk
            rw [hsum, if_pos (grp_C hk).1] at h9
            omega
          · intro hh o ho
            rw [hsum]
            by_cases c : grp (LC (q 5)) o k = true
            · rw [if_pos c, ← sI_e (grp_same b8 ho hk c) 6 (Nat.le_refl _)]; omega
            · rw [if_neg c]; have := b2 j o hj ho; omega
        have hfit : (ftM j (qv (qv p 31 0 0) 36 (6 * j + k) (p 36 (6 * j + k) + m) 33 j) 6 (qv (qv p 31 0 0) 36 (6 * j + k) (p 36 (6 * j + k) + m))).1 = true ↔ ¬ q 4 j < sumC q j (grpC (q 5) k) 6 + m := hfit.trans hcap
        have hz2 : ∀ i : Nat, i ≠ 39 → (ftM j (qv (qv p 31 0 0) 36 (6 * j + k) (p 36 (6 * j + k) + m) 33 j) 6 (qv (qv p 31 0 0) 36 (6 * j + k) (p 36 (6 * j + k) + m))).2 i = qv (qv p 31 0 0) 36 (6 * j + k) (p 36 (6 * j + k) + m) i := fun i hi => ftM_k hi 6
        revert hfit hz2
        generalize ftM j (qv (qv p 31 0 0) 36 (6 * j + k) (p 36 (6 * j + k) + m) 33 j) 6 (qv (qv p 31 0 0) 36 (6 * j + k) (p 36 (6 * j + k) + m)) = z
        obtain ⟨z1, z2⟩ := z
        intro hfit hz2
        dsimp only at hfit hz2 ⊢
        cases z1 with
        | false =>
          have hc : q 4 j < sumC q j (grpC (q 5) k) 6 + m := Classical.byContradiction fun z => absurd (hfit.mpr z) (by decide)
          rw [if_pos hc]
          obtain ⟨r1, r2, r3⟩ := refd z2 hz2
          exact ⟨r1, r2, Or.inr (Or.inr rfl), frQ_r, r3⟩
        | true =>
          have hc := hfit.mp rfl
          rw [if_neg hc]
          have e1 : isE (6 * j + k) m (!true, z2) = (z2 36 (6 * j + k), qv z2 31 0 0) := by simp [isE, rfM]
          rw [e1]
          dsimp only
          have hfq : ∀ i : Nat, i ≠ 7 → qv q 7 (6 * j + k) (q 7 (6 * j + k) + m) i = q i := fun i hi => qv_n hi
          have e9 : ∀ i : Nat, 32 ≤ i → i ≠ 39 → qv z2 31 0 0 i = qv (qv p 31 0 0) 36 (6 * j + k) (p 36 (6 * j + k) + m) i := fun i h8 h9 => by rw [qv_n (by omega), hz2 i h9]
          refine ⟨⟨⟨?_, ?_, ?_, ?_, ?_, ?_⟩, ?_, ?_, ?_, ?_, b3, ?_, b5, b6, b7, b8⟩, rfl, Or.inl ⟨_, rfl, ?_⟩, fun i hi => qv_n (by omega), ?_, ?_, ?_, ?_⟩
          · rw [e9 32 (by decide) (by decide)]; exact a1
          · rw [e9 33 (by decide) (by decide)]; exact a2
          · rw [e9 34 (by decide) (by decide)]; exact a3
          · rw [e9 35 (by decide) (by decide)]; exact a4
          · rw [e9 36 (by decide) (by decide)]; exact e7
          · rw [e9 37 (by decide) (by decide)]; exact a6
          · rw [LM_k (e9 38 (by decide) (by decide))]; exact a7
          · rw [e9 38 (by decide) (by decide)]; exact a8
          · intro s hs
            by_cases e : s = j
            · rw [e]; exact hPn
            · exact PtOK_f (fun i hi => (hpn s e i hi).symm) (b1 s hs)
          · intro s o hs ho
            by_cases e : s = j
            · rw [e]; exact hcap.mpr hc o ho
            · have h9 := b2 s o hs ho
              rw [← sI_f (hpn s e) 6 (Nat.le_refl _)] at h9
              exact h9
          · intro s o hs ho
            have h9 := b4 s o hs ho
            show plI q s o 6 ≤ (upd (q 7) (6 * j + k) (q 7 (6 * j + k) + m) (6 * s + o)).toInt
            by_cases e : 6 * s + o = 6 * j + k
            · rw [e, pk_us, hx]; rw [e] at h9; omega
            · rw [pk_un e]; exact h9
          · show z2 36 (6 * j + k) = _
            rw [hz2 36 (by decide)]
            show upd (p 36) (6 * j + k) (p 36 (6 * j + k) + m) (6 * j + k) = _
            rw [pk_us, a5]
          · intro i hi
            rw [e9 i (by omega) (by omega), qv_n (by omega), qv_n (by omega)]
          · show z2 31 9 = _; rw [hz2 31 (by decide)]; rfl
          · show z2 31 10 = _; rw [hz2 31 (by decide)]; rfl
          · show z2 31 20 = _; rw [hz2 31 (by decide)]; rfl
theorem ngI {x y : Int32} : x + -y = x - y := (Int32.sub_eq_add_neg x y).symm
theorem pt_le {s o : Nat} (hP : PtOK (pt q s)) (ho : o < 6) : 0 ≤ (q 7 (6 * s + o)).toInt ∧ (q 7 (6 * s + o)).toInt ≤ 1000000 := by
  have h8 := sI_upd6 (f := pt q s) (g := fun _ => true) (o := o) (x := 0) ho
  have h7 := sI_pos (f := upd (pt q s) o 0) (g := fun _ => true) (fun i hi => by
    by_cases e : i = o
    · rw [e, pk_us]; decide
    · rw [pk_un e]; exact hP.1 i hi) 6 (Nat.le_refl _)
  rw [if_pos rfl, show (0 : Int32).toInt = 0 from rfl] at h8
  have h6 : (pt q s o).toInt = (q 7 (6 * s + o)).toInt := rfl
  have h5 := hP.1 o ho
  have h4 := hP.2
  unfold tot at h4
  omega
theorem p_sell (h : RS q p) (s a b m : Int32) : RS (cSell q s a b m).2 (mSell p s a b m) ∧ kO IAE (cSell q s a b m).1 = mSell p s a b m 31 0 ∧ ((cSell q s a b m).1 = .inl none ∨ (cSell q s a b m).1 = .inr IAE ∨ (cSell q s a b m).1 = .inr ISE) ∧ frQ q (cSell q s a b m).2 ∧ frP p (mSell p s a b m) := by
  have hge : gSe s a b m = (isW s 0 3 && (two5 a b && isW m 1 1000000)) := by
    unfold gSe two5
    cases isW s 0 3 <;> cases isW a 0 5 <;> cases isW b 0 5 <;> cases decide (a = b) <;> rfl
  cases h1 : isW s 0 3 with
  | false =>
    rw [show cSell q s a b m = (.inr IAE, q) by simp [cSell, h1], show mSell p s a b m = qv p 31 0 1 by simp [mSell, seB, hge, rfM, h1]]
    exact ⟨RS_ref h 1, kO_1, Or.inr (Or.inl rfl), frQ_r, frP_ref 1⟩
  | true =>
  cases h2 : two5 a b with
  | false =>
    rw [show cSell q s a b m = (.inr IAE, q) by simp [cSell, h1, h2], show mSell p s a b m = qv p 31 0 1 by simp [mSell, seB, hge, rfM, h2]]
    exact ⟨RS_ref h 1, kO_1, Or.inr (Or.inl rfl), frQ_r, frP_ref 1⟩
  | true =>
  cases h3 : isW m 1 1000000 with
  | false =>
    rw [show cSell q s a b m = (.inr IAE, q) by simp [cSell, h1, h2, h3], show mSell p s a b m = qv p 31 0 1 by simp [mSell, seB, hge, rfM, h3]]
    exact ⟨RS_ref h 1, kO_1, Or.inr (Or.inl rfl), frQ_r, frP_ref 1⟩
  | true =>
    rw [h1, h2, h3] at hge
    have hge : gSe s a b m = true := hge
    obtain ⟨g1, g2, g3⟩ := two5_t h2
    obtain ⟨t, ht, rfl, et⟩ := w3 h1
    obtain ⟨i, hi, rfl, ei⟩ := w5 g1
    obtain ⟨j, hj, rfl, ej⟩ := w5 g2
    have hij : i ≠ j := fun e => g3 (by rw [e])
    have hm := isW_i.mp h3
    rw [show (1 : Int32).toInt = 1 from rfl, show (1000000 : Int32).toInt = 1000000 from rfl] at hm
    obtain ⟨⟨a1, a2, a3, a4, a5, a6⟩, a7, a8, b1, b2, b3, b4, b5, b6, b7, b8⟩ := id h
    have hP := b1 t ht
    have hpi := pt_le hP hi
    have hpj := pt_le hP hj
    have hfr := (freeC_I (q := q) (o := i) b3 ht hpi.2 (b4 t i ht hi) 6 (Nat.le_refl _))
    have esb : seB p (nI t) (nI i) (nI j) m = decide (freeC (q 7) (q 6) (q 8) t (nI i) (q 7 (6 * t + i)) 6 < m) := by
      unfold seB; rw [hge, et, ei, free_eq h, a5, Bool.true_and]
    by_cases hf : freeC (q 7) (q 6) (q 8) t (nI i) (q 7 (6 * t + i)) 6 < m
    · rw [show cSell q (nI t) (nI i) (nI j) m = (.inr ISE, q) by simp [cSell, h1, h2, h3, et, ei, ej, hf], show mSell p (nI t) (nI i) (nI j) m = qv p 31 0 2 by simp [mSell, hge, esb, rfM, hf]]
      exact ⟨RS_ref h 2, kO_2, Or.inr (Or.inr rfl), frQ_r, frP_ref 2⟩
    · have hf2 : m.toInt ≤ (q 7 (6 * t + i)).toInt - plI q t i 6 := by
        rw [ltI, hfr.1] at hf; omega
      have ec : cSell q (nI t) (nI i) (nI j) m = if ntz (grpC (q 5) i &&& bt j) = false ∧ q 4 t < sumC q t (grpC (q 5) j) 6 + m then (.inr ISE, q) else (.inl none, qv (qv q 7 (6 * t + i) (q 7 (6 * t + i) - m)) 7 (6 * t + j) (qv q 7 (6 * t + i) (q 7 (6 * t + i) - m) 7 (6 * t + j) + m)) := by
        simp only [cSell, h1, h2, h3, et, ei, ej, if_neg hf, Bool.true_eq_false, if_false, ngI]
      have em : mSell p (nI t) (nI i) (nI j) m = seE (6 * t + i) (6 * t + j) m (ftM t (qv (qv (qv p 31 0 0) 36 (6 * t + i) (p 36 (6 * t + i) - m)) 36 (6 * t + j) (qv (qv p 31 0 0) 36 (6 * t + i) (p 36 (6 * t + i) - m) 36 (6 * t + j) + m) 33 t) 6 (qv (qv (qv p 31 0 0) 36 (6 * t + i) (p 36 (6 * t + i) - m)) 36 (6 * t + j) (qv (qv p 31 0 0) 36 (6 * t + i) (p 36 (6 * t + i) - m) 36 (6 * t + j) + m))) := by
        have hs : (!gSe (nI t) (nI i) (nI j) m || seB p (nI t) (nI i) (nI j) m) = false := by rw [hge, esb, decide_eq_false hf]; rfl
        have hr : rfM (!gSe (nI t) (nI i) (nI j) m) (seB p (nI t) (nI i) (nI j) m) = 0 := by rw [hge, esb, decide_eq_false hf]; rfl
        unfold mSell
        rw [if_neg (by rw [hs]; decide), hr, et, ei, ej]
        rfl
      rw [em, ec]
      -- the parts moved
      have hne : 6 * t + j ≠ 6 * t + i := by omega
      have x1 : (q 7 (6 * t + i) - m).toInt = (q 7 (6 * t + i)).toInt - m.toInt := subI (by omega) (by omega)
      have e7j : qv q 7 (6 * t + i) (q 7 (6 * t + i) - m) 7 (6 * t + j) = q 7 (6 * t + j) := pk_un hne
      have x2 : (q 7 (6 * t + j) + m).toInt = (q 7 (6 * t + j)).toInt + m.toInt := addI (by omega) (by omega)
      have e36j : qv (qv p 31 0 0) 36 (6 * t + i) (p 36 (6 * t + i) - m) 36 (6 * t + j) = p 36 (6 * t + j) := pk_un hne
      rw [e7j, e36j]
      have hpt : ∀ k : Nat, k < 6 → pt (qv (qv q 7 (6 * t + i) (q 7 (6 * t + i) - m)) 7 (6 * t + j) (q 7 (6 * t + j) + m)) t k = upd (upd (pt q t) i (q 7 (6 * t + i) - m)) j (q 7 (6 * t + j) + m) k := fun k hk => by
        show upd (upd (q 7) (6 * t + i) _) (6 * t + j) _ (6 * t + k) = _
        rw [upd_in hj hk, if_pos rfl]
        by_cases e : k = j
        · rw [e, pk_us, pk_us]
        · rw [pk_un e, pk_un e, upd_in hi hk, if_pos rfl]
      have hpn : ∀ s : Nat, s ≠ t → ∀ k : Nat, k < 6 → pt (qv (qv q 7 (6 * t + i) (q 7 (6 * t + i) - m)) 7 (6 * t + j) (q 7 (6 * t + j) + m)) s k = pt q s k := fun s hs k hk => by
        show upd (upd (q 7) (6 * t + i) _) (6 * t + j) _ (6 * s + k) = _
        rw [upd_in hj hk, if_neg hs, upd_in hi hk, if_neg hs]
      have hsum : ∀ g : Nat → Bool, sI (pt (qv (qv q 7 (6 * t + i) (q 7 (6 * t + i) - m)) 7 (6 * t + j) (q 7 (6 * t + j) + m)) t) g 6 = sI (pt q t) g 6 + (if g j = true then m.toInt else 0) - (if g i = true then m.toInt else 0) := fun g => by
        rw [sI_f hpt 6 (Nat.le_refl _), sI_upd6 hj, sI_upd6 hi, pk_un (Ne.symm hij), x1, x2]
        have h6 : (pt q t i).toInt = (q 7 (6 * t + i)).toInt := rfl
        have h7 : (pt q t j).toInt = (q 7 (6 * t + j)).toInt := rfl
        split <;> split <;> omega
      have hpl : 0 ≤ plI q t i 6 := hfr.2.1
      have hPn : PtOK (pt (qv (qv q 7 (6 * t + i) (q 7 (6 * t + i) - m)) 7 (6 * t + j) (q 7 (6 * t + j) + m)) t) := by
        refine ⟨fun k hk => ?_, ?_⟩
        · rw [hpt k hk]
          by_cases e : k = j
          · rw [e, pk_us, x2]; omega
          · rw [pk_un e]
            by_cases e2 : k = i
            · rw [e2, pk_us, x1]; omega
            · rw [pk_un e2]; exact hP.1 k hk
        · unfold tot; rw [hsum, if_pos rfl]; have := hP.2; unfold tot at this; omega
      have e7 : qv (qv q 7 (6 * t + i) (q 7 (6 * t + i) - m)) 7 (6 * t + j) (q 7 (6 * t + j) + m) 7 = qv (qv (qv p 31 0 0) 36 (6 * t + i) (p 36 (6 * t + i) - m)) 36 (6 * t + j) (p 36 (6 * t + j) + m) 36 := by
        show upd (upd (q 7) _ _) _ _ = upd (upd (p 36) _ _) _ _; rw [a5]
      have hfit := fits_i (q := qv (qv q 7 (6 * t + i) (q 7 (6 * t + i) - m)) 7 (6 * t + j) (q 7 (6 * t + j) + m)) (p := qv (qv (qv p 31 0 0) 36 (6 * t + i) (p 36 (6 * t + i) - m)) 36 (6 * t + j) (p 36 (6 * t + j) + m)) (s := t) (cap := qv (qv (qv p 31 0 0) 36 (6 * t + i) (p 36 (6 * t + i) - m)) 36 (6 * t + j) (p 36 (6 * t + j) + m) 33 t) e7 a7 hPn
      have e33 : (qv (qv (qv p 31 0 0) 36 (6 * t + i) (p 36 (6 * t + i) - m)) 36 (6 * t + j) (p 36 (6 * t + j) + m) 33 t).toInt = (q 4 t).toInt := by rw [a2]; rfl
      rw [e33] at hfit
      have bg := sI_bd (g := grp (LC (q 5)) j) hP (n := 6) (Nat.le_refl _)
      have eg : (sumC q t (grpC (q 5) j) 6 + m).toInt = m.toInt + sI (pt q t) (grp (LC (q 5)) j) 6 := by
        rw [addI, sumG_B hj, sB_I hP 6 (Nat.le_refl _)]
        · omega
        · rw [sumG_B hj, sB_I hP 6 (Nat.le_refl _)]; omega
        · rw [sumG_B hj, sB_I hP 6 (Nat.le_refl _)]; omega
      have eone : ntz (grpC (q 5) i &&& bt j) = grp (LC (q 5)) i j := grpC_g hi j hj
      have hcap : (∀ o : Nat, o < 6 → sI (pt (qv (qv q 7 (6 * t + i) (q 7 (6 * t + i) - m)) 7 (6 * t + j) (q 7 (6 * t + j) + m)) t) (grp (LC (q 5)) o) 6 ≤ (q 4 t).toInt) ↔ ¬ (ntz (grpC (q 5) i &&& bt j) = false ∧ q 4 t < sumC q t (grpC (q 5) j) 6 + m) := by
        rw [ltI, eg, eone]
        constructor
        · intro hh ⟨k1, k2⟩
          have h9 := hh j hj
          have k3 : ¬ grp (LC (q 5)) j i = true := fun z => absurd (grp_sym b8 hj hi z) (by rw [k1]; decide)
          rw [hsum, if_pos (grp_C hj).1, if_neg k3] at h9
          omega
        · intro hh o ho
          have h8 := b2 t o ht ho
          rw [hsum]
          by_cases c1 : grp (LC (q 5)) o j = true
          · rw [if_pos c1]
            by_cases c2 : grp (LC (q 5)) o i = true
            · rw [if_pos c2]; omega
            · rw [if_neg c2]
              have c3 : grp (LC (q 5)) i j = false := by
                cases e : grp (LC (q 5)) i j with
                | false => rfl
                | true =>
                  have e2 := grp_same b8 ho hj c1 i hi
                  have e3 := grp_sym b8 hi hj e
                  rw [e3] at e2
                  exact absurd e2.symm c2
              have e4 : sI (pt q t) (grp (LC (q 5)) o) 6 = sI (pt q t) (grp (LC (q 5)) j) 6 := (sI_e (grp_same b8 ho hj c1) 6 (Nat.le_refl _)).symm
              have h7 : ¬ (q 4 t).toInt < m.toInt + sI (pt q t) (grp (LC (q 5)) j) 6 := fun z => hh ⟨c3, z⟩
              omega
          · rw [if_neg c1]
            split <;> omega
      have hfit : (ftM t (qv (qv (qv p 31 0 0) 36 (6 * t + i) (p 36 (6 * t + i) - m)) 36 (6 * t + j) (p 36 (6 * t + j) + m) 33 t) 6 (qv (qv (qv p 31 0 0) 36 (6 * t + i) (p 36 (6 * t + i) - m)) 36 (6 * t + j) (p 36 (6 * t + j) + m))).1 = true ↔ ¬ (ntz (grpC (q 5) i &&& bt j) = false ∧ q 4 t < sumC q t (grpC (q 5) j) 6 + m) := hfit.trans hcap
      have hz2 : ∀ k : Nat, k ≠ 39 → (ftM t (qv (qv (qv p 31 0 0) 36 (6 * t + i) (p 36 (6 * t + i) - m)) 36 (6 * t + j) (p 36 (6 * t + j) + m) 33 t) 6 (qv (qv (qv p 31 0 0) 36 (6 * t + i) (p 36 (6 * t + i) - m)) 36 (6 * t + j) (p 36 (6 * t + j) + m))).2 k = qv (qv (qv p 31 0 0) 36 (6 * t + i) (p 36 (6 * t + i) - m)) 36 (6 * t + j) (p 36 (6 * t + j) + m) k := fun k hk => ftM_k hk 6
      revert hfit hz2
      generalize ftM t (qv (qv (qv p 31 0 0) 36 (6 * t + i) (p 36 (6 * t + i) - m)) 36 (6 * t + j) (p 36 (6 * t + j) + m) 33 t) 6 (qv (qv (qv p 31 0 0) 36 (6 * t + i) (p 36 (6 * t + i) - m)) 36 (6 * t + j) (p 36 (6 * t + j) + m)) = z
      obtain ⟨z1, z2⟩ := z
      intro hfit hz2
      dsimp only at hfit hz2 ⊢
      cases z1 with
      | false =>
        have hc : ntz (grpC (q 5) i &&& bt j) = false ∧ q 4 t < sumC q t (grpC (q 5) j) 6 + m := Classical.byContradiction fun z => absurd (hfit.mpr z) (by decide)
        rw [if_pos hc]
        have e1 : seE (6 * t + i) (6 * t + j) m (false, z2) = qv (qv (qv z2 31 0 2) 36 (6 * t + i) (z2 36 (6 * t + i) + m)) 36 (6 * t + j) (qv (qv z2 31 0 2) 36 (6 * t + i) (z2 36 (6 * t + i) + m) 36 (6 * t + j) - m) := rfl
        rw [e1]
        have e36 : qv (qv (qv z2 31 0 2) 36 (6 * t + i) (z2 36 (6 * t + i) + m)) 36 (6 * t + j) (qv (qv z2 31 0 2) 36 (6 * t + i) (z2 36 (6 * t + i) + m) 36 (6 * t + j) - m) 36 = p 36 := by
          show upd (upd (z2 36) (6 * t + i) (z2 36 (6 * t + i) + m)) (6 * t + j) (upd (z2 36) (6 * t + i) (z2 36 (6 * t + i) + m) (6 * t + j) - m) = p 36
          rw [hz2 36 (by decide), show qv (qv (qv p 31 0 0) 36 (6 * t + i) (p 36 (6 * t + i) - m)) 36 (6 * t + j) (p 36 (6 * t + j) + m) 36 = upd (upd (p 36) (6 * t + i) (p 36 (6 * t + i) - m)) (6 * t + j) (p 36 (6 * t + j) + m) from rfl]
          funext k
          by_cases e : k = 6 * t + j
          · rw [e, pk_us, pk_un hne, pk_us, Int32.add_sub_cancel]
          · rw [pk_un e]
            by_cases e2 : k = 6 * t + i
            · rw [e2, pk_us, pk_un (Ne.symm hne), pk_us, Int32.sub_add_cancel]
            · rw [pk_un e2, pk_un e, pk_un e2]
        have e9 : ∀ k : Nat, k ≠ 31 → k ≠ 39 → qv (qv (qv z2 31 0 2) 36 (6 * t + i) (z2 36 (6 * t + i) + m)) 36 (6 * t + j) (qv (qv z2 31 0 2) 36 (6 * t + i) (z2 36 (6 * t + i) + m) 36 (6 * t + j) - m) k = p k := fun k h8 h9 => by
          by_cases e : k = 36
          · rw [e]; exact e36
          · rw [qv_n e, qv_n e, qv_n h8, hz2 k h9, qv_n e, qv_n e, qv_n h8]
        refine ⟨RS_p h fun k k1 k2 => e9 k (by omega) (by omega), kO_2, Or.inr (Or.inr rfl), frQ_r, fun k hk => e9 k (by omega) (by omega), ?_, ?_, ?_⟩
        · show z2 31 9 = _; rw [hz2 31 (by decide)]; rfl
        · show z2 31 10 = _; rw [hz2 31 (by decide)]; rfl
        · show z2 31 20 = _; rw [hz2 31 (by decide)]; rfl
      | true =>
        have hc := hfit.mp rfl
        rw [if_neg hc]
        have e1 : seE (6 * t + i) (6 * t + j) m (true, z2) = qv z2 31 0 0 := rfl
        rw [e1]
        dsimp only
        have e9 : ∀ k : Nat, 32 ≤ k → k ≠ 39 → qv z2 31 0 0 k = qv (qv (qv p 31 0 0) 36 (6 * t + i) (p 36 (6 * t + i) - m)) 36 (6 * t + j) (p 36 (6 * t + j) + m) k := fun k h8 h9 => by rw [qv_n (by omega), hz2 k h9]
        refine ⟨⟨⟨?_, ?_, ?_, ?_, ?_, ?_⟩, ?_, ?_, ?_, ?_, b3, ?_, b5, b6, b7, b8⟩, rfl, Or.inl rfl, fun k hk => by rw [qv_n (by omega), qv_n (by omega)], ?_, ?_, ?_, ?_⟩
        · rw [e9 32 (by decide) (by decide)]; exact a1
        · rw [e9 33 (by decide) (by decide)]; exact a2
        · rw [e9 34 (by decide) (by decide)]; exact a3
        · rw [e9 35 (by decide) (by decide)]; exact a4
        · rw [e9 36 (by decide) (by decide)]; exact e7
        · rw [e9 37 (by decide) (by decide)]; exact a6
        · rw [LM_k (e9 38 (by decide) (by decide))]; exact a7
        · rw [e9 38 (by decide) (by decide)]; exact a8
        · intro s hs
          by_cases e : s = t
          · rw [e]; exact hPn
          · exact PtOK_f (fun k hk => (hpn s e k hk).symm) (b1 s hs)
        · intro s o hs ho
          by_cases e : s = t
          · rw [e]; exact hcap.mpr hc o ho
          · have h9 := b2 s o hs ho
            rw [← sI_f (hpn s e) 6 (Nat.le_refl _)] at h9
            exact h9
        · intro s o hs ho
          have h9 := b4 s o hs ho
          show plI q s o 6 ≤ (upd (upd (q 7) (6 * t + i) (q 7 (6 * t + i) - m)) (6 * t + j) (q 7 (6 * t + j) + m) (6 * s + o)).toInt
          by_cases e : 6 * s + o = 6 * t + j
          · rw [e, pk_us, x2]; rw [e] at h9; omega
          · rw [pk_un e]
            by_cases e2 : 6 * s + o = 6 * t + i
            · have e3 : s = t := by omega
              have e4 : o = i := by omega
              rw [e2, pk_us, x1, e3, e4]; omega
            · rw [pk_un e2]; exact h9
        · intro k hk
          rw [e9 k (by omega) (by omega), qv_n (by omega), qv_n (by omega), qv_n (by omega)]
        · show z2 31 9 = _; rw [hz2 31 (by decide)]; rfl
        · show z2 31 10 = _; rw [hz2 31 (by decide)]; rfl
        · show z2 31 20 = _; rw [hz2 31 (by decide)]; rfl
end SH3
