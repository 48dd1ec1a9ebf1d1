/-! the calls that read the years, and reopen: class against reference -/
def RR (q p : Nat → Nat → Int32) : Prop := RS q p ∧ ∃ y n : Nat, RY q p y n
theorem RS_q {q q' p : Nat → Nat → Int32} (h : RS q p) (e : ∀ k : Nat, 1 ≤ k → k ≤ 8 → q' k = q k) : RS q' p := by
  unfold RS RC pt plI at h ⊢
  rw [e 1 (by omega) (by omega), e 2 (by omega) (by omega), e 4 (by omega) (by omega), e 5 (by omega) (by omega), e 6 (by omega) (by omega), e 7 (by omega) (by omega), e 8 (by omega) (by omega)]
  exact h
theorem ctC_0 {f : Nat → Int32} : ctC f 0 = 0 := rfl
theorem ctC_s {f : Nat → Int32} {n : Nat} : ctC f (n + 1) = if f n = 0 then ctC f n else ctC f n + 1 := rfl
theorem ctC_c {f g : Nat → Int32} : ∀ n : Nat, (∀ i : Nat, i < n → f i = g i) → ctC f n = ctC g n
  | 0, _ => by rw [ctC_0, ctC_0]
  | n + 1, h => by rw [ctC_s, ctC_s, h n (by omega), ctC_c n (fun i hi => h i (by omega))]
section RD
variable {q p : Nat → Nat → Int32} {y n : Nat}
theorem RR_ref (hS : RS q p) (hY : RY q p y n) (x : Int32) : RR q (qv p 31 0 x) := ⟨RS_ref hS x, y, n, RY_ref hY x⟩
theorem left_eq (hY : RY q p y n) {t j : Nat} (h1 : 1 ≤ t) (h2 : t ≤ y) (hj : j < 24) : leftF q (24 * t + j) = leftM p (24 * t + j) := by
  obtain ⟨a, -, -⟩ := RY_acc hY h1 h2
  unfold leftF leftM
  rw [a 10 (by omega) (by omega) j hj, a 11 (by omega) (by omega) j hj, a 12 (by omega) (by omega) j hj, a 13 (by omega) (by omega) j hj, a 14 (by omega) (by omega) j hj]
theorem fg_eq (hY : RY q p y n) {t j : Nat} (w : Nat) (h1 : 1 ≤ t) (h2 : t ≤ y) (hj : j < 24) : fgC q (24 * t + j) w = fgM p (24 * t + j) w := by
  have el := left_eq hY h1 h2 hj
  obtain ⟨a, -, -⟩ := RY_acc hY h1 h2
  match w with
  | 0 => exact a 10 (by omega) (by omega) j hj
  | 1 => exact a 11 (by omega) (by omega) j hj
  | 2 => exact a 12 (by omega) (by omega) j hj
  | 3 => exact a 13 (by omega) (by omega) j hj
  | 4 => exact a 14 (by omega) (by omega) j hj
  | 5 => exact el
  | 6 => exact a 15 (by omega) (by omega) j hj
  | 7 => exact a 16 (by omega) (by omega) j hj
  | w + 8 => exact a 17 (by omega) (by omega) j hj
theorem t_account (hS : RS q p) (hY : RY q p y n) (z v s w : Int32) : RR (cAccount q z v s w).2 (mAccount p z v s w).2 ∧ kO IAE (cAccount q z v s w).1 = (mAccount p z v s w).2 31 0 ∧ ((∃ x : Int32, (cAccount q z v s w).1 = .inl (some (.int x)) ∧ (mAccount p z v s w).1 = x) ∨ (cAccount q z v s w).1 = .inr IAE) := by
  obtain ⟨⟨a1, a2, a3, a4⟩, ⟨b1, b2, b3, b4⟩, c1, c2, c3⟩ := id hY.1
  have e9 : p 31 9 = q 0 6 := b1.trans a1.symm
  cases h1 : isW z 1 (q 0 6) with
  | false =>
    rw [show cAccount q z v s w = (.inr IAE, q) by simp [cAccount, h1], show mAccount p z v s w = (0, qv p 31 0 1) by simp [mAccount, gAc, rfM, e9, h1]]
    exact ⟨RR_ref hS hY 1, kO_1, Or.inr rfl⟩
  | true =>
  cases h2 : isW v 0 5 with
  | false =>
    rw [show cAccount q z v s w = (.inr IAE, q) by simp [cAccount, h1, h2], show mAccount p z v s w = (0, qv p 31 0 1) by simp [mAccount, gAc, rfM, h2]]
    exact ⟨RR_ref hS hY 1, kO_1, Or.inr rfl⟩
  | true =>
  cases h3 : isW s 0 3 with
  | false =>
    rw [show cAccount q z v s w = (.inr IAE, q) by simp [cAccount, h1, h2, h3], show mAccount p z v s w = (0, qv p 31 0 1) by simp [mAccount, gAc, rfM, h3]]
    exact ⟨RR_ref hS hY 1, kO_1, Or.inr rfl⟩
  | true =>
  cases h4 : isW w 0 8 with
  | false =>
    rw [show cAccount q z v s w = (.inr IAE, q) by simp [cAccount, h1, h2, h3, h4], show mAccount p z v s w = (0, qv p 31 0 1) by simp [mAccount, gAc, rfM, h4]]
    exact ⟨RR_ref hS hY 1, kO_1, Or.inr rfl⟩
  | true =>
    rw [show cAccount q z v s w = (.inl (some (.int (fgC q (24 * tN z + 4 * tN v + tN s) (tN w)))), q) by simp [cAccount, h1, h2, h3, h4], show mAccount p z v s w = (fgM p (24 * tN z + 4 * tN v + tN s) (tN w), qv p 31 0 0) by simp [mAccount, gAc, rfM, e9, h1, h2, h3, h4]]
    refine ⟨RR_ref hS hY 0, rfl, Or.inl ⟨_, rfl, ?_⟩⟩
    rw [a1] at h1
    obtain ⟨t, t1, t2, rfl, et⟩ := wy a2 h1
    obtain ⟨i, hi, rfl, ei⟩ := w5 h2
    obtain ⟨j, hj, rfl, ej⟩ := w3 h3
    rw [et, ei, ej, Nat.add_assoc]
    exact (fg_eq hY (tN w) t1 t2 (by omega)).symm
theorem lv1_0 {a : Int64} {t v : Nat} : lv1 p t v 0 a = a := rfl
theorem lv1_s {a : Int64} {t v m : Nat} : lv1 p t v (m + 1) a = lv1 p t v m a + (p 48 (24 * t + 4 * v + m)).toInt64 * (p 32 m).toInt64 := rfl
theorem lvV_0 {t v : Nat} : lvV q v t 0 = 0 := rfl
theorem lvV_s {t v m : Nat} : lvV q v t (m + 1) = lvV q v t m + (q 17 (24 * t + 4 * v + m)).toInt64 * (q 1 m).toInt64 := rfl
theorem lvO_0 {o : Int32} {t : Nat} : lvO q o t 0 = 0 := rfl
theorem lvO_s {o : Int32} {t m : Nat} : lvO q o t (m + 1) = if q 6 m = o then lvO q o t m + lvV q m t 4 else lvO q o t m := rfl
theorem lvM_0 {o : Int32} {t : Nat} : lvM p o t 0 = 0 := rfl
theorem lvM_s {o : Int32} {t m : Nat} : lvM p o t (m + 1) = if p 35 m = o then lv1 p t m 4 (lvM p o t m) else lvM p o t m := rfl
theorem lv1_eq {t v : Nat} (h1 : q 1 = p 32) (h : ∀ j : Nat, j < 24 → q 17 (24 * t + j) = p 48 (24 * t + j)) (hv : v < 6) (a : Int64) : ∀ m : Nat, m ≤ 4 → lv1 p t v m a = a + lvV q v t m
  | 0, _ => by rw [lv1_0, lvV_0, Int64.add_zero]
  | m + 1, hm => by
    have h9 := h (4 * v + m) (by omega)
    rw [← Nat.add_assoc] at h9
    rw [lv1_s, lvV_s, lv1_eq h1 h hv a m (by omega), h1, h9, Int64.add_assoc]
theorem lvO_eq {o : Int32} {t : Nat} (h1 : q 1 = p 32) (h6 : q 6 = p 35) (h : ∀ j : Nat, j < 24 → q 17 (24 * t + j) = p 48 (24 * t + j)) : ∀ m : Nat, m ≤ 6 → lvM p o t m = lvO q o t m
  | 0, _ => by rw [lvM_0, lvO_0]
  | m + 1, hm => by
    rw [lvM_s, lvO_s, lvO_eq h1 h6 h m (by omega), h6, lv1_eq h1 h (by omega) _ 4 (Nat.le_refl _)]
theorem t_levy (hS : RS q p) (hY : RY q p y n) (o z : Int32) : RR (cLevy q o z).2 (mLevy p o z).2 ∧ kO IAE (cLevy q o z).1 = (mLevy p o z).2 31 0 ∧ ((∃ x : Int64, (cLevy q o z).1 = .inl (some (.long x)) ∧ (mLevy p o z).1 = x) ∨ (cLevy q o z).1 = .inr IAE) := by
  obtain ⟨⟨a1, a2, a3, a4⟩, ⟨b1, b2, b3, b4⟩, c1, c2, c3⟩ := id hY.1
  have e9 : p 31 9 = q 0 6 := b1.trans a1.symm
  cases h1 : isW o 0 5 with
  | false =>
    rw [show cLevy q o z = (.inr IAE, q) by simp [cLevy, h1], show mLevy p o z = (0, qv p 31 0 1) by simp [mLevy, gLy, rfM, h1]]
    exact ⟨RR_ref hS hY 1, kO_1, Or.inr rfl⟩
  | true =>
  cases h2 : isW z 1 (q 0 6) with
  | false =>
    rw [show cLevy q o z = (.inr IAE, q) by simp [cLevy, h1, h2], show mLevy p o z = (0, qv p 31 0 1) by simp [mLevy, gLy, rfM, e9, h2]]
    exact ⟨RR_ref hS hY 1, kO_1, Or.inr rfl⟩
  | true =>
    rw [show cLevy q o z = (.inl (some (.long (lvO q o (tN z) 6))), q) by simp [cLevy, h1, h2], show mLevy p o z = (lvM p o (tN z) 6, qv p 31 0 0) by simp [mLevy, gLy, rfM, e9, h1, h2]]
    refine ⟨RR_ref hS hY 0, rfl, Or.inl ⟨_, rfl, ?_⟩⟩
    rw [a1] at h2
    obtain ⟨t, t1, t2, rfl, et⟩ := wy a2 h2
    rw [et]
    exact lvO_eq hS.1.1 hS.1.2.2.2.1 (fun j hj => (RY_acc hY t1 t2).1 17 (by omega) (by omega) j hj) 6 (Nat.le_refl _)
theorem cn_eq (hY : RY q p y n) {i : Nat} (hi : i < n) : q 29 i = p 57 i := by
  obtain ⟨d1, d2, d3, d4⟩ := hY.2.1.1 i hi
  exact (RY_acc hY d2.1 d2.2).2.1 i hi d1.1
theorem t_event (hS : RS q p) (hY : RY q p y n) (i w : Int32) : RR (cEvent q i w).2 (mEvent p i w).2 ∧ kO IOE (cEvent q i w).1 = (mEvent p i w).2 31 0 ∧ ((∃ x : Int32, (cEvent q i w).1 = .inl (some (.int x)) ∧ (mEvent p i w).1 = x) ∨ (cEvent q i w).1 = .inr IOE ∨ (cEvent q i w).1 = .inr IAE) := by
  obtain ⟨⟨a1, a2, a3, a4⟩, ⟨b1, b2, b3, b4⟩, c1, c2, c3⟩ := id hY.1
  have e9 : p 31 20 = q 20 9 := b2.trans a3.symm
  cases h1 : isW i 0 (q 20 9 - 1) with
  | false =>
    rw [show cEvent q i w = (.inr IOE, q) by simp [cEvent, h1], show mEvent p i w = (0, qv p 31 0 1) by simp [mEvent, rfM, e9, h1]]
    exact ⟨RR_ref hS hY 1, kO_1, Or.inr (Or.inl rfl)⟩
  | true =>
  cases h2 : isW w 0 3 with
  | false =>
    rw [show cEvent q i w = (.inr IAE, q) by simp [cEvent, h1, h2], show mEvent p i w = (0, qv p 31 0 2) by simp [mEvent, evB, rfM, e9, h1, h2]]
    exact ⟨RR_ref hS hY 2, kO_4, Or.inr (Or.inr rfl)⟩
  | true =>
    rw [show cEvent q i w = (.inl (some (.int (efC q (tN i) (tN w)))), q) by simp [cEvent, h1, h2], show mEvent p i w = (if w = 0 then p 49 (tN i) else if w = 1 then p 50 (tN i) else if w = 2 then (if p 57 (tN i) = 0 then 0 else 1) else p 55 (tN i), qv p 31 0 0) by simp [mEvent, evB, rfM, e9, h1, h2]]
    refine ⟨RR_ref hS hY 0, rfl, Or.inl ⟨_, rfl, ?_⟩⟩
    rw [a3] at h1
    obtain ⟨k, hk, rfl, ek⟩ := wI a4 h1
    obtain ⟨m, hm, rfl, em⟩ := w3 h2
    obtain ⟨d1, d2, ⟨g1, g2, g3, g4, g5, g6, g7, g8⟩, d4⟩ := hY.2.1.1 k hk
    rw [toQ_hi (by decide)] at g1 g2 g7
    have hc := cn_eq hY hk
    rw [ek, em]
    match m, hm with
    | 0, _ => rw [if_pos (show nI 0 = 0 by decide)]; exact g1.symm
    | 1, _ => rw [if_neg (show ¬ nI 1 = 0 by decide), if_pos (show nI 1 = 1 by decide)]; exact g2.symm
    | 2, _ =>
      rw [if_neg (show ¬ nI 2 = 0 by decide), if_neg (show ¬ nI 2 = 1 by decide), if_pos (show nI 2 = 2 by decide), ← hc]
      show _ = bI (ntz (q 29 k))
      by_cases c : q 29 k = 0
      · rw [if_pos c, ntz_f c]; rfl
      · rw [if_neg c, ntz_t c]; rfl
    | 3, _ => rw [if_neg (show ¬ nI 3 = 0 by decide), if_neg (show ¬ nI 3 = 1 by decide), if_neg (show ¬ nI 3 = 2 by decide)]; exact g7.symm
    | m + 4, h => exact absurd h (by omega)
theorem t_about (hS : RS q p) (hY : RY q p y n) (w : Int32) : RR (cAbout q w).2 (mAbout p n w).2 ∧ kO IAE (cAbout q w).1 = (mAbout p n w).2 31 0 ∧ ((∃ x : Int32, (cAbout q w).1 = .inl (some (.int x)) ∧ (mAbout p n w).1 = x) ∨ (cAbout q w).1 = .inr IAE) := by
  obtain ⟨⟨a1, a2, a3, a4⟩, ⟨b1, b2, b3, b4⟩, c1, c2, c3⟩ := id hY.1
  cases h1 : isW w 0 3 with
  | false =>
    rw [show cAbout q w = (.inr IAE, q) by simp [cAbout, h1], show mAbout p n w = (0, qv p 31 0 1) by simp [mAbout, rfM, h1]]
    exact ⟨RR_ref hS hY 1, kO_1, Or.inr rfl⟩
  | true =>
    rw [show cAbout q w = (.inl (some (.int (abC q (tN w)))), q) by simp [cAbout, h1], show mAbout p n w = (if w < 2 then (if w = 0 then p 31 9 else if p 31 10 = 0 then 0 else 1) else if w = 2 then p 31 20 else ctC (p 57) n, qv p 31 0 0) by simp [mAbout, rfM, h1]]
    refine ⟨RR_ref hS hY 0, rfl, Or.inl ⟨_, rfl, ?_⟩⟩
    obtain ⟨m, hm, rfl, em⟩ := w3 h1
    rw [em]
    match m, hm with
    | 0, _ => rw [if_pos (show nI 0 < 2 by decide), if_pos (show nI 0 = 0 by decide), b1]; exact a1.symm
    | 1, _ =>
      rw [if_pos (show nI 1 < 2 by decide), if_neg (show ¬ nI 1 = 0 by decide), b3]
      show _ = bI (ntz (q 0 7))
      by_cases c : q 0 7 = 0
      · rw [if_pos c, ntz_f c]; rfl
      · rw [if_neg c, ntz_t c]; rfl
    | 2, _ => rw [if_neg (show ¬ nI 2 < 2 by decide), if_pos (show nI 2 = 2 by decide), b2]; exact a3.symm
    | 3, _ =>
      rw [if_neg (show ¬ nI 3 < 2 by decide), if_neg (show ¬ nI 3 = 2 by decide)]
      show ctC (p 57) n = ctC (q 29) (tN (q 20 9))
      rw [a3, tN_nI (by omega)]
      exact ctC_c n fun i hi => (cn_eq hY hi).symm
    | m + 4, h => exact absurd h (by omega)
theorem tk_eq (hY : RY q p y n) {t : Nat} (ht : t ≤ y) : tkC q (nI t) = tkM p t := by
  obtain ⟨⟨a1, a2, a3, a4⟩, ⟨b1, b2, b3, b4⟩, c1, c2, c3⟩ := id hY.1
  unfold tkC tkM opC
  rw [tN_nI (by omega), c1, b3, b1, a1]
  cases ntz (p 40 t) <;> cases ntz (q 0 7) && decide (nI t = nI y) <;> rfl
theorem t_reopen (hS : RS q p) (hY : RY q p y n) (z : Int32) : RR (cReopen q z).2 (mReopen p z) ∧ kO IAE (cReopen q z).1 = (mReopen p z) 31 0 ∧ ((cReopen q z).1 = .inl none ∨ (cReopen q z).1 = .inr IAE ∨ (cReopen q z).1 = .inr ISE) := by
  obtain ⟨hB, hE, hK, hM⟩ := id hY
  obtain ⟨⟨a1, a2, a3, a4⟩, ⟨b1, b2, b3, b4⟩, c1, c2, c3⟩ := hB
  have e9 : p 31 9 = q 0 6 := b1.trans a1.symm
  cases h1 : isW z 1 (q 0 6) with
  | false =>
    rw [show cReopen q z = (.inr IAE, q) by simp [cReopen, h1], show mReopen p z = qv p 31 0 1 by simp [mReopen, rfM, e9, h1]]
    exact ⟨RR_ref hS hY 1, kO_1, Or.inr (Or.inl rfl)⟩
  | true =>
    have h1' := h1
    rw [a1] at h1'
    obtain ⟨t, t1, t2, rfl, et⟩ := wy a2 h1'
    have ek := tk_eq hY t2
    cases h2 : tkC q (nI t) with
    | true =>
      rw [h2] at ek
      rw [show cReopen q (nI t) = (.inr ISE, q) by simp [cReopen, h1, h2], show mReopen p (nI t) = qv p 31 0 2 by simp [mReopen, roB, rfM, e9, h1, et, ← ek]]
      exact ⟨RR_ref hS hY 2, kO_2, Or.inr (Or.inr rfl)⟩
    | false =>
      rw [h2] at ek
      rw [show cReopen q (nI t) = (.inl none, qv q 30 t 1) by simp [cReopen, h1, h2, et], show mReopen p (nI t) = qv (qv p 31 0 0) 40 t 1 by simp [mReopen, roB, rfM, e9, h1, et, ← ek]]
      refine ⟨⟨RS_p (RS_q (q' := qv q 30 t 1) hS fun k k1 k2 => qv_n (by omega)) fun k k1 k2 => by rw [qv_n (by omega), qv_n (by omega)], y, n, ⟨⟨a1, a2, a3, a4⟩, ⟨b1, b2, b3, b4⟩, ?_, c2, c3⟩, RE_fr (q' := qv q 30 t 1) (p' := qv (qv p 31 0 0) 40 t 1) hE (fun k k1 k2 => qv_n (by omega)) (fun i hi k k1 k2 => by rw [qv_n (by omega), qv_n (by omega)]), RK_fr (q' := qv q 30 t 1) hK (fun i hi => (hE.1 i hi).1) (fun k hk => qv_n (by omega)), RM_fr (q' := qv q 30 t 1) (p' := qv (qv p 31 0 0) 40 t 1) hM (RE_ok hE) (qv_n (by omega)) (fun k k1 k2 => by rw [qv_n (by omega), qv_n (by omega)]) (fun i hi k k1 k2 => by rw [qv_n (by omega), qv_n (by omega)])⟩, rfl, Or.inl rfl⟩
      show upd (q 30) t 1 = upd (p 40) t 1
      rw [c1]
end RD
