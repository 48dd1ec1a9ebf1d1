/-! the years of a register: what both keep of them -/
theorem EqE_of {Q Q' : Nat → Nat → Int32} {i : Nat} (h : ∀ k : Nat, 21 ≤ k → k ≤ 28 → Q' k i = Q k i) : EqE Q Q' i :=
  ⟨(h 21 (by omega) (by omega)).symm, (h 22 (by omega) (by omega)).symm, (h 23 (by omega) (by omega)).symm, (h 24 (by omega) (by omega)).symm, fun _ => (h 25 (by omega) (by omega)).symm, (h 26 (by omega) (by omega)).symm, (h 27 (by omega) (by omega)).symm, (h 28 (by omega) (by omega)).symm⟩
theorem evOK_E {Q Q' : Nat → Nat → Int32} {i : Nat} (h : EqE Q Q' i) (ho : evOK Q i) : evOK Q' i := by
  obtain ⟨e1, e2, e3, e4, e5, -, -, -⟩ := h
  unfold evOK yr vs sp ot at ho ⊢
  rw [← e1, ← e2, ← e3, ← e4]
  obtain ⟨o1, o2, o3, o4, o5, o6, o7, o8⟩ := ho
  refine ⟨o1, o2, o3, o4, o5, o6, fun h => ?_, fun h h' => ?_⟩
  · rw [← e5 (by rw [h]; decide)]; exact o7 h
  · rw [← e5 h']; exact o8 h h'
theorem EvB_E {Q Q' : Nat → Nat → Int32} {i : Nat} (h : EqE Q Q' i) (hb : EvB Q i) : EvB Q' i := by
  obtain ⟨e1, -, -, -, -, e6, e7, -⟩ := h
  unfold EvB at hb ⊢
  rw [← e1, ← e6, ← e7]; exact hb
theorem ZF_c2 {Q Q' : Nat → Nat → Int32} {t : Nat} (hR : EqR Q Q' t) : ∀ n : Nat, (∀ i : Nat, i < n → Q' 22 i = Q 22 i) → (∀ i : Nat, i < n → Q 22 i = nI t → EqE Q Q' i) → (∀ i : Nat, i < n → evOK Q i) → EqT (ZF Q t n) (ZF Q' t n)
  | 0, _, _, _ => by rw [ZF_0, ZF_0]; exact EqT_r
  | n + 1, h22, hE, ho => by
    have ih := ZF_c2 hR n (fun i hi => h22 i (by omega)) (fun i hi => hE i (by omega)) (fun i hi => ho i (by omega))
    rw [ZF_s, ZF_s, h22 n (by omega)]
    by_cases c : Q 22 n = nI t
    · rw [if_pos c, if_pos c]
      exact (evF_c (hE n (by omega) c) hR ih (ho n (by omega))).2
    · rw [if_neg c, if_neg c]
      exact ih
/-- the consistency of a year, with what was exchanged in it -/
def CK (Q : Nat → Nat → Int32) (n t : Nat) (cl : Bool) : Prop := CN Q n t cl ∧ ∀ v : Nat, v < 6 → Q 18 (6 * t + v) = (ZF Q t n).2.2 v
theorem CN_m3 {Q Q' : Nat → Nat → Int32} {n t : Nat} {cl cl' : Bool} (h : CN Q n t cl) (hr : ∀ k : Nat, 10 ≤ k → k ≤ 14 → ∀ j : Nat, j < 24 → Q' k (24 * t + j) = Q k (24 * t + j)) (hp : ∀ k : Nat, 15 ≤ k → k ≤ 16 → ∀ j : Nat, j < 24 → Q' k (24 * t + j - 24) = Q k (24 * t + j - 24)) (h22 : ∀ i : Nat, i < n → Q' 22 i = Q 22 i) (hE : ∀ i : Nat, i < n → Q 22 i = nI t → EqE Q Q' i) (ho : ∀ i : Nat, i < n → evOK Q i) (hc : ∀ i : Nat, i < n → Q 22 i = nI t → Q' 29 i = Q 29 i) (h4 : ∀ j : Nat, j < 24 → clF Q' cl' (24 * t + j)) : CN Q' n t cl' ∧ EqT (ZF Q t n) (ZF Q' t n) := by
  have hR : EqR Q Q' t := ⟨fun j hj => (hr 10 (by omega) (by omega) j hj).symm, fun j hj => (hr 12 (by omega) (by omega) j hj).symm, fun j hj => (hr 13 (by omega) (by omega) j hj).symm⟩
  obtain ⟨h1, h2, h3, -⟩ := h
  have hZ := ZF_c2 hR n h22 hE ho
  refine ⟨⟨fun j hj => ?_, fun j hj => ?_, fun i hi hy => ?_, h4⟩, hZ⟩
  · rw [hr 12 (by omega) (by omega) j hj, hr 13 (by omega) (by omega) j hj, hp 15 (by omega) (by omega) j hj, hp 16 (by omega) (by omega) j hj]
    exact h1 j hj
  · rw [hr 11 (by omega) (by omega) j hj, hr 14 (by omega) (by omega) j hj, ← hZ.1 j hj, ← hZ.2.1 j hj]
    exact h2 j hj
  · have hy' : Q 22 i = nI t := by rw [← h22 i hi]; exact hy
    rw [hc i hi hy', h3 i hi hy']
    congr 1
    exact (evF_c (hE i hi hy') hR (ZF_c2 hR i (fun i' hi' => h22 i' (by omega)) (fun i' hi' => hE i' (by omega)) (fun i' hi' => ho i' (by omega))) (ho i hi)).1
theorem CN_m2 {Q Q' : Nat → Nat → Int32} {n t : Nat} {cl : Bool} (h : CN Q n t cl) (hr : ∀ k : Nat, 10 ≤ k → k ≤ 17 → ∀ j : Nat, j < 24 → Q' k (24 * t + j) = Q k (24 * t + j)) (hp : ∀ k : Nat, 15 ≤ k → k ≤ 16 → ∀ j : Nat, j < 24 → Q' k (24 * t + j - 24) = Q k (24 * t + j - 24)) (h22 : ∀ i : Nat, i < n → Q' 22 i = Q 22 i) (hE : ∀ i : Nat, i < n → Q 22 i = nI t → EqE Q Q' i) (ho : ∀ i : Nat, i < n → evOK Q i) (hc : ∀ i : Nat, i < n → Q 22 i = nI t → Q' 29 i = Q 29 i) : CN Q' n t cl ∧ EqT (ZF Q t n) (ZF Q' t n) := by
  refine CN_m3 h (fun k k1 k2 => hr k k1 (by omega)) hp h22 hE ho hc fun j hj => ?_
  have h5 := h.2.2.2 j hj
  unfold clF at h5 ⊢
  have el : leftF Q' (24 * t + j) = leftF Q (24 * t + j) := by
    unfold leftF
    rw [hr 10 (by omega) (by omega) j hj, hr 11 (by omega) (by omega) j hj, hr 12 (by omega) (by omega) j hj, hr 13 (by omega) (by omega) j hj, hr 14 (by omega) (by omega) j hj]
  rw [el, hr 10 (by omega) (by omega) j hj, hr 15 (by omega) (by omega) j hj, hr 16 (by omega) (by omega) j hj, hr 17 (by omega) (by omega) j hj]
  exact h5
theorem CK_m2 {Q Q' : Nat → Nat → Int32} {n t : Nat} {cl : Bool} (h : CK Q n t cl) (hr : ∀ k : Nat, 10 ≤ k → k ≤ 17 → ∀ j : Nat, j < 24 → Q' k (24 * t + j) = Q k (24 * t + j)) (hp : ∀ k : Nat, 15 ≤ k → k ≤ 16 → ∀ j : Nat, j < 24 → Q' k (24 * t + j - 24) = Q k (24 * t + j - 24)) (h22 : ∀ i : Nat, i < n → Q' 22 i = Q 22 i) (hE : ∀ i : Nat, i < n → Q 22 i = nI t → EqE Q Q' i) (ho : ∀ i : Nat, i < n → evOK Q i) (hc : ∀ i : Nat, i < n → Q 22 i = nI t → Q' 29 i = Q 29 i) (h18 : ∀ v : Nat, v < 6 → Q' 18 (6 * t + v) = Q 18 (6 * t + v)) : CK Q' n t cl := by
  obtain ⟨a, b⟩ := CN_m2 h.1 hr hp h22 hE ho hc
  exact ⟨a, fun v hv => by rw [h18 v hv, h.2 v hv]; exact b.2.2 v hv⟩
/-- an event of another year more -/
theorem ZF_x {Q : Nat → Nat → Int32} {n t : Nat} (h : ¬ Q 22 n = nI t) : ZF Q t (n + 1) = ZF Q t n := by rw [ZF_s, if_neg h]
theorem CN_x {Q : Nat → Nat → Int32} {n t : Nat} {cl : Bool} (h : CN Q n t cl) (hn : ¬ Q 22 n = nI t) : CN Q (n + 1) t cl := by
  obtain ⟨h1, h2, h3, h4⟩ := h
  refine ⟨h1, fun j hj => by rw [ZF_x hn]; exact h2 j hj, fun i hi hy => ?_, h4⟩
  by_cases e : i = n
  · rw [e] at hy; exact absurd hy hn
  · exact h3 i (by omega) hy
theorem CK_x {Q : Nat → Nat → Int32} {n t : Nat} {cl : Bool} (h : CK Q n t cl) (hn : ¬ Q 22 n = nI t) : CK Q (n + 1) t cl :=
  ⟨CN_x h.1 hn, fun v hv => by rw [ZF_x hn]; exact h.2 v hv⟩
theorem nI_ne {a b : Nat} (ha : a ≤ 8) (hb : b ≤ 8) (h : a ≠ b) : ¬ nI a = nI b := fun e => h ((nI_inj (by omega) (by omega)).mp e)
/-- the work of a later year leaves a year as it is -/
theorem CN_fr {Q Q' : Nat → Nat → Int32} {n t t' : Nat} {cl : Bool} (h : CN Q n t cl) (hF : FrY Q Q' t') (h1 : 1 ≤ t) (hlt : t < t') (ht' : t' ≤ 8) (ho : ∀ i : Nat, i < n → evOK Q i) : CN Q' n t cl ∧ EqT (ZF Q t n) (ZF Q' t n) := by
  obtain ⟨f1, f2, f3⟩ := hF
  refine CN_m2 h (fun k k1 k2 j hj => ?_) (fun k k1 k2 j hj => f2 k _ (by omega) (by omega) (Or.inl (by omega))) (fun i hi => by rw [f1 22 rfl]) (fun i hi _ => EqE_of fun k k1 k2 => by rw [f1 k (by simp [kpY]; omega)]) ho (fun i hi hy => f3 i (by rw [hy]; exact nI_ne (by omega) ht' (by omega)))
  by_cases e : k = 10
  · rw [e, f1 10 rfl]
  · exact f2 k _ (by omega) k2 (Or.inl (by omega))
section YRS
variable {q p : Nat → Nat → Int32}
theorem opC_0 {q' : Nat → Nat → Int32} (h : q' 0 = q 0) (x : Int32) : opC q' x = opC q x := by unfold opC; rw [h]
theorem waC_0 {n t : Nat} : waC q n t 0 = q := rfl
theorem waC_s {n t m : Nat} : waC q n t (m + 1) = yC (waC q n t m) n (t + m) := rfl
/-- the class works the years from t0 on -/
theorem waC_cn {n t0 : Nat} (h1 : 1 ≤ t0) (ho : ∀ i : Nat, i < n → evOK q i) (hp : ∀ t : Nat, 1 ≤ t → t < t0 → CK q n t (!opC q (nI t))) (hz : ∀ t : Nat, t0 ≤ t → t ≤ 8 → opC q (nI t) = true → ∀ j : Nat, j < 24 → q 15 (24 * t + j) = 0 ∧ q 16 (24 * t + j) = 0 ∧ q 17 (24 * t + j) = 0) : ∀ m : Nat, t0 + m ≤ 9 → (∀ t : Nat, 1 ≤ t → t < t0 + m → CK (waC q n t0 m) n t (!opC q (nI t))) ∧ (∀ k : Nat, kpY k = true → waC q n t0 m k = q k) ∧ (∀ k j : Nat, 15 ≤ k → k ≤ 17 → (j < 24 * t0 ∨ 24 * (t0 + m) ≤ j) → waC q n t0 m k j = q k j)
  | 0, _ => by
    rw [waC_0]
    exact ⟨hp, fun _ _ => rfl, fun _ _ _ _ _ => rfl⟩
  | m + 1, hm => by
    obtain ⟨i1, i2, i3⟩ := waC_cn h1 ho hp hz m (by omega)
    rw [waC_s]
    generalize waC q n t0 m = Q at i1 i2 i3 ⊢
    have hoQ : ∀ i : Nat, i < n → evOK Q i := fun i hi => evOK_eq (i2 21 rfl) (i2 22 rfl) (i2 23 rfl) (i2 24 rfl) (i2 25 rfl) (ho i hi)
    have eo : ∀ x : Int32, opC Q x = opC q x := fun x => opC_0 (i2 0 rfl) x
    obtain ⟨c1, c2, c3, c4⟩ := yC_cn (q := Q) (n := n) (t := t0 + m) (by omega) (by omega) hoQ (fun h j hj => by
      rw [i3 15 _ (by omega) (by omega) (Or.inr (by omega)), i3 16 _ (by omega) (by omega) (Or.inr (by omega)), i3 17 _ (by omega) (by omega) (Or.inr (by omega))]
      exact hz (t0 + m) (by omega) (by omega) (by rw [← eo]; exact h) j hj)
    rw [eo] at c1
    refine ⟨fun t ht htm => ?_, fun k hk => by rw [c2.1 k hk, i2 k hk], fun k j k1 k2 hj => ?_⟩
    · by_cases e : t = t0 + m
      · rw [e]; exact ⟨c1, c3⟩
      · obtain ⟨d1, d2⟩ := CN_fr (i1 t ht (by omega)).1 c2 ht (by omega) (by omega) hoQ
        exact ⟨d1, fun v hv => by rw [c4 _ (Or.inl (by omega)), (i1 t ht (by omega)).2 v hv]; exact d2.2.2 v hv⟩
    · rw [c2.2.1 k j (by omega) k2 (by omega)]
      exact i3 k j k1 k2 (by omega)
theorem workM_0 {n : Nat} : workM p n 0 = p := rfl
/-- the reference works all years -/
theorem workM_cn {n : Nat} (hn : n ≤ 200) (ho : ∀ i : Nat, i < n → evOK (eP p) i) (hb : ∀ i : Nat, i < n → EvB (toQ p) i) (hal : ∀ k : Nat, 0 ≤ (p 41 k).toInt ∧ (p 41 k).toInt ≤ 7000000) (h0 : ∀ j : Nat, j < 24 → p 46 j = 0 ∧ p 47 j = 0) : ∀ m : Nat, m ≤ 8 → (∀ t : Nat, 1 ≤ t → t ≤ m → CN (toQ (workM p n m)) n t (opM p t)) ∧ (∀ j : Nat, j < 24 → workM p n m 46 j = 0 ∧ workM p n m 47 j = 0)
  | 0, _ => by
    rw [workM_0]
    exact ⟨fun t h1 h2 => absurd h1 (by omega), h0⟩
  | m + 1, hm => by
    obtain ⟨i1, i2⟩ := workM_cn hn ho hb hal h0 m (by omega)
    have hk : ∀ k : Nat, kpM k = true → workM p n m k = p k := fun k h => workM_k h
    rw [workM_s]
    generalize workM p n m = P at i1 i2 hk ⊢
    have hoQ : ∀ i : Nat, i < n → evOK (eP P) i := fun i hi => evOK_eq (q := eP p) (q' := eP P) (hk 49 rfl) (hk 50 rfl) (hk 51 rfl) (hk 52 rfl) (hk 53 rfl) (ho i hi)
    have hbQ : ∀ i : Nat, i < n → EvB (toQ P) i := fun i hi => EvB_c (hb i hi) fun k hk' => by
      rw [toQ_hi (by omega), toQ_hi (by omega), hk (k + 28) (by simp [kpM]; omega)]
    have hpv : ∀ j : Nat, j < 24 → (0 ≤ (P 46 (24 * (1 + m) + j - 24)).toInt ∧ (P 46 (24 * (1 + m) + j - 24)).toInt ≤ 1050000) ∧ (0 ≤ (P 47 (24 * (1 + m) + j - 24)).toInt ∧ (P 47 (24 * (1 + m) + j - 24)).toInt ≤ 1050000) := fun j hj => by
      rw [show 24 * (1 + m) + j - 24 = 24 * m + j by omega]
      by_cases e : m = 0
      · rw [e, show 24 * 0 + j = j by omega, (i2 j hj).1, (i2 j hj).2, z32]
        omega
      · have h5 := (i1 m (by omega) (Nat.le_refl _)).2.2.2 j hj
        unfold clF at h5
        rw [toQ_lo (p := P) (k := 15) (by decide), toQ_lo (p := P) (k := 16) (by decide), toQ_lo (p := P) (k := 10) (by decide)] at h5
        have hal' : 0 ≤ (P (10 + 31) (24 * m + j)).toInt ∧ (P (10 + 31) (24 * m + j)).toInt ≤ 7000000 := by rw [hk (10 + 31) rfl]; exact hal _
        split at h5
        · have e1 : P 46 (24 * m + j) = _ := h5.1
          have e2 : P 47 (24 * m + j) = _ := h5.2.1
          rw [e1, e2]
          exact ⟨bkF_b hal', adF_b hal'⟩
        · have e1 : P 46 (24 * m + j) = 0 := h5.1
          have e2 : P 47 (24 * m + j) = 0 := h5.2.1
          rw [e1, e2, z32]; omega
    obtain ⟨c1, c2⟩ := yM_cn (p := P) (n := n) (t := 1 + m) (by omega) (by omega) hn hoQ hbQ (by rw [hk 41 rfl]; exact hal) i2 hpv
    have eo : opM P (1 + m) = opM p (1 + m) := by unfold opM; rw [hk 31 rfl]
    rw [eo] at c1
    generalize yM P n (1 + m) = P' at c1 c2 ⊢
    refine ⟨fun t ht htm => ?_, fun j hj => ?_⟩
    · by_cases e : t = m + 1
      · rw [e, Nat.add_comm m 1]; exact c1
      · exact (CN_fr (i1 t ht (by omega)) c2 ht (by omega) (by omega) (fun i hi => evOK_toQ (hoQ i hi))).1
    · have a := c2.2.1 15 j (by omega) (by omega) (Or.inl (by omega))
      have b := c2.2.1 16 j (by omega) (by omega) (Or.inl (by omega))
      rw [toQ_lo (k := 15) (by decide), toQ_lo (k := 15) (by decide)] at a
      rw [toQ_lo (k := 16) (by decide), toQ_lo (k := 16) (by decide)] at b
      exact ⟨a.trans (i2 j hj).1, b.trans (i2 j hj).2⟩
/-! the relation of the years -/
def RB (q p : Nat → Nat → Int32) (y n : Nat) : Prop := (q 0 6 = nI y ∧ y ≤ 8 ∧ q 20 9 = nI n ∧ n ≤ 200) ∧ (p 31 9 = nI y ∧ p 31 20 = nI n ∧ p 31 10 = q 0 7 ∧ (q 0 7 = 0 ∨ 1 ≤ y)) ∧ q 30 = p 40 ∧ q 10 = p 41 ∧ ∀ k : Nat, 0 ≤ (q 10 k).toInt ∧ (q 10 k).toInt ≤ 7000000
def RE (q p : Nat → Nat → Int32) (y n : Nat) : Prop := (∀ i : Nat, i < n → evOK q i ∧ (1 ≤ yr q i ∧ yr q i ≤ y) ∧ EqE q (toQ p) i ∧ EvB q i) ∧ ∀ i : Nat, n ≤ i → q 28 i = 0
def RK (q : Nat → Nat → Int32) (y n : Nat) : Prop := (∀ t : Nat, 1 ≤ t → t ≤ y → CK q n t (!opC q (nI t))) ∧ (∀ j : Nat, j < 24 → q 15 j = 0 ∧ q 16 j = 0) ∧ ∀ k j : Nat, 15 ≤ k → k ≤ 17 → 24 * y + 24 ≤ j → q k j = 0
def RM (q p : Nat → Nat → Int32) (y n : Nat) : Prop := (∀ t : Nat, 1 ≤ t → t ≤ y → CN (toQ p) n t (!opC q (nI t))) ∧ ∀ j : Nat, j < 24 → p 46 j = 0 ∧ p 47 j = 0
def RY (q p : Nat → Nat → Int32) (y n : Nat) : Prop := RB q p y n ∧ RE q p y n ∧ RK q y n ∧ RM q p y n
theorem nI_lt8 {a b : Nat} (ha : a ≤ 8) (hb : b ≤ 8) : nI a < nI b ↔ a < b := by
  constructor
  · intro h
    by_cases e : a < b
    · exact e
    · exact absurd h (Int32.not_lt.mpr (nI_le (by omega) (by omega)))
  · intro h
    exact Int32.not_le.mp (nI_ge h (by omega))
theorem op_eq {y n t : Nat} (h : RB q p y n) (ht : t ≤ y) : opM p t = !opC q (nI t) := by
  obtain ⟨⟨a1, a2, a3, a4⟩, ⟨b1, b2, b3, b4⟩, -⟩ := h
  unfold opM opC ntz
  rw [a1, b1, b3]
  by_cases e : t = y
  · rw [e, decide_eq_false (fun h => Int32.lt_irrefl h), decide_eq_true (rfl : nI y = nI y)]
    cases decide (q 0 7 = 0) <;> rfl
  · rw [decide_eq_true ((nI_lt8 (by omega) a2).mpr (by omega)), decide_eq_false (nI_ne (by omega) a2 e)]
    cases decide (q 0 7 = 0) <;> rfl
theorem RY_work {y n : Nat} (hB : RB q p y n) (hE : RE q p y n) (hK : RK q y n) (h0 : ∀ j : Nat, j < 24 → p 46 j = 0 ∧ p 47 j = 0) : RY q (workM p n y) y n := by
  have hk : ∀ k : Nat, kpM k = true → workM p n y k = p k := fun k h => workM_k h
  obtain ⟨⟨a1, a2, a3, a4⟩, ⟨b1, b2, b3, b4⟩, c1, c2, c3⟩ := id hB
  obtain ⟨i1, i2⟩ := workM_cn (p := p) (n := n) a4 (fun i hi => evOK_eP (evOK_E (hE.1 i hi).2.2.1 (hE.1 i hi).1)) (fun i hi => EvB_E (hE.1 i hi).2.2.1 (hE.1 i hi).2.2.2) (by rw [← c2]; exact c3) h0 y a2
  have i1 : ∀ t : Nat, 1 ≤ t → t ≤ y → CN (toQ (workM p n y)) n t (!opC q (nI t)) := fun t h1 h2 => by rw [← op_eq hB h2]; exact i1 t h1 h2
  generalize workM p n y = P at hk i1 i2 ⊢
  refine ⟨⟨⟨a1, a2, a3, a4⟩, ⟨?_, ?_, ?_, b4⟩, ?_, ?_, c3⟩, ⟨fun i hi => ?_, hE.2⟩, hK, i1, i2⟩
  · rw [hk 31 rfl]; exact b1
  · rw [hk 31 rfl]; exact b2
  · rw [hk 31 rfl]; exact b3
  · rw [hk 40 rfl]; exact c1
  · rw [hk 41 rfl]; exact c2
  · obtain ⟨d1, d2, d3, d4⟩ := hE.1 i hi
    refine ⟨d1, d2, ?_, d4⟩
    obtain ⟨e1, e2, e3, e4, e5, e6, e7, e8⟩ := d3
    have ek : ∀ k : Nat, 21 ≤ k → k ≤ 28 → toQ P k = toQ p k := fun k k1 k2 => by rw [toQ_hi (by omega), toQ_hi (by omega), hk (k + 28) (by simp [kpM]; omega)]
    unfold EqE
    rw [ek 21 (by omega) (by omega), ek 22 (by omega) (by omega), ek 23 (by omega) (by omega), ek 24 (by omega) (by omega), ek 25 (by omega) (by omega), ek 26 (by omega) (by omega), ek 27 (by omega) (by omega), ek 28 (by omega) (by omega)]
    exact ⟨e1, e2, e3, e4, e5, e6, e7, e8⟩
/-- the accounts, the counts and the sums are the same in both -/
theorem RY_acc {y n : Nat} (h : RY q p y n) {t : Nat} (h1 : 1 ≤ t) (h2 : t ≤ y) : (∀ k : Nat, 10 ≤ k → k ≤ 17 → ∀ j : Nat, j < 24 → q k (24 * t + j) = p (k + 31) (24 * t + j)) ∧ (∀ i : Nat, i < n → q 22 i = nI t → q 29 i = p 57 i) ∧ EqT (ZF q t n) (ZF (toQ p) t n) := by
  obtain ⟨hB, hE, hK, hM⟩ := h
  obtain ⟨-, -, -, c2, -⟩ := hB
  have hu := CN_u (Q := q) (Q' := toQ p) (n := n) (y := y) (cl := fun t => !opC q (nI t)) (fun t h1 h2 => (hK.1 t h1 h2).1) hM.1 (by rw [toQ_lo (by decide)]; exact c2) (fun i hi => (hE.1 i hi).2.2.1) (fun i hi => (hE.1 i hi).1) (fun j hj => by
    rw [toQ_lo (k := 15) (by decide), toQ_lo (k := 16) (by decide)]
    exact ⟨(hK.2.1 j hj).1.trans (hM.2 j hj).1.symm, (hK.2.1 j hj).2.trans (hM.2 j hj).2.symm⟩) t h2
  obtain ⟨u1, u2, u3⟩ := hu.2 h1
  refine ⟨fun k k1 k2 j hj => ?_, fun i hi hy => ?_, u3⟩
  · rw [u1 k k1 k2 j hj, toQ_lo k2]
  · rw [u2 i hi hy, toQ_hi (by decide)]
/-- frames -/
theorem RK_fr {q' : Nat → Nat → Int32} {y n : Nat} (h : RK q y n) (ho : ∀ i : Nat, i < n → evOK q i) (e : ∀ k : Nat, k = 0 ∨ (10 ≤ k ∧ k ≤ 29) → q' k = q k) : RK q' y n := by
  obtain ⟨h1, h2, h3⟩ := h
  refine ⟨fun t t1 t2 => ?_, fun j hj => ?_, fun k j k1 k2 hj => ?_⟩
  · rw [opC_0 (e 0 (by omega))]
    exact CK_m2 (h1 t t1 t2) (fun k k1 k2 j _ => by rw [e k (by omega)]) (fun k k1 k2 j _ => by rw [e k (by omega)]) (fun i _ => by rw [e 22 (by omega)]) (fun i _ _ => EqE_of fun k k1 k2 => by rw [e k (by omega)]) ho (fun i _ _ => by rw [e 29 (by omega)]) (fun v _ => by rw [e 18 (by omega)])
  · rw [e 15 (by omega), e 16 (by omega)]; exact h2 j hj
  · rw [e k (by omega)]; exact h3 k j k1 k2 hj
theorem RM_fr {q' p' : Nat → Nat → Int32} {y n : Nat} (h : RM q p y n) (ho : ∀ i : Nat, i < n → evOK (toQ p) i) (e0 : q' 0 = q 0) (e : ∀ k : Nat, 41 ≤ k → k ≤ 48 → p' k = p k) (e2 : ∀ i : Nat, i < n → ∀ k : Nat, 49 ≤ k → k ≤ 57 → p' k i = p k i) : RM q' p' y n := by
  obtain ⟨h1, h2⟩ := h
  refine ⟨fun t t1 t2 => ?_, fun j hj => ?_⟩
  · rw [opC_0 e0]
    have hl : ∀ k : Nat, 10 ≤ k → k ≤ 17 → toQ p' k = toQ p k := fun k k1 k2 => by rw [toQ_lo k2, toQ_lo k2, e (k + 31) (by omega) (by omega)]
    have hh : ∀ i : Nat, i < n → ∀ k : Nat, 21 ≤ k → k ≤ 29 → toQ p' k i = toQ p k i := fun i hi k k1 k2 => by rw [toQ_hi k1, toQ_hi k1, e2 i hi (k + 28) (by omega) (by omega)]
    exact (CN_m2 (h1 t t1 t2) (fun k k1 k2 j _ => by rw [hl k k1 k2]) (fun k k1 k2 j _ => by rw [hl k (by omega) (by omega)]) (fun i hi => hh i hi 22 (by omega) (by omega)) (fun i hi _ => EqE_of fun k k1 k2 => hh i hi k k1 (by omega)) ho (fun i hi _ => hh i hi 29 (by omega) (by omega))).1
  · rw [e 46 (by omega) (by omega), e 47 (by omega) (by omega)]; exact h2 j hj
theorem RE_fr {q' p' : Nat → Nat → Int32} {y n : Nat} (h : RE q p y n) (e : ∀ k : Nat, 21 ≤ k → k ≤ 28 → q' k = q k) (e2 : ∀ i : Nat, i < n → ∀ k : Nat, 49 ≤ k → k ≤ 56 → p' k i = p k i) : RE q' p' y n := by
  obtain ⟨h1, h2⟩ := h
  refine ⟨fun i hi => ?_, fun i hi => by rw [e 28 (by omega) (by omega)]; exact h2 i hi⟩
  obtain ⟨d1, d2, d3, d4⟩ := h1 i hi
  have hh : ∀ k : Nat, 21 ≤ k → k ≤ 28 → toQ p' k i = toQ p k i := fun k k1 k2 => by rw [toQ_hi k1, toQ_hi k1, e2 i hi (k + 28) (by omega) (by omega)]
  refine ⟨evOK_eq (e 21 (by omega) (by omega)) (e 22 (by omega) (by omega)) (e 23 (by omega) (by omega)) (e 24 (by omega) (by omega)) (e 25 (by omega) (by omega)) d1, ?_, ?_, EvB_c d4 fun k hk => by rw [e k (by omega) (by omega)]⟩
  · unfold yr at d2 ⊢; rw [e 22 (by omega) (by omega)]; exact d2
  · unfold EqE at d3 ⊢
    rw [hh 21 (by omega) (by omega), hh 22 (by omega) (by omega), hh 23 (by omega) (by omega), hh 24 (by omega) (by omega), hh 25 (by omega) (by omega), hh 26 (by omega) (by omega), hh 27 (by omega) (by omega), hh 28 (by omega) (by omega), e 21 (by omega) (by omega), e 22 (by omega) (by omega), e 23 (by omega) (by omega), e 24 (by omega) (by omega), e 25 (by omega) (by omega), e 26 (by omega) (by omega), e 27 (by omega) (by omega), e 28 (by omega) (by omega)]
    exact d3
theorem RE_ok {y n : Nat} (h : RE q p y n) : ∀ i : Nat, i < n → evOK (toQ p) i := fun i hi => evOK_E (h.1 i hi).2.2.1 (h.1 i hi).1
/-- the shares' calls leave the years alone -/
theorem RY_fr {q' p' : Nat → Nat → Int32} {y n : Nat} (h : RY q p y n) (fq : frQ q q') (fp : frP p p') : RY q' p' y n := by
  obtain ⟨hB, hE, hK, hM⟩ := h
  obtain ⟨⟨a1, a2, a3, a4⟩, ⟨b1, b2, b3, b4⟩, c1, c2, c3⟩ := hB
  obtain ⟨f1, f2, f3, f4⟩ := fp
  refine ⟨⟨⟨?_, a2, ?_, a4⟩, ⟨?_, ?_, ?_, ?_⟩, ?_, ?_, ?_⟩, RE_fr hE (fun k k1 _ => fq k (by omega)) (fun i _ k k1 _ => by rw [f1 k (by omega)]), RK_fr hK (fun i hi => (hE.1 i hi).1) (fun k hk => fq k (by omega)), RM_fr hM (RE_ok hE) (fq 0 (by omega)) (fun k k1 _ => f1 k (by omega)) (fun i _ k k1 _ => by rw [f1 k (by omega)])⟩
  · rw [fq 0 (by omega)]; exact a1
  · rw [fq 20 (by omega)]; exact a3
  · rw [f2]; exact b1
  · rw [f4]; exact b2
  · rw [f3, fq 0 (by omega)]; exact b3
  · rw [fq 0 (by omega)]; exact b4
  · rw [fq 30 (by omega), f1 40 (by omega)]; exact c1
  · rw [fq 10 (by omega), f1 41 (by omega)]; exact c2
  · rw [fq 10 (by omega)]; exact c3
theorem RY_ref {y n : Nat} (h : RY q p y n) (x : Int32) : RY q (qv p 31 0 x) y n := RY_fr h frQ_r (frP_ref x)
end YRS
