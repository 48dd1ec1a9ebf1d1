/-! one more event, and its work: class and reference -/
/-- q1 is q with one more event; P is p with one more event -/
def Ad (q q1 : Nat → Nat → Int32) (n : Nat) (a b c e f g h : Int32) : Prop := (∀ k : Nat, k < 20 ∨ 28 ≤ k → q1 k = q k) ∧ (∀ k i : Nat, 21 ≤ k → k ≤ 27 → i ≠ n → q1 k i = q k i) ∧ (q1 21 n = a ∧ q1 22 n = b ∧ q1 23 n = c ∧ q1 24 n = e ∧ q1 25 n = f ∧ q1 26 n = g ∧ q1 27 n = h) ∧ q1 20 9 = q 20 9 + 1
def Tl (p P : Nat → Nat → Int32) (n : Nat) (a b c e f g h x : Int32) : Prop := (∀ k : Nat, 32 ≤ k → k ≤ 48 → P k = p k) ∧ (∀ k i : Nat, 49 ≤ k → k ≤ 57 → i ≠ n → P k i = p k i) ∧ (P 49 n = a ∧ P 50 n = b ∧ P 51 n = c ∧ P 52 n = e ∧ P 53 n = f ∧ P 54 n = g ∧ P 55 n = h ∧ P 56 n = 0) ∧ P 31 9 = p 31 9 ∧ P 31 10 = p 31 10 ∧ P 31 20 = nI (n + 1) ∧ P 31 0 = x
section TELL
variable {q p q1 P : Nat → Nat → Int32} {y n : Nat} {a b c e f f' g h x : Int32}
theorem Ad_1 : Ad q (addC q n a b c e f g h) n a b c e f g h := by
  refine ⟨fun k hk => ?_, fun k i k1 k2 hi => ?_, ⟨pk_us, pk_us, pk_us, pk_us, pk_us, pk_us, pk_us⟩, ?_⟩
  · unfold addC
    rw [qv_n (by omega), qv_n (by omega), qv_n (by omega), qv_n (by omega), qv_n (by omega), qv_n (by omega), qv_n (by omega), qv_n (by omega)]
  · rcases (show k = 21 ∨ k = 22 ∨ k = 23 ∨ k = 24 ∨ k = 25 ∨ k = 26 ∨ k = 27 by omega) with rfl | rfl | rfl | rfl | rfl | rfl | rfl
    · exact (pk_un hi : upd (q 21) n a i = q 21 i)
    · exact (pk_un hi : upd (q 22) n b i = q 22 i)
    · exact (pk_un hi : upd (q 23) n c i = q 23 i)
    · exact (pk_un hi : upd (q 24) n e i = q 24 i)
    · exact (pk_un hi : upd (q 25) n f i = q 25 i)
    · exact (pk_un hi : upd (q 26) n g i = q 26 i)
    · exact (pk_un hi : upd (q 27) n h i = q 27 i)
  · exact (pk_us : upd (q 20) 9 (q 20 9 + 1) 9 = q 20 9 + 1)
theorem tl_k {k : Nat} (hk : k ≤ 48) : tellM p n a b c e f g h k = p k := by
  unfold tellM
  rw [qv_n (by omega), qv_n (by omega), qv_n (by omega), qv_n (by omega), qv_n (by omega), qv_n (by omega), qv_n (by omega), qv_n (by omega), qv_n (by omega)]
theorem tl_i {k i : Nat} (k1 : 49 ≤ k) (k2 : k ≤ 57) (hi : i ≠ n) : tellM p n a b c e f g h k i = p k i := by
  rcases (show k = 49 ∨ k = 50 ∨ k = 51 ∨ k = 52 ∨ k = 53 ∨ k = 54 ∨ k = 55 ∨ k = 56 ∨ k = 57 by omega) with rfl | rfl | rfl | rfl | rfl | rfl | rfl | rfl | rfl
  · exact (pk_un hi : upd (p 49) n a i = p 49 i)
  · exact (pk_un hi : upd (p 50) n b i = p 50 i)
  · exact (pk_un hi : upd (p 51) n c i = p 51 i)
  · exact (pk_un hi : upd (p 52) n e i = p 52 i)
  · exact (pk_un hi : upd (p 53) n f i = p 53 i)
  · exact (pk_un hi : upd (p 54) n g i = p 54 i)
  · exact (pk_un hi : upd (p 55) n h i = p 55 i)
  · exact (pk_un hi : upd (p 56) n 0 i = p 56 i)
  · exact (pk_un hi : upd (p 57) n 0 i = p 57 i)
theorem Tl_1 : Tl p (qv (tellM (qv p 31 0 x) n a b c e f g h) 31 20 (nI (n + 1))) n a b c e f g h x := by
  refine ⟨fun k k1 k2 => ?_, fun k i k1 k2 hi => ?_, ⟨pk_us, pk_us, pk_us, pk_us, pk_us, pk_us, pk_us, pk_us⟩, ?_, ?_, ?_, ?_⟩
  · rw [qv_n (by omega), tl_k k2, qv_n (by omega)]
  · rw [qv_n (by omega), tl_i k1 k2 hi, qv_n (by omega)]
  · show tellM (qv p 31 0 x) n a b c e f g h 31 9 = _; rw [tl_k (by decide)]; rfl
  · show tellM (qv p 31 0 x) n a b c e f g h 31 10 = _; rw [tl_k (by decide)]; rfl
  · exact (pk_us : upd (tellM (qv p 31 0 x) n a b c e f g h 31) 20 (nI (n + 1)) 20 = nI (n + 1))
  · show tellM (qv p 31 0 x) n a b c e f g h 31 0 = _; rw [tl_k (by decide)]; rfl
theorem Tl_2 : Tl p (qv (qv (tellM p n a b c e f g h) 31 0 x) 31 20 (nI (n + 1))) n a b c e f g h x := by
  refine ⟨fun k k1 k2 => ?_, fun k i k1 k2 hi => ?_, ⟨pk_us, pk_us, pk_us, pk_us, pk_us, pk_us, pk_us, pk_us⟩, ?_, ?_, ?_, ?_⟩
  · rw [qv_n (by omega), qv_n (by omega), tl_k k2]
  · rw [qv_n (by omega), qv_n (by omega), tl_i k1 k2 hi]
  · show tellM p n a b c e f g h 31 9 = _; rw [tl_k (by decide)]
  · show tellM p n a b c e f g h 31 10 = _; rw [tl_k (by decide)]
  · exact (pk_us : upd (qv (tellM p n a b c e f g h) 31 0 x 31) 20 (nI (n + 1)) 20 = nI (n + 1))
  · exact (pk_us : upd (tellM p n a b c e f g h 31) 0 x 0 = x)
/-- the relation, but for the accounts, with one event more -/
theorem RBE_add (hB : RB q p y n) (hE : RE q p y n) (hn : n < 200) (hA : Ad q q1 n a b c e f g h) (hT : Tl p P n a b c e f' g h x) (hf : ¬ a = 1 → f = f') (hk : evOK q1 n) (hyr : 1 ≤ yr q1 n ∧ yr q1 n ≤ y) (hb : EvB q1 n) : RB q1 P y (n + 1) ∧ RE q1 P y (n + 1) := by
  obtain ⟨⟨a1, a2, a3, a4⟩, ⟨b1, b2, b3, b4⟩, c1, c2, c3⟩ := hB
  obtain ⟨A1, A2, ⟨A3, A4, A5, A6, A7, A8, A9⟩, A10⟩ := hA
  obtain ⟨T1, T2, ⟨T3, T4, T5, T6, T7, T8, T9, T10⟩, T11, T12, T13, T14⟩ := hT
  refine ⟨⟨⟨?_, a2, ?_, by omega⟩, ⟨?_, T13, ?_, ?_⟩, ?_, ?_, ?_⟩, fun i hi => ?_, fun i hi => ?_⟩
  · rw [A1 0 (by omega)]; exact a1
  · rw [A10, a3]; exact nI_1 n
  · rw [T11]; exact b1
  · rw [T12, A1 0 (by omega)]; exact b3
  · rw [A1 0 (by omega)]; exact b4
  · rw [A1 30 (by omega), T1 40 (by omega) (by omega)]; exact c1
  · rw [A1 10 (by omega), T1 41 (by omega) (by omega)]; exact c2
  · rw [A1 10 (by omega)]; exact c3
  · by_cases e9 : i = n
    · subst e9
      refine ⟨hk, hyr, ?_, hb⟩
      unfold EqE
      rw [toQ_hi (by decide), toQ_hi (by decide), toQ_hi (by decide), toQ_hi (by decide), toQ_hi (by decide), toQ_hi (by decide), toQ_hi (by decide), toQ_hi (by decide), A3, A4, A5, A6, A7, A8, A9, A1 28 (by omega), hE.2 i (Nat.le_refl _)]
      exact ⟨T3.symm, T4.symm, T5.symm, T6.symm, fun h9 => (hf h9).trans T7.symm, T8.symm, T9.symm, T10.symm⟩
    · obtain ⟨d1, d2, d3, d4⟩ := hE.1 i (by omega)
      have ek : ∀ k : Nat, 21 ≤ k → k ≤ 28 → q1 k i = q k i := fun k k1 k2 => by
        by_cases c9 : k = 28
        · rw [A1 k (by omega)]
        · exact A2 k i k1 (by omega) e9
      have ep : ∀ k : Nat, 21 ≤ k → k ≤ 28 → toQ P k i = toQ p k i := fun k k1 k2 => by rw [toQ_hi k1, toQ_hi k1]; exact T2 (k + 28) i (by omega) (by omega) e9
      refine ⟨evOK_E (EqE_of ek) d1, ?_, ?_, EvB_E (EqE_of ek) d4⟩
      · unfold yr at d2 ⊢; rw [ek 22 (by omega) (by omega)]; exact d2
      · unfold EqE at d3 ⊢
        rw [ep 21 (by omega) (by omega), ep 22 (by omega) (by omega), ep 23 (by omega) (by omega), ep 24 (by omega) (by omega), ep 25 (by omega) (by omega), ep 26 (by omega) (by omega), ep 27 (by omega) (by omega), ep 28 (by omega) (by omega), ek 21 (by omega) (by omega), ek 22 (by omega) (by omega), ek 23 (by omega) (by omega), ek 24 (by omega) (by omega), ek 25 (by omega) (by omega), ek 26 (by omega) (by omega), ek 27 (by omega) (by omega), ek 28 (by omega) (by omega)]
        exact d3
  · rw [A1 28 (by omega)]; exact hE.2 i (by omega)
theorem RB_fr {Q : Nat → Nat → Int32} (hB : RB q p y n) (e : ∀ k : Nat, kpY k = true → Q k = q k) : RB Q p y n := by
  obtain ⟨⟨a1, a2, a3, a4⟩, ⟨b1, b2, b3, b4⟩, c1, c2, c3⟩ := hB
  unfold RB
  rw [e 0 rfl, e 20 rfl, e 30 rfl, e 10 rfl]
  exact ⟨⟨a1, a2, a3, a4⟩, ⟨b1, b2, b3, b4⟩, c1, c2, c3⟩
/-- the years before hold on -/
theorem Ad_CK {t : Nat} {cl : Bool} (hA : Ad q q1 n a b c e f g h) (ho : ∀ i : Nat, i < n → evOK q i) (hC : CK q n t cl) : CK q1 n t cl := by
  obtain ⟨A1, A2, -, -⟩ := hA
  have ek : ∀ i : Nat, i < n → ∀ k : Nat, 21 ≤ k → k ≤ 28 → q1 k i = q k i := fun i hi k k1 k2 => by
    by_cases c9 : k = 28
    · rw [A1 k (by omega)]
    · exact A2 k i k1 (by omega) (by omega)
  exact CK_m2 hC (fun k k1 k2 j _ => by rw [A1 k (by omega)]) (fun k k1 k2 j _ => by rw [A1 k (by omega)]) (fun i hi => ek i hi 22 (by omega) (by omega)) (fun i hi _ => EqE_of (ek i hi)) ho (fun i _ _ => by rw [A1 29 (by omega)]) (fun v _ => by rw [A1 18 (by omega)])
/-- the class works one event of the open year -/
theorem RK_wk (hK : RK q y n) (y1 : 1 ≤ y) (y8 : y ≤ 8) (hop : opC q (nI y) = true) (ho : ∀ i : Nat, i < n → evOK q i) (hA : Ad q q1 n a (nI y) c e f g h) (hev : evOK q1 n) : RK (wkC q1 n) y (n + 1) := by
  have A1 := hA.1
  have h22 : q1 22 n = nI y := hA.2.2.1.2.1
  have ho1 : ∀ i : Nat, i < n + 1 → evOK q1 i := fun i hi => by
    by_cases e9 : i = n
    · rw [e9]; exact hev
    · refine evOK_E (EqE_of fun k k1 k2 => ?_) (ho i (by omega))
      by_cases c9 : k = 28
      · rw [A1 k (by omega)]
      · exact hA.2.1 k i k1 (by omega) e9
  have hC : ∀ t : Nat, 1 ≤ t → t ≤ y → CK q1 n t (!opC q1 (nI t)) := fun t t1 t2 => by
    rw [opC_0 (A1 0 (by omega))]
    exact Ad_CK hA ho (hK.1 t t1 t2)
  have hz : ∀ j : Nat, j < 24 → q1 15 (24 * y + j) = 0 ∧ q1 16 (24 * y + j) = 0 ∧ q1 17 (24 * y + j) = 0 := by
    rw [A1 15 (by omega), A1 16 (by omega), A1 17 (by omega)]
    exact RK_op hK y1 hop
  have hop1 : opC q1 (nI y) = true := by rw [opC_0 (A1 0 (by omega))]; exact hop
  obtain ⟨v1, v2⟩ := evC_v (q := q1) (i := n) y8 h22
  have wo : ∀ k j : Nat, (((k = 11 ∨ k = 14) ∧ (j < 24 * y ∨ 24 * y + 24 ≤ j)) ∨ (k = 18 ∧ (j < 6 * y ∨ 6 * y + 6 ≤ j))) → wkC q1 n k j = q1 k j := fun k j hk => by
    unfold wkC; rw [qv_n (by omega)]; exact evC_out y8 h22 hev hk
  have wk : ∀ k : Nat, k ≠ 11 → k ≠ 14 → k ≠ 18 → k ≠ 29 → wkC q1 n k = q1 k := fun k k1 k2 k3 k4 => wkC_k k1 k2 k3 k4
  have w29 : ∀ i : Nat, wkC q1 n 29 i = if i = n then bI (evC q1 n).1 else q1 29 i := fun i => by
    show upd ((evC q1 n).2 29) n (bI (evC q1 n).1) i = _
    rw [evC_k (by decide) (by decide) (by decide)]
    by_cases e9 : i = n
    · rw [e9, pk_us, if_pos rfl]
    · rw [pk_un e9, if_neg e9]
  have w1 : ∀ j : Nat, wkC q1 n 11 (24 * y + j) = (evF q1 y n (vwC q1 y)).2.1 j := fun j => by
    rw [← v2]; unfold wkC; rw [qv_n (by decide)]; rfl
  have w2 : ∀ j : Nat, wkC q1 n 14 (24 * y + j) = (evF q1 y n (vwC q1 y)).2.2.1 j := fun j => by
    rw [← v2]; unfold wkC; rw [qv_n (by decide)]; rfl
  have w3 : ∀ j : Nat, wkC q1 n 18 (6 * y + j) = (evF q1 y n (vwC q1 y)).2.2.2 j := fun j => by
    rw [← v2]; unfold wkC; rw [qv_n (by decide)]; rfl
  rw [v1] at w29
  clear v1 v2
  generalize wkC q1 n = Q at wo wk w29 w1 w2 w3 ⊢
  refine ⟨fun t t1 t2 => ?_, fun j hj => ?_, fun k j k1 k2 hj => ?_⟩
  · rw [opC_0 (wk 0 (by decide) (by decide) (by decide) (by decide))]
    by_cases e9 : t = y
    · subst e9
      rw [hop1]
      have hCy := hC t t1 t2
      have hz0 : EqT (vwC q1 t) (ZF q1 t n) := ⟨fun j hj => (hCy.1.2.1 j hj).1, fun j hj => (hCy.1.2.1 j hj).2, fun j hj => hCy.2 j hj⟩
      have hev2 := evF_c (Q := q1) (Q' := q1) (t := t) (i := n) EqE_r ⟨Ef_r, Ef_r, Ef_r⟩ hz0 hev
      have hR : EqR q1 Q t := ⟨fun j hj => by rw [wk 10 (by decide) (by decide) (by decide) (by decide)], fun j hj => by rw [wk 12 (by decide) (by decide) (by decide) (by decide)], fun j hj => by rw [wk 13 (by decide) (by decide) (by decide) (by decide)]⟩
      have hEE : ∀ i : Nat, EqE q1 Q i := fun i => EqE_of fun k k1 k2 => by rw [wk k (by omega) (by omega) (by omega) (by omega)]
      have hZ : ∀ m : Nat, m ≤ n + 1 → EqT (ZF q1 t m) (ZF Q t m) := fun m hm => ZF_c hR m (fun i _ => hEE i) (fun i hi => ho1 i (by omega))
      have hZn : EqT (evF q1 t n (vwC q1 t)).2 (ZF Q t (n + 1)) := by
        refine EqT_t hev2.2 ?_
        have h9 := hZ (n + 1) (Nat.le_refl _)
        rw [ZF_s (Q := q1), if_pos h22] at h9
        exact h9
      refine ⟨⟨fun j hj => ?_, fun j hj => ?_, fun i hi hy => ?_, fun j hj => ?_⟩, fun v hv => ?_⟩
      · rw [wk 12 (by decide) (by decide) (by decide) (by decide), wk 13 (by decide) (by decide) (by decide) (by decide), wk 15 (by decide) (by decide) (by decide) (by decide), wk 16 (by decide) (by decide) (by decide) (by decide)]
        exact hCy.1.1 j hj
      · rw [w1, w2]; exact ⟨hZn.1 j hj, hZn.2.1 j hj⟩
      · rw [w29 i]
        by_cases d9 : i = n
        · rw [if_pos d9, d9]
          refine congrArg bI ?_
          rw [hev2.1]
          exact (evF_c (hEE n) hR (hZ n (by omega)) hev).1
        · rw [if_neg d9, hCy.1.2.2.1 i (by omega) (by rw [← wk 22 (by decide) (by decide) (by decide) (by decide)]; exact hy)]
          refine congrArg bI ?_
          exact (evF_c (hEE i) hR (hZ i (by omega)) (ho1 i hi)).1
      · unfold clF
        rw [if_neg (by decide), wk 15 (by decide) (by decide) (by decide) (by decide), wk 16 (by decide) (by decide) (by decide) (by decide), wk 17 (by decide) (by decide) (by decide) (by decide)]
        exact hz j hj
      · rw [w3]; exact hZn.2.2 v hv
    · have hx : ¬ q1 22 n = nI t := by rw [h22]; exact nI_ne y8 (by omega) (by omega)
      refine CK_m2 (CK_x (hC t t1 t2) hx) (fun k k1 k2 j hj => ?_) (fun k k1 k2 j _ => by rw [wk k (by omega) (by omega) (by omega) (by omega)]) (fun i _ => by rw [wk 22 (by decide) (by decide) (by decide) (by decide)]) (fun i _ _ => EqE_of fun k k1 k2 => by rw [wk k (by omega) (by omega) (by omega) (by omega)]) ho1 (fun i hi hy => ?_) (fun v hv => wo 18 _ (Or.inr ⟨rfl, by omega⟩))
      · by_cases c9 : k = 11 ∨ k = 14
        · exact wo k _ (Or.inl ⟨c9, by omega⟩)
        · rw [wk k (by omega) (by omega) (by omega) (by omega)]
      · rw [w29 i, if_neg (fun h9 => hx (by rw [← h9]; exact hy))]
  · rw [wk 15 (by decide) (by decide) (by decide) (by decide), wk 16 (by decide) (by decide) (by decide) (by decide), A1 15 (by omega), A1 16 (by omega)]; exact hK.2.1 j hj
  · rw [wk k (by omega) (by omega) (by omega) (by omega), A1 k (by omega)]; exact hK.2.2 k j k1 k2 hj
/-- the class works the years from t on -/
theorem RK_wa {m t : Nat} (t1 : 1 ≤ t) (t2 : t ≤ y) (y8 : y ≤ 8) (h6 : q 0 6 = nI y) (ho : ∀ i : Nat, i < m → evOK q i) (hp : ∀ s : Nat, 1 ≤ s → s < t → CK q m s (!opC q (nI s))) (hz : opC q (nI y) = true → ∀ j : Nat, j < 24 → q 15 (24 * y + j) = 0 ∧ q 16 (24 * y + j) = 0 ∧ q 17 (24 * y + j) = 0) (h0 : ∀ j : Nat, j < 24 → q 15 j = 0 ∧ q 16 j = 0) (hh : ∀ k j : Nat, 15 ≤ k → k ≤ 17 → 24 * y + 24 ≤ j → q k j = 0) : RK (waC q m t (y + 1 - t)) y m ∧ ∀ k : Nat, kpY k = true → waC q m t (y + 1 - t) k = q k := by
  obtain ⟨i1, i2, i3⟩ := waC_cn t1 ho hp (fun s s1 s2 hs => by
    have e9 : s = y := by
      unfold opC at hs
      rw [Bool.and_eq_true, decide_eq_true_eq, h6] at hs
      exact (nI_inj (by omega) (by omega)).mp hs.2
    rw [e9] at hs ⊢
    exact hz hs) (y + 1 - t) (by omega)
  refine ⟨⟨fun s s1 s2 => ?_, fun j hj => ?_, fun k j k1 k2 hj => ?_⟩, i2⟩
  · rw [opC_0 (i2 0 rfl)]; exact i1 s s1 (by omega)
  · rw [i3 15 j (by omega) (by omega) (by omega), i3 16 j (by omega) (by omega) (by omega)]; exact h0 j hj
  · rw [i3 k j k1 k2 (by omega)]; exact hh k j k1 k2 hj
theorem Ad_K {t : Nat} (hK : RK q y n) (hB : RB q p y n) (hop : opC q (nI y) = true → 1 ≤ y) (ho : ∀ i : Nat, i < n → evOK q i) (t1 : 1 ≤ t) (t2 : t ≤ y) (hA : Ad q q1 n a (nI t) c e f g h) (hev : evOK q1 n) : RK (waC q1 (n + 1) t (y + 1 - t)) y (n + 1) ∧ ∀ k : Nat, kpY k = true → waC q1 (n + 1) t (y + 1 - t) k = q1 k := by
  have A1 := hA.1
  have h22 : q1 22 n = nI t := hA.2.2.1.2.1
  have y8 := hB.1.2.1
  refine RK_wa t1 t2 y8 ?_ (fun i hi => ?_) (fun s s1 s2 => ?_) (fun h9 => ?_) ?_ (fun k j k1 k2 hj => ?_)
  · rw [A1 0 (by omega)]; exact hB.1.1
  · by_cases e9 : i = n
    · rw [e9]; exact hev
    · refine evOK_E (EqE_of fun k k1 k2 => ?_) (ho i (by omega))
      by_cases c9 : k = 28
      · rw [A1 k (by omega)]
      · exact hA.2.1 k i k1 (by omega) e9
  · rw [opC_0 (A1 0 (by omega))]
    exact CK_x (Ad_CK hA ho (hK.1 s s1 (by omega))) (by rw [h22]; exact nI_ne (by omega) (by omega) (by omega))
  · rw [opC_0 (A1 0 (by omega))] at h9
    rw [A1 15 (by omega), A1 16 (by omega), A1 17 (by omega)]
    exact RK_op hK (hop h9) h9
  · rw [A1 15 (by omega), A1 16 (by omega)]; exact hK.2.1
  · rw [A1 k (by omega)]; exact hK.2.2 k j k1 k2 hj
/-- what follows for both, once the class has worked -/
theorem RR_add {Q : Nat → Nat → Int32} (hS : RS q p) (hY : RY q p y n) (hn : n < 200) (hA : Ad q q1 n a b c e f g h) (hT : Tl p P n a b c e f' g h x) (hf : ¬ a = 1 → f = f') (hk : evOK q1 n) (hyr : 1 ≤ yr q1 n ∧ yr q1 n ≤ y) (hb : EvB q1 n) (hK : RK Q y (n + 1)) (hQ : ∀ k : Nat, kpY k = true → Q k = q1 k) : RR Q (workM P (n + 1) y) ∧ workM P (n + 1) y 31 0 = x := by
  obtain ⟨hB, hE⟩ := RBE_add hY.1 hY.2.1 hn hA hT hf hk hyr hb
  have hY2 := RY_work (RB_fr hB hQ) (RE_fr (q' := Q) (p' := P) hE (fun k k1 k2 => hQ k (by simp [kpY]; omega)) (fun _ _ _ _ _ => rfl)) hK (fun j hj => by rw [hT.1 46 (by omega) (by omega), hT.1 47 (by omega) (by omega)]; exact hY.2.2.2.2 j hj)
  have wk : ∀ k : Nat, kpM k = true → workM P (n + 1) y k = P k := fun k hk => workM_k hk
  generalize workM P (n + 1) y = P2 at hY2 wk ⊢
  refine ⟨⟨RS_p (RS_q hS fun k k1 k2 => ?_) fun k k1 k2 => ?_, y, n + 1, hY2⟩, ?_⟩
  · rw [hQ k (by simp [kpY]; omega), hA.1 k (by omega)]
  · rw [wk k (by simp [kpM]; omega), hT.1 k k1 (by omega)]
  · rw [wk 31 rfl]; exact hT.2.2.2.2.2.2
end TELL
