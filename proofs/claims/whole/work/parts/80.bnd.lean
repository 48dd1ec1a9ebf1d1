/-! bounds, and the two ways of closing a year -/
theorem mulI {a b : Int32} (h1 : -2 ^ 31 ≤ a.toInt * b.toInt) (h2 : a.toInt * b.toInt < 2 ^ 31) : (a * b).toInt = a.toInt * b.toInt := by
  rw [Int32.toInt_mul, Int.bmod_eq_of_le (by omega) (by omega)]
theorem divI {a b : Int32} (ha : 0 ≤ a.toInt) (hb : 0 < b.toInt) : (a / b).toInt = a.toInt / b.toInt := by
  have h1 := a.toInt_lt
  have h2 : a.toInt / b.toInt ≤ a.toInt := Int.ediv_le_self _ ha
  have h3 : 0 ≤ a.toInt / b.toInt := Int.ediv_nonneg ha (by omega)
  rw [Int32.toInt_div, Int.tdiv_eq_ediv_of_nonneg ha, Int.bmod_eq_of_le (by omega) (by omega)]
theorem mulL {a b : Int64} (h1 : -2 ^ 63 ≤ a.toInt * b.toInt) (h2 : a.toInt * b.toInt < 2 ^ 63) : (a * b).toInt = a.toInt * b.toInt := by
  rw [Int64.toInt_mul, Int.bmod_eq_of_le (by omega) (by omega)]
theorem addL {a b : Int64} (h1 : -2 ^ 63 ≤ a.toInt + b.toInt) (h2 : a.toInt + b.toInt < 2 ^ 63) : (a + b).toInt = a.toInt + b.toInt := by
  rw [Int64.toInt_add, Int.bmod_eq_of_le (by omega) (by omega)]
theorem subL {a b : Int64} (h1 : -2 ^ 63 ≤ a.toInt - b.toInt) (h2 : a.toInt - b.toInt < 2 ^ 63) : (a - b).toInt = a.toInt - b.toInt := by
  rw [Int64.toInt_sub, Int.bmod_eq_of_le (by omega) (by omega)]
theorem divL {a b : Int64} (ha : 0 ≤ a.toInt) (hb : 0 < b.toInt) : (a / b).toInt = a.toInt / b.toInt := by
  have h1 := a.toInt_lt
  have h2 : a.toInt / b.toInt ≤ a.toInt := Int.ediv_le_self _ ha
  have h3 : 0 ≤ a.toInt / b.toInt := Int.ediv_nonneg ha (by omega)
  rw [Int64.toInt_div, Int.tdiv_eq_ediv_of_nonneg ha, Int.bmod_eq_of_le (by omega) (by omega)]
theorem l2i {a : Int64} (h1 : -2 ^ 31 ≤ a.toInt) (h2 : a.toInt < 2 ^ 31) : a.toInt32.toInt = a.toInt := by
  rw [Int64.toInt_toInt32, Int.bmod_eq_of_le (by omega) (by omega)]
theorem pct {a : Int32} (k : Int64) (k' : Int32) (n : Int) (hk : k.toInt = n) (hk' : k'.toInt = n) (hn : 0 ≤ n ∧ n ≤ 15) (ha : 0 ≤ a.toInt ∧ a.toInt ≤ 7000000) : (k * a.toInt64 / 100).toInt32 = a * k' / 100 := by
  have hb : 0 ≤ n * a.toInt ∧ n * a.toInt ≤ 15 * 7000000 := ⟨Int.mul_nonneg hn.1 ha.1, Int.mul_le_mul hn.2 ha.2 ha.1 (by omega)⟩
  have e1 : (k * a.toInt64).toInt = n * a.toInt := by
    rw [mulL, hk, c64]
    · rw [hk, c64]; omega
    · rw [hk, c64]; omega
  have e2 : (a * k').toInt = n * a.toInt := by
    rw [mulI, hk', Int.mul_comm]
    · rw [hk', Int.mul_comm]; omega
    · rw [hk', Int.mul_comm]; omega
  have h100 : (100 : Int64).toInt = 100 := rfl
  have h100' : (100 : Int32).toInt = 100 := rfl
  have e3 : (k * a.toInt64 / 100).toInt = n * a.toInt / 100 := by rw [divL (by omega) (by omega), e1, h100]
  have e4 : (a * k' / 100).toInt = n * a.toInt / 100 := by rw [divI (by omega) (by omega), e2, h100']
  apply Int32.toInt_inj.mp
  rw [l2i (by omega) (by omega), e3, e4]
theorem pct_b {a : Int32} (k' : Int32) (n : Int) (hk' : k'.toInt = n) (hn : 0 ≤ n ∧ n ≤ 15) (ha : 0 ≤ a.toInt ∧ a.toInt ≤ 7000000) : 0 ≤ (a * k' / 100).toInt ∧ (a * k' / 100).toInt ≤ 1050000 := by
  have hb : 0 ≤ n * a.toInt ∧ n * a.toInt ≤ 15 * 7000000 := ⟨Int.mul_nonneg hn.1 ha.1, Int.mul_le_mul hn.2 ha.2 ha.1 (by omega)⟩
  have e2 : (a * k').toInt = n * a.toInt := by
    rw [mulI, hk', Int.mul_comm]
    · rw [hk', Int.mul_comm]; omega
    · rw [hk', Int.mul_comm]; omega
  have h100' : (100 : Int32).toInt = 100 := rfl
  rw [divI (by omega) (by omega), e2, h100']
  omega
theorem z32 : (0 : Int32).toInt = 0 := rfl
theorem bk_eq {a l : Int32} (ha : 0 ≤ a.toInt ∧ a.toInt ≤ 7000000) : (if 0 ≤ l then (if ((15 : Int64) * a.toInt64 / 100).toInt32 ≤ l then ((15 : Int64) * a.toInt64 / 100).toInt32 else l) else 0) = bkF a l := by
  rw [pct 15 15 15 rfl rfl (by omega) ha]
  have hp := pct_b (a := a) 15 15 rfl (by omega) ha
  unfold bkF mnF mxF
  generalize a * 15 / 100 = s at hp ⊢
  by_cases c : 0 ≤ l
  · rw [if_pos c]
    by_cases d : 0 < l
    · rw [if_pos d]
      by_cases e : s ≤ l
      · rw [if_pos e, if_neg (Int32.not_lt.mpr e)]
      · rw [if_neg e, if_pos (Int32.not_le.mp e)]
    · rw [if_neg d]
      have hl : l = 0 := by
        apply Int32.toInt_inj.mp
        rw [ltI, z32] at d; rw [leI, z32] at c; rw [z32]; omega
      subst hl
      by_cases e : s ≤ 0
      · rw [if_pos e, if_neg (Int32.not_lt.mpr e)]
      · rw [if_neg e, if_pos (Int32.not_le.mp e)]
  · have d : ¬ 0 < l := fun h => c (Int32.le_of_lt h)
    rw [if_neg c, if_neg d]
    by_cases e : 0 < s
    · rw [if_pos e]
    · rw [if_neg e]
      apply Int32.toInt_inj.mp
      rw [ltI, z32] at e; rw [z32]; omega
theorem ov_eq {l : Int32} (hl : -2 ^ 31 < l.toInt) : ovM l = ovF l := by
  unfold ovM ovF mxF
  by_cases c : 0 ≤ l
  · rw [if_pos c, if_neg (by rw [ltI, negI hl, z32]; rw [leI, z32] at c; omega)]
  · rw [if_neg c, if_pos (by rw [ltI, negI hl, z32]; rw [leI, z32] at c; omega)]
theorem ad_eq {a l : Int32} (ha : 0 ≤ a.toInt ∧ a.toInt ≤ 7000000) (hl : -2 ^ 31 < l.toInt) : (if ((5 : Int64) * a.toInt64 / 100).toInt32 ≤ ovM l then ((5 : Int64) * a.toInt64 / 100).toInt32 else ovM l) = adF a l := by
  rw [pct 5 5 5 rfl rfl (by omega) ha, ov_eq hl]
  unfold adF mnF
  by_cases e : a * 5 / 100 ≤ ovF l
  · rw [if_pos e, if_neg (Int32.not_lt.mpr e)]
  · rw [if_neg e, if_pos (Int32.not_le.mp e)]
theorem bkF_b {a l : Int32} (ha : 0 ≤ a.toInt ∧ a.toInt ≤ 7000000) : 0 ≤ (bkF a l).toInt ∧ (bkF a l).toInt ≤ 1050000 := by
  have hp := pct_b (a := a) 15 15 rfl (by omega) ha
  unfold bkF mnF mxF
  generalize a * 15 / 100 = s at hp ⊢
  by_cases d : 0 < l
  · rw [if_pos d]
    rw [ltI, z32] at d
    by_cases e : l < s
    · rw [if_pos e]; rw [ltI] at e; omega
    · rw [if_neg e]; exact hp
  · rw [if_neg d]
    split
    · rw [z32]; omega
    · exact hp
theorem adF_b {a l : Int32} (ha : 0 ≤ a.toInt ∧ a.toInt ≤ 7000000) : 0 ≤ (adF a l).toInt ∧ (adF a l).toInt ≤ 1050000 := by
  have hp := pct_b (a := a) 5 5 rfl (by omega) ha
  unfold adF mnF ovF mxF
  generalize a * 5 / 100 = s at hp ⊢
  by_cases d : 0 < -l
  · rw [if_pos d]
    rw [ltI, z32] at d
    by_cases e : -l < s
    · rw [if_pos e]; rw [ltI] at e; omega
    · rw [if_neg e]; exact hp
  · rw [if_neg d]
    split
    · rw [z32]; omega
    · exact hp
/-! how far the figures of a year can go -/
def EvB (Q : Nat → Nat → Int32) (i : Nat) : Prop := (0 ≤ (Q 26 i).toInt ∧ (Q 26 i).toInt ≤ 1000000) ∧ (0 ≤ (Q 27 i).toInt ∧ (Q 27 i).toInt ≤ 5000000) ∧ (Q 21 i = 0 → Q 27 i = Q 26 i) ∧ (Q 21 i = 0 ∨ Q 21 i = 1 ∨ Q 21 i = 2)
def Bd (f : Nat → Int32) (B : Int) : Prop := ∀ j : Nat, j < 24 → -B ≤ (f j).toInt ∧ (f j).toInt ≤ B
theorem Bd_up {f : Nat → Int32} {B D : Int} {k : Nat} {x : Int32} (h : Bd f B) (hD : 0 ≤ D) (hx : -(B + D) ≤ x.toInt ∧ x.toInt ≤ B + D) : Bd (upd f k x) (B + D) := fun j hj => by
  by_cases c : j = k
  · rw [c, pk_us]; exact hx
  · rw [pk_un c]; have := h j hj; omega
theorem Bd_mv {f : Nat → Int32} {B D : Int} {a b : Nat} {x y : Int32} (h : Bd f B) (ha : a < 24) (hb : b < 24) (hB : B + D < 2000000000) (hx : 0 ≤ x.toInt ∧ x.toInt ≤ D) (hy : 0 ≤ y.toInt ∧ y.toInt ≤ D) : Bd (mvG f a b x y) (B + D) := by
  have h1 := h a ha
  have h2 := h b hb
  have e1 : (f a - x).toInt = (f a).toInt - x.toInt := subI (by omega) (by omega)
  unfold mvG
  by_cases c : b = a
  · subst c
    rw [pk_us]
    have e2 : (f b - x + y).toInt = (f b).toInt - x.toInt + y.toInt := by rw [addI (by omega) (by omega), e1]
    intro j hj
    by_cases d : j = b
    · rw [d, pk_us, e2]; omega
    · rw [pk_un d, pk_un d]; have := h j hj; omega
  · rw [pk_un c]
    have e2 : (f b + y).toInt = (f b).toInt + y.toInt := addI (by omega) (by omega)
    intro j hj
    by_cases d : j = b
    · rw [d, pk_us, e2]; omega
    · rw [pk_un d]
      by_cases d2 : j = a
      · rw [d2, pk_us, e1]; omega
      · rw [pk_un d2]; have := h j hj; omega
theorem Bd_w {f : Nat → Int32} {B D : Int} (h : Bd f B) (hD : 0 ≤ D) : Bd f (B + D) := fun j hj => by have := h j hj; omega
theorem ZF_b {Q : Nat → Nat → Int32} {t : Nat} : ∀ n : Nat, n ≤ 200 → (∀ i : Nat, i < n → evOK Q i) → (∀ i : Nat, i < n → EvB Q i) → Bd (ZF Q t n).1 ((n : Int) * 1000000) ∧ Bd (ZF Q t n).2.1 ((n : Int) * 5000000)
  | 0, _, _, _ => by
    rw [ZF_0]
    exact ⟨fun j _ => by show -_ ≤ (0 : Int32).toInt ∧ (0 : Int32).toInt ≤ _; rw [z32]; omega, fun j _ => by show -_ ≤ (0 : Int32).toInt ∧ (0 : Int32).toInt ≤ _; rw [z32]; omega⟩
  | n + 1, hn, ho, hb => by
    obtain ⟨i1, i2⟩ := ZF_b (Q := Q) (t := t) n (by omega) (fun i hi => ho i (by omega)) (fun i hi => hb i (by omega))
    have e1 : ((n + 1 : Nat) : Int) * 1000000 = (n : Int) * 1000000 + 1000000 := by omega
    have e2 : ((n + 1 : Nat) : Int) * 5000000 = (n : Int) * 5000000 + 5000000 := by omega
    rw [ZF_s, e1, e2]
    by_cases c : Q 22 n = nI t
    · rw [if_pos c]
      obtain ⟨-, -, -, o4, -, o6, o7, o8⟩ := ho n (by omega)
      obtain ⟨k1, k2, k3, k4⟩ := hb n (by omega)
      generalize ZF Q t n = z at i1 i2 ⊢
      unfold evF evG
      by_cases c0 : Q 21 n = 0
      · have o7 := (o7 c0).2
        rw [if_pos c0]
        split
        · exact ⟨Bd_mv i1 (by omega) (by omega) (by omega) (by rw [k3 c0]; exact k1) (by rw [k3 c0]; exact k1), Bd_w i2 (by omega)⟩
        · exact ⟨Bd_w i1 (by omega), Bd_w i2 (by omega)⟩
      · rw [if_neg c0]
        by_cases c1 : Q 21 n = 1
        · rw [if_pos c1]
          split
          · have h9 := i2 (4 * vs Q n + sp Q n) (by omega)
            refine ⟨Bd_w i1 (by omega), Bd_up i2 (by omega) ?_⟩
            rw [addI (by omega) (by omega)]; omega
          · exact ⟨Bd_w i1 (by omega), Bd_w i2 (by omega)⟩
        · have o8 := (o8 c0 c1).2
          rw [if_neg c1]
          split
          · exact ⟨Bd_w i1 (by omega), Bd_mv i2 (by omega) (by omega) (by omega) ⟨k1.1, by omega⟩ k2⟩
          · exact ⟨Bd_w i1 (by omega), Bd_w i2 (by omega)⟩
    · rw [if_neg c]
      exact ⟨Bd_w i1 (by omega), Bd_w i2 (by omega)⟩
/-- so what is left on an account is never the least number -/
theorem left_b {a l b t c : Int32} (ha : 0 ≤ a.toInt ∧ a.toInt ≤ 7000000) (hl : -200000000 ≤ l.toInt ∧ l.toInt ≤ 200000000) (hb : 0 ≤ b.toInt ∧ b.toInt ≤ 1050000) (ht : 0 ≤ t.toInt ∧ t.toInt ≤ 1050000) (hc : -1000000000 ≤ c.toInt ∧ c.toInt ≤ 1000000000) : -2 ^ 31 < (a + l + b - t - c).toInt := by
  have e1 : (a + l).toInt = a.toInt + l.toInt := addI (by omega) (by omega)
  have e2 : (a + l + b).toInt = a.toInt + l.toInt + b.toInt := by rw [addI (by omega) (by omega), e1]
  have e3 : (a + l + b - t).toInt = a.toInt + l.toInt + b.toInt - t.toInt := by rw [subI (by omega) (by omega), e2]
  rw [subI (by omega) (by omega), e3]
  omega
