/-! allotting, class against reference -/
section ALT
variable {q p : Nat → Nat → Int32} {l : Nat → Int64}
theorem m64 : (1000000 : Int64).toInt = 1000000 := by decide
/-- one vessel's due -/
theorem due_b {lim x : Int32} (hl : 0 ≤ lim.toInt ∧ lim.toInt ≤ 1000000) (hx : 0 ≤ x.toInt ∧ x.toInt ≤ 1000000) : (lim.toInt64 * x.toInt64).toInt = lim.toInt * x.toInt ∧ 0 ≤ lim.toInt * x.toInt ∧ lim.toInt * x.toInt ≤ 1000000000000 ∧ (lim.toInt64 * x.toInt64 / 1000000).toInt = lim.toInt * x.toInt / 1000000 ∧ (lim.toInt64 * x.toInt64 / 1000000).toInt32.toInt = lim.toInt * x.toInt / 1000000 ∧ (lim.toInt64 * x.toInt64 - lim.toInt64 * x.toInt64 / 1000000 * 1000000).toInt = lim.toInt * x.toInt % 1000000 ∧ (lim.toInt64 * x.toInt64 - lim.toInt64 * x.toInt64 / 1000000 * 1000000).toInt32.toInt = lim.toInt * x.toInt % 1000000 := by
  have h0 : 0 ≤ lim.toInt * x.toInt := Int.mul_nonneg hl.1 hx.1
  have h1 : lim.toInt * x.toInt ≤ 1000000 * 1000000 := Int.mul_le_mul hl.2 hx.2 hx.1 (by omega)
  have e1 : (lim.toInt64 * x.toInt64).toInt = lim.toInt * x.toInt := by
    rw [mulL, c64, c64]
    · rw [c64, c64]; omega
    · rw [c64, c64]; omega
  generalize lim.toInt64 * x.toInt64 = e at e1 ⊢
  generalize lim.toInt * x.toInt = E at e1 h0 h1 ⊢
  have e2 : (e / 1000000).toInt = E / 1000000 := by rw [divL (by omega) (by rw [m64]; omega), e1, m64]
  have e3 : (e / 1000000 * 1000000).toInt = E / 1000000 * 1000000 := by
    rw [mulL, e2, m64]
    · rw [e2, m64]; omega
    · rw [e2, m64]; omega
  have e4 : (e - e / 1000000 * 1000000).toInt = E % 1000000 := by
    rw [subL, e1, e3]
    · omega
    · rw [e1, e3]; omega
    · rw [e1, e3]; omega
  refine ⟨e1, h0, by omega, e2, ?_, e4, ?_⟩
  · rw [l2i (by omega) (by omega), e2]
  · rw [l2i (by omega) (by omega), e4]
theorem alS_s {lim : Int32} {y s n : Nat} : alS lim y s (n + 1) q = al1 lim y s n (alS lim y s n q) := rfl
theorem alS_0 {lim : Int32} {y s : Nat} : alS lim y s 0 q = (q, 0, 0) := rfl
theorem amS_0 {lim : Int32} {y s : Nat} : amS lim y s 0 p l = (p, l, 0, 0) := rfl
theorem z64 : (0 : Int64).toInt = 0 := by decide
theorem mone : (-1 : Int64) = (-1 : Int32).toInt64 := by decide
/-- the first loop: both have given the same, and have the same remainders -/
def A1 (lim : Int32) (n : Nat) (z : ax_S3) (w : ax_S4) (S P D : Int) : Prop :=
  z.1 10 = w.1 41 ∧ (∀ v : Nat, v < n → w.2.1 v = (z.1 19 v).toInt64) ∧ z.2.1.toInt = S ∧ w.2.2.1.toInt = P ∧ z.2.2.toInt = D ∧ w.2.2.2.toInt = D ∧ S = lim.toInt * P ∧ 0 ≤ P ∧ P ≤ (n : Int) * 1000000 ∧ 0 ≤ D ∧ D ≤ (n : Int) * 1000000
theorem alt1 {lim : Int32} {y s : Nat} (hl : 0 ≤ lim.toInt ∧ lim.toInt ≤ 1000000) (hs : s < 4) (h8 : q 8 = p 37) (hb : ∀ k : Nat, k < 24 → 0 ≤ (q 8 k).toInt ∧ (q 8 k).toInt ≤ 1000000) (h10 : q 10 = p 41) : ∀ n : Nat, n ≤ 6 → ∃ S P D : Int, A1 lim n (alS lim y s n q) (amS lim y s n p l) S P D
  | 0, _ => by
    rw [alS_0, amS_0]
    exact ⟨0, 0, 0, h10, fun v h => absurd h (Nat.not_lt_zero _), z64, z64, z32, z64, by omega, by omega, by omega, by omega, by omega⟩
  | n + 1, hn => by
    obtain ⟨S, P, D, a1, a2, a3, a4, a5, a6, a7, a8, a9, a10, a11⟩ := alt1 hl hs h8 hb h10 n (by omega)
    have e8 : (alS lim y s n q).1 8 = q 8 := alS_k (by decide) (by decide) n
    have e37 : (amS lim y s n p l).1 37 = p 37 := amS_k (by decide) n
    have hx := hb (6 * s + n) (by omega)
    obtain ⟨d1, d2, d3, d4, d5, d6, d7⟩ := due_b hl hx
    rw [alS_s, amS_s]
    generalize alS lim y s n q = z at a1 a2 a3 a5 e8 ⊢
    generalize amS lim y s n p l = w at a1 a2 a4 a6 e37 ⊢
    obtain ⟨z1, z2, z3⟩ := z
    obtain ⟨w1, w2, w3, w4⟩ := w
    dsimp only at a1 a2 a3 a4 a5 a6 e8 e37
    unfold al1 am1
    dsimp only
    rw [e8, e37, ← h8]
    have hS : (n : Int) * 1000000 ≤ 6000000 := by omega
    have hP : 0 ≤ lim.toInt * P ∧ lim.toInt * P ≤ 1000000 * 6000000 := ⟨Int.mul_nonneg hl.1 a8, Int.mul_le_mul hl.2 (by omega) a8 (by omega)⟩
    have c1 : (q 8 (6 * s + n)).toInt64.toInt = (q 8 (6 * s + n)).toInt := c64 _
    have hm : lim.toInt * (P + (q 8 (6 * s + n)).toInt) = lim.toInt * P + lim.toInt * (q 8 (6 * s + n)).toInt := Int.mul_add _ _ _
    generalize lim.toInt64 * (q 8 (6 * s + n)).toInt64 = E at d1 d4 d5 d6 d7 ⊢
    generalize E - E / 1000000 * 1000000 = R at d6 d7 ⊢
    generalize E / 1000000 = V at d4 d5 ⊢
    generalize R.toInt32 = R3 at d7 ⊢
    generalize V.toInt32 = V3 at d5 ⊢
    generalize (q 8 (6 * s + n)).toInt64 = X at c1 ⊢
    generalize (q 8 (6 * s + n)).toInt = xi at d1 d2 d3 d4 d5 d6 d7 c1 hx hm ⊢
    have g1 : (z2 + E).toInt = S + lim.toInt * xi := by rw [addL (by omega) (by omega), a3, d1]
    have g2 : (w3 + X).toInt = P + xi := by rw [addL (by omega) (by omega), a4, c1]
    have g3 : (z3 + V3).toInt = D + lim.toInt * xi / 1000000 := by rw [addI (by omega) (by omega), a5, d5]
    have g4 : (w4 + V).toInt = D + lim.toInt * xi / 1000000 := by rw [addL (by omega) (by omega), a6, d4]
    refine ⟨S + lim.toInt * xi, P + xi, D + lim.toInt * xi / 1000000, ?_, fun v hv => ?_, g1, g2, g3, g4, ?_, by omega, by omega, by omega, by omega⟩
    · show upd (z1 10) (24 * y + 4 * n + s) V3 = upd (w1 41) (24 * y + 4 * n + s) V3; rw [a1]
    · show vp_updL w2 n R v = (upd (z1 19) n R3 v).toInt64
      by_cases e : v = n
      · rw [e, pk_uLs, pk_us]
        apply Int64.toInt_inj.mp
        rw [c64, d6, d7]
      · rw [pk_uLn e, pk_un e]; exact a2 v (by omega)
    · rw [hm, a7]
theorem grM_0 : grM l 0 = 0 := rfl
theorem grC1_0 : grC1 q 0 = 0 := rfl
theorem gr_eq (h : ∀ v : Nat, v < 6 → l v = (q 19 v).toInt64) : ∀ n : Nat, n ≤ 5 → grM l n = grC1 q n
  | 0, _ => by rw [grM_0, grC1_0]
  | n + 1, hn => by
    have ih := gr_eq h n (by omega)
    have hlt := grC1_lt q n
    have e1 : grM l (n + 1) = if l (n + 1) ≤ l (grM l n) then grM l n else n + 1 := rfl
    have e2 : grC1 q (n + 1) = if q 19 (n + 1) ≤ q 19 (grC1 q n) then grC1 q n else n + 1 := rfl
    rw [e1, e2, ih]
    have e3 : l (n + 1) ≤ l (grC1 q n) ↔ q 19 (n + 1) ≤ q 19 (grC1 q n) := by
      rw [h (n + 1) (by omega), h (grC1 q n) (by omega), Int64.le_iff_toInt_le, leI, c64, c64]
    by_cases c : q 19 (n + 1) ≤ q 19 (grC1 q n)
    · rw [if_pos c, if_pos (e3.mpr c)]
    · rw [if_neg c, if_neg (fun h => c (e3.mp h))]
theorem alt2 {y s : Nat} : ∀ (N : Nat) (a : Nat → Nat → Int32) (b : ax_S2), a 10 = b.1 41 → (∀ v : Nat, v < 6 → b.2 v = (a 19 v).toInt64) → itF (fun _ => al2 y s) N a 10 = (itF (fun _ => am2 y s) N b).1 41 ∧ (∀ v : Nat, v < 6 → (itF (fun _ => am2 y s) N b).2 v = (itF (fun _ => al2 y s) N a 19 v).toInt64)
  | 0, _, _, h1, h2 => by rw [itF_0, itF_0]; exact ⟨h1, h2⟩
  | N + 1, a, b, h1, h2 => by
    obtain ⟨i1, i2⟩ := alt2 N a b h1 h2
    rw [itF_s, itF_s]
    generalize itF (fun _ => al2 y s) N a = a1 at i1 i2 ⊢
    generalize itF (fun _ => am2 y s) N b = b1 at i1 i2 ⊢
    have hg := gr_eq i2 5 (Nat.le_refl _)
    unfold al2 am2
    dsimp only
    rw [hg]
    generalize grC1 a1 5 = g
    refine ⟨?_, fun v hv => ?_⟩
    · show upd (a1 10) _ _ = upd (b1.1 41) _ _; rw [i1]
    · show vp_updL b1.2 g (-1) v = (upd (a1 19) g (-1) v).toInt64
      by_cases e : v = g
      · rw [e, pk_uLs, pk_us]; exact mone
      · rw [pk_uLn e, pk_un e]; exact i2 v hv
theorem alt_b1 {lim : Int32} {y s : Nat} (hl : 0 ≤ lim.toInt ∧ lim.toInt ≤ 1000000) (hs : s < 4) (hb : ∀ k : Nat, k < 24 → 0 ≤ (q 8 k).toInt ∧ (q 8 k).toInt ≤ 1000000) : ∀ n : Nat, n ≤ 6 → (∀ v : Nat, v < n → 0 ≤ ((alS lim y s n q).1 10 (24 * y + 4 * v + s)).toInt ∧ ((alS lim y s n q).1 10 (24 * y + 4 * v + s)).toInt ≤ 1000000) ∧ ∀ k : Nat, (∀ v : Nat, v < n → k ≠ 24 * y + 4 * v + s) → (alS lim y s n q).1 10 k = q 10 k
  | 0, _ => by
    rw [alS_0]
    exact ⟨fun v h => absurd h (Nat.not_lt_zero _), fun k _ => rfl⟩
  | n + 1, hn => by
    obtain ⟨i1, i2⟩ := alt_b1 (y := y) hl hs hb n (by omega)
    have e8 : (alS lim y s n q).1 8 = q 8 := alS_k (by decide) (by decide) n
    obtain ⟨d1, d2, d3, d4, d5, d6, d7⟩ := due_b hl (hb (6 * s + n) (by omega))
    rw [alS_s]
    generalize alS lim y s n q = z at i1 i2 e8 ⊢
    obtain ⟨z1, z2, z3⟩ := z
    dsimp only at i1 i2 e8
    unfold al1
    dsimp only
    rw [e8]
    generalize (lim.toInt64 * (q 8 (6 * s + n)).toInt64 / 1000000).toInt32 = x at d5 ⊢
    generalize (lim.toInt64 * (q 8 (6 * s + n)).toInt64 - lim.toInt64 * (q 8 (6 * s + n)).toInt64 / 1000000 * 1000000).toInt32 = x2
    refine ⟨fun v hv => ?_, fun k hk => ?_⟩
    · show 0 ≤ (upd (z1 10) (24 * y + 4 * n + s) x (24 * y + 4 * v + s)).toInt ∧ (upd (z1 10) (24 * y + 4 * n + s) x (24 * y + 4 * v + s)).toInt ≤ 1000000
      by_cases e : v = n
      · rw [e, pk_us, d5]; omega
      · rw [pk_un (by omega)]; exact i1 v (by omega)
    · show upd (z1 10) (24 * y + 4 * n + s) x k = q 10 k
      rw [pk_un (hk n (by omega))]
      exact i2 k fun v hv => hk v (by omega)
theorem alt_b2 {y s : Nat} : ∀ (N : Nat) (a : Nat → Nat → Int32), N ≤ 6000000 → (∀ v : Nat, v < 6 → 0 ≤ (a 10 (24 * y + 4 * v + s)).toInt ∧ (a 10 (24 * y + 4 * v + s)).toInt ≤ 1000000) → (∀ v : Nat, v < 6 → 0 ≤ (itF (fun _ => al2 y s) N a 10 (24 * y + 4 * v + s)).toInt ∧ (itF (fun _ => al2 y s) N a 10 (24 * y + 4 * v + s)).toInt ≤ 1000000 + (N : Int)) ∧ ∀ k : Nat, (∀ v : Nat, v < 6 → k ≠ 24 * y + 4 * v + s) → itF (fun _ => al2 y s) N a 10 k = a 10 k
  | 0, a, _, h => by
    rw [itF_0]
    exact ⟨fun v hv => ⟨(h v hv).1, by have := (h v hv).2; omega⟩, fun k _ => rfl⟩
  | N + 1, a, hN, h => by
    obtain ⟨i1, i2⟩ := alt_b2 N a (by omega) h
    rw [itF_s]
    generalize itF (fun _ => al2 y s) N a = a1 at i1 i2 ⊢
    have hg := grC1_lt a1 5
    unfold al2
    generalize grC1 a1 5 = g at hg ⊢
    have hg2 := i1 g (by omega)
    have e1 : (1 : Int32).toInt = 1 := by decide
    have e2 : (a1 10 (24 * y + 4 * g + s) + 1).toInt = (a1 10 (24 * y + 4 * g + s)).toInt + 1 := by
      rw [addI, e1]
      · rw [e1]; omega
      · rw [e1]; omega
    refine ⟨fun v hv => ?_, fun k hk => ?_⟩
    · show 0 ≤ (upd (a1 10) (24 * y + 4 * g + s) (a1 10 (24 * y + 4 * g + s) + 1) (24 * y + 4 * v + s)).toInt ∧ (upd (a1 10) (24 * y + 4 * g + s) (a1 10 (24 * y + 4 * g + s) + 1) (24 * y + 4 * v + s)).toInt ≤ 1000000 + ((N + 1 : Nat) : Int)
      by_cases e : v = g
      · rw [e, pk_us, e2]; omega
      · rw [pk_un (by omega)]; have := i1 v hv; omega
    · show upd (a1 10) (24 * y + 4 * g + s) _ k = a 10 k
      rw [pk_un (hk g (by omega))]
      exact i2 k hk
theorem allotC_e {lim : Int32} {y s : Nat} : allotC q lim y s = itF (fun _ => al2 y s) (cnt (alS lim y s 6 q).2.2 ((alS lim y s 6 q).2.1 / 1000000).toInt32) (alS lim y s 6 q).1 := rfl
theorem allotM_e {lim : Int32} {y s : Nat} : allotM p l lim y s = itF (fun _ => am2 y s) (cntL (amS lim y s 6 p l).2.2.2 (lim.toInt64 * (amS lim y s 6 p l).2.2.1 / 1000000)) ((amS lim y s 6 p l).1, (amS lim y s 6 p l).2.1) := rfl
theorem allot_eq {lim : Int32} {y s : Nat} (hl : 0 ≤ lim.toInt ∧ lim.toInt ≤ 1000000) (hs : s < 4) (h8 : q 8 = p 37) (hb : ∀ k : Nat, k < 24 → 0 ≤ (q 8 k).toInt ∧ (q 8 k).toInt ≤ 1000000) (h10 : q 10 = p 41) (hB : ∀ k : Nat, 0 ≤ (q 10 k).toInt ∧ (q 10 k).toInt ≤ 7000000) :
    allotC q lim y s 10 = (allotM p l lim y s).1 41 ∧ (∀ k : Nat, 0 ≤ (allotC q lim y s 10 k).toInt ∧ (allotC q lim y s 10 k).toInt ≤ 7000000) ∧ ∀ k : Nat, (k < 24 * y ∨ 24 * y + 24 ≤ k) → allotC q lim y s 10 k = q 10 k := by
  obtain ⟨S, P, D, a1, a2, a3, a4, a5, a6, a7, a8, a9, a10, a11⟩ := alt1 (y := y) (l := l) hl hs h8 hb h10 6 (Nat.le_refl _)
  obtain ⟨b1, b2⟩ := alt_b1 (y := y) hl hs hb 6 (Nat.le_refl _)
  rw [allotC_e, allotM_e]
  generalize alS lim y s 6 q = z at a1 a2 a3 a5 b1 b2 ⊢
  generalize amS lim y s 6 p l = w at a1 a2 a4 a6 ⊢
  obtain ⟨z1, z2, z3⟩ := z
  obtain ⟨w1, w2, w3, w4⟩ := w
  dsimp only at a1 a2 a3 a4 a5 a6 b1 b2 ⊢
  have hP : 0 ≤ lim.toInt * P ∧ lim.toInt * P ≤ 1000000 * 6000000 := ⟨Int.mul_nonneg hl.1 a8, Int.mul_le_mul hl.2 (by omega) a8 (by omega)⟩
  have e1 : (z2 / 1000000).toInt = S / 1000000 := by rw [divL (by omega) (by rw [m64]; omega), a3, m64]
  have e2 : (z2 / 1000000).toInt32.toInt = S / 1000000 := by rw [l2i (by omega) (by omega), e1]
  have e3 : (lim.toInt64 * w3).toInt = lim.toInt * P := by
    rw [mulL, c64, a4]
    · rw [c64, a4]; omega
    · rw [c64, a4]; omega
  have e4 : (lim.toInt64 * w3 / 1000000).toInt = S / 1000000 := by rw [divL (by omega) (by rw [m64]; omega), e3, m64, a7]
  have e5 : cntL w4 (lim.toInt64 * w3 / 1000000) = cnt z3 (z2 / 1000000).toInt32 := by unfold cnt cntL; rw [e4, e2, a5, a6]
  have e6 : cnt z3 (z2 / 1000000).toInt32 ≤ 6000000 := by unfold cnt; rw [e2, a5]; omega
  rw [e5]
  generalize cnt z3 (z2 / 1000000).toInt32 = N at e6 ⊢
  obtain ⟨c1, c2⟩ := alt_b2 (y := y) (s := s) N z1 e6 b1
  refine ⟨(alt2 (y := y) (s := s) N z1 (w1, w2) a1 a2).1, fun k => ?_, fun k hk => ?_⟩
  · by_cases e : ∃ v : Nat, v < 6 ∧ k = 24 * y + 4 * v + s
    · obtain ⟨v, hv, rfl⟩ := e
      have := c1 v hv
      omega
    · have hn : ∀ v : Nat, v < 6 → k ≠ 24 * y + 4 * v + s := fun v hv h => e ⟨v, hv, h⟩
      rw [c2 k hn, b2 k hn]
      exact hB k
  · have hn : ∀ v : Nat, v < 6 → k ≠ 24 * y + 4 * v + s := fun v hv h => by omega
    rw [c2 k hn, b2 k hn]
end ALT
