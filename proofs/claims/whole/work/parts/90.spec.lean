/-! the relation holds at the start and through every call; the claim -/
theorem fill_0 {x : Int32} {f : Nat → Int32} : fillF x 0 f = f := rfl
theorem fill_s {x : Int32} {n : Nat} {f : Nat → Int32} : fillF x (n + 1) f = upd (fillF x n f) n x := rfl
theorem id_0 {f : Nat → Int32} : idF 0 f = f := rfl
theorem id_s {n : Nat} {f : Nat → Int32} : idF (n + 1) f = upd (idF n f) n (nI n) := rfl
theorem fill_at {x : Int32} {f : Nat → Int32} : ∀ n i : Nat, fillF x n f i = if i < n then x else f i
  | 0, i => by rw [fill_0, if_neg (by omega)]
  | n + 1, i => by
    rw [fill_s]
    by_cases e : i = n
    · rw [e, pk_us, if_pos (by omega)]
    · rw [pk_un e, fill_at n i]
      by_cases c : i < n
      · rw [if_pos c, if_pos (by omega)]
      · rw [if_neg c, if_neg (by omega)]
theorem id_at {f : Nat → Int32} : ∀ n i : Nat, idF n f i = if i < n then nI i else f i
  | 0, i => by rw [id_0, if_neg (by omega)]
  | n + 1, i => by
    rw [id_s]
    by_cases e : i = n
    · rw [e, pk_us, if_pos (by omega)]
    · rw [pk_un e, id_at n i]
      by_cases c : i < n
      · rw [if_pos c, if_pos (by omega)]
      · rw [if_neg c, if_neg (by omega)]
section SPEC
variable {q p : Nat → Nat → Int32} {y n : Nat}
theorem p1F_0 : p1F 0 p = p := rfl
theorem p1F_s {m : Nat} : p1F (m + 1) p = qv (qv (p1F m p) 32 m 1) 33 m 1000000 := rfl
theorem p2F_0 : p2F 0 p = p := rfl
theorem p2F_s {m : Nat} : p2F (m + 1) p = qv (p2F m p) 34 m 1000 := rfl
theorem p3F_0 : p3F 0 p = p := rfl
theorem p3F_s {m : Nat} : p3F (m + 1) p = qv (p3F m p) 35 m (nI m) := rfl
theorem p1F_at : ∀ m : Nat, p1F m p 32 = fillF 1 m (p 32) ∧ p1F m p 33 = fillF 1000000 m (p 33) ∧ ∀ k : Nat, k ≠ 32 → k ≠ 33 → p1F m p k = p k
  | 0 => by rw [p1F_0, fill_0, fill_0]; exact ⟨rfl, rfl, fun _ _ _ => rfl⟩
  | m + 1 => by
    obtain ⟨h1, h2, h3⟩ := p1F_at m
    rw [p1F_s]
    generalize p1F m p = P at h1 h2 h3 ⊢
    refine ⟨?_, ?_, fun k k1 k2 => by rw [qv_n k2, qv_n k1]; exact h3 k k1 k2⟩
    · rw [fill_s, ← h1]; rfl
    · rw [fill_s, ← h2]; rfl
theorem p2F_at : ∀ m : Nat, p2F m p 34 = fillF 1000 m (p 34) ∧ ∀ k : Nat, k ≠ 34 → p2F m p k = p k
  | 0 => by rw [p2F_0, fill_0]; exact ⟨rfl, fun _ _ => rfl⟩
  | m + 1 => by
    obtain ⟨h1, h2⟩ := p2F_at m
    rw [p2F_s]
    generalize p2F m p = P at h1 h2 ⊢
    refine ⟨?_, fun k k1 => by rw [qv_n k1]; exact h2 k k1⟩
    rw [fill_s, ← h1]; rfl
theorem p3F_at : ∀ m : Nat, p3F m p 35 = idF m (p 35) ∧ ∀ k : Nat, k ≠ 35 → p3F m p k = p k
  | 0 => by rw [p3F_0, id_0]; exact ⟨rfl, fun _ _ => rfl⟩
  | m + 1 => by
    obtain ⟨h1, h2⟩ := p3F_at m
    rw [p3F_s]
    generalize p3F m p = P at h1 h2 ⊢
    refine ⟨?_, fun k k1 => by rw [qv_n k1]; exact h2 k k1⟩
    rw [id_s, ← h1]; rfl
theorem p0F_at : p0F 32 = fillF 1 4 (fun _ => 0) ∧ p0F 33 = fillF 1000000 4 (fun _ => 0) ∧ p0F 34 = fillF 1000 12 (fun _ => 0) ∧ p0F 35 = idF 6 (fun _ => 0) ∧ ∀ k : Nat, k ≠ 32 → k ≠ 33 → k ≠ 34 → k ≠ 35 → p0F k = fun _ => 0 := by
  unfold p0F
  obtain ⟨a1, a2, a3⟩ := p1F_at (p := fun _ _ => 0) 4
  generalize p1F 4 (fun _ _ => 0) = P1 at a1 a2 a3 ⊢
  obtain ⟨b1, b2⟩ := p2F_at (p := P1) 12
  generalize p2F 12 P1 = P2 at b1 b2 ⊢
  obtain ⟨c1, c2⟩ := p3F_at (p := P2) 6
  generalize p3F 6 P2 = P3 at c1 c2 ⊢
  refine ⟨?_, ?_, ?_, ?_, fun k k1 k2 k3 k4 => ?_⟩
  · rw [c2 32 (by decide), b2 32 (by decide)]; exact a1
  · rw [c2 33 (by decide), b2 33 (by decide)]; exact a2
  · rw [c2 34 (by decide), b1, a3 34 (by decide) (by decide)]
  · rw [c1, b2 35 (by decide), a3 35 (by decide) (by decide)]
  · rw [c2 k k4, b2 k k3, a3 k k1 k2]
theorem sI_zz {g : Nat → Bool} {f : Nat → Int32} (h : ∀ o : Nat, f o = 0) : ∀ m : Nat, sI f g m = 0
  | 0 => rfl
  | m + 1 => by
    rw [sI_s, sI_zz h m, h m, z32]
    split <;> rfl
theorem LC_z {a b : Nat} : LC (fun _ => 0) a b = false := by
  unfold LC
  rw [Int32.zero_and]; rfl
theorem RS_0 : RS q0F p0F := by
  obtain ⟨a1, a2, a3, a4, a5⟩ := p0F_at
  have e1 : q0F 1 = fillF 1 4 (fun _ => 0) := rfl
  have e2 : q0F 2 = fillF 1000 12 (fun _ => 0) := rfl
  have e4 : q0F 4 = fillF 1000000 4 (fun _ => 0) := rfl
  have e6 : q0F 6 = idF 6 (fun _ => 0) := rfl
  have e5 : q0F 5 = fun _ => 0 := rfl
  have e7 : q0F 7 = fun _ => 0 := rfl
  have e8 : q0F 8 = fun _ => 0 := rfl
  have ep : ∀ s o : Nat, pt q0F s o = 0 := fun s o => by unfold pt; rw [e7]
  generalize q0F = Q at e1 e2 e4 e5 e6 e7 e8 ep ⊢
  generalize p0F = P at a1 a2 a3 a4 a5 ⊢
  refine ⟨⟨by rw [e1, a1], by rw [e4, a2], by rw [e2, a3], by rw [e6, a4], by rw [e7, a5 36 (by decide) (by decide) (by decide) (by decide)], by rw [e8, a5 37 (by decide) (by decide) (by decide) (by decide)]⟩, fun a b _ _ => ?_, fun k => ⟨false, ?_⟩, fun s hs => ⟨fun o ho => ?_, ?_⟩, fun s o hs ho => ?_, fun k hk => ?_, fun s o hs ho => ?_, fun v hv => ⟨v, hv, ?_⟩, fun s hs => ?_, fun k hk => ?_, fun a b _ _ => ?_⟩
  · rw [e5, LC_z]; unfold LM; rw [a5 38 (by decide) (by decide) (by decide) (by decide)]; rfl
  · rw [a5 38 (by decide) (by decide) (by decide) (by decide)]; rfl
  · rw [ep s o, z32]; omega
  · have h9 : tot (pt Q s) 6 = 0 := sI_zz (ep s) 6
    rw [h9]; omega
  · rw [sI_zz (ep s) 6, e4, fill_at, if_pos hs]; decide
  · rw [e8, z32]; omega
  · rw [plI_I, sI_zz (fun v => by rw [e8]) 6, e7, z32]; omega
  · rw [e6, id_at, if_pos hv]
  · rw [e1, fill_at, if_pos hs]; decide
  · rw [e2, fill_at, if_pos hk]; decide
  · rw [e5, LC_z, LC_z]
theorem RY_0 : RY q0F p0F 0 0 := by
  obtain ⟨-, -, -, -, a5⟩ := p0F_at
  have e : ∀ k : Nat, k ≠ 32 → k ≠ 33 → k ≠ 34 → k ≠ 35 → p0F k = fun _ => 0 := a5
  have e0 : q0F 0 = fun _ => 0 := rfl
  have e10 : q0F 10 = fun _ => 0 := rfl
  have e15 : q0F 15 = fun _ => 0 := rfl
  have e16 : q0F 16 = fun _ => 0 := rfl
  have e17 : q0F 17 = fun _ => 0 := rfl
  have e20 : q0F 20 = fun _ => 0 := rfl
  have e28 : q0F 28 = fun _ => 0 := rfl
  have e30 : q0F 30 = fun _ => 0 := rfl
  have n0 : (0 : Int32) = nI 0 := by decide
  generalize q0F = Q at e0 e10 e15 e16 e17 e20 e28 e30 ⊢
  generalize p0F = P at e ⊢
  refine ⟨⟨⟨by rw [e0]; exact n0, by omega, by rw [e20]; exact n0, by omega⟩, ⟨by rw [e 31 (by decide) (by decide) (by decide) (by decide)]; exact n0, by rw [e 31 (by decide) (by decide) (by decide) (by decide)]; exact n0, by rw [e 31 (by decide) (by decide) (by decide) (by decide), e0], Or.inl (by rw [e0])⟩, by rw [e30, e 40 (by decide) (by decide) (by decide) (by decide)], by rw [e10, e 41 (by decide) (by decide) (by decide) (by decide)], fun k => by rw [e10, z32]; omega⟩, ⟨fun i hi => absurd hi (Nat.not_lt_zero _), fun i _ => by rw [e28]⟩, ⟨fun t t1 t2 => absurd t1 (by omega), fun j _ => by rw [e15, e16]; exact ⟨rfl, rfl⟩, fun k j k1 k2 _ => ?_⟩, fun t t1 t2 => absurd t1 (by omega), fun j _ => by rw [e 46 (by decide) (by decide) (by decide) (by decide), e 47 (by decide) (by decide) (by decide) (by decide)]; exact ⟨rfl, rfl⟩⟩
  rcases (show k = 15 ∨ k = 16 ∨ k = 17 by omega) with rfl | rfl | rfl
  · rw [e15]
  · rw [e16]
  · rw [e17]
theorem RR_bs (hR : RR q p) : ∃ y n : Nat, bsF q p y n := by
  obtain ⟨hS, y, n, hY⟩ := hR
  obtain ⟨hB, hE, hK, hM⟩ := hY
  obtain ⟨⟨a1, a2, a3, a4⟩, ⟨b1, b2, b3, b4⟩, c1, c2, c3⟩ := hB
  obtain ⟨⟨d1, d2, d3, d4, d5, d6⟩, d7, d8, f1, f2, f3, f4, f5, f6, f7, f8⟩ := hS
  have hv : ∀ s : Nat, s < 4 → ¬ q 1 s = 0 := fun s hs h => by
    have := (f6 s hs).1
    rw [h, z32] at this
    omega
  refine ⟨y, n, a1, a2, a3, a4, b1, b2, fun i hi => (hE.1 i hi).1, fun i hi => evOK_eP (RE_ok hE i hi), fun i hi => (hE.1 i hi).2.1, fun i hi => ?_, fun v hv => ?_, hv, fun s hs => by rw [← d1]; exact hv s hs, d8⟩
  · obtain ⟨j, hj, e⟩ := f5 i hi
    rw [e, tN_nI (by omega)]
    exact ⟨rfl, hj⟩
  · rw [← d4]; exact f5 v hv
theorem RY_bs (hR : RR q p) (hb : bsF q p y n) : RS q p ∧ RY q p y n := by
  obtain ⟨hS, y', n', hY⟩ := hR
  obtain ⟨b1, b2, b3, b4, -⟩ := hb
  obtain ⟨⟨a1, a2, a3, a4⟩, -⟩ := id hY.1
  have e1 : y' = y := (nI_inj (by omega) (by omega)).mp (a1.symm.trans b1)
  have e2 : n' = n := (nI_inj (by omega) (by omega)).mp (a3.symm.trans b3)
  rw [e1, e2] at hY
  exact ⟨hS, hY⟩
end SPEC
theorem r_spec : RSpec RR := by
  refine ⟨fun q p h => RR_bs h, ⟨RS_0, 0, 0, RY_0⟩, ?_, ?_, ?_, ?_, ?_, ?_, ?_, ?_, ?_, ?_, ?_, ?_, ?_, ?_, ?_, ?_, ?_, ?_, ?_, ?_⟩
  · intro q p y n hR hb a0 a1 a2
    obtain ⟨hS, hY⟩ := RY_bs hR hb
    obtain ⟨h1, h2, h3, h4, h5⟩ := p_species hS a0 a1 a2
    exact ⟨⟨h1, y, n, RY_fr hY h4 h5⟩, h2, h3⟩
  · intro q p y n hR hb a0 a1 a2
    obtain ⟨hS, hY⟩ := RY_bs hR hb
    obtain ⟨h1, h2, h3, h4, h5⟩ := p_factor hS a0 a1 a2
    exact ⟨⟨h1, y, n, RY_fr hY h4 h5⟩, h2, h3⟩
  · intro q p y n hR hb a0 a1
    obtain ⟨hS, hY⟩ := RY_bs hR hb
    obtain ⟨h1, h2, h3, h4, h5⟩ := p_vessel hS a0 a1
    exact ⟨⟨h1, y, n, RY_fr hY h4 h5⟩, h2, h3⟩
  · intro q p y n hR hb a0 a1
    obtain ⟨hS, hY⟩ := RY_bs hR hb
    obtain ⟨h1, h2, h3, h4, h5⟩ := p_link hS a0 a1
    exact ⟨⟨h1, y, n, RY_fr hY h4 h5⟩, h2, h3⟩
  · intro q p y n hR hb a0 a1
    obtain ⟨hS, hY⟩ := RY_bs hR hb
    obtain ⟨h1, h2, h3, h4, h5⟩ := p_unlink hS a0 a1
    exact ⟨⟨h1, y, n, RY_fr hY h4 h5⟩, h2, h3⟩
  · intro q p y n hR hb a0 a1 a2
    obtain ⟨hS, hY⟩ := RY_bs hR hb
    obtain ⟨h1, h2, h3, h4, h5⟩ := p_issue hS (hY.1.1.1.trans hY.1.2.1.1.symm) a0 a1 a2
    exact ⟨⟨h1, y, n, RY_fr hY h4 h5⟩, h2, h3⟩
  · intro q p y n hR hb a0 a1 a2 a3
    obtain ⟨hS, hY⟩ := RY_bs hR hb
    obtain ⟨h1, h2, h3, h4, h5⟩ := p_sell hS a0 a1 a2 a3
    exact ⟨⟨h1, y, n, RY_fr hY h4 h5⟩, h2, h3⟩
  · intro q p y n hR hb a0 a1 a2
    obtain ⟨hS, hY⟩ := RY_bs hR hb
    obtain ⟨h1, h2, h3, h4, h5⟩ := p_place hS a0 a1 a2
    exact ⟨⟨h1, y, n, RY_fr hY h4 h5⟩, h2, h3⟩
  · intro q p y n hR hb l a0 a1 a2 a3
    obtain ⟨hS, hY⟩ := RY_bs hR hb
    exact t_open hS hY l a0 a1 a2 a3
  · intro q p y n hR hb
    obtain ⟨hS, hY⟩ := RY_bs hR hb
    exact t_end hS hY
  · intro q p y n hR hb a0 a1 a2 a3
    obtain ⟨hS, hY⟩ := RY_bs hR hb
    exact t_lease hS hY a0 a1 a2 a3
  · intro q p y n hR hb a0 a1 a2 a3 a4 a5 _
    obtain ⟨hS, hY⟩ := RY_bs hR hb
    exact tt_land hS hY a0 a1 a2 a3 a4 a5
  · intro q p y n hR hb a0 a1 a2 a3
    obtain ⟨hS, hY⟩ := RY_bs hR hb
    exact t_equivalent hS hY a0 a1 a2 a3
  · intro q p y n hR hb a0
    obtain ⟨hS, hY⟩ := RY_bs hR hb
    exact t_strike hS hY a0
  · intro q p y n hR hb a0
    obtain ⟨hS, hY⟩ := RY_bs hR hb
    exact t_reopen hS hY a0
  · intro q p y n hR hb a0 a1 a2 a3
    obtain ⟨hS, hY⟩ := RY_bs hR hb
    exact t_account hS hY a0 a1 a2 a3
  · intro q p y n hR hb a0 a1
    obtain ⟨hS, hY⟩ := RY_bs hR hb
    exact t_levy hS hY a0 a1
  · intro q p y n hR hb a0 a1 a2
    obtain ⟨hS, hY⟩ := RY_bs hR hb
    obtain ⟨h1, h2, h3, h4, h5⟩ := p_held hS a0 a1 a2
    exact ⟨⟨h1, y, n, RY_fr hY h4 h5⟩, h2, h3⟩
  · intro q p y n hR hb a0 a1
    obtain ⟨hS, hY⟩ := RY_bs hR hb
    exact t_event hS hY a0 a1
  · intro q p y n hR hb a0
    obtain ⟨hS, hY⟩ := RY_bs hR hb
    exact t_about hS hY a0
