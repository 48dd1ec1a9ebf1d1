/-! a year's accounts as one function of what was told: ZF; a state agrees with it: CN -/
abbrev TT : Type := (Nat → Int32) × (Nat → Int32) × (Nat → Int32)
def Ef (m : Nat) (f g : Nat → Int32) : Prop := ∀ j : Nat, j < m → f j = g j
theorem Ef_r {m : Nat} {f : Nat → Int32} : Ef m f f := fun _ _ => rfl
theorem Ef_y {m : Nat} {f g : Nat → Int32} (h : Ef m f g) : Ef m g f := fun j hj => (h j hj).symm
theorem Ef_t {m : Nat} {f g k : Nat → Int32} (h : Ef m f g) (h2 : Ef m g k) : Ef m f k := fun j hj => (h j hj).trans (h2 j hj)
theorem Ef_up {m k : Nat} {f g : Nat → Int32} {x y : Int32} (h : Ef m f g) (e : x = y) : Ef m (upd f k x) (upd g k y) := fun j hj => by
  by_cases c : j = k
  · rw [c, pk_us, pk_us, e]
  · rw [pk_un c, pk_un c, h j hj]
def EqT (z w : TT) : Prop := Ef 24 z.1 w.1 ∧ Ef 24 z.2.1 w.2.1 ∧ Ef 6 z.2.2 w.2.2
theorem EqT_r {z : TT} : EqT z z := ⟨Ef_r, Ef_r, Ef_r⟩
theorem EqT_y {z w : TT} (h : EqT z w) : EqT w z := ⟨Ef_y h.1, Ef_y h.2.1, Ef_y h.2.2⟩
theorem EqT_t {z w u : TT} (h : EqT z w) (h2 : EqT w u) : EqT z u := ⟨Ef_t h.1 h2.1, Ef_t h.2.1 h2.2.1, Ef_t h.2.2 h2.2.2⟩
def sh (c : Nat) (f : Nat → Int32) : Nat → Int32 := fun j => f (c + j)
theorem sh_up {c a : Nat} {f : Nat → Int32} {x : Int32} : sh c (upd f (c + a) x) = upd (sh c f) a x := by
  funext j
  unfold sh
  by_cases e : j = a
  · rw [e, pk_us, pk_us]
  · rw [pk_un e, pk_un (by omega)]
def lfG (al bk tk : Nat → Int32) (z : TT) (j : Nat) : Int32 := al j + z.1 j + bk j - tk j - z.2.1 j
def mvG (f : Nat → Int32) (a b : Nat) (x y : Int32) : Nat → Int32 := upd (upd f a (f a - x)) b (upd f a (f a - x) b + y)
theorem Ef_mv {m a b : Nat} {f g : Nat → Int32} {x y : Int32} (h : Ef m f g) (ha : a < m) (hb : b < m) : Ef m (mvG f a b x y) (mvG g a b x y) := by
  have h1 : Ef m (upd f a (f a - x)) (upd g a (g a - x)) := Ef_up h (by rw [h a ha])
  exact Ef_up h1 (by rw [h1 b hb])
def evG (al bk tk : Nat → Int32) (kd : Int32) (v s o : Nat) (kg wt st : Int32) (z : TT) : Bool × TT :=
  if kd = 0 then (if wt ≤ lfG al bk tk z (4 * v + s) then (true, mvG z.1 (4 * v + s) (4 * o + s) wt wt, z.2.1, z.2.2) else (false, z))
  else if kd = 1 then (if st = 0 then (true, z.1, upd z.2.1 (4 * v + s) (z.2.1 (4 * v + s) + wt), z.2.2) else (false, z))
  else (if (decide (kg ≤ z.2.1 (4 * v + s)) && (decide (wt ≤ lfG al bk tk z (4 * v + o)) && decide (z.2.2 v + kg ≤ 1000))) = true then (true, z.1, mvG z.2.1 (4 * v + s) (4 * v + o) kg wt, upd z.2.2 v (z.2.2 v + kg)) else (false, z))
theorem evG_c {al bk tk al' bk' tk' : Nat → Int32} {kd : Int32} {v s o o' : Nat} {kg wt st : Int32} {z z' : TT} (ha : Ef 24 al al') (hb : Ef 24 bk bk') (hk : Ef 24 tk tk') (hz : EqT z z') (hv : v < 6) (hs : s < 4) (ho : kd = 1 ∨ o = o') (h0 : kd = 0 → o < 6) (h2 : ¬ kd = 0 → ¬ kd = 1 → o < 4) :
    (evG al bk tk kd v s o kg wt st z).1 = (evG al' bk' tk' kd v s o' kg wt st z').1 ∧ EqT (evG al bk tk kd v s o kg wt st z).2 (evG al' bk' tk' kd v s o' kg wt st z').2 := by
  have hl : ∀ j : Nat, j < 24 → lfG al bk tk z j = lfG al' bk' tk' z' j := fun j hj => by
    unfold lfG; rw [ha j hj, hb j hj, hk j hj, hz.1 j hj, hz.2.1 j hj]
  unfold evG
  by_cases c0 : kd = 0
  · have eo : o = o' := by
      rcases ho with h | h
      · rw [c0] at h; exact absurd h (by decide)
      · exact h
    subst eo
    have hol := h0 c0
    rw [if_pos c0, if_pos c0, hl _ (by omega)]
    split
    · exact ⟨rfl, Ef_mv hz.1 (by omega) (by omega), hz.2.1, hz.2.2⟩
    · exact ⟨rfl, hz⟩
  · rw [if_neg c0, if_neg c0]
    by_cases c1 : kd = 1
    · rw [if_pos c1, if_pos c1]
      split
      · exact ⟨rfl, hz.1, Ef_up hz.2.1 (by rw [hz.2.1 _ (by omega)]), hz.2.2⟩
      · exact ⟨rfl, hz⟩
    · have eo : o = o' := ho.resolve_left c1
      subst eo
      have hol := h2 c0 c1
      rw [if_neg c1, if_neg c1, hl _ (by omega), hz.2.1 _ (by omega), hz.2.2 v hv]
      split
      · exact ⟨rfl, hz.1, Ef_mv hz.2.1 (by omega) (by omega), Ef_up hz.2.2 rfl⟩
      · exact ⟨rfl, hz⟩
def evF (Q : Nat → Nat → Int32) (t i : Nat) (z : TT) : Bool × TT := evG (sh (24 * t) (Q 10)) (sh (24 * t) (Q 12)) (sh (24 * t) (Q 13)) (Q 21 i) (vs Q i) (sp Q i) (ot Q i) (Q 26 i) (Q 27 i) (Q 28 i) z
def ZF (Q : Nat → Nat → Int32) (t n : Nat) : TT := itF (fun i z => if Q 22 i = nI t then (evF Q t i z).2 else z) n (fun _ => 0, fun _ => 0, fun _ => 0)
theorem ZF_0 {Q : Nat → Nat → Int32} {t : Nat} : ZF Q t 0 = (fun _ => 0, fun _ => 0, fun _ => 0) := rfl
theorem ZF_s {Q : Nat → Nat → Int32} {t n : Nat} : ZF Q t (n + 1) = if Q 22 n = nI t then (evF Q t n (ZF Q t n)).2 else ZF Q t n := rfl
/-- the same event in both -/
def EqE (Q Q' : Nat → Nat → Int32) (i : Nat) : Prop := Q 21 i = Q' 21 i ∧ Q 22 i = Q' 22 i ∧ Q 23 i = Q' 23 i ∧ Q 24 i = Q' 24 i ∧ (¬ Q 21 i = 1 → Q 25 i = Q' 25 i) ∧ Q 26 i = Q' 26 i ∧ Q 27 i = Q' 27 i ∧ Q 28 i = Q' 28 i
theorem EqE_r {Q : Nat → Nat → Int32} {i : Nat} : EqE Q Q i := ⟨rfl, rfl, rfl, rfl, fun _ => rfl, rfl, rfl, rfl⟩
def EqR (Q Q' : Nat → Nat → Int32) (t : Nat) : Prop := Ef 24 (sh (24 * t) (Q 10)) (sh (24 * t) (Q' 10)) ∧ Ef 24 (sh (24 * t) (Q 12)) (sh (24 * t) (Q' 12)) ∧ Ef 24 (sh (24 * t) (Q 13)) (sh (24 * t) (Q' 13))
theorem evF_c {Q Q' : Nat → Nat → Int32} {t i : Nat} {z z' : TT} (hE : EqE Q Q' i) (hR : EqR Q Q' t) (hz : EqT z z') (ho : evOK Q i) : (evF Q t i z).1 = (evF Q' t i z').1 ∧ EqT (evF Q t i z).2 (evF Q' t i z').2 := by
  obtain ⟨e1, e2, e3, e4, e5, e6, e7, e8⟩ := hE
  obtain ⟨-, -, -, o4, -, o6, o7, o8⟩ := ho
  unfold evF
  rw [show vs Q' i = vs Q i by unfold vs; rw [e3], show sp Q' i = sp Q i by unfold sp; rw [e4], ← e1, ← e6, ← e7, ← e8]
  refine evG_c hR.1 hR.2.1 hR.2.2 hz o4 o6 ?_ (fun h => (o7 h).2) (fun h h' => (o8 h h').2)
  by_cases c : Q 21 i = 1
  · exact Or.inl c
  · right; unfold ot; rw [e5 c]
theorem ZF_c {Q Q' : Nat → Nat → Int32} {t : Nat} (hR : EqR Q Q' t) : ∀ n : Nat, (∀ i : Nat, i < n → EqE Q Q' i) → (∀ i : Nat, i < n → evOK Q i) → EqT (ZF Q t n) (ZF Q' t n)
  | 0, _, _ => by rw [ZF_0, ZF_0]; exact EqT_r
  | n + 1, hE, ho => by
    have ih := ZF_c hR n (fun i hi => hE i (by omega)) (fun i hi => ho i (by omega))
    rw [ZF_s, ZF_s, ← (hE n (by omega)).2.1]
    by_cases c : Q 22 n = nI t
    · rw [if_pos c, if_pos c]
      exact (evF_c (hE n (by omega)) hR ih (ho n (by omega))).2
    · rw [if_neg c, if_neg c]
      exact ih
/-- what a year's end leaves -/
def bkF (a l : Int32) : Int32 := mnF (a * 15 / 100) (mxF 0 l)
def ovF (l : Int32) : Int32 := mxF 0 (-l)
def adF (a l : Int32) : Int32 := mnF (a * 5 / 100) (ovF l)
def lvF (a l : Int32) : Int32 := ovF l - adF a l
def clF (Q : Nat → Nat → Int32) (cl : Bool) (k : Nat) : Prop := if cl = true then (Q 15 k = bkF (Q 10 k) (leftF Q k) ∧ Q 16 k = adF (Q 10 k) (leftF Q k) ∧ Q 17 k = lvF (Q 10 k) (leftF Q k)) else (Q 15 k = 0 ∧ Q 16 k = 0 ∧ Q 17 k = 0)
def CN (Q : Nat → Nat → Int32) (n t : Nat) (cl : Bool) : Prop :=
  (∀ j : Nat, j < 24 → Q 12 (24 * t + j) = Q 15 (24 * t + j - 24) ∧ Q 13 (24 * t + j) = Q 16 (24 * t + j - 24)) ∧
  (∀ j : Nat, j < 24 → Q 11 (24 * t + j) = (ZF Q t n).1 j ∧ Q 14 (24 * t + j) = (ZF Q t n).2.1 j) ∧
  (∀ i : Nat, i < n → Q 22 i = nI t → Q 29 i = bI (evF Q t i (ZF Q t i)).1) ∧
  (∀ j : Nat, j < 24 → clF Q cl (24 * t + j))
/-- a state whose year t and year before are the same, with the same events -/
theorem CN_m {Q Q' : Nat → Nat → Int32} {n t : Nat} {cl : Bool} (h : CN Q n t cl) (hr : ∀ k : Nat, 10 ≤ k → k ≤ 17 → ∀ j : Nat, j < 24 → Q' k (24 * t + j) = Q k (24 * t + j)) (hp : ∀ k : Nat, 15 ≤ k → k ≤ 16 → ∀ j : Nat, j < 24 → Q' k (24 * t + j - 24) = Q k (24 * t + j - 24)) (hE : ∀ i : Nat, i < n → EqE Q Q' i) (ho : ∀ i : Nat, i < n → evOK Q i) (hc : ∀ i : Nat, i < n → Q 22 i = nI t → Q' 29 i = Q 29 i) : CN Q' n t cl := by
  have hR : EqR Q Q' t := ⟨fun j hj => (hr 10 (by omega) (by omega) j hj).symm, fun j hj => (hr 12 (by omega) (by omega) j hj).symm, fun j hj => (hr 13 (by omega) (by omega) j hj).symm⟩
  obtain ⟨h1, h2, h3, h4⟩ := h
  have hZ := ZF_c hR n hE ho
  refine ⟨fun j hj => ?_, fun j hj => ?_, fun i hi hy => ?_, fun j hj => ?_⟩
  · rw [hr 12 (by omega) (by omega) j hj, hr 13 (by omega) (by omega) j hj, hp 15 (by omega) (by omega) j hj, hp 16 (by omega) (by omega) j hj]
    exact h1 j hj
  · rw [hr 11 (by omega) (by omega) j hj, hr 14 (by omega) (by omega) j hj, ← hZ.1 j hj, ← hZ.2.1 j hj]
    exact h2 j hj
  · have hy' : Q 22 i = nI t := by rw [(hE i hi).2.1]; exact hy
    rw [hc i hi hy', h3 i hi hy']
    congr 1
    exact (evF_c (hE i hi) hR (ZF_c hR i (fun i' hi' => hE i' (by omega)) (fun i' hi' => ho i' (by omega))) (ho i hi)).1
  · have h5 := h4 j hj
    unfold clF at h5 ⊢
    have el : leftF Q' (24 * t + j) = leftF Q (24 * t + j) := by
      unfold leftF
      rw [hr 10 (by omega) (by omega) j hj, hr 11 (by omega) (by omega) j hj, hr 12 (by omega) (by omega) j hj, hr 13 (by omega) (by omega) j hj, hr 14 (by omega) (by omega) j hj]
    rw [el, hr 10 (by omega) (by omega) j hj, hr 15 (by omega) (by omega) j hj, hr 16 (by omega) (by omega) j hj, hr 17 (by omega) (by omega) j hj]
    exact h5
/-- two states that agree with the same tale have the same accounts -/
theorem CN_u {Q Q' : Nat → Nat → Int32} {n y : Nat} {cl : Nat → Bool} (h : ∀ t : Nat, 1 ≤ t → t ≤ y → CN Q n t (cl t)) (h' : ∀ t : Nat, 1 ≤ t → t ≤ y → CN Q' n t (cl t)) (ha : Q 10 = Q' 10) (hE : ∀ i : Nat, i < n → EqE Q Q' i) (ho : ∀ i : Nat, i < n → evOK Q i) (h0 : ∀ j : Nat, j < 24 → Q 15 j = Q' 15 j ∧ Q 16 j = Q' 16 j) :
    ∀ t : Nat, t ≤ y → (∀ j : Nat, j < 24 → Q 15 (24 * t + j) = Q' 15 (24 * t + j) ∧ Q 16 (24 * t + j) = Q' 16 (24 * t + j)) ∧ (1 ≤ t → (∀ k : Nat, 10 ≤ k → k ≤ 17 → ∀ j : Nat, j < 24 → Q k (24 * t + j) = Q' k (24 * t + j)) ∧ (∀ i : Nat, i < n → Q 22 i = nI t → Q 29 i = Q' 29 i) ∧ EqT (ZF Q t n) (ZF Q' t n)) := by
  intro t
  induction t with
  | zero =>
    intro _
    refine ⟨fun j hj => ?_, fun h => absurd h (by omega)⟩
    rw [Nat.mul_zero, Nat.zero_add]
    exact h0 j hj
  | succ t ih =>
    intro ht
    obtain ⟨p1, -⟩ := ih (by omega)
    obtain ⟨a1, a2, a3, a4⟩ := h (t + 1) (by omega) ht
    obtain ⟨b1, b2, b3, b4⟩ := h' (t + 1) (by omega) ht
    have e24 : ∀ j : Nat, 24 * (t + 1) + j - 24 = 24 * t + j := fun j => by omega
    have r12 : ∀ j : Nat, j < 24 → Q 12 (24 * (t + 1) + j) = Q' 12 (24 * (t + 1) + j) := fun j hj => by
      rw [(a1 j hj).1, (b1 j hj).1, e24]; exact (p1 j hj).1
    have r13 : ∀ j : Nat, j < 24 → Q 13 (24 * (t + 1) + j) = Q' 13 (24 * (t + 1) + j) := fun j hj => by
      rw [(a1 j hj).2, (b1 j hj).2, e24]; exact (p1 j hj).2
    have hR : EqR Q Q' (t + 1) := ⟨fun j hj => by rw [ha], r12, r13⟩
    have hZ := ZF_c hR n hE ho
    have r11 : ∀ j : Nat, j < 24 → Q 11 (24 * (t + 1) + j) = Q' 11 (24 * (t + 1) + j) := fun j hj => by
      rw [(a2 j hj).1, (b2 j hj).1]; exact hZ.1 j hj
    have r14 : ∀ j : Nat, j < 24 → Q 14 (24 * (t + 1) + j) = Q' 14 (24 * (t + 1) + j) := fun j hj => by
      rw [(a2 j hj).2, (b2 j hj).2]; exact hZ.2.1 j hj
    have el : ∀ j : Nat, j < 24 → leftF Q (24 * (t + 1) + j) = leftF Q' (24 * (t + 1) + j) := fun j hj => by
      unfold leftF; rw [ha, r11 j hj, r12 j hj, r13 j hj, r14 j hj]
    have rc : ∀ j : Nat, j < 24 → Q 15 (24 * (t + 1) + j) = Q' 15 (24 * (t + 1) + j) ∧ Q 16 (24 * (t + 1) + j) = Q' 16 (24 * (t + 1) + j) ∧ Q 17 (24 * (t + 1) + j) = Q' 17 (24 * (t + 1) + j) := fun j hj => by
      have h5 := a4 j hj
      have h6 := b4 j hj
      unfold clF at h5 h6
      by_cases c : cl (t + 1) = true
      · rw [if_pos c] at h5 h6
        rw [h5.1, h5.2.1, h5.2.2, h6.1, h6.2.1, h6.2.2, el j hj, ha]
        exact ⟨rfl, rfl, rfl⟩
      · rw [if_neg c] at h5 h6
        rw [h5.1, h5.2.1, h5.2.2, h6.1, h6.2.1, h6.2.2]
        exact ⟨rfl, rfl, rfl⟩
    refine ⟨fun j hj => ⟨(rc j hj).1, (rc j hj).2.1⟩, fun _ => ⟨fun k k1 k2 j hj => ?_, fun i hi hy => ?_, hZ⟩⟩
    · rcases (show k = 10 ∨ k = 11 ∨ k = 12 ∨ k = 13 ∨ k = 14 ∨ k = 15 ∨ k = 16 ∨ k = 17 by omega) with rfl | rfl | rfl | rfl | rfl | rfl | rfl | rfl
      · rw [ha]
      · exact r11 j hj
      · exact r12 j hj
      · exact r13 j hj
      · exact r14 j hj
      · exact (rc j hj).1
      · exact (rc j hj).2.1
      · exact (rc j hj).2.2
    · rw [a3 i hi hy, b3 i hi (by rw [← (hE i hi).2.1]; exact hy)]
      congr 1
      exact (evF_c (hE i hi) hR (ZF_c hR i (fun i' hi' => hE i' (by omega)) (fun i' hi' => ho i' (by omega))) (ho i hi)).1
