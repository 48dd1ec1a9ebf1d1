/-! sums as whole numbers; the shares' relation -/
theorem addI {a b : Int32} (h1 : -2 ^ 31 ≤ a.toInt + b.toInt) (h2 : a.toInt + b.toInt < 2 ^ 31) : (a + b).toInt = a.toInt + b.toInt := by
  rw [Int32.toInt_add, Int.bmod_eq_of_le (by omega) (by omega)]
theorem subI {a b : Int32} (h1 : -2 ^ 31 ≤ a.toInt - b.toInt) (h2 : a.toInt - b.toInt < 2 ^ 31) : (a - b).toInt = a.toInt - b.toInt := by
  rw [Int32.toInt_sub, Int.bmod_eq_of_le (by omega) (by omega)]
theorem negI {a : Int32} (h1 : -2 ^ 31 < a.toInt) : (-a).toInt = -a.toInt := by
  have h2 := a.toInt_lt
  rw [Int32.toInt_neg, Int.bmod_eq_of_le (by omega) (by omega)]
theorem leI {a b : Int32} : a ≤ b ↔ a.toInt ≤ b.toInt := Int32.le_iff_toInt_le
theorem ltI {a b : Int32} : a < b ↔ a.toInt < b.toInt := Int32.lt_iff_toInt_lt
theorem isW_i {x a b : Int32} : isW x a b = true ↔ a.toInt ≤ x.toInt ∧ x.toInt ≤ b.toInt := by rw [isW_t, leI, leI]
def tot (f : Nat → Int32) (n : Nat) : Int := sI f (fun _ => true) n
def PtOK (f : Nat → Int32) : Prop := (∀ o : Nat, o < 6 → 0 ≤ (f o).toInt) ∧ tot f 6 ≤ 1000000
theorem tot_s {f : Nat → Int32} {n : Nat} : tot f (n + 1) = tot f n + (f n).toInt := rfl
theorem sI_pos {f : Nat → Int32} {g : Nat → Bool} (h : ∀ o : Nat, o < 6 → 0 ≤ (f o).toInt) : ∀ n : Nat, n ≤ 6 → 0 ≤ sI f g n ∧ sI f g n ≤ tot f n
  | 0, _ => ⟨Int.le_refl _, Int.le_refl _⟩
  | n + 1, hn => by
    have ih := sI_pos (g := g) h n (by omega)
    have h1 := h n (by omega)
    rw [sI_s, tot_s]
    split <;> omega
theorem tot_up {f : Nat → Int32} (h : ∀ o : Nat, o < 6 → 0 ≤ (f o).toInt) : ∀ k : Nat, k ≤ 6 → tot f (6 - k) ≤ tot f 6
  | 0, _ => Int.le_refl _
  | k + 1, hk => by
    have ih := tot_up h k (by omega)
    have h1 := h (6 - (k + 1)) (by omega)
    have e : 6 - k = (6 - (k + 1)) + 1 := by omega
    rw [e, tot_s] at ih
    omega
theorem sI_bd {f : Nat → Int32} {g : Nat → Bool} (h : PtOK f) {n : Nat} (hn : n ≤ 6) : 0 ≤ sI f g n ∧ sI f g n ≤ 1000000 := by
  have h1 := sI_pos (g := g) h.1 n hn
  have h2 := tot_up h.1 (6 - n) (by omega)
  rw [show 6 - (6 - n) = n by omega] at h2
  have h3 := h.2
  omega
theorem sB_I {f : Nat → Int32} {g : Nat → Bool} (h : PtOK f) : ∀ n : Nat, n ≤ 6 → (sB f g n).toInt = sI f g n
  | 0, _ => rfl
  | n + 1, hn => by
    have ih := sB_I (g := g) h n (by omega)
    have b1 := sI_bd (g := g) h (n := n) (by omega)
    have b2 := sI_bd (g := g) h (n := n + 1) hn
    rw [sI_s] at b2 ⊢
    rw [sB_s]
    by_cases c : g n = true
    · rw [if_pos c] at b2 ⊢
      rw [if_pos c, addI (by omega) (by omega), ih]
    · rw [if_neg c, if_neg c]
      exact ih
theorem sI_upd {f : Nat → Int32} {g : Nat → Bool} {o : Nat} {x : Int32} : ∀ n : Nat, sI (upd f o x) g n = sI f g n + (if o < n ∧ g o = true then x.toInt - (f o).toInt else 0)
  | 0 => by rw [if_neg (by omega)]; rfl
  | n + 1 => by
    have ih := sI_upd (f := f) (g := g) (o := o) (x := x) n
    rw [sI_s, sI_s, ih]
    by_cases e : o = n
    · subst e
      rw [pk_us]
      by_cases c : g o = true
      · rw [if_pos c, if_pos c, if_neg (by omega), if_pos ⟨by omega, c⟩]; omega
      · rw [if_neg c, if_neg c, if_neg (by omega), if_neg (fun h => c h.2)]
    · rw [pk_un (Ne.symm e)]
      have e2 : (o < n + 1 ∧ g o = true) ↔ (o < n ∧ g o = true) := ⟨fun h => ⟨by omega, h.2⟩, fun h => ⟨by omega, h.2⟩⟩
      by_cases c : g n = true
      · rw [if_pos c, if_pos c]
        by_cases d : o < n ∧ g o = true
        · rw [if_pos d, if_pos (e2.mpr d)]; omega
        · rw [if_neg d, if_neg (fun h => d (e2.mp h))]; omega
      · rw [if_neg c, if_neg c]
        by_cases d : o < n ∧ g o = true
        · rw [if_pos d, if_pos (e2.mpr d)]
        · rw [if_neg d, if_neg (fun h => d (e2.mp h))]
theorem sI_upd6 {f : Nat → Int32} {g : Nat → Bool} {o : Nat} {x : Int32} (ho : o < 6) : sI (upd f o x) g 6 = sI f g 6 + (if g o = true then x.toInt - (f o).toInt else 0) := by
  rw [sI_upd]
  by_cases c : g o = true
  · rw [if_pos c, if_pos ⟨ho, c⟩]
  · rw [if_neg c, if_neg (fun h => c h.2)]
theorem sI_sub {f : Nat → Int32} {g h : Nat → Bool} (hp : ∀ o : Nat, o < 6 → 0 ≤ (f o).toInt) (hs : ∀ b : Nat, b < 6 → g b = true → h b = true) : ∀ n : Nat, n ≤ 6 → sI f g n ≤ sI f h n
  | 0, _ => Int.le_refl _
  | n + 1, hn => by
    have ih := sI_sub hp hs n (by omega)
    have h1 := hp n (by omega)
    rw [sI_s, sI_s]
    by_cases c : g n = true
    · rw [if_pos c, if_pos (hs n (by omega) c)]; omega
    · rw [if_neg c]; split <;> omega
/-- fits -/
theorem ftM_t {s : Nat} {cap : Int32} {p : Nat → Nat → Int32} : ∀ n : Nat, n ≤ 6 → ((ftM s cap n p).1 = true ↔ ∀ k : Nat, k < n → sB (fun o => p 36 (6 * s + o)) (grp (LM p) k) 6 ≤ cap)
  | 0, _ => ⟨fun _ k h => absurd h (Nat.not_lt_zero _), fun _ => rfl⟩
  | n + 1, hn => by
    have ih := ftM_t (s := s) (cap := cap) (p := p) n (by omega)
    have e36 : (ftM s cap n p).2 36 = p 36 := ftM_k (by decide) n
    have e38 : LM (ftM s cap n p).2 = LM p := LM_k (ftM_k (by decide) n)
    rw [ftM_s]
    unfold ft1
    by_cases c : (ftM s cap n p).1 = true
    · rw [if_pos c]
      dsimp only
      rw [ogM_B (by omega), e36, e38, decide_eq_true_eq]
      constructor
      · intro h k hk
        by_cases e : k = n
        · rw [e]; exact h
        · exact ih.mp c k (by omega)
      · intro h; exact h n (by omega)
    · rw [if_neg c]
      constructor
      · intro h; exact absurd h c
      · intro h; exact absurd (ih.mpr fun k hk => h k (by omega)) c
/-- the relation between the shares of both; what holds of them -/
def plI (q : Nat → Nat → Int32) (s o n : Nat) : Int := itF (fun v a => if q 6 v = nI o then a + (q 8 (6 * s + v)).toInt else a) n 0
theorem plI_s {q : Nat → Nat → Int32} {s o n : Nat} : plI q s o (n + 1) = if q 6 n = nI o then plI q s o n + (q 8 (6 * s + n)).toInt else plI q s o n := rfl
def RC (q : Nat → Nat → Int32) : Prop :=
  (∀ s : Nat, s < 4 → PtOK (pt q s)) ∧ (∀ s o : Nat, s < 4 → o < 6 → sI (pt q s) (grp (LC (q 5)) o) 6 ≤ (q 4 s).toInt) ∧ (∀ k : Nat, k < 24 → 0 ≤ (q 8 k).toInt) ∧
  (∀ s o : Nat, s < 4 → o < 6 → plI q s o 6 ≤ (q 7 (6 * s + o)).toInt) ∧ (∀ v : Nat, v < 6 → ∃ j : Nat, j < 6 ∧ q 6 v = nI j) ∧ (∀ s : Nat, s < 4 → 1 ≤ (q 1 s).toInt ∧ (q 1 s).toInt ≤ 1000) ∧
  (∀ k : Nat, k < 12 → 0 ≤ (q 2 k).toInt ∧ (q 2 k).toInt ≤ 5000) ∧ (∀ a b : Nat, a < 6 → b < 6 → LC (q 5) a b = LC (q 5) b a)
def RS (q p : Nat → Nat → Int32) : Prop :=
  (q 1 = p 32 ∧ q 4 = p 33 ∧ q 2 = p 34 ∧ q 6 = p 35 ∧ q 7 = p 36 ∧ q 8 = p 37) ∧ (∀ a b : Nat, a < 6 → b < 6 → LC (q 5) a b = LM p a b) ∧ (∀ k : Nat, ∃ x : Bool, p 38 k = bI x) ∧ RC q
/-- what the shares' calls leave as it is -/
def frQ (q q' : Nat → Nat → Int32) : Prop := ∀ k : Nat, k = 0 ∨ 10 ≤ k → q' k = q k
def frP (p p' : Nat → Nat → Int32) : Prop := (∀ k : Nat, 40 ≤ k → p' k = p k) ∧ p' 31 9 = p 31 9 ∧ p' 31 10 = p 31 10 ∧ p' 31 20 = p 31 20
theorem frQ_r {q : Nat → Nat → Int32} : frQ q q := fun _ _ => rfl
/-- the thrown field alone, and the group's row, may be set freely -/
theorem RS_p {q p p' : Nat → Nat → Int32} (h : RS q p) (e : ∀ k : Nat, 32 ≤ k → k ≤ 38 → p' k = p k) : RS q p' := by
  obtain ⟨⟨h1, h2, h3, h4, h5, h6⟩, h7, h8, h9⟩ := h
  refine ⟨⟨?_, ?_, ?_, ?_, ?_, ?_⟩, ?_, ?_, h9⟩
  · rw [e 32 (by omega) (by omega)]; exact h1
  · rw [e 33 (by omega) (by omega)]; exact h2
  · rw [e 34 (by omega) (by omega)]; exact h3
  · rw [e 35 (by omega) (by omega)]; exact h4
  · rw [e 36 (by omega) (by omega)]; exact h5
  · rw [e 37 (by omega) (by omega)]; exact h6
  · intro a b ha hb
    rw [LM_k (e 38 (by omega) (by omega))]; exact h7 a b ha hb
  · rw [e 38 (by omega) (by omega)]; exact h8
theorem RS_fits {q p : Nat → Nat → Int32} {s : Nat} {cap : Int32} (hs : s < 4) (h : RS q p) : (ftM s cap 6 p).1 = true ↔ ∀ k : Nat, k < 6 → sI (pt q s) (grp (LC (q 5)) k) 6 ≤ cap.toInt := by
  obtain ⟨⟨h1, h2, h3, h4, h5, h6⟩, h7, h8, h9⟩ := h
  rw [ftM_t 6 (Nat.le_refl _)]
  have key : ∀ k : Nat, k < 6 → (sB (fun o => p 36 (6 * s + o)) (grp (LM p) k) 6 ≤ cap ↔ sI (pt q s) (grp (LC (q 5)) k) 6 ≤ cap.toInt) := fun k hk => by
    rw [← h5, leI, sB_I (f := fun o => q 7 (6 * s + o)) (h9.1 s hs) 6 (Nat.le_refl _), sI_e (grp_L h7 hk) 6 (Nat.le_refl _)]
  exact ⟨fun h k hk => (key k hk).mp (h k hk), fun h k hk => (key k hk).mpr (h k hk)⟩
