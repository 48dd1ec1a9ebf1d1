/-! groups: the least closed set that holds an owner -/
def Cl (L : Nat → Nat → Bool) (g : Nat → Bool) : Prop := ∀ a b : Nat, a < 6 → b < 6 → g a = true → L a b = true → g b = true
def IsC (L : Nat → Nat → Bool) (o : Nat) (g : Nat → Bool) : Prop := g o = true ∧ Cl L g ∧ ∀ h : Nat → Bool, h o = true → Cl L h → ∀ b : Nat, b < 6 → g b = true → h b = true
def gSt (L : Nat → Nat → Bool) (a : Nat) (g : Nat → Bool) : Nat → Bool := fun b => g b || (g a && L a b)
def gRd (L : Nat → Nat → Bool) (n : Nat) (g : Nat → Bool) : Nat → Bool := itF (gSt L) n g
def gRs (L : Nat → Nat → Bool) (n : Nat) (g : Nat → Bool) : Nat → Bool := itF (fun _ g => gRd L 6 g) n g
def gOne (o : Nat) : Nat → Bool := fun b => decide (b = o)
def Eq6 (g h : Nat → Bool) : Prop := ∀ b : Nat, b < 6 → g b = h b
theorem gRd_s {L : Nat → Nat → Bool} {n : Nat} {g : Nat → Bool} : gRd L (n + 1) g = gSt L n (gRd L n g) := rfl
theorem gRs_s {L : Nat → Nat → Bool} {n : Nat} {g : Nat → Bool} : gRs L (n + 1) g = gRd L 6 (gRs L n g) := by
  unfold gRs; rw [itF_s]
theorem gRd_up {L : Nat → Nat → Bool} {g : Nat → Bool} {b : Nat} (h : g b = true) : ∀ n : Nat, gRd L n g b = true
  | 0 => h
  | n + 1 => by rw [gRd_s]; simp [gSt, gRd_up h n]
theorem gRd_in {L : Nat → Nat → Bool} {g h : Nat → Bool} (hc : Cl L h) (hg : ∀ b : Nat, b < 6 → g b = true → h b = true) : ∀ n : Nat, n ≤ 6 → ∀ b : Nat, b < 6 → gRd L n g b = true → h b = true
  | 0, _, b, hb, hgb => hg b hb hgb
  | n + 1, hn, b, hb, hgb => by
    rw [gRd_s] at hgb
    simp only [gSt, Bool.or_eq_true, Bool.and_eq_true] at hgb
    rcases hgb with h1 | ⟨h1, h2⟩
    · exact gRd_in hc hg n (by omega) b hb h1
    · exact hc n b (by omega) hb (gRd_in hc hg n (by omega) n (by omega) h1) h2
theorem gRd_hit {L : Nat → Nat → Bool} {g : Nat → Bool} {a b : Nat} (ha : g a = true) (hL : L a b = true) : ∀ n : Nat, a < n → gRd L n g b = true
  | 0, h => absurd h (Nat.not_lt_zero _)
  | n + 1, h => by
    rw [gRd_s]
    by_cases e : a = n
    · subst e
      simp [gSt, gRd_up ha a, hL]
    · simp [gSt, gRd_hit ha hL n (by omega)]
theorem gCl_of {L : Nat → Nat → Bool} {g : Nat → Bool} (h : ∀ b : Nat, b < 6 → gRd L 6 g b = true → g b = true) : Cl L g := fun a b ha hb hg hL => h b hb (gRd_hit hg hL 6 ha)
theorem Cl_eq {L : Nat → Nat → Bool} {g h : Nat → Bool} (e : Eq6 g h) (c : Cl L g) : Cl L h := fun a b ha hb hg hL => by
  rw [← e a ha] at hg
  rw [← e b hb]
  exact c a b ha hb hg hL
def gCt (g : Nat → Bool) (n : Nat) : Nat := itF (fun b c => if g b = true then c + 1 else c) n 0
theorem gCt_s {g : Nat → Bool} {n : Nat} : gCt g (n + 1) = if g n = true then gCt g n + 1 else gCt g n := rfl
theorem gCt_le (g : Nat → Bool) : ∀ n : Nat, gCt g n ≤ n
  | 0 => Nat.le_refl _
  | n + 1 => by
    have h := gCt_le g n
    rw [gCt_s]; split <;> omega
theorem gCt_all {g : Nat → Bool} : ∀ n : Nat, n ≤ gCt g n → ∀ b : Nat, b < n → g b = true
  | 0, _, b, h => absurd h (Nat.not_lt_zero _)
  | n + 1, hn, b, h => by
    have h2 := gCt_le g n
    rw [gCt_s] at hn
    by_cases c : g n = true
    · rw [if_pos c] at hn
      by_cases e : b = n
      · rw [e]; exact c
      · exact gCt_all n (by omega) b (by omega)
    · rw [if_neg c] at hn
      omega
theorem gCt_mono {g h : Nat → Bool} : ∀ n : Nat, (∀ b : Nat, b < n → g b = true → h b = true) → gCt g n ≤ gCt h n
  | 0, _ => Nat.le_refl _
  | n + 1, hh => by
    have h1 := gCt_mono (g := g) (h := h) n (fun b hb => hh b (by omega))
    rw [gCt_s, gCt_s]
    by_cases c : g n = true
    · rw [if_pos c, if_pos (hh n (by omega) c)]; omega
    · rw [if_neg c]; split <;> omega
theorem gCt_lt {g h : Nat → Bool} {x : Nat} (hx : g x = false) (hy : h x = true) : ∀ n : Nat, x < n → (∀ b : Nat, b < n → g b = true → h b = true) → gCt g n + 1 ≤ gCt h n
  | 0, h0, _ => absurd h0 (Nat.not_lt_zero _)
  | n + 1, h0, hh => by
    rw [gCt_s, gCt_s]
    by_cases e : x = n
    · subst e
      have h1 := gCt_mono (g := g) (h := h) x (fun b hb => hh b (by omega))
      rw [if_neg (by rw [hx]; decide), if_pos hy]; omega
    · have h1 := gCt_lt hx hy n (by omega) (fun b hb => hh b (by omega))
      by_cases c : g n = true
      · rw [if_pos c, if_pos (hh n (by omega) c)]; omega
      · rw [if_neg c]; split <;> omega
theorem gRs_dich {L : Nat → Nat → Bool} {o : Nat} (ho : o < 6) : ∀ n : Nat, Cl L (gRs L n (gOne o)) ∨ n + 1 ≤ gCt (gRs L n (gOne o)) 6
  | 0 => by
    right
    have h := gCt_lt (g := fun _ => false) (h := gOne o) (x := o) rfl (by simp [gOne]) 6 ho (fun b _ h => absurd h (by decide))
    show 1 ≤ gCt (gOne o) 6
    omega
  | n + 1 => by
    rw [gRs_s]
    rcases gRs_dich (L := L) ho n with h | h
    · left
      refine Cl_eq (fun b hb => ?_) h
      cases e : gRs L n (gOne o) b with
      | true => exact (gRd_up e 6).symm
      | false =>
        cases e2 : gRd L 6 (gRs L n (gOne o)) b with
        | false => rfl
        | true => exact absurd (gRd_in h (fun _ _ z => z) 6 (Nat.le_refl _) b hb e2) (by rw [e]; decide)
    · by_cases c : ∀ b : Nat, b < 6 → gRd L 6 (gRs L n (gOne o)) b = true → gRs L n (gOne o) b = true
      · left
        refine Cl_eq (fun b hb => ?_) (gCl_of c)
        cases e : gRs L n (gOne o) b with
        | true => exact (gRd_up e 6).symm
        | false =>
          cases e2 : gRd L 6 (gRs L n (gOne o)) b with
          | false => rfl
          | true => exact absurd (c b hb e2) (by rw [e]; decide)
      · right
        obtain ⟨b, hb⟩ := Classical.not_forall.mp c
        obtain ⟨hb, hb2⟩ := Classical.not_imp.mp hb
        obtain ⟨hb2, hb3⟩ := Classical.not_imp.mp hb2
        have h2 := gCt_lt (g := gRs L n (gOne o)) (h := gRd L 6 (gRs L n (gOne o))) (x := b) (by simpa using hb3) hb2 6 hb (fun b _ z => gRd_up z 6)
        omega
theorem gRs_up {L : Nat → Nat → Bool} {o : Nat} : ∀ n : Nat, gRs L n (gOne o) o = true
  | 0 => by simp [gRs, itF, gOne]
  | n + 1 => by rw [gRs_s]; exact gRd_up (gRs_up n) 6
theorem gRs_in {L : Nat → Nat → Bool} {o : Nat} {h : Nat → Bool} (ho : h o = true) (hc : Cl L h) : ∀ n : Nat, ∀ b : Nat, b < 6 → gRs L n (gOne o) b = true → h b = true
  | 0, b, _, hb => by
    have e : b = o := of_decide_eq_true hb
    rw [e]; exact ho
  | n + 1, b, hb, hg => by
    rw [gRs_s] at hg
    exact gRd_in hc (gRs_in ho hc n) 6 (Nat.le_refl _) b hb hg
theorem gRs_C {L : Nat → Nat → Bool} {o n : Nat} (ho : o < 6) (hn : 5 ≤ n) : IsC L o (gRs L n (gOne o)) := by
  refine ⟨gRs_up n, ?_, fun h h1 h2 => gRs_in h1 h2 n⟩
  rcases gRs_dich (L := L) ho n with h | h
  · exact h
  · have h6 := gCt_all (g := gRs L n (gOne o)) 6 (by omega)
    exact fun a b _ hb _ _ => h6 b hb
theorem IsC_u {L : Nat → Nat → Bool} {o : Nat} {g h : Nat → Bool} (hg : IsC L o g) (hh : IsC L o h) : Eq6 g h := by
  intro b hb
  cases e : g b with
  | true => exact (hg.2.2 h hh.1 hh.2.1 b hb e).symm
  | false =>
    cases e2 : h b with
    | false => rfl
    | true => exact absurd (hh.2.2 g hg.1 hg.2.1 b hb e2) (by rw [e]; decide)
theorem Cl_L {L L' : Nat → Nat → Bool} {g : Nat → Bool} (e : ∀ a b : Nat, a < 6 → b < 6 → L a b = L' a b) (c : Cl L g) : Cl L' g := fun a b ha hb hg hL => c a b ha hb hg (by rw [e a b ha hb]; exact hL)
theorem IsC_L {L L' : Nat → Nat → Bool} {o : Nat} {g : Nat → Bool} (e : ∀ a b : Nat, a < 6 → b < 6 → L a b = L' a b) (c : IsC L o g) : IsC L' o g :=
  ⟨c.1, Cl_L e c.2.1, fun h h1 h2 => c.2.2 h h1 (Cl_L (fun a b ha hb => (e a b ha hb).symm) h2)⟩
theorem IsC_e {L : Nat → Nat → Bool} {o : Nat} {g h : Nat → Bool} (ho : o < 6) (e : Eq6 g h) (c : IsC L o g) : IsC L o h :=
  ⟨by rw [← e o ho]; exact c.1, Cl_eq e c.2.1, fun k h1 h2 b hb hh => c.2.2 k h1 h2 b hb (by rw [e b hb]; exact hh)⟩
/-- the group of o, as this page speaks of it -/
def grp (L : Nat → Nat → Bool) (o : Nat) : Nat → Bool := gRs L 6 (gOne o)
theorem grp_C {L : Nat → Nat → Bool} {o : Nat} (ho : o < 6) : IsC L o (grp L o) := gRs_C ho (by omega)
theorem grp_in {L : Nat → Nat → Bool} {o k : Nat} (ho : o < 6) (hk : k < 6) (h : grp L o k = true) : ∀ b : Nat, b < 6 → grp L k b = true → grp L o b = true := (grp_C hk).2.2 _ h (grp_C ho).2.1
theorem grp_sym {L : Nat → Nat → Bool} (hs : ∀ a b : Nat, a < 6 → b < 6 → L a b = L b a) {o k : Nat} (ho : o < 6) (hk : k < 6) (h : grp L o k = true) : grp L k o = true := by
  refine (grp_C ho).2.2 (fun x => grp L x o) (grp_C ho).1 ?_ k hk h
  intro x y hx hy h1 h2
  have h3 : grp L y x = true := (grp_C hy).2.1 y x hy hx (grp_C hy).1 (by rw [hs y x hy hx]; exact h2)
  exact grp_in hy hx h3 o ho h1
theorem grp_same {L : Nat → Nat → Bool} (hs : ∀ a b : Nat, a < 6 → b < 6 → L a b = L b a) {o k : Nat} (ho : o < 6) (hk : k < 6) (h : grp L o k = true) : Eq6 (grp L k) (grp L o) := by
  intro b hb
  cases e : grp L o b with
  | true => exact grp_in hk ho (grp_sym hs ho hk h) b hb e
  | false =>
    cases e2 : grp L k b with
    | false => rfl
    | true => exact absurd (grp_in ho hk h b hb e2) (by rw [e]; decide)
/-- a link more: the two groups are one, the others stay -/
def lkA (L : Nat → Nat → Bool) (a b : Nat) : Nat → Nat → Bool := fun x y => L x y || ((decide (x = a) && decide (y = b)) || (decide (x = b) && decide (y = a)))
theorem grp_join {L : Nat → Nat → Bool} (hs : ∀ a b : Nat, a < 6 → b < 6 → L a b = L b a) {a b k : Nat} (ha : a < 6) (hb : b < 6) (hk : k < 6) :
    Eq6 (grp (lkA L a b) k) (fun x => if (grp L a k || grp L b k) = true then grp L a x || grp L b x else grp L k x) := by
  have hs' : ∀ x y : Nat, x < 6 → y < 6 → lkA L a b x y = lkA L a b y x := fun x y hx hy => by
    unfold lkA; rw [hs x y hx hy]; congr 1; rw [Bool.or_comm, Bool.and_comm, Bool.and_comm (decide (x = a))]
  have sub : ∀ g : Nat → Bool, Cl (lkA L a b) g → Cl L g := fun g h x y hx hy hg hL => h x y hx hy hg (by simp [lkA, hL])
  by_cases c : (grp L a k || grp L b k) = true
  · -- in the joined group
    have hS : Cl (lkA L a b) (fun x => grp L a x || grp L b x) := by
      intro x y hx hy h1 h2
      simp only [lkA, Bool.or_eq_true, Bool.and_eq_true, decide_eq_true_eq] at h1 h2 ⊢
      rcases h2 with h2 | ⟨rfl, rfl⟩ | ⟨rfl, rfl⟩
      · rcases h1 with h1 | h1
        · exact Or.inl ((grp_C ha).2.1 x y hx hy h1 h2)
        · exact Or.inr ((grp_C hb).2.1 x y hx hy h1 h2)
      · exact Or.inr (grp_C hb).1
      · exact Or.inl (grp_C ha).1
    have e1 : Eq6 (grp (lkA L a b) a) (fun x => grp L a x || grp L b x) := by
      have h1 : ∀ x : Nat, x < 6 → grp (lkA L a b) a x = true → (grp L a x || grp L b x) = true := (grp_C ha).2.2 _ (by simp [(grp_C (L := L) ha).1]) hS
      have hbA : grp (lkA L a b) a b = true := (grp_C ha).2.1 a b ha hb (grp_C ha).1 (by simp [lkA])
      have h2 : ∀ x : Nat, x < 6 → grp L a x = true → grp (lkA L a b) a x = true := (grp_C ha).2.2 _ (grp_C ha).1 (sub _ (grp_C ha).2.1)
      have h3 : ∀ x : Nat, x < 6 → grp L b x = true → grp (lkA L a b) a x = true := (grp_C hb).2.2 _ hbA (sub _ (grp_C ha).2.1)
      intro x hx
      cases e : grp (lkA L a b) a x with
      | true => exact (h1 x hx e).symm
      | false =>
        cases e2 : grp L a x with
        | true => exact absurd (h2 x hx e2) (by rw [e]; decide)
        | false =>
          cases e3 : grp L b x with
          | true => exact absurd (h3 x hx e3) (by rw [e]; decide)
          | false => simp [e2, e3]
    have hk1 : grp (lkA L a b) a k = true := by rw [e1 k hk]; exact c
    intro x hx
    rw [grp_same hs' ha hk hk1 x hx, e1 x hx]
    simp only [c, if_true]
  · have c0 : grp L a k = false ∧ grp L b k = false := by
      rw [Bool.or_eq_true, not_or] at c
      exact ⟨by simpa using c.1, by simpa using c.2⟩
    have hna : grp L k a = false := by
      cases e : grp L k a with
      | false => rfl
      | true => exact absurd (grp_sym hs hk ha e) (by rw [c0.1]; decide)
    have hnb : grp L k b = false := by
      cases e : grp L k b with
      | false => rfl
      | true => exact absurd (grp_sym hs hk hb e) (by rw [c0.2]; decide)
    have hC : Cl (lkA L a b) (grp L k) := by
      intro x y hx hy h1 h2
      simp only [lkA, Bool.or_eq_true, Bool.and_eq_true, decide_eq_true_eq] at h2
      rcases h2 with h2 | ⟨rfl, rfl⟩ | ⟨rfl, rfl⟩
      · exact (grp_C hk).2.1 x y hx hy h1 h2
      · rw [hna] at h1; cases h1
      · rw [hnb] at h1; cases h1
    have h4 := IsC_u (grp_C (L := lkA L a b) hk) (h := grp L k) ⟨(grp_C hk).1, hC, fun h h1 h2 => (grp_C hk).2.2 h h1 (sub h h2)⟩
    intro x hx
    rw [h4 x hx]
    simp only [c, if_false, Bool.false_eq_true]
/-- fewer links: smaller groups -/
theorem grp_mono {L L' : Nat → Nat → Bool} (h : ∀ a b : Nat, a < 6 → b < 6 → L' a b = true → L a b = true) {o : Nat} (ho : o < 6) : ∀ b : Nat, b < 6 → grp L' o b = true → grp L o b = true :=
  (grp_C ho).2.2 _ (grp_C ho).1 fun x y hx hy h1 h2 => (grp_C ho).2.1 x y hx hy h1 (h x y hx hy h2)
