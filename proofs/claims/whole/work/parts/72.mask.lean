/-! the class's masks and the reference's rows as groups -/
theorem ior_0 {x y : Int32} : x ||| y = 0 ↔ x = 0 ∧ y = 0 := by
  rw [← Int32.toBitVec_inj, ← Int32.toBitVec_inj, ← Int32.toBitVec_inj, Int32.toBitVec_or]
  show x.toBitVec ||| y.toBitVec = 0#32 ↔ x.toBitVec = 0#32 ∧ y.toBitVec = 0#32
  exact BitVec.or_eq_zero_iff
theorem iand_or {x y z : Int32} : (x ||| y) &&& z = (x &&& z) ||| (y &&& z) := by
  rw [← Int32.toBitVec_inj, Int32.toBitVec_and, Int32.toBitVec_or, Int32.toBitVec_or, Int32.toBitVec_and, Int32.toBitVec_and]
  ext i hi
  simp only [BitVec.getElem_and, BitVec.getElem_or]
  cases x.toBitVec[i] <;> cases y.toBitVec[i] <;> cases z.toBitVec[i] <;> rfl
/-- the set that a mask stands for; the links of the class, of the reference; the set in the reference's row -/
def gM (m : Int32) : Nat → Bool := fun b => ntz (m &&& bt b)
def LC (lk : Nat → Int32) : Nat → Nat → Bool := fun a b => ntz (lk a &&& bt b)
def LM (p : Nat → Nat → Int32) : Nat → Nat → Bool := fun a b => ntz (p 38 (6 * a + b))
def tM (p : Nat → Nat → Int32) : Nat → Bool := fun b => ntz (p 39 b)
theorem ntz_or {x y : Int32} : ntz (x ||| y) = (ntz x || ntz y) := by
  unfold ntz
  rw [show decide (x ||| y = 0) = (decide (x = 0) && decide (y = 0)) by rw [← Bool.decide_and]; exact decide_eq_decide.mpr ior_0]
  cases decide (x = 0) <;> cases decide (y = 0) <;> rfl
theorem gM_or {m x : Int32} {b : Nat} : gM (m ||| x) b = (gM m b || ntz (x &&& bt b)) := by
  unfold gM; rw [iand_or, ntz_or]
theorem bt_bt : ∀ o b : Fin 6, ntz (bt o.val &&& bt b.val) = decide (b.val = o.val) := by decide
theorem gM_bt {o b : Nat} (ho : o < 6) (hb : b < 6) : gM (bt o) b = gOne o b := bt_bt ⟨o, ho⟩ ⟨b, hb⟩
theorem gSt_e {L : Nat → Nat → Bool} {a : Nat} {g h : Nat → Bool} (ha : a < 6) (e : Eq6 g h) : Eq6 (gSt L a g) (gSt L a h) := fun b hb => by
  unfold gSt; rw [e b hb, e a ha]
theorem gRd_e {L : Nat → Nat → Bool} {g h : Nat → Bool} (e : Eq6 g h) : ∀ n : Nat, n ≤ 6 → Eq6 (gRd L n g) (gRd L n h)
  | 0, _ => e
  | n + 1, hn => gSt_e (by omega) (gRd_e e n (by omega))
theorem rdC_s {lk : Nat → Int32} {n : Nat} {g : Int32} : rdC lk (n + 1) g = if rdC lk n g &&& bt n = 0 then rdC lk n g else rdC lk n g ||| lk n := rfl
theorem rdC_g {lk : Nat → Int32} {m : Int32} : ∀ n : Nat, n ≤ 6 → Eq6 (gM (rdC lk n m)) (gRd (LC lk) n (gM m))
  | 0, _ => fun _ _ => rfl
  | n + 1, hn => by
    have ih := rdC_g (lk := lk) (m := m) n (by omega)
    intro b hb
    rw [rdC_s, gRd_s]
    show _ = (gRd (LC lk) n (gM m) b || (gRd (LC lk) n (gM m) n && LC lk n b))
    rw [← ih b hb, ← ih n (by omega)]
    by_cases c : rdC lk n m &&& bt n = 0
    · rw [if_pos c, show gM (rdC lk n m) n = false from ntz_f c]; simp
    · rw [if_neg c, show gM (rdC lk n m) n = true from ntz_t c, gM_or]; rfl
theorem grC_s {lk : Nat → Int32} {o n : Nat} : grC lk o (n + 1) = rdC lk 6 (grC lk o n) := by
  unfold grC; rw [itF_s]
theorem grC_g {lk : Nat → Int32} {o : Nat} (ho : o < 6) : ∀ n : Nat, Eq6 (gM (grC lk o n)) (gRs (LC lk) n (gOne o))
  | 0 => fun b hb => gM_bt ho hb
  | n + 1 => by
    intro b hb
    rw [grC_s, gRs_s, rdC_g 6 (Nat.le_refl _) b hb]
    exact gRd_e (grC_g ho n) 6 (Nat.le_refl _) b hb
theorem grpC_g {lk : Nat → Int32} {o : Nat} (ho : o < 6) : Eq6 (gM (grpC lk o)) (grp (LC lk) o) :=
  IsC_u (IsC_e ho (fun b hb => (grC_g ho 5 b hb).symm) (gRs_C ho (Nat.le_refl _))) (grp_C ho)
/-! the reference -/
theorem ntz_bI (b : Bool) : ntz (bI b) = b := by cases b <;> decide
theorem ga1_at {p : Nat → Nat → Int32} {a : Nat} : ∀ n : Nat, ∀ b : Nat, tM (ga1 a n p) b = if b < n then (tM p b || (tM p a && LM p a b)) else tM p b
  | 0, b => rfl
  | n + 1, b => by
    have ih := fun b => ga1_at (p := p) (a := a) n b
    have e38 : ga1 a n p 38 = p 38 := ga1_k (by decide)
    rw [ga1_s]
    unfold tM qv at *
    rw [qw_s]
    by_cases c : b = n
    · subst c
      rw [pk_us, ntz_bI, if_pos (by omega)]
      unfold gaB
      have h1 := ih b
      have h2 := ih a
      rw [if_neg (by omega)] at h1
      rw [h1, h2, e38]
      split
      · simp only [LM]
        cases ntz (p 39 b) <;> cases ntz (p 39 a) <;> cases ntz (p 38 (6 * a + b)) <;> cases ntz (p 38 (6 * a + a)) <;> rfl
      · rfl
    · rw [pk_un c, ih b]
      by_cases d : b < n
      · rw [if_pos d, if_pos (by omega)]
      · rw [if_neg d, if_neg (by omega)]
theorem ga1_g {p : Nat → Nat → Int32} {a : Nat} : Eq6 (tM (ga1 a 6 p)) (gSt (LM p) a (tM p)) := fun b hb => by
  rw [ga1_at 6 b, if_pos hb]; rfl
theorem LM_k {p p' : Nat → Nat → Int32} (h : p' 38 = p 38) : LM p' = LM p := by unfold LM; rw [h]
theorem ga2_g {p : Nat → Nat → Int32} : ∀ n : Nat, n ≤ 6 → Eq6 (tM (ga2 n p)) (gRd (LM p) n (tM p))
  | 0, _ => fun _ _ => rfl
  | n + 1, hn => by
    intro b hb
    rw [ga2_s, gRd_s, ga1_g b hb, LM_k (ga2_k (by decide))]
    exact gSt_e (by omega) (ga2_g n (by omega)) b hb
theorem ga3_g {p : Nat → Nat → Int32} {o : Nat} (h0 : Eq6 (tM p) (gOne o)) : ∀ n : Nat, Eq6 (tM (ga3 n p)) (gRs (LM p) n (gOne o))
  | 0 => h0
  | n + 1 => by
    intro b hb
    rw [ga3_s, gRs_s, ga2_g 6 (Nat.le_refl _) b hb, LM_k (ga3_k (by decide))]
    exact gRd_e (ga3_g h0 n) 6 (Nat.le_refl _) b hb
theorem nI_inj {a b : Nat} (ha : a < 1000) (hb : b < 1000) : nI a = nI b ↔ a = b := by
  constructor
  · intro h
    have h2 := congrArg Int32.toInt h
    rw [nI_toInt (by omega), nI_toInt (by omega)] at h2
    omega
  · intro h; rw [h]
theorem ga0_at {p : Nat → Nat → Int32} {o : Int32} : ∀ n : Nat, ∀ b : Nat, b < n → tM (ga0 o n p) b = decide (nI b = o)
  | 0, b, h => absurd h (Nat.not_lt_zero _)
  | n + 1, b, h => by
    rw [ga0_s]
    unfold tM qv
    rw [qw_s]
    by_cases c : b = n
    · subst c; rw [pk_us, ntz_bI]
    · rw [pk_un c]; exact ga0_at n b (by omega)
theorem gaM_g {p : Nat → Nat → Int32} {o : Nat} (ho : o < 6) : Eq6 (tM (gaM p (nI o))) (grp (LM p) o) := by
  intro b hb
  unfold gaM grp
  rw [ga3_g (o := o) (fun b hb => by rw [ga0_at 6 b hb]; unfold gOne; exact decide_eq_decide.mpr (nI_inj (by omega) (by omega))) 6 b hb, LM_k (ga0_k (by decide))]
/-! sums of parts -/
def sB (f : Nat → Int32) (g : Nat → Bool) (n : Nat) : Int32 := itF (fun o a => if g o = true then a + f o else a) n 0
def sI (f : Nat → Int32) (g : Nat → Bool) (n : Nat) : Int := itF (fun o a => if g o = true then a + (f o).toInt else a) n 0
theorem sB_s {f : Nat → Int32} {g : Nat → Bool} {n : Nat} : sB f g (n + 1) = if g n = true then sB f g n + f n else sB f g n := rfl
theorem sI_s {f : Nat → Int32} {g : Nat → Bool} {n : Nat} : sI f g (n + 1) = if g n = true then sI f g n + (f n).toInt else sI f g n := rfl
theorem sB_e {f : Nat → Int32} {g h : Nat → Bool} (e : Eq6 g h) : ∀ n : Nat, n ≤ 6 → sB f g n = sB f h n
  | 0, _ => rfl
  | n + 1, hn => by rw [sB_s, sB_s, e n (by omega), sB_e e n (by omega)]
theorem sI_e {f : Nat → Int32} {g h : Nat → Bool} (e : Eq6 g h) : ∀ n : Nat, n ≤ 6 → sI f g n = sI f h n
  | 0, _ => rfl
  | n + 1, hn => by rw [sI_s, sI_s, e n (by omega), sI_e e n (by omega)]
theorem sumC_B {q : Nat → Nat → Int32} {s : Nat} {m : Int32} : ∀ n : Nat, sumC q s m n = sB (fun o => q 7 (6 * s + o)) (gM m) n
  | 0 => rfl
  | n + 1 => by
    have ih := sumC_B (q := q) (s := s) (m := m) n
    unfold sumC at ih ⊢
    rw [itF_s, sB_s, ih]
    by_cases c : m &&& bt n = 0
    · rw [if_pos c, if_neg (by rw [show gM m n = false from ntz_f c]; decide)]
    · rw [if_neg c, if_pos (show gM m n = true from ntz_t c)]
theorem sumM_B {p : Nat → Nat → Int32} {s : Nat} : ∀ n : Nat, sumM p s n = sB (fun o => p 36 (6 * s + o)) (tM p) n
  | 0 => rfl
  | n + 1 => by
    have ih := sumM_B (p := p) (s := s) n
    unfold sumM at ih ⊢
    rw [itF_s, sB_s, ih]
    by_cases c : p 39 n = 0
    · rw [if_pos c, if_neg (by rw [show tM p n = false from ntz_f c]; decide)]
    · rw [if_neg c, if_pos (show tM p n = true from ntz_t c)]
abbrev pt (q : Nat → Nat → Int32) (s : Nat) : Nat → Int32 := fun o => q 7 (6 * s + o)
theorem ogM_B {p : Nat → Nat → Int32} {s o : Nat} (ho : o < 6) : ogM p s (nI o) = sB (fun k => p 36 (6 * s + k)) (grp (LM p) o) 6 := by
  unfold ogM
  rw [sumM_B, gaM_k (by decide)]
  exact sB_e (gaM_g ho) 6 (Nat.le_refl _)
theorem sumG_B {q : Nat → Nat → Int32} {s o : Nat} (ho : o < 6) : sumC q s (grpC (q 5) o) 6 = sB (pt q s) (grp (LC (q 5)) o) 6 := by
  rw [sumC_B]
  exact sB_e (grpC_g ho) 6 (Nat.le_refl _)
theorem grp_L {L L' : Nat → Nat → Bool} (e : ∀ a b : Nat, a < 6 → b < 6 → L a b = L' a b) {o : Nat} (ho : o < 6) : Eq6 (grp L o) (grp L' o) := IsC_u (IsC_L e (grp_C ho)) (grp_C ho)
