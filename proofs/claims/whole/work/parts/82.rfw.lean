section RFW
variable {p : Nat → Nat → Int32}
theorem evOK_toQ {i : Nat} (h : evOK (eP p) i) : evOK (toQ p) i := evOK_eq (q := eP p) (q' := toQ p) rfl rfl rfl rfl rfl h
theorem evOK_eP {i : Nat} (h : evOK (toQ p) i) : evOK (eP p) i := evOK_eq (q := toQ p) (q' := eP p) rfl rfl rfl rfl rfl h
theorem clr_at {y : Nat} (hy : 1 ≤ y) : ∀ n : Nat, n ≤ 24 → ∀ i : Nat, (∀ k : Nat, k = 42 ∨ k = 45 ∨ k = 46 ∨ k = 47 ∨ k = 48 → clrM p y n k i = if 24 * y ≤ i ∧ i < 24 * y + n then 0 else p k i) ∧ (clrM p y n 43 i = if 24 * y ≤ i ∧ i < 24 * y + n then (if y = 1 then 0 else p 46 (i - 24)) else p 43 i) ∧ (clrM p y n 44 i = if 24 * y ≤ i ∧ i < 24 * y + n then (if y = 1 then 0 else p 47 (i - 24)) else p 44 i)
  | 0, _, i => by
    refine ⟨fun k _ => ?_, ?_, ?_⟩
    · rw [if_neg (by omega)]; rfl
    · rw [if_neg (by omega)]; rfl
    · rw [if_neg (by omega)]; rfl
  | n + 1, hn, i => by
    have ih := fun i => clr_at hy n (by omega) i
    have e46 : clrM p y n 46 (24 * y + n - 24) = p 46 (24 * y + n - 24) := by rw [(ih _).1 46 (by omega), if_neg (by omega)]
    have e47 : clrM p y n 47 (24 * y + n - 24) = p 47 (24 * y + n - 24) := by rw [(ih _).1 47 (by omega), if_neg (by omega)]
    rw [clrM_s]
    have f42 : cl1 y n (clrM p y n) 42 = upd (clrM p y n 42) (24 * y + n) 0 := rfl
    have f45 : cl1 y n (clrM p y n) 45 = upd (clrM p y n 45) (24 * y + n) 0 := rfl
    have f46 : cl1 y n (clrM p y n) 46 = upd (clrM p y n 46) (24 * y + n) 0 := rfl
    have f47 : cl1 y n (clrM p y n) 47 = upd (clrM p y n 47) (24 * y + n) 0 := rfl
    have f48 : cl1 y n (clrM p y n) 48 = upd (clrM p y n 48) (24 * y + n) 0 := rfl
    have f43 : cl1 y n (clrM p y n) 43 = upd (clrM p y n 43) (24 * y + n) (if y = 1 then 0 else clrM p y n 46 (24 * y + n - 24)) := rfl
    have f44 : cl1 y n (clrM p y n) 44 = upd (clrM p y n 44) (24 * y + n) (if y = 1 then 0 else clrM p y n 47 (24 * y + n - 24)) := rfl
    rw [e46] at f43
    rw [e47] at f44
    have sp : ∀ (f g v : Nat → Int32) (x : Int32), (f i = if 24 * y ≤ i ∧ i < 24 * y + n then v i else g i) → x = v (24 * y + n) → upd f (24 * y + n) x i = if 24 * y ≤ i ∧ i < 24 * y + (n + 1) then v i else g i := by
      intro f g v x hf hx
      by_cases e : i = 24 * y + n
      · rw [e, pk_us, if_pos (by omega), hx]
      · rw [pk_un e, hf]
        by_cases c : 24 * y ≤ i ∧ i < 24 * y + n
        · rw [if_pos c, if_pos (by omega)]
        · rw [if_neg c, if_neg (by omega)]
    refine ⟨fun k hk => ?_, ?_, ?_⟩
    · have h1 := (ih i).1 k hk
      rcases hk with rfl | rfl | rfl | rfl | rfl
      · rw [f42]; exact sp _ (p 42) (fun _ => 0) 0 h1 rfl
      · rw [f45]; exact sp _ (p 45) (fun _ => 0) 0 h1 rfl
      · rw [f46]; exact sp _ (p 46) (fun _ => 0) 0 h1 rfl
      · rw [f47]; exact sp _ (p 47) (fun _ => 0) 0 h1 rfl
      · rw [f48]; exact sp _ (p 48) (fun _ => 0) 0 h1 rfl
    · rw [f43]; exact sp _ (p 43) (fun i => if y = 1 then 0 else p 46 (i - 24)) _ (ih i).2.1 rfl
    · rw [f44]; exact sp _ (p 44) (fun i => if y = 1 then 0 else p 47 (i - 24)) _ (ih i).2.2 rfl
theorem wk1_out {t i k j : Nat} (ht : t ≤ 8) (ho : evOK (eP p) i) (hk : k = 42 ∨ k = 45) (hj : j < 24 * t ∨ 24 * t + 24 ≤ j) : wk1 t i p k j = p k j := by
  unfold wk1
  split
  · rename_i c
    have ey : yr (eP p) i = t := by unfold yr; show (p 50 i).toNatClampNeg = t; rw [c]; exact nI_clamp (by omega)
    obtain ⟨-, -, -, o4, -, o6, o7, o8⟩ := ho
    have o7 : p 49 i = 0 → p 53 i = nI (ot (eP p) i) ∧ ot (eP p) i < 6 := o7
    have o8 : ¬ p 49 i = 0 → ¬ p 49 i = 1 → p 53 i = nI (ot (eP p) i) ∧ ot (eP p) i < 4 := o8
    split
    · generalize bI (mayM p i) = x
      have e1 : kM (qv p 57 i x) i = 24 * t + 4 * vs (eP p) i + sp (eP p) i := by rw [← ey]; rfl
      have e2 : kV (qv p 57 i x) i = 24 * t + 4 * ot (eP p) i + sp (eP p) i := by rw [← ey]; rfl
      have e3 : kS (qv p 57 i x) i = 24 * t + 4 * vs (eP p) i + ot (eP p) i := by rw [← ey]; rfl
      by_cases c0 : p 49 i = 0
      · have o7 := (o7 c0).2
        rw [show actM (qv p 57 i x) i = _ from if_pos c0]
        dsimp only
        rw [e1, e2]
        rcases hk with rfl | rfl
        · show upd (upd (p 42) _ _) _ _ j = p 42 j
          rw [pk_un (by omega), pk_un (by omega)]
        · rfl
      · by_cases c1 : p 49 i = 1
        · rw [show actM (qv p 57 i x) i = _ from (if_neg c0).trans (if_pos c1), e1]
          rcases hk with rfl | rfl
          · rfl
          · show upd (p 45) _ _ j = p 45 j
            rw [pk_un (by omega)]
        · have o8 := (o8 c0 c1).2
          rw [show actM (qv p 57 i x) i = _ from (if_neg c0).trans (if_neg c1)]
          dsimp only
          rw [e1, e3]
          rcases hk with rfl | rfl
          · rfl
          · show upd (upd (p 45) _ _) _ _ j = p 45 j
            rw [pk_un (by omega), pk_un (by omega)]
    · rw [qv_n (by omega)]
  · rfl
theorem wk1_57 {t i j : Nat} (hj : j ≠ i) : wk1 t i p 57 j = p 57 j := by
  unfold wk1
  split
  · split
    · rw [actM_k (by decide) (by decide)]; exact pk_un hj
    · exact pk_un hj
  · rfl
theorem toQ_hi {k : Nat} (h : 21 ≤ k) : toQ p k = p (k + 28) := by unfold toQ; rw [if_neg (by omega), if_neg (by omega)]
theorem toQ_lo {k : Nat} (h : k ≤ 17) : toQ p k = p (k + 31) := by unfold toQ; rw [if_pos h]
theorem toQ_ev {p' : Nat → Nat → Int32} (h : ∀ k : Nat, k = 41 ∨ k = 43 ∨ k = 44 ∨ (49 ≤ k ∧ k ≤ 56) → p' k = p k) : ∀ k : Nat, k = 10 ∨ k = 12 ∨ k = 13 ∨ (21 ≤ k ∧ k ≤ 28) → toQ p' k = toQ p k := by
  intro k hk
  unfold toQ
  by_cases c : k ≤ 17
  · rw [if_pos c, if_pos c, h (k + 31) (by omega)]
  · rw [if_neg c, if_neg c, if_neg (by omega), if_neg (by omega), h (k + 28) (by omega)]
theorem EvB_c {Q Q' : Nat → Nat → Int32} {i : Nat} (h : EvB Q i) (e : ∀ k : Nat, k = 21 ∨ k = 26 ∨ k = 27 → Q' k i = Q k i) : EvB Q' i := by
  unfold EvB at h ⊢
  rw [e 21 (by omega), e 26 (by omega), e 27 (by omega)]
  exact h
theorem evsM_v {t : Nat} (ht : t ≤ 8) : ∀ n : Nat, (∀ i : Nat, i < n → evOK (eP p) i) → (∀ i : Nat, i < n → EvB (toQ p) i) → EqT (vwM (evsM p t n) t n) (ZR (toQ p) t n (vwM p t 0)) ∧ (∀ i : Nat, evsM p t n 57 i = if i < n ∧ p 50 i = nI t then bI (evF (toQ p) t i (ZR (toQ p) t i (vwM p t 0))).1 else p 57 i) ∧ (∀ k j : Nat, k = 42 ∨ k = 45 → (j < 24 * t ∨ 24 * t + 24 ≤ j) → evsM p t n k j = p k j)
  | 0, _, _ => ⟨EqT_r, fun i => by rw [if_neg (by omega)]; rfl, fun _ _ _ _ => rfl⟩
  | n + 1, ho, hb => by
    obtain ⟨h1, h2, h3⟩ := evsM_v ht n (fun i hi => ho i (by omega)) (fun i hi => hb i (by omega))
    have hk : ∀ k : Nat, kpM k = true → evsM p t n k = p k := fun k hk => evsM_k hk
    have hk2 : ∀ k : Nat, k = 43 ∨ k = 44 → evsM p t n k = p k := fun k hk' => itF_k (fun _ _ => wk1_k (by omega) (by omega) (by omega)) n p
    have hq : ∀ k : Nat, k = 10 ∨ k = 12 ∨ k = 13 ∨ (21 ≤ k ∧ k ≤ 28) → toQ (evsM p t n) k = toQ p k := toQ_ev fun k hk' => by
      rcases hk' with rfl | rfl | rfl | h
      · exact hk 41 rfl
      · exact hk2 43 (by omega)
      · exact hk2 44 (by omega)
      · exact hk k (by simp [kpM]; omega)
    have e50 : evsM p t n 50 = p 50 := hk 50 rfl
    have hon : evOK (eP (evsM p t n)) n := evOK_eq (q := eP p) (hk 49 rfl) (hk 50 rfl) (hk 51 rfl) (hk 52 rfl) (hk 53 rfl) (ho n (by omega))
    have hbn : EvB (toQ (evsM p t n)) n := EvB_c (hb n (by omega)) fun k hk' => by rw [hq k (by omega)]
    obtain ⟨v1, v2⟩ := wk1_v (p := evsM p t n) (i := n) ht hon hbn
    have eF : ∀ z : TT, evF (toQ (evsM p t n)) t n z = evF (toQ p) t n z := fun z => evF_q hq
    have hoq : evOK (toQ p) n := evOK_toQ (ho n (by omega))
    rw [e50] at v1 v2
    rw [eF] at v1 v2
    have hstep := evF_c (Q := toQ p) (Q' := toQ p) (t := t) (i := n) EqE_r ⟨Ef_r, Ef_r, Ef_r⟩ h1 hoq
    rw [evsM_s, ZR_s]
    refine ⟨?_, fun i => ?_, fun k j hk' hj => ?_⟩
    · refine EqT_t v1 ?_
      show EqT (if p 50 n = nI t then _ else _) (if p 50 n = nI t then _ else _)
      by_cases c : p 50 n = nI t
      · rw [if_pos c, if_pos c]; exact hstep.2
      · rw [if_neg c, if_neg c]; exact h1
    · by_cases e : i = n
      · subst e
        by_cases c : p 50 i = nI t
        · rw [if_pos ⟨by omega, c⟩, v2 c, hstep.1]
        · rw [if_neg (fun h => c h.2), show wk1 t i (evsM p t i) = evsM p t i from if_neg (by rw [e50]; exact c), h2 i, if_neg (by omega)]
      · rw [wk1_57 e, h2 i]
        by_cases d : i < n ∧ p 50 i = nI t
        · rw [if_pos d, if_pos ⟨by omega, d.2⟩]
        · rw [if_neg d, if_neg (fun h => d ⟨by omega, h.2⟩)]
    · rw [wk1_out ht hon hk' hj]; exact h3 k j hk' hj
theorem cls_at {y : Nat} : ∀ n : Nat, n ≤ 24 → ∀ i : Nat, (clsM p y n 46 i = if 24 * y ≤ i ∧ i < 24 * y + n then (if 0 ≤ leftM p i then (if ((15 : Int64) * (p 41 i).toInt64 / 100).toInt32 ≤ leftM p i then ((15 : Int64) * (p 41 i).toInt64 / 100).toInt32 else leftM p i) else 0) else p 46 i) ∧ (clsM p y n 47 i = if 24 * y ≤ i ∧ i < 24 * y + n then (if ((5 : Int64) * (p 41 i).toInt64 / 100).toInt32 ≤ ovM (leftM p i) then ((5 : Int64) * (p 41 i).toInt64 / 100).toInt32 else ovM (leftM p i)) else p 47 i) ∧ (clsM p y n 48 i = if 24 * y ≤ i ∧ i < 24 * y + n then ovM (leftM p i) - (if ((5 : Int64) * (p 41 i).toInt64 / 100).toInt32 ≤ ovM (leftM p i) then ((5 : Int64) * (p 41 i).toInt64 / 100).toInt32 else ovM (leftM p i)) else p 48 i)
  | 0, _, i => by
    rw [if_neg (by omega), if_neg (by omega), if_neg (by omega)]
    exact ⟨rfl, rfl, rfl⟩
  | n + 1, hn, i => by
    obtain ⟨h1, h2, h3⟩ := cls_at (y := y) n (by omega) i
    have ek : ∀ k : Nat, k ≠ 46 → k ≠ 47 → k ≠ 48 → clsM p y n k = p k := fun k a b c => itF_k (fun _ _ => closeM_k a b c) n p
    have el : leftM (clsM p y n) (24 * y + n) = leftM p (24 * y + n) := by
      unfold leftM; rw [ek 41 (by decide) (by decide) (by decide), ek 42 (by decide) (by decide) (by decide), ek 43 (by decide) (by decide) (by decide), ek 44 (by decide) (by decide) (by decide), ek 45 (by decide) (by decide) (by decide)]
    have e41 := ek 41 (by decide) (by decide) (by decide)
    rw [clsM_s]
    generalize clsM p y n = p1 at h1 h2 h3 el e41 ⊢
    have f46 : closeM p1 (24 * y + n) 46 = upd (p1 46) (24 * y + n) (if 0 ≤ leftM p1 (24 * y + n) then (if ((15 : Int64) * (p1 41 (24 * y + n)).toInt64 / 100).toInt32 ≤ leftM p1 (24 * y + n) then ((15 : Int64) * (p1 41 (24 * y + n)).toInt64 / 100).toInt32 else leftM p1 (24 * y + n)) else 0) := rfl
    have f47 : closeM p1 (24 * y + n) 47 = upd (p1 47) (24 * y + n) (if ((5 : Int64) * (p1 41 (24 * y + n)).toInt64 / 100).toInt32 ≤ ovM (leftM p1 (24 * y + n)) then ((5 : Int64) * (p1 41 (24 * y + n)).toInt64 / 100).toInt32 else ovM (leftM p1 (24 * y + n))) := rfl
    have f48 : closeM p1 (24 * y + n) 48 = upd (p1 48) (24 * y + n) (ovM (leftM p1 (24 * y + n)) - upd (p1 47) (24 * y + n) (if ((5 : Int64) * (p1 41 (24 * y + n)).toInt64 / 100).toInt32 ≤ ovM (leftM p1 (24 * y + n)) then ((5 : Int64) * (p1 41 (24 * y + n)).toInt64 / 100).toInt32 else ovM (leftM p1 (24 * y + n))) (24 * y + n)) := rfl
    rw [f46, f47, f48, el, e41, pk_us]
    by_cases e : i = 24 * y + n
    · subst e
      rw [pk_us, pk_us, pk_us, if_pos (show 24 * y ≤ 24 * y + n ∧ 24 * y + n < 24 * y + (n + 1) by omega), if_pos (show 24 * y ≤ 24 * y + n ∧ 24 * y + n < 24 * y + (n + 1) by omega), if_pos (show 24 * y ≤ 24 * y + n ∧ 24 * y + n < 24 * y + (n + 1) by omega)]
      exact ⟨rfl, rfl, rfl⟩
    · rw [pk_un e, pk_un e, pk_un e, h1, h2, h3]
      by_cases c : 24 * y ≤ i ∧ i < 24 * y + n
      · have c' : 24 * y ≤ i ∧ i < 24 * y + (n + 1) := by omega
        rw [if_pos c, if_pos c, if_pos c, if_pos c', if_pos c', if_pos c']
        exact ⟨rfl, rfl, rfl⟩
      · have c' : ¬ (24 * y ≤ i ∧ i < 24 * y + (n + 1)) := by omega
        rw [if_neg c, if_neg c, if_neg c, if_neg c', if_neg c', if_neg c']
        exact ⟨rfl, rfl, rfl⟩
theorem yM_cn {n t : Nat} (ht1 : 1 ≤ t) (ht : t ≤ 8) (hn : n ≤ 200) (ho : ∀ i : Nat, i < n → evOK (eP p) i) (hb : ∀ i : Nat, i < n → EvB (toQ p) i) (hal : ∀ k : Nat, 0 ≤ (p 41 k).toInt ∧ (p 41 k).toInt ≤ 7000000) (h0 : ∀ j : Nat, j < 24 → p 46 j = 0 ∧ p 47 j = 0) (hpv : ∀ j : Nat, j < 24 → (0 ≤ (p 46 (24 * t + j - 24)).toInt ∧ (p 46 (24 * t + j - 24)).toInt ≤ 1050000) ∧ (0 ≤ (p 47 (24 * t + j - 24)).toInt ∧ (p 47 (24 * t + j - 24)).toInt ≤ 1050000)) :
    CN (toQ (yM p n t)) n t (opM p t) ∧ FrY (toQ p) (toQ (yM p n t)) t := by
  have e0 : yM p n t = (if opM (evsM (clrM p t 24) t n) t = true then clsM (evsM (clrM p t 24) t n) t 24 else evsM (clrM p t 24) t n) := by unfold yM; rfl
  rw [e0]
  have ca := fun i => clr_at (p := p) ht1 24 (Nat.le_refl _) i
  have ck : ∀ k : Nat, kpM k = true → clrM p t 24 k = p k := fun k hk => clrM_k hk
  have c57 : clrM p t 24 57 = p 57 := itF_k (fun _ _ => cl1_k (by decide) (by decide) (by decide) (by decide) (by decide) (by decide) (by decide)) 24 p
  revert ca ck c57
  generalize clrM p t 24 = p1
  intro ca ck c57
  have hoc : ∀ i : Nat, i < n → evOK (eP p1) i := fun i hi => evOK_eq (q := eP p) (ck 49 rfl) (ck 50 rfl) (ck 51 rfl) (ck 52 rfl) (ck 53 rfl) (ho i hi)
  have hbc : ∀ i : Nat, i < n → EvB (toQ p1) i := fun i hi => EvB_c (hb i hi) fun k hk => by rw [toQ_hi (by omega), toQ_hi (by omega), ck (k + 28) (by simp [kpM]; omega)]
  obtain ⟨w1, w2, w3⟩ := evsM_v (p := p1) ht n hoc hbc
  have wk : ∀ k : Nat, k ≠ 42 → k ≠ 45 → k ≠ 57 → evsM p1 t n k = p1 k := fun k a b c => itF_k (fun _ _ => wk1_k a b c) n _
  revert w1 w2 w3 wk
  generalize evsM p1 t n = p2
  intro w1 w2 w3 wk
  have hz0 : EqT (vwM p1 t 0) (fun _ => 0, fun _ => 0, fun _ => 0) := by
    refine ⟨fun j hj => ?_, fun j hj => ?_, fun j hj => ?_⟩
    · show p1 42 (24 * t + j) = 0; rw [(ca _).1 42 (by omega), if_pos (by omega)]
    · show p1 45 (24 * t + j) = 0; rw [(ca _).1 45 (by omega), if_pos (by omega)]
    · show movM p1 (nI t) (nI j) 0 = 0
      exact movM_0
  -- the rows that the new year takes over
  have e43 : ∀ j : Nat, j < 24 → p1 43 (24 * t + j) = p 46 (24 * t + j - 24) := fun j hj => by
    rw [(ca _).2.1, if_pos (by omega)]
    by_cases c : t = 1
    · subst c; rw [if_pos rfl, show 24 * 1 + j - 24 = j by omega, (h0 j hj).1]
    · rw [if_neg c]
  have e44 : ∀ j : Nat, j < 24 → p1 44 (24 * t + j) = p 47 (24 * t + j - 24) := fun j hj => by
    rw [(ca _).2.2, if_pos (by omega)]
    by_cases c : t = 1
    · subst c; rw [if_pos rfl, show 24 * 1 + j - 24 = j by omega, (h0 j hj).2]
    · rw [if_neg c]
  have eo : opM p2 t = opM p t := by
    unfold opM; rw [wk 31 (by decide) (by decide) (by decide), ck 31 rfl]
  have key : ∀ f : Nat → Nat → Int32, (∀ k : Nat, k ≠ 46 → k ≠ 47 → k ≠ 48 → f k = p2 k) → (∀ k j : Nat, 46 ≤ k → k ≤ 48 → (j < 24 * t ∨ 24 * t + 24 ≤ j) → f k j = p k j) → (∀ j : Nat, j < 24 → clF (toQ f) (opM p t) (24 * t + j)) → CN (toQ f) n t (opM p t) ∧ FrY (toQ p) (toQ f) t := by
    intro f fk fo fc
    have fb : ∀ k : Nat, k = 10 ∨ k = 12 ∨ k = 13 ∨ (21 ≤ k ∧ k ≤ 28) → toQ f k = toQ p1 k := toQ_ev fun k hk => by rw [fk k (by omega) (by omega) (by omega), wk k (by omega) (by omega) (by omega)]
    have hob : ∀ i : Nat, i < n → evOK (toQ p1) i := fun i hi => evOK_toQ (hoc i hi)
    have hZf : ∀ i : Nat, i ≤ n → EqT (ZR (toQ p1) t i (vwM p1 t 0)) (ZF (toQ f) t i) := fun i hi => by
      refine EqT_t (ZR_c hz0 i (fun i' hi' => hob i' (by omega))) (ZF_c ⟨fun j hj => by rw [fb 10 (by omega)], fun j hj => by rw [fb 12 (by omega)], fun j hj => by rw [fb 13 (by omega)]⟩ i (fun i' hi' => ?_) (fun i' hi' => hob i' (by omega)))
      exact ⟨by rw [fb 21 (by omega)], by rw [fb 22 (by omega)], by rw [fb 23 (by omega)], by rw [fb 24 (by omega)], fun _ => by rw [fb 25 (by omega)], by rw [fb 26 (by omega)], by rw [fb 27 (by omega)], by rw [fb 28 (by omega)]⟩
    have f50 : f 50 = p 50 := by rw [fk 50 (by decide) (by decide) (by decide), wk 50 (by decide) (by decide) (by decide), ck 50 rfl]
    refine ⟨⟨fun j hj => ⟨?_, ?_⟩, fun j hj => ⟨?_, ?_⟩, fun i hi hy => ?_, fc⟩, ⟨fun k hk => ?_, fun k j k1 k2 hj => ?_, fun i hy => ?_⟩⟩
    · rw [toQ_lo (p := f) (k := 12) (by decide), toQ_lo (p := f) (k := 15) (by decide)]
      rw [fk 43 (by decide) (by decide) (by decide), wk 43 (by decide) (by decide) (by decide), e43 j hj, fo 46 _ (by omega) (by omega) (by omega)]
    · rw [toQ_lo (p := f) (k := 13) (by decide), toQ_lo (p := f) (k := 16) (by decide)]
      rw [fk 44 (by decide) (by decide) (by decide), wk 44 (by decide) (by decide) (by decide), e44 j hj, fo 47 _ (by omega) (by omega) (by omega)]
    · rw [toQ_lo (p := f) (k := 11) (by decide)]
      rw [fk 42 (by decide) (by decide) (by decide), ← (hZf n (Nat.le_refl _)).1 j hj, ← w1.1 j hj]; rfl
    · rw [toQ_lo (p := f) (k := 14) (by decide)]
      rw [fk 45 (by decide) (by decide) (by decide), ← (hZf n (Nat.le_refl _)).2.1 j hj, ← w1.2.1 j hj]; rfl
    · rw [toQ_hi (p := f) (k := 22) (by decide)] at hy
      rw [toQ_hi (p := f) (k := 29) (by decide)]
      rw [fk 57 (by decide) (by decide) (by decide), w2 i, if_pos ⟨hi, by rw [ck 50 rfl, ← f50]; exact hy⟩]
      refine congrArg bI ?_
      rw [← evF_q (Q := toQ p1) (Q' := toQ f) fb]
      have hof : evOK (toQ f) i := evOK_eq (fb 21 (by omega)) (fb 22 (by omega)) (fb 23 (by omega)) (fb 24 (by omega)) (fb 25 (by omega)) (hob i hi)
      exact (evF_c EqE_r ⟨Ef_r, Ef_r, Ef_r⟩ (hZf i (by omega)) hof).1
    · have hk' : k ≤ 10 ∨ (19 ≤ k ∧ k ≠ 29) := by simpa [kpY] using hk
      unfold toQ
      by_cases c : k ≤ 17
      · rw [if_pos c, if_pos c, fk (k + 31) (by omega) (by omega) (by omega), wk (k + 31) (by omega) (by omega) (by omega), ck (k + 31) (by simp [kpM]; omega)]
      · rw [if_neg c, if_neg c]
        by_cases c2 : k ≤ 20
        · rw [if_pos c2, if_pos c2]
        · rw [if_neg c2, if_neg c2, fk (k + 28) (by omega) (by omega) (by omega), wk (k + 28) (by omega) (by omega) (by omega), ck (k + 28) (by simp [kpM]; omega)]
    · have e : ∀ g : Nat → Nat → Int32, toQ g k = g (k + 31) := fun g => by unfold toQ; rw [if_pos k2]
      rw [e, e]
      by_cases c : 15 ≤ k
      · exact fo (k + 31) j (by omega) (by omega) hj
      · rw [fk (k + 31) (by omega) (by omega) (by omega)]
        rcases (show k = 11 ∨ k = 12 ∨ k = 13 ∨ k = 14 by omega) with rfl | rfl | rfl | rfl
        · rw [w3 42 j (Or.inl rfl) hj, (ca _).1 42 (by omega), if_neg (by omega)]
        · rw [wk 43 (by decide) (by decide) (by decide), (ca _).2.1, if_neg (by omega)]
        · rw [wk 44 (by decide) (by decide) (by decide), (ca _).2.2, if_neg (by omega)]
        · rw [w3 45 j (Or.inr rfl) hj, (ca _).1 45 (by omega), if_neg (by omega)]
    · rw [toQ_hi (p := p) (k := 22) (by decide)] at hy
      rw [toQ_hi (p := f) (k := 29) (by decide), toQ_hi (p := p) (k := 29) (by decide)]
      rw [fk 57 (by decide) (by decide) (by decide), w2 i, if_neg (fun h => hy (by rw [← ck 50 rfl]; exact h.2)), c57]
  rw [eo]
  by_cases c : opM p t = true
  · rw [if_pos c]
    have sk : ∀ k : Nat, k ≠ 46 → k ≠ 47 → k ≠ 48 → clsM p2 t 24 k = p2 k := fun k a b d => itF_k (fun _ _ => closeM_k a b d) 24 _
    have sa := fun i => cls_at (p := p2) (y := t) 24 (Nat.le_refl _) i
    revert sk sa
    generalize clsM p2 t 24 = f
    intro sk sa
    refine key _ sk (fun k j k1 k2 hj => ?_) (fun j hj => ?_)
    · obtain ⟨s1, s2, s3⟩ := sa j
      rcases (show k = 46 ∨ k = 47 ∨ k = 48 by omega) with rfl | rfl | rfl
      · rw [s1, if_neg (by omega), wk 46 (by decide) (by decide) (by decide), (ca _).1 46 (by omega), if_neg (by omega)]
      · rw [s2, if_neg (by omega), wk 47 (by decide) (by decide) (by decide), (ca _).1 47 (by omega), if_neg (by omega)]
      · rw [s3, if_neg (by omega), wk 48 (by decide) (by decide) (by decide), (ca _).1 48 (by omega), if_neg (by omega)]
    · obtain ⟨s1, s2, s3⟩ := sa (24 * t + j)
      have c24 : 24 * t ≤ 24 * t + j ∧ 24 * t + j < 24 * t + 24 := by omega
      rw [if_pos c24] at s1 s2 s3
      have e41 : p2 41 = p 41 := by rw [wk 41 (by decide) (by decide) (by decide), ck 41 rfl]
      rw [e41] at s1 s2 s3
      have hl : -2 ^ 31 < (leftM p2 (24 * t + j)).toInt := by
        have hZ := ZF_b (Q := toQ p1) (t := t) n hn (fun i hi => evOK_toQ (hoc i hi)) hbc
        have hZ2 := ZR_c (Q := toQ p1) (t := t) hz0 n (fun i hi => evOK_toQ (hoc i hi))
        have e42 : p2 42 (24 * t + j) = (ZF (toQ p1) t n).1 j := (w1.1 j hj).trans (hZ2.1 j hj)
        have e45 : p2 45 (24 * t + j) = (ZF (toQ p1) t n).2.1 j := (w1.2.1 j hj).trans (hZ2.2.1 j hj)
        have b1 := hZ.1 j hj
        have b2 := hZ.2 j hj
        unfold leftM
        rw [e41, e42, e45, wk 43 (by decide) (by decide) (by decide), wk 44 (by decide) (by decide) (by decide), e43 j hj, e44 j hj]
        exact left_b (hal _) (by omega) (hpv j hj).1 (hpv j hj).2 (by omega)
      have el : leftF (toQ f) (24 * t + j) = leftM p2 (24 * t + j) := by
        unfold leftF leftM
        rw [toQ_lo (p := f) (k := 10) (by decide), toQ_lo (p := f) (k := 11) (by decide), toQ_lo (p := f) (k := 12) (by decide), toQ_lo (p := f) (k := 13) (by decide), toQ_lo (p := f) (k := 14) (by decide), sk 41 (by decide) (by decide) (by decide), sk 42 (by decide) (by decide) (by decide), sk 43 (by decide) (by decide) (by decide), sk 44 (by decide) (by decide) (by decide), sk 45 (by decide) (by decide) (by decide)]
      have e10 : toQ f 10 = p 41 := by
        rw [toQ_lo (p := f) (k := 10) (by decide), sk 41 (by decide) (by decide) (by decide), e41]
      unfold clF
      rw [if_pos c, el, e10]
      rw [bk_eq (hal _)] at s1
      rw [ad_eq (hal _) hl] at s2 s3
      rw [ov_eq hl] at s3
      rw [toQ_lo (p := f) (k := 15) (by decide), toQ_lo (p := f) (k := 16) (by decide), toQ_lo (p := f) (k := 17) (by decide)]
      exact ⟨s1, s2, s3⟩
  · rw [if_neg c]
    refine key _ (fun _ _ _ _ => rfl) (fun k j k1 k2 hj => ?_) (fun j hj => ?_)
    · rcases (show k = 46 ∨ k = 47 ∨ k = 48 by omega) with rfl | rfl | rfl
      · rw [wk 46 (by decide) (by decide) (by decide), (ca _).1 46 (by omega), if_neg (by omega)]
      · rw [wk 47 (by decide) (by decide) (by decide), (ca _).1 47 (by omega), if_neg (by omega)]
      · rw [wk 48 (by decide) (by decide) (by decide), (ca _).1 48 (by omega), if_neg (by omega)]
    · unfold clF
      rw [if_neg c]
      refine ⟨?_, ?_, ?_⟩
      · rw [toQ_lo (p := p2) (k := 15) (by decide)]
        rw [wk 46 (by decide) (by decide) (by decide), (ca _).1 46 (by omega), if_pos (by omega)]
      · rw [toQ_lo (p := p2) (k := 16) (by decide)]
        rw [wk 47 (by decide) (by decide) (by decide), (ca _).1 47 (by omega), if_pos (by omega)]
      · rw [toQ_lo (p := p2) (k := 17) (by decide)]
        rw [wk 48 (by decide) (by decide) (by decide), (ca _).1 48 (by omega), if_pos (by omega)]
end RFW
