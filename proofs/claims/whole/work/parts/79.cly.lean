/-! the class's work of a year agrees with the tale -/
section CLY
variable {q : Nat → Nat → Int32}
theorem bg_at {y : Nat} : ∀ n : Nat, n ≤ 24 → (∀ i : Nat, itF (bg1 y) n q 11 i = if 24 * y ≤ i ∧ i < 24 * y + n then 0 else q 11 i) ∧ (∀ i : Nat, itF (bg1 y) n q 14 i = if 24 * y ≤ i ∧ i < 24 * y + n then 0 else q 14 i) ∧ (∀ i : Nat, itF (bg1 y) n q 12 i = if 24 * y ≤ i ∧ i < 24 * y + n then q 15 (i - 24) else q 12 i) ∧ (∀ i : Nat, itF (bg1 y) n q 13 i = if 24 * y ≤ i ∧ i < 24 * y + n then q 16 (i - 24) else q 13 i)
  | 0, _ => ⟨fun i => by rw [if_neg (by omega)]; rfl, fun i => by rw [if_neg (by omega)]; rfl, fun i => by rw [if_neg (by omega)]; rfl, fun i => by rw [if_neg (by omega)]; rfl⟩
  | n + 1, hn => by
    obtain ⟨h1, h2, h3, h4⟩ := bg_at (y := y) n (by omega)
    have e15 : itF (bg1 y) n q 15 = q 15 := itF_k (fun i q => by unfold bg1; rw [qv_n (by decide), qv_n (by decide), qv_n (by decide), qv_n (by decide)]) n q
    have e16 : itF (bg1 y) n q 16 = q 16 := itF_k (fun i q => by unfold bg1; rw [qv_n (by decide), qv_n (by decide), qv_n (by decide), qv_n (by decide)]) n q
    rw [itF_s]
    generalize itF (bg1 y) n q = q1 at h1 h2 h3 h4 e15 e16 ⊢
    have sp : ∀ (f : Nat → Int32) (g : Nat → Int32) (x : Int32) (v : Nat → Int32), (∀ i : Nat, f i = if 24 * y ≤ i ∧ i < 24 * y + n then v i else g i) → x = v (24 * y + n) → ∀ i : Nat, upd f (24 * y + n) x i = if 24 * y ≤ i ∧ i < 24 * y + (n + 1) then v i else g i := by
      intro f g x v hf hx i
      by_cases e : i = 24 * y + n
      · rw [e, pk_us, if_pos (by omega), hx]
      · rw [pk_un e, hf i]
        by_cases c : 24 * y ≤ i ∧ i < 24 * y + n
        · rw [if_pos c, if_pos (by omega)]
        · rw [if_neg c, if_neg (by omega)]
    refine ⟨?_, ?_, ?_, ?_⟩
    · exact sp (q1 11) (q 11) 0 (fun _ => 0) h1 rfl
    · exact sp (q1 14) (q 14) 0 (fun _ => 0) h2 rfl
    · exact sp (q1 12) (q 12) (q1 15 (24 * y + n - 24)) (fun i => q 15 (i - 24)) h3 (by rw [e15])
    · exact sp (q1 13) (q 13) (q1 16 (24 * y + n - 24)) (fun i => q 16 (i - 24)) h4 (by rw [e16])
theorem bg18 {y : Nat} : ∀ n : Nat, ∀ i : Nat, itF (fun v q => qv q 18 (6 * y + v) 0) n q 18 i = if 6 * y ≤ i ∧ i < 6 * y + n then 0 else q 18 i
  | 0, i => by rw [if_neg (by omega)]; rfl
  | n + 1, i => by
    have ih := bg18 (y := y) n i
    rw [itF_s]
    generalize itF (fun v q => qv q 18 (6 * y + v) 0) n q = q1 at ih ⊢
    show upd (q1 18) (6 * y + n) 0 i = _
    by_cases e : i = 6 * y + n
    · rw [e, pk_us, if_pos (by omega)]
    · rw [pk_un e, ih]
      by_cases c : 6 * y ≤ i ∧ i < 6 * y + n
      · rw [if_pos c, if_pos (by omega)]
      · rw [if_neg c, if_neg (by omega)]
theorem begC_at {y : Nat} : (∀ i : Nat, begC q y 11 i = if 24 * y ≤ i ∧ i < 24 * y + 24 then 0 else q 11 i) ∧ (∀ i : Nat, begC q y 14 i = if 24 * y ≤ i ∧ i < 24 * y + 24 then 0 else q 14 i) ∧ (∀ i : Nat, begC q y 12 i = if 24 * y ≤ i ∧ i < 24 * y + 24 then q 15 (i - 24) else q 12 i) ∧ (∀ i : Nat, begC q y 13 i = if 24 * y ≤ i ∧ i < 24 * y + 24 then q 16 (i - 24) else q 13 i) ∧ (∀ i : Nat, begC q y 18 i = if 6 * y ≤ i ∧ i < 6 * y + 6 then 0 else q 18 i) := by
  obtain ⟨h1, h2, h3, h4⟩ := bg_at (q := q) (y := y) 24 (Nat.le_refl _)
  have k : ∀ k : Nat, k ≠ 18 → begC q y k = itF (bg1 y) 24 q k := fun k hk => by
    unfold begC; exact itF_k (fun i q => qv_n hk) 6 _
  refine ⟨fun i => by rw [k 11 (by decide)]; exact h1 i, fun i => by rw [k 14 (by decide)]; exact h2 i, fun i => by rw [k 12 (by decide)]; exact h3 i, fun i => by rw [k 13 (by decide)]; exact h4 i, fun i => ?_⟩
  unfold begC
  rw [bg18 6 i, itF_k (fun i q => by unfold bg1; rw [qv_n (by decide), qv_n (by decide), qv_n (by decide), qv_n (by decide)]) 24 q]
def vwC (q : Nat → Nat → Int32) (t : Nat) : TT := (sh (24 * t) (q 11), sh (24 * t) (q 14), sh (6 * t) (q 18))
theorem yr_of {t i : Nat} (ht : t ≤ 8) (h : q 22 i = nI t) : yr q i = t := by
  unfold yr; rw [h]; exact nI_clamp (by omega)
theorem evC_v {t i : Nat} (ht : t ≤ 8) (h : q 22 i = nI t) : (evC q i).1 = (evF q t i (vwC q t)).1 ∧ vwC (evC q i).2 t = (evF q t i (vwC q t)).2 := by
  have ey := yr_of ht h
  have el : ∀ k : Nat, leftF q (24 * t + k) = lfG (sh (24 * t) (q 10)) (sh (24 * t) (q 12)) (sh (24 * t) (q 13)) (vwC q t) k := fun k => rfl
  unfold evC evF evG
  rw [ey, Nat.add_assoc, Nat.add_assoc, Nat.add_assoc]
  by_cases c0 : q 21 i = 0
  · rw [if_pos c0, if_pos c0, el]
    split
    · refine ⟨rfl, ?_⟩
      show (sh (24 * t) (upd (upd (q 11) (24 * t + (4 * vs q i + sp q i)) (q 11 (24 * t + (4 * vs q i + sp q i)) - q 27 i)) (24 * t + (4 * ot q i + sp q i)) (upd (q 11) (24 * t + (4 * vs q i + sp q i)) (q 11 (24 * t + (4 * vs q i + sp q i)) - q 27 i) (24 * t + (4 * ot q i + sp q i)) + q 27 i)), sh (24 * t) (q 14), sh (6 * t) (q 18)) = _
      rw [sh_up, sh_up]
      show _ = (mvG (sh (24 * t) (q 11)) (4 * vs q i + sp q i) (4 * ot q i + sp q i) (q 27 i) (q 27 i), sh (24 * t) (q 14), sh (6 * t) (q 18))
      unfold mvG
      rw [show upd (q 11) (24 * t + (4 * vs q i + sp q i)) (q 11 (24 * t + (4 * vs q i + sp q i)) - q 27 i) (24 * t + (4 * ot q i + sp q i)) = sh (24 * t) (upd (q 11) (24 * t + (4 * vs q i + sp q i)) (q 11 (24 * t + (4 * vs q i + sp q i)) - q 27 i)) (4 * ot q i + sp q i) from rfl, sh_up]
      rfl
    · exact ⟨rfl, rfl⟩
  · rw [if_neg c0, if_neg c0]
    by_cases c1 : q 21 i = 1
    · rw [if_pos c1, if_pos c1]
      split
      · refine ⟨rfl, ?_⟩
        show (sh (24 * t) (q 11), sh (24 * t) (upd (q 14) (24 * t + (4 * vs q i + sp q i)) (q 14 (24 * t + (4 * vs q i + sp q i)) + q 27 i)), sh (6 * t) (q 18)) = _
        rw [sh_up]
        rfl
      · exact ⟨rfl, rfl⟩
    · rw [if_neg c1, if_neg c1]
      have ec : canC q (24 * t + (4 * vs q i + sp q i)) (24 * t + (4 * vs q i + ot q i)) (6 * t + vs q i) (q 26 i) (q 27 i) = (decide (q 26 i ≤ (vwC q t).2.1 (4 * vs q i + sp q i)) && (decide (q 27 i ≤ lfG (sh (24 * t) (q 10)) (sh (24 * t) (q 12)) (sh (24 * t) (q 13)) (vwC q t) (4 * vs q i + ot q i)) && decide ((vwC q t).2.2 (vs q i) + q 26 i ≤ 1000))) := rfl
      rw [ec]
      split
      · refine ⟨rfl, ?_⟩
        show (sh (24 * t) (q 11), sh (24 * t) (upd (upd (q 14) (24 * t + (4 * vs q i + sp q i)) (q 14 (24 * t + (4 * vs q i + sp q i)) - q 26 i)) (24 * t + (4 * vs q i + ot q i)) (upd (q 14) (24 * t + (4 * vs q i + sp q i)) (q 14 (24 * t + (4 * vs q i + sp q i)) - q 26 i) (24 * t + (4 * vs q i + ot q i)) + q 27 i)), sh (6 * t) (upd (q 18) (6 * t + vs q i) (q 18 (6 * t + vs q i) + q 26 i))) = _
        rw [sh_up, sh_up, sh_up]
        show _ = (sh (24 * t) (q 11), mvG (sh (24 * t) (q 14)) (4 * vs q i + sp q i) (4 * vs q i + ot q i) (q 26 i) (q 27 i), upd (sh (6 * t) (q 18)) (vs q i) (sh (6 * t) (q 18) (vs q i) + q 26 i))
        unfold mvG
        rw [show upd (q 14) (24 * t + (4 * vs q i + sp q i)) (q 14 (24 * t + (4 * vs q i + sp q i)) - q 26 i) (24 * t + (4 * vs q i + ot q i)) = sh (24 * t) (upd (q 14) (24 * t + (4 * vs q i + sp q i)) (q 14 (24 * t + (4 * vs q i + sp q i)) - q 26 i)) (4 * vs q i + ot q i) from rfl, sh_up]
        rfl
      · exact ⟨rfl, rfl⟩
/-- outside of its year an event changes nothing -/
theorem evC_out {t i k j : Nat} (ht : t ≤ 8) (h : q 22 i = nI t) (ho : evOK q i) (hk : ((k = 11 ∨ k = 14) ∧ (j < 24 * t ∨ 24 * t + 24 ≤ j)) ∨ (k = 18 ∧ (j < 6 * t ∨ 6 * t + 6 ≤ j))) : (evC q i).2 k j = q k j := by
  have ey := yr_of ht h
  obtain ⟨-, -, -, o4, -, o6, o7, o8⟩ := ho
  unfold evC
  rw [ey]
  by_cases c0 : q 21 i = 0
  · have o7 := (o7 c0).2
    rw [if_pos c0]
    split
    · show mvC q _ _ _ k j = q k j
      unfold mvC
      by_cases e : k = 11
      · subst e
        show upd (upd (q 11) _ _) _ _ j = q 11 j
        rw [pk_un (by omega), pk_un (by omega)]
      · rw [qv_n e, qv_n e]
    · rfl
  · rw [if_neg c0]
    by_cases c1 : q 21 i = 1
    · rw [if_pos c1]
      split
      · show qv q 14 _ _ k j = q k j
        by_cases e : k = 14
        · subst e
          show upd (q 14) _ _ j = q 14 j
          rw [pk_un (by omega)]
        · rw [qv_n e]
      · rfl
    · have o8 := (o8 c0 c1).2
      rw [if_neg c1]
      split
      · show exC q _ _ _ _ _ k j = q k j
        unfold exC
        by_cases e : k = 14
        · subst e
          show upd (upd (q 14) _ _) _ _ j = q 14 j
          rw [pk_un (by omega), pk_un (by omega)]
        · by_cases e2 : k = 18
          · subst e2
            show upd (q 18) _ _ j = q 18 j
            rw [pk_un (by omega)]
          · rw [qv_n e2, qv_n e, qv_n e]
      · rfl
def ZR (Q : Nat → Nat → Int32) (t n : Nat) (z0 : TT) : TT := itF (fun i z => if Q 22 i = nI t then (evF Q t i z).2 else z) n z0
theorem ZR_s {Q : Nat → Nat → Int32} {t n : Nat} {z0 : TT} : ZR Q t (n + 1) z0 = if Q 22 n = nI t then (evF Q t n (ZR Q t n z0)).2 else ZR Q t n z0 := rfl
theorem ZR_c {Q : Nat → Nat → Int32} {t : Nat} {z0 : TT} (hz : EqT z0 (fun _ => 0, fun _ => 0, fun _ => 0)) : ∀ n : Nat, (∀ i : Nat, i < n → evOK Q i) → EqT (ZR Q t n z0) (ZF Q t n)
  | 0, _ => hz
  | n + 1, ho => by
    have ih := ZR_c (t := t) hz n (fun i hi => ho i (by omega))
    rw [ZR_s, ZF_s]
    by_cases c : Q 22 n = nI t
    · rw [if_pos c, if_pos c]
      exact (evF_c EqE_r ⟨Ef_r, Ef_r, Ef_r⟩ ih (ho n (by omega))).2
    · rw [if_neg c, if_neg c]
      exact ih
theorem evF_q {Q Q' : Nat → Nat → Int32} {t i : Nat} {z : TT} (h : ∀ k : Nat, k = 10 ∨ k = 12 ∨ k = 13 ∨ (21 ≤ k ∧ k ≤ 28) → Q' k = Q k) : evF Q' t i z = evF Q t i z := by
  unfold evF vs sp ot
  rw [h 10 (by omega), h 12 (by omega), h 13 (by omega), h 21 (by omega), h 23 (by omega), h 24 (by omega), h 25 (by omega), h 26 (by omega), h 27 (by omega), h 28 (by omega)]
theorem wyC_s {t n : Nat} : wyC q t (n + 1) = if wyC q t n 22 n = nI t then wkC (wyC q t n) n else wyC q t n := rfl
theorem wyC_v {t : Nat} (ht : t ≤ 8) : ∀ n : Nat, (∀ i : Nat, i < n → evOK q i) → vwC (wyC q t n) t = ZR q t n (vwC q t) ∧ (∀ i : Nat, wyC q t n 29 i = if i < n ∧ q 22 i = nI t then bI (evF q t i (ZR q t i (vwC q t))).1 else q 29 i) ∧ (∀ k j : Nat, (((k = 11 ∨ k = 14) ∧ (j < 24 * t ∨ 24 * t + 24 ≤ j)) ∨ (k = 18 ∧ (j < 6 * t ∨ 6 * t + 6 ≤ j))) → wyC q t n k j = q k j)
  | 0, _ => ⟨rfl, fun i => by rw [if_neg (by omega)]; rfl, fun _ _ _ => rfl⟩
  | n + 1, ho => by
    obtain ⟨h1, h2, h3⟩ := wyC_v ht n (fun i hi => ho i (by omega))
    have hk : ∀ k : Nat, k ≠ 11 → k ≠ 14 → k ≠ 18 → k ≠ 29 → wyC q t n k = q k := fun k a b c d => wyC_k a b c d
    rw [wyC_s, ZR_s, hk 22 (by decide) (by decide) (by decide) (by decide)]
    by_cases c : q 22 n = nI t
    · rw [if_pos c, if_pos c]
      have hev : evOK (wyC q t n) n := evOK_eq (hk 21 (by decide) (by decide) (by decide) (by decide)) (hk 22 (by decide) (by decide) (by decide) (by decide)) (hk 23 (by decide) (by decide) (by decide) (by decide)) (hk 24 (by decide) (by decide) (by decide) (by decide)) (hk 25 (by decide) (by decide) (by decide) (by decide)) (ho n (by omega))
      have c' : wyC q t n 22 n = nI t := by rw [hk 22 (by decide) (by decide) (by decide) (by decide)]; exact c
      obtain ⟨v1, v2⟩ := evC_v (q := wyC q t n) (i := n) ht c'
      have eF : ∀ z : TT, evF (wyC q t n) t n z = evF q t n z := fun z => evF_q fun k hk' => hk k (by omega) (by omega) (by omega) (by omega)
      rw [eF, h1] at v1 v2
      refine ⟨v2, fun i => ?_, fun k j hkj => ?_⟩
      · show upd ((evC (wyC q t n) n).2 29) n (bI (evC (wyC q t n) n).1) i = _
        rw [evC_k (by decide) (by decide) (by decide)]
        by_cases e : i = n
        · rw [e, pk_us, if_pos ⟨by omega, c⟩, v1]
        · rw [pk_un e, h2 i]
          by_cases d : i < n ∧ q 22 i = nI t
          · rw [if_pos d, if_pos ⟨by omega, d.2⟩]
          · rw [if_neg d, if_neg (fun h => d ⟨by omega, h.2⟩)]
      · unfold wkC
        rw [qv_n (by omega), evC_out ht c' hev hkj]
        exact h3 k j hkj
    · rw [if_neg c, if_neg c]
      refine ⟨h1, fun i => ?_, h3⟩
      rw [h2 i]
      by_cases e : i = n
      · rw [if_neg (by omega), if_neg (fun h => c (by rw [← e]; exact h.2))]
      · by_cases d : i < n ∧ q 22 i = nI t
        · rw [if_pos d, if_pos ⟨by omega, d.2⟩]
        · rw [if_neg d, if_neg (fun h => d ⟨by omega, h.2⟩)]
theorem st_at {y : Nat} : ∀ n : Nat, n ≤ 24 → ∀ i : Nat, (itF (st1 y) n q 15 i = if 24 * y ≤ i ∧ i < 24 * y + n then bkF (q 10 i) (leftF q i) else q 15 i) ∧ (itF (st1 y) n q 16 i = if 24 * y ≤ i ∧ i < 24 * y + n then adF (q 10 i) (leftF q i) else q 16 i) ∧ (itF (st1 y) n q 17 i = if 24 * y ≤ i ∧ i < 24 * y + n then lvF (q 10 i) (leftF q i) else q 17 i)
  | 0, _, i => by
    rw [if_neg (by omega), if_neg (by omega), if_neg (by omega)]
    exact ⟨rfl, rfl, rfl⟩
  | n + 1, hn, i => by
    obtain ⟨h1, h2, h3⟩ := st_at (y := y) n (by omega) i
    have ek : ∀ k : Nat, k ≠ 15 → k ≠ 16 → k ≠ 17 → itF (st1 y) n q k = q k := fun k a b c => itF_k (fun i q => by unfold st1; rw [qv_n c, qv_n b, qv_n a]) n q
    have el : leftF (itF (st1 y) n q) (24 * y + n) = leftF q (24 * y + n) := by
      unfold leftF; rw [ek 10 (by decide) (by decide) (by decide), ek 11 (by decide) (by decide) (by decide), ek 12 (by decide) (by decide) (by decide), ek 13 (by decide) (by decide) (by decide), ek 14 (by decide) (by decide) (by decide)]
    have e10 := ek 10 (by decide) (by decide) (by decide)
    rw [itF_s]
    generalize itF (st1 y) n q = q1 at h1 h2 h3 el e10 ⊢
    have f15 : st1 y n q1 15 = upd (q1 15) (24 * y + n) (bkF (q1 10 (24 * y + n)) (leftF q1 (24 * y + n))) := rfl
    have f16 : st1 y n q1 16 = upd (q1 16) (24 * y + n) (adF (q1 10 (24 * y + n)) (leftF q1 (24 * y + n))) := rfl
    have f17 : st1 y n q1 17 = upd (q1 17) (24 * y + n) (ovF (leftF q1 (24 * y + n)) - upd (q1 16) (24 * y + n) (adF (q1 10 (24 * y + n)) (leftF q1 (24 * y + n))) (24 * y + n)) := rfl
    rw [f15, f16, f17, el, e10, pk_us]
    by_cases e : i = 24 * y + n
    · subst e
      rw [pk_us, pk_us, pk_us, if_pos (by omega), if_pos (by omega), if_pos (by omega)]
      exact ⟨rfl, rfl, rfl⟩
    · rw [pk_un e, pk_un e, pk_un e, h1, h2, h3]
      by_cases c : 24 * y ≤ i ∧ i < 24 * y + n
      · rw [if_pos c, if_pos c, if_pos c, if_pos (by omega), if_pos (by omega), if_pos (by omega)]
        exact ⟨rfl, rfl, rfl⟩
      · rw [if_neg c, if_neg c, if_neg c, if_neg (by omega), if_neg (by omega), if_neg (by omega)]
        exact ⟨rfl, rfl, rfl⟩
/-- what the work of the year t leaves as it is -/
def FrY (Q Q' : Nat → Nat → Int32) (t : Nat) : Prop := (∀ k : Nat, kpY k = true → Q' k = Q k) ∧ (∀ k j : Nat, 11 ≤ k → k ≤ 17 → (j < 24 * t ∨ 24 * t + 24 ≤ j) → Q' k j = Q k j) ∧ ∀ i : Nat, ¬ Q 22 i = nI t → Q' 29 i = Q 29 i
theorem yC_cn {n t : Nat} (ht1 : 1 ≤ t) (ht : t ≤ 8) (ho : ∀ i : Nat, i < n → evOK q i) (hz : opC q (nI t) = true → ∀ j : Nat, j < 24 → q 15 (24 * t + j) = 0 ∧ q 16 (24 * t + j) = 0 ∧ q 17 (24 * t + j) = 0) :
    CN (yC q n t) n t (!opC q (nI t)) ∧ FrY q (yC q n t) t ∧ (∀ v : Nat, v < 6 → yC q n t 18 (6 * t + v) = (ZF (yC q n t) t n).2.2 v) ∧ (∀ j : Nat, j < 6 * t ∨ 6 * t + 6 ≤ j → yC q n t 18 j = q 18 j) := by
  obtain ⟨b11, b14, b12, b13, b18⟩ := begC_at (q := q) (y := t)
  have bk : ∀ k : Nat, k ≠ 11 → k ≠ 12 → k ≠ 13 → k ≠ 14 → k ≠ 18 → begC q t k = q k := fun k a b c d e => begC_k a b c d e
  have hob : ∀ i : Nat, i < n → evOK (begC q t) i := fun i hi => evOK_eq (bk 21 (by decide) (by decide) (by decide) (by decide) (by decide)) (bk 22 (by decide) (by decide) (by decide) (by decide) (by decide)) (bk 23 (by decide) (by decide) (by decide) (by decide) (by decide)) (bk 24 (by decide) (by decide) (by decide) (by decide) (by decide)) (bk 25 (by decide) (by decide) (by decide) (by decide) (by decide)) (ho i hi)
  obtain ⟨w1, w2, w3⟩ := wyC_v (q := begC q t) ht n hob
  have wk : ∀ k : Nat, k ≠ 11 → k ≠ 14 → k ≠ 18 → k ≠ 29 → wyC (begC q t) t n k = begC q t k := fun k a b c d => wyC_k a b c d
  -- the year's state at its end: kd = what settle sets
  have key : ∀ f : Nat → Nat → Int32, (∀ k : Nat, k ≠ 15 → k ≠ 16 → k ≠ 17 → f k = wyC (begC q t) t n k) → (∀ k j : Nat, 15 ≤ k → k ≤ 17 → (j < 24 * t ∨ 24 * t + 24 ≤ j) → f k j = q k j) → (∀ j : Nat, j < 24 → clF f (!opC q (nI t)) (24 * t + j)) → CN f n t (!opC q (nI t)) ∧ FrY q f t ∧ (∀ v : Nat, v < 6 → f 18 (6 * t + v) = (ZF f t n).2.2 v) ∧ (∀ j : Nat, j < 6 * t ∨ 6 * t + 6 ≤ j → f 18 j = q 18 j) := by
    intro f fk fo fc
    have fb : ∀ k : Nat, k = 10 ∨ k = 12 ∨ k = 13 ∨ (21 ≤ k ∧ k ≤ 28) → f k = begC q t k := fun k hk => by rw [fk k (by omega) (by omega) (by omega), wk k (by omega) (by omega) (by omega) (by omega)]
    have hz0 : EqT (vwC (begC q t) t) (fun _ => 0, fun _ => 0, fun _ => 0) := by
      refine ⟨fun j hj => ?_, fun j hj => ?_, fun j hj => ?_⟩
      · show begC q t 11 (24 * t + j) = 0; rw [b11, if_pos (by omega)]
      · show begC q t 14 (24 * t + j) = 0; rw [b14, if_pos (by omega)]
      · show begC q t 18 (6 * t + j) = 0; rw [b18, if_pos (by omega)]
    have hZf : ∀ i : Nat, i ≤ n → EqT (ZR (begC q t) t i (vwC (begC q t) t)) (ZF f t i) := fun i hi => by
      refine EqT_t (ZR_c hz0 i (fun i' hi' => hob i' (by omega))) (ZF_c ⟨fun j hj => by rw [fb 10 (by omega)], fun j hj => by rw [fb 12 (by omega)], fun j hj => by rw [fb 13 (by omega)]⟩ i (fun i' hi' => ?_) (fun i' hi' => hob i' (by omega)))
      exact ⟨by rw [fb 21 (by omega)], by rw [fb 22 (by omega)], by rw [fb 23 (by omega)], by rw [fb 24 (by omega)], fun _ => by rw [fb 25 (by omega)], by rw [fb 26 (by omega)], by rw [fb 27 (by omega)], by rw [fb 28 (by omega)]⟩
    have f22 : f 22 = q 22 := by rw [fb 22 (by omega), bk 22 (by decide) (by decide) (by decide) (by decide) (by decide)]
    refine ⟨⟨fun j hj => ⟨?_, ?_⟩, fun j hj => ⟨?_, ?_⟩, fun i hi hy => ?_, fc⟩, ⟨fun k hk => ?_, fun k j k1 k2 hj => ?_, fun i hy => ?_⟩, fun v hv => ?_, fun j hj => ?_⟩
    · rw [fb 12 (by omega), b12, if_pos (by omega), fo 15 _ (by omega) (by omega) (by omega)]
    · rw [fb 13 (by omega), b13, if_pos (by omega), fo 16 _ (by omega) (by omega) (by omega)]
    · rw [fk 11 (by decide) (by decide) (by decide), ← (hZf n (Nat.le_refl _)).1 j hj, ← w1]; rfl
    · rw [fk 14 (by decide) (by decide) (by decide), ← (hZf n (Nat.le_refl _)).2.1 j hj, ← w1]; rfl
    · rw [fk 29 (by decide) (by decide) (by decide), w2 i, if_pos ⟨hi, by rw [← fb 22 (by omega)]; exact hy⟩]
      refine congrArg bI ?_
      rw [← evF_q (Q := begC q t) (Q' := f) fb]
      have hof : evOK f i := evOK_eq (fb 21 (by omega)) (fb 22 (by omega)) (fb 23 (by omega)) (fb 24 (by omega)) (fb 25 (by omega)) (hob i hi)
      exact (evF_c EqE_r ⟨Ef_r, Ef_r, Ef_r⟩ (hZf i (by omega)) hof).1
    · have hk' : k ≤ 10 ∨ (19 ≤ k ∧ k ≠ 29) := by simpa [kpY] using hk
      rw [fk k (by omega) (by omega) (by omega), wk k (by omega) (by omega) (by omega) (by omega), bk k (by omega) (by omega) (by omega) (by omega) (by omega)]
    · by_cases e : 15 ≤ k
      · exact fo k j e k2 hj
      · rw [fk k (by omega) (by omega) (by omega)]
        rcases (show k = 11 ∨ k = 12 ∨ k = 13 ∨ k = 14 by omega) with rfl | rfl | rfl | rfl
        · rw [w3 11 j (Or.inl ⟨Or.inl rfl, hj⟩), b11, if_neg (by omega)]
        · rw [wk 12 (by decide) (by decide) (by decide) (by decide), b12, if_neg (by omega)]
        · rw [wk 13 (by decide) (by decide) (by decide) (by decide), b13, if_neg (by omega)]
        · rw [w3 14 j (Or.inl ⟨Or.inr rfl, hj⟩), b14, if_neg (by omega)]
    · rw [fk 29 (by decide) (by decide) (by decide), w2 i, if_neg (fun h => hy (by rw [← bk 22 (by decide) (by decide) (by decide) (by decide) (by decide)]; exact h.2)), bk 29 (by decide) (by decide) (by decide) (by decide) (by decide)]
    · rw [fk 18 (by decide) (by decide) (by decide), ← (hZf n (Nat.le_refl _)).2.2 v hv, ← w1]; rfl
    · rw [fk 18 (by decide) (by decide) (by decide), w3 18 j (Or.inr ⟨rfl, hj⟩), b18, if_neg (by omega)]
  have eo : opC (wyC (begC q t) t n) (nI t) = opC q (nI t) := by
    unfold opC; rw [wk 0 (by decide) (by decide) (by decide) (by decide), bk 0 (by decide) (by decide) (by decide) (by decide) (by decide)]
  unfold yC
  rw [eo]
  by_cases c : opC q (nI t) = true
  · rw [if_pos c]
    refine key _ (fun _ _ _ _ => rfl) (fun k j k1 k2 _ => by rw [wk k (by omega) (by omega) (by omega) (by omega), bk k (by omega) (by omega) (by omega) (by omega) (by omega)]) (fun j hj => ?_)
    unfold clF
    rw [if_neg (by rw [c]; decide), wk 15 (by decide) (by decide) (by decide) (by decide), wk 16 (by decide) (by decide) (by decide) (by decide), wk 17 (by decide) (by decide) (by decide) (by decide), bk 15 (by decide) (by decide) (by decide) (by decide) (by decide), bk 16 (by decide) (by decide) (by decide) (by decide) (by decide), bk 17 (by decide) (by decide) (by decide) (by decide) (by decide)]
    exact hz c j hj
  · rw [if_neg c]
    have sk : ∀ k : Nat, k ≠ 15 → k ≠ 16 → k ≠ 17 → setC (wyC (begC q t) t n) t k = wyC (begC q t) t n k := fun k a b c => setC_k a b c
    refine key _ sk (fun k j k1 k2 hj => ?_) (fun j hj => ?_)
    · obtain ⟨s1, s2, s3⟩ := st_at (q := wyC (begC q t) t n) (y := t) 24 (Nat.le_refl _) j
      unfold setC
      rcases (show k = 15 ∨ k = 16 ∨ k = 17 by omega) with rfl | rfl | rfl
      · rw [s1, if_neg (by omega), wk 15 (by decide) (by decide) (by decide) (by decide), bk 15 (by decide) (by decide) (by decide) (by decide) (by decide)]
      · rw [s2, if_neg (by omega), wk 16 (by decide) (by decide) (by decide) (by decide), bk 16 (by decide) (by decide) (by decide) (by decide) (by decide)]
      · rw [s3, if_neg (by omega), wk 17 (by decide) (by decide) (by decide) (by decide), bk 17 (by decide) (by decide) (by decide) (by decide) (by decide)]
    · obtain ⟨s1, s2, s3⟩ := st_at (q := wyC (begC q t) t n) (y := t) 24 (Nat.le_refl _) (24 * t + j)
      have el : leftF (setC (wyC (begC q t) t n) t) (24 * t + j) = leftF (wyC (begC q t) t n) (24 * t + j) := by
        unfold leftF; rw [sk 10 (by decide) (by decide) (by decide), sk 11 (by decide) (by decide) (by decide), sk 12 (by decide) (by decide) (by decide), sk 13 (by decide) (by decide) (by decide), sk 14 (by decide) (by decide) (by decide)]
      unfold clF
      have c' : (!opC q (nI t)) = true := by simpa using c
      rw [if_pos c', el, sk 10 (by decide) (by decide) (by decide)]
      unfold setC
      rw [s1, s2, s3, if_pos (by omega), if_pos (by omega), if_pos (by omega)]
      exact ⟨rfl, rfl, rfl⟩
end CLY
