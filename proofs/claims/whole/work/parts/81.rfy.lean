/-! the reference's work of a year agrees with the tale -/
def toQ (p : Nat → Nat → Int32) : Nat → Nat → Int32 := fun k => if k ≤ 17 then p (k + 31) else if k ≤ 20 then (fun _ => 0) else p (k + 28)
section RFY
variable {p : Nat → Nat → Int32}
theorem movM_s {y v : Int32} {n : Nat} : movM p y v (n + 1) = if mvB p y v n = true then movM p y v n + p 54 n else movM p y v n := rfl
theorem movM_0 {y v : Int32} : movM p y v 0 = 0 := rfl
theorem movM_c {p' : Nat → Nat → Int32} {y v : Int32} : ∀ n : Nat, (∀ j : Nat, j < n → mvB p' y v j = mvB p y v j ∧ p' 54 j = p 54 j) → movM p' y v n = movM p y v n
  | 0, _ => by rw [movM_0, movM_0]
  | n + 1, h => by rw [movM_s, movM_s, movM_c n (fun j hj => h j (by omega)), (h n (by omega)).1, (h n (by omega)).2]
theorem sh_mv {c a b : Nat} {f : Nat → Int32} {x y : Int32} : sh c (mvG f (c + a) (c + b) x y) = mvG (sh c f) a b x y := by
  unfold mvG
  rw [sh_up, sh_up]
  rw [show upd f (c + a) (f (c + a) - x) (c + b) = sh c (upd f (c + a) (f (c + a) - x)) b from rfl, sh_up]
  rfl
def vwM (p : Nat → Nat → Int32) (t i : Nat) : TT := (sh (24 * t) (p 42), sh (24 * t) (p 45), fun v => movM p (nI t) (nI v) i)
theorem mayM_v {t i : Nat} (ht : t ≤ 8) (h : p 50 i = nI t) (hb : EvB (toQ p) i) : mayM p i = (evF (toQ p) t i (vwM p t i)).1 := by
  have ey : yr (eP p) i = t := by unfold yr; show (p 50 i).toNatClampNeg = t; rw [h]; exact nI_clamp (by omega)
  obtain ⟨-, -, k3, -⟩ := hb
  have k3 : p 49 i = 0 → p 55 i = p 54 i := k3
  unfold mayM kM kS
  rw [ey, Nat.add_assoc, Nat.add_assoc]
  show _ = (evG (sh (24 * t) (p 41)) (sh (24 * t) (p 43)) (sh (24 * t) (p 44)) (p 49 i) (vs (eP p) i) (sp (eP p) i) (ot (eP p) i) (p 54 i) (p 55 i) (p 56 i) (vwM p t i)).1
  unfold evG
  have el : ∀ k : Nat, leftM p (24 * t + k) = lfG (sh (24 * t) (p 41)) (sh (24 * t) (p 43)) (sh (24 * t) (p 44)) (vwM p t i) k := fun k => rfl
  by_cases c0 : p 49 i = 0
  · rw [if_pos c0, if_pos c0, el, k3 c0]
    split
    · rename_i h9; rw [decide_eq_true h9]
    · rename_i h9; rw [decide_eq_false h9]
  · rw [if_neg c0, if_neg c0]
    by_cases c1 : p 49 i = 1
    · rw [if_pos c1, if_pos c1]
      split
      · rename_i h9; rw [decide_eq_true h9]
      · rename_i h9; rw [decide_eq_false h9]
    · rw [if_neg c1, if_neg c1, el]
      show (decide (p 54 i ≤ (vwM p t i).2.1 (4 * vs (eP p) i + sp (eP p) i)) && (decide (p 55 i ≤ lfG (sh (24 * t) (p 41)) (sh (24 * t) (p 43)) (sh (24 * t) (p 44)) (vwM p t i) (4 * vs (eP p) i + ot (eP p) i)) && decide ((vwM p t i).2.2 (vs (eP p) i) + p 54 i ≤ 1000))) = _
      split
      · rename_i h9; rw [h9]
      · rename_i h9; simpa using h9
theorem mvB_c {p' : Nat → Nat → Int32} {y v : Int32} {j : Nat} (h : ∀ k : Nat, k = 49 ∨ k = 50 ∨ k = 51 ∨ k = 57 → p' k j = p k j) : mvB p' y v j = mvB p y v j := by
  unfold mvB; rw [h 49 (by omega), h 50 (by omega), h 51 (by omega), h 57 (by omega)]
theorem wk1_v {t i : Nat} (ht : t ≤ 8) (ho : evOK (eP p) i) (hb : EvB (toQ p) i) : EqT (vwM (wk1 t i p) t (i + 1)) (if p 50 i = nI t then (evF (toQ p) t i (vwM p t i)).2 else vwM p t i) ∧ (p 50 i = nI t → wk1 t i p 57 i = bI (evF (toQ p) t i (vwM p t i)).1) := by
  by_cases c : p 50 i = nI t
  case neg =>
    rw [if_neg c, show wk1 t i p = p from if_neg c]
    refine ⟨⟨Ef_r, Ef_r, fun v hv => ?_⟩, fun h => absurd h c⟩
    show movM p (nI t) (nI v) (i + 1) = movM p (nI t) (nI v) i
    rw [movM_s, if_neg (by unfold mvB; rw [decide_eq_false c]; simp)]
  case pos =>
    have hm := mayM_v ht c hb
    have ey : yr (eP p) i = t := by unfold yr; show (p 50 i).toNatClampNeg = t; rw [c]; exact nI_clamp (by omega)
    obtain ⟨-, -, o3, o4, -, o6, o7, o8⟩ := ho
    have o3 : p 51 i = nI (vs (eP p) i) := o3
    have o7 : p 49 i = 0 → p 53 i = nI (ot (eP p) i) ∧ ot (eP p) i < 6 := o7
    have o8 : ¬ p 49 i = 0 → ¬ p 49 i = 1 → p 53 i = nI (ot (eP p) i) ∧ ot (eP p) i < 4 := o8
    obtain ⟨-, -, k3, k4⟩ := hb
    have k3 : p 49 i = 0 → p 55 i = p 54 i := k3
    have k4 : p 49 i = 0 ∨ p 49 i = 1 ∨ p 49 i = 2 := k4
    rw [if_pos c]
    have hw : wk1 t i p = (if mayM p i = true then actM (qv p 57 i (bI (mayM p i))) i else qv p 57 i (bI (mayM p i))) := if_pos c
    have h57 : wk1 t i p 57 i = bI (mayM p i) := by
      rw [hw]; split
      · rw [actM_k (by decide) (by decide)]; exact pk_us
      · exact pk_us
    refine ⟨?_, fun _ => by rw [h57, hm]⟩
    -- what was moved before
    have hk : ∀ k : Nat, k ≠ 42 → k ≠ 45 → k ≠ 57 → wk1 t i p k = p k := fun k a b d => wk1_k a b d
    have hmv : ∀ v : Nat, movM (wk1 t i p) (nI t) (nI v) i = movM p (nI t) (nI v) i := fun v => by
      refine movM_c i fun j hj => ⟨mvB_c fun k hk' => ?_, by rw [hk 54 (by decide) (by decide) (by decide)]⟩
      by_cases e : k = 57
      · subst e
        rw [hw]
        split
        · rw [actM_k (by decide) (by decide)]; exact pk_un (by omega)
        · exact pk_un (by omega)
      · rw [hk k (by omega) (by omega) e]
    have hmB : ∀ v : Nat, mvB (wk1 t i p) (nI t) (nI v) i = (decide (p 49 i = 2) && (decide (nI (vs (eP p) i) = nI v) && mayM p i)) := fun v => by
      unfold mvB
      rw [hk 49 (by decide) (by decide) (by decide), hk 50 (by decide) (by decide) (by decide), hk 51 (by decide) (by decide) (by decide), h57, ntz_bI, c, o3]
      simp
    have hex : ∀ v : Nat, (vwM (wk1 t i p) t (i + 1)).2.2 v = if (decide (p 49 i = 2) && (decide (nI (vs (eP p) i) = nI v) && mayM p i)) = true then movM p (nI t) (nI v) i + p 54 i else movM p (nI t) (nI v) i := fun v => by
      show movM (wk1 t i p) (nI t) (nI v) (i + 1) = _
      rw [movM_s, hmB v, hmv v, hk 54 (by decide) (by decide) (by decide)]
    -- the cells that act writes
    show EqT _ (evG (sh (24 * t) (p 41)) (sh (24 * t) (p 43)) (sh (24 * t) (p 44)) (p 49 i) (vs (eP p) i) (sp (eP p) i) (ot (eP p) i) (p 54 i) (p 55 i) (p 56 i) (vwM p t i)).2
    have hm : mayM p i = (evG (sh (24 * t) (p 41)) (sh (24 * t) (p 43)) (sh (24 * t) (p 44)) (p 49 i) (vs (eP p) i) (sp (eP p) i) (ot (eP p) i) (p 54 i) (p 55 i) (p 56 i) (vwM p t i)).1 := hm
    cases hc : mayM p i with
    | false =>
      have e2 : (evG (sh (24 * t) (p 41)) (sh (24 * t) (p 43)) (sh (24 * t) (p 44)) (p 49 i) (vs (eP p) i) (sp (eP p) i) (ot (eP p) i) (p 54 i) (p 55 i) (p 56 i) (vwM p t i)).2 = vwM p t i := by
        rw [hc] at hm
        revert hm
        unfold evG
        split
        · split
          · intro h; cases h
          · intro _; rfl
        · split
          · split
            · intro h; cases h
            · intro _; rfl
          · split
            · intro h; cases h
            · intro _; rfl
      rw [e2]
      have hw2 : wk1 t i p = qv p 57 i (bI false) := by rw [hw, hc]; rfl
      refine ⟨fun j hj => ?_, fun j hj => ?_, fun v hv => ?_⟩
      · show wk1 t i p 42 (24 * t + j) = p 42 (24 * t + j); rw [hw2]; rfl
      · show wk1 t i p 45 (24 * t + j) = p 45 (24 * t + j); rw [hw2]; rfl
      · rw [hex v, hc]; simp [vwM]
    | true =>
      have hw2 : wk1 t i p = actM (qv p 57 i (bI true)) i := by rw [hw, hc]; rfl
      have ey' : yr (eP (qv p 57 i (bI true))) i = t := ey
      rw [hc] at hm
      revert hm
      unfold evG
      by_cases c0 : p 49 i = 0
      · rw [if_pos c0]
        split
        · intro _
          refine ⟨fun j hj => ?_, fun j hj => ?_, fun v hv => ?_⟩
          · show wk1 t i p 42 (24 * t + j) = mvG (sh (24 * t) (p 42)) (4 * vs (eP p) i + sp (eP p) i) (4 * ot (eP p) i + sp (eP p) i) (p 55 i) (p 55 i) j
            rw [hw2, show actM (qv p 57 i (bI true)) i = _ from if_pos c0]
            show mvG (p 42) (24 * yr (eP p) i + 4 * vs (eP p) i + sp (eP p) i) (24 * yr (eP p) i + 4 * ot (eP p) i + sp (eP p) i) (p 54 i) (p 54 i) (24 * t + j) = _
            rw [ey, k3 c0, Nat.add_assoc, Nat.add_assoc]
            exact congrFun (sh_mv (c := 24 * t) (f := p 42)) j
          · show wk1 t i p 45 (24 * t + j) = p 45 (24 * t + j)
            rw [hw2, show actM (qv p 57 i (bI true)) i = _ from if_pos c0]
            rfl
          · rw [hex v, hc, c0]; rfl
        · intro h; cases h
      · rw [if_neg c0]
        by_cases c1 : p 49 i = 1
        · rw [if_pos c1]
          split
          · intro _
            refine ⟨fun j hj => ?_, fun j hj => ?_, fun v hv => ?_⟩
            · show wk1 t i p 42 (24 * t + j) = p 42 (24 * t + j)
              rw [hw2, show actM (qv p 57 i (bI true)) i = _ from (if_neg c0).trans (if_pos c1)]
              rfl
            · show wk1 t i p 45 (24 * t + j) = upd (sh (24 * t) (p 45)) (4 * vs (eP p) i + sp (eP p) i) (p 45 (24 * t + (4 * vs (eP p) i + sp (eP p) i)) + p 55 i) j
              rw [hw2, show actM (qv p 57 i (bI true)) i = _ from (if_neg c0).trans (if_pos c1)]
              show upd (p 45) (24 * yr (eP p) i + 4 * vs (eP p) i + sp (eP p) i) (p 45 (24 * yr (eP p) i + 4 * vs (eP p) i + sp (eP p) i) + p 55 i) (24 * t + j) = _
              rw [ey, Nat.add_assoc]
              exact congrFun (sh_up (c := 24 * t) (f := p 45)) j
            · rw [hex v, hc, c1]; rfl
          · intro h; cases h
        · have c2 : p 49 i = 2 := (k4.resolve_left c0).resolve_left c1
          rw [if_neg c1]
          split
          · intro _
            refine ⟨fun j hj => ?_, fun j hj => ?_, fun v hv => ?_⟩
            · show wk1 t i p 42 (24 * t + j) = p 42 (24 * t + j)
              rw [hw2, show actM (qv p 57 i (bI true)) i = _ from (if_neg c0).trans (if_neg c1)]
              rfl
            · show wk1 t i p 45 (24 * t + j) = mvG (sh (24 * t) (p 45)) (4 * vs (eP p) i + sp (eP p) i) (4 * vs (eP p) i + ot (eP p) i) (p 54 i) (p 55 i) j
              rw [hw2, show actM (qv p 57 i (bI true)) i = _ from (if_neg c0).trans (if_neg c1)]
              show mvG (p 45) (24 * yr (eP p) i + 4 * vs (eP p) i + sp (eP p) i) (24 * yr (eP p) i + 4 * vs (eP p) i + ot (eP p) i) (p 54 i) (p 55 i) (24 * t + j) = _
              rw [ey, Nat.add_assoc, Nat.add_assoc]
              exact congrFun (sh_mv (c := 24 * t) (f := p 45)) j
            · rw [hex v, hc, c2]
              show _ = upd (fun v => movM p (nI t) (nI v) i) (vs (eP p) i) (movM p (nI t) (nI (vs (eP p) i)) i + p 54 i) v
              by_cases e : v = vs (eP p) i
              · rw [← e, pk_us]; simp
              · rw [pk_un e, if_neg]
                have : ¬ nI (vs (eP p) i) = nI v := fun h => e ((nI_inj (by omega) (by omega)).mp h).symm
                simp [this]
          · intro h; cases h
end RFY
