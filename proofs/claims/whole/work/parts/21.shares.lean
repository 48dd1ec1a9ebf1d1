theorem ax_get_of {ls : Array Slot} {n m : Nat} {ad : Nat → Nat} {lv : ax_V} (h : lv_has ls n (lv.map (ax_rq ad))) (hk : ax_lok m lv) : ∀ lv' : ax_V, (∀ q ∈ lv', ax_get lv q.1 = some q.2) → lv_has ls n (lv'.map (ax_rq ad)) ∧ ax_lok m lv' := by
  intro lv' hs
  refine ⟨⟨h.1, h.2.1, fun q hq => ?_⟩, ?_⟩
  · obtain ⟨q', hq', e⟩ := List.mem_map.mp hq
    rw [← e]
    exact ax_ls h (hs q' hq')
  · induction lv' with
    | nil => trivial
    | cons q r ih => exact ⟨ax_lok_get hk (hs q List.mem_cons_self), ih fun z hz => hs z (List.mem_cons_of_mem _ hz)⟩
def ax_has (lv : ax_V) : ax_V → Prop
  | [] => True
  | q :: r => ax_get lv q.1 = some q.2 ∧ ax_has lv r
theorem ax_has_mem {lv : ax_V} : ∀ {lv' : ax_V}, ax_has lv lv' → ∀ q ∈ lv', ax_get lv q.1 = some q.2
  | [], _, q, hq => by cases hq
  | x :: r, h, q, hq => by
    rcases List.mem_cons.mp hq with e | e
    · rw [e]; exact h.1
    · exact ax_has_mem h.2 q e
/-- fewer locals, in another order -/
theorem ax_lvs {G : ax_G} {M : ax_M} {d nc ns pc : Nat} {lv : ax_V} {st : List Value} {w : ax_W} {o : ax_O} (lv' : ax_V) (h : ax_has lv lv') (k : ax_Ex G M d nc ns pc lv' st w o) : ax_Ex G M d nc ns pc lv st w o := by
  intro hG p e R s m args below meth c H locs cells slots mc ms n0 ad ad0 ls hC hR hH hl hs
  exact k hG p e R s m args below meth c H locs cells slots mc ms n0 ad ad0 ls hC hR hH (ax_get_of hl.1 hl.2 lv' (ax_has_mem h)) hs
theorem ax_lvk {G : ax_G} {M : ax_M} {d nc ns pc : Nat} {lv lv' : ax_V} {st : List Value} {w : ax_W} {o : ax_O} (k : ax_Ex G M d nc ns pc lv' st w o) (h : ax_has lv lv') : ax_Ex G M d nc ns pc lv st w o := ax_lvs lv' h k
theorem gI {x y : Int32} (h : x = y) : some (Value.int x) = some (Value.int y) := by rw [h]
def itF {α : Type} (f : Nat → α → α) : Nat → α → α
  | 0, a => a
  | n + 1, a => f n (itF f n a)
theorem itF_s {α : Type} {f : Nat → α → α} {n : Nat} {a : α} : itF f (n + 1) a = f n (itF f n a) := rfl
theorem itF_0 {α : Type} {f : Nat → α → α} {a : α} : itF f 0 a = a := rfl
/-! shares -/
abbrev bt (o : Nat) : Int32 := (1 : Int32) <<< (nI o &&& 31)
/-- the parts of those owners whose bit the mask has -/
def sumC (q : Nat → Nat → Int32) (s : Nat) (m : Int32) (n : Nat) : Int32 := itF (fun o a => if m &&& bt o = 0 then a else a + q 7 (6 * s + o)) n 0
def freeC (pt ow pl : Nat → Int32) (s : Nat) (o : Int32) (x : Int32) (n : Nat) : Int32 := itF (fun v a => if ow v = o then a - pl (6 * s + v) else a) n x
def rdC (lk : Nat → Int32) (n : Nat) (g : Int32) : Int32 := itF (fun o g => if g &&& bt o = 0 then g else g ||| lk o) n g
def grC (lk : Nat → Int32) (o n : Nat) : Int32 := itF (fun _ g => rdC lk 6 g) n (bt o)
abbrev grpC (lk : Nat → Int32) (o : Nat) : Int32 := grC lk o 5
section SHARES
variable {G : ax_G} {d : Nat} {q : Nat → Nat → Int32} {r : ax_W}
theorem s_partsOfGroup (hd : 1 ≤ d) (s : Nat) (m : Int32) (hs : s < 4) : ax_Met G M_X2_partsOfGroup d 0 0 [.ref 3, .int (nI s), .int m] (wQ q ++ r) (.inl (some (.int (sumC q s m 6))), wQ q ++ r) := by
  refine ax_of rfl (by decide) (Nat.le_of_ble_eq_true rfl) ?_
  refine ax_iconst (v := 0) 1 dX2_partsOfGroup_0 rfl (by decide) ?_
  refine ax_istore_n 3 2 dX2_partsOfGroup_1 rfl rfl (Nat.le_of_ble_eq_true rfl) ?_
  refine ax_iconst (v := 0) 3 dX2_partsOfGroup_2 rfl (by decide) ?_
  refine ax_istore 5 dX2_partsOfGroup_3 rfl (Nat.le_of_ble_eq_true rfl) ?_
  refine ax_lvk (ax_down (P := fun i => ax_Ex G M_X2_partsOfGroup d 0 0 5 [(0, .ref 3), (1, .int (nI s)), (2, .int m), (3, .int (sumC q s m i)), (4, .int (nI i))] [] (wQ q ++ r) (.inl (some (.int (sumC q s m 6))), wQ q ++ r)) (n := 6) ?_ (fun i hi ih => ?_) 0 (Nat.zero_le _)) ⟨rfl, rfl, rfl, rfl, rfl, trivial⟩
  · refine ax_iload 7 dX2_partsOfGroup_5 rfl rfl ?_
    refine ax_bipush (v := 6) 9 dX2_partsOfGroup_7 rfl (by decide) ?_
    refine ax_icmp_ge 37 12 dX2_partsOfGroup_9 (by decide) rfl (fun c => ?_) (fun c => ?_)
    · refine ax_iload_n 3 38 dX2_partsOfGroup_37 rfl rfl rfl ?_
      exact ax_iret dX2_partsOfGroup_38 rfl rfl
    · exact absurd (by decide) c
  · refine ax_iload 7 dX2_partsOfGroup_5 rfl rfl ?_
    refine ax_bipush (v := 6) 9 dX2_partsOfGroup_7 rfl (by decide) ?_
    refine ax_icmp_ge 37 12 dX2_partsOfGroup_9 (by decide) rfl (fun c => ?_) (fun c => ?_)
    · exact absurd c (nI_ge hi (by decide))
    · refine ax_iload_n 2 13 dX2_partsOfGroup_12 rfl rfl rfl ?_
      refine ax_iconst (v := 1) 14 dX2_partsOfGroup_13 rfl (by decide) ?_
      refine ax_iload 16 dX2_partsOfGroup_14 rfl rfl ?_
      refine ax_ishl 17 dX2_partsOfGroup_16 rfl ?_
      refine ax_iand 18 dX2_partsOfGroup_17 rfl ?_
      refine ax_if_eq 31 21 dX2_partsOfGroup_18 (by decide) rfl (fun c2 => ?_) (fun c2 => ?_)
      · refine ax_iinc (v := (_ : Int32) + 1) 34 dX2_partsOfGroup_31 rfl rfl rfl (Nat.le_of_ble_eq_true rfl) ?_
        refine ax_goto 5 dX2_partsOfGroup_34 (by decide) ?_
        exact ax_lvk ih ⟨rfl, rfl, rfl, gI (by simp only [sumC, itF_s]; rw [if_pos c2]), gI (nI_1 i), trivial⟩
      · refine ax_iload_n 3 22 dX2_partsOfGroup_21 rfl rfl rfl ?_
        refine ax_aload_n 0 23 dX2_partsOfGroup_22 rfl rfl rfl ?_
        refine ax_iload_n 1 24 dX2_partsOfGroup_23 rfl rfl rfl ?_
        refine ax_iload 26 dX2_partsOfGroup_24 rfl rfl ?_
        refine ax_cV 29 dX2_partsOfGroup_26 rfl ml_X2_38 (s_partsOf (d := d - 1) s i hs hi) rfl (by omega) rfl rfl (Nat.le_of_ble_eq_true rfl) ?_
        refine ax_iadd 30 dX2_partsOfGroup_29 rfl ?_
        refine ax_istore_n 3 31 dX2_partsOfGroup_30 rfl rfl (Nat.le_of_ble_eq_true rfl) ?_
        refine ax_iinc (v := (_ : Int32) + 1) 34 dX2_partsOfGroup_31 rfl rfl rfl (Nat.le_of_ble_eq_true rfl) ?_
        refine ax_goto 5 dX2_partsOfGroup_34 (by decide) ?_
        exact ax_lvk ih ⟨rfl, rfl, rfl, gI (by simp only [sumC, itF_s]; rw [if_neg c2]), gI (nI_1 i), trivial⟩
theorem s_freeParts (hd : 1 ≤ d) (s : Nat) (o : Nat) (hs : s < 4) (ho : o < 6) : ax_Met G M_X2_freeParts d 0 0 [.ref 3, .int (nI s), .int (nI o)] (wQ q ++ r) (.inl (some (.int (freeC (q 7) (q 6) (q 8) s (nI o) (q 7 (6 * s + o)) 6))), wQ q ++ r) := by
  refine ax_of rfl (by decide) (Nat.le_of_ble_eq_true rfl) ?_
  refine ax_aload_n 0 1 dX2_freeParts_0 rfl rfl rfl ?_
  refine ax_iload_n 1 2 dX2_freeParts_1 rfl rfl rfl ?_
  refine ax_iload_n 2 3 dX2_freeParts_2 rfl rfl rfl ?_
  refine ax_cV 6 dX2_freeParts_3 rfl ml_X2_38 (s_partsOf (d := d - 1) s o hs ho) rfl (by omega) rfl rfl (Nat.le_of_ble_eq_true rfl) ?_
  refine ax_istore_n 3 7 dX2_freeParts_6 rfl rfl (Nat.le_of_ble_eq_true rfl) ?_
  refine ax_iconst (v := 0) 8 dX2_freeParts_7 rfl (by decide) ?_
  refine ax_istore 10 dX2_freeParts_8 rfl (Nat.le_of_ble_eq_true rfl) ?_
  refine ax_lvk (ax_down (P := fun i => ax_Ex G M_X2_freeParts d 0 0 10 [(0, .ref 3), (1, .int (nI s)), (2, .int (nI o)), (3, .int (freeC (q 7) (q 6) (q 8) s (nI o) (q 7 (6 * s + o)) i)), (4, .int (nI i))] [] (wQ q ++ r) (.inl (some (.int (freeC (q 7) (q 6) (q 8) s (nI o) (q 7 (6 * s + o)) 6))), wQ q ++ r)) (n := 6) ?_ (fun i hi ih => ?_) 0 (Nat.zero_le _)) ⟨rfl, rfl, rfl, rfl, rfl, trivial⟩
  · refine ax_iload 12 dX2_freeParts_10 rfl rfl ?_
    refine ax_bipush (v := 6) 14 dX2_freeParts_12 rfl (by decide) ?_
    refine ax_icmp_ge 44 17 dX2_freeParts_14 (by decide) rfl (fun c => ?_) (fun c => ?_)
    · refine ax_iload_n 3 45 dX2_freeParts_44 rfl rfl rfl ?_
      exact ax_iret dX2_freeParts_45 rfl rfl
    · exact absurd (by decide) c
  · refine ax_iload 12 dX2_freeParts_10 rfl rfl ?_
    refine ax_bipush (v := 6) 14 dX2_freeParts_12 rfl (by decide) ?_
    refine ax_icmp_ge 44 17 dX2_freeParts_14 (by decide) rfl (fun c => ?_) (fun c => ?_)
    · exact absurd c (nI_ge hi (by decide))
    · refine ax_aload_n 0 18 dX2_freeParts_17 rfl rfl rfl ?_
      refine ax_getf 21 dX2_freeParts_18 rfl fl_X2_18 rfl rfl ?_
      refine ax_iload 23 dX2_freeParts_21 rfl rfl ?_
      refine ax_ialdN 24 dX2_freeParts_23 rfl rfl rfl (by omega) (by decide) ?_
      refine ax_iload_n 2 25 dX2_freeParts_24 rfl rfl rfl ?_
      refine ax_icmp_ne 38 28 dX2_freeParts_25 (by decide) rfl (fun c2 => ?_) (fun c2 => ?_)
      · refine ax_iinc (v := (_ : Int32) + 1) 41 dX2_freeParts_38 rfl rfl rfl (Nat.le_of_ble_eq_true rfl) ?_
        refine ax_goto 10 dX2_freeParts_41 (by decide) ?_
        exact ax_lvk ih ⟨rfl, rfl, rfl, gI (by simp only [freeC, itF_s]; rw [if_neg c2]), gI (nI_1 i), trivial⟩
      · refine ax_iload_n 3 29 dX2_freeParts_28 rfl rfl rfl ?_
        refine ax_aload_n 0 30 dX2_freeParts_29 rfl rfl rfl ?_
        refine ax_iload_n 1 31 dX2_freeParts_30 rfl rfl rfl ?_
        refine ax_iload 33 dX2_freeParts_31 rfl rfl ?_
        refine ax_cV 36 dX2_freeParts_33 rfl ml_X2_45 (s_placedOn (d := d - 1) s i hs hi) rfl (by omega) rfl rfl (Nat.le_of_ble_eq_true rfl) ?_
        refine ax_isub 37 dX2_freeParts_36 rfl ?_
        refine ax_istore_n 3 38 dX2_freeParts_37 rfl rfl (Nat.le_of_ble_eq_true rfl) ?_
        refine ax_iinc (v := (_ : Int32) + 1) 41 dX2_freeParts_38 rfl rfl rfl (Nat.le_of_ble_eq_true rfl) ?_
        refine ax_goto 10 dX2_freeParts_41 (by decide) ?_
        exact ax_lvk ih ⟨rfl, rfl, rfl, gI (by simp only [freeC, itF_s]; rw [if_pos c2]), gI (nI_1 i), trivial⟩
theorem s_groupOf (o : Nat) (ho : o < 6) : ax_Met G M_X2_groupOf d 0 0 [.ref 3, .int (nI o)] (wQ q ++ r) (.inl (some (.int (grpC (q 5) o))), wQ q ++ r) := by
  refine ax_of rfl (by decide) (Nat.le_of_ble_eq_true rfl) ?_
  refine ax_iconst (v := 1) 1 dX2_groupOf_0 rfl (by decide) ?_
  refine ax_iload_n 1 2 dX2_groupOf_1 rfl rfl rfl ?_
  refine ax_ishl 3 dX2_groupOf_2 rfl ?_
  refine ax_istore_n 2 4 dX2_groupOf_3 rfl rfl (Nat.le_of_ble_eq_true rfl) ?_
  refine ax_iconst (v := 1) 5 dX2_groupOf_4 rfl (by decide) ?_
  refine ax_istore_n 3 6 dX2_groupOf_5 rfl rfl (Nat.le_of_ble_eq_true rfl) ?_
  refine ax_lvk (ax_down (P := fun j => ax_Ex G M_X2_groupOf d 0 0 6 [(0, .ref 3), (1, .int (nI o)), (2, .int (grC (q 5) o j)), (3, .int (nI (j + 1)))] [] (wQ q ++ r) (.inl (some (.int (grpC (q 5) o))), wQ q ++ r)) (n := 5) ?_ (fun j hj jh => ?_) 0 (Nat.zero_le _)) ⟨rfl, rfl, rfl, rfl, trivial⟩
  · refine ax_iload_n 3 7 dX2_groupOf_6 rfl rfl rfl ?_
    refine ax_bipush (v := 6) 9 dX2_groupOf_7 rfl (by decide) ?_
    refine ax_icmp_ge 53 12 dX2_groupOf_9 (by decide) rfl (fun c => ?_) (fun c => ?_)
    · refine ax_iload_n 2 54 dX2_groupOf_53 rfl rfl rfl ?_
      exact ax_iret dX2_groupOf_54 rfl rfl
    · exact absurd (by decide) c
  · refine ax_iload_n 3 7 dX2_groupOf_6 rfl rfl rfl ?_
    refine ax_bipush (v := 6) 9 dX2_groupOf_7 rfl (by decide) ?_
    refine ax_icmp_ge 53 12 dX2_groupOf_9 (by decide) rfl (fun c => ?_) (fun c => ?_)
    · exact absurd c (nI_ge (a := j + 1) (b := 6) (by omega) (by decide))
    · refine ax_iconst (v := 0) 13 dX2_groupOf_12 rfl (by decide) ?_
      refine ax_istore 15 dX2_groupOf_13 rfl (Nat.le_of_ble_eq_true rfl) ?_
      refine ax_lvk (ax_down (P := fun i => ax_Ex G M_X2_groupOf d 0 0 15 [(0, .ref 3), (1, .int (nI o)), (2, .int (rdC (q 5) i (grC (q 5) o j))), (3, .int (nI (j + 1))), (4, .int (nI i))] [] (wQ q ++ r) (.inl (some (.int (grpC (q 5) o))), wQ q ++ r)) (n := 6) ?_ (fun i hi ih => ?_) 0 (Nat.zero_le _)) ⟨rfl, rfl, rfl, rfl, rfl, trivial⟩
      · refine ax_iload 17 dX2_groupOf_15 rfl rfl ?_
        refine ax_bipush (v := 6) 19 dX2_groupOf_17 rfl (by decide) ?_
        refine ax_icmp_ge 47 22 dX2_groupOf_19 (by decide) rfl (fun c3 => ?_) (fun c3 => ?_)
        · refine ax_iinc (v := (_ : Int32) + 1) 50 dX2_groupOf_47 rfl rfl rfl (Nat.le_of_ble_eq_true rfl) ?_
          refine ax_goto 6 dX2_groupOf_50 (by decide) ?_
          exact ax_lvk jh ⟨rfl, rfl, rfl, gI (nI_1 (j + 1)), trivial⟩
        · exact absurd (by decide) c3
      · refine ax_iload 17 dX2_groupOf_15 rfl rfl ?_
        refine ax_bipush (v := 6) 19 dX2_groupOf_17 rfl (by decide) ?_
        refine ax_icmp_ge 47 22 dX2_groupOf_19 (by decide) rfl (fun c3 => ?_) (fun c3 => ?_)
        · exact absurd c3 (nI_ge hi (by decide))
        · refine ax_iload_n 2 23 dX2_groupOf_22 rfl rfl rfl ?_
          refine ax_iconst (v := 1) 24 dX2_groupOf_23 rfl (by decide) ?_
          refine ax_iload 26 dX2_groupOf_24 rfl rfl ?_
          refine ax_ishl 27 dX2_groupOf_26 rfl ?_
          refine ax_iand 28 dX2_groupOf_27 rfl ?_
          refine ax_if_eq 41 31 dX2_groupOf_28 (by decide) rfl (fun c2 => ?_) (fun c2 => ?_)
          · refine ax_iinc (v := (_ : Int32) + 1) 44 dX2_groupOf_41 rfl rfl rfl (Nat.le_of_ble_eq_true rfl) ?_
            refine ax_goto 15 dX2_groupOf_44 (by decide) ?_
            exact ax_lvk ih ⟨rfl, rfl, gI (by simp only [rdC, itF_s] at c2 ⊢; rw [if_pos c2]), rfl, gI (nI_1 i), trivial⟩
          · refine ax_iload_n 2 32 dX2_groupOf_31 rfl rfl rfl ?_
            refine ax_aload_n 0 33 dX2_groupOf_32 rfl rfl rfl ?_
            refine ax_getf 36 dX2_groupOf_33 rfl fl_X2_15 rfl rfl ?_
            refine ax_iload 38 dX2_groupOf_36 rfl rfl ?_
            refine ax_ialdN 39 dX2_groupOf_38 rfl rfl rfl (by omega) (by decide) ?_
            refine ax_ior 40 dX2_groupOf_39 rfl ?_
            refine ax_istore_n 2 41 dX2_groupOf_40 rfl rfl (Nat.le_of_ble_eq_true rfl) ?_
            refine ax_iinc (v := (_ : Int32) + 1) 44 dX2_groupOf_41 rfl rfl rfl (Nat.le_of_ble_eq_true rfl) ?_
            refine ax_goto 15 dX2_groupOf_44 (by decide) ?_
            exact ax_lvk ih ⟨rfl, rfl, gI (by simp only [rdC, itF_s] at c2 ⊢; rw [if_neg c2]), rfl, gI (nI_1 i), trivial⟩
end SHARES
def anyF (f : Nat → Bool) : Nat → Bool
  | 0 => false
  | n + 1 => anyF f n || f n
theorem anyF_t {f : Nat → Bool} : ∀ {n i : Nat}, i < n → f i = true → anyF f n = true
  | 0, i, h, _ => absurd h (Nat.not_lt_zero _)
  | n + 1, i, h, hf => by
    by_cases e : i = n
    · subst e; simp [anyF, hf]
    · simp [anyF, anyF_t (show i < n by omega) hf]
theorem anyF_s {f : Nat → Bool} {n : Nat} (h : anyF f n = false) (h2 : f n = false) : anyF f (n + 1) = false := by simp [anyF, h, h2]
def moreC (q : Nat → Nat → Int32) (s : Nat) (cap : Int32) (o : Nat) : Bool := decide (cap < sumC q s (grpC (q 5) o) 6)
def joinC (q : Nat → Nat → Int32) (g : Int32) (s : Nat) : Bool := decide (q 4 s < sumC q s g 6)
def ntz (x : Int32) : Bool := !decide (x = 0)
theorem ntz_t {x : Int32} (h : ¬ x = 0) : ntz x = true := by simp [ntz, h]
theorem ntz_f {x : Int32} (h : x = 0) : ntz x = false := by simp [ntz, h]
section SHARES2
variable {G : ax_G} {d : Nat} {q : Nat → Nat → Int32} {r : ax_W}
theorem s_carriesParts (hd : 1 ≤ d) (v : Nat) (hv : v < 6) : ax_Met G M_X2_carriesParts d 0 0 [.ref 3, .int (nI v)] (wQ q ++ r) (.inl (some (.int (bI (anyF (fun s => decide (0 < q 8 (6 * s + v))) 4)))), wQ q ++ r) := by
  refine ax_of rfl (by decide) (Nat.le_of_ble_eq_true rfl) ?_
  refine ax_iconst (v := 0) 1 dX2_carriesParts_0 rfl (by decide) ?_
  refine ax_istore_n 2 2 dX2_carriesParts_1 rfl rfl (Nat.le_of_ble_eq_true rfl) ?_
  refine ax_lvk (ax_down (P := fun i => anyF (fun s => decide (0 < q 8 (6 * s + v))) i = false → ax_Ex G M_X2_carriesParts d 0 0 2 [(0, .ref 3), (1, .int (nI v)), (2, .int (nI i))] [] (wQ q ++ r) (.inl (some (.int (bI (anyF (fun s => decide (0 < q 8 (6 * s + v))) 4)))), wQ q ++ r)) (n := 4) (fun hf => ?_) (fun i hi ih hf => ?_) 0 (Nat.zero_le _) rfl) ⟨rfl, rfl, rfl, trivial⟩
  · rw [hf]
    refine ax_iload_n 2 3 dX2_carriesParts_2 rfl rfl rfl ?_
    refine ax_iconst (v := 4) 4 dX2_carriesParts_3 rfl (by decide) ?_
    refine ax_icmp_ge 24 7 dX2_carriesParts_4 (by decide) rfl (fun c => ?_) (fun c => ?_)
    · refine ax_iconst (v := 0) 25 dX2_carriesParts_24 rfl (by decide) ?_
      exact ax_zret dX2_carriesParts_25 rfl (by decide) rfl
    · exact absurd (by decide) c
  · refine ax_iload_n 2 3 dX2_carriesParts_2 rfl rfl rfl ?_
    refine ax_iconst (v := 4) 4 dX2_carriesParts_3 rfl (by decide) ?_
    refine ax_icmp_ge 24 7 dX2_carriesParts_4 (by decide) rfl (fun c => ?_) (fun c => ?_)
    · exact absurd c (nI_ge hi (by decide))
    · refine ax_aload_n 0 8 dX2_carriesParts_7 rfl rfl rfl ?_
      refine ax_iload_n 2 9 dX2_carriesParts_8 rfl rfl rfl ?_
      refine ax_iload_n 1 10 dX2_carriesParts_9 rfl rfl rfl ?_
      refine ax_cV 13 dX2_carriesParts_10 rfl ml_X2_45 (s_placedOn (d := d - 1) i v hi hv) rfl (by omega) rfl rfl (Nat.le_of_ble_eq_true rfl) ?_
      refine ax_if_le 18 16 dX2_carriesParts_13 (by decide) rfl (fun c2 => ?_) (fun c2 => ?_)
      · refine ax_iinc (v := (_ : Int32) + 1) 21 dX2_carriesParts_18 rfl rfl rfl (Nat.le_of_ble_eq_true rfl) ?_
        refine ax_goto 2 dX2_carriesParts_21 (by decide) ?_
        exact ax_lvk (ih (anyF_s hf (by simp [Int32.not_lt.mpr c2]))) ⟨rfl, rfl, gI (nI_1 i), trivial⟩
      · rw [anyF_t hi (by simp [Int32.not_le.mp c2])]
        refine ax_iconst (v := 1) 17 dX2_carriesParts_16 rfl (by decide) ?_
        exact ax_zret dX2_carriesParts_17 rfl (by decide) rfl
theorem s_partsInAll (hd : 2 ≤ d) (s : Nat) (hs : s < 4) : ax_Met G M_X2_partsInAll d 0 0 [.ref 3, .int (nI s)] (wQ q ++ r) (.inl (some (.int (sumC q s 63 6))), wQ q ++ r) := by
  refine ax_of rfl (by decide) (Nat.le_of_ble_eq_true rfl) ?_
  refine ax_aload_n 0 1 dX2_partsInAll_0 rfl rfl rfl ?_
  refine ax_iload_n 1 2 dX2_partsInAll_1 rfl rfl rfl ?_
  refine ax_bipush (v := 63) 4 dX2_partsInAll_2 rfl (by decide) ?_
  refine ax_cV 7 dX2_partsInAll_4 rfl ml_X2_42 (s_partsOfGroup (d := d - 1) (by omega) s 63 hs) rfl (by omega) rfl rfl (Nat.le_of_ble_eq_true rfl) ?_
  exact ax_iret dX2_partsInAll_7 rfl rfl
theorem s_areJoined (a b : Nat) (ha : a < 6) : ax_Met G M_X2_areJoined d 0 0 [.ref 3, .int (nI a), .int (nI b)] (wQ q ++ r) (.inl (some (.int (bI (ntz (q 5 a &&& bt b))))), wQ q ++ r) := by
  refine ax_of rfl (by decide) (Nat.le_of_ble_eq_true rfl) ?_
  refine ax_aload_n 0 1 dX2_areJoined_0 rfl rfl rfl ?_
  refine ax_getf 4 dX2_areJoined_1 rfl fl_X2_15 rfl rfl ?_
  refine ax_iload_n 1 5 dX2_areJoined_4 rfl rfl rfl ?_
  refine ax_ialdN 6 dX2_areJoined_5 rfl rfl rfl (by omega) (by decide) ?_
  refine ax_iconst (v := 1) 7 dX2_areJoined_6 rfl (by decide) ?_
  refine ax_iload_n 2 8 dX2_areJoined_7 rfl rfl rfl ?_
  refine ax_ishl 9 dX2_areJoined_8 rfl ?_
  refine ax_iand 10 dX2_areJoined_9 rfl ?_
  refine ax_if_eq 17 13 dX2_areJoined_10 (by decide) rfl (fun c => ?_) (fun c => ?_)
  · rw [ntz_f c]
    refine ax_iconst (v := 0) 18 dX2_areJoined_17 rfl (by decide) ?_
    exact ax_zret dX2_areJoined_18 rfl (by decide) rfl
  · rw [ntz_t c]
    refine ax_iconst (v := 1) 14 dX2_areJoined_13 rfl (by decide) ?_
    refine ax_goto 18 dX2_areJoined_14 (by decide) ?_
    exact ax_zret dX2_areJoined_18 rfl (by decide) rfl
theorem s_inOneGroup (hd : 1 ≤ d) (a b : Nat) (ha : a < 6) : ax_Met G M_X2_inOneGroup d 0 0 [.ref 3, .int (nI a), .int (nI b)] (wQ q ++ r) (.inl (some (.int (bI (ntz (grpC (q 5) a &&& bt b))))), wQ q ++ r) := by
  refine ax_of rfl (by decide) (Nat.le_of_ble_eq_true rfl) ?_
  refine ax_aload_n 0 1 dX2_inOneGroup_0 rfl rfl rfl ?_
  refine ax_iload_n 1 2 dX2_inOneGroup_1 rfl rfl rfl ?_
  refine ax_cV 5 dX2_inOneGroup_2 rfl ml_X2_34 (s_groupOf (d := d - 1) a ha) rfl (by omega) rfl rfl (Nat.le_of_ble_eq_true rfl) ?_
  refine ax_iconst (v := 1) 6 dX2_inOneGroup_5 rfl (by decide) ?_
  refine ax_iload_n 2 7 dX2_inOneGroup_6 rfl rfl rfl ?_
  refine ax_ishl 8 dX2_inOneGroup_7 rfl ?_
  refine ax_iand 9 dX2_inOneGroup_8 rfl ?_
  refine ax_if_eq 16 12 dX2_inOneGroup_9 (by decide) rfl (fun c => ?_) (fun c => ?_)
  · rw [ntz_f c]
    refine ax_iconst (v := 0) 17 dX2_inOneGroup_16 rfl (by decide) ?_
    exact ax_zret dX2_inOneGroup_17 rfl (by decide) rfl
  · rw [ntz_t c]
    refine ax_iconst (v := 1) 13 dX2_inOneGroup_12 rfl (by decide) ?_
    refine ax_goto 17 dX2_inOneGroup_13 (by decide) ?_
    exact ax_zret dX2_inOneGroup_17 rfl (by decide) rfl
def lkJ (f : Nat → Int32) (a b : Nat) : Nat → Int32 := upd (upd f a (f a ||| bt b)) b (upd f a (f a ||| bt b) b ||| bt a)
def lkP (f : Nat → Int32) (a b : Nat) : Nat → Int32 := upd (upd f a (f a &&& (bt b ^^^ (-1)))) b (upd f a (f a &&& (bt b ^^^ (-1))) b &&& (bt a ^^^ (-1)))
theorem s_join (a b : Nat) (ha : a < 6) (hb : b < 6) : ax_Met G M_X2_join d 0 0 [.ref 3, .int (nI a), .int (nI b)] (wQ q ++ r) (.inl none, wQ (qw q 5 (lkJ (q 5) a b)) ++ r) := by
  refine ax_of rfl (by decide) (Nat.le_of_ble_eq_true rfl) ?_
  refine ax_aload_n 0 1 dX2_join_0 rfl rfl rfl ?_
  refine ax_getf 4 dX2_join_1 rfl fl_X2_15 rfl rfl ?_
  refine ax_iload_n 1 5 dX2_join_4 rfl rfl rfl ?_
  refine ax_dup2 6 dX2_join_5 rfl rfl rfl ?_
  refine ax_ialdN 7 dX2_join_6 rfl rfl rfl (by omega) (by decide) ?_
  refine ax_iconst (v := 1) 8 dX2_join_7 rfl (by decide) ?_
  refine ax_iload_n 2 9 dX2_join_8 rfl rfl rfl ?_
  refine ax_ishl 10 dX2_join_9 rfl ?_
  refine ax_ior 11 dX2_join_10 rfl ?_
  refine ax_iastN 12 dX2_join_11 rfl rfl rfl (by omega) (by decide) ?_
  rw [wQs_5]
  refine ax_aload_n 0 13 dX2_join_12 rfl rfl rfl ?_
  refine ax_getf 16 dX2_join_13 rfl fl_X2_15 rfl rfl ?_
  refine ax_iload_n 2 17 dX2_join_16 rfl rfl rfl ?_
  refine ax_dup2 18 dX2_join_17 rfl rfl rfl ?_
  refine ax_ialdN 19 dX2_join_18 rfl rfl rfl (by omega) (by decide) ?_
  refine ax_iconst (v := 1) 20 dX2_join_19 rfl (by decide) ?_
  refine ax_iload_n 1 21 dX2_join_20 rfl rfl rfl ?_
  refine ax_ishl 22 dX2_join_21 rfl ?_
  refine ax_ior 23 dX2_join_22 rfl ?_
  refine ax_iastN 24 dX2_join_23 rfl rfl rfl (by omega) (by decide) ?_
  rw [wQs_5]
  exact ax_vret dX2_join_24 rfl (by rfl)
theorem s_part (a b : Nat) (ha : a < 6) (hb : b < 6) : ax_Met G M_X2_part d 0 0 [.ref 3, .int (nI a), .int (nI b)] (wQ q ++ r) (.inl none, wQ (qw q 5 (lkP (q 5) a b)) ++ r) := by
  refine ax_of rfl (by decide) (Nat.le_of_ble_eq_true rfl) ?_
  refine ax_aload_n 0 1 dX2_part_0 rfl rfl rfl ?_
  refine ax_getf 4 dX2_part_1 rfl fl_X2_15 rfl rfl ?_
  refine ax_iload_n 1 5 dX2_part_4 rfl rfl rfl ?_
  refine ax_dup2 6 dX2_part_5 rfl rfl rfl ?_
  refine ax_ialdN 7 dX2_part_6 rfl rfl rfl (by omega) (by decide) ?_
  refine ax_iconst (v := 1) 8 dX2_part_7 rfl (by decide) ?_
  refine ax_iload_n 2 9 dX2_part_8 rfl rfl rfl ?_
  refine ax_ishl 10 dX2_part_9 rfl ?_
  refine ax_iconst (v := (-1)) 11 dX2_part_10 rfl (by decide) ?_
  refine ax_ixor 12 dX2_part_11 rfl ?_
  refine ax_iand 13 dX2_part_12 rfl ?_
  refine ax_iastN 14 dX2_part_13 rfl rfl rfl (by omega) (by decide) ?_
  rw [wQs_5]
  refine ax_aload_n 0 15 dX2_part_14 rfl rfl rfl ?_
  refine ax_getf 18 dX2_part_15 rfl fl_X2_15 rfl rfl ?_
  refine ax_iload_n 2 19 dX2_part_18 rfl rfl rfl ?_
  refine ax_dup2 20 dX2_part_19 rfl rfl rfl ?_
  refine ax_ialdN 21 dX2_part_20 rfl rfl rfl (by omega) (by decide) ?_
  refine ax_iconst (v := 1) 22 dX2_part_21 rfl (by decide) ?_
  refine ax_iload_n 1 23 dX2_part_22 rfl rfl rfl ?_
  refine ax_ishl 24 dX2_part_23 rfl ?_
  refine ax_iconst (v := (-1)) 25 dX2_part_24 rfl (by decide) ?_
  refine ax_ixor 26 dX2_part_25 rfl ?_
  refine ax_iand 27 dX2_part_26 rfl ?_
  refine ax_iastN 28 dX2_part_27 rfl rfl rfl (by omega) (by decide) ?_
  rw [wQs_5]
  exact ax_vret dX2_part_28 rfl (by rfl)
theorem s_groupWouldPassCap (hd : 2 ≤ d) (s o : Nat) (x : Int32) (hs : s < 4) (ho : o < 6) : ax_Met G M_X2_groupWouldPassCap d 0 0 [.ref 3, .int (nI s), .int (nI o), .int x] (wQ q ++ r) (.inl (some (.int (bI (decide (q 4 s < sumC q s (grpC (q 5) o) 6 + x))))), wQ q ++ r) := by
  refine ax_of rfl (by decide) (Nat.le_of_ble_eq_true rfl) ?_
  refine ax_aload_n 0 1 dX2_groupWouldPassCap_0 rfl rfl rfl ?_
  refine ax_iload_n 1 2 dX2_groupWouldPassCap_1 rfl rfl rfl ?_
  refine ax_aload_n 0 3 dX2_groupWouldPassCap_2 rfl rfl rfl ?_
  refine ax_iload_n 2 4 dX2_groupWouldPassCap_3 rfl rfl rfl ?_
  refine ax_cV 7 dX2_groupWouldPassCap_4 rfl ml_X2_34 (s_groupOf (d := d - 1) o ho) rfl (by omega) rfl rfl (Nat.le_of_ble_eq_true rfl) ?_
  refine ax_cV 10 dX2_groupWouldPassCap_7 rfl ml_X2_42 (s_partsOfGroup (d := d - 1) (by omega) s _ hs) rfl (by omega) rfl rfl (Nat.le_of_ble_eq_true rfl) ?_
  refine ax_iload_n 3 11 dX2_groupWouldPassCap_10 rfl rfl rfl ?_
  refine ax_iadd 12 dX2_groupWouldPassCap_11 rfl ?_
  refine ax_aload_n 0 13 dX2_groupWouldPassCap_12 rfl rfl rfl ?_
  refine ax_getf 16 dX2_groupWouldPassCap_13 rfl fl_X2_9 rfl rfl ?_
  refine ax_iload_n 1 17 dX2_groupWouldPassCap_16 rfl rfl rfl ?_
  refine ax_ialdN 18 dX2_groupWouldPassCap_17 rfl rfl rfl (by omega) (by decide) ?_
  refine ax_icmp_le 25 21 dX2_groupWouldPassCap_18 (by decide) rfl (fun c => ?_) (fun c => ?_)
  · rw [decide_eq_false (Int32.not_lt.mpr c)]
    refine ax_iconst (v := 0) 26 dX2_groupWouldPassCap_25 rfl (by decide) ?_
    exact ax_zret dX2_groupWouldPassCap_26 rfl (by decide) rfl
  · rw [decide_eq_true (Int32.not_le.mp c)]
    refine ax_iconst (v := 1) 22 dX2_groupWouldPassCap_21 rfl (by decide) ?_
    refine ax_goto 26 dX2_groupWouldPassCap_22 (by decide) ?_
    exact ax_zret dX2_groupWouldPassCap_26 rfl (by decide) rfl
theorem s_someGroupHoldsMore (hd : 2 ≤ d) (s : Nat) (x : Int32) (hs : s < 4) : ax_Met G M_X2_someGroupHoldsMore d 0 0 [.ref 3, .int (nI s), .int x] (wQ q ++ r) (.inl (some (.int (bI (anyF (moreC q s x) 6)))), wQ q ++ r) := by
  refine ax_of rfl (by decide) (Nat.le_of_ble_eq_true rfl) ?_
  refine ax_iconst (v := 0) 1 dX2_someGroupHoldsMore_0 rfl (by decide) ?_
  refine ax_istore_n 3 2 dX2_someGroupHoldsMore_1 rfl rfl (Nat.le_of_ble_eq_true rfl) ?_
  refine ax_lvk (ax_down (P := fun i => anyF (moreC q s x) i = false → ax_Ex G M_X2_someGroupHoldsMore d 0 0 2 [(0, .ref 3), (1, .int (nI s)), (2, .int x), (3, .int (nI i))] [] (wQ q ++ r) (.inl (some (.int (bI (anyF (moreC q s x) 6)))), wQ q ++ r)) (n := 6) (fun hf => ?_) (fun i hi ih hf => ?_) 0 (Nat.zero_le _) rfl) ⟨rfl, rfl, rfl, rfl, trivial⟩
  · rw [hf]
    refine ax_iload_n 3 3 dX2_someGroupHoldsMore_2 rfl rfl rfl ?_
    refine ax_bipush (v := 6) 5 dX2_someGroupHoldsMore_3 rfl (by decide) ?_
    refine ax_icmp_ge 30 8 dX2_someGroupHoldsMore_5 (by decide) rfl (fun c => ?_) (fun c => ?_)
    · refine ax_iconst (v := 0) 31 dX2_someGroupHoldsMore_30 rfl (by decide) ?_
      exact ax_zret dX2_someGroupHoldsMore_31 rfl (by decide) rfl
    · exact absurd (by decide) c
  · refine ax_iload_n 3 3 dX2_someGroupHoldsMore_2 rfl rfl rfl ?_
    refine ax_bipush (v := 6) 5 dX2_someGroupHoldsMore_3 rfl (by decide) ?_
    refine ax_icmp_ge 30 8 dX2_someGroupHoldsMore_5 (by decide) rfl (fun c => ?_) (fun c => ?_)
    · exact absurd c (nI_ge hi (by decide))
    · refine ax_aload_n 0 9 dX2_someGroupHoldsMore_8 rfl rfl rfl ?_
      refine ax_iload_n 1 10 dX2_someGroupHoldsMore_9 rfl rfl rfl ?_
      refine ax_aload_n 0 11 dX2_someGroupHoldsMore_10 rfl rfl rfl ?_
      refine ax_iload_n 3 12 dX2_someGroupHoldsMore_11 rfl rfl rfl ?_
      refine ax_cV 15 dX2_someGroupHoldsMore_12 rfl ml_X2_34 (s_groupOf (d := d - 1) i hi) rfl (by omega) rfl rfl (Nat.le_of_ble_eq_true rfl) ?_
      refine ax_cV 18 dX2_someGroupHoldsMore_15 rfl ml_X2_42 (s_partsOfGroup (d := d - 1) (by omega) s _ hs) rfl (by omega) rfl rfl (Nat.le_of_ble_eq_true rfl) ?_
      refine ax_iload_n 2 19 dX2_someGroupHoldsMore_18 rfl rfl rfl ?_
      refine ax_icmp_le 24 22 dX2_someGroupHoldsMore_19 (by decide) rfl (fun c2 => ?_) (fun c2 => ?_)
      · refine ax_iinc (v := (_ : Int32) + 1) 27 dX2_someGroupHoldsMore_24 rfl rfl rfl (Nat.le_of_ble_eq_true rfl) ?_
        refine ax_goto 2 dX2_someGroupHoldsMore_27 (by decide) ?_
        exact ax_lvk (ih (anyF_s hf (by simp [moreC, Int32.not_lt.mpr c2]))) ⟨rfl, rfl, rfl, gI (nI_1 i), trivial⟩
      · rw [anyF_t hi (by simp [moreC, Int32.not_le.mp c2])]
        refine ax_iconst (v := 1) 23 dX2_someGroupHoldsMore_22 rfl (by decide) ?_
        exact ax_zret dX2_someGroupHoldsMore_23 rfl (by decide) rfl
theorem s_joinedWouldPassCap (hd : 2 ≤ d) (a b : Nat) (ha : a < 6) (hb : b < 6) : ax_Met G M_X2_joinedWouldPassCap d 0 0 [.ref 3, .int (nI a), .int (nI b)] (wQ q ++ r) (.inl (some (.int (bI (anyF (joinC q (grpC (q 5) a ||| grpC (q 5) b)) 4)))), wQ q ++ r) := by
  refine ax_of rfl (by decide) (Nat.le_of_ble_eq_true rfl) ?_
  refine ax_aload_n 0 1 dX2_joinedWouldPassCap_0 rfl rfl rfl ?_
  refine ax_iload_n 1 2 dX2_joinedWouldPassCap_1 rfl rfl rfl ?_
  refine ax_cV 5 dX2_joinedWouldPassCap_2 rfl ml_X2_34 (s_groupOf (d := d - 1) a ha) rfl (by omega) rfl rfl (Nat.le_of_ble_eq_true rfl) ?_
  refine ax_aload_n 0 6 dX2_joinedWouldPassCap_5 rfl rfl rfl ?_
  refine ax_iload_n 2 7 dX2_joinedWouldPassCap_6 rfl rfl rfl ?_
  refine ax_cV 10 dX2_joinedWouldPassCap_7 rfl ml_X2_34 (s_groupOf (d := d - 1) b hb) rfl (by omega) rfl rfl (Nat.le_of_ble_eq_true rfl) ?_
  refine ax_ior 11 dX2_joinedWouldPassCap_10 rfl ?_
  refine ax_istore_n 3 12 dX2_joinedWouldPassCap_11 rfl rfl (Nat.le_of_ble_eq_true rfl) ?_
  refine ax_iconst (v := 0) 13 dX2_joinedWouldPassCap_12 rfl (by decide) ?_
  refine ax_istore 15 dX2_joinedWouldPassCap_13 rfl (Nat.le_of_ble_eq_true rfl) ?_
  refine ax_lvk (ax_down (P := fun i => anyF (joinC q (grpC (q 5) a ||| grpC (q 5) b)) i = false → ax_Ex G M_X2_joinedWouldPassCap d 0 0 15 [(0, .ref 3), (3, .int (grpC (q 5) a ||| grpC (q 5) b)), (4, .int (nI i))] [] (wQ q ++ r) (.inl (some (.int (bI (anyF (joinC q (grpC (q 5) a ||| grpC (q 5) b)) 4)))), wQ q ++ r)) (n := 4) (fun hf => ?_) (fun i hi ih hf => ?_) 0 (Nat.zero_le _) rfl) ⟨rfl, rfl, rfl, trivial⟩
  · rw [hf]
    refine ax_iload 17 dX2_joinedWouldPassCap_15 rfl rfl ?_
    refine ax_iconst (v := 4) 18 dX2_joinedWouldPassCap_17 rfl (by decide) ?_
    refine ax_icmp_ge 46 21 dX2_joinedWouldPassCap_18 (by decide) rfl (fun c => ?_) (fun c => ?_)
    · refine ax_iconst (v := 0) 47 dX2_joinedWouldPassCap_46 rfl (by decide) ?_
      exact ax_zret dX2_joinedWouldPassCap_47 rfl (by decide) rfl
    · exact absurd (by decide) c
  · refine ax_iload 17 dX2_joinedWouldPassCap_15 rfl rfl ?_
    refine ax_iconst (v := 4) 18 dX2_joinedWouldPassCap_17 rfl (by decide) ?_
    refine ax_icmp_ge 46 21 dX2_joinedWouldPassCap_18 (by decide) rfl (fun c => ?_) (fun c => ?_)
    · exact absurd c (nI_ge hi (by decide))
    · refine ax_aload_n 0 22 dX2_joinedWouldPassCap_21 rfl rfl rfl ?_
      refine ax_iload 24 dX2_joinedWouldPassCap_22 rfl rfl ?_
      refine ax_iload_n 3 25 dX2_joinedWouldPassCap_24 rfl rfl rfl ?_
      refine ax_cV 28 dX2_joinedWouldPassCap_25 rfl ml_X2_42 (s_partsOfGroup (d := d - 1) (by omega) i _ hi) rfl (by omega) rfl rfl (Nat.le_of_ble_eq_true rfl) ?_
      refine ax_aload_n 0 29 dX2_joinedWouldPassCap_28 rfl rfl rfl ?_
      refine ax_getf 32 dX2_joinedWouldPassCap_29 rfl fl_X2_9 rfl rfl ?_
      refine ax_iload 34 dX2_joinedWouldPassCap_32 rfl rfl ?_
      refine ax_ialdN 35 dX2_joinedWouldPassCap_34 rfl rfl rfl (by omega) (by decide) ?_
      refine ax_icmp_le 40 38 dX2_joinedWouldPassCap_35 (by decide) rfl (fun c2 => ?_) (fun c2 => ?_)
      · refine ax_iinc (v := (_ : Int32) + 1) 43 dX2_joinedWouldPassCap_40 rfl rfl rfl (Nat.le_of_ble_eq_true rfl) ?_
        refine ax_goto 15 dX2_joinedWouldPassCap_43 (by decide) ?_
        exact ax_lvk (ih (anyF_s hf (by simp [joinC, Int32.not_lt.mpr c2]))) ⟨rfl, rfl, gI (nI_1 i), trivial⟩
      · rw [anyF_t hi (by simp [joinC, Int32.not_le.mp c2])]
        refine ax_iconst (v := 1) 39 dX2_joinedWouldPassCap_38 rfl (by decide) ?_
        exact ax_zret dX2_joinedWouldPassCap_39 rfl (by decide) rfl
end SHARES2
