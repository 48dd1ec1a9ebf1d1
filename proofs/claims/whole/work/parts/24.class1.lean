/-! the class's own methods, first part: a spec is the outcome and the new state -/
abbrev IAE : String := "java/lang/IllegalArgumentException"
abbrev ISE : String := "java/lang/IllegalStateException"
abbrev IOE : String := "java/lang/IndexOutOfBoundsException"
abbrev ax_KO : Type := (Option Value ⊕ String) × (Nat → Nat → Int32)
def two5 (a b : Int32) : Bool := isW a 0 5 && (isW b 0 5 && !decide (a = b))
def two3 (a b : Int32) : Bool := isW a 0 3 && (isW b 0 3 && !decide (a = b))
def tN (x : Int32) : Nat := x.toNatClampNeg
theorem tN_nI {n : Nat} (h : n < 2 ^ 31) : tN (nI n) = n := nI_clamp h
theorem w3 {x : Int32} (h : isW x 0 3 = true) : ∃ j : Nat, j < 4 ∧ x = nI j ∧ tN (nI j) = j := by
  obtain ⟨j, hj, e⟩ := isW_nI 3 rfl h
  exact ⟨j, hj, e, tN_nI (by omega)⟩
theorem w5 {x : Int32} (h : isW x 0 5 = true) : ∃ j : Nat, j < 6 ∧ x = nI j ∧ tN (nI j) = j := by
  obtain ⟨j, hj, e⟩ := isW_nI 5 rfl h
  exact ⟨j, hj, e, tN_nI (by omega)⟩
theorem w2 {x : Int32} (h : isW x 0 2 = true) : ∃ j : Nat, j < 3 ∧ x = nI j ∧ tN (nI j) = j := by
  obtain ⟨j, hj, e⟩ := isW_nI 2 rfl h
  exact ⟨j, hj, e, tN_nI (by omega)⟩
theorem wy {x : Int32} {y : Nat} (hy : y ≤ 8) (h : isW x 1 (nI y) = true) : ∃ j : Nat, 1 ≤ j ∧ j ≤ y ∧ x = nI j ∧ tN (nI j) = j := by
  obtain ⟨h1, h2⟩ := isW_t.mp h
  have h0 : ¬ x < 0 := by
    rw [Int32.lt_iff_toInt_lt]
    rw [Int32.le_iff_toInt_le] at h1
    have e1 : (1 : Int32).toInt = 1 := rfl
    have e0 : (0 : Int32).toInt = 0 := rfl
    omega
  obtain ⟨j, hj, e⟩ := nI_of2 (n := y) (nI_toInt (by omega)) h0 h2
  subst e
  refine ⟨j, ?_, hj, rfl, tN_nI (by omega)⟩
  rw [Int32.le_iff_toInt_le, nI_toInt (by omega)] at h1
  have e1 : (1 : Int32).toInt = 1 := rfl
  omega
theorem two5_t {a b : Int32} (h : two5 a b = true) : isW a 0 5 = true ∧ isW b 0 5 = true ∧ ¬ a = b := by
  simp [two5] at h
  exact ⟨h.1, h.2.1, h.2.2⟩
theorem two3_t {a b : Int32} (h : two3 a b = true) : isW a 0 3 = true ∧ isW b 0 3 = true ∧ ¬ a = b := by
  simp [two3] at h
  exact ⟨h.1, h.2.1, h.2.2⟩
section C1
variable {G : ax_G} {d : Nat} {q : Nat → Nat → Int32} {r : ax_W}
theorem s_areTwoOwners {w : ax_W} (hd : 2 ≤ d) (a b : Int32) : ax_Met G M_X3_areTwoOwners d 0 0 [.int a, .int b] w (.inl (some (.int (bI (two5 a b)))), w) := by
  refine ax_of rfl (by decide) (Nat.le_of_ble_eq_true rfl) ?_
  refine ax_iload_n 0 1 dX3_areTwoOwners_0 rfl rfl rfl ?_
  refine ax_cS 4 dX3_areTwoOwners_1 rfl ml_X3_89 (s_isOwner (d := d - 1) (by omega) a) (by omega) rfl rfl (Nat.le_of_ble_eq_true rfl) ?_
  refine ax_if_eq 23 7 dX3_areTwoOwners_4 (by decide) rfl (fun c => ?_) (fun c => ?_)
  · rw [show two5 a b = false by simp [two5, bI_0.mp c]]
    refine ax_iconst (v := 0) 24 dX3_areTwoOwners_23 rfl (by decide) ?_
    exact ax_zret dX3_areTwoOwners_24 rfl (by decide) rfl
  · refine ax_iload_n 1 8 dX3_areTwoOwners_7 rfl rfl rfl ?_
    refine ax_cS 11 dX3_areTwoOwners_8 rfl ml_X3_89 (s_isOwner (d := d - 1) (by omega) b) (by omega) rfl rfl (Nat.le_of_ble_eq_true rfl) ?_
    refine ax_if_eq 23 14 dX3_areTwoOwners_11 (by decide) rfl (fun c2 => ?_) (fun c2 => ?_)
    · rw [show two5 a b = false by simp [two5, bI_0.mp c2]]
      refine ax_iconst (v := 0) 24 dX3_areTwoOwners_23 rfl (by decide) ?_
      exact ax_zret dX3_areTwoOwners_24 rfl (by decide) rfl
    · refine ax_iload_n 0 15 dX3_areTwoOwners_14 rfl rfl rfl ?_
      refine ax_iload_n 1 16 dX3_areTwoOwners_15 rfl rfl rfl ?_
      refine ax_icmp_eq 23 19 dX3_areTwoOwners_16 (by decide) rfl (fun c3 => ?_) (fun c3 => ?_)
      · rw [show two5 a b = false by simp [two5, c3]]
        refine ax_iconst (v := 0) 24 dX3_areTwoOwners_23 rfl (by decide) ?_
        exact ax_zret dX3_areTwoOwners_24 rfl (by decide) rfl
      · rw [show two5 a b = true by simp [two5, bI_n0.mp c, bI_n0.mp c2, c3]]
        refine ax_iconst (v := 1) 20 dX3_areTwoOwners_19 rfl (by decide) ?_
        refine ax_goto 24 dX3_areTwoOwners_20 (by decide) ?_
        exact ax_zret dX3_areTwoOwners_24 rfl (by decide) rfl
theorem s_areTwoVessels {w : ax_W} (hd : 2 ≤ d) (a b : Int32) : ax_Met G M_X3_areTwoVessels d 0 0 [.int a, .int b] w (.inl (some (.int (bI (two5 a b)))), w) := by
  refine ax_of rfl (by decide) (Nat.le_of_ble_eq_true rfl) ?_
  refine ax_iload_n 0 1 dX3_areTwoVessels_0 rfl rfl rfl ?_
  refine ax_cS 4 dX3_areTwoVessels_1 rfl ml_X3_86 (s_isVessel (d := d - 1) (by omega) a) (by omega) rfl rfl (Nat.le_of_ble_eq_true rfl) ?_
  refine ax_if_eq 23 7 dX3_areTwoVessels_4 (by decide) rfl (fun c => ?_) (fun c => ?_)
  · rw [show two5 a b = false by simp [two5, bI_0.mp c]]
    refine ax_iconst (v := 0) 24 dX3_areTwoVessels_23 rfl (by decide) ?_
    exact ax_zret dX3_areTwoVessels_24 rfl (by decide) rfl
  · refine ax_iload_n 1 8 dX3_areTwoVessels_7 rfl rfl rfl ?_
    refine ax_cS 11 dX3_areTwoVessels_8 rfl ml_X3_86 (s_isVessel (d := d - 1) (by omega) b) (by omega) rfl rfl (Nat.le_of_ble_eq_true rfl) ?_
    refine ax_if_eq 23 14 dX3_areTwoVessels_11 (by decide) rfl (fun c2 => ?_) (fun c2 => ?_)
    · rw [show two5 a b = false by simp [two5, bI_0.mp c2]]
      refine ax_iconst (v := 0) 24 dX3_areTwoVessels_23 rfl (by decide) ?_
      exact ax_zret dX3_areTwoVessels_24 rfl (by decide) rfl
    · refine ax_iload_n 0 15 dX3_areTwoVessels_14 rfl rfl rfl ?_
      refine ax_iload_n 1 16 dX3_areTwoVessels_15 rfl rfl rfl ?_
      refine ax_icmp_eq 23 19 dX3_areTwoVessels_16 (by decide) rfl (fun c3 => ?_) (fun c3 => ?_)
      · rw [show two5 a b = false by simp [two5, c3]]
        refine ax_iconst (v := 0) 24 dX3_areTwoVessels_23 rfl (by decide) ?_
        exact ax_zret dX3_areTwoVessels_24 rfl (by decide) rfl
      · rw [show two5 a b = true by simp [two5, bI_n0.mp c, bI_n0.mp c2, c3]]
        refine ax_iconst (v := 1) 20 dX3_areTwoVessels_19 rfl (by decide) ?_
        refine ax_goto 24 dX3_areTwoVessels_20 (by decide) ?_
        exact ax_zret dX3_areTwoVessels_24 rfl (by decide) rfl
theorem s_areTwoSpecies {w : ax_W} (hd : 2 ≤ d) (a b : Int32) : ax_Met G M_X3_areTwoSpecies d 0 0 [.int a, .int b] w (.inl (some (.int (bI (two3 a b)))), w) := by
  refine ax_of rfl (by decide) (Nat.le_of_ble_eq_true rfl) ?_
  refine ax_iload_n 0 1 dX3_areTwoSpecies_0 rfl rfl rfl ?_
  refine ax_cS 4 dX3_areTwoSpecies_1 rfl ml_X3_55 (s_isSpecies (d := d - 1) (by omega) a) (by omega) rfl rfl (Nat.le_of_ble_eq_true rfl) ?_
  refine ax_if_eq 23 7 dX3_areTwoSpecies_4 (by decide) rfl (fun c => ?_) (fun c => ?_)
  · rw [show two3 a b = false by simp [two3, bI_0.mp c]]
    refine ax_iconst (v := 0) 24 dX3_areTwoSpecies_23 rfl (by decide) ?_
    exact ax_zret dX3_areTwoSpecies_24 rfl (by decide) rfl
  · refine ax_iload_n 1 8 dX3_areTwoSpecies_7 rfl rfl rfl ?_
    refine ax_cS 11 dX3_areTwoSpecies_8 rfl ml_X3_55 (s_isSpecies (d := d - 1) (by omega) b) (by omega) rfl rfl (Nat.le_of_ble_eq_true rfl) ?_
    refine ax_if_eq 23 14 dX3_areTwoSpecies_11 (by decide) rfl (fun c2 => ?_) (fun c2 => ?_)
    · rw [show two3 a b = false by simp [two3, bI_0.mp c2]]
      refine ax_iconst (v := 0) 24 dX3_areTwoSpecies_23 rfl (by decide) ?_
      exact ax_zret dX3_areTwoSpecies_24 rfl (by decide) rfl
    · refine ax_iload_n 0 15 dX3_areTwoSpecies_14 rfl rfl rfl ?_
      refine ax_iload_n 1 16 dX3_areTwoSpecies_15 rfl rfl rfl ?_
      refine ax_icmp_eq 23 19 dX3_areTwoSpecies_16 (by decide) rfl (fun c3 => ?_) (fun c3 => ?_)
      · rw [show two3 a b = false by simp [two3, c3]]
        refine ax_iconst (v := 0) 24 dX3_areTwoSpecies_23 rfl (by decide) ?_
        exact ax_zret dX3_areTwoSpecies_24 rfl (by decide) rfl
      · rw [show two3 a b = true by simp [two3, bI_n0.mp c, bI_n0.mp c2, c3]]
        refine ax_iconst (v := 1) 20 dX3_areTwoSpecies_19 rfl (by decide) ?_
        refine ax_goto 24 dX3_areTwoSpecies_20 (by decide) ?_
        exact ax_zret dX3_areTwoSpecies_24 rfl (by decide) rfl
end C1

def cSpecies (q : Nat → Nat → Int32) (s v c : Int32) : ax_KO :=
  if isW s 0 3 = false then (.inr IAE, q) else if isW v 1 1000 = false then (.inr IAE, q) else if isW c 0 1000000 = false then (.inr IAE, q) else
  if anyF (moreC q (tN s) c) 6 = true then (.inr IAE, q) else (.inl none, qv (qv q 1 (tN s) v) 4 (tN s) c)
theorem c_species {G : ax_G} {d : Nat} {q : Nat → Nat → Int32} {r : ax_W} (hd : 9 ≤ d) (s v c : Int32) : ax_Met G M_X3_species d 1 6 [.ref 0, .int s, .int v, .int c] (wQ q ++ r) ((cSpecies q s v c).1, wQ (cSpecies q s v c).2 ++ r) := by
  refine ax_of rfl (by decide) (Nat.le_of_ble_eq_true rfl) ?_
  refine ax_iload_n 1 1 dX3_species_0 rfl rfl rfl ?_
  refine ax_cS 4 dX3_species_1 rfl ml_X3_55 (s_isSpecies (d := d - 1) (by omega) s) (by omega) rfl rfl (Nat.le_of_ble_eq_true rfl) ?_
  refine ax_if_eq 28 7 dX3_species_4 (by decide) rfl (fun c1 => ?_) (fun c1 => ?_)
  · rw [show cSpecies q s v c = (.inr IAE, q) by simp [cSpecies, bI_0.mp c1]]
    exact ax_throw th_X3_66_64 rfl (by omega) dX3_species_28 dX3_species_31 dX3_species_32 dX3_species_34 dX3_species_37 (by omega) (by omega) rfl
  · have h1 := bI_n0.mp c1
    refine ax_iload_n 2 8 dX3_species_7 rfl rfl rfl ?_
    refine ax_iconst (v := 1) 9 dX3_species_8 rfl (by decide) ?_
    refine ax_sipush (v := 1000) 12 dX3_species_9 rfl (by decide) ?_
    refine ax_cS 15 dX3_species_12 rfl ml_X3_59 (s_isWithin (d := d - 1) v 1 1000) (by omega) rfl rfl (Nat.le_of_ble_eq_true rfl) ?_
    refine ax_if_eq 28 18 dX3_species_15 (by decide) rfl (fun c2 => ?_) (fun c2 => ?_)
    · rw [show cSpecies q s v c = (.inr IAE, q) by simp [cSpecies, h1, bI_0.mp c2]]
      exact ax_throw th_X3_66_64 rfl (by omega) dX3_species_28 dX3_species_31 dX3_species_32 dX3_species_34 dX3_species_37 (by omega) (by omega) rfl
    · have h2 := bI_n0.mp c2
      refine ax_iload_n 3 19 dX3_species_18 rfl rfl rfl ?_
      refine ax_iconst (v := 0) 20 dX3_species_19 rfl (by decide) ?_
      refine ax_ldc (v := 1000000) 22 dX3_species_20 rfl ci_X3_63 ?_
      refine ax_cS 25 dX3_species_22 rfl ml_X3_59 (s_isWithin (d := d - 1) c 0 1000000) (by omega) rfl rfl (Nat.le_of_ble_eq_true rfl) ?_
      refine ax_if_ne 38 28 dX3_species_25 (by decide) rfl (fun c3 => ?_) (fun c3 => ?_)
      · have h3 := bI_n0.mp c3
        rw [show cSpecies q s v c = if anyF (moreC q (tN s) c) 6 = true then (.inr IAE, q) else (.inl none, qv (qv q 1 (tN s) v) 4 (tN s) c) by simp [cSpecies, h1, h2, h3]]
        obtain ⟨j, hs, rfl, ej⟩ := w3 h1
        rw [ej]
        refine ax_aload_n 0 39 dX3_species_38 rfl rfl rfl ?_
        refine ax_getf 42 dX3_species_39 rfl fl_X3_19 rfl rfl ?_
        refine ax_iload_n 1 43 dX3_species_42 rfl rfl rfl ?_
        refine ax_iload_n 3 44 dX3_species_43 rfl rfl rfl ?_
        refine ax_cV 47 dX3_species_44 rfl ml_X3_71 (s_someGroupHoldsMore (d := d - 1) (by omega) j c hs) rfl (by omega) rfl rfl (Nat.le_of_ble_eq_true rfl) ?_
        refine ax_if_eq 60 50 dX3_species_47 (by decide) rfl (fun c4 => ?_) (fun c4 => ?_)
        · rw [if_neg (by rw [bI_0.mp c4]; decide)]
          refine ax_aload_n 0 61 dX3_species_60 rfl rfl rfl ?_
          refine ax_getf 64 dX3_species_61 rfl fl_X3_9 rfl rfl ?_
          refine ax_iload_n 1 65 dX3_species_64 rfl rfl rfl ?_
          refine ax_iload_n 2 66 dX3_species_65 rfl rfl rfl ?_
          refine ax_iastN 67 dX3_species_66 rfl rfl rfl (by omega) (by decide) ?_
          rw [wQs_1]
          refine ax_aload_n 0 68 dX3_species_67 rfl rfl rfl ?_
          refine ax_getf 71 dX3_species_68 rfl fl_X3_19 rfl rfl ?_
          refine ax_iload_n 1 72 dX3_species_71 rfl rfl rfl ?_
          refine ax_iload_n 3 73 dX3_species_72 rfl rfl rfl ?_
          refine ax_cVv 76 dX3_species_73 rfl ml_X3_77 (s_setCap (d := d - 1) j c hs) rfl (by omega) rfl rfl (Nat.le_of_ble_eq_true rfl) ?_
          exact ax_vret dX3_species_76 rfl rfl
        · rw [if_pos (bI_n0.mp c4)]
          exact ax_throw th_X3_75_64 rfl (by omega) dX3_species_50 dX3_species_53 dX3_species_54 dX3_species_56 dX3_species_59 (by omega) (by omega) rfl
      · rw [show cSpecies q s v c = (.inr IAE, q) by simp [cSpecies, h1, h2, bI_0.mp c3]]
        exact ax_throw th_X3_66_64 rfl (by omega) dX3_species_28 dX3_species_31 dX3_species_32 dX3_species_34 dX3_species_37 (by omega) (by omega) rfl
def cFactor (q : Nat → Nat → Int32) (s f t : Int32) : ax_KO :=
  if isW s 0 3 = false then (.inr IAE, q) else if isW f 0 2 = false then (.inr IAE, q) else if isW t 0 5000 = false then (.inr IAE, q) else
  (.inl none, qv q 2 (3 * tN s + tN f) t)
theorem c_factor {G : ax_G} {d : Nat} {q : Nat → Nat → Int32} {r : ax_W} (hd : 9 ≤ d) (s f t : Int32) : ax_Met G M_X3_factor d 1 6 [.ref 0, .int s, .int f, .int t] (wQ q ++ r) ((cFactor q s f t).1, wQ (cFactor q s f t).2 ++ r) := by
  refine ax_of rfl (by decide) (Nat.le_of_ble_eq_true rfl) ?_
  refine ax_iload_n 1 1 dX3_factor_0 rfl rfl rfl ?_
  refine ax_cS 4 dX3_factor_1 rfl ml_X3_55 (s_isSpecies (d := d - 1) (by omega) s) (by omega) rfl rfl (Nat.le_of_ble_eq_true rfl) ?_
  refine ax_if_eq 25 7 dX3_factor_4 (by decide) rfl (fun c1 => ?_) (fun c1 => ?_)
  · rw [show cFactor q s f t = (.inr IAE, q) by simp [cFactor, bI_0.mp c1]]
    exact ax_throw th_X3_84_64 rfl (by omega) dX3_factor_25 dX3_factor_28 dX3_factor_29 dX3_factor_31 dX3_factor_34 (by omega) (by omega) rfl
  · have h1 := bI_n0.mp c1
    refine ax_iload_n 2 8 dX3_factor_7 rfl rfl rfl ?_
    refine ax_cS 11 dX3_factor_8 rfl ml_X3_81 (s_isForm (d := d - 1) (by omega) f) (by omega) rfl rfl (Nat.le_of_ble_eq_true rfl) ?_
    refine ax_if_eq 25 14 dX3_factor_11 (by decide) rfl (fun c2 => ?_) (fun c2 => ?_)
    · rw [show cFactor q s f t = (.inr IAE, q) by simp [cFactor, h1, bI_0.mp c2]]
      exact ax_throw th_X3_84_64 rfl (by omega) dX3_factor_25 dX3_factor_28 dX3_factor_29 dX3_factor_31 dX3_factor_34 (by omega) (by omega) rfl
    · have h2 := bI_n0.mp c2
      refine ax_iload_n 3 15 dX3_factor_14 rfl rfl rfl ?_
      refine ax_iconst (v := 0) 16 dX3_factor_15 rfl (by decide) ?_
      refine ax_sipush (v := 5000) 19 dX3_factor_16 rfl (by decide) ?_
      refine ax_cS 22 dX3_factor_19 rfl ml_X3_59 (s_isWithin (d := d - 1) t 0 5000) (by omega) rfl rfl (Nat.le_of_ble_eq_true rfl) ?_
      refine ax_if_ne 35 25 dX3_factor_22 (by decide) rfl (fun c3 => ?_) (fun c3 => ?_)
      · have h3 := bI_n0.mp c3
        rw [show cFactor q s f t = (.inl none, qv q 2 (3 * tN s + tN f) t) by simp [cFactor, h1, h2, h3]]
        obtain ⟨j, hs, rfl, ej⟩ := w3 h1
        obtain ⟨k, hk, rfl, ek⟩ := w2 h2
        rw [ej, ek]
        refine ax_aload_n 0 36 dX3_factor_35 rfl rfl rfl ?_
        refine ax_getf 39 dX3_factor_36 rfl fl_X3_13 rfl rfl ?_
        refine ax_iload_n 1 40 dX3_factor_39 rfl rfl rfl ?_
        refine ax_iconst (v := 3) 41 dX3_factor_40 rfl (by decide) ?_
        refine ax_imul 42 dX3_factor_41 rfl ?_
        refine ax_iload_n 2 43 dX3_factor_42 rfl rfl rfl ?_
        refine ax_iadd 44 dX3_factor_43 rfl ?_
        refine ax_iload_n 3 45 dX3_factor_44 rfl rfl rfl ?_
        refine ax_iastN 46 dX3_factor_45 rfl rfl (ix3 j k) (by omega) (by decide) ?_
        rw [wQs_2]
        exact ax_vret dX3_factor_46 rfl rfl
      · rw [show cFactor q s f t = (.inr IAE, q) by simp [cFactor, h1, h2, bI_0.mp c3]]
        exact ax_throw th_X3_84_64 rfl (by omega) dX3_factor_25 dX3_factor_28 dX3_factor_29 dX3_factor_31 dX3_factor_34 (by omega) (by omega) rfl
def cVessel (q : Nat → Nat → Int32) (v w : Int32) : ax_KO :=
  if isW v 0 5 = false then (.inr IAE, q) else if isW w 0 5 = false then (.inr IAE, q) else
  if anyF (fun s => decide (0 < q 8 (6 * s + tN v))) 4 = true then (.inr ISE, q) else (.inl none, qv q 6 (tN v) w)
theorem c_vessel {G : ax_G} {d : Nat} {q : Nat → Nat → Int32} {r : ax_W} (hd : 9 ≤ d) (v w : Int32) : ax_Met G M_X3_vessel d 1 6 [.ref 0, .int v, .int w] (wQ q ++ r) ((cVessel q v w).1, wQ (cVessel q v w).2 ++ r) := by
  refine ax_of rfl (by decide) (Nat.le_of_ble_eq_true rfl) ?_
  refine ax_iload_n 1 1 dX3_vessel_0 rfl rfl rfl ?_
  refine ax_cS 4 dX3_vessel_1 rfl ml_X3_86 (s_isVessel (d := d - 1) (by omega) v) (by omega) rfl rfl (Nat.le_of_ble_eq_true rfl) ?_
  refine ax_if_eq 14 7 dX3_vessel_4 (by decide) rfl (fun c1 => ?_) (fun c1 => ?_)
  · rw [show cVessel q v w = (.inr IAE, q) by simp [cVessel, bI_0.mp c1]]
    exact ax_throw th_X3_92_64 rfl (by omega) dX3_vessel_14 dX3_vessel_17 dX3_vessel_18 dX3_vessel_20 dX3_vessel_23 (by omega) (by omega) rfl
  · have h1 := bI_n0.mp c1
    refine ax_iload_n 2 8 dX3_vessel_7 rfl rfl rfl ?_
    refine ax_cS 11 dX3_vessel_8 rfl ml_X3_89 (s_isOwner (d := d - 1) (by omega) w) (by omega) rfl rfl (Nat.le_of_ble_eq_true rfl) ?_
    refine ax_if_ne 24 14 dX3_vessel_11 (by decide) rfl (fun c2 => ?_) (fun c2 => ?_)
    · have h2 := bI_n0.mp c2
      rw [show cVessel q v w = if anyF (fun s => decide (0 < q 8 (6 * s + tN v))) 4 = true then (.inr ISE, q) else (.inl none, qv q 6 (tN v) w) by simp only [cVessel, h1, h2, Bool.true_eq_false, if_false]]
      obtain ⟨j, hj, rfl, ej⟩ := w5 h1
      rw [ej]
      refine ax_aload_n 0 25 dX3_vessel_24 rfl rfl rfl ?_
      refine ax_getf 28 dX3_vessel_25 rfl fl_X3_19 rfl rfl ?_
      refine ax_iload_n 1 29 dX3_vessel_28 rfl rfl rfl ?_
      refine ax_cV 32 dX3_vessel_29 rfl ml_X3_94 (s_carriesParts (d := d - 1) (by omega) j hj) rfl (by omega) rfl rfl (Nat.le_of_ble_eq_true rfl) ?_
      refine ax_if_eq 45 35 dX3_vessel_32 (by decide) rfl (fun c4 => ?_) (fun c4 => ?_)
      · rw [if_neg (by rw [bI_0.mp c4]; decide)]
        refine ax_aload_n 0 46 dX3_vessel_45 rfl rfl rfl ?_
        refine ax_getf 49 dX3_vessel_46 rfl fl_X3_19 rfl rfl ?_
        refine ax_iload_n 1 50 dX3_vessel_49 rfl rfl rfl ?_
        refine ax_iload_n 2 51 dX3_vessel_50 rfl rfl rfl ?_
        refine ax_cVv 54 dX3_vessel_51 rfl ml_X3_102 (s_setOwner (d := d - 1) j w hj) rfl (by omega) rfl rfl (Nat.le_of_ble_eq_true rfl) ?_
        exact ax_vret dX3_vessel_54 rfl rfl
      · rw [if_pos (bI_n0.mp c4)]
        exact ax_throw th_X3_99_97 rfl (by omega) dX3_vessel_35 dX3_vessel_38 dX3_vessel_39 dX3_vessel_41 dX3_vessel_44 (by omega) (by omega) rfl
    · rw [show cVessel q v w = (.inr IAE, q) by simp [cVessel, h1, bI_0.mp c2]]
      exact ax_throw th_X3_92_64 rfl (by omega) dX3_vessel_14 dX3_vessel_17 dX3_vessel_18 dX3_vessel_20 dX3_vessel_23 (by omega) (by omega) rfl
def cLink (q : Nat → Nat → Int32) (a b : Int32) : ax_KO :=
  if two5 a b = false then (.inr IAE, q) else
  if anyF (joinC q (grpC (q 5) (tN a) ||| grpC (q 5) (tN b))) 4 = true then (.inr ISE, q) else (.inl none, qw q 5 (lkJ (q 5) (tN a) (tN b)))
theorem c_link {G : ax_G} {d : Nat} {q : Nat → Nat → Int32} {r : ax_W} (hd : 9 ≤ d) (a b : Int32) : ax_Met G M_X3_link d 1 6 [.ref 0, .int a, .int b] (wQ q ++ r) ((cLink q a b).1, wQ (cLink q a b).2 ++ r) := by
  refine ax_of rfl (by decide) (Nat.le_of_ble_eq_true rfl) ?_
  refine ax_iload_n 1 1 dX3_link_0 rfl rfl rfl ?_
  refine ax_iload_n 2 2 dX3_link_1 rfl rfl rfl ?_
  refine ax_cS 5 dX3_link_2 rfl ml_X3_105 (s_areTwoOwners (d := d - 1) (by omega) a b) (by omega) rfl rfl (Nat.le_of_ble_eq_true rfl) ?_
  refine ax_if_ne 18 8 dX3_link_5 (by decide) rfl (fun c1 => ?_) (fun c1 => ?_)
  · have h1 := bI_n0.mp c1
    rw [show cLink q a b = if anyF (joinC q (grpC (q 5) (tN a) ||| grpC (q 5) (tN b))) 4 = true then (.inr ISE, q) else (.inl none, qw q 5 (lkJ (q 5) (tN a) (tN b))) by simp only [cLink, h1, Bool.true_eq_false, if_false]]
    obtain ⟨k1, k2, k3⟩ := two5_t h1
    obtain ⟨i, hi, rfl, ei⟩ := w5 k1
    obtain ⟨j, hj, rfl, ej⟩ := w5 k2
    rw [ei, ej]
    refine ax_aload_n 0 19 dX3_link_18 rfl rfl rfl ?_
    refine ax_getf 22 dX3_link_19 rfl fl_X3_19 rfl rfl ?_
    refine ax_iload_n 1 23 dX3_link_22 rfl rfl rfl ?_
    refine ax_iload_n 2 24 dX3_link_23 rfl rfl rfl ?_
    refine ax_cV 27 dX3_link_24 rfl ml_X3_110 (s_joinedWouldPassCap (d := d - 1) (by omega) i j hi hj) rfl (by omega) rfl rfl (Nat.le_of_ble_eq_true rfl) ?_
    refine ax_if_eq 40 30 dX3_link_27 (by decide) rfl (fun c4 => ?_) (fun c4 => ?_)
    · rw [if_neg (by rw [bI_0.mp c4]; decide)]
      refine ax_aload_n 0 41 dX3_link_40 rfl rfl rfl ?_
      refine ax_getf 44 dX3_link_41 rfl fl_X3_19 rfl rfl ?_
      refine ax_iload_n 1 45 dX3_link_44 rfl rfl rfl ?_
      refine ax_iload_n 2 46 dX3_link_45 rfl rfl rfl ?_
      refine ax_cVv 49 dX3_link_46 rfl ml_X3_115 (s_join (d := d - 1) i j hi hj) rfl (by omega) rfl rfl (Nat.le_of_ble_eq_true rfl) ?_
      exact ax_vret dX3_link_49 rfl rfl
    · rw [if_pos (bI_n0.mp c4)]
      exact ax_throw th_X3_113_97 rfl (by omega) dX3_link_30 dX3_link_33 dX3_link_34 dX3_link_36 dX3_link_39 (by omega) (by omega) rfl
  · rw [show cLink q a b = (.inr IAE, q) by simp [cLink, bI_0.mp c1]]
    exact ax_throw th_X3_108_64 rfl (by omega) dX3_link_8 dX3_link_11 dX3_link_12 dX3_link_14 dX3_link_17 (by omega) (by omega) rfl
def cUnlink (q : Nat → Nat → Int32) (a b : Int32) : ax_KO :=
  if two5 a b = false then (.inr IAE, q) else
  if ntz (q 5 (tN a) &&& bt (tN b)) = false then (.inr ISE, q) else (.inl none, qw q 5 (lkP (q 5) (tN a) (tN b)))
theorem c_unlink {G : ax_G} {d : Nat} {q : Nat → Nat → Int32} {r : ax_W} (hd : 9 ≤ d) (a b : Int32) : ax_Met G M_X3_unlink d 1 6 [.ref 0, .int a, .int b] (wQ q ++ r) ((cUnlink q a b).1, wQ (cUnlink q a b).2 ++ r) := by
  refine ax_of rfl (by decide) (Nat.le_of_ble_eq_true rfl) ?_
  refine ax_iload_n 1 1 dX3_unlink_0 rfl rfl rfl ?_
  refine ax_iload_n 2 2 dX3_unlink_1 rfl rfl rfl ?_
  refine ax_cS 5 dX3_unlink_2 rfl ml_X3_105 (s_areTwoOwners (d := d - 1) (by omega) a b) (by omega) rfl rfl (Nat.le_of_ble_eq_true rfl) ?_
  refine ax_if_ne 18 8 dX3_unlink_5 (by decide) rfl (fun c1 => ?_) (fun c1 => ?_)
  · have h1 := bI_n0.mp c1
    rw [show cUnlink q a b = if ntz (q 5 (tN a) &&& bt (tN b)) = false then (.inr ISE, q) else (.inl none, qw q 5 (lkP (q 5) (tN a) (tN b))) by simp only [cUnlink, h1, Bool.true_eq_false, if_false]]
    obtain ⟨k1, k2, k3⟩ := two5_t h1
    obtain ⟨i, hi, rfl, ei⟩ := w5 k1
    obtain ⟨j, hj, rfl, ej⟩ := w5 k2
    rw [ei, ej]
    refine ax_aload_n 0 19 dX3_unlink_18 rfl rfl rfl ?_
    refine ax_getf 22 dX3_unlink_19 rfl fl_X3_19 rfl rfl ?_
    refine ax_iload_n 1 23 dX3_unlink_22 rfl rfl rfl ?_
    refine ax_iload_n 2 24 dX3_unlink_23 rfl rfl rfl ?_
    refine ax_cV 27 dX3_unlink_24 rfl ml_X3_118 (s_areJoined (d := d - 1) i j hi) rfl (by omega) rfl rfl (Nat.le_of_ble_eq_true rfl) ?_
    refine ax_if_ne 40 30 dX3_unlink_27 (by decide) rfl (fun c4 => ?_) (fun c4 => ?_)
    · rw [if_neg (by rw [bI_n0.mp c4]; decide)]
      refine ax_aload_n 0 41 dX3_unlink_40 rfl rfl rfl ?_
      refine ax_getf 44 dX3_unlink_41 rfl fl_X3_19 rfl rfl ?_
      refine ax_iload_n 1 45 dX3_unlink_44 rfl rfl rfl ?_
      refine ax_iload_n 2 46 dX3_unlink_45 rfl rfl rfl ?_
      refine ax_cVv 49 dX3_unlink_46 rfl ml_X3_123 (s_part (d := d - 1) i j hi hj) rfl (by omega) rfl rfl (Nat.le_of_ble_eq_true rfl) ?_
      exact ax_vret dX3_unlink_49 rfl rfl
    · rw [if_pos (bI_0.mp c4)]
      exact ax_throw th_X3_121_97 rfl (by omega) dX3_unlink_30 dX3_unlink_33 dX3_unlink_34 dX3_unlink_36 dX3_unlink_39 (by omega) (by omega) rfl
  · rw [show cUnlink q a b = (.inr IAE, q) by simp [cUnlink, bI_0.mp c1]]
    exact ax_throw th_X3_108_64 rfl (by omega) dX3_unlink_8 dX3_unlink_11 dX3_unlink_12 dX3_unlink_14 dX3_unlink_17 (by omega) (by omega) rfl
def cIssue (q : Nat → Nat → Int32) (s o m : Int32) : ax_KO :=
  if isW s 0 3 = false then (.inr IAE, q) else if isW o 0 5 = false then (.inr IAE, q) else if isW m 1 1000000 = false then (.inr IAE, q) else
  if q 0 6 ≤ 0 then (if 1000000 < sumC q (tN s) 63 6 + m then (.inr ISE, q) else if q 4 (tN s) < sumC q (tN s) (grpC (q 5) (tN o)) 6 + m then (.inr ISE, q) else (.inl (some (.int (q 7 (6 * tN s + tN o) + m))), qv q 7 (6 * tN s + tN o) (q 7 (6 * tN s + tN o) + m))) else (.inr ISE, q)
theorem c_issue {G : ax_G} {d : Nat} {q : Nat → Nat → Int32} {r : ax_W} (hd : 9 ≤ d) (s o m : Int32) : ax_Met G M_X3_issue d 1 6 [.ref 0, .int s, .int o, .int m] (wQ q ++ r) ((cIssue q s o m).1, wQ (cIssue q s o m).2 ++ r) := by
  refine ax_of rfl (by decide) (Nat.le_of_ble_eq_true rfl) ?_
  refine ax_iload_n 1 1 dX3_issue_0 rfl rfl rfl ?_
  refine ax_cS 4 dX3_issue_1 rfl ml_X3_55 (s_isSpecies (d := d - 1) (by omega) s) (by omega) rfl rfl (Nat.le_of_ble_eq_true rfl) ?_
  refine ax_if_eq 24 7 dX3_issue_4 (by decide) rfl (fun c1 => ?_) (fun c1 => ?_)
  · rw [show cIssue q s o m = (.inr IAE, q) by simp [cIssue, bI_0.mp c1]]
    exact ax_throw th_X3_126_64 rfl (by omega) dX3_issue_24 dX3_issue_27 dX3_issue_28 dX3_issue_30 dX3_issue_33 (by omega) (by omega) rfl
  · have h1 := bI_n0.mp c1
    refine ax_iload_n 2 8 dX3_issue_7 rfl rfl rfl ?_
    refine ax_cS 11 dX3_issue_8 rfl ml_X3_89 (s_isOwner (d := d - 1) (by omega) o) (by omega) rfl rfl (Nat.le_of_ble_eq_true rfl) ?_
    refine ax_if_eq 24 14 dX3_issue_11 (by decide) rfl (fun c2 => ?_) (fun c2 => ?_)
    · rw [show cIssue q s o m = (.inr IAE, q) by simp [cIssue, h1, bI_0.mp c2]]
      exact ax_throw th_X3_126_64 rfl (by omega) dX3_issue_24 dX3_issue_27 dX3_issue_28 dX3_issue_30 dX3_issue_33 (by omega) (by omega) rfl
    · have h2 := bI_n0.mp c2
      refine ax_iload_n 3 15 dX3_issue_14 rfl rfl rfl ?_
      refine ax_iconst (v := 1) 16 dX3_issue_15 rfl (by decide) ?_
      refine ax_ldc (v := 1000000) 18 dX3_issue_16 rfl ci_X3_63 ?_
      refine ax_cS 21 dX3_issue_18 rfl ml_X3_59 (s_isWithin (d := d - 1) m 1 1000000) (by omega) rfl rfl (Nat.le_of_ble_eq_true rfl) ?_
      refine ax_if_ne 34 24 dX3_issue_21 (by decide) rfl (fun c3 => ?_) (fun c3 => ?_)
      · have h3 := bI_n0.mp c3
        rw [show cIssue q s o m = if q 0 6 ≤ 0 then (if 1000000 < sumC q (tN s) 63 6 + m then (.inr ISE, q) else if q 4 (tN s) < sumC q (tN s) (grpC (q 5) (tN o)) 6 + m then (.inr ISE, q) else (.inl (some (.int (q 7 (6 * tN s + tN o) + m))), qv q 7 (6 * tN s + tN o) (q 7 (6 * tN s + tN o) + m))) else (.inr ISE, q) by simp only [cIssue, h1, h2, h3, Bool.true_eq_false, if_false]]
        obtain ⟨i, hi, rfl, ei⟩ := w3 h1
        obtain ⟨j, hj, rfl, ej⟩ := w5 h2
        rw [ei, ej]
        refine ax_aload_n 0 35 dX3_issue_34 rfl rfl rfl ?_
        refine ax_getf 38 dX3_issue_35 rfl fl_X3_41 rfl rfl ?_
        refine ax_if_le 51 41 dX3_issue_38 (by decide) rfl (fun c4 => ?_) (fun c4 => ?_)
        · rw [if_pos c4]
          refine ax_aload_n 0 52 dX3_issue_51 rfl rfl rfl ?_
          refine ax_getf 55 dX3_issue_52 rfl fl_X3_19 rfl rfl ?_
          refine ax_iload_n 1 56 dX3_issue_55 rfl rfl rfl ?_
          refine ax_cV 59 dX3_issue_56 rfl ml_X3_130 (s_partsInAll (d := d - 1) (by omega) i hi) rfl (by omega) rfl rfl (Nat.le_of_ble_eq_true rfl) ?_
          refine ax_iload_n 3 60 dX3_issue_59 rfl rfl rfl ?_
          refine ax_iadd 61 dX3_issue_60 rfl ?_
          refine ax_ldc (v := 1000000) 63 dX3_issue_61 rfl ci_X3_63 ?_
          refine ax_icmp_gt 79 66 dX3_issue_63 (by decide) rfl (fun c5 => ?_) (fun c5 => ?_)
          · rw [if_pos c5]
            exact ax_throw th_X3_137_97 rfl (by omega) dX3_issue_79 dX3_issue_82 dX3_issue_83 dX3_issue_85 dX3_issue_88 (by omega) (by omega) rfl
          · rw [if_neg c5]
            refine ax_aload_n 0 67 dX3_issue_66 rfl rfl rfl ?_
            refine ax_getf 70 dX3_issue_67 rfl fl_X3_19 rfl rfl ?_
            refine ax_iload_n 1 71 dX3_issue_70 rfl rfl rfl ?_
            refine ax_iload_n 2 72 dX3_issue_71 rfl rfl rfl ?_
            refine ax_iload_n 3 73 dX3_issue_72 rfl rfl rfl ?_
            refine ax_cV 76 dX3_issue_73 rfl ml_X3_134 (s_groupWouldPassCap (d := d - 1) (by omega) i j m hi hj) rfl (by omega) rfl rfl (Nat.le_of_ble_eq_true rfl) ?_
            refine ax_if_eq 89 79 dX3_issue_76 (by decide) rfl (fun c6 => ?_) (fun c6 => ?_)
            · rw [if_neg (of_decide_eq_false (bI_0.mp c6))]
              refine ax_aload_n 0 90 dX3_issue_89 rfl rfl rfl ?_
              refine ax_getf 93 dX3_issue_90 rfl fl_X3_19 rfl rfl ?_
              refine ax_iload_n 1 94 dX3_issue_93 rfl rfl rfl ?_
              refine ax_iload_n 2 95 dX3_issue_94 rfl rfl rfl ?_
              refine ax_iload_n 3 96 dX3_issue_95 rfl rfl rfl ?_
              refine ax_cV 99 dX3_issue_96 rfl ml_X3_139 (s_addParts (d := d - 1) (by omega) i j m hi hj) rfl (by omega) rfl rfl (Nat.le_of_ble_eq_true rfl) ?_
              exact ax_iret dX3_issue_99 rfl rfl
            · rw [if_pos (of_decide_eq_true (bI_n0.mp c6))]
              exact ax_throw th_X3_137_97 rfl (by omega) dX3_issue_79 dX3_issue_82 dX3_issue_83 dX3_issue_85 dX3_issue_88 (by omega) (by omega) rfl
        · rw [if_neg c4]
          exact ax_throw th_X3_128_97 rfl (by omega) dX3_issue_41 dX3_issue_44 dX3_issue_45 dX3_issue_47 dX3_issue_50 (by omega) (by omega) rfl
      · rw [show cIssue q s o m = (.inr IAE, q) by simp [cIssue, h1, h2, bI_0.mp c3]]
        exact ax_throw th_X3_126_64 rfl (by omega) dX3_issue_24 dX3_issue_27 dX3_issue_28 dX3_issue_30 dX3_issue_33 (by omega) (by omega) rfl
def cSell (q : Nat → Nat → Int32) (s a b m : Int32) : ax_KO :=
  if isW s 0 3 = false then (.inr IAE, q) else if two5 a b = false then (.inr IAE, q) else if isW m 1 1000000 = false then (.inr IAE, q) else
  if freeC (q 7) (q 6) (q 8) (tN s) (nI (tN a)) (q 7 (6 * tN s + tN a)) 6 < m then (.inr ISE, q) else if ntz (grpC (q 5) (tN a) &&& bt (tN b)) = false ∧ q 4 (tN s) < sumC q (tN s) (grpC (q 5) (tN b)) 6 + m then (.inr ISE, q) else (.inl none, qv (qv q 7 (6 * tN s + tN a) (q 7 (6 * tN s + tN a) + -m)) 7 (6 * tN s + tN b) (qv q 7 (6 * tN s + tN a) (q 7 (6 * tN s + tN a) + -m) 7 (6 * tN s + tN b) + m))
theorem c_sell {G : ax_G} {d : Nat} {q : Nat → Nat → Int32} {r : ax_W} (hd : 9 ≤ d) (s a b m : Int32) : ax_Met G M_X3_sell d 1 6 [.ref 0, .int s, .int a, .int b, .int m] (wQ q ++ r) ((cSell q s a b m).1, wQ (cSell q s a b m).2 ++ r) := by
  refine ax_of rfl (by decide) (Nat.le_of_ble_eq_true rfl) ?_
  refine ax_iload_n 1 1 dX3_sell_0 rfl rfl rfl ?_
  refine ax_cS 4 dX3_sell_1 rfl ml_X3_55 (s_isSpecies (d := d - 1) (by omega) s) (by omega) rfl rfl (Nat.le_of_ble_eq_true rfl) ?_
  refine ax_if_eq 26 7 dX3_sell_4 (by decide) rfl (fun c1 => ?_) (fun c1 => ?_)
  · rw [show cSell q s a b m = (.inr IAE, q) by simp [cSell, bI_0.mp c1]]
    exact ax_throw th_X3_143_64 rfl (by omega) dX3_sell_26 dX3_sell_29 dX3_sell_30 dX3_sell_32 dX3_sell_35 (by omega) (by omega) rfl
  · have h1 := bI_n0.mp c1
    refine ax_iload_n 2 8 dX3_sell_7 rfl rfl rfl ?_
    refine ax_iload_n 3 9 dX3_sell_8 rfl rfl rfl ?_
    refine ax_cS 12 dX3_sell_9 rfl ml_X3_105 (s_areTwoOwners (d := d - 1) (by omega) a b) (by omega) rfl rfl (Nat.le_of_ble_eq_true rfl) ?_
    refine ax_if_eq 26 15 dX3_sell_12 (by decide) rfl (fun c2 => ?_) (fun c2 => ?_)
    · rw [show cSell q s a b m = (.inr IAE, q) by simp [cSell, h1, bI_0.mp c2]]
      exact ax_throw th_X3_143_64 rfl (by omega) dX3_sell_26 dX3_sell_29 dX3_sell_30 dX3_sell_32 dX3_sell_35 (by omega) (by omega) rfl
    · have h2 := bI_n0.mp c2
      refine ax_iload 17 dX3_sell_15 rfl rfl ?_
      refine ax_iconst (v := 1) 18 dX3_sell_17 rfl (by decide) ?_
      refine ax_ldc (v := 1000000) 20 dX3_sell_18 rfl ci_X3_63 ?_
      refine ax_cS 23 dX3_sell_20 rfl ml_X3_59 (s_isWithin (d := d - 1) m 1 1000000) (by omega) rfl rfl (Nat.le_of_ble_eq_true rfl) ?_
      refine ax_if_ne 36 26 dX3_sell_23 (by decide) rfl (fun c3 => ?_) (fun c3 => ?_)
      · have h3 := bI_n0.mp c3
        rw [show cSell q s a b m = if freeC (q 7) (q 6) (q 8) (tN s) (nI (tN a)) (q 7 (6 * tN s + tN a)) 6 < m then (.inr ISE, q) else if ntz (grpC (q 5) (tN a) &&& bt (tN b)) = false ∧ q 4 (tN s) < sumC q (tN s) (grpC (q 5) (tN b)) 6 + m then (.inr ISE, q) else (.inl none, qv (qv q 7 (6 * tN s + tN a) (q 7 (6 * tN s + tN a) + -m)) 7 (6 * tN s + tN b) (qv q 7 (6 * tN s + tN a) (q 7 (6 * tN s + tN a) + -m) 7 (6 * tN s + tN b) + m)) by simp only [cSell, h1, h2, h3, Bool.true_eq_false, if_false]]
        obtain ⟨k1, k2, k3⟩ := two5_t h2
        obtain ⟨t, ht, rfl, et⟩ := w3 h1
        obtain ⟨i, hi, rfl, ei⟩ := w5 k1
        obtain ⟨j, hj, rfl, ej⟩ := w5 k2
        rw [et, ei, ej]
        refine ax_aload_n 0 37 dX3_sell_36 rfl rfl rfl ?_
        refine ax_getf 40 dX3_sell_37 rfl fl_X3_19 rfl rfl ?_
        refine ax_iload_n 1 41 dX3_sell_40 rfl rfl rfl ?_
        refine ax_iload_n 2 42 dX3_sell_41 rfl rfl rfl ?_
        refine ax_cV 45 dX3_sell_42 rfl ml_X3_145 (s_freeParts (d := d - 1) (by omega) t i ht hi) rfl (by omega) rfl rfl (Nat.le_of_ble_eq_true rfl) ?_
        refine ax_iload 47 dX3_sell_45 rfl rfl ?_
        refine ax_icmp_ge 60 50 dX3_sell_47 (by decide) rfl (fun c4 => ?_) (fun c4 => ?_)
        · rw [if_neg (Int32.not_lt.mpr c4)]
          refine ax_aload_n 0 61 dX3_sell_60 rfl rfl rfl ?_
          refine ax_getf 64 dX3_sell_61 rfl fl_X3_19 rfl rfl ?_
          refine ax_iload_n 2 65 dX3_sell_64 rfl rfl rfl ?_
          refine ax_iload_n 3 66 dX3_sell_65 rfl rfl rfl ?_
          refine ax_cV 69 dX3_sell_66 rfl ml_X3_151 (s_inOneGroup (d := d - 1) (by omega) i j hi) rfl (by omega) rfl rfl (Nat.le_of_ble_eq_true rfl) ?_
          refine ax_if_ne 96 72 dX3_sell_69 (by decide) rfl (fun c5 => ?_) (fun c5 => ?_)
          · rw [if_neg (fun z => by rw [bI_n0.mp c5] at z; cases z.1)]
            refine ax_aload_n 0 97 dX3_sell_96 rfl rfl rfl ?_
            refine ax_getf 100 dX3_sell_97 rfl fl_X3_19 rfl rfl ?_
            refine ax_iload_n 1 101 dX3_sell_100 rfl rfl rfl ?_
            refine ax_iload_n 2 102 dX3_sell_101 rfl rfl rfl ?_
            refine ax_iload 104 dX3_sell_102 rfl rfl ?_
            refine ax_ineg 105 dX3_sell_104 rfl ?_
            refine ax_cV 108 dX3_sell_105 rfl ml_X3_139 (s_addParts (d := d - 1) (by omega) t i _ ht hi) rfl (by omega) rfl rfl (Nat.le_of_ble_eq_true rfl) ?_
            refine ax_pop 109 dX3_sell_108 rfl rfl ?_
            refine ax_aload_n 0 110 dX3_sell_109 rfl rfl rfl ?_
            refine ax_getf 113 dX3_sell_110 rfl fl_X3_19 rfl rfl ?_
            refine ax_iload_n 1 114 dX3_sell_113 rfl rfl rfl ?_
            refine ax_iload_n 3 115 dX3_sell_114 rfl rfl rfl ?_
            refine ax_iload 117 dX3_sell_115 rfl rfl ?_
            refine ax_cV 120 dX3_sell_117 rfl ml_X3_139 (s_addParts (d := d - 1) (by omega) t j _ ht hj) rfl (by omega) rfl rfl (Nat.le_of_ble_eq_true rfl) ?_
            refine ax_pop 121 dX3_sell_120 rfl rfl ?_
            exact ax_vret dX3_sell_121 rfl rfl
          · refine ax_aload_n 0 73 dX3_sell_72 rfl rfl rfl ?_
            refine ax_getf 76 dX3_sell_73 rfl fl_X3_19 rfl rfl ?_
            refine ax_iload_n 1 77 dX3_sell_76 rfl rfl rfl ?_
            refine ax_iload_n 3 78 dX3_sell_77 rfl rfl rfl ?_
            refine ax_iload 80 dX3_sell_78 rfl rfl ?_
            refine ax_cV 83 dX3_sell_80 rfl ml_X3_134 (s_groupWouldPassCap (d := d - 1) (by omega) t j m ht hj) rfl (by omega) rfl rfl (Nat.le_of_ble_eq_true rfl) ?_
            refine ax_if_eq 96 86 dX3_sell_83 (by decide) rfl (fun c6 => ?_) (fun c6 => ?_)
            · rw [if_neg (fun z => of_decide_eq_false (bI_0.mp c6) z.2)]
              refine ax_aload_n 0 97 dX3_sell_96 rfl rfl rfl ?_
              refine ax_getf 100 dX3_sell_97 rfl fl_X3_19 rfl rfl ?_
              refine ax_iload_n 1 101 dX3_sell_100 rfl rfl rfl ?_
              refine ax_iload_n 2 102 dX3_sell_101 rfl rfl rfl ?_
              refine ax_iload 104 dX3_sell_102 rfl rfl ?_
              refine ax_ineg 105 dX3_sell_104 rfl ?_
              refine ax_cV 108 dX3_sell_105 rfl ml_X3_139 (s_addParts (d := d - 1) (by omega) t i _ ht hi) rfl (by omega) rfl rfl (Nat.le_of_ble_eq_true rfl) ?_
              refine ax_pop 109 dX3_sell_108 rfl rfl ?_
              refine ax_aload_n 0 110 dX3_sell_109 rfl rfl rfl ?_
              refine ax_getf 113 dX3_sell_110 rfl fl_X3_19 rfl rfl ?_
              refine ax_iload_n 1 114 dX3_sell_113 rfl rfl rfl ?_
              refine ax_iload_n 3 115 dX3_sell_114 rfl rfl rfl ?_
              refine ax_iload 117 dX3_sell_115 rfl rfl ?_
              refine ax_cV 120 dX3_sell_117 rfl ml_X3_139 (s_addParts (d := d - 1) (by omega) t j _ ht hj) rfl (by omega) rfl rfl (Nat.le_of_ble_eq_true rfl) ?_
              refine ax_pop 121 dX3_sell_120 rfl rfl ?_
              exact ax_vret dX3_sell_121 rfl rfl
            · rw [if_pos ⟨bI_0.mp c5, of_decide_eq_true (bI_n0.mp c6)⟩]
              exact ax_throw th_X3_154_97 rfl (by omega) dX3_sell_86 dX3_sell_89 dX3_sell_90 dX3_sell_92 dX3_sell_95 (by omega) (by omega) rfl
        · rw [if_pos (Int32.not_le.mp c4)]
          exact ax_throw th_X3_149_97 rfl (by omega) dX3_sell_50 dX3_sell_53 dX3_sell_54 dX3_sell_56 dX3_sell_59 (by omega) (by omega) rfl
      · rw [show cSell q s a b m = (.inr IAE, q) by simp [cSell, h1, h2, bI_0.mp c3]]
        exact ax_throw th_X3_143_64 rfl (by omega) dX3_sell_26 dX3_sell_29 dX3_sell_30 dX3_sell_32 dX3_sell_35 (by omega) (by omega) rfl
def cPlace (q : Nat → Nat → Int32) (s v m : Int32) : ax_KO :=
  if isW s 0 3 = false then (.inr IAE, q) else if isW v 0 5 = false then (.inr IAE, q) else
  if m ≤ freeC (q 7) (q 6) (q 8) (tN s) (nI (tN (q 6 (tN v)))) (q 7 (6 * tN s + tN (q 6 (tN v)))) 6 then (if -(q 8 (6 * tN s + tN v)) ≤ m then (.inl (some (.int (q 8 (6 * tN s + tN v) + m))), qv q 8 (6 * tN s + tN v) (q 8 (6 * tN s + tN v) + m)) else (.inr ISE, q)) else (.inr ISE, q)
theorem c_place {G : ax_G} {d : Nat} {q : Nat → Nat → Int32} {r : ax_W} (hd : 9 ≤ d) (s v m : Int32) (ho : ∀ i, i < 6 → q 6 i = nI (tN (q 6 i)) ∧ tN (q 6 i) < 6) : ax_Met G M_X3_place d 1 6 [.ref 0, .int s, .int v, .int m] (wQ q ++ r) ((cPlace q s v m).1, wQ (cPlace q s v m).2 ++ r) := by
  refine ax_of rfl (by decide) (Nat.le_of_ble_eq_true rfl) ?_
  refine ax_iload_n 1 1 dX3_place_0 rfl rfl rfl ?_
  refine ax_cS 4 dX3_place_1 rfl ml_X3_55 (s_isSpecies (d := d - 1) (by omega) s) (by omega) rfl rfl (Nat.le_of_ble_eq_true rfl) ?_
  refine ax_if_eq 14 7 dX3_place_4 (by decide) rfl (fun c1 => ?_) (fun c1 => ?_)
  · rw [show cPlace q s v m = (.inr IAE, q) by simp [cPlace, bI_0.mp c1]]
    exact ax_throw th_X3_156_64 rfl (by omega) dX3_place_14 dX3_place_17 dX3_place_18 dX3_place_20 dX3_place_23 (by omega) (by omega) rfl
  · have h1 := bI_n0.mp c1
    refine ax_iload_n 2 8 dX3_place_7 rfl rfl rfl ?_
    refine ax_cS 11 dX3_place_8 rfl ml_X3_86 (s_isVessel (d := d - 1) (by omega) v) (by omega) rfl rfl (Nat.le_of_ble_eq_true rfl) ?_
    refine ax_if_ne 24 14 dX3_place_11 (by decide) rfl (fun c2 => ?_) (fun c2 => ?_)
    · have h2 := bI_n0.mp c2
      rw [show cPlace q s v m = if m ≤ freeC (q 7) (q 6) (q 8) (tN s) (nI (tN (q 6 (tN v)))) (q 7 (6 * tN s + tN (q 6 (tN v)))) 6 then (if -(q 8 (6 * tN s + tN v)) ≤ m then (.inl (some (.int (q 8 (6 * tN s + tN v) + m))), qv q 8 (6 * tN s + tN v) (q 8 (6 * tN s + tN v) + m)) else (.inr ISE, q)) else (.inr ISE, q) by simp only [cPlace, h1, h2, Bool.true_eq_false, if_false]]
      obtain ⟨t, ht, rfl, et⟩ := w3 h1
      obtain ⟨i, hi, rfl, ei⟩ := w5 h2
      rw [et, ei]
      obtain ⟨o1, o2⟩ := ho i hi
      refine ax_iload_n 3 25 dX3_place_24 rfl rfl rfl ?_
      refine ax_aload_n 0 26 dX3_place_25 rfl rfl rfl ?_
      refine ax_getf 29 dX3_place_26 rfl fl_X3_19 rfl rfl ?_
      refine ax_iload_n 1 30 dX3_place_29 rfl rfl rfl ?_
      refine ax_aload_n 0 31 dX3_place_30 rfl rfl rfl ?_
      refine ax_getf 34 dX3_place_31 rfl fl_X3_19 rfl rfl ?_
      refine ax_iload_n 2 35 dX3_place_34 rfl rfl rfl ?_
      refine ax_cV 38 dX3_place_35 rfl ml_X3_158 (s_ownerOf (d := d - 1) i hi) rfl (by omega) rfl rfl (Nat.le_of_ble_eq_true rfl) ?_
      rw [o1]
      have o3 : tN (nI (tN (q 6 i))) = tN (q 6 i) := by rw [← o1]
      rw [o3]
      refine ax_cV 41 dX3_place_38 rfl ml_X3_145 (s_freeParts (d := d - 1) (by omega) t _ ht o2) rfl (by omega) rfl rfl (Nat.le_of_ble_eq_true rfl) ?_
      refine ax_icmp_le 54 44 dX3_place_41 (by decide) rfl (fun c4 => ?_) (fun c4 => ?_)
      · rw [if_pos c4]
        refine ax_iload_n 3 55 dX3_place_54 rfl rfl rfl ?_
        refine ax_aload_n 0 56 dX3_place_55 rfl rfl rfl ?_
        refine ax_getf 59 dX3_place_56 rfl fl_X3_19 rfl rfl ?_
        refine ax_iload_n 1 60 dX3_place_59 rfl rfl rfl ?_
        refine ax_iload_n 2 61 dX3_place_60 rfl rfl rfl ?_
        refine ax_cV 64 dX3_place_61 rfl ml_X3_161 (s_placedOn (d := d - 1) t i ht hi) rfl (by omega) rfl rfl (Nat.le_of_ble_eq_true rfl) ?_
        refine ax_ineg 65 dX3_place_64 rfl ?_
        refine ax_icmp_ge 78 68 dX3_place_65 (by decide) rfl (fun c5 => ?_) (fun c5 => ?_)
        · rw [if_pos c5]
          refine ax_aload_n 0 79 dX3_place_78 rfl rfl rfl ?_
          refine ax_getf 82 dX3_place_79 rfl fl_X3_19 rfl rfl ?_
          refine ax_iload_n 1 83 dX3_place_82 rfl rfl rfl ?_
          refine ax_iload_n 2 84 dX3_place_83 rfl rfl rfl ?_
          refine ax_iload_n 3 85 dX3_place_84 rfl rfl rfl ?_
          refine ax_cV 88 dX3_place_85 rfl ml_X3_166 (s_addPlaced (d := d - 1) (by omega) t i m ht hi) rfl (by omega) rfl rfl (Nat.le_of_ble_eq_true rfl) ?_
          exact ax_iret dX3_place_88 rfl rfl
        · rw [if_neg c5]
          exact ax_throw th_X3_164_97 rfl (by omega) dX3_place_68 dX3_place_71 dX3_place_72 dX3_place_74 dX3_place_77 (by omega) (by omega) rfl
      · rw [if_neg c4]
        exact ax_throw th_X3_149_97 rfl (by omega) dX3_place_44 dX3_place_47 dX3_place_48 dX3_place_50 dX3_place_53 (by omega) (by omega) rfl
    · rw [show cPlace q s v m = (.inr IAE, q) by simp [cPlace, h1, bI_0.mp c2]]
      exact ax_throw th_X3_156_64 rfl (by omega) dX3_place_14 dX3_place_17 dX3_place_18 dX3_place_20 dX3_place_23 (by omega) (by omega) rfl
