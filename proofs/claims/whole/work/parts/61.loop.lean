/-! the law's loop -/
def RSpec (R : ax_R) : Prop := (∀ q p : Nat → Nat → Int32, R q p → ∃ y n : Nat, bsF q p y n) ∧ R q0F p0F ∧ st_species R ∧ st_factor R ∧ st_vessel R ∧ st_link R ∧ st_unlink R ∧ st_issue R ∧ st_sell R ∧ st_place R ∧ st_open R ∧ st_end R ∧ st_lease R ∧ st_land R ∧ st_equivalent R ∧ st_strike R ∧ st_reopen R ∧ st_account R ∧ st_levy R ∧ st_held R ∧ st_event R ∧ st_about R
theorem and31 (x : Int32) : ∃ c : Nat, c < 32 ∧ x &&& 31 = nI c := by
  refine ⟨(x &&& 31).toBitVec.toNat, ?_, ?_⟩
  · have h : (x &&& 31).toBitVec.toNat ≤ 31 := by
      rw [Int32.toBitVec_and, BitVec.toNat_and]
      exact Nat.and_le_right
    omega
  · apply Int32.toBitVec_inj.mp
    show (x &&& 31).toBitVec = (Int32.ofNat (x &&& 31).toBitVec.toNat).toBitVec
    rw [Int32.toBitVec_ofNat', BitVec.ofNat_toNat, BitVec.setWidth_eq]
section LOOP
variable {G : ax_G} {R : ax_R}
theorem len7_toInt {L : Nat} (hL : L ≤ 3584) : (Int32.ofNat L - 7).toInt = (L : Int) - 7 := by
  rw [Int32.toInt_sub, show (Int32.ofNat L).toInt = (L : Int) from nI_toInt (by omega), show (7 : Int32).toInt = 7 from rfl, Int.bmod_eq_of_le (by omega) (by omega)]
theorem len7a {L j : Nat} (hL : L ≤ 3584) (hj : L < 7 * j + 7) (h2 : 7 * j < 4000) : Int32.ofNat L - 7 < nI (7 * j) := by
  rw [Int32.lt_iff_toInt_lt, len7_toInt hL, nI_toInt (by omega)]
  omega
theorem len7b {L j : Nat} (hL : L ≤ 3584) (hj : 7 * j + 7 ≤ L) : ¬ Int32.ofNat L - 7 < nI (7 * j) := by
  rw [Int32.lt_iff_toInt_lt, len7_toInt hL, nI_toInt (by omega)]
  omega
theorem law_loop (hS : RSpec R) (hL : G.L ≤ 3584) : ∀ (k j : Nat) (q p : Nat → Nat → Int32) (l o : Nat → Int64), R q p → j + k = G.L / 7 → okL G k (6 * k) 23 j q p l o := by
  intro k
  induction k with
  | zero =>
    intro j q p l o hR hj
    refine ⟨(.inl (some (.int 1)), wL q p l o), rfl, ?_⟩
    refine ax_iload 25 dL_law_23 rfl rfl ?_
    refine ax_aload_nR 0 26 dL_law_25 rfl rfl rfl ?_
    refine ax_slen 27 dL_law_26 rfl ?_
    refine ax_bipush (v := 7) 29 dL_law_27 rfl (by decide) ?_
    refine ax_isub 30 dL_law_29 rfl ?_
    refine ax_icmp_gt 1527 33 dL_law_30 (by decide) rfl (fun c => ?_) (fun c => ?_)
    · refine ax_iconst (v := 1) 1528 dL_law_1527 rfl (by decide) ?_
      exact ax_zret dL_law_1528 rfl (by decide) rfl
    · exact absurd (len7a hL (by omega) (by omega)) c
  | succ k ih =>
    intro j q p l o hR hj
    obtain ⟨y, n, hb⟩ := hS.1 q p hR
    have hj7 : 7 * j + 7 ≤ G.L := by omega
    have K : ∀ (q' p' : Nat → Nat → Int32) (l' o' : Nat → Int64), R q' p' → okL G k (6 * k) 1521 j q' p' l' o' := by
      intro q' p' l' o' hR'
      obtain ⟨O, hO, h⟩ := ih (j + 1) q' p' l' o' hR' (by omega)
      refine ⟨O, hO, ?_⟩
      refine ax_iinc (v := (_ : Int32) + 7) 1524 dL_law_1521 rfl rfl rfl (Nat.le_of_ble_eq_true rfl) ?_
      refine ax_goto 23 dL_law_1524 (by decide) ?_
      exact ax_lvk h ⟨rfl, rfl, rfl, rfl, gI (by rw [show (7 : Int32) = nI 7 from by decide, nI_add]; rfl), trivial⟩
    have go : ∀ T : Nat, (∀ O : ax_O, ax_Ex G M_L_law 11 (k + 1) (6 * (k + 1)) T (lvL G j) [] (wL q p l o) O → ax_Ex G M_L_law 11 (k + 1) (6 * (k + 1)) 40 (lvL G j) [.int (G.xs (7 * j) &&& 31)] (wL q p l o) O) → okL G (k + 1) (6 * (k + 1)) T j q p l o → okL G (k + 1) (6 * (k + 1)) 23 j q p l o := by
      intro T h1 h2
      obtain ⟨O, hO, h3⟩ := h2
      refine ⟨O, hO, ?_⟩
      refine ax_iload 25 dL_law_23 rfl rfl ?_
      refine ax_aload_nR 0 26 dL_law_25 rfl rfl rfl ?_
      refine ax_slen 27 dL_law_26 rfl ?_
      refine ax_bipush (v := 7) 29 dL_law_27 rfl (by decide) ?_
      refine ax_isub 30 dL_law_29 rfl ?_
      refine ax_icmp_gt 1527 33 dL_law_30 (by decide) rfl (fun c => ?_) (fun c => ?_)
      · exact absurd c (len7b hL hj7)
      · refine ax_aload_nR 0 34 dL_law_33 rfl rfl rfl ?_
        refine ax_iload 36 dL_law_34 rfl rfl ?_
        refine ax_sldN 37 dL_law_36 rfl rfl (by omega) (by omega) ?_
        refine ax_bipush (v := 31) 39 dL_law_37 rfl (by decide) ?_
        refine ax_iand 40 dL_law_39 rfl ?_
        exact h1 O h3
    have e1 : k + 1 = 1 + k := by omega
    have e6 : 6 * (k + 1) = 6 + 6 * k := by omega
    obtain ⟨c, hc, ec⟩ := and31 (G.xs (7 * j))
    obtain ⟨-, -, s0, s1, s2, s3, s4, s5, s6, s7, s8, s9, s10, s11, s12, s13, s14, s15, s16, s17, s18, s19⟩ := hS
    rw [ec] at go
    match c, hc with
    | 0, _ =>
      refine go 136 (fun O h => ax_tableIn (off := 96) 136 dL_law_40 (by decide) (by decide) (by decide) (by decide) h) ?_
      rw [e6, e1]
      exact law_species s0 y n hb hR j hj7 hL K
    | 1, _ =>
      refine go 196 (fun O h => ax_tableIn (off := 156) 196 dL_law_40 (by decide) (by decide) (by decide) (by decide) h) ?_
      rw [e6, e1]
      exact law_factor s1 y n hb hR j hj7 hL K
    | 2, _ =>
      refine go 256 (fun O h => ax_tableIn (off := 216) 256 dL_law_40 (by decide) (by decide) (by decide) (by decide) h) ?_
      rw [e6, e1]
      exact law_vessel s2 y n hb hR j hj7 hL K
    | 3, _ =>
      refine go 304 (fun O h => ax_tableIn (off := 264) 304 dL_law_40 (by decide) (by decide) (by decide) (by decide) h) ?_
      rw [e6, e1]
      exact law_link s3 y n hb hR j hj7 hL K
    | 4, _ =>
      refine go 352 (fun O h => ax_tableIn (off := 312) 352 dL_law_40 (by decide) (by decide) (by decide) (by decide) h) ?_
      rw [e6, e1]
      exact law_unlink s4 y n hb hR j hj7 hL K
    | 5, _ =>
      refine go 400 (fun O h => ax_tableIn (off := 360) 400 dL_law_40 (by decide) (by decide) (by decide) (by decide) h) ?_
      rw [e6, e1]
      exact law_issue s5 y n hb hR j hj7 hL K
    | 6, _ =>
      refine go 480 (fun O h => ax_tableIn (off := 440) 480 dL_law_40 (by decide) (by decide) (by decide) (by decide) h) ?_
      rw [e6, e1]
      exact law_sell s6 y n hb hR j hj7 hL K
    | 7, _ =>
      refine go 552 (fun O h => ax_tableIn (off := 512) 552 dL_law_40 (by decide) (by decide) (by decide) (by decide) h) ?_
      rw [e6, e1]
      exact law_place s7 y n hb hR j hj7 hL K
    | 8, _ =>
      refine go 632 (fun O h => ax_tableIn (off := 592) 632 dL_law_40 (by decide) (by decide) (by decide) (by decide) h) ?_
      rw [e6, e1]
      exact law_open s8 y n hb hR j hj7 hL K
    | 9, _ =>
      refine go 724 (fun O h => ax_tableIn (off := 684) 724 dL_law_40 (by decide) (by decide) (by decide) (by decide) h) ?_
      rw [e6, e1]
      exact law_end s9 y n hb hR j hj7 hL K
    | 10, _ =>
      refine go 768 (fun O h => ax_tableIn (off := 728) 768 dL_law_40 (by decide) (by decide) (by decide) (by decide) h) ?_
      rw [e6, e1]
      exact law_lease s10 y n hb hR j hj7 hL K
    | 11, _ =>
      refine go 860 (fun O h => ax_tableIn (off := 820) 860 dL_law_40 (by decide) (by decide) (by decide) (by decide) h) ?_
      rw [e6, e1]
      exact law_land s11 y n hb hR j hj7 hL K
    | 12, _ =>
      refine go 994 (fun O h => ax_tableIn (off := 954) 994 dL_law_40 (by decide) (by decide) (by decide) (by decide) h) ?_
      rw [e6, e1]
      exact law_equivalent s12 y n hb hR j hj7 hL K
    | 13, _ =>
      refine go 1086 (fun O h => ax_tableIn (off := 1046) 1086 dL_law_40 (by decide) (by decide) (by decide) (by decide) h) ?_
      rw [e6, e1]
      exact law_strike s13 y n hb hR j hj7 hL K
    | 14, _ =>
      refine go 1122 (fun O h => ax_tableIn (off := 1082) 1122 dL_law_40 (by decide) (by decide) (by decide) (by decide) h) ?_
      rw [e6, e1]
      exact law_reopen s14 y n hb hR j hj7 hL K
    | 15, _ =>
      refine go 1158 (fun O h => ax_tableIn (off := 1118) 1158 dL_law_40 (by decide) (by decide) (by decide) (by decide) h) ?_
      rw [e6, e1]
      exact law_account s15 y n hb hR j hj7 hL K
    | 16, _ =>
      refine go 1250 (fun O h => ax_tableIn (off := 1210) 1250 dL_law_40 (by decide) (by decide) (by decide) (by decide) h) ?_
      rw [e6, e1]
      exact law_levy s16 y n hb hR j hj7 hL K
    | 17, _ =>
      refine go 1317 (fun O h => ax_tableIn (off := 1277) 1317 dL_law_40 (by decide) (by decide) (by decide) (by decide) h) ?_
      rw [e6, e1]
      exact law_held s17 y n hb hR j hj7 hL K
    | 18, _ =>
      refine go 1397 (fun O h => ax_tableIn (off := 1357) 1397 dL_law_40 (by decide) (by decide) (by decide) (by decide) h) ?_
      rw [e6, e1]
      exact law_event s18 y n hb hR j hj7 hL K
    | 19, _ =>
      refine go 1465 (fun O h => ax_tableIn (off := 1425) 1465 dL_law_40 (by decide) (by decide) (by decide) (by decide) h) ?_
      rw [e6, e1]
      exact law_about s19 y n hb hR j hj7 hL K
    | c + 20, hc =>
      refine go 1521 (fun O h => ax_tableOut 1521 dL_law_40 (Or.inr ?_) (by decide) h) ?_
      · rw [nI_toInt (by omega)]
        omega
      · obtain ⟨O, hO, h⟩ := K q p l o hR
        exact ⟨O, hO, ax_more (by omega) (by omega) h⟩
end LOOP
