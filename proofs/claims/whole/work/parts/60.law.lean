/-! the law over an invariant R between the class's state and the reference's -/
def bsF (q p : Nat → Nat → Int32) (y n : Nat) : Prop := q 0 6 = nI y ∧ y ≤ 8 ∧ q 20 9 = nI n ∧ n ≤ 200 ∧ p 31 9 = nI y ∧ p 31 20 = nI n ∧ (∀ i, i < n → evOK q i) ∧ (∀ i, i < n → evOK (eP p) i) ∧ (∀ i, i < n → 1 ≤ yr q i ∧ yr q i ≤ y) ∧ (∀ i, i < 6 → q 6 i = nI (tN (q 6 i)) ∧ tN (q 6 i) < 6) ∧ (∀ v, v < 6 → ∃ j, j < 6 ∧ p 35 v = nI j) ∧ (∀ i, i < 4 → ¬ q 1 i = 0) ∧ (∀ s, s < 4 → ¬ p 32 s = 0) ∧ (∀ k, ∃ x : Bool, p 38 k = bI x)
abbrev ax_R : Type := (Nat → Nat → Int32) → (Nat → Nat → Int32) → Prop
def st_species (R : ax_R) : Prop := ∀ (q p : Nat → Nat → Int32) (y n : Nat), R q p → bsF q p y n → ∀ a0 a1 a2 : Int32, R (cSpecies q a0 a1 a2).2 (mSpecies p a0 a1 a2) ∧ kO IAE (cSpecies q a0 a1 a2).1 = (mSpecies p a0 a1 a2) 31 0 ∧ ((cSpecies q a0 a1 a2).1 = .inl none ∨ (cSpecies q a0 a1 a2).1 = .inr IAE)
def st_factor (R : ax_R) : Prop := ∀ (q p : Nat → Nat → Int32) (y n : Nat), R q p → bsF q p y n → ∀ a0 a1 a2 : Int32, R (cFactor q a0 a1 a2).2 (mFactor p a0 a1 a2) ∧ kO IAE (cFactor q a0 a1 a2).1 = (mFactor p a0 a1 a2) 31 0 ∧ ((cFactor q a0 a1 a2).1 = .inl none ∨ (cFactor q a0 a1 a2).1 = .inr IAE)
def st_vessel (R : ax_R) : Prop := ∀ (q p : Nat → Nat → Int32) (y n : Nat), R q p → bsF q p y n → ∀ a0 a1 : Int32, R (cVessel q a0 a1).2 (mVessel p a0 a1) ∧ kO IAE (cVessel q a0 a1).1 = (mVessel p a0 a1) 31 0 ∧ ((cVessel q a0 a1).1 = .inl none ∨ (cVessel q a0 a1).1 = .inr IAE ∨ (cVessel q a0 a1).1 = .inr ISE)
def st_link (R : ax_R) : Prop := ∀ (q p : Nat → Nat → Int32) (y n : Nat), R q p → bsF q p y n → ∀ a0 a1 : Int32, R (cLink q a0 a1).2 (mLink p a0 a1) ∧ kO IAE (cLink q a0 a1).1 = (mLink p a0 a1) 31 0 ∧ ((cLink q a0 a1).1 = .inl none ∨ (cLink q a0 a1).1 = .inr IAE ∨ (cLink q a0 a1).1 = .inr ISE)
def st_unlink (R : ax_R) : Prop := ∀ (q p : Nat → Nat → Int32) (y n : Nat), R q p → bsF q p y n → ∀ a0 a1 : Int32, R (cUnlink q a0 a1).2 (mUnlink p a0 a1) ∧ kO IAE (cUnlink q a0 a1).1 = (mUnlink p a0 a1) 31 0 ∧ ((cUnlink q a0 a1).1 = .inl none ∨ (cUnlink q a0 a1).1 = .inr IAE ∨ (cUnlink q a0 a1).1 = .inr ISE)
def st_issue (R : ax_R) : Prop := ∀ (q p : Nat → Nat → Int32) (y n : Nat), R q p → bsF q p y n → ∀ a0 a1 a2 : Int32, R (cIssue q a0 a1 a2).2 (mIssue p a0 a1 a2).2 ∧ kO IAE (cIssue q a0 a1 a2).1 = (mIssue p a0 a1 a2).2 31 0 ∧ ((∃ x : Int32, (cIssue q a0 a1 a2).1 = .inl (some (.int x)) ∧ (mIssue p a0 a1 a2).1 = x) ∨ (cIssue q a0 a1 a2).1 = .inr IAE ∨ (cIssue q a0 a1 a2).1 = .inr ISE)
def st_sell (R : ax_R) : Prop := ∀ (q p : Nat → Nat → Int32) (y n : Nat), R q p → bsF q p y n → ∀ a0 a1 a2 a3 : Int32, R (cSell q a0 a1 a2 a3).2 (mSell p a0 a1 a2 a3) ∧ kO IAE (cSell q a0 a1 a2 a3).1 = (mSell p a0 a1 a2 a3) 31 0 ∧ ((cSell q a0 a1 a2 a3).1 = .inl none ∨ (cSell q a0 a1 a2 a3).1 = .inr IAE ∨ (cSell q a0 a1 a2 a3).1 = .inr ISE)
def st_place (R : ax_R) : Prop := ∀ (q p : Nat → Nat → Int32) (y n : Nat), R q p → bsF q p y n → ∀ a0 a1 a2 : Int32, R (cPlace q a0 a1 a2).2 (mPlace p a0 a1 a2).2 ∧ kO IAE (cPlace q a0 a1 a2).1 = (mPlace p a0 a1 a2).2 31 0 ∧ ((∃ x : Int32, (cPlace q a0 a1 a2).1 = .inl (some (.int x)) ∧ (mPlace p a0 a1 a2).1 = x) ∨ (cPlace q a0 a1 a2).1 = .inr IAE ∨ (cPlace q a0 a1 a2).1 = .inr ISE)
def st_open (R : ax_R) : Prop := ∀ (q p : Nat → Nat → Int32) (y n : Nat), R q p → bsF q p y n → ∀ l : Nat → Int64, ∀ a0 a1 a2 a3 : Int32, R (cOpen q a0 a1 a2 a3).2 (mOpen p l n y a0 a1 a2 a3).2.1 ∧ kO IAE (cOpen q a0 a1 a2 a3).1 = (mOpen p l n y a0 a1 a2 a3).2.1 31 0 ∧ ((∃ x : Int32, (cOpen q a0 a1 a2 a3).1 = .inl (some (.int x)) ∧ (mOpen p l n y a0 a1 a2 a3).1 = x) ∨ (cOpen q a0 a1 a2 a3).1 = .inr IAE ∨ (cOpen q a0 a1 a2 a3).1 = .inr ISE)
def st_end (R : ax_R) : Prop := ∀ (q p : Nat → Nat → Int32) (y n : Nat), R q p → bsF q p y n → R (cEnd q).2 (mEnd p n y).2 ∧ kO ISE (cEnd q).1 = (mEnd p n y).2 31 0 ∧ ((∃ x : Int32, (cEnd q).1 = .inl (some (.int x)) ∧ (mEnd p n y).1 = x) ∨ (cEnd q).1 = .inr ISE)
def st_lease (R : ax_R) : Prop := ∀ (q p : Nat → Nat → Int32) (y n : Nat), R q p → bsF q p y n → ∀ a0 a1 a2 a3 : Int32, R (cLease q a0 a1 a2 a3).2 (mLease p n y a0 a1 a2 a3).2 ∧ kO IAE (cLease q a0 a1 a2 a3).1 = (mLease p n y a0 a1 a2 a3).2 31 0 ∧ ((∃ x : Int32, (cLease q a0 a1 a2 a3).1 = .inl (some (.int x)) ∧ (mLease p n y a0 a1 a2 a3).1 = x) ∨ (cLease q a0 a1 a2 a3).1 = .inr IAE ∨ (cLease q a0 a1 a2 a3).1 = .inr ISE)
def st_land (R : ax_R) : Prop := ∀ (q p : Nat → Nat → Int32) (y n : Nat), R q p → bsF q p y n → ∀ a0 a1 a2 a3 a4 a5 : Int32, (a5 = 0 ∨ a5 = 1) → R (cLand q a0 a1 a2 a3 a4 a5).2 (mLand p n y a0 a1 a2 a3 a4 a5).2 ∧ kO IAE (cLand q a0 a1 a2 a3 a4 a5).1 = (mLand p n y a0 a1 a2 a3 a4 a5).2 31 0 ∧ ((∃ x : Int32, (cLand q a0 a1 a2 a3 a4 a5).1 = .inl (some (.int x)) ∧ (mLand p n y a0 a1 a2 a3 a4 a5).1 = x) ∨ (cLand q a0 a1 a2 a3 a4 a5).1 = .inr IAE ∨ (cLand q a0 a1 a2 a3 a4 a5).1 = .inr ISE)
def st_equivalent (R : ax_R) : Prop := ∀ (q p : Nat → Nat → Int32) (y n : Nat), R q p → bsF q p y n → ∀ a0 a1 a2 a3 : Int32, R (cEquivalent q a0 a1 a2 a3).2 (mEquivalent p n y a0 a1 a2 a3).2 ∧ kO IAE (cEquivalent q a0 a1 a2 a3).1 = (mEquivalent p n y a0 a1 a2 a3).2 31 0 ∧ ((∃ x : Int32, (cEquivalent q a0 a1 a2 a3).1 = .inl (some (.int x)) ∧ (mEquivalent p n y a0 a1 a2 a3).1 = x) ∨ (cEquivalent q a0 a1 a2 a3).1 = .inr IAE ∨ (cEquivalent q a0 a1 a2 a3).1 = .inr ISE)
def st_strike (R : ax_R) : Prop := ∀ (q p : Nat → Nat → Int32) (y n : Nat), R q p → bsF q p y n → ∀ a0 : Int32, R (cStrike q a0).2 (mStrike p n y a0) ∧ kO IOE (cStrike q a0).1 = (mStrike p n y a0) 31 0 ∧ ((cStrike q a0).1 = .inl none ∨ (cStrike q a0).1 = .inr IOE ∨ (cStrike q a0).1 = .inr ISE)
def st_reopen (R : ax_R) : Prop := ∀ (q p : Nat → Nat → Int32) (y n : Nat), R q p → bsF q p y n → ∀ a0 : Int32, R (cReopen q a0).2 (mReopen p a0) ∧ kO IAE (cReopen q a0).1 = (mReopen p a0) 31 0 ∧ ((cReopen q a0).1 = .inl none ∨ (cReopen q a0).1 = .inr IAE ∨ (cReopen q a0).1 = .inr ISE)
def st_account (R : ax_R) : Prop := ∀ (q p : Nat → Nat → Int32) (y n : Nat), R q p → bsF q p y n → ∀ a0 a1 a2 a3 : Int32, R (cAccount q a0 a1 a2 a3).2 (mAccount p a0 a1 a2 a3).2 ∧ kO IAE (cAccount q a0 a1 a2 a3).1 = (mAccount p a0 a1 a2 a3).2 31 0 ∧ ((∃ x : Int32, (cAccount q a0 a1 a2 a3).1 = .inl (some (.int x)) ∧ (mAccount p a0 a1 a2 a3).1 = x) ∨ (cAccount q a0 a1 a2 a3).1 = .inr IAE)
def st_levy (R : ax_R) : Prop := ∀ (q p : Nat → Nat → Int32) (y n : Nat), R q p → bsF q p y n → ∀ a0 a1 : Int32, R (cLevy q a0 a1).2 (mLevy p a0 a1).2 ∧ kO IAE (cLevy q a0 a1).1 = (mLevy p a0 a1).2 31 0 ∧ ((∃ x : Int64, (cLevy q a0 a1).1 = .inl (some (.long x)) ∧ (mLevy p a0 a1).1 = x) ∨ (cLevy q a0 a1).1 = .inr IAE)
def st_held (R : ax_R) : Prop := ∀ (q p : Nat → Nat → Int32) (y n : Nat), R q p → bsF q p y n → ∀ a0 a1 a2 : Int32, R (cHeld q a0 a1 a2).2 (mHeld p a0 a1 a2).2 ∧ kO IAE (cHeld q a0 a1 a2).1 = (mHeld p a0 a1 a2).2 31 0 ∧ ((∃ x : Int32, (cHeld q a0 a1 a2).1 = .inl (some (.int x)) ∧ (mHeld p a0 a1 a2).1 = x) ∨ (cHeld q a0 a1 a2).1 = .inr IAE)
def st_event (R : ax_R) : Prop := ∀ (q p : Nat → Nat → Int32) (y n : Nat), R q p → bsF q p y n → ∀ a0 a1 : Int32, R (cEvent q a0 a1).2 (mEvent p a0 a1).2 ∧ kO IOE (cEvent q a0 a1).1 = (mEvent p a0 a1).2 31 0 ∧ ((∃ x : Int32, (cEvent q a0 a1).1 = .inl (some (.int x)) ∧ (mEvent p a0 a1).1 = x) ∨ (cEvent q a0 a1).1 = .inr IOE ∨ (cEvent q a0 a1).1 = .inr IAE)
def st_about (R : ax_R) : Prop := ∀ (q p : Nat → Nat → Int32) (y n : Nat), R q p → bsF q p y n → ∀ a0 : Int32, R (cAbout q a0).2 (mAbout p n a0).2 ∧ kO IAE (cAbout q a0).1 = (mAbout p n a0).2 31 0 ∧ ((∃ x : Int32, (cAbout q a0).1 = .inl (some (.int x)) ∧ (mAbout p n a0).1 = x) ∨ (cAbout q a0).1 = .inr IAE)
section LAW
variable {G : ax_G} {R : ax_R} {q p : Nat → Nat → Int32} {l o : Nat → Int64} {nc ns : Nat}
theorem ax_sldN {M : ax_M} {d nc ns pc : Nat} {lv : ax_V} {st : List Value} {w : ax_W} {o : ax_O} {x : Int32} {j : Nat} (q : Nat) (hd : decode M.2.1 pc = .ok (.iaload, 1)) (hq : pc + 1 = q) (hx : x = nI j) (hj : j < G.L) (hL : G.L < 2 ^ 31) (k : ax_Ex G M d nc ns q lv (.int (G.xs j) :: st) w o) : ax_Ex G M d nc ns pc lv (.int x :: .retAddr G.b :: st) w o := by
  subst hx
  refine ax_sld q hd hq (vp_in_nI hj hL) ?_
  rw [nI_clamp (by omega)]
  exact k
theorem ia (j c : Nat) : nI j + nI c = nI (j + c) := nI_add j c
theorem ax_cong {M : ax_M} {d nc ns pc : Nat} {lv : ax_V} {st : List Value} {w : ax_W} {o : ax_O} (k : ax_Ex G M d nc ns pc lv st w o) : ax_Ex G M d nc ns pc lv st w o := k
abbrev wL (q p : Nat → Nat → Int32) (l o : Nat → Int64) : ax_W := wQ q ++ (wM p l ++ [.inl (2, 1, .inr o)])
abbrev lvL (G : ax_G) (j : Nat) : ax_V := [(0, .retAddr G.b), (1, .ref 0), (2, .ref 31), (3, .ref 59), (4, .int (nI (7 * j)))]
def okL (G : ax_G) (nc ns pc j : Nat) (q p : Nat → Nat → Int32) (l o : Nat → Int64) : Prop := ∃ O : ax_O, O.1 = .inl (some (.int 1)) ∧ ax_Ex G M_L_law 11 nc ns pc (lvL G j) [] (wL q p l o) O
theorem ax_lald0 {M : ax_M} {d nc ns pc : Nat} {lv : ax_V} {st : List Value} {O : ax_O} (z : Nat) (hd : decode M.2.1 pc = .ok (.laload, 1)) (hq : pc + 1 = z) (k : ax_Ex G M d nc ns z lv (.long (o 0) :: st) (wL q p l o) O) : ax_Ex G M d nc ns pc lv (.int 0 :: .ref 59 :: st) (wL q p l o) O :=
  ax_laldN (j := 0) z hd hq rfl rfl (by decide) (by decide) k
theorem law_species (hS : st_species R) (y n : Nat) (hb : bsF q p y n) (hR : R q p) (j : Nat) (hj : 7 * j + 7 ≤ G.L) (hL : G.L ≤ 3584) (K : ∀ (q' p' : Nat → Nat → Int32) (l' o' : Nat → Int64), R q' p' → okL G nc ns 1521 j q' p' l' o') : okL G (1 + nc) (6 + ns) 136 j q p l o := by
  have hC := c_species (G := G) (d := 9) (q := q) (r := wM p l ++ [.inl (2, 1, .inr o)]) (by omega) (G.xs (7 * j + 1)) (G.xs (7 * j + 2)) (G.xs (7 * j + 3))
  obtain ⟨h1, h2, h3⟩ := hS q p y n hR hb (G.xs (7 * j + 1)) (G.xs (7 * j + 2)) (G.xs (7 * j + 3))
  have hM := fun (q' : Nat → Nat → Int32) (o' : Nat → Int64) => m_species (G := G) (d := 10) (q := q') (p := p) (l := l) (r := [.inl (2, 1, .inr o')]) (by omega)  (G.xs (7 * j + 1)) (G.xs (7 * j + 2)) (G.xs (7 * j + 3))
  generalize (cSpecies q (G.xs (7 * j + 1)) (G.xs (7 * j + 2)) (G.xs (7 * j + 3))) = z at hC h1 h2 h3
  generalize (mSpecies p (G.xs (7 * j + 1)) (G.xs (7 * j + 2)) (G.xs (7 * j + 3))) = w at hM h1 h2
  obtain ⟨O, hO, K⟩ := K z.2 w l (oO o z.1) h1
  refine ⟨O, hO, ?_⟩
  refine ax_aload_n 1 137 dL_law_136 rfl rfl rfl ?_
  refine ax_aload_nR 0 138 dL_law_137 rfl rfl rfl ?_
  refine ax_iload 140 dL_law_138 rfl rfl ?_
  refine ax_iconst (v := 1) 141 dL_law_140 rfl (by decide) ?_
  refine ax_iadd 142 dL_law_141 rfl ?_
  refine ax_sldN 143 dL_law_142 rfl (ia (7 * j) 1) (by omega) (by omega) ?_
  refine ax_aload_nR 0 144 dL_law_143 rfl rfl rfl ?_
  refine ax_iload 146 dL_law_144 rfl rfl ?_
  refine ax_iconst (v := 2) 147 dL_law_146 rfl (by decide) ?_
  refine ax_iadd 148 dL_law_147 rfl ?_
  refine ax_sldN 149 dL_law_148 rfl (ia (7 * j) 2) (by omega) (by omega) ?_
  refine ax_aload_nR 0 150 dL_law_149 rfl rfl rfl ?_
  refine ax_iload 152 dL_law_150 rfl rfl ?_
  refine ax_iconst (v := 3) 153 dL_law_152 rfl (by decide) ?_
  refine ax_iadd 154 dL_law_153 rfl ?_
  refine ax_sldN 155 dL_law_154 rfl (ia (7 * j) 3) (by omega) (by omega) ?_
  refine ax_inv0 (nc2 := nc) (ns2 := ns) 158 dL_law_155 rfl ml_L_90 (w_species (d := 10) (by omega) (G.xs (7 * j + 1)) (G.xs (7 * j + 2)) (G.xs (7 * j + 3)) z hC h3) (by omega) rfl rfl (Nat.le_of_ble_eq_true rfl) (by omega) (by omega) ?_
  refine ax_istore 160 dL_law_158 rfl (Nat.le_of_ble_eq_true rfl) ?_
  refine ax_aload_n 2 161 dL_law_160 rfl rfl rfl ?_
  refine ax_aload_nR 0 162 dL_law_161 rfl rfl rfl ?_
  refine ax_iload 164 dL_law_162 rfl rfl ?_
  refine ax_iconst (v := 1) 165 dL_law_164 rfl (by decide) ?_
  refine ax_iadd 166 dL_law_165 rfl ?_
  refine ax_sldN 167 dL_law_166 rfl (ia (7 * j) 1) (by omega) (by omega) ?_
  refine ax_aload_nR 0 168 dL_law_167 rfl rfl rfl ?_
  refine ax_iload 170 dL_law_168 rfl rfl ?_
  refine ax_iconst (v := 2) 171 dL_law_170 rfl (by decide) ?_
  refine ax_iadd 172 dL_law_171 rfl ?_
  refine ax_sldN 173 dL_law_172 rfl (ia (7 * j) 2) (by omega) (by omega) ?_
  refine ax_aload_nR 0 174 dL_law_173 rfl rfl rfl ?_
  refine ax_iload 176 dL_law_174 rfl rfl ?_
  refine ax_iconst (v := 3) 177 dL_law_176 rfl (by decide) ?_
  refine ax_iadd 178 dL_law_177 rfl ?_
  refine ax_sldN 179 dL_law_178 rfl (ia (7 * j) 3) (by omega) (by omega) ?_
  refine ax_cVv 182 dL_law_179 rfl ml_L_95 (hM z.2 (oO o z.1)) rfl (by omega) rfl rfl (Nat.le_of_ble_eq_true rfl) ?_
  refine ax_aload_n 2 183 dL_law_182 rfl rfl rfl ?_
  refine ax_cV 186 dL_law_183 rfl ml_L_96 (m_thrown (d := 10)) rfl (by omega) rfl rfl (Nat.le_of_ble_eq_true rfl) ?_
  refine ax_iload 188 dL_law_186 rfl rfl ?_
  refine ax_icmp_eq 193 191 dL_law_188 (by decide) rfl (fun c => ?_) (fun c => ?_)
  · refine ax_goto 1521 dL_law_193 (by decide) ?_
    exact ax_lvk K ⟨rfl, rfl, rfl, rfl, rfl, trivial⟩
  · exact absurd h2.symm c
theorem law_factor (hS : st_factor R) (y n : Nat) (hb : bsF q p y n) (hR : R q p) (j : Nat) (hj : 7 * j + 7 ≤ G.L) (hL : G.L ≤ 3584) (K : ∀ (q' p' : Nat → Nat → Int32) (l' o' : Nat → Int64), R q' p' → okL G nc ns 1521 j q' p' l' o') : okL G (1 + nc) (6 + ns) 196 j q p l o := by
  have hC := c_factor (G := G) (d := 9) (q := q) (r := wM p l ++ [.inl (2, 1, .inr o)]) (by omega) (G.xs (7 * j + 1)) (G.xs (7 * j + 2)) (G.xs (7 * j + 3))
  obtain ⟨h1, h2, h3⟩ := hS q p y n hR hb (G.xs (7 * j + 1)) (G.xs (7 * j + 2)) (G.xs (7 * j + 3))
  have hM := fun (q' : Nat → Nat → Int32) (o' : Nat → Int64) => m_factor (G := G) (d := 10) (q := q') (p := p) (l := l) (r := [.inl (2, 1, .inr o')]) (by omega)  (G.xs (7 * j + 1)) (G.xs (7 * j + 2)) (G.xs (7 * j + 3))
  generalize (cFactor q (G.xs (7 * j + 1)) (G.xs (7 * j + 2)) (G.xs (7 * j + 3))) = z at hC h1 h2 h3
  generalize (mFactor p (G.xs (7 * j + 1)) (G.xs (7 * j + 2)) (G.xs (7 * j + 3))) = w at hM h1 h2
  obtain ⟨O, hO, K⟩ := K z.2 w l (oO o z.1) h1
  refine ⟨O, hO, ?_⟩
  refine ax_aload_n 1 197 dL_law_196 rfl rfl rfl ?_
  refine ax_aload_nR 0 198 dL_law_197 rfl rfl rfl ?_
  refine ax_iload 200 dL_law_198 rfl rfl ?_
  refine ax_iconst (v := 1) 201 dL_law_200 rfl (by decide) ?_
  refine ax_iadd 202 dL_law_201 rfl ?_
  refine ax_sldN 203 dL_law_202 rfl (ia (7 * j) 1) (by omega) (by omega) ?_
  refine ax_aload_nR 0 204 dL_law_203 rfl rfl rfl ?_
  refine ax_iload 206 dL_law_204 rfl rfl ?_
  refine ax_iconst (v := 2) 207 dL_law_206 rfl (by decide) ?_
  refine ax_iadd 208 dL_law_207 rfl ?_
  refine ax_sldN 209 dL_law_208 rfl (ia (7 * j) 2) (by omega) (by omega) ?_
  refine ax_aload_nR 0 210 dL_law_209 rfl rfl rfl ?_
  refine ax_iload 212 dL_law_210 rfl rfl ?_
  refine ax_iconst (v := 3) 213 dL_law_212 rfl (by decide) ?_
  refine ax_iadd 214 dL_law_213 rfl ?_
  refine ax_sldN 215 dL_law_214 rfl (ia (7 * j) 3) (by omega) (by omega) ?_
  refine ax_inv0 (nc2 := nc) (ns2 := ns) 218 dL_law_215 rfl ml_L_99 (w_factor (d := 10) (by omega) (G.xs (7 * j + 1)) (G.xs (7 * j + 2)) (G.xs (7 * j + 3)) z hC h3) (by omega) rfl rfl (Nat.le_of_ble_eq_true rfl) (by omega) (by omega) ?_
  refine ax_istore 220 dL_law_218 rfl (Nat.le_of_ble_eq_true rfl) ?_
  refine ax_aload_n 2 221 dL_law_220 rfl rfl rfl ?_
  refine ax_aload_nR 0 222 dL_law_221 rfl rfl rfl ?_
  refine ax_iload 224 dL_law_222 rfl rfl ?_
  refine ax_iconst (v := 1) 225 dL_law_224 rfl (by decide) ?_
  refine ax_iadd 226 dL_law_225 rfl ?_
  refine ax_sldN 227 dL_law_226 rfl (ia (7 * j) 1) (by omega) (by omega) ?_
  refine ax_aload_nR 0 228 dL_law_227 rfl rfl rfl ?_
  refine ax_iload 230 dL_law_228 rfl rfl ?_
  refine ax_iconst (v := 2) 231 dL_law_230 rfl (by decide) ?_
  refine ax_iadd 232 dL_law_231 rfl ?_
  refine ax_sldN 233 dL_law_232 rfl (ia (7 * j) 2) (by omega) (by omega) ?_
  refine ax_aload_nR 0 234 dL_law_233 rfl rfl rfl ?_
  refine ax_iload 236 dL_law_234 rfl rfl ?_
  refine ax_iconst (v := 3) 237 dL_law_236 rfl (by decide) ?_
  refine ax_iadd 238 dL_law_237 rfl ?_
  refine ax_sldN 239 dL_law_238 rfl (ia (7 * j) 3) (by omega) (by omega) ?_
  refine ax_cVv 242 dL_law_239 rfl ml_L_101 (hM z.2 (oO o z.1)) rfl (by omega) rfl rfl (Nat.le_of_ble_eq_true rfl) ?_
  refine ax_aload_n 2 243 dL_law_242 rfl rfl rfl ?_
  refine ax_cV 246 dL_law_243 rfl ml_L_96 (m_thrown (d := 10)) rfl (by omega) rfl rfl (Nat.le_of_ble_eq_true rfl) ?_
  refine ax_iload 248 dL_law_246 rfl rfl ?_
  refine ax_icmp_eq 253 251 dL_law_248 (by decide) rfl (fun c => ?_) (fun c => ?_)
  · refine ax_goto 1521 dL_law_253 (by decide) ?_
    exact ax_lvk K ⟨rfl, rfl, rfl, rfl, rfl, trivial⟩
  · exact absurd h2.symm c
theorem law_vessel (hS : st_vessel R) (y n : Nat) (hb : bsF q p y n) (hR : R q p) (j : Nat) (hj : 7 * j + 7 ≤ G.L) (hL : G.L ≤ 3584) (K : ∀ (q' p' : Nat → Nat → Int32) (l' o' : Nat → Int64), R q' p' → okL G nc ns 1521 j q' p' l' o') : okL G (1 + nc) (6 + ns) 256 j q p l o := by
  have hC := c_vessel (G := G) (d := 9) (q := q) (r := wM p l ++ [.inl (2, 1, .inr o)]) (by omega) (G.xs (7 * j + 1)) (G.xs (7 * j + 2))
  obtain ⟨h1, h2, h3⟩ := hS q p y n hR hb (G.xs (7 * j + 1)) (G.xs (7 * j + 2))
  have hM := fun (q' : Nat → Nat → Int32) (o' : Nat → Int64) => m_vessel (G := G) (d := 10) (q := q') (p := p) (l := l) (r := [.inl (2, 1, .inr o')]) (by omega)  (G.xs (7 * j + 1)) (G.xs (7 * j + 2))
  generalize (cVessel q (G.xs (7 * j + 1)) (G.xs (7 * j + 2))) = z at hC h1 h2 h3
  generalize (mVessel p (G.xs (7 * j + 1)) (G.xs (7 * j + 2))) = w at hM h1 h2
  obtain ⟨O, hO, K⟩ := K z.2 w l (oO o z.1) h1
  refine ⟨O, hO, ?_⟩
  refine ax_aload_n 1 257 dL_law_256 rfl rfl rfl ?_
  refine ax_aload_nR 0 258 dL_law_257 rfl rfl rfl ?_
  refine ax_iload 260 dL_law_258 rfl rfl ?_
  refine ax_iconst (v := 1) 261 dL_law_260 rfl (by decide) ?_
  refine ax_iadd 262 dL_law_261 rfl ?_
  refine ax_sldN 263 dL_law_262 rfl (ia (7 * j) 1) (by omega) (by omega) ?_
  refine ax_aload_nR 0 264 dL_law_263 rfl rfl rfl ?_
  refine ax_iload 266 dL_law_264 rfl rfl ?_
  refine ax_iconst (v := 2) 267 dL_law_266 rfl (by decide) ?_
  refine ax_iadd 268 dL_law_267 rfl ?_
  refine ax_sldN 269 dL_law_268 rfl (ia (7 * j) 2) (by omega) (by omega) ?_
  refine ax_inv0 (nc2 := nc) (ns2 := ns) 272 dL_law_269 rfl ml_L_102 (w_vessel (d := 10) (by omega) (G.xs (7 * j + 1)) (G.xs (7 * j + 2)) z hC h3) (by omega) rfl rfl (Nat.le_of_ble_eq_true rfl) (by omega) (by omega) ?_
  refine ax_istore 274 dL_law_272 rfl (Nat.le_of_ble_eq_true rfl) ?_
  refine ax_aload_n 2 275 dL_law_274 rfl rfl rfl ?_
  refine ax_aload_nR 0 276 dL_law_275 rfl rfl rfl ?_
  refine ax_iload 278 dL_law_276 rfl rfl ?_
  refine ax_iconst (v := 1) 279 dL_law_278 rfl (by decide) ?_
  refine ax_iadd 280 dL_law_279 rfl ?_
  refine ax_sldN 281 dL_law_280 rfl (ia (7 * j) 1) (by omega) (by omega) ?_
  refine ax_aload_nR 0 282 dL_law_281 rfl rfl rfl ?_
  refine ax_iload 284 dL_law_282 rfl rfl ?_
  refine ax_iconst (v := 2) 285 dL_law_284 rfl (by decide) ?_
  refine ax_iadd 286 dL_law_285 rfl ?_
  refine ax_sldN 287 dL_law_286 rfl (ia (7 * j) 2) (by omega) (by omega) ?_
  refine ax_cVv 290 dL_law_287 rfl ml_L_105 (hM z.2 (oO o z.1)) rfl (by omega) rfl rfl (Nat.le_of_ble_eq_true rfl) ?_
  refine ax_aload_n 2 291 dL_law_290 rfl rfl rfl ?_
  refine ax_cV 294 dL_law_291 rfl ml_L_96 (m_thrown (d := 10)) rfl (by omega) rfl rfl (Nat.le_of_ble_eq_true rfl) ?_
  refine ax_iload 296 dL_law_294 rfl rfl ?_
  refine ax_icmp_eq 301 299 dL_law_296 (by decide) rfl (fun c => ?_) (fun c => ?_)
  · refine ax_goto 1521 dL_law_301 (by decide) ?_
    exact ax_lvk K ⟨rfl, rfl, rfl, rfl, rfl, trivial⟩
  · exact absurd h2.symm c
theorem law_link (hS : st_link R) (y n : Nat) (hb : bsF q p y n) (hR : R q p) (j : Nat) (hj : 7 * j + 7 ≤ G.L) (hL : G.L ≤ 3584) (K : ∀ (q' p' : Nat → Nat → Int32) (l' o' : Nat → Int64), R q' p' → okL G nc ns 1521 j q' p' l' o') : okL G (1 + nc) (6 + ns) 304 j q p l o := by
  have hC := c_link (G := G) (d := 9) (q := q) (r := wM p l ++ [.inl (2, 1, .inr o)]) (by omega) (G.xs (7 * j + 1)) (G.xs (7 * j + 2))
  obtain ⟨h1, h2, h3⟩ := hS q p y n hR hb (G.xs (7 * j + 1)) (G.xs (7 * j + 2))
  have hM := fun (q' : Nat → Nat → Int32) (o' : Nat → Int64) => m_link (G := G) (d := 10) (q := q') (p := p) (l := l) (r := [.inl (2, 1, .inr o')]) (by omega)  (G.xs (7 * j + 1)) (G.xs (7 * j + 2)) hb.2.2.2.2.2.2.2.2.2.2.2.2.2
  generalize (cLink q (G.xs (7 * j + 1)) (G.xs (7 * j + 2))) = z at hC h1 h2 h3
  generalize (mLink p (G.xs (7 * j + 1)) (G.xs (7 * j + 2))) = w at hM h1 h2
  obtain ⟨O, hO, K⟩ := K z.2 w l (oO o z.1) h1
  refine ⟨O, hO, ?_⟩
  refine ax_aload_n 1 305 dL_law_304 rfl rfl rfl ?_
  refine ax_aload_nR 0 306 dL_law_305 rfl rfl rfl ?_
  refine ax_iload 308 dL_law_306 rfl rfl ?_
  refine ax_iconst (v := 1) 309 dL_law_308 rfl (by decide) ?_
  refine ax_iadd 310 dL_law_309 rfl ?_
  refine ax_sldN 311 dL_law_310 rfl (ia (7 * j) 1) (by omega) (by omega) ?_
  refine ax_aload_nR 0 312 dL_law_311 rfl rfl rfl ?_
  refine ax_iload 314 dL_law_312 rfl rfl ?_
  refine ax_iconst (v := 2) 315 dL_law_314 rfl (by decide) ?_
  refine ax_iadd 316 dL_law_315 rfl ?_
  refine ax_sldN 317 dL_law_316 rfl (ia (7 * j) 2) (by omega) (by omega) ?_
  refine ax_inv0 (nc2 := nc) (ns2 := ns) 320 dL_law_317 rfl ml_L_106 (w_link (d := 10) (by omega) (G.xs (7 * j + 1)) (G.xs (7 * j + 2)) z hC h3) (by omega) rfl rfl (Nat.le_of_ble_eq_true rfl) (by omega) (by omega) ?_
  refine ax_istore 322 dL_law_320 rfl (Nat.le_of_ble_eq_true rfl) ?_
  refine ax_aload_n 2 323 dL_law_322 rfl rfl rfl ?_
  refine ax_aload_nR 0 324 dL_law_323 rfl rfl rfl ?_
  refine ax_iload 326 dL_law_324 rfl rfl ?_
  refine ax_iconst (v := 1) 327 dL_law_326 rfl (by decide) ?_
  refine ax_iadd 328 dL_law_327 rfl ?_
  refine ax_sldN 329 dL_law_328 rfl (ia (7 * j) 1) (by omega) (by omega) ?_
  refine ax_aload_nR 0 330 dL_law_329 rfl rfl rfl ?_
  refine ax_iload 332 dL_law_330 rfl rfl ?_
  refine ax_iconst (v := 2) 333 dL_law_332 rfl (by decide) ?_
  refine ax_iadd 334 dL_law_333 rfl ?_
  refine ax_sldN 335 dL_law_334 rfl (ia (7 * j) 2) (by omega) (by omega) ?_
  refine ax_cVv 338 dL_law_335 rfl ml_L_108 (hM z.2 (oO o z.1)) rfl (by omega) rfl rfl (Nat.le_of_ble_eq_true rfl) ?_
  refine ax_aload_n 2 339 dL_law_338 rfl rfl rfl ?_
  refine ax_cV 342 dL_law_339 rfl ml_L_96 (m_thrown (d := 10)) rfl (by omega) rfl rfl (Nat.le_of_ble_eq_true rfl) ?_
  refine ax_iload 344 dL_law_342 rfl rfl ?_
  refine ax_icmp_eq 349 347 dL_law_344 (by decide) rfl (fun c => ?_) (fun c => ?_)
  · refine ax_goto 1521 dL_law_349 (by decide) ?_
    exact ax_lvk K ⟨rfl, rfl, rfl, rfl, rfl, trivial⟩
  · exact absurd h2.symm c
theorem law_unlink (hS : st_unlink R) (y n : Nat) (hb : bsF q p y n) (hR : R q p) (j : Nat) (hj : 7 * j + 7 ≤ G.L) (hL : G.L ≤ 3584) (K : ∀ (q' p' : Nat → Nat → Int32) (l' o' : Nat → Int64), R q' p' → okL G nc ns 1521 j q' p' l' o') : okL G (1 + nc) (6 + ns) 352 j q p l o := by
  have hC := c_unlink (G := G) (d := 9) (q := q) (r := wM p l ++ [.inl (2, 1, .inr o)]) (by omega) (G.xs (7 * j + 1)) (G.xs (7 * j + 2))
  obtain ⟨h1, h2, h3⟩ := hS q p y n hR hb (G.xs (7 * j + 1)) (G.xs (7 * j + 2))
  have hM := fun (q' : Nat → Nat → Int32) (o' : Nat → Int64) => m_unlink (G := G) (d := 10) (q := q') (p := p) (l := l) (r := [.inl (2, 1, .inr o')]) (by omega)  (G.xs (7 * j + 1)) (G.xs (7 * j + 2))
  generalize (cUnlink q (G.xs (7 * j + 1)) (G.xs (7 * j + 2))) = z at hC h1 h2 h3
  generalize (mUnlink p (G.xs (7 * j + 1)) (G.xs (7 * j + 2))) = w at hM h1 h2
  obtain ⟨O, hO, K⟩ := K z.2 w l (oO o z.1) h1
  refine ⟨O, hO, ?_⟩
  refine ax_aload_n 1 353 dL_law_352 rfl rfl rfl ?_
  refine ax_aload_nR 0 354 dL_law_353 rfl rfl rfl ?_
  refine ax_iload 356 dL_law_354 rfl rfl ?_
  refine ax_iconst (v := 1) 357 dL_law_356 rfl (by decide) ?_
  refine ax_iadd 358 dL_law_357 rfl ?_
  refine ax_sldN 359 dL_law_358 rfl (ia (7 * j) 1) (by omega) (by omega) ?_
  refine ax_aload_nR 0 360 dL_law_359 rfl rfl rfl ?_
  refine ax_iload 362 dL_law_360 rfl rfl ?_
  refine ax_iconst (v := 2) 363 dL_law_362 rfl (by decide) ?_
  refine ax_iadd 364 dL_law_363 rfl ?_
  refine ax_sldN 365 dL_law_364 rfl (ia (7 * j) 2) (by omega) (by omega) ?_
  refine ax_inv0 (nc2 := nc) (ns2 := ns) 368 dL_law_365 rfl ml_L_109 (w_unlink (d := 10) (by omega) (G.xs (7 * j + 1)) (G.xs (7 * j + 2)) z hC h3) (by omega) rfl rfl (Nat.le_of_ble_eq_true rfl) (by omega) (by omega) ?_
  refine ax_istore 370 dL_law_368 rfl (Nat.le_of_ble_eq_true rfl) ?_
  refine ax_aload_n 2 371 dL_law_370 rfl rfl rfl ?_
  refine ax_aload_nR 0 372 dL_law_371 rfl rfl rfl ?_
  refine ax_iload 374 dL_law_372 rfl rfl ?_
  refine ax_iconst (v := 1) 375 dL_law_374 rfl (by decide) ?_
  refine ax_iadd 376 dL_law_375 rfl ?_
  refine ax_sldN 377 dL_law_376 rfl (ia (7 * j) 1) (by omega) (by omega) ?_
  refine ax_aload_nR 0 378 dL_law_377 rfl rfl rfl ?_
  refine ax_iload 380 dL_law_378 rfl rfl ?_
  refine ax_iconst (v := 2) 381 dL_law_380 rfl (by decide) ?_
  refine ax_iadd 382 dL_law_381 rfl ?_
  refine ax_sldN 383 dL_law_382 rfl (ia (7 * j) 2) (by omega) (by omega) ?_
  refine ax_cVv 386 dL_law_383 rfl ml_L_111 (hM z.2 (oO o z.1)) rfl (by omega) rfl rfl (Nat.le_of_ble_eq_true rfl) ?_
  refine ax_aload_n 2 387 dL_law_386 rfl rfl rfl ?_
  refine ax_cV 390 dL_law_387 rfl ml_L_96 (m_thrown (d := 10)) rfl (by omega) rfl rfl (Nat.le_of_ble_eq_true rfl) ?_
  refine ax_iload 392 dL_law_390 rfl rfl ?_
  refine ax_icmp_eq 397 395 dL_law_392 (by decide) rfl (fun c => ?_) (fun c => ?_)
  · refine ax_goto 1521 dL_law_397 (by decide) ?_
    exact ax_lvk K ⟨rfl, rfl, rfl, rfl, rfl, trivial⟩
  · exact absurd h2.symm c
theorem law_issue (hS : st_issue R) (y n : Nat) (hb : bsF q p y n) (hR : R q p) (j : Nat) (hj : 7 * j + 7 ≤ G.L) (hL : G.L ≤ 3584) (K : ∀ (q' p' : Nat → Nat → Int32) (l' o' : Nat → Int64), R q' p' → okL G nc ns 1521 j q' p' l' o') : okL G (1 + nc) (6 + ns) 400 j q p l o := by
  have hC := c_issue (G := G) (d := 9) (q := q) (r := wM p l ++ [.inl (2, 1, .inr o)]) (by omega) (G.xs (7 * j + 1)) (G.xs (7 * j + 2)) (G.xs (7 * j + 3))
  obtain ⟨h1, h2, h3⟩ := hS q p y n hR hb (G.xs (7 * j + 1)) (G.xs (7 * j + 2)) (G.xs (7 * j + 3))
  have hM := fun (q' : Nat → Nat → Int32) (o' : Nat → Int64) => m_issue (G := G) (d := 10) (q := q') (p := p) (l := l) (r := [.inl (2, 1, .inr o')]) (by omega)  (G.xs (7 * j + 1)) (G.xs (7 * j + 2)) (G.xs (7 * j + 3))
  generalize (cIssue q (G.xs (7 * j + 1)) (G.xs (7 * j + 2)) (G.xs (7 * j + 3))) = z at hC h1 h2 h3
  generalize (mIssue p (G.xs (7 * j + 1)) (G.xs (7 * j + 2)) (G.xs (7 * j + 3))) = w at hM h1 h2 h3
  obtain ⟨O, hO, K⟩ := K z.2 w.2 l (oO o z.1) h1
  refine ⟨O, hO, ?_⟩
  refine ax_aload_n 1 401 dL_law_400 rfl rfl rfl ?_
  refine ax_aload_nR 0 402 dL_law_401 rfl rfl rfl ?_
  refine ax_iload 404 dL_law_402 rfl rfl ?_
  refine ax_iconst (v := 1) 405 dL_law_404 rfl (by decide) ?_
  refine ax_iadd 406 dL_law_405 rfl ?_
  refine ax_sldN 407 dL_law_406 rfl (ia (7 * j) 1) (by omega) (by omega) ?_
  refine ax_aload_nR 0 408 dL_law_407 rfl rfl rfl ?_
  refine ax_iload 410 dL_law_408 rfl rfl ?_
  refine ax_iconst (v := 2) 411 dL_law_410 rfl (by decide) ?_
  refine ax_iadd 412 dL_law_411 rfl ?_
  refine ax_sldN 413 dL_law_412 rfl (ia (7 * j) 2) (by omega) (by omega) ?_
  refine ax_aload_nR 0 414 dL_law_413 rfl rfl rfl ?_
  refine ax_iload 416 dL_law_414 rfl rfl ?_
  refine ax_iconst (v := 3) 417 dL_law_416 rfl (by decide) ?_
  refine ax_iadd 418 dL_law_417 rfl ?_
  refine ax_sldN 419 dL_law_418 rfl (ia (7 * j) 3) (by omega) (by omega) ?_
  refine ax_aload_n 3 420 dL_law_419 rfl rfl rfl ?_
  refine ax_inv0 (nc2 := nc) (ns2 := ns) 423 dL_law_420 rfl ml_L_112 (w_issue (d := 10) (by omega) (G.xs (7 * j + 1)) (G.xs (7 * j + 2)) (G.xs (7 * j + 3)) z hC (h3.elim (fun ⟨x, h4, _⟩ => Or.inl ⟨x, h4⟩) Or.inr)) (by omega) rfl rfl (Nat.le_of_ble_eq_true rfl) (by omega) (by omega) ?_
  refine ax_istore 425 dL_law_423 rfl (Nat.le_of_ble_eq_true rfl) ?_
  refine ax_aload_n 2 426 dL_law_425 rfl rfl rfl ?_
  refine ax_aload_nR 0 427 dL_law_426 rfl rfl rfl ?_
  refine ax_iload 429 dL_law_427 rfl rfl ?_
  refine ax_iconst (v := 1) 430 dL_law_429 rfl (by decide) ?_
  refine ax_iadd 431 dL_law_430 rfl ?_
  refine ax_sldN 432 dL_law_431 rfl (ia (7 * j) 1) (by omega) (by omega) ?_
  refine ax_aload_nR 0 433 dL_law_432 rfl rfl rfl ?_
  refine ax_iload 435 dL_law_433 rfl rfl ?_
  refine ax_iconst (v := 2) 436 dL_law_435 rfl (by decide) ?_
  refine ax_iadd 437 dL_law_436 rfl ?_
  refine ax_sldN 438 dL_law_437 rfl (ia (7 * j) 2) (by omega) (by omega) ?_
  refine ax_aload_nR 0 439 dL_law_438 rfl rfl rfl ?_
  refine ax_iload 441 dL_law_439 rfl rfl ?_
  refine ax_iconst (v := 3) 442 dL_law_441 rfl (by decide) ?_
  refine ax_iadd 443 dL_law_442 rfl ?_
  refine ax_sldN 444 dL_law_443 rfl (ia (7 * j) 3) (by omega) (by omega) ?_
  refine ax_cV 447 dL_law_444 rfl ml_L_115 (hM z.2 (oO o z.1)) rfl (by omega) rfl rfl (Nat.le_of_ble_eq_true rfl) ?_
  refine ax_istore 449 dL_law_447 rfl (Nat.le_of_ble_eq_true rfl) ?_
  refine ax_aload_n 2 450 dL_law_449 rfl rfl rfl ?_
  refine ax_cV 453 dL_law_450 rfl ml_L_96 (m_thrown (d := 10)) rfl (by omega) rfl rfl (Nat.le_of_ble_eq_true rfl) ?_
  refine ax_iload 455 dL_law_453 rfl rfl ?_
  refine ax_icmp_eq 460 458 dL_law_455 (by decide) rfl (fun c => ?_) (fun c => ?_)
  · refine ax_iload 462 dL_law_460 rfl rfl ?_
    refine ax_if_ne 477 465 dL_law_462 (by decide) rfl (fun c1 => ?_) (fun c1 => ?_)
    · refine ax_goto 1521 dL_law_477 (by decide) ?_
      exact ax_lvk K ⟨rfl, rfl, rfl, rfl, rfl, trivial⟩
    · refine ax_aload_n 3 466 dL_law_465 rfl rfl rfl ?_
      refine ax_iconst (v := 0) 467 dL_law_466 rfl (by decide) ?_
      refine ax_lald0 468 dL_law_467 rfl ?_
      refine ax_iload 470 dL_law_468 rfl rfl ?_
      refine ax_i2l 471 dL_law_470 rfl ?_
      refine ax_lcmp 472 dL_law_471 rfl ?_
      refine ax_if_eq 477 475 dL_law_472 (by decide) rfl (fun c2 => ?_) (fun c2 => ?_)
      · refine ax_goto 1521 dL_law_477 (by decide) ?_
        exact ax_lvk K ⟨rfl, rfl, rfl, rfl, rfl, trivial⟩
      · refine absurd ?_ c2
        rw [lg_cmp_eq]
        rcases h3 with ⟨x, h4, h5⟩ | h4 | h4
        · rw [h4, h5]; exact pk_uLs
        · rw [h4] at c1; exact absurd c1 (by decide)
        · rw [h4] at c1; exact absurd c1 (by decide)
  · exact absurd h2.symm c
theorem law_sell (hS : st_sell R) (y n : Nat) (hb : bsF q p y n) (hR : R q p) (j : Nat) (hj : 7 * j + 7 ≤ G.L) (hL : G.L ≤ 3584) (K : ∀ (q' p' : Nat → Nat → Int32) (l' o' : Nat → Int64), R q' p' → okL G nc ns 1521 j q' p' l' o') : okL G (1 + nc) (6 + ns) 480 j q p l o := by
  have hC := c_sell (G := G) (d := 9) (q := q) (r := wM p l ++ [.inl (2, 1, .inr o)]) (by omega) (G.xs (7 * j + 1)) (G.xs (7 * j + 2)) (G.xs (7 * j + 3)) (G.xs (7 * j + 4))
  obtain ⟨h1, h2, h3⟩ := hS q p y n hR hb (G.xs (7 * j + 1)) (G.xs (7 * j + 2)) (G.xs (7 * j + 3)) (G.xs (7 * j + 4))
  have hM := fun (q' : Nat → Nat → Int32) (o' : Nat → Int64) => m_sell (G := G) (d := 10) (q := q') (p := p) (l := l) (r := [.inl (2, 1, .inr o')]) (by omega)  (G.xs (7 * j + 1)) (G.xs (7 * j + 2)) (G.xs (7 * j + 3)) (G.xs (7 * j + 4))
  generalize (cSell q (G.xs (7 * j + 1)) (G.xs (7 * j + 2)) (G.xs (7 * j + 3)) (G.xs (7 * j + 4))) = z at hC h1 h2 h3
  generalize (mSell p (G.xs (7 * j + 1)) (G.xs (7 * j + 2)) (G.xs (7 * j + 3)) (G.xs (7 * j + 4))) = w at hM h1 h2
  obtain ⟨O, hO, K⟩ := K z.2 w l (oO o z.1) h1
  refine ⟨O, hO, ?_⟩
  refine ax_aload_n 1 481 dL_law_480 rfl rfl rfl ?_
  refine ax_aload_nR 0 482 dL_law_481 rfl rfl rfl ?_
  refine ax_iload 484 dL_law_482 rfl rfl ?_
  refine ax_iconst (v := 1) 485 dL_law_484 rfl (by decide) ?_
  refine ax_iadd 486 dL_law_485 rfl ?_
  refine ax_sldN 487 dL_law_486 rfl (ia (7 * j) 1) (by omega) (by omega) ?_
  refine ax_aload_nR 0 488 dL_law_487 rfl rfl rfl ?_
  refine ax_iload 490 dL_law_488 rfl rfl ?_
  refine ax_iconst (v := 2) 491 dL_law_490 rfl (by decide) ?_
  refine ax_iadd 492 dL_law_491 rfl ?_
  refine ax_sldN 493 dL_law_492 rfl (ia (7 * j) 2) (by omega) (by omega) ?_
  refine ax_aload_nR 0 494 dL_law_493 rfl rfl rfl ?_
  refine ax_iload 496 dL_law_494 rfl rfl ?_
  refine ax_iconst (v := 3) 497 dL_law_496 rfl (by decide) ?_
  refine ax_iadd 498 dL_law_497 rfl ?_
  refine ax_sldN 499 dL_law_498 rfl (ia (7 * j) 3) (by omega) (by omega) ?_
  refine ax_aload_nR 0 500 dL_law_499 rfl rfl rfl ?_
  refine ax_iload 502 dL_law_500 rfl rfl ?_
  refine ax_iconst (v := 4) 503 dL_law_502 rfl (by decide) ?_
  refine ax_iadd 504 dL_law_503 rfl ?_
  refine ax_sldN 505 dL_law_504 rfl (ia (7 * j) 4) (by omega) (by omega) ?_
  refine ax_inv0 (nc2 := nc) (ns2 := ns) 508 dL_law_505 rfl ml_L_116 (w_sell (d := 10) (by omega) (G.xs (7 * j + 1)) (G.xs (7 * j + 2)) (G.xs (7 * j + 3)) (G.xs (7 * j + 4)) z hC h3) (by omega) rfl rfl (Nat.le_of_ble_eq_true rfl) (by omega) (by omega) ?_
  refine ax_istore 510 dL_law_508 rfl (Nat.le_of_ble_eq_true rfl) ?_
  refine ax_aload_n 2 511 dL_law_510 rfl rfl rfl ?_
  refine ax_aload_nR 0 512 dL_law_511 rfl rfl rfl ?_
  refine ax_iload 514 dL_law_512 rfl rfl ?_
  refine ax_iconst (v := 1) 515 dL_law_514 rfl (by decide) ?_
  refine ax_iadd 516 dL_law_515 rfl ?_
  refine ax_sldN 517 dL_law_516 rfl (ia (7 * j) 1) (by omega) (by omega) ?_
  refine ax_aload_nR 0 518 dL_law_517 rfl rfl rfl ?_
  refine ax_iload 520 dL_law_518 rfl rfl ?_
  refine ax_iconst (v := 2) 521 dL_law_520 rfl (by decide) ?_
  refine ax_iadd 522 dL_law_521 rfl ?_
  refine ax_sldN 523 dL_law_522 rfl (ia (7 * j) 2) (by omega) (by omega) ?_
  refine ax_aload_nR 0 524 dL_law_523 rfl rfl rfl ?_
  refine ax_iload 526 dL_law_524 rfl rfl ?_
  refine ax_iconst (v := 3) 527 dL_law_526 rfl (by decide) ?_
  refine ax_iadd 528 dL_law_527 rfl ?_
  refine ax_sldN 529 dL_law_528 rfl (ia (7 * j) 3) (by omega) (by omega) ?_
  refine ax_aload_nR 0 530 dL_law_529 rfl rfl rfl ?_
  refine ax_iload 532 dL_law_530 rfl rfl ?_
  refine ax_iconst (v := 4) 533 dL_law_532 rfl (by decide) ?_
  refine ax_iadd 534 dL_law_533 rfl ?_
  refine ax_sldN 535 dL_law_534 rfl (ia (7 * j) 4) (by omega) (by omega) ?_
  refine ax_cVv 538 dL_law_535 rfl ml_L_119 (hM z.2 (oO o z.1)) rfl (by omega) rfl rfl (Nat.le_of_ble_eq_true rfl) ?_
  refine ax_aload_n 2 539 dL_law_538 rfl rfl rfl ?_
  refine ax_cV 542 dL_law_539 rfl ml_L_96 (m_thrown (d := 10)) rfl (by omega) rfl rfl (Nat.le_of_ble_eq_true rfl) ?_
  refine ax_iload 544 dL_law_542 rfl rfl ?_
  refine ax_icmp_eq 549 547 dL_law_544 (by decide) rfl (fun c => ?_) (fun c => ?_)
  · refine ax_goto 1521 dL_law_549 (by decide) ?_
    exact ax_lvk K ⟨rfl, rfl, rfl, rfl, rfl, trivial⟩
  · exact absurd h2.symm c
theorem law_place (hS : st_place R) (y n : Nat) (hb : bsF q p y n) (hR : R q p) (j : Nat) (hj : 7 * j + 7 ≤ G.L) (hL : G.L ≤ 3584) (K : ∀ (q' p' : Nat → Nat → Int32) (l' o' : Nat → Int64), R q' p' → okL G nc ns 1521 j q' p' l' o') : okL G (1 + nc) (6 + ns) 552 j q p l o := by
  have hC := c_place (G := G) (d := 9) (q := q) (r := wM p l ++ [.inl (2, 1, .inr o)]) (by omega) (G.xs (7 * j + 1)) (G.xs (7 * j + 2)) (G.xs (7 * j + 3)) hb.2.2.2.2.2.2.2.2.2.1
  obtain ⟨h1, h2, h3⟩ := hS q p y n hR hb (G.xs (7 * j + 1)) (G.xs (7 * j + 2)) (G.xs (7 * j + 3))
  have hM := fun (q' : Nat → Nat → Int32) (o' : Nat → Int64) => m_place (G := G) (d := 10) (q := q') (p := p) (l := l) (r := [.inl (2, 1, .inr o')]) (by omega)  (G.xs (7 * j + 1)) (G.xs (7 * j + 2)) (G.xs (7 * j + 3)) hb.2.2.2.2.2.2.2.2.2.2.1
  generalize (cPlace q (G.xs (7 * j + 1)) (G.xs (7 * j + 2)) (G.xs (7 * j + 3))) = z at hC h1 h2 h3
  generalize (mPlace p (G.xs (7 * j + 1)) (G.xs (7 * j + 2)) (G.xs (7 * j + 3))) = w at hM h1 h2 h3
  obtain ⟨O, hO, K⟩ := K z.2 w.2 l (oO o z.1) h1
  refine ⟨O, hO, ?_⟩
  refine ax_aload_n 1 553 dL_law_552 rfl rfl rfl ?_
  refine ax_aload_nR 0 554 dL_law_553 rfl rfl rfl ?_
  refine ax_iload 556 dL_law_554 rfl rfl ?_
  refine ax_iconst (v := 1) 557 dL_law_556 rfl (by decide) ?_
  refine ax_iadd 558 dL_law_557 rfl ?_
  refine ax_sldN 559 dL_law_558 rfl (ia (7 * j) 1) (by omega) (by omega) ?_
  refine ax_aload_nR 0 560 dL_law_559 rfl rfl rfl ?_
  refine ax_iload 562 dL_law_560 rfl rfl ?_
  refine ax_iconst (v := 2) 563 dL_law_562 rfl (by decide) ?_
  refine ax_iadd 564 dL_law_563 rfl ?_
  refine ax_sldN 565 dL_law_564 rfl (ia (7 * j) 2) (by omega) (by omega) ?_
  refine ax_aload_nR 0 566 dL_law_565 rfl rfl rfl ?_
  refine ax_iload 568 dL_law_566 rfl rfl ?_
  refine ax_iconst (v := 3) 569 dL_law_568 rfl (by decide) ?_
  refine ax_iadd 570 dL_law_569 rfl ?_
  refine ax_sldN 571 dL_law_570 rfl (ia (7 * j) 3) (by omega) (by omega) ?_
  refine ax_aload_n 3 572 dL_law_571 rfl rfl rfl ?_
  refine ax_inv0 (nc2 := nc) (ns2 := ns) 575 dL_law_572 rfl ml_L_120 (w_place (d := 10) (by omega) (G.xs (7 * j + 1)) (G.xs (7 * j + 2)) (G.xs (7 * j + 3)) z hC (h3.elim (fun ⟨x, h4, _⟩ => Or.inl ⟨x, h4⟩) Or.inr)) (by omega) rfl rfl (Nat.le_of_ble_eq_true rfl) (by omega) (by omega) ?_
  refine ax_istore 577 dL_law_575 rfl (Nat.le_of_ble_eq_true rfl) ?_
  refine ax_aload_n 2 578 dL_law_577 rfl rfl rfl ?_
  refine ax_aload_nR 0 579 dL_law_578 rfl rfl rfl ?_
  refine ax_iload 581 dL_law_579 rfl rfl ?_
  refine ax_iconst (v := 1) 582 dL_law_581 rfl (by decide) ?_
  refine ax_iadd 583 dL_law_582 rfl ?_
  refine ax_sldN 584 dL_law_583 rfl (ia (7 * j) 1) (by omega) (by omega) ?_
  refine ax_aload_nR 0 585 dL_law_584 rfl rfl rfl ?_
  refine ax_iload 587 dL_law_585 rfl rfl ?_
  refine ax_iconst (v := 2) 588 dL_law_587 rfl (by decide) ?_
  refine ax_iadd 589 dL_law_588 rfl ?_
  refine ax_sldN 590 dL_law_589 rfl (ia (7 * j) 2) (by omega) (by omega) ?_
  refine ax_aload_nR 0 591 dL_law_590 rfl rfl rfl ?_
  refine ax_iload 593 dL_law_591 rfl rfl ?_
  refine ax_iconst (v := 3) 594 dL_law_593 rfl (by decide) ?_
  refine ax_iadd 595 dL_law_594 rfl ?_
  refine ax_sldN 596 dL_law_595 rfl (ia (7 * j) 3) (by omega) (by omega) ?_
  refine ax_cV 599 dL_law_596 rfl ml_L_122 (hM z.2 (oO o z.1)) rfl (by omega) rfl rfl (Nat.le_of_ble_eq_true rfl) ?_
  refine ax_istore 601 dL_law_599 rfl (Nat.le_of_ble_eq_true rfl) ?_
  refine ax_aload_n 2 602 dL_law_601 rfl rfl rfl ?_
  refine ax_cV 605 dL_law_602 rfl ml_L_96 (m_thrown (d := 10)) rfl (by omega) rfl rfl (Nat.le_of_ble_eq_true rfl) ?_
  refine ax_iload 607 dL_law_605 rfl rfl ?_
  refine ax_icmp_eq 612 610 dL_law_607 (by decide) rfl (fun c => ?_) (fun c => ?_)
  · refine ax_iload 614 dL_law_612 rfl rfl ?_
    refine ax_if_ne 629 617 dL_law_614 (by decide) rfl (fun c1 => ?_) (fun c1 => ?_)
    · refine ax_goto 1521 dL_law_629 (by decide) ?_
      exact ax_lvk K ⟨rfl, rfl, rfl, rfl, rfl, trivial⟩
    · refine ax_aload_n 3 618 dL_law_617 rfl rfl rfl ?_
      refine ax_iconst (v := 0) 619 dL_law_618 rfl (by decide) ?_
      refine ax_lald0 620 dL_law_619 rfl ?_
      refine ax_iload 622 dL_law_620 rfl rfl ?_
      refine ax_i2l 623 dL_law_622 rfl ?_
      refine ax_lcmp 624 dL_law_623 rfl ?_
      refine ax_if_eq 629 627 dL_law_624 (by decide) rfl (fun c2 => ?_) (fun c2 => ?_)
      · refine ax_goto 1521 dL_law_629 (by decide) ?_
        exact ax_lvk K ⟨rfl, rfl, rfl, rfl, rfl, trivial⟩
      · refine absurd ?_ c2
        rw [lg_cmp_eq]
        rcases h3 with ⟨x, h4, h5⟩ | h4 | h4
        · rw [h4, h5]; exact pk_uLs
        · rw [h4] at c1; exact absurd c1 (by decide)
        · rw [h4] at c1; exact absurd c1 (by decide)
  · exact absurd h2.symm c
theorem law_open (hS : st_open R) (y n : Nat) (hb : bsF q p y n) (hR : R q p) (j : Nat) (hj : 7 * j + 7 ≤ G.L) (hL : G.L ≤ 3584) (K : ∀ (q' p' : Nat → Nat → Int32) (l' o' : Nat → Int64), R q' p' → okL G nc ns 1521 j q' p' l' o') : okL G (1 + nc) (6 + ns) 632 j q p l o := by
  have hC := c_open (G := G) (d := 9) (q := q) (r := wM p l ++ [.inl (2, 1, .inr o)]) (by omega) (G.xs (7 * j + 1)) (G.xs (7 * j + 2)) (G.xs (7 * j + 3)) (G.xs (7 * j + 4)) y hb.1 hb.2.1
  obtain ⟨h1, h2, h3⟩ := hS q p y n hR hb l (G.xs (7 * j + 1)) (G.xs (7 * j + 2)) (G.xs (7 * j + 3)) (G.xs (7 * j + 4))
  have hM := fun (q' : Nat → Nat → Int32) (o' : Nat → Int64) => m_open (G := G) (d := 10) (q := q') (p := p) (l := l) (r := [.inl (2, 1, .inr o')]) (by omega) n y (G.xs (7 * j + 1)) (G.xs (7 * j + 2)) (G.xs (7 * j + 3)) (G.xs (7 * j + 4)) hb.2.2.2.1 hb.2.2.2.2.2.1 hb.2.1 hb.2.2.2.2.1 hb.2.2.2.2.2.2.2.1
  generalize (cOpen q (G.xs (7 * j + 1)) (G.xs (7 * j + 2)) (G.xs (7 * j + 3)) (G.xs (7 * j + 4))) = z at hC h1 h2 h3
  generalize (mOpen p l n y (G.xs (7 * j + 1)) (G.xs (7 * j + 2)) (G.xs (7 * j + 3)) (G.xs (7 * j + 4))) = w at hM h1 h2 h3
  obtain ⟨O, hO, K⟩ := K z.2 w.2.1 w.2.2 (oO o z.1) h1
  refine ⟨O, hO, ?_⟩
  refine ax_aload_n 1 633 dL_law_632 rfl rfl rfl ?_
  refine ax_aload_nR 0 634 dL_law_633 rfl rfl rfl ?_
  refine ax_iload 636 dL_law_634 rfl rfl ?_
  refine ax_iconst (v := 1) 637 dL_law_636 rfl (by decide) ?_
  refine ax_iadd 638 dL_law_637 rfl ?_
  refine ax_sldN 639 dL_law_638 rfl (ia (7 * j) 1) (by omega) (by omega) ?_
  refine ax_aload_nR 0 640 dL_law_639 rfl rfl rfl ?_
  refine ax_iload 642 dL_law_640 rfl rfl ?_
  refine ax_iconst (v := 2) 643 dL_law_642 rfl (by decide) ?_
  refine ax_iadd 644 dL_law_643 rfl ?_
  refine ax_sldN 645 dL_law_644 rfl (ia (7 * j) 2) (by omega) (by omega) ?_
  refine ax_aload_nR 0 646 dL_law_645 rfl rfl rfl ?_
  refine ax_iload 648 dL_law_646 rfl rfl ?_
  refine ax_iconst (v := 3) 649 dL_law_648 rfl (by decide) ?_
  refine ax_iadd 650 dL_law_649 rfl ?_
  refine ax_sldN 651 dL_law_650 rfl (ia (7 * j) 3) (by omega) (by omega) ?_
  refine ax_aload_nR 0 652 dL_law_651 rfl rfl rfl ?_
  refine ax_iload 654 dL_law_652 rfl rfl ?_
  refine ax_iconst (v := 4) 655 dL_law_654 rfl (by decide) ?_
  refine ax_iadd 656 dL_law_655 rfl ?_
  refine ax_sldN 657 dL_law_656 rfl (ia (7 * j) 4) (by omega) (by omega) ?_
  refine ax_aload_n 3 658 dL_law_657 rfl rfl rfl ?_
  refine ax_inv0 (nc2 := nc) (ns2 := ns) 661 dL_law_658 rfl ml_L_123 (w_open (d := 10) (by omega) (G.xs (7 * j + 1)) (G.xs (7 * j + 2)) (G.xs (7 * j + 3)) (G.xs (7 * j + 4)) z hC (h3.elim (fun ⟨x, h4, _⟩ => Or.inl ⟨x, h4⟩) Or.inr)) (by omega) rfl rfl (Nat.le_of_ble_eq_true rfl) (by omega) (by omega) ?_
  refine ax_istore 663 dL_law_661 rfl (Nat.le_of_ble_eq_true rfl) ?_
  refine ax_aload_n 2 664 dL_law_663 rfl rfl rfl ?_
  refine ax_aload_nR 0 665 dL_law_664 rfl rfl rfl ?_
  refine ax_iload 667 dL_law_665 rfl rfl ?_
  refine ax_iconst (v := 1) 668 dL_law_667 rfl (by decide) ?_
  refine ax_iadd 669 dL_law_668 rfl ?_
  refine ax_sldN 670 dL_law_669 rfl (ia (7 * j) 1) (by omega) (by omega) ?_
  refine ax_aload_nR 0 671 dL_law_670 rfl rfl rfl ?_
  refine ax_iload 673 dL_law_671 rfl rfl ?_
  refine ax_iconst (v := 2) 674 dL_law_673 rfl (by decide) ?_
  refine ax_iadd 675 dL_law_674 rfl ?_
  refine ax_sldN 676 dL_law_675 rfl (ia (7 * j) 2) (by omega) (by omega) ?_
  refine ax_aload_nR 0 677 dL_law_676 rfl rfl rfl ?_
  refine ax_iload 679 dL_law_677 rfl rfl ?_
  refine ax_iconst (v := 3) 680 dL_law_679 rfl (by decide) ?_
  refine ax_iadd 681 dL_law_680 rfl ?_
  refine ax_sldN 682 dL_law_681 rfl (ia (7 * j) 3) (by omega) (by omega) ?_
  refine ax_aload_nR 0 683 dL_law_682 rfl rfl rfl ?_
  refine ax_iload 685 dL_law_683 rfl rfl ?_
  refine ax_iconst (v := 4) 686 dL_law_685 rfl (by decide) ?_
  refine ax_iadd 687 dL_law_686 rfl ?_
  refine ax_sldN 688 dL_law_687 rfl (ia (7 * j) 4) (by omega) (by omega) ?_
  refine ax_cV 691 dL_law_688 rfl ml_L_126 (hM z.2 (oO o z.1)) rfl (by omega) rfl rfl (Nat.le_of_ble_eq_true rfl) ?_
  refine ax_istore 693 dL_law_691 rfl (Nat.le_of_ble_eq_true rfl) ?_
  refine ax_aload_n 2 694 dL_law_693 rfl rfl rfl ?_
  refine ax_cV 697 dL_law_694 rfl ml_L_96 (m_thrown (d := 10)) rfl (by omega) rfl rfl (Nat.le_of_ble_eq_true rfl) ?_
  refine ax_iload 699 dL_law_697 rfl rfl ?_
  refine ax_icmp_eq 704 702 dL_law_699 (by decide) rfl (fun c => ?_) (fun c => ?_)
  · refine ax_iload 706 dL_law_704 rfl rfl ?_
    refine ax_if_ne 721 709 dL_law_706 (by decide) rfl (fun c1 => ?_) (fun c1 => ?_)
    · refine ax_goto 1521 dL_law_721 (by decide) ?_
      exact ax_lvk K ⟨rfl, rfl, rfl, rfl, rfl, trivial⟩
    · refine ax_aload_n 3 710 dL_law_709 rfl rfl rfl ?_
      refine ax_iconst (v := 0) 711 dL_law_710 rfl (by decide) ?_
      refine ax_lald0 712 dL_law_711 rfl ?_
      refine ax_iload 714 dL_law_712 rfl rfl ?_
      refine ax_i2l 715 dL_law_714 rfl ?_
      refine ax_lcmp 716 dL_law_715 rfl ?_
      refine ax_if_eq 721 719 dL_law_716 (by decide) rfl (fun c2 => ?_) (fun c2 => ?_)
      · refine ax_goto 1521 dL_law_721 (by decide) ?_
        exact ax_lvk K ⟨rfl, rfl, rfl, rfl, rfl, trivial⟩
      · refine absurd ?_ c2
        rw [lg_cmp_eq]
        rcases h3 with ⟨x, h4, h5⟩ | h4 | h4
        · rw [h4, h5]; exact pk_uLs
        · rw [h4] at c1; exact absurd c1 (by decide)
        · rw [h4] at c1; exact absurd c1 (by decide)
  · exact absurd h2.symm c
theorem law_end (hS : st_end R) (y n : Nat) (hb : bsF q p y n) (hR : R q p) (j : Nat) (hj : 7 * j + 7 ≤ G.L) (hL : G.L ≤ 3584) (K : ∀ (q' p' : Nat → Nat → Int32) (l' o' : Nat → Int64), R q' p' → okL G nc ns 1521 j q' p' l' o') : okL G (1 + nc) (6 + ns) 724 j q p l o := by
  have hC := c_end (G := G) (d := 9) (q := q) (r := wM p l ++ [.inl (2, 1, .inr o)]) (by omega)  y hb.1 hb.2.1
  obtain ⟨h1, h2, h3⟩ := hS q p y n hR hb
  have hM := fun (q' : Nat → Nat → Int32) (o' : Nat → Int64) => m_end (G := G) (d := 10) (q := q') (p := p) (l := l) (r := [.inl (2, 1, .inr o')]) (by omega) n y  hb.2.2.2.1 hb.2.2.2.2.2.1 hb.2.1 hb.2.2.2.2.1 hb.2.2.2.2.2.2.2.1
  generalize (cEnd q) = z at hC h1 h2 h3
  generalize (mEnd p n y) = w at hM h1 h2 h3
  obtain ⟨O, hO, K⟩ := K z.2 w.2 l (oO o z.1) h1
  refine ⟨O, hO, ?_⟩
  refine ax_aload_n 1 725 dL_law_724 rfl rfl rfl ?_
  refine ax_aload_n 3 726 dL_law_725 rfl rfl rfl ?_
  refine ax_inv0 (nc2 := nc) (ns2 := ns) 729 dL_law_726 rfl ml_L_127 (w_end (d := 10) (by omega) z hC (h3.elim (fun ⟨x, h4, _⟩ => Or.inl ⟨x, h4⟩) Or.inr)) (by omega) rfl rfl (Nat.le_of_ble_eq_true rfl) (by omega) (by omega) ?_
  refine ax_istore 731 dL_law_729 rfl (Nat.le_of_ble_eq_true rfl) ?_
  refine ax_aload_n 2 732 dL_law_731 rfl rfl rfl ?_
  refine ax_cV 735 dL_law_732 rfl ml_L_130 (hM z.2 (oO o z.1)) rfl (by omega) rfl rfl (Nat.le_of_ble_eq_true rfl) ?_
  refine ax_istore 737 dL_law_735 rfl (Nat.le_of_ble_eq_true rfl) ?_
  refine ax_aload_n 2 738 dL_law_737 rfl rfl rfl ?_
  refine ax_cV 741 dL_law_738 rfl ml_L_96 (m_thrown (d := 10)) rfl (by omega) rfl rfl (Nat.le_of_ble_eq_true rfl) ?_
  refine ax_iload 743 dL_law_741 rfl rfl ?_
  refine ax_icmp_eq 748 746 dL_law_743 (by decide) rfl (fun c => ?_) (fun c => ?_)
  · refine ax_iload 750 dL_law_748 rfl rfl ?_
    refine ax_if_ne 765 753 dL_law_750 (by decide) rfl (fun c1 => ?_) (fun c1 => ?_)
    · refine ax_goto 1521 dL_law_765 (by decide) ?_
      exact ax_lvk K ⟨rfl, rfl, rfl, rfl, rfl, trivial⟩
    · refine ax_aload_n 3 754 dL_law_753 rfl rfl rfl ?_
      refine ax_iconst (v := 0) 755 dL_law_754 rfl (by decide) ?_
      refine ax_lald0 756 dL_law_755 rfl ?_
      refine ax_iload 758 dL_law_756 rfl rfl ?_
      refine ax_i2l 759 dL_law_758 rfl ?_
      refine ax_lcmp 760 dL_law_759 rfl ?_
      refine ax_if_eq 765 763 dL_law_760 (by decide) rfl (fun c2 => ?_) (fun c2 => ?_)
      · refine ax_goto 1521 dL_law_765 (by decide) ?_
        exact ax_lvk K ⟨rfl, rfl, rfl, rfl, rfl, trivial⟩
      · refine absurd ?_ c2
        rw [lg_cmp_eq]
        rcases h3 with ⟨x, h4, h5⟩ | h4
        · rw [h4, h5]; exact pk_uLs
        · rw [h4] at c1; exact absurd c1 (by decide)
  · exact absurd h2.symm c
theorem law_lease (hS : st_lease R) (y n : Nat) (hb : bsF q p y n) (hR : R q p) (j : Nat) (hj : 7 * j + 7 ≤ G.L) (hL : G.L ≤ 3584) (K : ∀ (q' p' : Nat → Nat → Int32) (l' o' : Nat → Int64), R q' p' → okL G nc ns 1521 j q' p' l' o') : okL G (1 + nc) (6 + ns) 768 j q p l o := by
  have hC := c_lease (G := G) (d := 9) (q := q) (r := wM p l ++ [.inl (2, 1, .inr o)]) (by omega) (G.xs (7 * j + 1)) (G.xs (7 * j + 2)) (G.xs (7 * j + 3)) (G.xs (7 * j + 4)) y hb.1 hb.2.1 n hb.2.2.1 hb.2.2.2.1
  obtain ⟨h1, h2, h3⟩ := hS q p y n hR hb (G.xs (7 * j + 1)) (G.xs (7 * j + 2)) (G.xs (7 * j + 3)) (G.xs (7 * j + 4))
  have hM := fun (q' : Nat → Nat → Int32) (o' : Nat → Int64) => m_lease (G := G) (d := 10) (q := q') (p := p) (l := l) (r := [.inl (2, 1, .inr o')]) (by omega) n y (G.xs (7 * j + 1)) (G.xs (7 * j + 2)) (G.xs (7 * j + 3)) (G.xs (7 * j + 4)) hb.2.2.2.1 hb.2.2.2.2.2.1 hb.2.1 hb.2.2.2.2.1 hb.2.2.2.2.2.2.2.1
  generalize (cLease q (G.xs (7 * j + 1)) (G.xs (7 * j + 2)) (G.xs (7 * j + 3)) (G.xs (7 * j + 4))) = z at hC h1 h2 h3
  generalize (mLease p n y (G.xs (7 * j + 1)) (G.xs (7 * j + 2)) (G.xs (7 * j + 3)) (G.xs (7 * j + 4))) = w at hM h1 h2 h3
  obtain ⟨O, hO, K⟩ := K z.2 w.2 l (oO o z.1) h1
  refine ⟨O, hO, ?_⟩
  refine ax_aload_n 1 769 dL_law_768 rfl rfl rfl ?_
  refine ax_aload_nR 0 770 dL_law_769 rfl rfl rfl ?_
  refine ax_iload 772 dL_law_770 rfl rfl ?_
  refine ax_iconst (v := 1) 773 dL_law_772 rfl (by decide) ?_
  refine ax_iadd 774 dL_law_773 rfl ?_
  refine ax_sldN 775 dL_law_774 rfl (ia (7 * j) 1) (by omega) (by omega) ?_
  refine ax_aload_nR 0 776 dL_law_775 rfl rfl rfl ?_
  refine ax_iload 778 dL_law_776 rfl rfl ?_
  refine ax_iconst (v := 2) 779 dL_law_778 rfl (by decide) ?_
  refine ax_iadd 780 dL_law_779 rfl ?_
  refine ax_sldN 781 dL_law_780 rfl (ia (7 * j) 2) (by omega) (by omega) ?_
  refine ax_aload_nR 0 782 dL_law_781 rfl rfl rfl ?_
  refine ax_iload 784 dL_law_782 rfl rfl ?_
  refine ax_iconst (v := 3) 785 dL_law_784 rfl (by decide) ?_
  refine ax_iadd 786 dL_law_785 rfl ?_
  refine ax_sldN 787 dL_law_786 rfl (ia (7 * j) 3) (by omega) (by omega) ?_
  refine ax_aload_nR 0 788 dL_law_787 rfl rfl rfl ?_
  refine ax_iload 790 dL_law_788 rfl rfl ?_
  refine ax_iconst (v := 4) 791 dL_law_790 rfl (by decide) ?_
  refine ax_iadd 792 dL_law_791 rfl ?_
  refine ax_sldN 793 dL_law_792 rfl (ia (7 * j) 4) (by omega) (by omega) ?_
  refine ax_aload_n 3 794 dL_law_793 rfl rfl rfl ?_
  refine ax_inv0 (nc2 := nc) (ns2 := ns) 797 dL_law_794 rfl ml_L_131 (w_lease (d := 10) (by omega) (G.xs (7 * j + 1)) (G.xs (7 * j + 2)) (G.xs (7 * j + 3)) (G.xs (7 * j + 4)) z hC (h3.elim (fun ⟨x, h4, _⟩ => Or.inl ⟨x, h4⟩) Or.inr)) (by omega) rfl rfl (Nat.le_of_ble_eq_true rfl) (by omega) (by omega) ?_
  refine ax_istore 799 dL_law_797 rfl (Nat.le_of_ble_eq_true rfl) ?_
  refine ax_aload_n 2 800 dL_law_799 rfl rfl rfl ?_
  refine ax_aload_nR 0 801 dL_law_800 rfl rfl rfl ?_
  refine ax_iload 803 dL_law_801 rfl rfl ?_
  refine ax_iconst (v := 1) 804 dL_law_803 rfl (by decide) ?_
  refine ax_iadd 805 dL_law_804 rfl ?_
  refine ax_sldN 806 dL_law_805 rfl (ia (7 * j) 1) (by omega) (by omega) ?_
  refine ax_aload_nR 0 807 dL_law_806 rfl rfl rfl ?_
  refine ax_iload 809 dL_law_807 rfl rfl ?_
  refine ax_iconst (v := 2) 810 dL_law_809 rfl (by decide) ?_
  refine ax_iadd 811 dL_law_810 rfl ?_
  refine ax_sldN 812 dL_law_811 rfl (ia (7 * j) 2) (by omega) (by omega) ?_
  refine ax_aload_nR 0 813 dL_law_812 rfl rfl rfl ?_
  refine ax_iload 815 dL_law_813 rfl rfl ?_
  refine ax_iconst (v := 3) 816 dL_law_815 rfl (by decide) ?_
  refine ax_iadd 817 dL_law_816 rfl ?_
  refine ax_sldN 818 dL_law_817 rfl (ia (7 * j) 3) (by omega) (by omega) ?_
  refine ax_aload_nR 0 819 dL_law_818 rfl rfl rfl ?_
  refine ax_iload 821 dL_law_819 rfl rfl ?_
  refine ax_iconst (v := 4) 822 dL_law_821 rfl (by decide) ?_
  refine ax_iadd 823 dL_law_822 rfl ?_
  refine ax_sldN 824 dL_law_823 rfl (ia (7 * j) 4) (by omega) (by omega) ?_
  refine ax_cV 827 dL_law_824 rfl ml_L_133 (hM z.2 (oO o z.1)) rfl (by omega) rfl rfl (Nat.le_of_ble_eq_true rfl) ?_
  refine ax_istore 829 dL_law_827 rfl (Nat.le_of_ble_eq_true rfl) ?_
  refine ax_aload_n 2 830 dL_law_829 rfl rfl rfl ?_
  refine ax_cV 833 dL_law_830 rfl ml_L_96 (m_thrown (d := 10)) rfl (by omega) rfl rfl (Nat.le_of_ble_eq_true rfl) ?_
  refine ax_iload 835 dL_law_833 rfl rfl ?_
  refine ax_icmp_eq 840 838 dL_law_835 (by decide) rfl (fun c => ?_) (fun c => ?_)
  · refine ax_iload 842 dL_law_840 rfl rfl ?_
    refine ax_if_ne 857 845 dL_law_842 (by decide) rfl (fun c1 => ?_) (fun c1 => ?_)
    · refine ax_goto 1521 dL_law_857 (by decide) ?_
      exact ax_lvk K ⟨rfl, rfl, rfl, rfl, rfl, trivial⟩
    · refine ax_aload_n 3 846 dL_law_845 rfl rfl rfl ?_
      refine ax_iconst (v := 0) 847 dL_law_846 rfl (by decide) ?_
      refine ax_lald0 848 dL_law_847 rfl ?_
      refine ax_iload 850 dL_law_848 rfl rfl ?_
      refine ax_i2l 851 dL_law_850 rfl ?_
      refine ax_lcmp 852 dL_law_851 rfl ?_
      refine ax_if_eq 857 855 dL_law_852 (by decide) rfl (fun c2 => ?_) (fun c2 => ?_)
      · refine ax_goto 1521 dL_law_857 (by decide) ?_
        exact ax_lvk K ⟨rfl, rfl, rfl, rfl, rfl, trivial⟩
      · refine absurd ?_ c2
        rw [lg_cmp_eq]
        rcases h3 with ⟨x, h4, h5⟩ | h4 | h4
        · rw [h4, h5]; exact pk_uLs
        · rw [h4] at c1; exact absurd c1 (by decide)
        · rw [h4] at c1; exact absurd c1 (by decide)
  · exact absurd h2.symm c
theorem law_land (hS : st_land R) (y n : Nat) (hb : bsF q p y n) (hR : R q p) (j : Nat) (hj : 7 * j + 7 ≤ G.L) (hL : G.L ≤ 3584) (K : ∀ (q' p' : Nat → Nat → Int32) (l' o' : Nat → Int64), R q' p' → okL G nc ns 1521 j q' p' l' o') : okL G (1 + nc) (6 + ns) 860 j q p l o := by
  have hC := c_land (G := G) (d := 9) (q := q) (r := wM p l ++ [.inl (2, 1, .inr o)]) (by omega) (G.xs (7 * j + 1)) (G.xs (7 * j + 2)) (G.xs (7 * j + 3)) (G.xs (7 * j + 4)) (G.xs (7 * j + 5)) (bI (ntz (G.xs (7 * j + 6)))) y hb.1 hb.2.1 n hb.2.2.1 hb.2.2.2.1 hb.2.2.2.2.2.2.1
  obtain ⟨h1, h2, h3⟩ := hS q p y n hR hb (G.xs (7 * j + 1)) (G.xs (7 * j + 2)) (G.xs (7 * j + 3)) (G.xs (7 * j + 4)) (G.xs (7 * j + 5)) (bI (ntz (G.xs (7 * j + 6)))) (bI_01 _)
  have hM := fun (q' : Nat → Nat → Int32) (o' : Nat → Int64) => m_land (G := G) (d := 10) (q := q') (p := p) (l := l) (r := [.inl (2, 1, .inr o')]) (by omega) n y (G.xs (7 * j + 1)) (G.xs (7 * j + 2)) (G.xs (7 * j + 3)) (G.xs (7 * j + 4)) (G.xs (7 * j + 5)) (bI (ntz (G.xs (7 * j + 6)))) hb.2.2.2.1 hb.2.2.2.2.2.1 hb.2.1 hb.2.2.2.2.1 hb.2.2.2.2.2.2.2.1
  generalize (cLand q (G.xs (7 * j + 1)) (G.xs (7 * j + 2)) (G.xs (7 * j + 3)) (G.xs (7 * j + 4)) (G.xs (7 * j + 5)) (bI (ntz (G.xs (7 * j + 6))))) = z at hC h1 h2 h3
  generalize (mLand p n y (G.xs (7 * j + 1)) (G.xs (7 * j + 2)) (G.xs (7 * j + 3)) (G.xs (7 * j + 4)) (G.xs (7 * j + 5)) (bI (ntz (G.xs (7 * j + 6))))) = w at hM h1 h2 h3
  obtain ⟨O, hO, K⟩ := K z.2 w.2 l (oO o z.1) h1
  refine ⟨O, hO, ?_⟩
  refine ax_aload_n 1 861 dL_law_860 rfl rfl rfl ?_
  refine ax_aload_nR 0 862 dL_law_861 rfl rfl rfl ?_
  refine ax_iload 864 dL_law_862 rfl rfl ?_
  refine ax_iconst (v := 1) 865 dL_law_864 rfl (by decide) ?_
  refine ax_iadd 866 dL_law_865 rfl ?_
  refine ax_sldN 867 dL_law_866 rfl (ia (7 * j) 1) (by omega) (by omega) ?_
  refine ax_aload_nR 0 868 dL_law_867 rfl rfl rfl ?_
  refine ax_iload 870 dL_law_868 rfl rfl ?_
  refine ax_iconst (v := 2) 871 dL_law_870 rfl (by decide) ?_
  refine ax_iadd 872 dL_law_871 rfl ?_
  refine ax_sldN 873 dL_law_872 rfl (ia (7 * j) 2) (by omega) (by omega) ?_
  refine ax_aload_nR 0 874 dL_law_873 rfl rfl rfl ?_
  refine ax_iload 876 dL_law_874 rfl rfl ?_
  refine ax_iconst (v := 3) 877 dL_law_876 rfl (by decide) ?_
  refine ax_iadd 878 dL_law_877 rfl ?_
  refine ax_sldN 879 dL_law_878 rfl (ia (7 * j) 3) (by omega) (by omega) ?_
  refine ax_aload_nR 0 880 dL_law_879 rfl rfl rfl ?_
  refine ax_iload 882 dL_law_880 rfl rfl ?_
  refine ax_iconst (v := 4) 883 dL_law_882 rfl (by decide) ?_
  refine ax_iadd 884 dL_law_883 rfl ?_
  refine ax_sldN 885 dL_law_884 rfl (ia (7 * j) 4) (by omega) (by omega) ?_
  refine ax_aload_nR 0 886 dL_law_885 rfl rfl rfl ?_
  refine ax_iload 888 dL_law_886 rfl rfl ?_
  refine ax_iconst (v := 5) 889 dL_law_888 rfl (by decide) ?_
  refine ax_iadd 890 dL_law_889 rfl ?_
  refine ax_sldN 891 dL_law_890 rfl (ia (7 * j) 5) (by omega) (by omega) ?_
  refine ax_jn 906 (ntz (G.xs (7 * j + 6))) (fun K9 => ?_) ?_
  · refine ax_aload_nR 0 892 dL_law_891 rfl rfl rfl ?_
    refine ax_iload 894 dL_law_892 rfl rfl ?_
    refine ax_bipush (v := 6) 896 dL_law_894 rfl (by decide) ?_
    refine ax_iadd 897 dL_law_896 rfl ?_
    refine ax_sldN 898 dL_law_897 rfl (ia (7 * j) 6) (by omega) (by omega) ?_
    refine ax_if_eq 905 901 dL_law_898 (by decide) rfl (fun c => ?_) (fun c => ?_)
    · refine ax_iconst (v := 0) 906 dL_law_905 rfl (by decide) ?_
      exact ax_bx K9 (by simp [bI_0, ntz, c])
    · refine ax_iconst (v := 1) 902 dL_law_901 rfl (by decide) ?_
      refine ax_goto 906 dL_law_902 (by decide) ?_
      exact ax_bx K9 (by simp [bI_1, ntz, c])
  refine ax_aload_n 3 907 dL_law_906 rfl rfl rfl ?_
  refine ax_inv0 (nc2 := nc) (ns2 := ns) 910 dL_law_907 rfl ml_L_134 (w_land (d := 10) (by omega) (G.xs (7 * j + 1)) (G.xs (7 * j + 2)) (G.xs (7 * j + 3)) (G.xs (7 * j + 4)) (G.xs (7 * j + 5)) (bI (ntz (G.xs (7 * j + 6)))) z hC (h3.elim (fun ⟨x, h4, _⟩ => Or.inl ⟨x, h4⟩) Or.inr)) (by omega) rfl rfl (Nat.le_of_ble_eq_true rfl) (by omega) (by omega) ?_
  refine ax_istore 912 dL_law_910 rfl (Nat.le_of_ble_eq_true rfl) ?_
  refine ax_aload_n 2 913 dL_law_912 rfl rfl rfl ?_
  refine ax_aload_nR 0 914 dL_law_913 rfl rfl rfl ?_
  refine ax_iload 916 dL_law_914 rfl rfl ?_
  refine ax_iconst (v := 1) 917 dL_law_916 rfl (by decide) ?_
  refine ax_iadd 918 dL_law_917 rfl ?_
  refine ax_sldN 919 dL_law_918 rfl (ia (7 * j) 1) (by omega) (by omega) ?_
  refine ax_aload_nR 0 920 dL_law_919 rfl rfl rfl ?_
  refine ax_iload 922 dL_law_920 rfl rfl ?_
  refine ax_iconst (v := 2) 923 dL_law_922 rfl (by decide) ?_
  refine ax_iadd 924 dL_law_923 rfl ?_
  refine ax_sldN 925 dL_law_924 rfl (ia (7 * j) 2) (by omega) (by omega) ?_
  refine ax_aload_nR 0 926 dL_law_925 rfl rfl rfl ?_
  refine ax_iload 928 dL_law_926 rfl rfl ?_
  refine ax_iconst (v := 3) 929 dL_law_928 rfl (by decide) ?_
  refine ax_iadd 930 dL_law_929 rfl ?_
  refine ax_sldN 931 dL_law_930 rfl (ia (7 * j) 3) (by omega) (by omega) ?_
  refine ax_aload_nR 0 932 dL_law_931 rfl rfl rfl ?_
  refine ax_iload 934 dL_law_932 rfl rfl ?_
  refine ax_iconst (v := 4) 935 dL_law_934 rfl (by decide) ?_
  refine ax_iadd 936 dL_law_935 rfl ?_
  refine ax_sldN 937 dL_law_936 rfl (ia (7 * j) 4) (by omega) (by omega) ?_
  refine ax_aload_nR 0 938 dL_law_937 rfl rfl rfl ?_
  refine ax_iload 940 dL_law_938 rfl rfl ?_
  refine ax_iconst (v := 5) 941 dL_law_940 rfl (by decide) ?_
  refine ax_iadd 942 dL_law_941 rfl ?_
  refine ax_sldN 943 dL_law_942 rfl (ia (7 * j) 5) (by omega) (by omega) ?_
  refine ax_jn 958 (ntz (G.xs (7 * j + 6))) (fun K9 => ?_) ?_
  · refine ax_aload_nR 0 944 dL_law_943 rfl rfl rfl ?_
    refine ax_iload 946 dL_law_944 rfl rfl ?_
    refine ax_bipush (v := 6) 948 dL_law_946 rfl (by decide) ?_
    refine ax_iadd 949 dL_law_948 rfl ?_
    refine ax_sldN 950 dL_law_949 rfl (ia (7 * j) 6) (by omega) (by omega) ?_
    refine ax_if_eq 957 953 dL_law_950 (by decide) rfl (fun c => ?_) (fun c => ?_)
    · refine ax_iconst (v := 0) 958 dL_law_957 rfl (by decide) ?_
      exact ax_bx K9 (by simp [bI_0, ntz, c])
    · refine ax_iconst (v := 1) 954 dL_law_953 rfl (by decide) ?_
      refine ax_goto 958 dL_law_954 (by decide) ?_
      exact ax_bx K9 (by simp [bI_1, ntz, c])
  refine ax_cV 961 dL_law_958 rfl ml_L_137 (hM z.2 (oO o z.1)) rfl (by omega) rfl rfl (Nat.le_of_ble_eq_true rfl) ?_
  refine ax_istore 963 dL_law_961 rfl (Nat.le_of_ble_eq_true rfl) ?_
  refine ax_aload_n 2 964 dL_law_963 rfl rfl rfl ?_
  refine ax_cV 967 dL_law_964 rfl ml_L_96 (m_thrown (d := 10)) rfl (by omega) rfl rfl (Nat.le_of_ble_eq_true rfl) ?_
  refine ax_iload 969 dL_law_967 rfl rfl ?_
  refine ax_icmp_eq 974 972 dL_law_969 (by decide) rfl (fun c => ?_) (fun c => ?_)
  · refine ax_iload 976 dL_law_974 rfl rfl ?_
    refine ax_if_ne 991 979 dL_law_976 (by decide) rfl (fun c1 => ?_) (fun c1 => ?_)
    · refine ax_goto 1521 dL_law_991 (by decide) ?_
      exact ax_lvk K ⟨rfl, rfl, rfl, rfl, rfl, trivial⟩
    · refine ax_aload_n 3 980 dL_law_979 rfl rfl rfl ?_
      refine ax_iconst (v := 0) 981 dL_law_980 rfl (by decide) ?_
      refine ax_lald0 982 dL_law_981 rfl ?_
      refine ax_iload 984 dL_law_982 rfl rfl ?_
      refine ax_i2l 985 dL_law_984 rfl ?_
      refine ax_lcmp 986 dL_law_985 rfl ?_
      refine ax_if_eq 991 989 dL_law_986 (by decide) rfl (fun c2 => ?_) (fun c2 => ?_)
      · refine ax_goto 1521 dL_law_991 (by decide) ?_
        exact ax_lvk K ⟨rfl, rfl, rfl, rfl, rfl, trivial⟩
      · refine absurd ?_ c2
        rw [lg_cmp_eq]
        rcases h3 with ⟨x, h4, h5⟩ | h4 | h4
        · rw [h4, h5]; exact pk_uLs
        · rw [h4] at c1; exact absurd c1 (by decide)
        · rw [h4] at c1; exact absurd c1 (by decide)
  · exact absurd h2.symm c
theorem law_equivalent (hS : st_equivalent R) (y n : Nat) (hb : bsF q p y n) (hR : R q p) (j : Nat) (hj : 7 * j + 7 ≤ G.L) (hL : G.L ≤ 3584) (K : ∀ (q' p' : Nat → Nat → Int32) (l' o' : Nat → Int64), R q' p' → okL G nc ns 1521 j q' p' l' o') : okL G (1 + nc) (6 + ns) 994 j q p l o := by
  have hC := c_equivalent (G := G) (d := 9) (q := q) (r := wM p l ++ [.inl (2, 1, .inr o)]) (by omega) (G.xs (7 * j + 1)) (G.xs (7 * j + 2)) (G.xs (7 * j + 3)) (G.xs (7 * j + 4)) y hb.1 hb.2.1 n hb.2.2.1 hb.2.2.2.1 hb.2.2.2.2.2.2.2.2.2.2.2.1
  obtain ⟨h1, h2, h3⟩ := hS q p y n hR hb (G.xs (7 * j + 1)) (G.xs (7 * j + 2)) (G.xs (7 * j + 3)) (G.xs (7 * j + 4))
  have hM := fun (q' : Nat → Nat → Int32) (o' : Nat → Int64) => m_equivalent (G := G) (d := 10) (q := q') (p := p) (l := l) (r := [.inl (2, 1, .inr o')]) (by omega) n y (G.xs (7 * j + 1)) (G.xs (7 * j + 2)) (G.xs (7 * j + 3)) (G.xs (7 * j + 4)) hb.2.2.2.1 hb.2.2.2.2.2.1 hb.2.1 hb.2.2.2.2.1 hb.2.2.2.2.2.2.2.1 hb.2.2.2.2.2.2.2.2.2.2.2.2.1
  generalize (cEquivalent q (G.xs (7 * j + 1)) (G.xs (7 * j + 2)) (G.xs (7 * j + 3)) (G.xs (7 * j + 4))) = z at hC h1 h2 h3
  generalize (mEquivalent p n y (G.xs (7 * j + 1)) (G.xs (7 * j + 2)) (G.xs (7 * j + 3)) (G.xs (7 * j + 4))) = w at hM h1 h2 h3
  obtain ⟨O, hO, K⟩ := K z.2 w.2 l (oO o z.1) h1
  refine ⟨O, hO, ?_⟩
  refine ax_aload_n 1 995 dL_law_994 rfl rfl rfl ?_
  refine ax_aload_nR 0 996 dL_law_995 rfl rfl rfl ?_
  refine ax_iload 998 dL_law_996 rfl rfl ?_
  refine ax_iconst (v := 1) 999 dL_law_998 rfl (by decide) ?_
  refine ax_iadd 1000 dL_law_999 rfl ?_
  refine ax_sldN 1001 dL_law_1000 rfl (ia (7 * j) 1) (by omega) (by omega) ?_
  refine ax_aload_nR 0 1002 dL_law_1001 rfl rfl rfl ?_
  refine ax_iload 1004 dL_law_1002 rfl rfl ?_
  refine ax_iconst (v := 2) 1005 dL_law_1004 rfl (by decide) ?_
  refine ax_iadd 1006 dL_law_1005 rfl ?_
  refine ax_sldN 1007 dL_law_1006 rfl (ia (7 * j) 2) (by omega) (by omega) ?_
  refine ax_aload_nR 0 1008 dL_law_1007 rfl rfl rfl ?_
  refine ax_iload 1010 dL_law_1008 rfl rfl ?_
  refine ax_iconst (v := 3) 1011 dL_law_1010 rfl (by decide) ?_
  refine ax_iadd 1012 dL_law_1011 rfl ?_
  refine ax_sldN 1013 dL_law_1012 rfl (ia (7 * j) 3) (by omega) (by omega) ?_
  refine ax_aload_nR 0 1014 dL_law_1013 rfl rfl rfl ?_
  refine ax_iload 1016 dL_law_1014 rfl rfl ?_
  refine ax_iconst (v := 4) 1017 dL_law_1016 rfl (by decide) ?_
  refine ax_iadd 1018 dL_law_1017 rfl ?_
  refine ax_sldN 1019 dL_law_1018 rfl (ia (7 * j) 4) (by omega) (by omega) ?_
  refine ax_aload_n 3 1020 dL_law_1019 rfl rfl rfl ?_
  refine ax_inv0 (nc2 := nc) (ns2 := ns) 1023 dL_law_1020 rfl ml_L_138 (w_equivalent (d := 10) (by omega) (G.xs (7 * j + 1)) (G.xs (7 * j + 2)) (G.xs (7 * j + 3)) (G.xs (7 * j + 4)) z hC (h3.elim (fun ⟨x, h4, _⟩ => Or.inl ⟨x, h4⟩) Or.inr)) (by omega) rfl rfl (Nat.le_of_ble_eq_true rfl) (by omega) (by omega) ?_
  refine ax_istore 1025 dL_law_1023 rfl (Nat.le_of_ble_eq_true rfl) ?_
  refine ax_aload_n 2 1026 dL_law_1025 rfl rfl rfl ?_
  refine ax_aload_nR 0 1027 dL_law_1026 rfl rfl rfl ?_
  refine ax_iload 1029 dL_law_1027 rfl rfl ?_
  refine ax_iconst (v := 1) 1030 dL_law_1029 rfl (by decide) ?_
  refine ax_iadd 1031 dL_law_1030 rfl ?_
  refine ax_sldN 1032 dL_law_1031 rfl (ia (7 * j) 1) (by omega) (by omega) ?_
  refine ax_aload_nR 0 1033 dL_law_1032 rfl rfl rfl ?_
  refine ax_iload 1035 dL_law_1033 rfl rfl ?_
  refine ax_iconst (v := 2) 1036 dL_law_1035 rfl (by decide) ?_
  refine ax_iadd 1037 dL_law_1036 rfl ?_
  refine ax_sldN 1038 dL_law_1037 rfl (ia (7 * j) 2) (by omega) (by omega) ?_
  refine ax_aload_nR 0 1039 dL_law_1038 rfl rfl rfl ?_
  refine ax_iload 1041 dL_law_1039 rfl rfl ?_
  refine ax_iconst (v := 3) 1042 dL_law_1041 rfl (by decide) ?_
  refine ax_iadd 1043 dL_law_1042 rfl ?_
  refine ax_sldN 1044 dL_law_1043 rfl (ia (7 * j) 3) (by omega) (by omega) ?_
  refine ax_aload_nR 0 1045 dL_law_1044 rfl rfl rfl ?_
  refine ax_iload 1047 dL_law_1045 rfl rfl ?_
  refine ax_iconst (v := 4) 1048 dL_law_1047 rfl (by decide) ?_
  refine ax_iadd 1049 dL_law_1048 rfl ?_
  refine ax_sldN 1050 dL_law_1049 rfl (ia (7 * j) 4) (by omega) (by omega) ?_
  refine ax_cV 1053 dL_law_1050 rfl ml_L_140 (hM z.2 (oO o z.1)) rfl (by omega) rfl rfl (Nat.le_of_ble_eq_true rfl) ?_
  refine ax_istore 1055 dL_law_1053 rfl (Nat.le_of_ble_eq_true rfl) ?_
  refine ax_aload_n 2 1056 dL_law_1055 rfl rfl rfl ?_
  refine ax_cV 1059 dL_law_1056 rfl ml_L_96 (m_thrown (d := 10)) rfl (by omega) rfl rfl (Nat.le_of_ble_eq_true rfl) ?_
  refine ax_iload 1061 dL_law_1059 rfl rfl ?_
  refine ax_icmp_eq 1066 1064 dL_law_1061 (by decide) rfl (fun c => ?_) (fun c => ?_)
  · refine ax_iload 1068 dL_law_1066 rfl rfl ?_
    refine ax_if_ne 1083 1071 dL_law_1068 (by decide) rfl (fun c1 => ?_) (fun c1 => ?_)
    · refine ax_goto 1521 dL_law_1083 (by decide) ?_
      exact ax_lvk K ⟨rfl, rfl, rfl, rfl, rfl, trivial⟩
    · refine ax_aload_n 3 1072 dL_law_1071 rfl rfl rfl ?_
      refine ax_iconst (v := 0) 1073 dL_law_1072 rfl (by decide) ?_
      refine ax_lald0 1074 dL_law_1073 rfl ?_
      refine ax_iload 1076 dL_law_1074 rfl rfl ?_
      refine ax_i2l 1077 dL_law_1076 rfl ?_
      refine ax_lcmp 1078 dL_law_1077 rfl ?_
      refine ax_if_eq 1083 1081 dL_law_1078 (by decide) rfl (fun c2 => ?_) (fun c2 => ?_)
      · refine ax_goto 1521 dL_law_1083 (by decide) ?_
        exact ax_lvk K ⟨rfl, rfl, rfl, rfl, rfl, trivial⟩
      · refine absurd ?_ c2
        rw [lg_cmp_eq]
        rcases h3 with ⟨x, h4, h5⟩ | h4 | h4
        · rw [h4, h5]; exact pk_uLs
        · rw [h4] at c1; exact absurd c1 (by decide)
        · rw [h4] at c1; exact absurd c1 (by decide)
  · exact absurd h2.symm c
theorem law_strike (hS : st_strike R) (y n : Nat) (hb : bsF q p y n) (hR : R q p) (j : Nat) (hj : 7 * j + 7 ≤ G.L) (hL : G.L ≤ 3584) (K : ∀ (q' p' : Nat → Nat → Int32) (l' o' : Nat → Int64), R q' p' → okL G nc ns 1521 j q' p' l' o') : okL G (1 + nc) (6 + ns) 1086 j q p l o := by
  have hC := c_strike (G := G) (d := 9) (q := q) (r := wM p l ++ [.inl (2, 1, .inr o)]) (by omega) (G.xs (7 * j + 1)) y hb.1 hb.2.1 n hb.2.2.1 hb.2.2.2.1 hb.2.2.2.2.2.2.1 hb.2.2.2.2.2.2.2.2.1
  obtain ⟨h1, h2, h3⟩ := hS q p y n hR hb (G.xs (7 * j + 1))
  have hM := fun (q' : Nat → Nat → Int32) (o' : Nat → Int64) => m_strike (G := G) (d := 10) (q := q') (p := p) (l := l) (r := [.inl (2, 1, .inr o')]) (by omega) n y (G.xs (7 * j + 1)) hb.2.2.2.1 hb.2.2.2.2.2.1 hb.2.1 hb.2.2.2.2.1 hb.2.2.2.2.2.2.2.1
  generalize (cStrike q (G.xs (7 * j + 1))) = z at hC h1 h2 h3
  generalize (mStrike p n y (G.xs (7 * j + 1))) = w at hM h1 h2
  obtain ⟨O, hO, K⟩ := K z.2 w l (oO o z.1) h1
  refine ⟨O, hO, ?_⟩
  refine ax_aload_n 1 1087 dL_law_1086 rfl rfl rfl ?_
  refine ax_aload_nR 0 1088 dL_law_1087 rfl rfl rfl ?_
  refine ax_iload 1090 dL_law_1088 rfl rfl ?_
  refine ax_iconst (v := 1) 1091 dL_law_1090 rfl (by decide) ?_
  refine ax_iadd 1092 dL_law_1091 rfl ?_
  refine ax_sldN 1093 dL_law_1092 rfl (ia (7 * j) 1) (by omega) (by omega) ?_
  refine ax_inv0 (nc2 := nc) (ns2 := ns) 1096 dL_law_1093 rfl ml_L_141 (w_strike (d := 10) (by omega) (G.xs (7 * j + 1)) z hC h3) (by omega) rfl rfl (Nat.le_of_ble_eq_true rfl) (by omega) (by omega) ?_
  refine ax_istore 1098 dL_law_1096 rfl (Nat.le_of_ble_eq_true rfl) ?_
  refine ax_aload_n 2 1099 dL_law_1098 rfl rfl rfl ?_
  refine ax_aload_nR 0 1100 dL_law_1099 rfl rfl rfl ?_
  refine ax_iload 1102 dL_law_1100 rfl rfl ?_
  refine ax_iconst (v := 1) 1103 dL_law_1102 rfl (by decide) ?_
  refine ax_iadd 1104 dL_law_1103 rfl ?_
  refine ax_sldN 1105 dL_law_1104 rfl (ia (7 * j) 1) (by omega) (by omega) ?_
  refine ax_cVv 1108 dL_law_1105 rfl ml_L_144 (hM z.2 (oO o z.1)) rfl (by omega) rfl rfl (Nat.le_of_ble_eq_true rfl) ?_
  refine ax_aload_n 2 1109 dL_law_1108 rfl rfl rfl ?_
  refine ax_cV 1112 dL_law_1109 rfl ml_L_96 (m_thrown (d := 10)) rfl (by omega) rfl rfl (Nat.le_of_ble_eq_true rfl) ?_
  refine ax_iload 1114 dL_law_1112 rfl rfl ?_
  refine ax_icmp_eq 1119 1117 dL_law_1114 (by decide) rfl (fun c => ?_) (fun c => ?_)
  · refine ax_goto 1521 dL_law_1119 (by decide) ?_
    exact ax_lvk K ⟨rfl, rfl, rfl, rfl, rfl, trivial⟩
  · exact absurd h2.symm c
theorem law_reopen (hS : st_reopen R) (y n : Nat) (hb : bsF q p y n) (hR : R q p) (j : Nat) (hj : 7 * j + 7 ≤ G.L) (hL : G.L ≤ 3584) (K : ∀ (q' p' : Nat → Nat → Int32) (l' o' : Nat → Int64), R q' p' → okL G nc ns 1521 j q' p' l' o') : okL G (1 + nc) (6 + ns) 1122 j q p l o := by
  have hC := c_reopen (G := G) (d := 9) (q := q) (r := wM p l ++ [.inl (2, 1, .inr o)]) (by omega) (G.xs (7 * j + 1)) y hb.1 hb.2.1
  obtain ⟨h1, h2, h3⟩ := hS q p y n hR hb (G.xs (7 * j + 1))
  have hM := fun (q' : Nat → Nat → Int32) (o' : Nat → Int64) => m_reopen (G := G) (d := 10) (q := q') (p := p) (l := l) (r := [.inl (2, 1, .inr o')]) (by omega) y (G.xs (7 * j + 1)) hb.2.1 hb.2.2.2.2.1
  generalize (cReopen q (G.xs (7 * j + 1))) = z at hC h1 h2 h3
  generalize (mReopen p (G.xs (7 * j + 1))) = w at hM h1 h2
  obtain ⟨O, hO, K⟩ := K z.2 w l (oO o z.1) h1
  refine ⟨O, hO, ?_⟩
  refine ax_aload_n 1 1123 dL_law_1122 rfl rfl rfl ?_
  refine ax_aload_nR 0 1124 dL_law_1123 rfl rfl rfl ?_
  refine ax_iload 1126 dL_law_1124 rfl rfl ?_
  refine ax_iconst (v := 1) 1127 dL_law_1126 rfl (by decide) ?_
  refine ax_iadd 1128 dL_law_1127 rfl ?_
  refine ax_sldN 1129 dL_law_1128 rfl (ia (7 * j) 1) (by omega) (by omega) ?_
  refine ax_inv0 (nc2 := nc) (ns2 := ns) 1132 dL_law_1129 rfl ml_L_145 (w_reopen (d := 10) (by omega) (G.xs (7 * j + 1)) z hC h3) (by omega) rfl rfl (Nat.le_of_ble_eq_true rfl) (by omega) (by omega) ?_
  refine ax_istore 1134 dL_law_1132 rfl (Nat.le_of_ble_eq_true rfl) ?_
  refine ax_aload_n 2 1135 dL_law_1134 rfl rfl rfl ?_
  refine ax_aload_nR 0 1136 dL_law_1135 rfl rfl rfl ?_
  refine ax_iload 1138 dL_law_1136 rfl rfl ?_
  refine ax_iconst (v := 1) 1139 dL_law_1138 rfl (by decide) ?_
  refine ax_iadd 1140 dL_law_1139 rfl ?_
  refine ax_sldN 1141 dL_law_1140 rfl (ia (7 * j) 1) (by omega) (by omega) ?_
  refine ax_cVv 1144 dL_law_1141 rfl ml_L_147 (hM z.2 (oO o z.1)) rfl (by omega) rfl rfl (Nat.le_of_ble_eq_true rfl) ?_
  refine ax_aload_n 2 1145 dL_law_1144 rfl rfl rfl ?_
  refine ax_cV 1148 dL_law_1145 rfl ml_L_96 (m_thrown (d := 10)) rfl (by omega) rfl rfl (Nat.le_of_ble_eq_true rfl) ?_
  refine ax_iload 1150 dL_law_1148 rfl rfl ?_
  refine ax_icmp_eq 1155 1153 dL_law_1150 (by decide) rfl (fun c => ?_) (fun c => ?_)
  · refine ax_goto 1521 dL_law_1155 (by decide) ?_
    exact ax_lvk K ⟨rfl, rfl, rfl, rfl, rfl, trivial⟩
  · exact absurd h2.symm c
theorem law_account (hS : st_account R) (y n : Nat) (hb : bsF q p y n) (hR : R q p) (j : Nat) (hj : 7 * j + 7 ≤ G.L) (hL : G.L ≤ 3584) (K : ∀ (q' p' : Nat → Nat → Int32) (l' o' : Nat → Int64), R q' p' → okL G nc ns 1521 j q' p' l' o') : okL G (1 + nc) (6 + ns) 1158 j q p l o := by
  have hC := c_account (G := G) (d := 9) (q := q) (r := wM p l ++ [.inl (2, 1, .inr o)]) (by omega) (G.xs (7 * j + 1)) (G.xs (7 * j + 2)) (G.xs (7 * j + 3)) (G.xs (7 * j + 4)) y hb.1 hb.2.1
  obtain ⟨h1, h2, h3⟩ := hS q p y n hR hb (G.xs (7 * j + 1)) (G.xs (7 * j + 2)) (G.xs (7 * j + 3)) (G.xs (7 * j + 4))
  have hM := fun (q' : Nat → Nat → Int32) (o' : Nat → Int64) => m_account (G := G) (d := 10) (q := q') (p := p) (l := l) (r := [.inl (2, 1, .inr o')]) (by omega) y (G.xs (7 * j + 1)) (G.xs (7 * j + 2)) (G.xs (7 * j + 3)) (G.xs (7 * j + 4)) hb.2.1 hb.2.2.2.2.1
  generalize (cAccount q (G.xs (7 * j + 1)) (G.xs (7 * j + 2)) (G.xs (7 * j + 3)) (G.xs (7 * j + 4))) = z at hC h1 h2 h3
  generalize (mAccount p (G.xs (7 * j + 1)) (G.xs (7 * j + 2)) (G.xs (7 * j + 3)) (G.xs (7 * j + 4))) = w at hM h1 h2 h3
  obtain ⟨O, hO, K⟩ := K z.2 w.2 l (oO o z.1) h1
  refine ⟨O, hO, ?_⟩
  refine ax_aload_n 1 1159 dL_law_1158 rfl rfl rfl ?_
  refine ax_aload_nR 0 1160 dL_law_1159 rfl rfl rfl ?_
  refine ax_iload 1162 dL_law_1160 rfl rfl ?_
  refine ax_iconst (v := 1) 1163 dL_law_1162 rfl (by decide) ?_
  refine ax_iadd 1164 dL_law_1163 rfl ?_
  refine ax_sldN 1165 dL_law_1164 rfl (ia (7 * j) 1) (by omega) (by omega) ?_
  refine ax_aload_nR 0 1166 dL_law_1165 rfl rfl rfl ?_
  refine ax_iload 1168 dL_law_1166 rfl rfl ?_
  refine ax_iconst (v := 2) 1169 dL_law_1168 rfl (by decide) ?_
  refine ax_iadd 1170 dL_law_1169 rfl ?_
  refine ax_sldN 1171 dL_law_1170 rfl (ia (7 * j) 2) (by omega) (by omega) ?_
  refine ax_aload_nR 0 1172 dL_law_1171 rfl rfl rfl ?_
  refine ax_iload 1174 dL_law_1172 rfl rfl ?_
  refine ax_iconst (v := 3) 1175 dL_law_1174 rfl (by decide) ?_
  refine ax_iadd 1176 dL_law_1175 rfl ?_
  refine ax_sldN 1177 dL_law_1176 rfl (ia (7 * j) 3) (by omega) (by omega) ?_
  refine ax_aload_nR 0 1178 dL_law_1177 rfl rfl rfl ?_
  refine ax_iload 1180 dL_law_1178 rfl rfl ?_
  refine ax_iconst (v := 4) 1181 dL_law_1180 rfl (by decide) ?_
  refine ax_iadd 1182 dL_law_1181 rfl ?_
  refine ax_sldN 1183 dL_law_1182 rfl (ia (7 * j) 4) (by omega) (by omega) ?_
  refine ax_aload_n 3 1184 dL_law_1183 rfl rfl rfl ?_
  refine ax_inv0 (nc2 := nc) (ns2 := ns) 1187 dL_law_1184 rfl ml_L_148 (w_account (d := 10) (by omega) (G.xs (7 * j + 1)) (G.xs (7 * j + 2)) (G.xs (7 * j + 3)) (G.xs (7 * j + 4)) z hC (h3.elim (fun ⟨x, h4, _⟩ => Or.inl ⟨x, h4⟩) Or.inr)) (by omega) rfl rfl (Nat.le_of_ble_eq_true rfl) (by omega) (by omega) ?_
  refine ax_istore 1189 dL_law_1187 rfl (Nat.le_of_ble_eq_true rfl) ?_
  refine ax_aload_n 2 1190 dL_law_1189 rfl rfl rfl ?_
  refine ax_aload_nR 0 1191 dL_law_1190 rfl rfl rfl ?_
  refine ax_iload 1193 dL_law_1191 rfl rfl ?_
  refine ax_iconst (v := 1) 1194 dL_law_1193 rfl (by decide) ?_
  refine ax_iadd 1195 dL_law_1194 rfl ?_
  refine ax_sldN 1196 dL_law_1195 rfl (ia (7 * j) 1) (by omega) (by omega) ?_
  refine ax_aload_nR 0 1197 dL_law_1196 rfl rfl rfl ?_
  refine ax_iload 1199 dL_law_1197 rfl rfl ?_
  refine ax_iconst (v := 2) 1200 dL_law_1199 rfl (by decide) ?_
  refine ax_iadd 1201 dL_law_1200 rfl ?_
  refine ax_sldN 1202 dL_law_1201 rfl (ia (7 * j) 2) (by omega) (by omega) ?_
  refine ax_aload_nR 0 1203 dL_law_1202 rfl rfl rfl ?_
  refine ax_iload 1205 dL_law_1203 rfl rfl ?_
  refine ax_iconst (v := 3) 1206 dL_law_1205 rfl (by decide) ?_
  refine ax_iadd 1207 dL_law_1206 rfl ?_
  refine ax_sldN 1208 dL_law_1207 rfl (ia (7 * j) 3) (by omega) (by omega) ?_
  refine ax_aload_nR 0 1209 dL_law_1208 rfl rfl rfl ?_
  refine ax_iload 1211 dL_law_1209 rfl rfl ?_
  refine ax_iconst (v := 4) 1212 dL_law_1211 rfl (by decide) ?_
  refine ax_iadd 1213 dL_law_1212 rfl ?_
  refine ax_sldN 1214 dL_law_1213 rfl (ia (7 * j) 4) (by omega) (by omega) ?_
  refine ax_cV 1217 dL_law_1214 rfl ml_L_150 (hM z.2 (oO o z.1)) rfl (by omega) rfl rfl (Nat.le_of_ble_eq_true rfl) ?_
  refine ax_istore 1219 dL_law_1217 rfl (Nat.le_of_ble_eq_true rfl) ?_
  refine ax_aload_n 2 1220 dL_law_1219 rfl rfl rfl ?_
  refine ax_cV 1223 dL_law_1220 rfl ml_L_96 (m_thrown (d := 10)) rfl (by omega) rfl rfl (Nat.le_of_ble_eq_true rfl) ?_
  refine ax_iload 1225 dL_law_1223 rfl rfl ?_
  refine ax_icmp_eq 1230 1228 dL_law_1225 (by decide) rfl (fun c => ?_) (fun c => ?_)
  · refine ax_iload 1232 dL_law_1230 rfl rfl ?_
    refine ax_if_ne 1247 1235 dL_law_1232 (by decide) rfl (fun c1 => ?_) (fun c1 => ?_)
    · refine ax_goto 1521 dL_law_1247 (by decide) ?_
      exact ax_lvk K ⟨rfl, rfl, rfl, rfl, rfl, trivial⟩
    · refine ax_aload_n 3 1236 dL_law_1235 rfl rfl rfl ?_
      refine ax_iconst (v := 0) 1237 dL_law_1236 rfl (by decide) ?_
      refine ax_lald0 1238 dL_law_1237 rfl ?_
      refine ax_iload 1240 dL_law_1238 rfl rfl ?_
      refine ax_i2l 1241 dL_law_1240 rfl ?_
      refine ax_lcmp 1242 dL_law_1241 rfl ?_
      refine ax_if_eq 1247 1245 dL_law_1242 (by decide) rfl (fun c2 => ?_) (fun c2 => ?_)
      · refine ax_goto 1521 dL_law_1247 (by decide) ?_
        exact ax_lvk K ⟨rfl, rfl, rfl, rfl, rfl, trivial⟩
      · refine absurd ?_ c2
        rw [lg_cmp_eq]
        rcases h3 with ⟨x, h4, h5⟩ | h4
        · rw [h4, h5]; exact pk_uLs
        · rw [h4] at c1; exact absurd c1 (by decide)
  · exact absurd h2.symm c
theorem law_levy (hS : st_levy R) (y n : Nat) (hb : bsF q p y n) (hR : R q p) (j : Nat) (hj : 7 * j + 7 ≤ G.L) (hL : G.L ≤ 3584) (K : ∀ (q' p' : Nat → Nat → Int32) (l' o' : Nat → Int64), R q' p' → okL G nc ns 1521 j q' p' l' o') : okL G (1 + nc) (6 + ns) 1250 j q p l o := by
  have hC := c_levy (G := G) (d := 9) (q := q) (r := wM p l ++ [.inl (2, 1, .inr o)]) (by omega) (G.xs (7 * j + 1)) (G.xs (7 * j + 2)) y hb.1 hb.2.1
  obtain ⟨h1, h2, h3⟩ := hS q p y n hR hb (G.xs (7 * j + 1)) (G.xs (7 * j + 2))
  have hM := fun (q' : Nat → Nat → Int32) (o' : Nat → Int64) => m_levy (G := G) (d := 10) (q := q') (p := p) (l := l) (r := [.inl (2, 1, .inr o')]) (by omega) y (G.xs (7 * j + 1)) (G.xs (7 * j + 2)) hb.2.1 hb.2.2.2.2.1
  generalize (cLevy q (G.xs (7 * j + 1)) (G.xs (7 * j + 2))) = z at hC h1 h2 h3
  generalize (mLevy p (G.xs (7 * j + 1)) (G.xs (7 * j + 2))) = w at hM h1 h2 h3
  obtain ⟨O, hO, K⟩ := K z.2 w.2 l (oO o z.1) h1
  refine ⟨O, hO, ?_⟩
  refine ax_aload_n 1 1251 dL_law_1250 rfl rfl rfl ?_
  refine ax_aload_nR 0 1252 dL_law_1251 rfl rfl rfl ?_
  refine ax_iload 1254 dL_law_1252 rfl rfl ?_
  refine ax_iconst (v := 1) 1255 dL_law_1254 rfl (by decide) ?_
  refine ax_iadd 1256 dL_law_1255 rfl ?_
  refine ax_sldN 1257 dL_law_1256 rfl (ia (7 * j) 1) (by omega) (by omega) ?_
  refine ax_aload_nR 0 1258 dL_law_1257 rfl rfl rfl ?_
  refine ax_iload 1260 dL_law_1258 rfl rfl ?_
  refine ax_iconst (v := 2) 1261 dL_law_1260 rfl (by decide) ?_
  refine ax_iadd 1262 dL_law_1261 rfl ?_
  refine ax_sldN 1263 dL_law_1262 rfl (ia (7 * j) 2) (by omega) (by omega) ?_
  refine ax_aload_n 3 1264 dL_law_1263 rfl rfl rfl ?_
  refine ax_inv0 (nc2 := nc) (ns2 := ns) 1267 dL_law_1264 rfl ml_L_151 (w_levy (d := 10) (by omega) (G.xs (7 * j + 1)) (G.xs (7 * j + 2)) z hC (h3.elim (fun ⟨x, h4, _⟩ => Or.inl ⟨x, h4⟩) Or.inr)) (by omega) rfl rfl (Nat.le_of_ble_eq_true rfl) (by omega) (by omega) ?_
  refine ax_istore 1269 dL_law_1267 rfl (Nat.le_of_ble_eq_true rfl) ?_
  refine ax_aload_n 2 1270 dL_law_1269 rfl rfl rfl ?_
  refine ax_aload_nR 0 1271 dL_law_1270 rfl rfl rfl ?_
  refine ax_iload 1273 dL_law_1271 rfl rfl ?_
  refine ax_iconst (v := 1) 1274 dL_law_1273 rfl (by decide) ?_
  refine ax_iadd 1275 dL_law_1274 rfl ?_
  refine ax_sldN 1276 dL_law_1275 rfl (ia (7 * j) 1) (by omega) (by omega) ?_
  refine ax_aload_nR 0 1277 dL_law_1276 rfl rfl rfl ?_
  refine ax_iload 1279 dL_law_1277 rfl rfl ?_
  refine ax_iconst (v := 2) 1280 dL_law_1279 rfl (by decide) ?_
  refine ax_iadd 1281 dL_law_1280 rfl ?_
  refine ax_sldN 1282 dL_law_1281 rfl (ia (7 * j) 2) (by omega) (by omega) ?_
  refine ax_cV 1285 dL_law_1282 rfl ml_L_154 (hM z.2 (oO o z.1)) rfl (by omega) rfl rfl (Nat.le_of_ble_eq_true rfl) ?_
  refine ax_lstore 1287 dL_law_1285 rfl (Nat.le_of_ble_eq_true rfl) ?_
  refine ax_aload_n 2 1288 dL_law_1287 rfl rfl rfl ?_
  refine ax_cV 1291 dL_law_1288 rfl ml_L_96 (m_thrown (d := 10)) rfl (by omega) rfl rfl (Nat.le_of_ble_eq_true rfl) ?_
  refine ax_iload 1293 dL_law_1291 rfl rfl ?_
  refine ax_icmp_eq 1298 1296 dL_law_1293 (by decide) rfl (fun c => ?_) (fun c => ?_)
  · refine ax_iload 1300 dL_law_1298 rfl rfl ?_
    refine ax_if_ne 1314 1303 dL_law_1300 (by decide) rfl (fun c1 => ?_) (fun c1 => ?_)
    · refine ax_goto 1521 dL_law_1314 (by decide) ?_
      exact ax_lvk K ⟨rfl, rfl, rfl, rfl, rfl, trivial⟩
    · refine ax_aload_n 3 1304 dL_law_1303 rfl rfl rfl ?_
      refine ax_iconst (v := 0) 1305 dL_law_1304 rfl (by decide) ?_
      refine ax_lald0 1306 dL_law_1305 rfl ?_
      refine ax_lload 1308 dL_law_1306 rfl rfl ?_
      refine ax_lcmp 1309 dL_law_1308 rfl ?_
      refine ax_if_eq 1314 1312 dL_law_1309 (by decide) rfl (fun c2 => ?_) (fun c2 => ?_)
      · refine ax_goto 1521 dL_law_1314 (by decide) ?_
        exact ax_lvk K ⟨rfl, rfl, rfl, rfl, rfl, trivial⟩
      · refine absurd ?_ c2
        rw [lg_cmp_eq]
        rcases h3 with ⟨x, h4, h5⟩ | h4
        · rw [h4, h5]; exact pk_uLs
        · rw [h4] at c1; exact absurd c1 (by decide)
  · exact absurd h2.symm c
theorem law_held (hS : st_held R) (y n : Nat) (hb : bsF q p y n) (hR : R q p) (j : Nat) (hj : 7 * j + 7 ≤ G.L) (hL : G.L ≤ 3584) (K : ∀ (q' p' : Nat → Nat → Int32) (l' o' : Nat → Int64), R q' p' → okL G nc ns 1521 j q' p' l' o') : okL G (1 + nc) (6 + ns) 1317 j q p l o := by
  have hC := c_held (G := G) (d := 9) (q := q) (r := wM p l ++ [.inl (2, 1, .inr o)]) (by omega) (G.xs (7 * j + 1)) (G.xs (7 * j + 2)) (G.xs (7 * j + 3))
  obtain ⟨h1, h2, h3⟩ := hS q p y n hR hb (G.xs (7 * j + 1)) (G.xs (7 * j + 2)) (G.xs (7 * j + 3))
  have hM := fun (q' : Nat → Nat → Int32) (o' : Nat → Int64) => m_held (G := G) (d := 10) (q := q') (p := p) (l := l) (r := [.inl (2, 1, .inr o')]) (by omega)  (G.xs (7 * j + 1)) (G.xs (7 * j + 2)) (G.xs (7 * j + 3))
  generalize (cHeld q (G.xs (7 * j + 1)) (G.xs (7 * j + 2)) (G.xs (7 * j + 3))) = z at hC h1 h2 h3
  generalize (mHeld p (G.xs (7 * j + 1)) (G.xs (7 * j + 2)) (G.xs (7 * j + 3))) = w at hM h1 h2 h3
  obtain ⟨O, hO, K⟩ := K z.2 w.2 l (oO o z.1) h1
  refine ⟨O, hO, ?_⟩
  refine ax_aload_n 1 1318 dL_law_1317 rfl rfl rfl ?_
  refine ax_aload_nR 0 1319 dL_law_1318 rfl rfl rfl ?_
  refine ax_iload 1321 dL_law_1319 rfl rfl ?_
  refine ax_iconst (v := 1) 1322 dL_law_1321 rfl (by decide) ?_
  refine ax_iadd 1323 dL_law_1322 rfl ?_
  refine ax_sldN 1324 dL_law_1323 rfl (ia (7 * j) 1) (by omega) (by omega) ?_
  refine ax_aload_nR 0 1325 dL_law_1324 rfl rfl rfl ?_
  refine ax_iload 1327 dL_law_1325 rfl rfl ?_
  refine ax_iconst (v := 2) 1328 dL_law_1327 rfl (by decide) ?_
  refine ax_iadd 1329 dL_law_1328 rfl ?_
  refine ax_sldN 1330 dL_law_1329 rfl (ia (7 * j) 2) (by omega) (by omega) ?_
  refine ax_aload_nR 0 1331 dL_law_1330 rfl rfl rfl ?_
  refine ax_iload 1333 dL_law_1331 rfl rfl ?_
  refine ax_iconst (v := 3) 1334 dL_law_1333 rfl (by decide) ?_
  refine ax_iadd 1335 dL_law_1334 rfl ?_
  refine ax_sldN 1336 dL_law_1335 rfl (ia (7 * j) 3) (by omega) (by omega) ?_
  refine ax_aload_n 3 1337 dL_law_1336 rfl rfl rfl ?_
  refine ax_inv0 (nc2 := nc) (ns2 := ns) 1340 dL_law_1337 rfl ml_L_155 (w_held (d := 10) (by omega) (G.xs (7 * j + 1)) (G.xs (7 * j + 2)) (G.xs (7 * j + 3)) z hC (h3.elim (fun ⟨x, h4, _⟩ => Or.inl ⟨x, h4⟩) Or.inr)) (by omega) rfl rfl (Nat.le_of_ble_eq_true rfl) (by omega) (by omega) ?_
  refine ax_istore 1342 dL_law_1340 rfl (Nat.le_of_ble_eq_true rfl) ?_
  refine ax_aload_n 2 1343 dL_law_1342 rfl rfl rfl ?_
  refine ax_aload_nR 0 1344 dL_law_1343 rfl rfl rfl ?_
  refine ax_iload 1346 dL_law_1344 rfl rfl ?_
  refine ax_iconst (v := 1) 1347 dL_law_1346 rfl (by decide) ?_
  refine ax_iadd 1348 dL_law_1347 rfl ?_
  refine ax_sldN 1349 dL_law_1348 rfl (ia (7 * j) 1) (by omega) (by omega) ?_
  refine ax_aload_nR 0 1350 dL_law_1349 rfl rfl rfl ?_
  refine ax_iload 1352 dL_law_1350 rfl rfl ?_
  refine ax_iconst (v := 2) 1353 dL_law_1352 rfl (by decide) ?_
  refine ax_iadd 1354 dL_law_1353 rfl ?_
  refine ax_sldN 1355 dL_law_1354 rfl (ia (7 * j) 2) (by omega) (by omega) ?_
  refine ax_aload_nR 0 1356 dL_law_1355 rfl rfl rfl ?_
  refine ax_iload 1358 dL_law_1356 rfl rfl ?_
  refine ax_iconst (v := 3) 1359 dL_law_1358 rfl (by decide) ?_
  refine ax_iadd 1360 dL_law_1359 rfl ?_
  refine ax_sldN 1361 dL_law_1360 rfl (ia (7 * j) 3) (by omega) (by omega) ?_
  refine ax_cV 1364 dL_law_1361 rfl ml_L_157 (hM z.2 (oO o z.1)) rfl (by omega) rfl rfl (Nat.le_of_ble_eq_true rfl) ?_
  refine ax_istore 1366 dL_law_1364 rfl (Nat.le_of_ble_eq_true rfl) ?_
  refine ax_aload_n 2 1367 dL_law_1366 rfl rfl rfl ?_
  refine ax_cV 1370 dL_law_1367 rfl ml_L_96 (m_thrown (d := 10)) rfl (by omega) rfl rfl (Nat.le_of_ble_eq_true rfl) ?_
  refine ax_iload 1372 dL_law_1370 rfl rfl ?_
  refine ax_icmp_eq 1377 1375 dL_law_1372 (by decide) rfl (fun c => ?_) (fun c => ?_)
  · refine ax_iload 1379 dL_law_1377 rfl rfl ?_
    refine ax_if_ne 1394 1382 dL_law_1379 (by decide) rfl (fun c1 => ?_) (fun c1 => ?_)
    · refine ax_goto 1521 dL_law_1394 (by decide) ?_
      exact ax_lvk K ⟨rfl, rfl, rfl, rfl, rfl, trivial⟩
    · refine ax_aload_n 3 1383 dL_law_1382 rfl rfl rfl ?_
      refine ax_iconst (v := 0) 1384 dL_law_1383 rfl (by decide) ?_
      refine ax_lald0 1385 dL_law_1384 rfl ?_
      refine ax_iload 1387 dL_law_1385 rfl rfl ?_
      refine ax_i2l 1388 dL_law_1387 rfl ?_
      refine ax_lcmp 1389 dL_law_1388 rfl ?_
      refine ax_if_eq 1394 1392 dL_law_1389 (by decide) rfl (fun c2 => ?_) (fun c2 => ?_)
      · refine ax_goto 1521 dL_law_1394 (by decide) ?_
        exact ax_lvk K ⟨rfl, rfl, rfl, rfl, rfl, trivial⟩
      · refine absurd ?_ c2
        rw [lg_cmp_eq]
        rcases h3 with ⟨x, h4, h5⟩ | h4
        · rw [h4, h5]; exact pk_uLs
        · rw [h4] at c1; exact absurd c1 (by decide)
  · exact absurd h2.symm c
theorem law_event (hS : st_event R) (y n : Nat) (hb : bsF q p y n) (hR : R q p) (j : Nat) (hj : 7 * j + 7 ≤ G.L) (hL : G.L ≤ 3584) (K : ∀ (q' p' : Nat → Nat → Int32) (l' o' : Nat → Int64), R q' p' → okL G nc ns 1521 j q' p' l' o') : okL G (1 + nc) (6 + ns) 1397 j q p l o := by
  have hC := c_event (G := G) (d := 9) (q := q) (r := wM p l ++ [.inl (2, 1, .inr o)]) (by omega) (G.xs (7 * j + 1)) (G.xs (7 * j + 2)) n hb.2.2.1 hb.2.2.2.1
  obtain ⟨h1, h2, h3⟩ := hS q p y n hR hb (G.xs (7 * j + 1)) (G.xs (7 * j + 2))
  have hM := fun (q' : Nat → Nat → Int32) (o' : Nat → Int64) => m_event (G := G) (d := 10) (q := q') (p := p) (l := l) (r := [.inl (2, 1, .inr o')]) (by omega) n (G.xs (7 * j + 1)) (G.xs (7 * j + 2)) hb.2.2.2.1 hb.2.2.2.2.2.1
  generalize (cEvent q (G.xs (7 * j + 1)) (G.xs (7 * j + 2))) = z at hC h1 h2 h3
  generalize (mEvent p (G.xs (7 * j + 1)) (G.xs (7 * j + 2))) = w at hM h1 h2 h3
  obtain ⟨O, hO, K⟩ := K z.2 w.2 l (oO o z.1) h1
  refine ⟨O, hO, ?_⟩
  refine ax_aload_n 1 1398 dL_law_1397 rfl rfl rfl ?_
  refine ax_aload_nR 0 1399 dL_law_1398 rfl rfl rfl ?_
  refine ax_iload 1401 dL_law_1399 rfl rfl ?_
  refine ax_iconst (v := 1) 1402 dL_law_1401 rfl (by decide) ?_
  refine ax_iadd 1403 dL_law_1402 rfl ?_
  refine ax_sldN 1404 dL_law_1403 rfl (ia (7 * j) 1) (by omega) (by omega) ?_
  refine ax_aload_nR 0 1405 dL_law_1404 rfl rfl rfl ?_
  refine ax_iload 1407 dL_law_1405 rfl rfl ?_
  refine ax_iconst (v := 2) 1408 dL_law_1407 rfl (by decide) ?_
  refine ax_iadd 1409 dL_law_1408 rfl ?_
  refine ax_sldN 1410 dL_law_1409 rfl (ia (7 * j) 2) (by omega) (by omega) ?_
  refine ax_aload_n 3 1411 dL_law_1410 rfl rfl rfl ?_
  refine ax_inv0 (nc2 := nc) (ns2 := ns) 1414 dL_law_1411 rfl ml_L_158 (w_event (d := 10) (by omega) (G.xs (7 * j + 1)) (G.xs (7 * j + 2)) z hC (h3.elim (fun ⟨x, h4, _⟩ => Or.inl ⟨x, h4⟩) Or.inr)) (by omega) rfl rfl (Nat.le_of_ble_eq_true rfl) (by omega) (by omega) ?_
  refine ax_istore 1416 dL_law_1414 rfl (Nat.le_of_ble_eq_true rfl) ?_
  refine ax_aload_n 2 1417 dL_law_1416 rfl rfl rfl ?_
  refine ax_aload_nR 0 1418 dL_law_1417 rfl rfl rfl ?_
  refine ax_iload 1420 dL_law_1418 rfl rfl ?_
  refine ax_iconst (v := 1) 1421 dL_law_1420 rfl (by decide) ?_
  refine ax_iadd 1422 dL_law_1421 rfl ?_
  refine ax_sldN 1423 dL_law_1422 rfl (ia (7 * j) 1) (by omega) (by omega) ?_
  refine ax_aload_nR 0 1424 dL_law_1423 rfl rfl rfl ?_
  refine ax_iload 1426 dL_law_1424 rfl rfl ?_
  refine ax_iconst (v := 2) 1427 dL_law_1426 rfl (by decide) ?_
  refine ax_iadd 1428 dL_law_1427 rfl ?_
  refine ax_sldN 1429 dL_law_1428 rfl (ia (7 * j) 2) (by omega) (by omega) ?_
  refine ax_cV 1432 dL_law_1429 rfl ml_L_160 (hM z.2 (oO o z.1)) rfl (by omega) rfl rfl (Nat.le_of_ble_eq_true rfl) ?_
  refine ax_istore 1434 dL_law_1432 rfl (Nat.le_of_ble_eq_true rfl) ?_
  refine ax_aload_n 2 1435 dL_law_1434 rfl rfl rfl ?_
  refine ax_cV 1438 dL_law_1435 rfl ml_L_96 (m_thrown (d := 10)) rfl (by omega) rfl rfl (Nat.le_of_ble_eq_true rfl) ?_
  refine ax_iload 1440 dL_law_1438 rfl rfl ?_
  refine ax_icmp_eq 1445 1443 dL_law_1440 (by decide) rfl (fun c => ?_) (fun c => ?_)
  · refine ax_iload 1447 dL_law_1445 rfl rfl ?_
    refine ax_if_ne 1462 1450 dL_law_1447 (by decide) rfl (fun c1 => ?_) (fun c1 => ?_)
    · refine ax_goto 1521 dL_law_1462 (by decide) ?_
      exact ax_lvk K ⟨rfl, rfl, rfl, rfl, rfl, trivial⟩
    · refine ax_aload_n 3 1451 dL_law_1450 rfl rfl rfl ?_
      refine ax_iconst (v := 0) 1452 dL_law_1451 rfl (by decide) ?_
      refine ax_lald0 1453 dL_law_1452 rfl ?_
      refine ax_iload 1455 dL_law_1453 rfl rfl ?_
      refine ax_i2l 1456 dL_law_1455 rfl ?_
      refine ax_lcmp 1457 dL_law_1456 rfl ?_
      refine ax_if_eq 1462 1460 dL_law_1457 (by decide) rfl (fun c2 => ?_) (fun c2 => ?_)
      · refine ax_goto 1521 dL_law_1462 (by decide) ?_
        exact ax_lvk K ⟨rfl, rfl, rfl, rfl, rfl, trivial⟩
      · refine absurd ?_ c2
        rw [lg_cmp_eq]
        rcases h3 with ⟨x, h4, h5⟩ | h4 | h4
        · rw [h4, h5]; exact pk_uLs
        · rw [h4] at c1; exact absurd c1 (by decide)
        · rw [h4] at c1; exact absurd c1 (by decide)
  · exact absurd h2.symm c
theorem law_about (hS : st_about R) (y n : Nat) (hb : bsF q p y n) (hR : R q p) (j : Nat) (hj : 7 * j + 7 ≤ G.L) (hL : G.L ≤ 3584) (K : ∀ (q' p' : Nat → Nat → Int32) (l' o' : Nat → Int64), R q' p' → okL G nc ns 1521 j q' p' l' o') : okL G (1 + nc) (6 + ns) 1465 j q p l o := by
  have hC := c_about (G := G) (d := 9) (q := q) (r := wM p l ++ [.inl (2, 1, .inr o)]) (by omega) (G.xs (7 * j + 1)) n hb.2.2.1 hb.2.2.2.1
  obtain ⟨h1, h2, h3⟩ := hS q p y n hR hb (G.xs (7 * j + 1))
  have hM := fun (q' : Nat → Nat → Int32) (o' : Nat → Int64) => m_about (G := G) (d := 10) (q := q') (p := p) (l := l) (r := [.inl (2, 1, .inr o')]) (by omega) n (G.xs (7 * j + 1)) hb.2.2.2.1 hb.2.2.2.2.2.1
  generalize (cAbout q (G.xs (7 * j + 1))) = z at hC h1 h2 h3
  generalize (mAbout p n (G.xs (7 * j + 1))) = w at hM h1 h2 h3
  obtain ⟨O, hO, K⟩ := K z.2 w.2 l (oO o z.1) h1
  refine ⟨O, hO, ?_⟩
  refine ax_aload_n 1 1466 dL_law_1465 rfl rfl rfl ?_
  refine ax_aload_nR 0 1467 dL_law_1466 rfl rfl rfl ?_
  refine ax_iload 1469 dL_law_1467 rfl rfl ?_
  refine ax_iconst (v := 1) 1470 dL_law_1469 rfl (by decide) ?_
  refine ax_iadd 1471 dL_law_1470 rfl ?_
  refine ax_sldN 1472 dL_law_1471 rfl (ia (7 * j) 1) (by omega) (by omega) ?_
  refine ax_aload_n 3 1473 dL_law_1472 rfl rfl rfl ?_
  refine ax_inv0 (nc2 := nc) (ns2 := ns) 1476 dL_law_1473 rfl ml_L_161 (w_about (d := 10) (by omega) (G.xs (7 * j + 1)) z hC (h3.elim (fun ⟨x, h4, _⟩ => Or.inl ⟨x, h4⟩) Or.inr)) (by omega) rfl rfl (Nat.le_of_ble_eq_true rfl) (by omega) (by omega) ?_
  refine ax_istore 1478 dL_law_1476 rfl (Nat.le_of_ble_eq_true rfl) ?_
  refine ax_aload_n 2 1479 dL_law_1478 rfl rfl rfl ?_
  refine ax_aload_nR 0 1480 dL_law_1479 rfl rfl rfl ?_
  refine ax_iload 1482 dL_law_1480 rfl rfl ?_
  refine ax_iconst (v := 1) 1483 dL_law_1482 rfl (by decide) ?_
  refine ax_iadd 1484 dL_law_1483 rfl ?_
  refine ax_sldN 1485 dL_law_1484 rfl (ia (7 * j) 1) (by omega) (by omega) ?_
  refine ax_cV 1488 dL_law_1485 rfl ml_L_164 (hM z.2 (oO o z.1)) rfl (by omega) rfl rfl (Nat.le_of_ble_eq_true rfl) ?_
  refine ax_istore 1490 dL_law_1488 rfl (Nat.le_of_ble_eq_true rfl) ?_
  refine ax_aload_n 2 1491 dL_law_1490 rfl rfl rfl ?_
  refine ax_cV 1494 dL_law_1491 rfl ml_L_96 (m_thrown (d := 10)) rfl (by omega) rfl rfl (Nat.le_of_ble_eq_true rfl) ?_
  refine ax_iload 1496 dL_law_1494 rfl rfl ?_
  refine ax_icmp_eq 1501 1499 dL_law_1496 (by decide) rfl (fun c => ?_) (fun c => ?_)
  · refine ax_iload 1503 dL_law_1501 rfl rfl ?_
    refine ax_if_ne 1518 1506 dL_law_1503 (by decide) rfl (fun c1 => ?_) (fun c1 => ?_)
    · refine ax_goto 1521 dL_law_1518 (by decide) ?_
      exact ax_lvk K ⟨rfl, rfl, rfl, rfl, rfl, trivial⟩
    · refine ax_aload_n 3 1507 dL_law_1506 rfl rfl rfl ?_
      refine ax_iconst (v := 0) 1508 dL_law_1507 rfl (by decide) ?_
      refine ax_lald0 1509 dL_law_1508 rfl ?_
      refine ax_iload 1511 dL_law_1509 rfl rfl ?_
      refine ax_i2l 1512 dL_law_1511 rfl ?_
      refine ax_lcmp 1513 dL_law_1512 rfl ?_
      refine ax_if_eq 1518 1516 dL_law_1513 (by decide) rfl (fun c2 => ?_) (fun c2 => ?_)
      · refine ax_goto 1521 dL_law_1518 (by decide) ?_
        exact ax_lvk K ⟨rfl, rfl, rfl, rfl, rfl, trivial⟩
      · refine absurd ?_ c2
        rw [lg_cmp_eq]
        rcases h3 with ⟨x, h4, h5⟩ | h4
        · rw [h4, h5]; exact pk_uLs
        · rw [h4] at c1; exact absurd c1 (by decide)
  · exact absurd h2.symm c
end LAW
