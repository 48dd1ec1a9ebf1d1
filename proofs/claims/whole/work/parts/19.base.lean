/-! the worlds: cell 0 is the register, cell 31 the reference; q k is what the array in cell k holds, q k j of an object's cell its plain field j; l holds the reference's remainders -/
def wQ (q : Nat → Nat → Int32) : ax_W := [.inr (3, [.ref 1, .ref 2, .ref 3, .ref 9, .ref 20, .ref 30, .int (q 0 6), .int (q 0 7)]), .inl (0, 4, .inl (q 1)), .inl (0, 12, .inl (q 2)), .inr (2, [.ref 4, .ref 5, .ref 6, .ref 7, .ref 8]), .inl (0, 4, .inl (q 4)), .inl (0, 6, .inl (q 5)), .inl (0, 6, .inl (q 6)), .inl (0, 24, .inl (q 7)), .inl (0, 24, .inl (q 8)), .inr (0, [.ref 10, .ref 11, .ref 12, .ref 13, .ref 14, .ref 15, .ref 16, .ref 17, .ref 18, .ref 19]), .inl (0, 216, .inl (q 10)), .inl (0, 216, .inl (q 11)), .inl (0, 216, .inl (q 12)), .inl (0, 216, .inl (q 13)), .inl (0, 216, .inl (q 14)), .inl (0, 216, .inl (q 15)), .inl (0, 216, .inl (q 16)), .inl (0, 216, .inl (q 17)), .inl (0, 54, .inl (q 18)), .inl (0, 6, .inl (q 19)), .inr (1, [.ref 21, .ref 22, .ref 23, .ref 24, .ref 25, .ref 26, .ref 27, .ref 28, .ref 29, .int (q 20 9)]), .inl (0, 200, .inl (q 21)), .inl (0, 200, .inl (q 22)), .inl (0, 200, .inl (q 23)), .inl (0, 200, .inl (q 24)), .inl (0, 200, .inl (q 25)), .inl (0, 200, .inl (q 26)), .inl (0, 200, .inl (q 27)), .inl (1, 200, .inl (q 28)), .inl (1, 200, .inl (q 29)), .inl (1, 9, .inl (q 30))]
def wM (q : Nat → Nat → Int32) (l : Nat → Int64) : ax_W := [.inr (4, [.int (q 31 0), .ref 32, .ref 33, .ref 34, .ref 35, .ref 36, .ref 37, .ref 38, .ref 39, .int (q 31 9), .int (q 31 10), .ref 40, .ref 41, .ref 42, .ref 43, .ref 44, .ref 45, .ref 46, .ref 47, .ref 48, .int (q 31 20), .ref 49, .ref 50, .ref 51, .ref 52, .ref 53, .ref 54, .ref 55, .ref 56, .ref 57, .ref 58]), .inl (0, 4, .inl (q 32)), .inl (0, 4, .inl (q 33)), .inl (0, 12, .inl (q 34)), .inl (0, 6, .inl (q 35)), .inl (0, 24, .inl (q 36)), .inl (0, 24, .inl (q 37)), .inl (1, 36, .inl (q 38)), .inl (1, 6, .inl (q 39)), .inl (1, 9, .inl (q 40)), .inl (0, 216, .inl (q 41)), .inl (0, 216, .inl (q 42)), .inl (0, 216, .inl (q 43)), .inl (0, 216, .inl (q 44)), .inl (0, 216, .inl (q 45)), .inl (0, 216, .inl (q 46)), .inl (0, 216, .inl (q 47)), .inl (0, 216, .inl (q 48)), .inl (0, 200, .inl (q 49)), .inl (0, 200, .inl (q 50)), .inl (0, 200, .inl (q 51)), .inl (0, 200, .inl (q 52)), .inl (0, 200, .inl (q 53)), .inl (0, 200, .inl (q 54)), .inl (0, 200, .inl (q 55)), .inl (1, 200, .inl (q 56)), .inl (1, 200, .inl (q 57)), .inl (2, 6, .inr l)]
def qw (q : Nat → Nat → Int32) (k : Nat) (f : Nat → Int32) : Nat → Nat → Int32 := fun j => if j = k then f else q j
def qv (q : Nat → Nat → Int32) (k i : Nat) (x : Int32) : Nat → Nat → Int32 := qw q k (upd (q k) i x)
theorem qw_s {q : Nat → Nat → Int32} {k : Nat} {f : Nat → Int32} : qw q k f k = f := if_pos rfl
theorem qw_n {q : Nat → Nat → Int32} {k j : Nat} {f : Nat → Int32} (h : j ≠ k) : qw q k f j = q j := if_neg h
section BASE
variable {q p : Nat → Nat → Int32} {l : Nat → Int64} {r : ax_W}
theorem wQp_0_6 {x : Int32} : (wQ q ++ r).set 0 (.inr (3, [.ref 1, .ref 2, .ref 3, .ref 9, .ref 20, .ref 30, .int (q 0 6), .int (q 0 7)].set 6 (.int x))) = wQ (qv q 0 6 x) ++ r := rfl
theorem wQp_0_7 {x : Int32} : (wQ q ++ r).set 0 (.inr (3, [.ref 1, .ref 2, .ref 3, .ref 9, .ref 20, .ref 30, .int (q 0 6), .int (q 0 7)].set 7 (.int x))) = wQ (qv q 0 7 x) ++ r := rfl
theorem wQs_1 {f : Nat → Int32} : (wQ q ++ r).set 1 (.inl (0, 4, .inl f)) = wQ (qw q 1 f) ++ r := rfl
theorem wQs_2 {f : Nat → Int32} : (wQ q ++ r).set 2 (.inl (0, 12, .inl f)) = wQ (qw q 2 f) ++ r := rfl
theorem wQs_4 {f : Nat → Int32} : (wQ q ++ r).set 4 (.inl (0, 4, .inl f)) = wQ (qw q 4 f) ++ r := rfl
theorem wQs_5 {f : Nat → Int32} : (wQ q ++ r).set 5 (.inl (0, 6, .inl f)) = wQ (qw q 5 f) ++ r := rfl
theorem wQs_6 {f : Nat → Int32} : (wQ q ++ r).set 6 (.inl (0, 6, .inl f)) = wQ (qw q 6 f) ++ r := rfl
theorem wQs_7 {f : Nat → Int32} : (wQ q ++ r).set 7 (.inl (0, 24, .inl f)) = wQ (qw q 7 f) ++ r := rfl
theorem wQs_8 {f : Nat → Int32} : (wQ q ++ r).set 8 (.inl (0, 24, .inl f)) = wQ (qw q 8 f) ++ r := rfl
theorem wQs_10 {f : Nat → Int32} : (wQ q ++ r).set 10 (.inl (0, 216, .inl f)) = wQ (qw q 10 f) ++ r := rfl
theorem wQs_11 {f : Nat → Int32} : (wQ q ++ r).set 11 (.inl (0, 216, .inl f)) = wQ (qw q 11 f) ++ r := rfl
theorem wQs_12 {f : Nat → Int32} : (wQ q ++ r).set 12 (.inl (0, 216, .inl f)) = wQ (qw q 12 f) ++ r := rfl
theorem wQs_13 {f : Nat → Int32} : (wQ q ++ r).set 13 (.inl (0, 216, .inl f)) = wQ (qw q 13 f) ++ r := rfl
theorem wQs_14 {f : Nat → Int32} : (wQ q ++ r).set 14 (.inl (0, 216, .inl f)) = wQ (qw q 14 f) ++ r := rfl
theorem wQs_15 {f : Nat → Int32} : (wQ q ++ r).set 15 (.inl (0, 216, .inl f)) = wQ (qw q 15 f) ++ r := rfl
theorem wQs_16 {f : Nat → Int32} : (wQ q ++ r).set 16 (.inl (0, 216, .inl f)) = wQ (qw q 16 f) ++ r := rfl
theorem wQs_17 {f : Nat → Int32} : (wQ q ++ r).set 17 (.inl (0, 216, .inl f)) = wQ (qw q 17 f) ++ r := rfl
theorem wQs_18 {f : Nat → Int32} : (wQ q ++ r).set 18 (.inl (0, 54, .inl f)) = wQ (qw q 18 f) ++ r := rfl
theorem wQs_19 {f : Nat → Int32} : (wQ q ++ r).set 19 (.inl (0, 6, .inl f)) = wQ (qw q 19 f) ++ r := rfl
theorem wQp_20_9 {x : Int32} : (wQ q ++ r).set 20 (.inr (1, [.ref 21, .ref 22, .ref 23, .ref 24, .ref 25, .ref 26, .ref 27, .ref 28, .ref 29, .int (q 20 9)].set 9 (.int x))) = wQ (qv q 20 9 x) ++ r := rfl
theorem wQs_21 {f : Nat → Int32} : (wQ q ++ r).set 21 (.inl (0, 200, .inl f)) = wQ (qw q 21 f) ++ r := rfl
theorem wQs_22 {f : Nat → Int32} : (wQ q ++ r).set 22 (.inl (0, 200, .inl f)) = wQ (qw q 22 f) ++ r := rfl
theorem wQs_23 {f : Nat → Int32} : (wQ q ++ r).set 23 (.inl (0, 200, .inl f)) = wQ (qw q 23 f) ++ r := rfl
theorem wQs_24 {f : Nat → Int32} : (wQ q ++ r).set 24 (.inl (0, 200, .inl f)) = wQ (qw q 24 f) ++ r := rfl
theorem wQs_25 {f : Nat → Int32} : (wQ q ++ r).set 25 (.inl (0, 200, .inl f)) = wQ (qw q 25 f) ++ r := rfl
theorem wQs_26 {f : Nat → Int32} : (wQ q ++ r).set 26 (.inl (0, 200, .inl f)) = wQ (qw q 26 f) ++ r := rfl
theorem wQs_27 {f : Nat → Int32} : (wQ q ++ r).set 27 (.inl (0, 200, .inl f)) = wQ (qw q 27 f) ++ r := rfl
theorem wQs_28 {f : Nat → Int32} : (wQ q ++ r).set 28 (.inl (1, 200, .inl f)) = wQ (qw q 28 f) ++ r := rfl
theorem wQs_29 {f : Nat → Int32} : (wQ q ++ r).set 29 (.inl (1, 200, .inl f)) = wQ (qw q 29 f) ++ r := rfl
theorem wQs_30 {f : Nat → Int32} : (wQ q ++ r).set 30 (.inl (1, 9, .inl f)) = wQ (qw q 30 f) ++ r := rfl
theorem wMp_31_0 {x : Int32} : (wQ q ++ (wM p l ++ r)).set 31 (.inr (4, [.int (p 31 0), .ref 32, .ref 33, .ref 34, .ref 35, .ref 36, .ref 37, .ref 38, .ref 39, .int (p 31 9), .int (p 31 10), .ref 40, .ref 41, .ref 42, .ref 43, .ref 44, .ref 45, .ref 46, .ref 47, .ref 48, .int (p 31 20), .ref 49, .ref 50, .ref 51, .ref 52, .ref 53, .ref 54, .ref 55, .ref 56, .ref 57, .ref 58].set 0 (.int x))) = wQ q ++ (wM (qv p 31 0 x) l ++ r) := rfl
theorem wMp_31_9 {x : Int32} : (wQ q ++ (wM p l ++ r)).set 31 (.inr (4, [.int (p 31 0), .ref 32, .ref 33, .ref 34, .ref 35, .ref 36, .ref 37, .ref 38, .ref 39, .int (p 31 9), .int (p 31 10), .ref 40, .ref 41, .ref 42, .ref 43, .ref 44, .ref 45, .ref 46, .ref 47, .ref 48, .int (p 31 20), .ref 49, .ref 50, .ref 51, .ref 52, .ref 53, .ref 54, .ref 55, .ref 56, .ref 57, .ref 58].set 9 (.int x))) = wQ q ++ (wM (qv p 31 9 x) l ++ r) := rfl
theorem wMp_31_10 {x : Int32} : (wQ q ++ (wM p l ++ r)).set 31 (.inr (4, [.int (p 31 0), .ref 32, .ref 33, .ref 34, .ref 35, .ref 36, .ref 37, .ref 38, .ref 39, .int (p 31 9), .int (p 31 10), .ref 40, .ref 41, .ref 42, .ref 43, .ref 44, .ref 45, .ref 46, .ref 47, .ref 48, .int (p 31 20), .ref 49, .ref 50, .ref 51, .ref 52, .ref 53, .ref 54, .ref 55, .ref 56, .ref 57, .ref 58].set 10 (.int x))) = wQ q ++ (wM (qv p 31 10 x) l ++ r) := rfl
theorem wMp_31_20 {x : Int32} : (wQ q ++ (wM p l ++ r)).set 31 (.inr (4, [.int (p 31 0), .ref 32, .ref 33, .ref 34, .ref 35, .ref 36, .ref 37, .ref 38, .ref 39, .int (p 31 9), .int (p 31 10), .ref 40, .ref 41, .ref 42, .ref 43, .ref 44, .ref 45, .ref 46, .ref 47, .ref 48, .int (p 31 20), .ref 49, .ref 50, .ref 51, .ref 52, .ref 53, .ref 54, .ref 55, .ref 56, .ref 57, .ref 58].set 20 (.int x))) = wQ q ++ (wM (qv p 31 20 x) l ++ r) := rfl
theorem wMs_32 {f : Nat → Int32} : (wQ q ++ (wM p l ++ r)).set 32 (.inl (0, 4, .inl f)) = wQ q ++ (wM (qw p 32 f) l ++ r) := rfl
theorem wMs_33 {f : Nat → Int32} : (wQ q ++ (wM p l ++ r)).set 33 (.inl (0, 4, .inl f)) = wQ q ++ (wM (qw p 33 f) l ++ r) := rfl
theorem wMs_34 {f : Nat → Int32} : (wQ q ++ (wM p l ++ r)).set 34 (.inl (0, 12, .inl f)) = wQ q ++ (wM (qw p 34 f) l ++ r) := rfl
theorem wMs_35 {f : Nat → Int32} : (wQ q ++ (wM p l ++ r)).set 35 (.inl (0, 6, .inl f)) = wQ q ++ (wM (qw p 35 f) l ++ r) := rfl
theorem wMs_36 {f : Nat → Int32} : (wQ q ++ (wM p l ++ r)).set 36 (.inl (0, 24, .inl f)) = wQ q ++ (wM (qw p 36 f) l ++ r) := rfl
theorem wMs_37 {f : Nat → Int32} : (wQ q ++ (wM p l ++ r)).set 37 (.inl (0, 24, .inl f)) = wQ q ++ (wM (qw p 37 f) l ++ r) := rfl
theorem wMs_38 {f : Nat → Int32} : (wQ q ++ (wM p l ++ r)).set 38 (.inl (1, 36, .inl f)) = wQ q ++ (wM (qw p 38 f) l ++ r) := rfl
theorem wMs_39 {f : Nat → Int32} : (wQ q ++ (wM p l ++ r)).set 39 (.inl (1, 6, .inl f)) = wQ q ++ (wM (qw p 39 f) l ++ r) := rfl
theorem wMs_40 {f : Nat → Int32} : (wQ q ++ (wM p l ++ r)).set 40 (.inl (1, 9, .inl f)) = wQ q ++ (wM (qw p 40 f) l ++ r) := rfl
theorem wMs_41 {f : Nat → Int32} : (wQ q ++ (wM p l ++ r)).set 41 (.inl (0, 216, .inl f)) = wQ q ++ (wM (qw p 41 f) l ++ r) := rfl
theorem wMs_42 {f : Nat → Int32} : (wQ q ++ (wM p l ++ r)).set 42 (.inl (0, 216, .inl f)) = wQ q ++ (wM (qw p 42 f) l ++ r) := rfl
theorem wMs_43 {f : Nat → Int32} : (wQ q ++ (wM p l ++ r)).set 43 (.inl (0, 216, .inl f)) = wQ q ++ (wM (qw p 43 f) l ++ r) := rfl
theorem wMs_44 {f : Nat → Int32} : (wQ q ++ (wM p l ++ r)).set 44 (.inl (0, 216, .inl f)) = wQ q ++ (wM (qw p 44 f) l ++ r) := rfl
theorem wMs_45 {f : Nat → Int32} : (wQ q ++ (wM p l ++ r)).set 45 (.inl (0, 216, .inl f)) = wQ q ++ (wM (qw p 45 f) l ++ r) := rfl
theorem wMs_46 {f : Nat → Int32} : (wQ q ++ (wM p l ++ r)).set 46 (.inl (0, 216, .inl f)) = wQ q ++ (wM (qw p 46 f) l ++ r) := rfl
theorem wMs_47 {f : Nat → Int32} : (wQ q ++ (wM p l ++ r)).set 47 (.inl (0, 216, .inl f)) = wQ q ++ (wM (qw p 47 f) l ++ r) := rfl
theorem wMs_48 {f : Nat → Int32} : (wQ q ++ (wM p l ++ r)).set 48 (.inl (0, 216, .inl f)) = wQ q ++ (wM (qw p 48 f) l ++ r) := rfl
theorem wMs_49 {f : Nat → Int32} : (wQ q ++ (wM p l ++ r)).set 49 (.inl (0, 200, .inl f)) = wQ q ++ (wM (qw p 49 f) l ++ r) := rfl
theorem wMs_50 {f : Nat → Int32} : (wQ q ++ (wM p l ++ r)).set 50 (.inl (0, 200, .inl f)) = wQ q ++ (wM (qw p 50 f) l ++ r) := rfl
theorem wMs_51 {f : Nat → Int32} : (wQ q ++ (wM p l ++ r)).set 51 (.inl (0, 200, .inl f)) = wQ q ++ (wM (qw p 51 f) l ++ r) := rfl
theorem wMs_52 {f : Nat → Int32} : (wQ q ++ (wM p l ++ r)).set 52 (.inl (0, 200, .inl f)) = wQ q ++ (wM (qw p 52 f) l ++ r) := rfl
theorem wMs_53 {f : Nat → Int32} : (wQ q ++ (wM p l ++ r)).set 53 (.inl (0, 200, .inl f)) = wQ q ++ (wM (qw p 53 f) l ++ r) := rfl
theorem wMs_54 {f : Nat → Int32} : (wQ q ++ (wM p l ++ r)).set 54 (.inl (0, 200, .inl f)) = wQ q ++ (wM (qw p 54 f) l ++ r) := rfl
theorem wMs_55 {f : Nat → Int32} : (wQ q ++ (wM p l ++ r)).set 55 (.inl (0, 200, .inl f)) = wQ q ++ (wM (qw p 55 f) l ++ r) := rfl
theorem wMs_56 {f : Nat → Int32} : (wQ q ++ (wM p l ++ r)).set 56 (.inl (1, 200, .inl f)) = wQ q ++ (wM (qw p 56 f) l ++ r) := rfl
theorem wMs_57 {f : Nat → Int32} : (wQ q ++ (wM p l ++ r)).set 57 (.inl (1, 200, .inl f)) = wQ q ++ (wM (qw p 57 f) l ++ r) := rfl
theorem wMs_58 {f : Nat → Int64} : (wQ q ++ (wM p l ++ r)).set 58 (.inl (2, 6, .inr f)) = wQ q ++ (wM p f ++ r) := rfl
end BASE
/-! small pure things -/
def bI (b : Bool) : Int32 := bif b then 1 else 0
theorem bI_0 {b : Bool} : bI b = 0 ↔ b = false := by cases b <;> decide
theorem bI_n0 {b : Bool} : ¬ bI b = 0 ↔ b = true := by cases b <;> decide
theorem bI_nar (b : Bool) : narrow .boolean (.int (bI b)) = .int (bI b) := by cases b <;> decide
theorem bI_vp (b : Bool) : vp_nar .boolean (bI b) = bI b := by cases b <;> decide
theorem bI_fit (b : Bool) : fits .boolean (.int (bI b)) = true := by cases b <;> decide
theorem bI_inj {a b : Bool} : bI a = bI b ↔ a = b := by cases a <;> cases b <;> decide
def isW (x a b : Int32) : Bool := decide (a ≤ x) && decide (x ≤ b)
theorem isW_t {x a b : Int32} : isW x a b = true ↔ a ≤ x ∧ x ≤ b := by simp [isW]
theorem isW_nI {x M : Int32} (n : Nat) (hM : M.toInt = n) (h : isW x 0 M = true) : ∃ j : Nat, j < n + 1 ∧ x = nI j := by
  obtain ⟨h1, h2⟩ := isW_t.mp h
  obtain ⟨j, hj, e⟩ := nI_of2 hM (Int32.not_lt.mpr h1) h2
  exact ⟨j, by omega, e⟩
theorem isW_of {n N : Nat} (h : n ≤ N) (hN : N < 2 ^ 31) : isW (nI n) 0 (nI N) = true := isW_t.mpr ⟨nI_pos' (by omega), nI_le h hN⟩
theorem ax_down {P : Nat → Prop} {n : Nat} (he : P n) (hs : ∀ i : Nat, i < n → P (i + 1) → P i) : ∀ i : Nat, i ≤ n → P i := by
  intro i hi
  obtain ⟨k, hk⟩ : ∃ k, n = i + k := ⟨n - i, by omega⟩
  induction k generalizing i with
  | zero => rw [show i = n by omega]; exact he
  | succ k ih => exact hs i (by omega) (ih (i + 1) (by omega) (by omega))
theorem nI_m (a b : Nat) : nI a * nI b = nI (a * b) := pk_mul a b
theorem ix6 (s o : Nat) : nI s * 6 + nI o = nI (6 * s + o) := by
  rw [show (6 : Int32) = nI 6 from by decide, nI_m, nI_add, Nat.mul_comm]
theorem ix6' (s o : Nat) : 6 * nI s + nI o = nI (6 * s + o) := by
  rw [show (6 : Int32) = nI 6 from by decide, nI_m, nI_add]
theorem ix3 (s o : Nat) : nI s * 3 + nI o = nI (3 * s + o) := by
  rw [show (3 : Int32) = nI 3 from by decide, nI_m, nI_add, Nat.mul_comm]
theorem ix3' (s o : Nat) : 3 * nI s + nI o = nI (3 * s + o) := by
  rw [show (3 : Int32) = nI 3 from by decide, nI_m, nI_add]
theorem ixr (y v s : Nat) : (nI y * 6 + nI v) * 4 + nI s = nI (24 * y + 4 * v + s) := by
  rw [ix6, show (4 : Int32) = nI 4 from by decide, nI_m, nI_add]
  congr 1
  omega
theorem ixr' (y v s : Nat) : 24 * nI y + 4 * nI v + nI s = nI (24 * y + 4 * v + s) := by
  rw [show (24 : Int32) = nI 24 from by decide, show (4 : Int32) = nI 4 from by decide, nI_m, nI_m, nI_add, nI_add]
section ROWN
variable {G : ax_G} {M : ax_M} {d nc ns pc : Nat} {lv : ax_V} {st : List Value} {w : ax_W} {o : ax_O}
theorem ax_ialdN {a n j : Nat} {f : Nat → Int32} {x : Int32} (q : Nat) (hd : decode M.2.1 pc = .ok (.iaload, 1)) (hq : pc + 1 = q) (he : w[a]? = some (.inl (0, n, .inl f))) (hx : x = nI j) (hj : j < n) (hn : n < 2 ^ 31) (k : ax_Ex G M d nc ns q lv (.int (f j) :: st) w o) : ax_Ex G M d nc ns pc lv (.int x :: .ref a :: st) w o := by
  subst hx
  refine ax_iald q hd hq he (vp_in_nI hj hn) ?_
  rw [nI_clamp (by omega)]
  exact k
theorem ax_zaldN {a n j : Nat} {f : Nat → Int32} {x : Int32} (q : Nat) (hd : decode M.2.1 pc = .ok (.baload, 1)) (hq : pc + 1 = q) (he : w[a]? = some (.inl (1, n, .inl f))) (hx : x = nI j) (hj : j < n) (hn : n < 2 ^ 31) (k : ax_Ex G M d nc ns q lv (.int (f j) :: st) w o) : ax_Ex G M d nc ns pc lv (.int x :: .ref a :: st) w o := by
  subst hx
  refine ax_zald q hd hq he (vp_in_nI hj hn) ?_
  rw [nI_clamp (by omega)]
  exact k
theorem ax_laldN {a n j : Nat} {f : Nat → Int64} {x : Int32} (q : Nat) (hd : decode M.2.1 pc = .ok (.laload, 1)) (hq : pc + 1 = q) (he : w[a]? = some (.inl (2, n, .inr f))) (hx : x = nI j) (hj : j < n) (hn : n < 2 ^ 31) (k : ax_Ex G M d nc ns q lv (.long (f j) :: st) w o) : ax_Ex G M d nc ns pc lv (.int x :: .ref a :: st) w o := by
  subst hx
  refine ax_lald q hd hq he (vp_in_nI hj hn) ?_
  rw [nI_clamp (by omega)]
  exact k
theorem ax_iastN {a n j : Nat} {f : Nat → Int32} {x v : Int32} (q : Nat) (hd : decode M.2.1 pc = .ok (.iastore, 1)) (hq : pc + 1 = q) (he : w[a]? = some (.inl (0, n, .inl f))) (hx : x = nI j) (hj : j < n) (hn : n < 2 ^ 31) (k : ax_Ex G M d nc ns q lv st (w.set a (.inl (0, n, .inl (upd f j v)))) o) : ax_Ex G M d nc ns pc lv (.int v :: .int x :: .ref a :: st) w o := by
  subst hx
  refine ax_iast q hd hq he (vp_in_nI hj hn) ?_
  rw [nI_clamp (by omega)]
  exact k
theorem ax_zastN {a n j : Nat} {f : Nat → Int32} {x v : Int32} (q : Nat) (hd : decode M.2.1 pc = .ok (.bastore, 1)) (hq : pc + 1 = q) (he : w[a]? = some (.inl (1, n, .inl f))) (hx : x = nI j) (hj : j < n) (hn : n < 2 ^ 31) (hv : vp_nar .boolean v = v) (k : ax_Ex G M d nc ns q lv st (w.set a (.inl (1, n, .inl (upd f j v)))) o) : ax_Ex G M d nc ns pc lv (.int v :: .int x :: .ref a :: st) w o := by
  subst hx
  refine ax_zast q hd hq he (vp_in_nI hj hn) ?_
  rw [nI_clamp (by omega), hv]
  exact k
theorem ax_lastN {a n j : Nat} {f : Nat → Int64} {x : Int32} {v : Int64} (q : Nat) (hd : decode M.2.1 pc = .ok (.lastore, 1)) (hq : pc + 1 = q) (he : w[a]? = some (.inl (2, n, .inr f))) (hx : x = nI j) (hj : j < n) (hn : n < 2 ^ 31) (k : ax_Ex G M d nc ns q lv st (w.set a (.inl (2, n, .inr (vp_updL f j v)))) o) : ax_Ex G M d nc ns pc lv (.long v :: .int x :: .ref a :: st) w o := by
  subst hx
  refine ax_last q hd hq he (vp_in_nI hj hn) ?_
  rw [nI_clamp (by omega)]
  exact k
/-- calls that make nothing: with an answer, without -/
theorem ax_cS {M' : ax_M} {d' index n : Nat} {as : List Value} {v : Value} {w1 : ax_W} {st0 : List Value} (q : Nat) (hd : decode M.2.1 pc = .ok (.invokestatic index, 3)) (hq : pc + 3 = q) (hL : ax_lks M.1.cls index M' n) (hM : ax_Met G M' d' 0 0 as w (.inl (some v), w1)) (hdd : d' + 1 ≤ d) (hn : as.length = n) (hst : as.reverse ++ st = st0) (hc : (st.map fun v => v.category).sum ≤ 8) (k : ax_Ex G M d nc ns q lv (v :: st) w1 o) : ax_Ex G M d nc ns pc lv st0 w o :=
  ax_inv0 q hd hq hL hM hdd hn hst hc (by omega) (by omega) k
theorem ax_cSv {M' : ax_M} {d' index n : Nat} {as : List Value} {w1 : ax_W} {st0 : List Value} (q : Nat) (hd : decode M.2.1 pc = .ok (.invokestatic index, 3)) (hq : pc + 3 = q) (hL : ax_lks M.1.cls index M' n) (hM : ax_Met G M' d' 0 0 as w (.inl none, w1)) (hdd : d' + 1 ≤ d) (hn : as.length = n) (hst : as.reverse ++ st = st0) (hc : (st.map fun v => v.category).sum ≤ 8) (k : ax_Ex G M d nc ns q lv st w1 o) : ax_Ex G M d nc ns pc lv st0 w o :=
  ax_inv0 q hd hq hL hM hdd hn hst hc (by omega) (by omega) k
theorem ax_cN {M' : ax_M} {d' index n : Nat} {host : String} {as : List Value} {v : Value} {w1 : ax_W} {st0 : List Value} (q : Nat) (hd : decode M.2.1 pc = .ok (.invokestatic index, 3)) (hq : pc + 3 = q) (hL : ax_ln M.1.cls index host M' n) (hi : Cond.static M'.1 ∈ lw_tbl) (hM : ax_Met G M' d' 0 0 as w (.inl (some v), w1)) (hdd : d' + 1 ≤ d) (hn : as.length = n) (hst : as.reverse ++ st = st0) (hc : (st.map fun v => v.category).sum ≤ 8) (k : ax_Ex G M d nc ns q lv (v :: st) w1 o) : ax_Ex G M d nc ns pc lv st0 w o :=
  ax_inv0N q hd hq hL hi hM hdd hn hst hc (by omega) (by omega) k
theorem ax_cV {M' : ax_M} {d' index n ci a : Nat} {fs as : List Value} {v : Value} {w1 : ax_W} {st0 : List Value} (q : Nat) (hd : decode M.2.1 pc = .ok (.invokevirtual index, 3)) (hq : pc + 3 = q) (hL : ax_lvr M.1.cls index M' n ci) (hM : ax_Met G M' d' 0 0 (.ref a :: as) w (.inl (some v), w1)) (he : w[a]? = some (.inr (ci, fs))) (hdd : d' + 1 ≤ d) (hn : as.length = n) (hst : as.reverse ++ .ref a :: st = st0) (hc : (st.map fun v => v.category).sum ≤ 8) (k : ax_Ex G M d nc ns q lv (v :: st) w1 o) : ax_Ex G M d nc ns pc lv st0 w o :=
  ax_inv1 q hd hq hL he hM hdd hn hst hc (by omega) (by omega) k
theorem ax_cVv {M' : ax_M} {d' index n ci a : Nat} {fs as : List Value} {w1 : ax_W} {st0 : List Value} (q : Nat) (hd : decode M.2.1 pc = .ok (.invokevirtual index, 3)) (hq : pc + 3 = q) (hL : ax_lvr M.1.cls index M' n ci) (hM : ax_Met G M' d' 0 0 (.ref a :: as) w (.inl none, w1)) (he : w[a]? = some (.inr (ci, fs))) (hdd : d' + 1 ≤ d) (hn : as.length = n) (hst : as.reverse ++ .ref a :: st = st0) (hc : (st.map fun v => v.category).sum ≤ 8) (k : ax_Ex G M d nc ns q lv st w1 o) : ax_Ex G M d nc ns pc lv st0 w o :=
  ax_inv1 q hd hq hL he hM hdd hn hst hc (by omega) (by omega) k
end ROWN

