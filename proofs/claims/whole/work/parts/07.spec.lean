/-! the ground's state as numbers: n 0 high, 1 wide, 2 benches, 3 things, 4 year, 5 winter, 6 the statue's cell and one more (0: none), 7 block, 8 what is cut; A 0 what a cell has, 1 a bench's cell, 2 kind, 3 a thing's cell, 4 tall at first, 5 price -/
def stI : Nat → Int32
  | 0 => -9
  | k + 1 => nI k
def wG (cI : ClassId) (q : Nat → Nat) (n : Nat → Nat) (X : Nat → Nat → Int32) : va_W := [(q 0, .inr (0, [.int (nI (n 1)), .int (nI (n 0 * n 1)), .int (nI (n 2)), .int (nI (n 3)), .ref (q 1), .ref (q 2), .ref (q 3), .ref (q 4), .ref (q 5), .ref (q 6), .ref (q 7), .ref (q 8), .int (nI (n 8)), .int (nI (n 4)), .int (nI (n 5)), .int (stI (n 6)), .int (nI (n 7))])), (q 1, .inl (cI, 42, .inl (X 0))), (q 2, .inl (cI, 42, .inl (X 1))), (q 3, .inl (cI, 42, .inl (X 2))), (q 4, .inl (cI, 12, .inl (X 3))), (q 5, .inl (cI, 10, .inl (X 4))), (q 6, .inl (cI, 10, .inl (X 5))), (q 7, .inl (cI, 10, .inl (X 6))), (q 8, .inl (cI, 10, .inl (X 7)))]
def WF (n : Nat → Nat) (A : Nat → Nat → Nat) : Prop := n 0 ≤ 6 ∧ n 1 ≤ 7 ∧ n 2 ≤ 12 ∧ n 3 ≤ 10 ∧ n 4 ≤ 30 ∧ n 5 ≤ 1 ∧ n 6 ≤ n 0 * n 1 ∧ n 7 ≤ 9 ∧ n 8 < 1024 ∧ (∀ c, c < n 0 * n 1 → A 0 c ≤ 1 ∨ (10 ≤ A 0 c ∧ A 0 c < 10 + n 3)) ∧ (∀ b, b < n 2 → A 1 b < n 0 * n 1) ∧ (∀ t, t < n 3 → A 2 t ≤ 2 ∧ A 3 t < n 0 * n 1 ∧ 1 ≤ A 4 t ∧ A 4 t ≤ 9 ∧ 1 ≤ A 5 t ∧ A 5 t ≤ 9)
def RG (n : Nat → Nat) (A : Nat → Nat → Nat) (X : Nat → Nat → Int32) : Prop := (∀ c, c < n 0 * n 1 → X 0 c = nI (A 0 c) ∧ X 1 c = nI (c / n 1) ∧ X 2 c = nI (c % n 1)) ∧ (∀ b, b < n 2 → X 3 b = nI (A 1 b)) ∧ (∀ t, t < n 3 → X 4 t = nI (A 2 t) ∧ X 5 t = nI (A 3 t) ∧ X 6 t = nI (A 4 t) ∧ X 7 t = nI (A 5 t))
def sThere (n : Nat → Nat) (t : Nat) : Bool := !(n 8).testBit t
theorem tb_0 {a t : Nat} : a / 2 ^ t &&& 1 = 0 ↔ a.testBit t = false := by
  rw [Nat.and_one_is_mod, Nat.testBit_eq_decide_div_mod_eq]
  simp
theorem and1_lt (a : Nat) : a &&& 1 < 2 ^ 31 := Nat.lt_of_le_of_lt Nat.and_le_right (by decide)
theorem n1_b {b : Bool} (h : b = true) : nI 1 = bI b := by rw [h]; rfl
theorem n0_b {b : Bool} (h : b = false) : nI 0 = bI b := by rw [h]; rfl
def sTall (n : Nat → Nat) (A : Nat → Nat → Nat) (y t : Nat) : Nat := if A 2 t = 0 then A 4 t else if A 2 t = 2 then (if n 5 = 0 then A 4 t + 1 + y / 3 else (A 4 t + y / 3) / 2) else (if n 5 = 0 then A 4 t + 1 else A 4 t)
