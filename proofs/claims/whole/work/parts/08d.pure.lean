theorem pI_ge (k : Nat) : (-1 : Int32) ≤ pI k ∨ k = k := Or.inr rfl
theorem pI_min {k : Nat} (h : k < 2 ^ 31) : (-1 : Int32) ≤ pI k := by
  cases k with
  | zero => decide
  | succ k =>
    rw [Int32.le_iff_toInt_le, show pI (k + 1) = nI k from rfl, nI_toInt (by omega)]
    have : (-1 : Int32).toInt = -1 := rfl
    omega
theorem lN_shl {k : Nat} (hk : k < 63) : (1 : Int64) <<< ((nI k).toInt64 &&& 63) = lN (2 ^ k) := by
  have h : ∀ k, k < 63 → (1 : Int64) <<< ((nI k).toInt64 &&& 63) = lN (2 ^ k) := by decide +kernel
  exact h k hk
theorem sec_or {f : Nat → Bool} {k : Nat} (h : f k = true) (hk : k < 63) : lN (orB f k) ||| (1 : Int64) <<< ((nI k).toInt64 &&& 63) = lN (orB f (k + 1)) := by
  rw [lN_shl hk, fb_orL, orB_t h]
