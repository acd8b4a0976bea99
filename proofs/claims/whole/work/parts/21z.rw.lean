theorem uF_self (f : Nat → Int32) (k : Nat) : uF f k (f k) = f := by
  funext i; unfold uF; split
  · next h => rw [h]
  · rfl
theorem uF_uF (f : Nat → Int32) (k : Nat) (u v : Int32) : uF (uF f k u) k v = uF f k v := by
  funext i; unfold uF; split <;> rfl
theorem inL_19 (v : Int32) : inL v.toInt64 1 9 = in19 v := by
  unfold inL in19
  congr 1
  apply propext
  rw [Int64.le_iff_toInt_le, Int64.le_iff_toInt_le, Int32.toInt_toInt64, Int32.le_iff_toInt_le, Int32.le_iff_toInt_le]
  have a0 : (1 : Int64).toInt = 1 := rfl
  have b0 : (1 : Int32).toInt = 1 := rfl
  have a9 : (9 : Int64).toInt = 9 := rfl
  have b9 : (9 : Int32).toInt = 9 := rfl
  rw [a0, b0, a9, b9]
/-- the reference keeps its block apart -/
def vStaM (n : Nat → Nat) (A : Nat → Nat → Nat) (c b : Int32) : Nat → Nat := if inB c (n 0 * n 1) = true ∧ inB b 10 = true ∧ A 0 (xn c) = 0 then uN n 6 (xn c + 1) else n
