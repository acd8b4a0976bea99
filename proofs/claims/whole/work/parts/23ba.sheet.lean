theorem faR_lt (h : Bool) (a b : Nat) : faR h a b < 2 ^ 31 := by unfold faR; split <;> (try split) <;> omega
theorem n_le100 {n : Int32} (h : inB n 101 = true) : n ≤ nI 100 := by
  obtain ⟨j, hj, rfl⟩ := inB_t (by decide) h
  exact nI_le (by omega) (by decide)
theorem n_le100n {n : Int32} (h : n < 0) : n ≤ nI 100 := Int32.le_of_lt (Int32.lt_of_lt_of_le h (by decide))
