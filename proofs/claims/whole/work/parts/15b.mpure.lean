theorem st_ge {k : Nat} (h : k ≤ 42) (hc : 0 ≤ stI k) : 0 < k := by
  cases k with
  | zero => exact absurd hc (by decide)
  | succ k => omega
theorem st_lt {k : Nat} (h : k ≤ 42) (hc : ¬ 0 ≤ stI k) : ¬ 0 < k := by
  cases k with
  | zero => decide
  | succ k => exact absurd (nI_pos' (n := k) (by omega)) hc
theorem sight_0 {n : Nat → Nat} {A : Nat → Nat → Nat} {w : Int32} (h : inB w 2 = true) (hst : 0 < n 6) (h2 : n 2 = 0) : w.toInt64 = uSight n A w := by
  have e1 : sAll n A = 0 := by unfold sAll; rw [h2]; rfl
  have e2 : sLow n = 1 := by unfold sLow; rw [h2]; rfl
  unfold uSight
  rw [if_pos h, if_pos hst, e1, e2]
  obtain ⟨j, hj, rfl⟩ := inB_t (by decide) h
  have : j = 0 ∨ j = 1 := by omega
  rcases this with rfl | rfl <;> decide
