theorem pI_pos {k : Nat} (h : 0 < k) : pI k = nI (k - 1) := by
  cases k with
  | zero => omega
  | succ k => rfl
theorem pI_dec (j : Nat) : pI j = nI j + Int32.ofInt (-1) := by
  cases j with
  | zero => decide
  | succ j => rw [pk_dec (by omega)]; rfl
theorem lit_end {n : Nat → Nat} {A : Nat → Nat → Nat} {t k T n7 : Nat} {f : Nat → Bool} (hf : f = fun p => decide (n 7 + (1 + 2 * p) ≤ sTall n A (n 4) t)) (hc : k = 0 ∨ (A 2 t = 0 ∧ sThere n t = true ∧ dd (A 3 t / n 1) ((n 6 - 1) / n 1) ≤ 3 ∧ dd (A 3 t % n 1) ((n 6 - 1) % n 1) ≤ 3)) (he : k = 4 ∨ ¬ (A 2 t = 0 ∧ sThere n t = true ∧ dd (A 3 t / n 1) ((n 6 - 1) / n 1) ≤ 3 ∧ dd (A 3 t % n 1) ((n 6 - 1) % n 1) ≤ 3)) : orB f k = sLit n A t := by
  unfold sLit
  rcases he with he | he
  · subst he
    have hc2 := hc.resolve_left (by decide)
    rw [if_pos hc2, hf]; rfl
  · rw [if_neg he]
    have := hc.resolve_right he
    rw [this]; rfl
