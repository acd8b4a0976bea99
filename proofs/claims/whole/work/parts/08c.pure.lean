theorem whole_of {n : Nat → Nat} {A : Nat → Nat → Nat} (hW : WF n A) (hst : 0 < n 6) : 2 ^ n 2 - 1 &&& (sComp n A 0 (n 4) ^^^ 4294967295) = sWhole n A := by
  have h2 : n 2 ≤ 12 := hW.2.2.1
  show andn (2 ^ n 2 - 1) (orB _ (n 2)) = _
  rw [comp_of (by omega)]
  apply orB_cong
  intro b hb
  have hc : n 6 - 1 < n 0 * n 1 := by have := hW.2.2.2.2.2.2.1; omega
  have hlt := sWay_lt (h := n 7 + 1) (y := n 4) hW hb hc
  have e : andn (sFoot n A b (n 4)) 0 = sFoot n A b (n 4) := andn_zero (Nat.lt_trans hlt (by decide))
  show (!decide (¬ andn (sFoot n A b (n 4)) 0 = 0)) = decide (sFoot n A b (n 4) = 0)
  rw [e]
  by_cases q : sFoot n A b (n 4) = 0 <;> simp [q]
