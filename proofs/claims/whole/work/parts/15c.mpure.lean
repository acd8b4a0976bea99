theorem cnt_whole {n : Nat → Nat} {A : Nat → Nat → Nat} (h : n 2 ≤ 12) (c bl : Nat) : popN (sWholeB n A c bl) = sCnt n A c bl := popN_orB (by omega)
theorem wholeB_lt {n : Nat → Nat} {A : Nat → Nat → Nat} (h : n 2 ≤ 12) (c bl : Nat) : sWholeB n A c bl < 2 ^ 12 := Nat.lt_of_lt_of_le (orB_lt _ _) (Nat.pow_le_pow_right (by decide) h)
theorem st_neg {k : Nat} (h : k ≤ 42) (hc : stI k < 0) : k = 0 := by
  cases k with
  | zero => rfl
  | succ k => exact absurd hc (nI_pos (n := k) (by omega))
theorem st_nneg {k : Nat} (hc : ¬ stI k < 0) : ¬ k = 0 := fun e => hc (by rw [e]; decide)
theorem stI_le {a b : Nat} (ha : a < 2 ^ 31) (hb : b < 2 ^ 31) : nI a ≤ stI b ↔ a + 1 ≤ b := by
  cases b with
  | zero =>
    constructor
    · intro h
      have h1 := Int32.le_iff_toInt_le.mp h
      rw [nI_toInt ha] at h1
      have e : (stI 0).toInt = -9 := rfl
      omega
    · intro h; omega
  | succ b => rw [show stI (b + 1) = nI b from rfl, nI_leI ha (by omega)]; omega
theorem least_le {n : Nat → Nat} {A : Nat → Nat → Nat} (h : n 2 ≤ 12) (c k : Nat) : (sLeast n A c k).1 ≤ k ∧ (sLeast n A c k).2 ≤ 13 := bst_le (fun bl => Nat.le_trans (sCnt_le _ _ _ _) h) k
theorem orB_ne_s {f : Nat → Bool} {k : Nat} (h : ¬ orB f k = 0) : ¬ orB f (k + 1) = 0 := by
  intro e
  apply h
  apply zero_of_bits
  intro i
  have h1 := orB_bit f (k + 1) i
  rw [e] at h1
  rw [orB_bit]
  by_cases hi : i < k
  · simp [show i < k + 1 by omega] at h1
    simp [h1]
  · simp [hi]
def chn (x : Nat) : Prop := x = 0 ∨ x = 1 ∨ x = 3 ∨ x = 7 ∨ x = 15
theorem chn_or {x y : Nat} (hx : chn x) (hy : chn y) : x ||| y = x ∨ x ||| y = y := by
  rcases hx with rfl | rfl | rfl | rfl | rfl <;> rcases hy with rfl | rfl | rfl | rfl | rfl <;> decide
theorem sLit_chn (n : Nat → Nat) (A : Nat → Nat → Nat) (t : Nat) : chn (sLit n A t) := by
  unfold sLit
  split
  · unfold sLitP
    generalize sTall n A (n 4) t = T
    generalize n 7 = b
    by_cases h0 : b + 1 ≤ T
    · by_cases h1 : b + 3 ≤ T
      · by_cases h2 : b + 5 ≤ T
        · by_cases h3 : b + 7 ≤ T
          · right; right; right; right; simp [orB, h0, h1, h2, h3]
          · right; right; right; left; simp [orB, h0, h1, h2, h3]
        · right; right; left; simp [orB, h0, h1, h2, show ¬ b + 7 ≤ T by omega]
      · right; left; simp [orB, h0, h1, show ¬ b + 5 ≤ T by omega, show ¬ b + 7 ≤ T by omega]
    · left; simp [orB, h0, show ¬ b + 3 ≤ T by omega, show ¬ b + 5 ≤ T by omega, show ¬ b + 7 ≤ T by omega]
  · left; rfl
theorem lits_ex (n : Nat → Nat) (A : Nat → Nat → Nat) : ∀ k, orM (sLit n A) k = 0 ∨ ∃ t, t < k ∧ sLit n A t = orM (sLit n A) k
  | 0 => Or.inl rfl
  | k + 1 => by
    have hc : chn (orM (sLit n A) k) := by
      rcases lits_ex n A k with h | ⟨t, _, h⟩
      · rw [h]; exact Or.inl rfl
      · rw [← h]; exact sLit_chn n A t
    rw [orM]
    rcases chn_or hc (sLit_chn n A k) with h | h
    · rw [h]
      rcases lits_ex n A k with q | ⟨t, ht, q⟩
      · exact Or.inl q
      · exact Or.inr ⟨t, by omega, q⟩
    · rw [h]; exact Or.inr ⟨k, by omega, rfl⟩
theorem sLitS_one {n : Nat → Nat} {A : Nat → Nat → Nat} {t : Nat} (ht : t < n 3) : sLitS n A (2 ^ t) = sLit n A t := by
  unfold sLitS
  apply Nat.eq_of_testBit_eq
  intro i
  cases hq : (sLit n A t).testBit i with
  | true => rw [orM_bit]; exact ⟨t, ht, by rw [Nat.testBit_two_pow_self, if_pos rfl]; exact hq⟩
  | false =>
    cases hz : (orM (fun u => if (2 ^ t).testBit u then sLit n A u else 0) (n 3)).testBit i with
    | false => rfl
    | true =>
      rw [orM_bit] at hz
      obtain ⟨u, hu, hw⟩ := hz
      by_cases e : u = t
      · subst e; rw [Nat.testBit_two_pow_self, if_pos rfl] at hw; rw [hw] at hq; cases hq
      · rw [Nat.testBit_two_pow] at hw; simp [show ¬ t = u from fun q => e q.symm] at hw
theorem sLitS_zero (n : Nat → Nat) (A : Nat → Nat → Nat) : sLitS n A 0 = 0 := by
  unfold sLitS
  apply zero_of_bits
  intro i
  cases hz : (orM (fun u => if (0 : Nat).testBit u then sLit n A u else 0) (n 3)).testBit i with
  | false => rfl
  | true =>
    rw [orM_bit] at hz
    obtain ⟨u, hu, hw⟩ := hz
    simp at hw
theorem pop_0 : ∀ b, b < 1024 → popN b = 0 → b = 0 := by decide +kernel
theorem pop_1 : ∀ b, b < 1024 → popN b = 1 → ∃ u, u < 10 ∧ b = 2 ^ u := by
  have h : ∀ b, b < 1024 → popN b = 1 → (List.range 10).any (fun u => decide (b = 2 ^ u)) = true := by decide +kernel
  intro b hb h1
  have := h b hb h1
  rw [List.any_eq_true] at this
  obtain ⟨u, hu, q⟩ := this
  exact ⟨u, List.mem_range.mp hu, of_decide_eq_true q⟩
theorem pop_2 : ∀ u, u < 10 → popN (2 ^ u) = 1 := by decide +kernel
theorem few_is {n : Nat → Nat} {A : Nat → Nat → Nat} (h3 : n 3 ≤ 10) {b : Nat} (hb : b < 2 ^ n 3) (hl : sLitS n A b = sLits n A) (hm : ∀ s, s < 2 ^ n 3 → sLitS n A s = sLits n A → popN b ≤ popN s ∧ (popN s = popN b → b ≤ s)) : b = sFew n A := by
  have hp : 2 ^ n 3 ≤ 2 ^ 10 := Nat.pow_le_pow_right (by decide) h3
  by_cases h0 : sLits n A = 0
  · have e : sFew n A = 0 := if_pos h0
    have h1 := hm 0 (Nat.two_pow_pos _) (by rw [sLitS_zero, h0])
    have h2 : popN 0 = 0 := by decide
    rw [h2] at h1
    rw [e]
    exact pop_0 b (by omega) (by omega)
  · obtain ⟨t0, ht0, hq⟩ : ∃ t, t < n 3 ∧ sLit n A t = sLits n A := by
      rcases lits_ex n A (n 3) with q | q
      · exact absurd q h0
      · exact q
    obtain ⟨t, ⟨ht, hlt⟩, hmin⟩ := pk_least (fun t => t < n 3 ∧ sLit n A t = sLits n A) ⟨t0, ht0, hq⟩
    have hno : ∀ j, j < t → (fun t => decide (sLit n A t = sLits n A)) j = false := fun j hj => decide_eq_false (fun q => hmin j hj ⟨by omega, q⟩)
    have e : sFew n A = 2 ^ t := by
      unfold sFew
      rw [if_neg h0, fstB_yes hno (decide_eq_true hlt) ht]
      rfl
    rw [e]
    have h1 := hm (2 ^ t) (Nat.pow_lt_pow_right (by decide) ht) (by rw [sLitS_one ht, hlt])
    rw [pop_2 t (by omega)] at h1
    have hne : popN b ≠ 0 := fun q => by
      have := pop_0 b (by omega) q
      rw [this, sLitS_zero] at hl
      exact h0 hl.symm
    have h2 : popN b = 1 := by omega
    obtain ⟨u, hu, rfl⟩ := pop_1 b (by omega) h2
    have hun : u < n 3 := (Nat.pow_lt_pow_iff_right (by decide)).mp hb
    rw [sLitS_one hun] at hl
    have htu : t ≤ u := Nat.not_lt.mp fun q => hmin u q ⟨hun, hl⟩
    have : 2 ^ t ≤ 2 ^ u := Nat.pow_le_pow_right (by decide) htu
    have := h1.2 (by omega)
    omega
