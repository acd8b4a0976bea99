theorem uN_uN (n : Nat → Nat) (k u v : Nat) : uN (uN n k u) k v = uN n k v := by
  funext i; unfold uN; split <;> rfl
theorem uN_self (n : Nat → Nat) (k : Nat) : uN n k (n k) = n := by
  funext i; unfold uN; split
  · next h => rw [h]
  · rfl
theorem uX_uX (Y : Nat → Nat → Int32) (k i : Nat) (u v : Int32) : uX (uX Y k i u) k i v = uX Y k i v := by
  funext a j; unfold uX upd; split
  · split <;> simp_all
  · rfl
theorem uX_self (Y : Nat → Nat → Int32) (k i : Nat) {v : Int32} (h : Y k i = v) : uX Y k i v = Y := by
  funext a j
  by_cases e : a = k
  · subst e
    by_cases e2 : j = i
    · subst e2; simp [uX, upd, h]
    · simp [uX, upd, e2]
  · simp [uX, e]
theorem WF_u4 {n : Nat → Nat} {A : Nat → Nat → Nat} {y : Nat} (hW : WF n A) (hy : y ≤ 30) : WF (uN n 4 y) A := by
  obtain ⟨w0, w1, w2, w3, w4, w5, w6, w7, w8, wA⟩ := hW
  exact ⟨w0, w1, w2, w3, hy, w5, w6, w7, w8, wA⟩
theorem WF_u8 {n : Nat → Nat} {A : Nat → Nat → Nat} {y : Nat} (hW : WF n A) (hy : y < 1024) : WF (uN n 8 y) A := by
  obtain ⟨w0, w1, w2, w3, w4, w5, w6, w7, w8, wA⟩ := hW
  exact ⟨w0, w1, w2, w3, w4, w5, w6, w7, hy, wA⟩
theorem RM_cut {n : Nat → Nat} {A : Nat → Nat → Nat} {Y : Nat → Nat → Int32} (hR : RM n A Y) {k v : Nat} {b : Bool} (hv : ∀ t, t < n 3 → v.testBit t = if t = k then b else (n 8).testBit t) : RM (uN n 8 v) A (uX Y 5 k (bI b)) := by
  refine ⟨hR.1, hR.2.1, fun t ht => ?_⟩
  have h := hR.2.2 t ht
  refine ⟨h.1, h.2.1, h.2.2.1, ?_, h.2.2.2.2⟩
  show upd (Y 5) k (bI b) t = bI (v.testBit t)
  rw [hv t ht]
  unfold upd
  split
  · rfl
  · exact h.2.2.2.1
theorem or_bit {a k i : Nat} : (a ||| 2 ^ k).testBit i = if i = k then true else a.testBit i := by
  rw [Nat.testBit_or, Nat.testBit_two_pow]
  by_cases h : i = k
  · subst h; simp
  · simp [h, show ¬ k = i from fun q => h q.symm]
theorem sBit_cut {n : Nat → Nat} {A : Nat → Nat → Nat} {f c g h y m k i : Nat} : (sBit (uN n 8 (n 8 ||| 2 ^ k)) A f c g h y m).testBit i = ((sBit n A f c g h y m).testBit i && !decide (i = k)) := by
  unfold sBit
  have ht : ∀ t, sThere (uN n 8 (n 8 ||| 2 ^ k)) t = (sThere n t && !decide (t = k)) := by
    intro t
    unfold sThere
    show (!(n 8 ||| 2 ^ k).testBit t) = _
    rw [or_bit]
    by_cases e : t = k <;> simp [e]
  have hT : ∀ t, sTall (uN n 8 (n 8 ||| 2 ^ k)) A y t = sTall n A y t := fun t => rfl
  rw [ht, hT]
  generalize A 0 (sAt f c g m) = a
  by_cases h1 : 10 ≤ a ∧ sThere n (a - 10) = true ∧ 2 * g + m * h ≤ sTall n A y (a - 10) * g + 2 * m
  · rw [if_pos h1]
    by_cases e : a - 10 = k
    · rw [if_neg (by rw [e]; simp)]
      rw [Nat.testBit_two_pow, e]
      by_cases ei : i = k
      · simp [ei]
      · simp [show ¬ k = i from fun q => ei q.symm]
    · rw [if_pos ⟨h1.1, by rw [h1.2.1]; simp [e], h1.2.2⟩]
      rw [Nat.testBit_two_pow]
      by_cases ei : a - 10 = i
      · subst ei; simp [e]
      · simp [ei]
  · rw [if_neg h1, if_neg (fun q => h1 ⟨q.1, by have := q.2.1; simp at this; exact this.1, q.2.2⟩)]
    simp
theorem sWay_cut {n : Nat → Nat} {A : Nat → Nat → Nat} {b c h y k : Nat} (hW : WF n A) (hb : b < n 2) (hc : c < n 0 * n 1) : sWay (uN n 8 (n 8 ||| 2 ^ k)) A b c h y = andn (sWay n A b c h y) (2 ^ k) := by
  apply Nat.eq_of_testBit_eq
  intro i
  have key : (sWay (uN n 8 (n 8 ||| 2 ^ k)) A b c h y).testBit i = ((sWay n A b c h y).testBit i && !decide (i = k)) := by
    unfold sWay
    have hst : sSt (uN n 8 (n 8 ||| 2 ^ k)) (A 1 b) c = sSt n (A 1 b) c := rfl
    rw [hst]
    rw [Bool.eq_iff_iff, Bool.and_eq_true, orM_bit, orM_bit]
    constructor
    · rintro ⟨j, hj, hq⟩
      rw [sBit_cut, Bool.and_eq_true] at hq
      exact ⟨⟨j, hj, hq.1⟩, hq.2⟩
    · rintro ⟨⟨j, hj, hq⟩, h2⟩
      exact ⟨j, hj, by rw [sBit_cut, hq, h2]; rfl⟩
  rw [key]
  by_cases hi : i < 32
  · rw [andn_bit hi, Nat.testBit_two_pow]
    by_cases e : i = k
    · subst e; simp
    · simp [e, show ¬ k = i from fun q => e q.symm]
  · have h1 : sWay n A b c h y < 2 ^ i := Nat.lt_of_lt_of_le (sWay_lt hW hb hc) (Nat.pow_le_pow_right (by decide) (by omega))
    have h2 : andn (sWay n A b c h y) (2 ^ k) < 2 ^ i := andn_lt h1
    rw [Nat.testBit_lt_two_pow h1, Nat.testBit_lt_two_pow h2]; rfl
theorem sComp_cut {n : Nat → Nat} {A : Nat → Nat → Nat} {k y : Nat} (hW : WF n A) (hst : 0 < n 6) : sComp (uN n 8 (n 8 ||| 2 ^ k)) A 0 y = sComp n A (2 ^ k) y := by
  have hc : n 6 - 1 < n 0 * n 1 := by have := hW.2.2.2.2.2.2.1; omega
  apply orB_cong
  intro b hb
  show decide (¬ andn (sWay (uN n 8 (n 8 ||| 2 ^ k)) A b (n 6 - 1) (n 7 + 1) y) 0 = 0) = _
  rw [sWay_cut hW hb hc, andn_zero (Nat.lt_trans (andn_lt (sWay_lt hW hb hc)) (by decide))]
  rfl
theorem shr_0 {x : Int32} {k : Nat} (hk : k ≤ 12) (hx : ¬ x < 0) : x >>> (nI k &&& 31) = 0 ↔ inB x (2 ^ k) = true := by
  obtain ⟨j, hj, rfl⟩ := nI_of hx
  have hp : 2 ^ k ≤ 2 ^ 12 := Nat.pow_le_pow_right (by decide) hk
  rw [nI_shr hj (by omega), nI_eq0 (Nat.lt_of_le_of_lt (Nat.div_le_self _ _) hj)]
  constructor
  · intro h
    have : j < 2 ^ k := by
      rcases Nat.lt_or_ge j (2 ^ k) with q | q
      · exact q
      · have := Nat.div_pos q (Nat.two_pow_pos k); omega
    exact inB_nI (by omega) this
  · intro h
    obtain ⟨i, hi, e⟩ := inB_t (by omega) h
    have : j = i := (nI_eq hj (by omega)).mp e
    subst this
    exact Nat.div_eq_of_lt hi
