/-! square in the class -/
theorem sqN_fa (hs : Nat → Bool) (la le : Nat → Nat) (j l0 : Nat) (i n : Int32) : sqN hs la le j l0 i n = if faR (hs j) (la j) l0 = 0 then (if n < 0 then 4 else if spanB i n (le j) = true then 0 else 3) else faR (hs j) (la j) l0 := by
  unfold sqN faR
  cases hs j
  · simp
  · by_cases h : la j = l0
    · simp [h]
    · simp [h]
theorem nI_m1 {k : Nat} (hk : k < 2 ^ 31) : ¬ nI k = -1 := fun h => by
  have := congrArg Int32.toInt h
  rw [nI_toInt hk] at this
  have e1 : (-1 : Int32).toInt = -1 := rfl
  omega
theorem tR_pl {E : Nat → Int32} {len : Nat} {S D : Nat → Int32} : (tR E len (dgN E len 2 2 7) S D (dgN E len 1 1 6 * dgN E len 2 2 7)).2.1.1 ≤ 129 := by
  have h := tR_cnt E len (dgN E len 2 2 7) S D (dgN E len 1 1 6 * dgN E len 2 2 7)
  have h42 : dgN E len 1 1 6 * dgN E len 2 2 7 ≤ 6 * 7 := Nat.mul_le_mul (dgN_le (by decide)) (dgN_le (by decide))
  omega
theorem rdV_t {E : Nat → Int32} {len : Nat} {S D : Nat → Int32} (h : rdV E len S D = -1) : sgB E len 0 113 = true ∧ ¬ dgN E len 1 1 6 = 0 ∧ ¬ dgN E len 2 2 7 = 0 ∧ (tR E len (dgN E len 2 2 7) S D (dgN E len 1 1 6 * dgN E len 2 2 7)).1 = true ∧ (tR E len (dgN E len 2 2 7) S D (dgN E len 1 1 6 * dgN E len 2 2 7)).2.1.1 = len := by
  unfold rdV at h
  by_cases h1 : sgB E len 0 113 = true
  · rw [if_pos h1] at h
    by_cases h2 : dgN E len 1 1 6 = 0
    · rw [if_pos h2] at h; exact absurd h (nI_m1 (by decide))
    · rw [if_neg h2] at h
      by_cases h3 : dgN E len 2 2 7 = 0
      · rw [if_pos h3] at h; exact absurd h (nI_m1 (by decide))
      · rw [if_neg h3] at h
        by_cases h4 : (tR E len (dgN E len 2 2 7) S D (dgN E len 1 1 6 * dgN E len 2 2 7)).1 = true ∧ (tR E len (dgN E len 2 2 7) S D (dgN E len 1 1 6 * dgN E len 2 2 7)).2.1.1 = len
        · exact ⟨h1, h2, h3, h4.1, h4.2⟩
        · rw [if_neg h4] at h; exact absurd h (nI_m1 (Nat.lt_of_le_of_lt tR_pl (by decide)))
  · rw [if_neg h1] at h; exact absurd h (nI_m1 (by decide))
theorem rdX_t {E : Nat → Int32} {len : Nat} {S D : Nat → Int32} {hi wi : Int32} (h1 : sgB E len 0 113 = true) (h2 : ¬ dgN E len 1 1 6 = 0) (h3 : ¬ dgN E len 2 2 7 = 0) : rdX E len S D hi wi = ((nI (dgN E len 1 1 6), nI (dgN E len 2 2 7)), (len, (tR E len (dgN E len 2 2 7) S D (dgN E len 1 1 6 * dgN E len 2 2 7)).2.1.1, (tR E len (dgN E len 2 2 7) S D (dgN E len 1 1 6 * dgN E len 2 2 7)).2.1.2.1, (tR E len (dgN E len 2 2 7) S D (dgN E len 1 1 6 * dgN E len 2 2 7)).2.1.2.2), ((tR E len (dgN E len 2 2 7) S D (dgN E len 1 1 6 * dgN E len 2 2 7)).2.2.1, (tR E len (dgN E len 2 2 7) S D (dgN E len 1 1 6 * dgN E len 2 2 7)).2.2.2, E)) := by
  rw [rdX, if_pos h1, if_neg h2, if_neg h3]
section PARSE
variable {E : Nat → Int32} {len wi : Nat} {S D : Nat → Int32}
theorem tR_ok_lt {j M : Nat} (h : (tR E len wi S D M).1 = true) (hj : j ≤ M) : (tR E len wi S D j).1 = true := by
  cases e : (tR E len wi S D j).1
  · rw [tR_stop' e hj, e] at h; cases h
  · rfl
def pAt (E : Nat → Int32) (len wi : Nat) (S D : Nat → Int32) (j : Nat) : Nat := if j % wi = 0 then (tR E len wi S D j).2.1.1 + 1 else (tR E len wi S D j).2.1.1
def kAt (E : Nat → Int32) (len wi : Nat) (S D : Nat → Int32) (j : Nat) : Nat := knd E len (pAt E len wi S D j)
theorem tR_step {j : Nat} (h : (tR E len wi S D (j + 1)).1 = true) : tcO E len (pAt E len wi S D j) (tR E len wi S D j).2.1.2.1 (tR E len wi S D j).2.1.2.2 = true ∧ tR E len wi S D (j + 1) = (tcO E len (pAt E len wi S D j) (tR E len wi S D j).2.1.2.1 (tR E len wi S D j).2.1.2.2, (tcP E len (pAt E len wi S D j) (tR E len wi S D j).2.1.2.1 (tR E len wi S D j).2.1.2.2, tcB E len (pAt E len wi S D j) (tR E len wi S D j).2.1.2.1, tcT E len (pAt E len wi S D j) (tR E len wi S D j).2.1.2.2), (upd (tR E len wi S D j).2.2.1 j (cdT E len (pAt E len wi S D j)), tcD E len (pAt E len wi S D j) (tR E len wi S D j).2.1.2.2 j (tR E len wi S D j).2.2.2)) := by
  have h0 := tR_ok_lt h (Nat.le_succ j)
  have e : tR E len wi S D (j + 1) = (tcO E len (pAt E len wi S D j) (tR E len wi S D j).2.1.2.1 (tR E len wi S D j).2.1.2.2, (tcP E len (pAt E len wi S D j) (tR E len wi S D j).2.1.2.1 (tR E len wi S D j).2.1.2.2, tcB E len (pAt E len wi S D j) (tR E len wi S D j).2.1.2.1, tcT E len (pAt E len wi S D j) (tR E len wi S D j).2.1.2.2), (upd (tR E len wi S D j).2.2.1 j (cdT E len (pAt E len wi S D j)), tcD E len (pAt E len wi S D j) (tR E len wi S D j).2.1.2.2 j (tR E len wi S D j).2.2.2)) := by
    by_cases q : j % wi = 0 ∧ sgB E len (tR E len wi S D j).2.1.1 59 = false
    · exfalso
      have e1 : tR E len wi S D (j + 1) = (false, (tR E len wi S D j).2) := by
        rw [tR]
        simp only [h0, q.1, q.2]
        rfl
      rw [e1] at h
      cases h
    · rw [tR]
      simp only [h0, q, pAt]
      rfl
  exact ⟨by rw [e] at h; exact h, e⟩
theorem tcO_t {p be th : Nat} (h : tcO E len p be th = true) : ¬ knd E len p = 0 ∧ (knd E len p = 2 → ¬ be = 12) ∧ (3 ≤ knd E len p → ¬ th = 10 ∧ ¬ dgN E len (p + 1) 1 9 = 0) := by
  unfold tcO at h
  by_cases h1 : knd E len p = 1
  · exact ⟨by omega, by omega, by omega⟩
  · rw [if_neg h1] at h
    by_cases h2 : knd E len p = 2
    · rw [if_pos h2] at h
      exact ⟨by omega, fun _ => of_decide_eq_true h, by omega⟩
    · rw [if_neg h2] at h
      by_cases h3 : knd E len p = 0
      · rw [if_pos h3] at h; cases h
      · rw [if_neg h3] at h
        exact ⟨h3, by omega, fun _ => of_decide_eq_true h⟩
theorem knd_le (p : Nat) : knd E len p ≤ 5 := by
  unfold knd; repeat' split
  all_goals omega
theorem sgK_knd {p : Nat} (h : ¬ knd E len p = 0) : sgK (cdT E len p) (knd E len p) := by
  rcases knd_g (E := E) (len := len) (p := p) (x := cdT E len p) (fun sg hs => cd_eq hs) with q | q | q | q | q | q
  · refine Or.inr (Or.inr (Or.inr (Or.inr ⟨⟨?_, ?_, ?_, ?_⟩, q.2⟩))) <;> (intro e; rw [q.1] at e; revert e; decide)
  · exact Or.inl q
  · exact Or.inr (Or.inl q)
  · exact Or.inr (Or.inr (Or.inl q))
  · exact Or.inr (Or.inr (Or.inr (Or.inl q)))
  · exact absurd q.2 h
theorem tR_S : ∀ {M : Nat}, (tR E len wi S D M).1 = true → ∀ j, j < M → (tR E len wi S D M).2.2.1 j = cdT E len (pAt E len wi S D j)
  | 0, _, j, hj => absurd hj (Nat.not_lt_zero _)
  | M + 1, h, j, hj => by
    have hs := tR_step h
    rw [hs.2]
    show upd _ _ _ j = _
    by_cases e : j = M
    · rw [e]; exact if_pos rfl
    · rw [upd, if_neg e]; exact tR_S (tR_ok_lt h (Nat.le_succ M)) j (by omega)
theorem tR_D : ∀ {M : Nat}, (tR E len wi S D M).1 = true → ∀ j, j < M → 3 ≤ kAt E len wi S D j → (tR E len wi S D M).2.2.2 j = nI (dgN E len (pAt E len wi S D j + 1) 1 9)
  | 0, _, j, hj, _ => absurd hj (Nat.not_lt_zero _)
  | M + 1, h, j, hj, hk => by
    have hs := tR_step h
    have ho := tcO_t hs.1
    rw [hs.2]
    show tcD E len (pAt E len wi S D M) (tR E len wi S D M).2.1.2.2 M (tR E len wi S D M).2.2.2 j = _
    unfold tcD
    by_cases e : j = M
    · subst e
      rw [if_pos ⟨hk, (ho.2.2 hk).1⟩, upd, if_pos rfl, dI_nz (ho.2.2 hk).2]
    · have ih := tR_D (tR_ok_lt h (Nat.le_succ M)) j (by omega) hk
      split
      · rw [upd, if_neg e]; exact ih
      · exact ih
theorem lR_cnt {D' : Nat → Int32} {X : Nat → Nat → Int32} : ∀ {M : Nat}, (tR E len wi S D M).1 = true → (lR (kAt E len wi S D) D' wi X M).1 = ((tR E len wi S D M).2.1.2.1, (tR E len wi S D M).2.1.2.2)
  | 0, _ => rfl
  | M + 1, h => by
    have hs := tR_step h
    have ho := tcO_t hs.1
    have ih := lR_cnt (D' := D') (X := X) (tR_ok_lt h (Nat.le_succ M))
    rw [hs.2, lR, ih]
    simp only []
    unfold tcB tcT kAt
    congr 1
    · by_cases q : knd E len (pAt E len wi S D M) = 2
      · rw [if_pos q, if_pos ⟨q, ho.2.1 q⟩]
      · rw [if_neg q, if_neg (fun r => q r.1)]
    · by_cases q : 3 ≤ knd E len (pAt E len wi S D M)
      · rw [if_pos q, if_pos ⟨q, (ho.2.2 q).1⟩]
      · rw [if_neg q, if_neg (fun r => q r.1)]
theorem lay_ok {M : Nat} {D' : Nat → Int32} {X : Nat → Nat → Int32} (h : (tR E len wi S D M).1 = true) : (∀ j, j < M → sgK ((tR E len wi S D M).2.2.1 j) (kAt E len wi S D j)) ∧ (∀ j, j < M → (kAt E len wi S D j = 2 → (lR (kAt E len wi S D) D' wi X j).1.1 < 12) ∧ (3 ≤ kAt E len wi S D j → (lR (kAt E len wi S D) D' wi X j).1.2 < 10)) := by
  constructor
  · intro j hj
    rw [tR_S h j hj]
    exact sgK_knd (tcO_t (tR_step (tR_ok_lt h (show j + 1 ≤ M from hj))).1).1
  · intro j hj
    have hs := tR_step (tR_ok_lt h (show j + 1 ≤ M from hj))
    have ho := tcO_t hs.1
    have hc := tR_cnt E len wi S D j
    rw [lR_cnt (tR_ok_lt h (Nat.le_of_lt hj))]
    exact ⟨fun q => by have := ho.2.1 q; show (tR E len wi S D j).2.1.2.1 < 12; omega, fun q => by have := (ho.2.2 q).1; show (tR E len wi S D j).2.1.2.2 < 10; omega⟩
end PARSE
/-- the class's answer and worlds behind square -/
def uSqC (hs : Nat → Bool) (la le : Nat → Nat) (k lane i n : Int32) (E S D : Nat → Int32) : Int32 := if inB k 4 = true then (if inB lane 3 = true then (if sqN hs la le (xn k) (xn lane) i n = 0 then (if rdV E (xn n) S D = -1 then nI (dgN E (xn n) 1 1 6 * dgN E (xn n) 2 2 7) else -100 - rdV E (xn n) S D) else -10 - nI (sqN hs la le (xn k) (xn lane) i n)) else -2) else -1
def lSqC (E : Nat → Int32) (len : Nat) (S D : Nat → Int32) (X : Nat → Nat → Int32) : (Nat × Nat) × (Nat → Nat → Int32) := lR (kAt E len (dgN E len 2 2 7) S D) (tR E len (dgN E len 2 2 7) S D (dgN E len 1 1 6 * dgN E len 2 2 7)).2.2.2 (dgN E len 2 2 7) X (dgN E len 1 1 6 * dgN E len 2 2 7)
def nSqC (ok : Bool) (E : Nat → Int32) (len : Nat) (S D : Nat → Int32) (n : Nat → Nat) (X : Nat → Nat → Int32) : Nat → Nat := if ok = true ∧ rdV E len S D = -1 then nNew (dgN E len 1 1 6) (dgN E len 2 2 7) (lSqC E len S D X).1.1 (lSqC E len S D X).1.2 else n
def xSqC (ok : Bool) (E : Nat → Int32) (len : Nat) (S D : Nat → Int32) (X : Nat → Nat → Int32) : Nat → Nat → Int32 := if ok = true ∧ rdV E len S D = -1 then (lSqC E len S D X).2 else X
def rSqC (ok : Bool) (E : Nat → Int32) (len : Nat) (x : RD) : RD := if ok = true then rdX E len x.2.2.1 x.2.2.2.1 x.1.1 x.1.2 else x
