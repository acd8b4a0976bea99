/-! square: faults, what is copied -/
def sqN (hs : Nat → Bool) (la le : Nat → Nat) (j l0 : Nat) (i n : Int32) : Nat := if hs j = true then (if la j = l0 then (if n < 0 then 4 else if spanB i n (le j) = true then 0 else 3) else 2) else 1
def okSq (hs : Nat → Bool) (la le : Nat → Nat) (k lane i n : Int32) : Bool := inB k 4 && (inB lane 3 && decide (sqN hs la le (xn k) (xn lane) i n = 0))
def fSq (hs : Nat → Bool) (la le : Nat → Nat) (k lane i n : Int32) : Int32 := if inB k 4 = true ∧ inB lane 3 = true then nI (sqN hs la le (xn k) (xn lane) i n) else 0
def thY (Y : Nat → Nat → Int32) (t : Nat) : Nat → Nat → Int32 := fun a => if a = 2 then va_cpy (Y 9) (Y 2) 0 0 t else if a = 3 then va_cpy (Y 10) (Y 3) 0 0 t else if a = 4 then va_cpy (Y 11) (Y 4) 0 0 t else if a = 5 then (fun i => if i < t then nI 0 else Y 5 i) else if a = 6 then (fun i => if i < t then nI 1 else Y 6 i) else Y a
theorem fill_s (g : Nat → Int32) (v : Int32) (t : Nat) : upd (fun i => if i < t then v else g i) t v = fun i => if i < t + 1 then v else g i := by
  funext i
  unfold upd
  by_cases h : i = t
  · subst h; simp
  · simp only [h, if_false]
    by_cases h2 : i < t
    · rw [if_pos h2, if_pos (by omega)]
    · rw [if_neg h2, if_neg (by omega)]
theorem cpy_s0 (f g : Nat → Int32) (k : Nat) : upd (va_cpy f g 0 0 k) k (f k) = va_cpy f g 0 0 (k + 1) := by
  have e := cpy_s f g 0 0 k
  simp only [Nat.zero_add] at e
  exact e
theorem thY_0 (Y : Nat → Nat → Int32) : thY Y 0 = Y := by
  funext a
  unfold thY
  by_cases h2 : a = 2
  · rw [if_pos h2, cpy_0, h2]
  · by_cases h3 : a = 3
    · rw [if_neg h2, if_pos h3, cpy_0, h3]
    · by_cases h4 : a = 4
      · rw [if_neg h2, if_neg h3, if_pos h4, cpy_0, h4]
      · by_cases h5 : a = 5
        · rw [if_neg h2, if_neg h3, if_neg h4, if_pos h5, h5]; funext i; exact if_neg (by omega)
        · by_cases h6 : a = 6
          · rw [if_neg h2, if_neg h3, if_neg h4, if_neg h5, if_pos h6, h6]; funext i; exact if_neg (by omega)
          · rw [if_neg h2, if_neg h3, if_neg h4, if_neg h5, if_neg h6]
theorem thY_s (Y : Nat → Nat → Int32) (t : Nat) : uX (uX (uX (uX (uX (thY Y t) 2 t (Y 9 t)) 3 t (Y 10 t)) 4 t (Y 11 t)) 5 t (nI 0)) 6 t (nI 1) = thY Y (t + 1) := by
  funext a
  by_cases h2 : a = 2
  · subst h2; exact cpy_s0 (Y 9) (Y 2) t
  · by_cases h3 : a = 3
    · subst h3; exact cpy_s0 (Y 10) (Y 3) t
    · by_cases h4 : a = 4
      · subst h4; exact cpy_s0 (Y 11) (Y 4) t
      · by_cases h5 : a = 5
        · subst h5; exact fill_s (Y 5) (nI 0) t
        · by_cases h6 : a = 6
          · subst h6; exact fill_s (Y 6) (nI 1) t
          · simp only [uX, thY, h2, h3, h4, h5, h6, if_false]
def sqY (cl b t : Nat) (Y : Nat → Nat → Int32) : Nat → Nat → Int32 := thY (uY (uY Y 0 (va_cpy (Y 7) (Y 0) 0 0 cl)) 1 (va_cpy (Y 8) (Y 1) 0 0 b)) t
theorem mrV_t {E : Nat → Int32} {len : Nat} {Y : Nat → Nat → Int32} (h : mrV E len Y = true) : sgB E len 0 113 = true ∧ ¬ dgN E len 1 1 6 = 0 ∧ ¬ dgN E len 2 2 7 = 0 ∧ (mR E len (dgN E len 2 2 7) Y (dgN E len 1 1 6 * dgN E len 2 2 7)).1 = true ∧ (mR E len (dgN E len 2 2 7) Y (dgN E len 1 1 6 * dgN E len 2 2 7)).2.1.1 = len := by
  simp only [mrV, Bool.and_eq_true, decide_eq_true_eq] at h
  exact h
theorem mrF_t {E : Nat → Int32} {len : Nat} {Y : Nat → Nat → Int32} {f : Nat → Int32} (h1 : sgB E len 0 113 = true) (h2 : ¬ dgN E len 1 1 6 = 0) (h3 : ¬ dgN E len 2 2 7 = 0) : mrF E len Y f = fR f (mR E len (dgN E len 2 2 7) Y (dgN E len 1 1 6 * dgN E len 2 2 7)).2.1.1 (nI (dgN E len 1 1 6)) (nI (dgN E len 2 2 7)) (mR E len (dgN E len 2 2 7) Y (dgN E len 1 1 6 * dgN E len 2 2 7)).2.1.2.1 (mR E len (dgN E len 2 2 7) Y (dgN E len 1 1 6 * dgN E len 2 2 7)).2.1.2.2 := by
  rw [mrF, if_pos h1, if_neg h2, if_neg h3]
theorem mrY_t {E : Nat → Int32} {len : Nat} {Y : Nat → Nat → Int32} (h1 : sgB E len 0 113 = true) (h2 : ¬ dgN E len 1 1 6 = 0) (h3 : ¬ dgN E len 2 2 7 = 0) : mrY E len Y = (mR E len (dgN E len 2 2 7) Y (dgN E len 1 1 6 * dgN E len 2 2 7)).2.2 := by
  rw [mrY, if_pos h1, if_neg h2, if_neg h3]
/-- the reference's answer, numbers, fields and rows behind square -/
def uSqM (hs : Nat → Bool) (la le : Nat → Nat) (k lane i n : Int32) (E : Nat → Int32) (Y : Nat → Nat → Int32) (f : Nat → Int32) : Int32 := if inB k 4 = true then (if inB lane 3 = true then (if sqN hs la le (xn k) (xn lane) i n = 0 then (if mrV E (xn n) Y = true then nI (dgN E (xn n) 1 1 6 * dgN E (xn n) 2 2 7) else -100 - mrF E (xn n) Y f 14) else -10 - nI (sqN hs la le (xn k) (xn lane) i n)) else -2) else -1
def nSqM (ok : Bool) (E : Nat → Int32) (len : Nat) (Y : Nat → Nat → Int32) (n : Nat → Nat) : Nat → Nat := if ok = true ∧ mrV E len Y = true then nNew (dgN E len 1 1 6) (dgN E len 2 2 7) (mR E len (dgN E len 2 2 7) Y (dgN E len 1 1 6 * dgN E len 2 2 7)).2.1.2.1 (mR E len (dgN E len 2 2 7) Y (dgN E len 1 1 6 * dgN E len 2 2 7)).2.1.2.2 else n
def ySqM (ok : Bool) (E : Nat → Int32) (len : Nat) (Y : Nat → Nat → Int32) : Nat → Nat → Int32 := if ok = true then (if mrV E len Y = true then sqY (dgN E len 1 1 6 * dgN E len 2 2 7) (mR E len (dgN E len 2 2 7) Y (dgN E len 1 1 6 * dgN E len 2 2 7)).2.1.2.1 (mR E len (dgN E len 2 2 7) Y (dgN E len 1 1 6 * dgN E len 2 2 7)).2.1.2.2 (mR E len (dgN E len 2 2 7) Y (dgN E len 1 1 6 * dgN E len 2 2 7)).2.2 else mrY E len Y) else Y
def fSqM (ok : Bool) (E : Nat → Int32) (len : Nat) (Y : Nat → Nat → Int32) (f : Nat → Int32) : Nat → Int32 := if ok = true then mrF E len Y f else f
