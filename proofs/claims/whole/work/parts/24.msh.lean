/-! the reference's sheets -/
def szI (h : Bool) (l : Nat) : Int32 := if h = true then nI l else -1
theorem szI_t {h : Bool} {l : Nat} (hh : h = true) : szI h l = nI l := if_pos hh
theorem szI_ge {h : Bool} {l : Nat} (hc : 0 ≤ szI h l) : h = true := by
  cases h
  · exact absurd (show (0 : Int32) ≤ -1 from hc) (by decide)
  · rfl
theorem szI_nge {h : Bool} {l : Nat} (hl : l ≤ 100) (hc : ¬ 0 ≤ szI h l) : h = false := by
  cases h
  · rfl
  · exact absurd (nI_pos' (n := l) (by omega)) hc
theorem szI_lt {h : Bool} {l : Nat} (hl : l ≤ 100) (hc : szI h l < 0) : h = false := by
  cases h
  · rfl
  · exact absurd hc (nI_pos (n := l) (by omega))
theorem szI_nlt {h : Bool} {l : Nat} (hc : ¬ szI h l < 0) : h = true := by
  cases h
  · exact absurd (show szI false l < 0 from (by decide : (-1 : Int32) < 0)) hc
  · rfl
def RS (hs : Nat → Bool) (la le : Nat → Nat) (C : Nat → Nat → Int32) (Y : Nat → Nat → Int32) : Prop := ∀ k, k < 4 → Y 12 k = szI (hs k) (le k) ∧ (hs k = true → Y 13 k = nI (la k)) ∧ (hs k = true → ∀ i, i < le k → Y 14 (100 * k + i) = C k i) ∧ la k ≤ 2 ∧ le k ≤ 100
def uY (Y : Nat → Nat → Int32) (k : Nat) (g : Nat → Int32) : Nat → Nat → Int32 := fun a => if a = k then g else Y a
def zf (g : Nat → Int32) (b n : Nat) : Nat → Int32 := fun i => if b ≤ i ∧ i < b + n then 0 else g i
theorem zf_0 (g : Nat → Int32) (b : Nat) : zf g b 0 = g := by
  funext i; unfold zf; rw [if_neg (by omega)]
theorem zf_s (g : Nat → Int32) (b k : Nat) : upd (zf g b k) (b + k) (nI 0) = zf g b (k + 1) := by
  funext i
  unfold upd zf
  by_cases h : i = b + k
  · subst h; simp; rfl
  · simp only [h, if_false]
    by_cases h2 : b ≤ i ∧ i < b + k
    · rw [if_pos h2, if_pos (by omega)]
    · rw [if_neg h2, if_neg (by omega)]
theorem uX_uY (Y : Nat → Nat → Int32) (k i : Nat) (g : Nat → Int32) (v : Int32) : uX (uY Y k g) k i v = uY Y k (upd g i v) := by
  funext a; unfold uX uY; split <;> simp_all
theorem uY_self (Y : Nat → Nat → Int32) (k : Nat) {g : Nat → Int32} (h : Y k = g) : uY Y k g = Y := by
  funext a; unfold uY; split
  · next e => rw [e, h]
  · rfl
theorem cpy_0 (f g : Nat → Int32) (sp dp : Nat) : va_cpy f g sp dp 0 = g := by
  funext i; unfold va_cpy; rw [if_neg (by omega)]
theorem cpy_s (f g : Nat → Int32) (sp dp k : Nat) : upd (va_cpy f g sp dp k) (dp + k) (f (sp + k)) = va_cpy f g sp dp (k + 1) := by
  funext i
  unfold upd va_cpy
  by_cases h : i = dp + k
  · subst h; simp
  · simp only [h, if_false]
    by_cases h2 : dp ≤ i ∧ i < dp + k
    · rw [if_pos h2, if_pos (by omega)]
    · rw [if_neg h2, if_neg (by omega)]
def ncN (hs : Nat → Bool) (le : Nat → Nat) (j : Nat) (i : Int32) : Nat := if hs j = true then (if inB i (le j) = true then 0 else 3) else 1
theorem ncN_lt (hs : Nat → Bool) (le : Nat → Nat) (j : Nat) (i : Int32) : ncN hs le j i < 2 ^ 31 := by unfold ncN; split <;> (try split) <;> omega
theorem ncN_0 {hs : Nat → Bool} {le : Nat → Nat} {j : Nat} {i : Int32} (h : ncN hs le j i = 0) : hs j = true ∧ inB i (le j) = true := by
  unfold ncN at h
  split at h
  · next q =>
    split at h
    · next r => exact ⟨q, r⟩
    · omega
  · omega
theorem bey {i n : Int32} {le : Nat} (hle : le ≤ 100) : decide (¬ (i < 0 ∨ n.toInt64 < 0 ∨ (nI le).toInt64 < i.toInt64 + n.toInt64)) = spanB i n le := by
  unfold spanB
  congr 1
  apply propext
  have e1 : (i.toInt64 + n.toInt64).toInt = i.toInt + n.toInt := by
    rw [Int64.toInt_add, Int32.toInt_toInt64, Int32.toInt_toInt64]
    have a := fb_rng i
    have b := fb_rng n
    exact Int.bmod_eq_of_le (by omega) (by omega)
  rw [Int32.lt_iff_toInt_lt, Int64.lt_iff_toInt_lt, Int64.lt_iff_toInt_lt, e1, Int32.toInt_toInt64, Int32.toInt_toInt64, nI_toInt (by omega), i0]
  have a0 : (0 : Int64).toInt = 0 := rfl
  rw [a0]
  omega
