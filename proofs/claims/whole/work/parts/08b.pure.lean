/-! the ground's answers -/
def andn (w wo : Nat) : Nat := w &&& (wo ^^^ 4294967295)
theorem nI_xor (a b : Nat) : nI a ^^^ nI b = nI (a ^^^ b) := fb_xorI a b
theorem m1_nI : (-1 : Int32) = nI 4294967295 := by decide
theorem andn_bit {w wo i : Nat} (hi : i < 32) : (andn w wo).testBit i = (w.testBit i && !wo.testBit i) := by
  unfold andn
  rw [Nat.testBit_and, Nat.testBit_xor, show (4294967295 : Nat) = 2 ^ 32 - 1 from rfl, Nat.testBit_two_pow_sub_one]
  simp [hi]
theorem andn_lt {w wo e : Nat} (h : w < 2 ^ e) : andn w wo < 2 ^ e := Nat.lt_of_le_of_lt Nat.and_le_left h
theorem andn_zero {w : Nat} (h : w < 2 ^ 32) : andn w 0 = w := by
  unfold andn
  rw [Nat.zero_xor, show (4294967295 : Nat) = 2 ^ 32 - 1 from rfl, Nat.and_two_pow_sub_one_eq_mod, Nat.mod_eq_of_lt h]
def pop4 (m : Nat) : Nat := m % 2 + m / 2 % 2 + m / 4 % 2 + m / 8 % 2
theorem pop4_le (m : Nat) : pop4 m ≤ 4 := by unfold pop4; omega
def sSeen (n : Nat → Nat) (A : Nat → Nat → Nat) (b c : Nat) : Nat := orB (fun p => decide (sWay n A b c (n 7 + (1 + 2 * p)) (n 4) = 0)) 4
theorem sSeen_lt (n : Nat → Nat) (A : Nat → Nat → Nat) (b c : Nat) : sSeen n A b c < 2 ^ 4 := orB_lt _ _
def sAll (n : Nat → Nat) (A : Nat → Nat → Nat) : Nat := sumN (fun b => pop4 (sSeen n A b (n 6 - 1))) (n 2)
def sFoot (n : Nat → Nat) (A : Nat → Nat → Nat) (b y : Nat) : Nat := sWay n A b (n 6 - 1) (n 7 + 1) y
def sHid (n : Nat → Nat) (A : Nat → Nat → Nat) : Nat := orM (fun b => sFoot n A b (n 4)) (n 2)
def sCost (n : Nat → Nat) (A : Nat → Nat → Nat) (ts : Nat) : Nat := sumN (fun t => if ts.testBit t then A 5 t else 0) (n 3)
def sComp (n : Nat → Nat) (A : Nat → Nat → Nat) (wo y : Nat) : Nat := orB (fun b => decide (¬ andn (sFoot n A b y) wo = 0)) (n 2)
def sWhole (n : Nat → Nat) (A : Nat → Nat → Nat) : Nat := orB (fun b => decide (sFoot n A b (n 4) = 0)) (n 2)
def sCnt (n : Nat → Nat) (A : Nat → Nat → Nat) (c bl : Nat) : Nat := cntB (fun b => decide (sWay n A b c (bl + 1) (n 4) = 0)) (n 2)
def bst (fr : Nat → Bool) (ct : Nat → Nat) : Nat → Nat × Nat
  | 0 => (0, 0)
  | k + 1 => if fr k = true ∧ (bst fr ct k).2 < ct k + 1 then (k + 1, ct k + 1) else bst fr ct k
def pI : Nat → Int32
  | 0 => -1
  | k + 1 => nI k
def sBest (n : Nat → Nat) (A : Nat → Nat → Nat) (bl : Nat) : Nat → Nat × Nat := bst (fun c => decide (A 0 c = 0)) (fun c => sCnt n A c bl)
def sLeast (n : Nat → Nat) (A : Nat → Nat → Nat) (c : Nat) : Nat → Nat × Nat := bst (fun _ => true) (fun bl => sCnt n A c bl)
def sMoved (n : Nat → Nat) (A : Nat → Nat → Nat) (told : Nat) : Nat := orB (fun t => sThere n t && decide (sComp n A (2 ^ t) (n 4) = told)) (n 3)
def fyr (n : Nat → Nat) (A : Nat → Nat → Nat) : Nat → Nat → Int32
  | 0, _ => -9
  | k + 1, y => if sComp n A 0 y = 0 then fyr n A k (y + 1) else nI y
def sAny (n : Nat → Nat) (A : Nat → Nat → Nat) (bs c : Nat) : Nat := orB (fun b => bs.testBit b && decide (¬ sSeen n A b c = 0)) (n 2)
def sSec (n : Nat → Nat) (A : Nat → Nat → Nat) : Nat := orB (fun c => decide (A 0 c = 0) && (decide (¬ c = n 6 - 1) && decide (sAny n A (sWhole n A) c = 0))) (n 0 * n 1)
def sLitP (n : Nat → Nat) (A : Nat → Nat → Nat) (t : Nat) : Nat := orB (fun p => decide (n 7 + (1 + 2 * p) ≤ sTall n A (n 4) t)) 4
def sLit (n : Nat → Nat) (A : Nat → Nat → Nat) (t : Nat) : Nat := if A 2 t = 0 ∧ sThere n t = true ∧ dd (A 3 t / n 1) ((n 6 - 1) / n 1) ≤ 3 ∧ dd (A 3 t % n 1) ((n 6 - 1) % n 1) ≤ 3 then sLitP n A t else 0
theorem sLit_lt (n : Nat → Nat) (A : Nat → Nat → Nat) (t : Nat) : sLit n A t < 2 ^ 4 := by
  unfold sLit; split
  · exact orB_lt _ _
  · decide
def sLits (n : Nat → Nat) (A : Nat → Nat → Nat) : Nat := orM (sLit n A) (n 3)
def fstB (p : Nat → Bool) : Nat → Nat
  | 0 => 0
  | k + 1 => if fstB p k = 0 then (if p k then k + 1 else 0) else fstB p k
def p2 : Nat → Nat
  | 0 => 0
  | t + 1 => 2 ^ t
def sFew (n : Nat → Nat) (A : Nat → Nat → Nat) : Nat := if sLits n A = 0 then 0 else p2 (fstB (fun t => decide (sLit n A t = sLits n A)) (n 3))
theorem fstB_no {p : Nat → Bool} : ∀ {k : Nat}, (∀ j, j < k → p j = false) → fstB p k = 0
  | 0, _ => rfl
  | k + 1, h => by simp [fstB, fstB_no (k := k) (fun j hj => h j (by omega)), h k (by omega)]
theorem fstB_yes {p : Nat → Bool} {k : Nat} (h : ∀ j, j < k → p j = false) (hk : p k = true) : ∀ {m : Nat}, k < m → fstB p m = k + 1
  | 0, hm => by omega
  | m + 1, hm => by
    by_cases e : k = m
    · subst e; simp [fstB, fstB_no h, hk]
    · simp [fstB, fstB_yes h hk (m := m) (by omega)]
theorem orB_ne {f : Nat → Bool} {k m : Nat} (h : f k = true) (hk : k < m) : ¬ orB f m = 0 := by
  intro e
  have := orB_bit f m k
  rw [e, h] at this
  simp at this
  omega
theorem comp_of {f : Nat → Bool} {k : Nat} (hk : k < 32) : andn (2 ^ k - 1) (orB f k) = orB (fun b => !f b) k := by
  apply Nat.eq_of_testBit_eq
  intro i
  by_cases hi : i < 32
  · rw [andn_bit hi, orB_bit, orB_bit, Nat.testBit_two_pow_sub_one]
    by_cases h : i < k <;> simp [h]
  · have h1 : andn (2 ^ k - 1) (orB f k) < 2 ^ i := Nat.lt_of_lt_of_le (andn_lt (e := k) (by have := Nat.two_pow_pos k; omega)) (Nat.pow_le_pow_right (by decide) (by omega))
    have h2 : orB (fun b => !f b) k < 2 ^ i := Nat.lt_of_lt_of_le (orB_lt _ k) (Nat.pow_le_pow_right (by decide) (by omega))
    rw [Nat.testBit_lt_two_pow h1, Nat.testBit_lt_two_pow h2]
theorem bst_le {fr : Nat → Bool} {ct : Nat → Nat} {b : Nat} (h : ∀ k, ct k ≤ b) : ∀ k, (bst fr ct k).1 ≤ k ∧ (bst fr ct k).2 ≤ b + 1
  | 0 => by simp [bst]
  | k + 1 => by
    have ih := bst_le (fr := fr) h k
    have := h k
    rw [bst]; split
    · simp; omega
    · omega
theorem pI_lt {a b : Nat} (ha : a < 2 ^ 31) (hb : b < 2 ^ 31) : nI a ≤ pI b ↔ a + 1 ≤ b := by
  cases b with
  | zero =>
    constructor
    · intro h
      have h1 := Int32.le_iff_toInt_le.mp h
      rw [nI_toInt ha] at h1
      have e : (pI 0).toInt = -1 := rfl
      omega
    · intro h; omega
  | succ b => rw [show pI (b + 1) = nI b from rfl, nI_leI ha (by omega)]; omega
theorem sCnt_le (n : Nat → Nat) (A : Nat → Nat → Nat) (c bl : Nat) : sCnt n A c bl ≤ n 2 := cntB_le _ _
theorem fyr_end {n : Nat → Nat} {A : Nat → Nat → Nat} {k : Nat} (y : Nat) (h : k = 0) : (-9 : Int32) = fyr n A k y := by subst h; rfl
