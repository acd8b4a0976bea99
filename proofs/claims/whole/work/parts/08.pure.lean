/-! pure: sets by bits, counts, the line's cells -/
def orB (f : Nat → Bool) : Nat → Nat
  | 0 => 0
  | k + 1 => orB f k ||| (if f k then 2 ^ k else 0)
def orM (f : Nat → Nat) : Nat → Nat
  | 0 => 0
  | k + 1 => orM f k ||| f k
def cntB (f : Nat → Bool) : Nat → Nat
  | 0 => 0
  | k + 1 => cntB f k + (if f k then 1 else 0)
def sumN (f : Nat → Nat) : Nat → Nat
  | 0 => 0
  | k + 1 => sumN f k + f k
theorem orB_t {f : Nat → Bool} {k : Nat} (h : f k = true) : orB f k ||| 2 ^ k = orB f (k + 1) := by simp [orB, h]
theorem orB_f {f : Nat → Bool} {k : Nat} (h : f k = false) : orB f k = orB f (k + 1) := by simp [orB, h]
theorem orB_lt (f : Nat → Bool) : ∀ k, orB f k < 2 ^ k
  | 0 => by simp [orB]
  | k + 1 => by
    have ih := orB_lt f k
    have h1 : orB f k < 2 ^ (k + 1) := Nat.lt_of_lt_of_le ih (Nat.pow_le_pow_right (by decide) (by omega))
    have h2 : (if f k then 2 ^ k else 0) < 2 ^ (k + 1) := by
      have := Nat.pow_lt_pow_right (a := 2) (by decide) (Nat.lt_succ_self k)
      split
      · exact this
      · exact Nat.two_pow_pos _
    exact Nat.or_lt_two_pow h1 h2
theorem orB_bit (f : Nat → Bool) : ∀ k i, (orB f k).testBit i = (decide (i < k) && f i)
  | 0, i => by simp [orB]
  | k + 1, i => by
    rw [orB, Nat.testBit_or, orB_bit f k i]
    by_cases hi : i = k
    · subst hi
      cases h : f i <;> simp [h, Nat.testBit_two_pow_self]
    · have hk : (if f k then 2 ^ k else 0).testBit i = false := by
        split
        · rw [Nat.testBit_two_pow]; simp; omega
        · simp
      rw [hk, Bool.or_false]
      congr 1
      have : (i < k) = (i < k + 1) := propext ⟨fun h => by omega, fun h => by omega⟩
      simp [this]
theorem orB_cong {f g : Nat → Bool} : ∀ {k : Nat}, (∀ i, i < k → f i = g i) → orB f k = orB g k
  | 0, _ => rfl
  | k + 1, h => by rw [orB, orB, orB_cong (fun i hi => h i (by omega)), h k (by omega)]
theorem orM_lt {f : Nat → Nat} {e : Nat} : ∀ {k : Nat}, (∀ i, i < k → f i < 2 ^ e) → orM f k < 2 ^ e
  | 0, _ => Nat.two_pow_pos _
  | k + 1, h => Nat.or_lt_two_pow (orM_lt (fun i hi => h i (by omega))) (h k (by omega))
theorem orM_bit (f : Nat → Nat) (j : Nat) : ∀ k, (orM f k).testBit j = true ↔ ∃ i, i < k ∧ (f i).testBit j = true
  | 0 => by simp [orM]
  | k + 1 => by
    rw [orM, Nat.testBit_or, Bool.or_eq_true, orM_bit f j k]
    constructor
    · rintro (⟨i, hi, h⟩ | h)
      · exact ⟨i, by omega, h⟩
      · exact ⟨k, by omega, h⟩
    · rintro ⟨i, hi, h⟩
      by_cases hik : i = k
      · subst hik; exact Or.inr h
      · exact Or.inl ⟨i, by omega, h⟩
theorem orM_cong {f g : Nat → Nat} : ∀ {k : Nat}, (∀ i, i < k → f i = g i) → orM f k = orM g k
  | 0, _ => rfl
  | k + 1, h => by rw [orM, orM, orM_cong (fun i hi => h i (by omega)), h k (by omega)]
theorem cntB_le (f : Nat → Bool) : ∀ k, cntB f k ≤ k
  | 0 => Nat.le_refl _
  | k + 1 => by
    have := cntB_le f k
    rw [cntB]; split <;> omega
theorem cntB_t {f : Nat → Bool} {k : Nat} (h : f k = true) : cntB f k + 1 = cntB f (k + 1) := by simp [cntB, h]
theorem cntB_f {f : Nat → Bool} {k : Nat} (h : f k = false) : cntB f k = cntB f (k + 1) := by simp [cntB, h]
theorem cntB_cong {f g : Nat → Bool} : ∀ {k : Nat}, (∀ i, i < k → f i = g i) → cntB f k = cntB g k
  | 0, _ => rfl
  | k + 1, h => by rw [cntB, cntB, cntB_cong (fun i hi => h i (by omega)), h k (by omega)]
theorem sumN_le {f : Nat → Nat} {b : Nat} : ∀ {k : Nat}, (∀ i, i < k → f i ≤ b) → sumN f k ≤ k * b
  | 0, _ => by simp [sumN]
  | k + 1, h => by
    have := sumN_le (k := k) (fun i hi => h i (by omega))
    have h2 := h k (by omega)
    rw [sumN, Nat.succ_mul]; omega
theorem sumN_cong {f g : Nat → Nat} : ∀ {k : Nat}, (∀ i, i < k → f i = g i) → sumN f k = sumN g k
  | 0, _ => rfl
  | k + 1, h => by rw [sumN, sumN, sumN_cong (fun i hi => h i (by omega)), h k (by omega)]
def dd (a b : Nat) : Nat := if a < b then b - a else a - b
theorem dd_comm (a b : Nat) : dd a b = dd b a := by unfold dd; split <;> split <;> omega
theorem dd_le {a b k : Nat} (ha : a ≤ k) (hb : b ≤ k) : dd a b ≤ k := by unfold dd; split <;> omega
theorem abs_sub {a b : Nat} (ha : a < 2 ^ 30) (hb : b < 2 ^ 30) : (if 0 ≤ nI a - nI b then nI a - nI b else 0 - (nI a - nI b)) = nI (dd a b) := by
  have h := pk_sub_toInt ha hb
  unfold dd
  split
  · next h0 =>
    have h1 : (0 : Int32).toInt ≤ (nI a - nI b).toInt := Int32.le_iff_toInt_le.mp h0
    rw [h, show (0 : Int32).toInt = 0 from rfl] at h1
    rw [if_neg (by omega)]
    exact pk_sub (by omega)
  · next h0 =>
    have h1 : (nI a - nI b).toInt < (0 : Int32).toInt := Int32.lt_iff_toInt_lt.mp (Int32.not_le.mp h0)
    rw [h, show (0 : Int32).toInt = 0 from rfl] at h1
    rw [if_pos (by omega)]
    apply Int32.toInt_inj.mp
    rw [nI_toInt (by omega), fb_subI (by rw [h, show (0 : Int32).toInt = 0 from rfl]; omega) (by rw [h, show (0 : Int32).toInt = 0 from rfl]; omega), h, show (0 : Int32).toInt = 0 from rfl]
    omega
theorem max_nI {a b : Nat} (ha : a < 2 ^ 31) (hb : b < 2 ^ 31) : (if nI a < nI b then nI b else nI a) = nI (max a b) := by
  by_cases h : a < b
  · rw [if_pos (nI_lt h hb)]; congr 1; omega
  · rw [if_neg (nI_nlt (by omega) ha)]; congr 1; omega
/-- like steps from one cell's midst to another's -/
def sG (n : Nat → Nat) (f c : Nat) : Nat := Nat.gcd (dd (f / n 1) (c / n 1)) (dd (f % n 1) (c % n 1))
def sSt (n : Nat → Nat) (f c : Nat) : Nat := max 1 (sG n f c)
theorem gcd_ret {r c k : Nat} (hk : 1 < k) (h1 : r % k = 0) (h2 : c % k = 0) (hno : ∀ j, k < j → j ≤ max r c → ¬ (r % j = 0 ∧ c % j = 0)) (h0 : ¬ (r = 0 ∧ c = 0)) : k = max 1 (Nat.gcd r c) := by
  have hd : k ∣ Nat.gcd r c := Nat.dvd_gcd (Nat.dvd_of_mod_eq_zero h1) (Nat.dvd_of_mod_eq_zero h2)
  have hg0 : 0 < Nat.gcd r c := by
    rcases Nat.eq_zero_or_pos (Nat.gcd r c) with h | h
    · exact absurd (Nat.gcd_eq_zero_iff.mp h) h0
    · exact h
  have hle : k ≤ Nat.gcd r c := Nat.le_of_dvd hg0 hd
  have hgm : Nat.gcd r c ≤ max r c := by
    by_cases hr : r = 0
    · subst hr; rw [Nat.gcd_zero_left]; omega
    · have := Nat.gcd_le_left c (Nat.pos_of_ne_zero hr); omega
  by_cases he : k = Nat.gcd r c
  · omega
  · exact absurd ⟨Nat.mod_eq_zero_of_dvd (Nat.gcd_dvd_left r c), Nat.mod_eq_zero_of_dvd (Nat.gcd_dvd_right r c)⟩ (hno _ (by omega) hgm)
theorem gcd_one {r c k : Nat} (hk : k ≤ 1) (hno : ∀ j, k < j → j ≤ max r c → ¬ (r % j = 0 ∧ c % j = 0)) : 1 = max 1 (Nat.gcd r c) := by
  have hgm : Nat.gcd r c ≤ max r c := by
    by_cases hr : r = 0
    · subst hr; rw [Nat.gcd_zero_left]; omega
    · have := Nat.gcd_le_left c (Nat.pos_of_ne_zero hr); omega
  by_cases h : Nat.gcd r c ≤ 1
  · omega
  · exact absurd ⟨Nat.mod_eq_zero_of_dvd (Nat.gcd_dvd_left r c), Nat.mod_eq_zero_of_dvd (Nat.gcd_dvd_right r c)⟩ (hno _ (by omega) hgm)
theorem dd_int {a b g : Nat} (h : g ∣ dd a b) : ∃ t : Int, (b : Int) - a = g * t := by
  obtain ⟨k, hk⟩ := h
  unfold dd at hk
  split at hk
  · exact ⟨k, by rw [← Int.natCast_mul, ← hk]; omega⟩
  · exact ⟨-k, by rw [Int.mul_neg, ← Int.natCast_mul, ← hk]; omega⟩
theorem sSt_div (n : Nat → Nat) (f c : Nat) : ∃ tr tc : Int, ((c / n 1 : Nat) : Int) - ((f / n 1 : Nat) : Int) = (sSt n f c : Int) * tr ∧ ((c % n 1 : Nat) : Int) - ((f % n 1 : Nat) : Int) = (sSt n f c : Int) * tc := by
  by_cases h : 1 ≤ sG n f c
  · have e : sSt n f c = sG n f c := by unfold sSt; omega
    rw [e]
    obtain ⟨t1, h1⟩ := dd_int (a := f / n 1) (b := c / n 1) (g := sG n f c) (Nat.gcd_dvd_left _ _)
    obtain ⟨t2, h2⟩ := dd_int (a := f % n 1) (b := c % n 1) (g := sG n f c) (Nat.gcd_dvd_right _ _)
    exact ⟨t1, t2, h1, h2⟩
  · have e : sSt n f c = 1 := by unfold sSt; omega
    rw [e]
    exact ⟨_, _, (Int.one_mul _).symm, (Int.one_mul _).symm⟩
theorem sSt_div' (n : Nat → Nat) (f c : Nat) : ∃ t : Int, (c : Int) - f = (sSt n f c : Int) * t := by
  obtain ⟨tr, tc, h1, h2⟩ := sSt_div n f c
  refine ⟨tr * n 1 + tc, ?_⟩
  have ec : (c : Int) = (n 1 : Int) * ((c / n 1 : Nat) : Int) + ((c % n 1 : Nat) : Int) := by
    rw [← Int.natCast_mul, ← Int.natCast_add, Nat.div_add_mod]
  have ef : (f : Int) = (n 1 : Int) * ((f / n 1 : Nat) : Int) + ((f % n 1 : Nat) : Int) := by
    rw [← Int.natCast_mul, ← Int.natCast_add, Nat.div_add_mod]
  rw [ec, ef]
  grind
theorem sSt_pos (n : Nat → Nat) (f c : Nat) : 0 < sSt n f c := by unfold sSt; omega
theorem sSt_le {n : Nat → Nat} {f c : Nat} (h0 : n 0 ≤ 6) (h1 : n 1 ≤ 7) (hf : f < n 0 * n 1) (hc : c < n 0 * n 1) : sSt n f c ≤ 6 := by
  have hw : 0 < n 1 := Nat.pos_of_ne_zero fun h => by rw [h] at hf; omega
  have a1 : f / n 1 < n 0 := (Nat.div_lt_iff_lt_mul hw).mpr hf
  have a2 : c / n 1 < n 0 := (Nat.div_lt_iff_lt_mul hw).mpr hc
  have a3 : f % n 1 < n 1 := Nat.mod_lt _ hw
  have a4 : c % n 1 < n 1 := Nat.mod_lt _ hw
  have b1 : dd (f / n 1) (c / n 1) ≤ 5 := dd_le (by omega) (by omega)
  have b2 : dd (f % n 1) (c % n 1) ≤ 6 := dd_le (by omega) (by omega)
  unfold sSt sG
  generalize dd (f / n 1) (c / n 1) = x at *
  generalize dd (f % n 1) (c % n 1) = y at *
  by_cases hx : x = 0
  · subst hx; rw [Nat.gcd_zero_left]; omega
  · have := Nat.gcd_le_left y (Nat.pos_of_ne_zero hx); omega
def sAt (f c g m : Nat) : Nat := (f * (g - m) + c * m) / g
theorem sAt_int {f c g m : Nat} {t : Int} (hg : 0 < g) (hm : m ≤ g) (ht : (c : Int) - f = g * t) : ((sAt f c g m : Nat) : Int) = f + m * t := by
  have e : ((f * (g - m) + c * m : Nat) : Int) = g * (f + m * t) := by
    have h1 : ((g - m : Nat) : Int) = (g : Int) - m := by omega
    rw [Int.natCast_add, Int.natCast_mul, Int.natCast_mul, h1]
    have : (c : Int) = f + g * t := by omega
    rw [this]
    grind
  unfold sAt
  rw [Int.natCast_ediv, e]
  exact Int.mul_ediv_cancel_left _ (by omega)
theorem sAt_le {f c g m : Nat} (hg : 0 < g) (hm : m ≤ g) {N : Nat} (hf : f < N) (hc : c < N) : sAt f c g m < N := by
  unfold sAt
  rw [Nat.div_lt_iff_lt_mul hg]
  have h1 : f * (g - m) ≤ (N - 1) * (g - m) := Nat.mul_le_mul_right _ (by omega)
  have h2 : c * m ≤ (N - 1) * m := Nat.mul_le_mul_right _ (by omega)
  have h3 : (N - 1) * (g - m) + (N - 1) * m = (N - 1) * g := by rw [← Nat.mul_add]; congr 1; omega
  have h4 : (N - 1) * g < N * g := Nat.mul_lt_mul_of_pos_right (by omega) hg
  omega
theorem div_int {x g : Int32} {t : Int} (hg : g.toInt ≠ 0) (h : x.toInt = g.toInt * t) (h1 : -1000 ≤ t) (h2 : t ≤ 1000) : (x / g).toInt = t := by
  rw [Int32.toInt_div, h, Int.mul_tdiv_cancel_left _ hg]
  exact fb_bmod (by omega) (by omega)
theorem at_eq {n : Nat → Nat} {f c m : Nat} (hf : f < 42) (hc : c < 42) (hm : m ≤ sSt n f c) (hg : sSt n f c ≤ 6) : nI f + nI m * ((nI c - nI f) / nI (sSt n f c)) = nI (sAt f c (sSt n f c) m) := by
  obtain ⟨t, ht⟩ := sSt_div' n f c
  have hg0 := sSt_pos n f c
  have hA := sAt_int hg0 hm ht
  have hlt := sAt_le (N := 42) hg0 hm hf hc
  generalize sSt n f c = g at *
  have ti : (nI c - nI f).toInt = (c : Int) - f := pk_sub_toInt (by omega) (by omega)
  have tg : (nI g).toInt = (g : Int) := nI_toInt (by omega)
  have hb : -1000 ≤ t ∧ t ≤ 1000 := by
    constructor
    · rcases Int.lt_or_le t (-1000) with q | q
      · have : (g : Int) * t ≤ 1 * t := Int.mul_le_mul_of_nonpos_right (by omega) (by omega)
        omega
      · exact q
    · rcases Int.lt_or_le 1000 t with q | q
      · have : 1 * t ≤ (g : Int) * t := Int.mul_le_mul_of_nonneg_right (by omega) (by omega)
        omega
      · exact q
  have td : ((nI c - nI f) / nI g).toInt = t := div_int (by rw [tg]; omega) (by rw [ti, tg]; exact ht) hb.1 hb.2
  have tm : (nI m).toInt = (m : Int) := nI_toInt (by omega)
  have hmt : -6000 ≤ (m : Int) * t ∧ (m : Int) * t ≤ 6000 := by omega
  have tp : (nI m * ((nI c - nI f) / nI g)).toInt = (m : Int) * t := by
    rw [fb_mulI (by rw [tm, td]; omega) (by rw [tm, td]; omega), tm, td]
  apply Int32.toInt_inj.mp
  rw [nI_toInt (by omega), fb_addI (by rw [tp, nI_toInt (by omega)]; omega) (by rw [tp, nI_toInt (by omega)]; omega), tp, nI_toInt (by omega), hA]

/-- what a thing on the m-th of g steps hides -/
def sBit (n : Nat → Nat) (A : Nat → Nat → Nat) (f c g h y m : Nat) : Nat := if 10 ≤ A 0 (sAt f c g m) ∧ sThere n (A 0 (sAt f c g m) - 10) = true ∧ 2 * g + m * h ≤ sTall n A y (A 0 (sAt f c g m) - 10) * g + 2 * m then 2 ^ (A 0 (sAt f c g m) - 10) else 0
def sWay (n : Nat → Nat) (A : Nat → Nat → Nat) (b c h y : Nat) : Nat := orM (fun i => sBit n A (A 1 b) c (sSt n (A 1 b) c) h y (i + 1)) (sSt n (A 1 b) c - 1)
theorem sTall_le {n : Nat → Nat} {A : Nat → Nat → Nat} {y t : Nat} (h : A 4 t ≤ 9) (hy : y ≤ 30) : sTall n A y t ≤ 20 := by
  unfold sTall; split
  · omega
  · split <;> split <;> omega
theorem sBit_lt {n : Nat → Nat} {A : Nat → Nat → Nat} {f c g h y m : Nat} (hW : WF n A) (hg : 0 < g) (hm : m ≤ g) (hf : f < n 0 * n 1) (hc : c < n 0 * n 1) : sBit n A f c g h y m < 2 ^ 10 := by
  obtain ⟨w0, w1, w2, w3, w4, w5, w6, w7, w8, wA0, wA1, wA2⟩ := hW
  have := wA0 _ (sAt_le hg hm hf hc)
  unfold sBit; split
  · exact Nat.pow_lt_pow_right (by decide) (by omega)
  · decide
theorem sWay_lt {n : Nat → Nat} {A : Nat → Nat → Nat} {b c h y : Nat} (hW : WF n A) (hb : b < n 2) (hc : c < n 0 * n 1) : sWay n A b c h y < 2 ^ 10 := by
  have hf := hW.2.2.2.2.2.2.2.2.2.2.1 b hb
  exact orM_lt (fun i hi => sBit_lt hW (sSt_pos _ _ _) (by omega) hf hc)
theorem line_lt {T g m h : Nat} (hT : T ≤ 20) (hg : g ≤ 6) (hm : m ≤ 6) (hh : h ≤ 20) : nI (T * g) < nI (2 * g) + nI m * (nI h - nI 2) ↔ T * g + 2 * m < 2 * g + m * h := by
  have a1 : T * g ≤ 20 * 6 := Nat.mul_le_mul hT hg
  have a2 : m * h ≤ 6 * 20 := Nat.mul_le_mul hm hh
  have ts : (nI h - nI 2).toInt = (h : Int) - 2 := pk_sub_toInt (by omega) (by decide)
  have tm : (nI m).toInt = (m : Int) := nI_toInt (by omega)
  have e : (m : Int) * ((h : Int) - 2) = ((m * h : Nat) : Int) - 2 * m := by rw [Int.natCast_mul]; grind
  have tp : (nI m * (nI h - nI 2)).toInt = ((m * h : Nat) : Int) - 2 * m := by
    rw [fb_mulI (by rw [tm, ts, e]; omega) (by rw [tm, ts, e]; omega), tm, ts, e]
  have tq : (nI (2 * g) + nI m * (nI h - nI 2)).toInt = ((2 * g : Nat) : Int) + (((m * h : Nat) : Int) - 2 * m) := by
    rw [fb_addI (by rw [tp, nI_toInt (by omega)]; omega) (by rw [tp, nI_toInt (by omega)]; omega), tp, nI_toInt (by omega)]
  rw [Int32.lt_iff_toInt_lt, nI_toInt (by omega), tq]
  omega
theorem stI_pos {k : Nat} (h : 0 < k) : stI k = nI (k - 1) := by
  cases k with
  | zero => omega
  | succ k => rfl
theorem stI_ne {k : Nat} (h : k ≤ 42) : stI k = -9 ↔ k = 0 := by
  cases k with
  | zero => simp [stI]
  | succ k =>
    simp only [stI]
    constructor
    · intro q
      have := congrArg Int32.toInt q
      rw [nI_toInt (by omega)] at this
      have e : (-9 : Int32).toInt = -9 := rfl
      omega
    · intro q; omega
theorem sAt_lt {n : Nat → Nat} {A : Nat → Nat → Nat} {b c m : Nat} (hW : WF n A) (hb : b < n 2) (hc : c < n 0 * n 1) (hm : m ≤ sSt n (A 1 b) c) : sAt (A 1 b) c (sSt n (A 1 b) c) m < n 0 * n 1 := sAt_le (sSt_pos _ _ _) hm (hW.2.2.2.2.2.2.2.2.2.2.1 b hb) hc
