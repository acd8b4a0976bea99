/-! the reference's world, and what ties its ways to the ground's answers -/
def wM (cI cZ : ClassId) (q : Nat → Nat) (n : Nat → Nat) (mb : Int32) (f : Nat → Int32) (Y : Nat → Nat → Int32) : va_W := [(q 0, .inr (4, [.int (f 0), .int (nI (n 0)), .int (nI (n 1)), .ref (q 1), .int (nI (n 2)), .ref (q 2), .int (nI (n 3)), .ref (q 3), .ref (q 4), .ref (q 5), .ref (q 6), .ref (q 7), .int (nI (n 4)), .int (nI (n 5)), .int (f 14), .int (f 15), .int (f 16), .int (f 17), .int (f 18), .ref (q 8), .ref (q 9), .ref (q 10), .ref (q 11), .ref (q 12), .int (stI (n 6)), .int mb, .ref (q 13), .ref (q 14), .ref (q 15), .ref (q 16), .int (f 30)])), (q 1, .inl (cI, 42, .inl (Y 0))), (q 2, .inl (cI, 12, .inl (Y 1))), (q 3, .inl (cI, 10, .inl (Y 2))), (q 4, .inl (cI, 10, .inl (Y 3))), (q 5, .inl (cI, 10, .inl (Y 4))), (q 6, .inl (cZ, 10, .inl (Y 5))), (q 7, .inl (cI, 10, .inl (Y 6))), (q 8, .inl (cI, 42, .inl (Y 7))), (q 9, .inl (cI, 12, .inl (Y 8))), (q 10, .inl (cI, 10, .inl (Y 9))), (q 11, .inl (cI, 10, .inl (Y 10))), (q 12, .inl (cI, 10, .inl (Y 11))), (q 13, .inl (cI, 4, .inl (Y 12))), (q 14, .inl (cI, 4, .inl (Y 13))), (q 15, .inl (cI, 400, .inl (Y 14))), (q 16, .inl (cI, 100, .inl (Y 15)))]
def RM (n : Nat → Nat) (A : Nat → Nat → Nat) (Y : Nat → Nat → Int32) : Prop := (∀ c, c < n 0 * n 1 → Y 0 c = nI (A 0 c)) ∧ (∀ b, b < n 2 → Y 1 b = nI (A 1 b)) ∧ (∀ t, t < n 3 → Y 2 t = nI (A 2 t) ∧ Y 3 t = nI (A 3 t) ∧ Y 4 t = nI (A 4 t) ∧ Y 5 t = bI ((n 8).testBit t) ∧ Y 6 t = nI (A 5 t))
def inL (v a b : Int64) : Bool := decide (a ≤ v ∧ v ≤ b)
def farI (x y : Int32) : Int32 := if x < y then y - x else x - y
theorem farI_nn {a b : Nat} (ha : a < 2 ^ 31) (hb : b < 2 ^ 31) : farI (nI a) (nI b) = nI (dd a b) := fa_absdiff ha hb
theorem farI_s0 {a b : Nat} (ha : a < 2 ^ 30) (hb : b < 2 ^ 30) : farI (nI a - nI b) (nI 0) = nI (dd a b) := by
  have e := abs_sub ha hb
  unfold farI
  rw [← e]
  have e0 : nI 0 = 0 := rfl
  rw [e0]
  by_cases h : nI a - nI b < 0
  · rw [if_pos h, if_neg (Int32.not_le.mpr h)]
  · rw [if_neg h, if_pos (Int32.not_lt.mp h)]; simp
theorem inL_k {x : Int32} {k : Nat} (hk : k < 2 ^ 31) : inL x.toInt64 0 ((nI k).toInt64 - 1) = inB x k := by
  unfold inL inB
  have h1 : (nI k).toInt64.toInt = (k : Int) := by rw [Int32.toInt_toInt64, nI_toInt hk]
  have h2 : ((nI k).toInt64 - 1).toInt = (k : Int) - 1 := by
    rw [Int64.toInt_sub, h1]
    have : (1 : Int64).toInt = 1 := rfl
    rw [this]
    exact Int.bmod_eq_of_le (by omega) (by omega)
  congr 1
  apply propext
  rw [Int64.le_iff_toInt_le, Int64.le_iff_toInt_le, h2, Int32.toInt_toInt64, Int32.le_iff_toInt_le, Int32.lt_iff_toInt_lt, nI_toInt hk]
  have a0 : (0 : Int64).toInt = 0 := rfl
  have b0 : (0 : Int32).toInt = 0 := rfl
  rw [a0, b0]
  omega
theorem inL_c {x : Int32} {L : Int64} {k : Nat} (hk : k < 2 ^ 31) (hL : L.toInt = (k : Int) - 1) : inL x.toInt64 0 L = inB x k := by
  unfold inL inB
  congr 1
  apply propext
  rw [Int64.le_iff_toInt_le, Int64.le_iff_toInt_le, hL, Int32.toInt_toInt64, Int32.le_iff_toInt_le, Int32.lt_iff_toInt_lt, nI_toInt hk]
  have a0 : (0 : Int64).toInt = 0 := rfl
  have b0 : (0 : Int32).toInt = 0 := rfl
  rw [a0, b0]
  omega
theorem at_eqM {n : Nat → Nat} {f c m : Nat} (hf : f < 42) (hc : c < 42) (hm : m ≤ sSt n f c) (hg : sSt n f c ≤ 6) (hw : n 1 ≤ 7) : nI f + (nI (c / n 1) - nI (f / n 1)) / nI (sSt n f c) * nI m * nI (n 1) + (nI (c % n 1) - nI (f % n 1)) / nI (sSt n f c) * nI m = nI (sAt f c (sSt n f c) m) := by
  obtain ⟨tr, tc, h1, h2⟩ := sSt_div n f c
  have hg0 := sSt_pos n f c
  have ec : (c : Int) = (n 1 : Int) * ((c / n 1 : Nat) : Int) + ((c % n 1 : Nat) : Int) := by
    rw [← Int.natCast_mul, ← Int.natCast_add, Nat.div_add_mod]
  have ef : (f : Int) = (n 1 : Int) * ((f / n 1 : Nat) : Int) + ((f % n 1 : Nat) : Int) := by
    rw [← Int.natCast_mul, ← Int.natCast_add, Nat.div_add_mod]
  have ht : (c : Int) - f = (sSt n f c : Int) * (tr * n 1 + tc) := by
    rw [ec, ef]
    grind
  have hA := sAt_int hg0 hm ht
  have hlt := sAt_le (N := 42) hg0 hm hf hc
  have b1 : c / n 1 ≤ 42 := Nat.le_trans (Nat.div_le_self _ _) (by omega)
  have b2 : f / n 1 ≤ 42 := Nat.le_trans (Nat.div_le_self _ _) (by omega)
  have b3 : c % n 1 ≤ 42 := Nat.le_trans (Nat.mod_le _ _) (by omega)
  have b4 : f % n 1 ≤ 42 := Nat.le_trans (Nat.mod_le _ _) (by omega)
  generalize sSt n f c = g at *
  generalize c / n 1 = c1 at *
  generalize f / n 1 = f1 at *
  generalize c % n 1 = c2 at *
  generalize f % n 1 = f2 at *
  generalize n 1 = w at *
  have bnd : ∀ {x y : Nat} {t : Int}, x ≤ 42 → y ≤ 42 → (x : Int) - y = g * t → -42 ≤ t ∧ t ≤ 42 := by
    intro x y t hx hy h
    constructor
    · rcases Int.lt_or_le t (-42) with q | q
      · have : (g : Int) * t ≤ 1 * t := Int.mul_le_mul_of_nonpos_right (by omega) (by omega)
        omega
      · exact q
    · rcases Int.lt_or_le 42 t with q | q
      · have : 1 * t ≤ (g : Int) * t := Int.mul_le_mul_of_nonneg_right (by omega) (by omega)
        omega
      · exact q
  have r1 := bnd b1 b2 h1
  have r2 := bnd b3 b4 h2
  have tg : (nI g).toInt = (g : Int) := nI_toInt (by omega)
  have tm : (nI m).toInt = (m : Int) := nI_toInt (by omega)
  have tw : (nI w).toInt = (w : Int) := nI_toInt (by omega)
  have td1 : ((nI c1 - nI f1) / nI g).toInt = tr := div_int (by rw [tg]; omega) (by rw [pk_sub_toInt (by omega) (by omega), tg]; exact h1) (by omega) (by omega)
  have td2 : ((nI c2 - nI f2) / nI g).toInt = tc := div_int (by rw [tg]; omega) (by rw [pk_sub_toInt (by omega) (by omega), tg]; exact h2) (by omega) (by omega)
  have m1 : -252 ≤ tr * (m : Int) ∧ tr * (m : Int) ≤ 252 := by
    have a1 : tr * (m : Int) ≤ 42 * (m : Int) := Int.mul_le_mul_of_nonneg_right r1.2 (by omega)
    have a2 : -42 * (m : Int) ≤ tr * (m : Int) := Int.mul_le_mul_of_nonneg_right r1.1 (by omega)
    omega
  have m2 : -252 ≤ tc * (m : Int) ∧ tc * (m : Int) ≤ 252 := by
    have a1 : tc * (m : Int) ≤ 42 * (m : Int) := Int.mul_le_mul_of_nonneg_right r2.2 (by omega)
    have a2 : -42 * (m : Int) ≤ tc * (m : Int) := Int.mul_le_mul_of_nonneg_right r2.1 (by omega)
    omega
  have m3 : -1764 ≤ tr * (m : Int) * w ∧ tr * (m : Int) * w ≤ 1764 := by
    have a1 : tr * (m : Int) * w ≤ 252 * (w : Int) := Int.mul_le_mul_of_nonneg_right m1.2 (by omega)
    have a2 : -252 * (w : Int) ≤ tr * (m : Int) * w := Int.mul_le_mul_of_nonneg_right m1.1 (by omega)
    omega
  have p1 : ((nI c1 - nI f1) / nI g * nI m).toInt = tr * m := by rw [fb_mulI (by rw [td1, tm]; omega) (by rw [td1, tm]; omega), td1, tm]
  have p2 : ((nI c1 - nI f1) / nI g * nI m * nI w).toInt = tr * m * w := by rw [fb_mulI (by rw [p1, tw]; omega) (by rw [p1, tw]; omega), p1, tw]
  have p3 : ((nI c2 - nI f2) / nI g * nI m).toInt = tc * m := by rw [fb_mulI (by rw [td2, tm]; omega) (by rw [td2, tm]; omega), td2, tm]
  have tf : (nI f).toInt = (f : Int) := nI_toInt (by omega)
  have p4 : (nI f + (nI c1 - nI f1) / nI g * nI m * nI w).toInt = f + tr * m * w := by rw [fb_addI (by rw [tf, p2]; omega) (by rw [tf, p2]; omega), tf, p2]
  apply Int32.toInt_inj.mp
  rw [nI_toInt (by omega), fb_addI (by rw [p4, p3]; omega) (by rw [p4, p3]; omega), p4, p3, hA]
  grind
/-- higher lines are hidden by less -/
theorem sBit_sub {n : Nat → Nat} {A : Nat → Nat → Nat} {f c g h h' y m i : Nat} (hh : h ≤ h') (hb : (sBit n A f c g h' y m).testBit i = true) : (sBit n A f c g h y m).testBit i = true := by
  unfold sBit at hb ⊢
  split at hb
  · next q =>
    have hm : m * h ≤ m * h' := Nat.mul_le_mul_left _ hh
    rw [if_pos ⟨q.1, q.2.1, by have := q.2.2; omega⟩]
    exact hb
  · simp at hb
theorem sWay_sub {n : Nat → Nat} {A : Nat → Nat → Nat} {b c h h' y i : Nat} (hh : h ≤ h') (hb : (sWay n A b c h' y).testBit i = true) : (sWay n A b c h y).testBit i = true := by
  unfold sWay at hb ⊢
  rw [orM_bit] at hb ⊢
  obtain ⟨j, hj, hq⟩ := hb
  exact ⟨j, hj, sBit_sub hh hq⟩
theorem zero_of_bits {x : Nat} (h : ∀ i, x.testBit i = false) : x = 0 := Nat.eq_of_testBit_eq (fun i => by rw [h i]; simp)
theorem sWay_zero {n : Nat → Nat} {A : Nat → Nat → Nat} {b c h h' y : Nat} (hh : h ≤ h') (h0 : sWay n A b c h y = 0) : sWay n A b c h' y = 0 := by
  apply zero_of_bits
  intro i
  cases hq : (sWay n A b c h' y).testBit i with
  | false => rfl
  | true => have := sWay_sub hh hq; rw [h0] at this; simp at this
theorem hid_eq (n : Nat → Nat) (A : Nat → Nat → Nat) (b c bl y : Nat) : orM (fun p => sWay n A b c (bl + 1 + 2 * p) y) 4 = sWay n A b c (bl + 1) y := by
  apply Nat.eq_of_testBit_eq
  intro i
  cases hq : (sWay n A b c (bl + 1) y).testBit i with
  | true => rw [orM_bit]; exact ⟨0, by omega, hq⟩
  | false =>
    cases hz : (orM (fun p => sWay n A b c (bl + 1 + 2 * p) y) 4).testBit i with
    | false => rfl
    | true =>
      rw [orM_bit] at hz
      obtain ⟨j, hj, hw⟩ := hz
      have := sWay_sub (h := bl + 1) (by omega) hw
      rw [this] at hq; cases hq
def sSeenB (n : Nat → Nat) (A : Nat → Nat → Nat) (b c bl : Nat) : Nat := orB (fun p => decide (sWay n A b c (bl + 1 + 2 * p) (n 4) = 0)) 4
theorem sSeenB_eq (n : Nat → Nat) (A : Nat → Nat → Nat) (b c : Nat) : sSeenB n A b c (n 7) = sSeen n A b c := orB_cong (fun p _ => by rw [Nat.add_assoc])
theorem sSeenB_lt (n : Nat → Nat) (A : Nat → Nat → Nat) (b c bl : Nat) : sSeenB n A b c bl < 2 ^ 4 := orB_lt _ _
theorem seen15 (n : Nat → Nat) (A : Nat → Nat → Nat) (b c bl : Nat) : sSeenB n A b c bl = 15 ↔ sWay n A b c (bl + 1) (n 4) = 0 := by
  constructor
  · intro h
    have := orB_bit (fun p => decide (sWay n A b c (bl + 1 + 2 * p) (n 4) = 0)) 4 0
    have e : orB (fun p => decide (sWay n A b c (bl + 1 + 2 * p) (n 4) = 0)) 4 = 15 := h
    rw [e] at this
    simpa using this
  · intro h
    have hz : ∀ p, sWay n A b c (bl + 1 + 2 * p) (n 4) = 0 := fun p => sWay_zero (by omega) h
    have : sSeenB n A b c bl = orB (fun _ => true) 4 := orB_cong (fun p _ => decide_eq_true (hz p))
    rw [this]; rfl
def sWholeB (n : Nat → Nat) (A : Nat → Nat → Nat) (c bl : Nat) : Nat := orB (fun b => decide (sWay n A b c (bl + 1) (n 4) = 0)) (n 2)
def popN (s : Nat) : Nat := cntB (fun i => s.testBit i) 16
theorem popN_orB {f : Nat → Bool} {k : Nat} (hk : k ≤ 16) : popN (orB f k) = cntB f k := by
  unfold popN
  have h1 : ∀ m, m ≤ 16 → cntB (fun i => (orB f k).testBit i) m = if m ≤ k then cntB f m else cntB f k := by
    intro m
    induction m with
    | zero => intro _; simp [cntB]
    | succ m ih =>
      intro hm
      have ihm := ih (by omega)
      rw [cntB, ihm, orB_bit]
      by_cases h : m + 1 ≤ k
      · rw [if_pos (by omega), if_pos h, cntB]; simp [show m < k by omega]
      · by_cases h2 : m ≤ k
        · have : m = k := by omega
          subst this
          rw [if_pos h2, if_neg h]; simp
        · rw [if_neg h2, if_neg h]; simp [show ¬ m < k by omega]
  rw [h1 16 (Nat.le_refl _)]
  split
  · have : k = 16 := by omega
    rw [this]
  · rfl
theorem popN_16 {m : Nat} (h : m < 16) : popN m = pop4 m := by
  have : ∀ m, m < 16 → popN m = pop4 m := by decide +kernel
  exact this m h
theorem bit_and1 (s i : Nat) : s / 2 ^ i &&& 1 = if s.testBit i then 1 else 0 := by
  rw [Nat.and_one_is_mod, Nat.testBit_eq_decide_div_mod_eq]
  have := Nat.mod_two_eq_zero_or_one (s / 2 ^ i)
  rcases this with h | h <;> simp [h]
theorem cnt_end {s i : Nat} (hi : i ≤ 16) (h : s / 2 ^ i = 0) : cntB (fun i => s.testBit i) i = popN s := by
  unfold popN
  have hf : ∀ j, i ≤ j → s.testBit j = false := by
    intro j hj
    have hs : s < 2 ^ i := by
      rcases Nat.lt_or_ge s (2 ^ i) with q | q
      · exact q
      · have := Nat.div_pos q (Nat.two_pow_pos i); omega
    exact Nat.testBit_lt_two_pow (Nat.lt_of_lt_of_le hs (Nat.pow_le_pow_right (by decide) hj))
  have : ∀ d, i + d ≤ 16 → cntB (fun i => s.testBit i) (i + d) = cntB (fun i => s.testBit i) i := by
    intro d
    induction d with
    | zero => intro _; rfl
    | succ d ih => intro hd; rw [← Nat.add_assoc, cntB, ih (by omega), hf (i + d) (by omega)]; rfl
  have h2 := this (16 - i) (by omega)
  rw [show i + (16 - i) = 16 by omega] at h2
  exact h2.symm
theorem compB {n : Nat → Nat} {A : Nat → Nat → Nat} (hW : WF n A) (hst : 0 < n 6) : 2 ^ n 2 - 1 &&& (sWholeB n A (n 6 - 1) (n 7) ^^^ 4294967295) = sComp n A 0 (n 4) := by
  have h2 : n 2 ≤ 12 := hW.2.2.1
  show andn (2 ^ n 2 - 1) (orB _ (n 2)) = _
  rw [comp_of (by omega)]
  apply orB_cong
  intro b hb
  have hc : n 6 - 1 < n 0 * n 1 := by have := hW.2.2.2.2.2.2.1; omega
  have hlt := sWay_lt (h := n 7 + 1) (y := n 4) hW hb hc
  have e : andn (sFoot n A b (n 4)) 0 = sFoot n A b (n 4) := andn_zero (Nat.lt_trans hlt (by decide))
  show (!decide (sFoot n A b (n 4) = 0)) = decide (¬ andn (sFoot n A b (n 4)) 0 = 0)
  rw [e]
  by_cases q : sFoot n A b (n 4) = 0 <;> simp [q]
def sLitS (n : Nat → Nat) (A : Nat → Nat → Nat) (s : Nat) : Nat := orM (fun t => if s.testBit t then sLit n A t else 0) (n 3)
theorem sLitS_lt (n : Nat → Nat) (A : Nat → Nat → Nat) (s : Nat) : sLitS n A s < 2 ^ 4 := orM_lt (fun i _ => by
  split
  · exact sLit_lt _ _ _
  · decide)
theorem sLitS_all (n : Nat → Nat) (A : Nat → Nat → Nat) : sLitS n A (2 ^ n 3 - 1) = sLits n A := orM_cong (fun i hi => by rw [Nat.testBit_two_pow_sub_one, decide_eq_true hi]; rfl)
