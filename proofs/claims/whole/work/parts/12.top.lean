/-! the calls' answers, of the numbers alone -/
def inB (x : Int32) (k : Nat) : Bool := decide (0 ≤ x ∧ x < nI k)
def xn (x : Int32) : Nat := x.toNatClampNeg
theorem xn_nI {j : Nat} (h : j < 2 ^ 31) : xn (nI j) = j := nI_clamp h
theorem inB_t {x : Int32} {k : Nat} (hk : k < 2 ^ 31) (h : inB x k = true) : ∃ j, j < k ∧ x = nI j := by
  have h1 := of_decide_eq_true h
  rcases pk_ix x hk with q | q | q
  · exact absurd h1.1 (Int32.not_le.mpr q)
  · exact absurd h1.2 (Int32.not_lt.mpr q)
  · exact q
theorem inB_nI {j k : Nat} (hk : k < 2 ^ 31) (h : j < k) : inB (nI j) k = true := decide_eq_true ⟨nI_pos' (by omega), nI_lt h hk⟩
def LOSTv : Int64 := -9223372036854775808
def uCellHas (n : Nat → Nat) (A : Nat → Nat → Nat) (c : Int32) : Int32 := if inB c (n 0 * n 1) = true then nI (A 0 (xn c)) else -1
def uOfThing (n : Nat → Nat) (A : Nat → Nat → Nat) (t w : Int32) : Int32 := if inB t (n 3) = true then (if w = 0 then nI (A 2 (xn t)) else if w = 1 then nI (A 3 (xn t)) else if w = 2 then nI (A 4 (xn t)) else if w = 3 then nI (sTall n A (n 4) (xn t)) else if w = 4 then bI (!sThere n (xn t)) else if w = 5 then nI (A 5 (xn t)) else -2) else -1
def uBench (n : Nat → Nat) (A : Nat → Nat → Nat) (b : Int32) : Int32 := if inB b (n 2) = true then nI (A 1 (xn b)) else -1
def uSeen (n : Nat → Nat) (A : Nat → Nat → Nat) (b : Int32) : Int32 := if inB b (n 2) = true then (if 0 < n 6 then nI (sSeen n A (xn b) (n 6 - 1)) else -3) else -1
def uWhole (n : Nat → Nat) (A : Nat → Nat → Nat) : Int32 := if 0 < n 6 then nI (sWhole n A) else -3
def uHidden (n : Nat → Nat) (A : Nat → Nat → Nat) (b : Int32) : Int32 := if inB b (n 2) = true then (if 0 < n 6 then nI (sFoot n A (xn b) (n 4)) else -3) else -1
def sLow (n : Nat → Nat) : Nat := max 1 (4 * n 2)
def uSight (n : Nat → Nat) (A : Nat → Nat → Nat) (w : Int32) : Int64 := if inB w 2 = true then (if 0 < n 6 then (nI ((if w = 0 then sAll n A else sLow n) / Nat.gcd (sAll n A) (sLow n))).toInt64 else LOSTv) else LOSTv
def uBest (n : Nat → Nat) (A : Nat → Nat → Nat) (bl w : Int32) : Int32 := if inB bl 10 = true then (if inB w 2 = true then (if 0 < n 0 * n 1 then (if w = 0 then stI (sBest n A (xn bl) (n 0 * n 1)).1 else nI ((sBest n A (xn bl) (n 0 * n 1)).2 - 1)) else -3) else -2) else -2
def uBlock (n : Nat → Nat) (A : Nat → Nat → Nat) (c w : Int32) : Int32 := if inB c (n 0 * n 1) = true then (if inB w 2 = true then (if A 0 (xn c) = 0 then (if w = 0 then nI ((sLeast n A (xn c) 10).1 - 1) else nI ((sLeast n A (xn c) 10).2 - 1)) else -3) else -2) else -1
def uCuts (n : Nat → Nat) (A : Nat → Nat → Nat) (w : Int32) : Int32 := if inB w 2 = true then (if 0 < n 6 then (if w = 0 then nI (sHid n A) else nI (sCost n A (sHid n A))) else -3) else -2
def uComplaints (n : Nat → Nat) (A : Nat → Nat → Nat) : Int32 := if 0 < n 6 then nI (sComp n A 0 (n 4)) else -3
def uMoved (n : Nat → Nat) (A : Nat → Nat → Nat) (x : Int32) : Int32 := if inB x (2 ^ n 2) = true then (if 0 < n 6 then nI (sMoved n A (xn x)) else -3) else -2
def uYears (n : Nat → Nat) (A : Nat → Nat → Nat) : Int32 := if 0 < n 6 then fyr n A (31 - n 4) (n 4) else -3
def uSecond (n : Nat → Nat) (A : Nat → Nat → Nat) : Int64 := if 0 < n 6 then lN (sSec n A) else LOSTv
def uLit (n : Nat → Nat) (A : Nat → Nat → Nat) (w : Int32) : Int32 := if inB w 2 = true then (if 0 < n 6 then (if w = 0 then nI (sFew n A) else nI (sLits n A)) else -3) else -2
def uMany (n : Nat → Nat) (w : Int32) : Int32 := if w = 0 then nI (n 0 * n 1) else if w = 1 then nI (n 1) else if w = 2 then nI (n 2) else if w = 3 then nI (n 3) else if w = 4 then nI (n 4) else -2
theorem gcd_ret2 {r c k : Nat} (hk : 1 < k) (h1 : r % k = 0) (h2 : c % k = 0) (hno : ∀ j, k < j → j ≤ c → ¬ (r % j = 0 ∧ c % j = 0)) (h0 : 0 < c) : k = Nat.gcd r c := by
  have hd : k ∣ Nat.gcd r c := Nat.dvd_gcd (Nat.dvd_of_mod_eq_zero h1) (Nat.dvd_of_mod_eq_zero h2)
  have hg0 : 0 < Nat.gcd r c := Nat.gcd_pos_of_pos_right _ h0
  have hle : k ≤ Nat.gcd r c := Nat.le_of_dvd hg0 hd
  have hgm : Nat.gcd r c ≤ c := Nat.gcd_le_right r h0
  by_cases he : k = Nat.gcd r c
  · exact he
  · exact absurd ⟨Nat.mod_eq_zero_of_dvd (Nat.gcd_dvd_left r c), Nat.mod_eq_zero_of_dvd (Nat.gcd_dvd_right r c)⟩ (hno _ (by omega) hgm)
theorem gcd_one2 {r c k : Nat} (hk : k ≤ 1) (hno : ∀ j, k < j → j ≤ c → ¬ (r % j = 0 ∧ c % j = 0)) (h0 : 0 < c) : 1 = Nat.gcd r c := by
  have hg0 : 0 < Nat.gcd r c := Nat.gcd_pos_of_pos_right _ h0
  have hgm : Nat.gcd r c ≤ c := Nat.gcd_le_right r h0
  by_cases h : Nat.gcd r c ≤ 1
  · omega
  · exact absurd ⟨Nat.mod_eq_zero_of_dvd (Nat.gcd_dvd_left r c), Nat.mod_eq_zero_of_dvd (Nat.gcd_dvd_right r c)⟩ (hno _ (by omega) hgm)
theorem sAll_le {n : Nat → Nat} {A : Nat → Nat → Nat} (h : n 2 ≤ 12) : sAll n A ≤ 48 := Nat.le_trans (sumN_le (b := 4) (fun i _ => pop4_le _)) (by omega)
theorem bst_snd (fr : Nat → Bool) (ct : Nat → Nat) : ∀ k, ((bst fr ct k).1 = 0 ∧ (bst fr ct k).2 = 0) ∨ (0 < (bst fr ct k).1 ∧ (bst fr ct k).1 ≤ k ∧ (bst fr ct k).2 = ct ((bst fr ct k).1 - 1) + 1)
  | 0 => by simp [bst]
  | k + 1 => by
    have ih := bst_snd fr ct k
    rw [bst]; split
    · right; simp
    · rcases ih with h | h
      · exact Or.inl h
      · exact Or.inr ⟨h.1, by omega, h.2.2⟩
theorem least_snd (n : Nat → Nat) (A : Nat → Nat → Nat) (c : Nat) : 0 < (sLeast n A c 10).1 ∧ (sLeast n A c 10).1 ≤ 10 ∧ (sLeast n A c 10).2 = sCnt n A c ((sLeast n A c 10).1 - 1) + 1 := by
  have h := bst_snd (fun _ => true) (fun bl => sCnt n A c bl) 10
  have h1 : ∀ k, 0 < (bst (fun _ => true) (fun bl => sCnt n A c bl) (k + 1)).1 := by
    intro k
    induction k with
    | zero => simp [bst]
    | succ k ih =>
      rw [bst]; split
      · simp
      · exact ih
  rcases h with h | h
  · exact absurd h.1 (Nat.ne_of_gt (h1 9))
  · exact h
theorem ush_0 {x : Int32} {k : Nat} (hk : k ≤ 12) : (x.toUInt32 >>> ((nI k).toUInt32 &&& Int32.toUInt32 31)).toInt32 = 0 ↔ inB x (2 ^ k) = true := by
  have hs : (((nI k).toUInt32 &&& Int32.toUInt32 31).toBitVec % 32).toNat = k := by
    have h : ∀ k, k ≤ 12 → (((nI k).toUInt32 &&& Int32.toUInt32 31).toBitVec % 32).toNat = k := by decide +kernel
    exact h k hk
  have h1 := pk_ushr x (nI k) k hs
  have hp : 2 ^ k ≤ 2 ^ 12 := Nat.pow_le_pow_right (by decide) hk
  obtain ⟨j, hj, rfl⟩ : ∃ j, j < 2 ^ 32 ∧ x = nI j := ⟨x.toBitVec.toNat, x.toBitVec.isLt, by
    apply Int32.toBitVec_inj.mp
    show _ = BitVec.ofNat 32 _
    simp⟩
  rw [pk_tn hj] at h1
  constructor
  · intro h
    rw [h] at h1
    have e0 : (0 : Int32).toBitVec.toNat = 0 := rfl
    rw [e0] at h1
    have : j < 2 ^ k := by
      rcases Nat.lt_or_ge j (2 ^ k) with q | q
      · exact q
      · have := Nat.div_pos q (Nat.two_pow_pos k); omega
    exact inB_nI (by omega) this
  · intro h
    obtain ⟨i, hi, e⟩ := inB_t (by omega) h
    have : j = i := by
      have := congrArg (fun z => z.toBitVec.toNat) e
      simp only [pk_tn hj, pk_tn (show i < 2 ^ 32 by omega)] at this
      exact this
    subst this
    rw [Nat.div_eq_of_lt hi] at h1
    apply Int32.toBitVec_inj.mp
    apply BitVec.eq_of_toNat_eq
    rw [h1]; rfl
