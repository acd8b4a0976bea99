/-! a TEXT, read: codes E, how many len -/
def cdT (E : Nat → Int32) (len p : Nat) : Int32 := if p < len then E p else -1
def cdM (E : Nat → Int32) (len p : Nat) : Int32 := if p < len then E p else -9
def sgB (E : Nat → Int32) (len p sg : Nat) : Bool := decide (p < len ∧ E p = nI sg)
theorem cd_eq {E : Nat → Int32} {len p sg : Nat} (hs : sg < 2 ^ 31) : cdT E len p = nI sg ↔ sgB E len p sg = true := by
  unfold cdT sgB
  by_cases h : p < len
  · simp [h]
  · simp only [h, if_false, false_and, decide_false]
    constructor
    · intro e
      have := congrArg Int32.toInt e
      rw [nI_toInt hs] at this
      have e1 : (-1 : Int32).toInt = -1 := rfl
      omega
    · intro e; cases e
theorem cdM_eq {E : Nat → Int32} {len p sg : Nat} (hs : sg < 2 ^ 31) : cdM E len p = nI sg ↔ sgB E len p sg = true := by
  unfold cdM sgB
  by_cases h : p < len
  · simp [h]
  · simp only [h, if_false, false_and, decide_false]
    constructor
    · intro e
      have := congrArg Int32.toInt e
      rw [nI_toInt hs] at this
      have e1 : (-9 : Int32).toInt = -9 := rfl
      omega
    · intro e; cases e
def dgN (E : Nat → Int32) (len p lo hi : Nat) : Nat := if p < len ∧ nI lo ≤ E p - nI 48 ∧ E p - nI 48 ≤ nI hi then xn (E p - nI 48) else 0
def dgI (d : Nat) : Int32 := if d = 0 then -9 else nI d
theorem dgN_le {E : Nat → Int32} {len p lo hi : Nat} (hh : hi < 2 ^ 31) : dgN E len p lo hi ≤ hi := by
  unfold dgN; split
  · next h =>
    have h2 := Int32.le_iff_toInt_le.mp h.2.2
    rw [nI_toInt hh] at h2
    show (E p - nI 48).toInt.toNat ≤ hi
    omega
  · omega
theorem dgN_ge {E : Nat → Int32} {len p lo hi : Nat} (hl : lo < 2 ^ 31) (h : dgN E len p lo hi ≠ 0) : lo ≤ dgN E len p lo hi := by
  unfold dgN at h ⊢; split at h
  · next q =>
    rw [if_pos q]
    have h1 := Int32.le_iff_toInt_le.mp q.2.1
    rw [nI_toInt hl] at h1
    show lo ≤ (E p - nI 48).toInt.toNat
    omega
  · exact absurd rfl h
theorem dg_yes {E : Nat → Int32} {len p lo hi : Nat} (hl : lo < 2 ^ 31) (h0 : 0 < lo) (hh : hi < 2 ^ 31) (hp : p < len) (h1 : nI lo ≤ E p - nI 48) (h2 : E p - nI 48 ≤ nI hi) : dgN E len p lo hi ≠ 0 ∧ E p - nI 48 = nI (dgN E len p lo hi) := by
  unfold dgN
  rw [if_pos ⟨hp, h1, h2⟩]
  have a := Int32.le_iff_toInt_le.mp h1
  have b := Int32.le_iff_toInt_le.mp h2
  rw [nI_toInt hl] at a
  rw [nI_toInt hh] at b
  have e : xn (E p - nI 48) = (E p - nI 48).toInt.toNat := rfl
  constructor
  · rw [e]; omega
  · apply Int32.toInt_inj.mp
    rw [e, nI_toInt (by omega)]
    omega
theorem dg_no {E : Nat → Int32} {len p lo hi : Nat} (h : ¬ (p < len ∧ nI lo ≤ E p - nI 48 ∧ E p - nI 48 ≤ nI hi)) : dgN E len p lo hi = 0 := if_neg h
/-- what a cell's sign is: 1 nothing, 2 a bench, 3 lamp, 4 urn, 5 tree, 0 none -/
def knd (E : Nat → Int32) (len p : Nat) : Nat := if sgB E len p 46 = true then 1 else if sgB E len p 98 = true then 2 else if sgB E len p 108 = true then 3 else if sgB E len p 117 = true then 4 else if sgB E len p 116 = true then 5 else 0
def tcO (E : Nat → Int32) (len p be th : Nat) : Bool := if knd E len p = 1 then true else if knd E len p = 2 then decide (¬ be = 12) else if knd E len p = 0 then false else decide (¬ th = 10 ∧ ¬ dgN E len (p + 1) 1 9 = 0)
def tcP (E : Nat → Int32) (len p be th : Nat) : Nat := if knd E len p = 1 then p + 1 else if knd E len p = 2 then (if be = 12 then p else p + 1) else if knd E len p = 0 then p else (if th = 10 then p else if dgN E len (p + 1) 1 9 = 0 then p + 1 else p + 2)
def tcB (E : Nat → Int32) (len p be : Nat) : Nat := if knd E len p = 2 ∧ ¬ be = 12 then be + 1 else be
def tcT (E : Nat → Int32) (len p th : Nat) : Nat := if 3 ≤ knd E len p ∧ ¬ th = 10 then th + 1 else th
def tcD (E : Nat → Int32) (len p th c : Nat) (D : Nat → Int32) : Nat → Int32 := if 3 ≤ knd E len p ∧ ¬ th = 10 then upd D c (dgI (dgN E len (p + 1) 1 9)) else D
abbrev TS : Type := Bool × (Nat × Nat × Nat) × ((Nat → Int32) × (Nat → Int32))
def tR (E : Nat → Int32) (len wi : Nat) (S D : Nat → Int32) : Nat → TS
  | 0 => (true, (3, 0, 0), (S, D))
  | m + 1 =>
    let s := tR E len wi S D m
    if s.1 = false then s else
    if m % wi = 0 ∧ sgB E len s.2.1.1 59 = false then (false, s.2) else
    let p := if m % wi = 0 then s.2.1.1 + 1 else s.2.1.1
    (tcO E len p s.2.1.2.1 s.2.1.2.2, (tcP E len p s.2.1.2.1 s.2.1.2.2, tcB E len p s.2.1.2.1, tcT E len p s.2.1.2.2), (upd s.2.2.1 m (cdT E len p), tcD E len p s.2.1.2.2 m s.2.2.2))
theorem tR_stop {E : Nat → Int32} {len wi : Nat} {S D : Nat → Int32} {m : Nat} (h : (tR E len wi S D m).1 = false) : ∀ k, tR E len wi S D (m + k) = tR E len wi S D m
  | 0 => rfl
  | k + 1 => by
    have ih := tR_stop h k
    rw [← Nat.add_assoc, tR, ih]
    simp [h]
theorem tR_stop' {E : Nat → Int32} {len wi : Nat} {S D : Nat → Int32} {m M : Nat} (h : (tR E len wi S D m).1 = false) (hm : m ≤ M) : tR E len wi S D M = tR E len wi S D m := by
  have := tR_stop h (M - m)
  rwa [show m + (M - m) = M by omega] at this
theorem tR_cnt (E : Nat → Int32) (len wi : Nat) (S D : Nat → Int32) : ∀ m, (tR E len wi S D m).2.1.2.1 ≤ 12 ∧ (tR E len wi S D m).2.1.2.2 ≤ 10 ∧ (tR E len wi S D m).2.1.1 ≤ 3 * m + 3
  | 0 => by simp [tR]
  | m + 1 => by
    have ih := tR_cnt E len wi S D m
    rw [tR]
    simp only []
    split
    · omega
    · split
      · simp only []; omega
      · simp only [tcB, tcT, tcP]
        generalize (tR E len wi S D m).2.1.2.1 = b at *
        generalize (tR E len wi S D m).2.1.2.2 = t at *
        generalize (tR E len wi S D m).2.1.1 = p at *
        have hp : (if m % wi = 0 then p + 1 else p) ≤ p + 1 := by split <;> omega
        generalize (if m % wi = 0 then p + 1 else p) = p1 at *
        refine ⟨by split <;> omega, by split <;> omega, ?_⟩
        repeat' split
        all_goals omega
/-- the reader's world -/
def wT (cI : ClassId) (t : Nat → Nat) (hi wi : Int32) (len pl be th : Nat) (S D E : Nat → Int32) : va_W := [(t 0, .inr (2, [.ref (t 1), .ref (t 2), .int hi, .int wi, .ref (t 3), .int (nI len), .int (nI pl), .int (nI be), .int (nI th)])), (t 1, .inl (cI, 42, .inl S)), (t 2, .inl (cI, 42, .inl D)), (t 3, .inl (cI, 100, .inl E))]
theorem dg_lt {E : Nat → Int32} {len p lo hi : Nat} (h : cdT E len p - nI 48 < nI lo) : dgN E len p lo hi = 0 := dg_no (fun q => by
  unfold cdT at h
  rw [if_pos q.1] at h
  exact absurd h (Int32.not_lt.mpr q.2.1))
theorem dg_gt {E : Nat → Int32} {len p lo hi : Nat} (h : ¬ cdT E len p - nI 48 ≤ nI hi) : dgN E len p lo hi = 0 := dg_no (fun q => by
  unfold cdT at h
  rw [if_pos q.1] at h
  exact h q.2.2)
theorem dg_ok {E : Nat → Int32} {len p lo hi : Nat} (hl : lo < 2 ^ 31) (h0 : 0 < lo) (hh : hi < 2 ^ 31) (h1 : ¬ cdT E len p - nI 48 < nI lo) (h2 : cdT E len p - nI 48 ≤ nI hi) : dgN E len p lo hi ≠ 0 ∧ cdT E len p - nI 48 = nI (dgN E len p lo hi) := by
  by_cases hp : p < len
  · have e : cdT E len p = E p := if_pos hp
    rw [e] at h1 h2 ⊢
    exact dg_yes hl h0 hh hp (Int32.not_lt.mp h1) h2
  · have e : cdT E len p = -1 := if_neg hp
    rw [e] at h1
    exfalso
    apply h1
    apply Int32.lt_iff_toInt_lt.mpr
    rw [nI_toInt hl]
    have e1 : ((-1 : Int32) - nI 48).toInt = -49 := by decide
    omega
theorem dI_eq {d : Nat} (hd : d < 2 ^ 31) : dgI d = -9 ↔ d = 0 := by
  unfold dgI
  constructor
  · intro h
    by_cases e : d = 0
    · exact e
    · rw [if_neg e] at h
      have := congrArg Int32.toInt h
      rw [nI_toInt hd] at this
      have e1 : (-9 : Int32).toInt = -9 := rfl
      omega
  · intro h; rw [if_pos h]
theorem dI_nz {d : Nat} (h : ¬ d = 0) : dgI d = nI d := if_neg h
theorem knd_g {E : Nat → Int32} {len p : Nat} {x : Int32} (hx : ∀ sg, sg < 2 ^ 31 → (x = nI sg ↔ sgB E len p sg = true)) : (x = nI 46 ∧ knd E len p = 1) ∨ (x = nI 98 ∧ knd E len p = 2) ∨ (x = nI 108 ∧ knd E len p = 3) ∨ (x = nI 117 ∧ knd E len p = 4) ∨ (x = nI 116 ∧ knd E len p = 5) ∨ ((¬ x = nI 46 ∧ ¬ x = nI 98 ∧ ¬ x = nI 108 ∧ ¬ x = nI 117 ∧ ¬ x = nI 116) ∧ knd E len p = 0) := by
  unfold knd
  by_cases h1 : sgB E len p 46 = true
  · exact Or.inl ⟨(hx 46 (by decide)).mpr h1, if_pos h1⟩
  by_cases h2 : sgB E len p 98 = true
  · exact Or.inr (Or.inl ⟨(hx 98 (by decide)).mpr h2, by rw [if_neg h1, if_pos h2]⟩)
  by_cases h3 : sgB E len p 108 = true
  · exact Or.inr (Or.inr (Or.inl ⟨(hx 108 (by decide)).mpr h3, by rw [if_neg h1, if_neg h2, if_pos h3]⟩))
  by_cases h4 : sgB E len p 117 = true
  · exact Or.inr (Or.inr (Or.inr (Or.inl ⟨(hx 117 (by decide)).mpr h4, by rw [if_neg h1, if_neg h2, if_neg h3, if_pos h4]⟩)))
  by_cases h5 : sgB E len p 116 = true
  · exact Or.inr (Or.inr (Or.inr (Or.inr (Or.inl ⟨(hx 116 (by decide)).mpr h5, by rw [if_neg h1, if_neg h2, if_neg h3, if_neg h4, if_pos h5]⟩))))
  · exact Or.inr (Or.inr (Or.inr (Or.inr (Or.inr ⟨⟨mt (hx 46 (by decide)).mp h1, mt (hx 98 (by decide)).mp h2, mt (hx 108 (by decide)).mp h3, mt (hx 117 (by decide)).mp h4, mt (hx 116 (by decide)).mp h5⟩, by rw [if_neg h1, if_neg h2, if_neg h3, if_neg h4, if_neg h5]⟩))))
theorem rk_mod {r k wi : Nat} (h : k < wi) : (r * wi + k) % wi = k := by
  rw [Nat.add_comm, Nat.add_mul_mod_self_right, Nat.mod_eq_of_lt h]
theorem tR_semi {E : Nat → Int32} {len wi r : Nat} {S D : Nat → Int32} (hw : 0 < wi) (hok : (tR E len wi S D (r * wi)).1 = true) (h : sgB E len (tR E len wi S D (r * wi)).2.1.1 59 = false) : tR E len wi S D (r * wi + 1) = (false, (tR E len wi S D (r * wi)).2) := by
  rw [tR]
  have e : r * wi % wi = 0 := Nat.mul_mod_left r wi
  simp only [hok, e, h]
  rfl
theorem tR_go {E : Nat → Int32} {len wi r k : Nat} {S D : Nat → Int32} (hk : k < wi) (hok : (tR E len wi S D (r * wi + k)).1 = true) (hsg : k = 0 → sgB E len (tR E len wi S D (r * wi + k)).2.1.1 59 = true) : tR E len wi S D (r * wi + k + 1) = (tcO E len (if k = 0 then (tR E len wi S D (r * wi + k)).2.1.1 + 1 else (tR E len wi S D (r * wi + k)).2.1.1) (tR E len wi S D (r * wi + k)).2.1.2.1 (tR E len wi S D (r * wi + k)).2.1.2.2, (tcP E len (if k = 0 then (tR E len wi S D (r * wi + k)).2.1.1 + 1 else (tR E len wi S D (r * wi + k)).2.1.1) (tR E len wi S D (r * wi + k)).2.1.2.1 (tR E len wi S D (r * wi + k)).2.1.2.2, tcB E len (if k = 0 then (tR E len wi S D (r * wi + k)).2.1.1 + 1 else (tR E len wi S D (r * wi + k)).2.1.1) (tR E len wi S D (r * wi + k)).2.1.2.1, tcT E len (if k = 0 then (tR E len wi S D (r * wi + k)).2.1.1 + 1 else (tR E len wi S D (r * wi + k)).2.1.1) (tR E len wi S D (r * wi + k)).2.1.2.2), (upd (tR E len wi S D (r * wi + k)).2.2.1 (r * wi + k) (cdT E len (if k = 0 then (tR E len wi S D (r * wi + k)).2.1.1 + 1 else (tR E len wi S D (r * wi + k)).2.1.1)), tcD E len (if k = 0 then (tR E len wi S D (r * wi + k)).2.1.1 + 1 else (tR E len wi S D (r * wi + k)).2.1.1) (tR E len wi S D (r * wi + k)).2.1.2.2 (r * wi + k) (tR E len wi S D (r * wi + k)).2.2.2)) := by
  rw [tR]
  have e : (r * wi + k) % wi = k := rk_mod hk
  rw [e]
  have hn : ¬ (k = 0 ∧ sgB E len (tR E len wi S D (r * wi + k)).2.1.1 59 = false) := fun q => by
    have := hsg q.1
    rw [q.2] at this
    cases this
  simp only [hok, hn]
  rfl
/-- the reader as a pack: high, wide; length, place, benches, things; signs, digits, codes -/
abbrev RD : Type := (Int32 × Int32) × (Nat × Nat × Nat × Nat) × ((Nat → Int32) × (Nat → Int32) × (Nat → Int32))
def wTd (cI : ClassId) (t : Nat → Nat) (x : RD) : va_W := wT cI t x.1.1 x.1.2 x.2.1.1 x.2.1.2.1 x.2.1.2.2.1 x.2.1.2.2.2 x.2.2.1 x.2.2.2.1 x.2.2.2.2
/-- what reading answers: -1 well, or the place -/
def rdV (E : Nat → Int32) (len : Nat) (S D : Nat → Int32) : Int32 :=
  if sgB E len 0 113 = true then
    (if dgN E len 1 1 6 = 0 then nI 1 else if dgN E len 2 2 7 = 0 then nI 2 else
      if (tR E len (dgN E len 2 2 7) S D (dgN E len 1 1 6 * dgN E len 2 2 7)).1 = true ∧ (tR E len (dgN E len 2 2 7) S D (dgN E len 1 1 6 * dgN E len 2 2 7)).2.1.1 = len then -1 else nI (tR E len (dgN E len 2 2 7) S D (dgN E len 1 1 6 * dgN E len 2 2 7)).2.1.1)
  else nI 0
def rdX (E : Nat → Int32) (len : Nat) (S D : Nat → Int32) (hi wi : Int32) : RD :=
  if sgB E len 0 113 = true then
    (if dgN E len 1 1 6 = 0 then ((dgI (dgN E len 1 1 6), wi), (len, 1, 0, 0), (S, D, E)) else if dgN E len 2 2 7 = 0 then ((dgI (dgN E len 1 1 6), dgI (dgN E len 2 2 7)), (len, 2, 0, 0), (S, D, E)) else
      ((nI (dgN E len 1 1 6), nI (dgN E len 2 2 7)), (len, (tR E len (dgN E len 2 2 7) S D (dgN E len 1 1 6 * dgN E len 2 2 7)).2.1.1, (tR E len (dgN E len 2 2 7) S D (dgN E len 1 1 6 * dgN E len 2 2 7)).2.1.2.1, (tR E len (dgN E len 2 2 7) S D (dgN E len 1 1 6 * dgN E len 2 2 7)).2.1.2.2), ((tR E len (dgN E len 2 2 7) S D (dgN E len 1 1 6 * dgN E len 2 2 7)).2.2.1, (tR E len (dgN E len 2 2 7) S D (dgN E len 1 1 6 * dgN E len 2 2 7)).2.2.2, E)))
  else ((hi, wi), (len, 0, 0, 0), (S, D, E))
