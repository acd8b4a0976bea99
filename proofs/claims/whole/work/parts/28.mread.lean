/-! the reference reads a TEXT -/
def fR (f : Nat → Int32) (p : Nat) (h w : Int32) (be th : Nat) : Nat → Int32 := fun k => if k = 14 then nI p else if k = 15 then h else if k = 16 then w else if k = 17 then nI be else if k = 18 then nI th else f k
theorem tr64 (a b : Int32) : a.toInt64 ≤ b.toInt64 ↔ a ≤ b := by rw [Int64.le_iff_toInt_le, Int32.toInt_toInt64, Int32.toInt_toInt64, Int32.le_iff_toInt_le]
theorem figL {E : Nat → Int32} {ln p lo up : Nat} (hl : lo < 2 ^ 31) (h0 : 0 < lo) (hu : up < 2 ^ 31) : inL (cdM E ln p - nI 48).toInt64 (nI lo).toInt64 (nI up).toInt64 = decide (¬ dgN E ln p lo up = 0) := by
  unfold inL
  rw [decide_eq_decide, tr64, tr64]
  constructor
  · intro hh
    obtain ⟨h1, h2⟩ := hh
    by_cases hp : p < ln
    · have e : cdM E ln p = E p := if_pos hp
      rw [e] at h1 h2
      exact (dg_yes hl h0 hu hp h1 h2).1
    · have e : cdM E ln p = -9 := if_neg hp
      rw [e] at h1
      exfalso
      have h3 := Int32.le_iff_toInt_le.mp h1
      rw [nI_toInt hl] at h3
      have e1 : ((-9 : Int32) - nI 48).toInt = -57 := by decide
      omega
  · intro h
    unfold dgN at h
    by_cases q : p < ln ∧ nI lo ≤ E p - nI 48 ∧ E p - nI 48 ≤ nI up
    · rw [show cdM E ln p = E p from if_pos q.1]; exact q.2
    · rw [if_neg q] at h; exact absurd rfl h
theorem figV {E : Nat → Int32} {ln p lo up : Nat} (hl : lo < 2 ^ 31) (h0 : 0 < lo) (hu : up < 2 ^ 31) (h : ¬ dgN E ln p lo up = 0) : cdM E ln p - nI 48 = nI (dgN E ln p lo up) := by
  by_cases q : p < ln ∧ nI lo ≤ E p - nI 48 ∧ E p - nI 48 ≤ nI up
  · rw [show cdM E ln p = E p from if_pos q.1]; exact (dg_yes hl h0 hu q.1 q.2.1 q.2.2).2
  · exact absurd (dg_no q) h
theorem dgI_ge {d : Nat} (hd : d < 2 ^ 31) : 0 ≤ dgI d ↔ ¬ d = 0 := by
  unfold dgI
  by_cases e : d = 0
  · rw [if_pos e]; exact ⟨fun h => absurd h (by decide), fun h => absurd e h⟩
  · rw [if_neg e]; exact ⟨fun _ => e, fun _ => nI_pos' hd⟩
theorem dgI_le {d : Nat} (hd : d < 2 ^ 31) : dgI d ≤ 0 ↔ d = 0 := by
  unfold dgI
  by_cases e : d = 0
  · rw [if_pos e]; exact ⟨fun _ => e, fun _ => by decide⟩
  · rw [if_neg e]
    constructor
    · intro h
      have h3 := Int32.le_iff_toInt_le.mp h
      rw [nI_toInt hd, i0] at h3
      omega
    · intro h; exact absurd h e
def mcT (E : Nat → Int32) (len p th : Nat) : Nat := if 3 ≤ knd E len p ∧ ¬ th = 10 ∧ ¬ dgN E len (p + 1) 1 9 = 0 then th + 1 else th
def mcY (E : Nat → Int32) (len p be th c : Nat) (Y : Nat → Nat → Int32) : Nat → Nat → Int32 := if knd E len p = 1 then uX Y 7 c (nI 0) else if knd E len p = 2 then (if be = 12 then Y else uX (uX Y 7 c (nI 1)) 8 be (nI c)) else if knd E len p = 0 then Y else if th = 10 then Y else if dgN E len (p + 1) 1 9 = 0 then Y else uX (uX (uX (uX Y 7 c (nI (10 + th))) 9 th (nI (knd E len p - 3))) 10 th (nI c)) 11 th (nI (dgN E len (p + 1) 1 9))
abbrev MS : Type := Bool × (Nat × Nat × Nat) × (Nat → Nat → Int32)
def mR (E : Nat → Int32) (len wi : Nat) (Y : Nat → Nat → Int32) : Nat → MS
  | 0 => (true, (3, 0, 0), Y)
  | m + 1 =>
    let s := mR E len wi Y m
    if s.1 = false then s else
    if m % wi = 0 ∧ sgB E len s.2.1.1 59 = false then (false, s.2) else
    let p := if m % wi = 0 then s.2.1.1 + 1 else s.2.1.1
    (tcO E len p s.2.1.2.1 s.2.1.2.2, (tcP E len p s.2.1.2.1 s.2.1.2.2, tcB E len p s.2.1.2.1, mcT E len p s.2.1.2.2), mcY E len p s.2.1.2.1 s.2.1.2.2 m s.2.2)
theorem mR_stop {E : Nat → Int32} {len wi : Nat} {Y : Nat → Nat → Int32} {m : Nat} (h : (mR E len wi Y m).1 = false) : ∀ k, mR E len wi Y (m + k) = mR E len wi Y m
  | 0 => rfl
  | k + 1 => by
    have ih := mR_stop h k
    rw [← Nat.add_assoc, mR, ih]
    simp [h]
theorem mR_stop' {E : Nat → Int32} {len wi : Nat} {Y : Nat → Nat → Int32} {m M : Nat} (h : (mR E len wi Y m).1 = false) (hm : m ≤ M) : mR E len wi Y M = mR E len wi Y m := by
  have := mR_stop h (M - m)
  rwa [show m + (M - m) = M by omega] at this
theorem mR_semi {E : Nat → Int32} {len wi m : Nat} {Y : Nat → Nat → Int32} (hok : (mR E len wi Y m).1 = true) (h0 : m % wi = 0) (h : sgB E len (mR E len wi Y m).2.1.1 59 = false) : mR E len wi Y (m + 1) = (false, (mR E len wi Y m).2) := by
  rw [mR]
  simp only [hok, h0, h]
  rfl
theorem mR_go0 {E : Nat → Int32} {len wi m : Nat} {Y : Nat → Nat → Int32} (hok : (mR E len wi Y m).1 = true) (h0 : m % wi = 0) (h : sgB E len (mR E len wi Y m).2.1.1 59 = true) : mR E len wi Y (m + 1) = (tcO E len ((mR E len wi Y m).2.1.1 + 1) (mR E len wi Y m).2.1.2.1 (mR E len wi Y m).2.1.2.2, (tcP E len ((mR E len wi Y m).2.1.1 + 1) (mR E len wi Y m).2.1.2.1 (mR E len wi Y m).2.1.2.2, tcB E len ((mR E len wi Y m).2.1.1 + 1) (mR E len wi Y m).2.1.2.1, mcT E len ((mR E len wi Y m).2.1.1 + 1) (mR E len wi Y m).2.1.2.2), mcY E len ((mR E len wi Y m).2.1.1 + 1) (mR E len wi Y m).2.1.2.1 (mR E len wi Y m).2.1.2.2 m (mR E len wi Y m).2.2) := by
  rw [mR]
  simp only [hok, h0, h]
  rfl
theorem mR_go1 {E : Nat → Int32} {len wi m : Nat} {Y : Nat → Nat → Int32} (hok : (mR E len wi Y m).1 = true) (h0 : ¬ m % wi = 0) : mR E len wi Y (m + 1) = (tcO E len (mR E len wi Y m).2.1.1 (mR E len wi Y m).2.1.2.1 (mR E len wi Y m).2.1.2.2, (tcP E len (mR E len wi Y m).2.1.1 (mR E len wi Y m).2.1.2.1 (mR E len wi Y m).2.1.2.2, tcB E len (mR E len wi Y m).2.1.1 (mR E len wi Y m).2.1.2.1, mcT E len (mR E len wi Y m).2.1.1 (mR E len wi Y m).2.1.2.2), mcY E len (mR E len wi Y m).2.1.1 (mR E len wi Y m).2.1.2.1 (mR E len wi Y m).2.1.2.2 m (mR E len wi Y m).2.2) := by
  rw [mR]
  simp only [hok, h0]
  rfl
theorem mR_cnt (E : Nat → Int32) (len wi : Nat) (Y : Nat → Nat → Int32) : ∀ m, (mR E len wi Y m).2.1.2.1 ≤ 12 ∧ (mR E len wi Y m).2.1.2.2 ≤ 10 ∧ (mR E len wi Y m).2.1.1 ≤ 3 * m + 3
  | 0 => by simp [mR]
  | m + 1 => by
    have ih := mR_cnt E len wi Y m
    rw [mR]
    simp only []
    split
    · omega
    · split
      · simp only []; omega
      · simp only [tcB, mcT, tcP]
        generalize (mR E len wi Y m).2.1.2.1 = b at *
        generalize (mR E len wi Y m).2.1.2.2 = t at *
        generalize (mR E len wi Y m).2.1.1 = p at *
        have hp : (if m % wi = 0 then p + 1 else p) ≤ p + 1 := by split <;> omega
        generalize (if m % wi = 0 then p + 1 else p) = p1 at *
        refine ⟨by split <;> omega, by split <;> omega, ?_⟩
        repeat' split
        all_goals omega
theorem mcY_hi {E : Nat → Int32} {len p be th c : Nat} {Y : Nat → Nat → Int32} {a : Nat} (h : a < 7 ∨ 11 < a) : mcY E len p be th c Y a = Y a := by
  unfold mcY
  repeat' split
  all_goals first | rfl | (simp only [uX]; repeat' split) <;> first | rfl | omega
theorem mR_hi {E : Nat → Int32} {len wi : Nat} {Y : Nat → Nat → Int32} {a : Nat} (h : a < 7 ∨ 11 < a) : ∀ m, (mR E len wi Y m).2.2 a = Y a
  | 0 => rfl
  | m + 1 => by
    have ih := mR_hi (E := E) (len := len) (wi := wi) (Y := Y) h m
    rw [mR]
    simp only []
    split
    · exact ih
    · split
      · exact ih
      · simp only []
        rw [mcY_hi h]; exact ih
def mrV (E : Nat → Int32) (len : Nat) (Y : Nat → Nat → Int32) : Bool :=
  sgB E len 0 113 && (decide (¬ dgN E len 1 1 6 = 0) && (decide (¬ dgN E len 2 2 7 = 0) && ((mR E len (dgN E len 2 2 7) Y (dgN E len 1 1 6 * dgN E len 2 2 7)).1 && decide ((mR E len (dgN E len 2 2 7) Y (dgN E len 1 1 6 * dgN E len 2 2 7)).2.1.1 = len))))
def mrF (E : Nat → Int32) (len : Nat) (Y : Nat → Nat → Int32) (f : Nat → Int32) : Nat → Int32 :=
  if sgB E len 0 113 = true then
    (if dgN E len 1 1 6 = 0 then fR f 1 (-9) (-9) 0 0 else if dgN E len 2 2 7 = 0 then fR f 2 (nI (dgN E len 1 1 6)) (-9) 0 0 else
      fR f (mR E len (dgN E len 2 2 7) Y (dgN E len 1 1 6 * dgN E len 2 2 7)).2.1.1 (nI (dgN E len 1 1 6)) (nI (dgN E len 2 2 7)) (mR E len (dgN E len 2 2 7) Y (dgN E len 1 1 6 * dgN E len 2 2 7)).2.1.2.1 (mR E len (dgN E len 2 2 7) Y (dgN E len 1 1 6 * dgN E len 2 2 7)).2.1.2.2)
  else fR f 0 (-9) (-9) 0 0
def mrY (E : Nat → Int32) (len : Nat) (Y : Nat → Nat → Int32) : Nat → Nat → Int32 :=
  if sgB E len 0 113 = true then (if dgN E len 1 1 6 = 0 then Y else if dgN E len 2 2 7 = 0 then Y else (mR E len (dgN E len 2 2 7) Y (dgN E len 1 1 6 * dgN E len 2 2 7)).2.2) else Y
