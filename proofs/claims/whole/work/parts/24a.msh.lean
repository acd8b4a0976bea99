theorem mput_u {hs : Nat → Bool} {le : Nat → Nat} {j : Nat} {i : Int32} (h : 0 < ncN hs le j i) (hk : inB (nI j) 4 = true) (hx : xn (nI j) = j) : -10 - nI (ncN hs le j i) = uPut hs le (nI j) i := by
  unfold uPut ncN at *
  rw [if_pos hk, hx]
  cases hq : hs j
  · simp; rfl
  · cases hr : inB i (le j)
    · simp; rfl
    · simp [hq, hr] at h
theorem mput_f {hs : Nat → Bool} {le : Nat → Nat} {j : Nat} {i v : Int32} {cI cZ : ClassId} {q n : Nat → Nat} {mb : Int32} {f : Nat → Int32} {Y : Nat → Nat → Int32} {la : Nat → Nat} (h : 0 < ncN hs le j i) (hk : inB (nI j) 4 = true) (hx : xn (nI j) = j) : wM cI cZ q n mb (uF f 0 (nI (ncN hs le j i))) Y = wM cI cZ q n mb (uF f 0 (fPut hs le (nI j) i)) (if okPut hs le (nI j) i = true then uX Y 14 (100 * xn (nI j) + xn i) (cutL (la (xn (nI j))) v) else Y) := by
  have e1 : fPut hs le (nI j) i = nI (ncN hs le j i) := by
    unfold fPut ncN at *
    rw [if_pos hk, hx]
    cases hq : hs j
    · simp; rfl
    · cases hr : inB i (le j)
      · simp; rfl
      · simp [hq, hr] at h
  have e2 : okPut hs le (nI j) i = false := by
    unfold okPut ncN at *
    rw [hk, hx]
    cases hq : hs j
    · simp
    · cases hr : inB i (le j)
      · simp
      · simp [hq, hr] at h
  rw [e1, e2]; rfl
theorem mcell_fv {hs : Nat → Bool} {la le : Nat → Nat} {j l0 : Nat} {i : Int32} (h : 0 < ncN hs le j i) (hcs : hs j = true → la j = l0) : (if faR (hs j) (la j) l0 = 0 then (if inB i (le j) = true then 0 else 3) else nI (faR (hs j) (la j) l0)) = nI (ncN hs le j i) := by
  unfold ncN faR at *
  cases hq : hs j
  · simp
  · have := hcs hq
    cases hr : inB i (le j)
    · simp [this]; rfl
    · simp [hq, hr] at h
theorem mcell_no {hs : Nat → Bool} {la le : Nat → Nat} {j l0 : Nat} {i : Int32} (h : 0 < ncN hs le j i) (hin : inB i (le j) = true) (hf : faR (hs j) (la j) l0 = 0) : False := by
  unfold ncN faR at *
  cases hq : hs j
  · simp [hq] at hf
  · simp [hq, hin] at h
