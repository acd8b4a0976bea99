/-! what holds between the calls, and that each call keeps it -/
def LI (hs : Nat → Bool) (la le : Nat → Nat) (C : Nat → Nat → Int32) (n : Nat → Nat) (A : Nat → Nat → Nat) (X : Nat → Nat → Int32) (mb : Int32) (f : Nat → Int32) (Y : Nat → Nat → Int32) (tr fl : Int32) : Prop := WF n A ∧ RG n A X ∧ RM n A Y ∧ RS hs la le C Y ∧ (0 < n 6 → mb = nI (n 7)) ∧ (0 < n 0 → 0 < n 1) ∧ f 30 = tr ∧ f 0 = fl
theorem RS.hB {hs : Nat → Bool} {la le : Nat → Nat} {C Y : Nat → Nat → Int32} (h : RS hs la le C Y) : ∀ k, k < 4 → la k ≤ 2 ∧ le k ≤ 100 := fun k hk => (h k hk).2.2.2
section KEEP
variable {hs : Nat → Bool} {la le : Nat → Nat} {C : Nat → Nat → Int32} {n : Nat → Nat} {A : Nat → Nat → Nat} {X : Nat → Nat → Int32} {mb : Int32} {f : Nat → Int32} {Y : Nat → Nat → Int32} {tr fl : Int32}
theorem LI_year (h : LI hs la le C n A X mb f Y tr fl) (y : Int32) (w : Bool) : LI hs la le C (vYear n y w) A X mb f Y tr fl := by
  unfold vYear
  split
  · next q =>
    obtain ⟨j, hj, rfl⟩ := inB_t (by decide) q.1
    obtain ⟨hW, hG, hM, hS, hb, h01, h3, h0⟩ := h
    obtain ⟨w0, w1, w2, w3, w4, w5, w6, w7, w8, wA⟩ := hW
    rw [xn_nI (by omega)]
    exact ⟨⟨w0, w1, w2, w3, show j ≤ 30 by omega, show bN w ≤ 1 by cases w <;> decide, w6, w7, w8, wA⟩, hG, hM, hS, hb, h01, h3, h0⟩
  · exact h
theorem xor_tb {a k i : Nat} : (a ^^^ 2 ^ k).testBit i = if i = k then !a.testBit k else a.testBit i := by
  rw [Nat.testBit_xor, Nat.testBit_two_pow]
  by_cases h : i = k
  · subst h; simp
  · simp [h, show ¬ k = i from fun q => h q.symm]
theorem LI_cut (h : LI hs la le C n A X mb f Y tr fl) (t : Int32) (is : Bool) : LI hs la le C (vCut n t is) A X mb f (if inB t (n 3) = true then uX Y 5 (xn t) (bI is) else Y) tr fl := by
  by_cases q : inB t (n 3) = true
  · obtain ⟨hW, hG, hM, hS, hb, h01, h3, h0⟩ := h
    have w3 := hW.2.2.2.1
    have w8 := hW.2.2.2.2.2.2.2.2.1
    obtain ⟨j, hj, rfl⟩ := inB_t (by omega) q
    have hxj : xn (nI j) = j := xn_nI (by omega)
    rw [if_pos q, vCut, hxj]
    by_cases e : (n 8).testBit j = is
    · rw [if_neg (fun r => r.2 e), uX_self Y 5 j (by rw [(hM.2.2 j hj).2.2.2.1, e])]
      exact ⟨hW, hG, hM, hS, hb, h01, h3, h0⟩
    · rw [if_pos ⟨q, e⟩]
      have hr : RM (uN n 8 (n 8 ^^^ 2 ^ j)) A (uX Y 5 j (bI is)) := RM_cut hM (fun i _ => by
        rw [xor_tb]
        by_cases ei : i = j
        · rw [if_pos ei, if_pos ei]; cases is <;> cases hq : (n 8).testBit j <;> simp_all
        · rw [if_neg ei, if_neg ei])
      exact ⟨WF_u8 hW (xor_bit w8 (by omega)), hG, hr, fun k hk => hS k hk, hb, h01, h3, h0⟩
  · rw [if_neg q, vCut, if_neg (fun r => q r.1)]
    exact h
theorem LI_price (h : LI hs la le C n A X mb f Y tr fl) (t v : Int32) : ∃ A', LI hs la le C n A' (if okPrice n t v = true then uX X 7 (xn t) v else X) mb f (if okPrice n t v = true then uX Y 6 (xn t) v else Y) tr fl := by
  by_cases q : okPrice n t v = true
  · rw [if_pos q, if_pos q]
    obtain ⟨hW, hG, hM, hS, hb, h01, h3, h0⟩ := h
    obtain ⟨w0, w1, w2, w3, w4, w5, w6, w7, w8, wA0, wA1, wA2⟩ := hW
    unfold okPrice at q
    rw [Bool.and_eq_true] at q
    obtain ⟨j, hj, rfl⟩ := inB_t (by omega) q.1
    obtain ⟨i, h1, h9, rfl⟩ := in19_t q.2
    rw [xn_nI (by omega)]
    refine ⟨uA A 5 j i, ⟨w0, w1, w2, w3, w4, w5, w6, w7, w8, fun c hc => ?_, fun b hb => ?_, fun t ht => ?_⟩, ⟨fun c hc => ?_, fun b hb => ?_, fun t ht => ?_⟩, ⟨fun c hc => ?_, fun b hb => ?_, fun t ht => ?_⟩, fun k hk => hS k hk, hb, h01, h3, h0⟩
    · have := wA0 c hc; simp [uA]; exact this
    · have := wA1 b hb; simp [uA]; exact this
    · have := wA2 t ht
      by_cases e : t = j
      · subst e; simp [uA]; omega
      · simp [uA, e]; omega
    · have := hG.1 c hc; simp [uA, uX]; exact this
    · have := hG.2.1 b hb; simp [uA, uX]; exact this
    · have := hG.2.2 t ht
      by_cases e : t = j
      · subst e; simp [uA, uX, upd]; exact ⟨this.1, this.2.1, this.2.2.1⟩
      · simp [uA, uX, upd, e]; exact this
    · have := hM.1 c hc; simp [uA, uX]; exact this
    · have := hM.2.1 b hb; simp [uA, uX]; exact this
    · have := hM.2.2 t ht
      by_cases e : t = j
      · subst e; simp [uA, uX, upd]; exact ⟨this.1, this.2.1, this.2.2.1, this.2.2.2.1⟩
      · simp [uA, uX, upd, e]; exact this
  · rw [if_neg q, if_neg q]
    exact ⟨A, h⟩
theorem LI_statue (h : LI hs la le C n A X mb f Y tr fl) (c b : Int32) : LI hs la le C (vStatue n A c b) A X (if inB c (n 0 * n 1) = true ∧ inB b 10 = true ∧ A 0 (xn c) = 0 then b else mb) f Y tr fl := by
  by_cases q : inB c (n 0 * n 1) = true ∧ inB b 10 = true ∧ A 0 (xn c) = 0
  · rw [if_pos q, vStatue, if_pos q]
    obtain ⟨hW, hG, hM, hS, hb, h01, h3, h0⟩ := h
    obtain ⟨w0, w1, w2, w3, w4, w5, w6, w7, w8, wA⟩ := hW
    have wC : n 0 * n 1 ≤ 42 := Nat.mul_le_mul w0 w1
    obtain ⟨j, hj, rfl⟩ := inB_t (by omega) q.1
    obtain ⟨i, hi, rfl⟩ := inB_t (by decide) q.2.1
    rw [xn_nI (by omega), xn_nI (by omega)]
    exact ⟨⟨w0, w1, w2, w3, w4, w5, show j + 1 ≤ n 0 * n 1 by omega, show i ≤ 9 by omega, w8, wA⟩, hG, hM, hS, fun _ => rfl, h01, h3, h0⟩
  · rw [if_neg q, vStatue, if_neg q]
    exact h
theorem wM_sta {cI cZ : ClassId} {q : Nat → Nat} {c b : Int32} {mb : Int32} : wM cI cZ q (vStaM n A c b) mb f Y = wM cI cZ q (vStatue n A c b) mb f Y := by
  unfold vStaM vStatue
  split <;> rfl
theorem wM_cut {cI cZ : ClassId} {q : Nat → Nat} {t : Int32} {is : Bool} : wM cI cZ q n mb f Y = wM cI cZ q (vCut n t is) mb f Y := by
  unfold vCut
  split <;> rfl
theorem LI_tr (h : LI hs la le C n A X mb f Y tr fl) {v v' : Int32} (e : v = v') : LI hs la le C n A X mb (uF f 30 v) Y v' fl := by
  obtain ⟨hW, hG, hM, hS, hb, h01, h3, h0⟩ := h
  exact ⟨hW, hG, hM, hS, hb, h01, e, h0⟩
theorem LI_fl (h : LI hs la le C n A X mb f Y tr fl) (v : Int32) : LI hs la le C n A X mb (uF f 0 v) Y tr v := by
  obtain ⟨hW, hG, hM, hS, hb, h01, h3, h0⟩ := h
  exact ⟨hW, hG, hM, hS, hb, h01, h3, rfl⟩
theorem LI_sh {hs' : Nat → Bool} {la' le' : Nat → Nat} {C' Y' : Nat → Nat → Int32} (h : LI hs la le C n A X mb f Y tr fl) (hY : ∀ a, a < 7 → Y' a = Y a) (hS' : RS hs' la' le' C' Y') : LI hs' la' le' C' n A X mb f Y' tr fl := by
  obtain ⟨hW, hG, hM, hS, hb, h01, h3, h0⟩ := h
  refine ⟨hW, hG, ?_, hS', hb, h01, h3, h0⟩
  unfold RM
  rw [hY 0 (by decide), hY 1 (by decide), hY 2 (by decide), hY 3 (by decide), hY 4 (by decide), hY 5 (by decide), hY 6 (by decide)]
  exact hM
theorem sh_sheet (h : RS hs la le C Y) (k lane m : Int32) : RS (if okSheet k lane m = true then uB hs (xn k) true else hs) (if okSheet k lane m = true then uN la (xn k) (xn lane) else la) (if okSheet k lane m = true then uN le (xn k) (xn m) else le) (if okSheet k lane m = true then uC C (xn k) (fillz (C (xn k)) (xn m)) else C) (if okSheet k lane m = true then uY (uX (uX Y 12 (xn k) (nI (xn m))) 13 (xn k) (nI (xn lane))) 14 (zf (Y 14) (100 * xn k) (xn m)) else Y) := by
  by_cases q : okSheet k lane m = true
  · rw [if_pos q, if_pos q, if_pos q, if_pos q, if_pos q]
    unfold okSheet at q
    rw [Bool.and_eq_true, Bool.and_eq_true] at q
    obtain ⟨j, hj, rfl⟩ := inB_t (by decide) q.1
    obtain ⟨l0, hl, rfl⟩ := inB_t (by decide) q.2.1
    obtain ⟨m0, hm, rfl⟩ := inB_t (by decide) q.2.2
    rw [xn_nI (by omega), xn_nI (by omega), xn_nI (by omega)]
    intro i hi
    have hI := h i hi
    by_cases e : i = j
    · subst e
      refine ⟨?_, fun _ => ?_, fun _ x hx => ?_, ?_, ?_⟩
      · simp [uY, uX, upd, uB, uN, szI]
      · simp [uY, uX, upd, uN]
      · have hx : x < m0 := by simpa [uN] using hx
        simp only [uY, uC, if_true]
        rw [zf, fillz, if_pos (by omega), if_pos hx]
      · simp [uN]; omega
      · simp [uN]; omega
    · refine ⟨?_, fun q2 => ?_, fun q2 x hx => ?_, ?_, ?_⟩
      · simp [uY, uX, upd, uB, uN, e]; exact hI.1
      · simp [uY, uX, upd, uN, e]; exact hI.2.1 (by simpa [uB, e] using q2)
      · have hx : x < le i := by simpa [uN, e] using hx
        simp only [uY, uC, if_true, e, if_false]
        rw [zf, if_neg (by omega)]
        exact hI.2.2.1 (by simpa [uB, e] using q2) x hx
      · simp [uN, e]; exact hI.2.2.2.1
      · simp [uN, e]; exact hI.2.2.2.2
  · rw [if_neg q, if_neg q, if_neg q, if_neg q, if_neg q]
    exact h
theorem sh_lose (h : RS hs la le C Y) (k : Int32) : RS (if inB k 4 = true then uB hs (xn k) false else hs) la le C (if inB k 4 = true then uX Y 12 (xn k) (-1) else Y) := by
  by_cases q : inB k 4 = true
  · rw [if_pos q, if_pos q]
    obtain ⟨j, hj, rfl⟩ := inB_t (by decide) q
    rw [xn_nI (by omega)]
    intro i hi
    have hI := h i hi
    by_cases e : i = j
    · subst e
      refine ⟨?_, fun q2 => ?_, fun q2 => ?_, hI.2.2.2⟩
      · simp [uX, upd, uB, szI]
      · simp [uB] at q2
      · simp [uB] at q2
    · refine ⟨?_, fun q2 => ?_, fun q2 => ?_, hI.2.2.2⟩
      · simp [uX, upd, uB, e]; exact hI.1
      · simp [uB, e] at q2; simp [uX]; exact hI.2.1 q2
      · simp [uB, e] at q2; simp [uX]; exact hI.2.2.1 q2
  · rw [if_neg q, if_neg q]
    exact h
theorem sh_put (h : RS hs la le C Y) (k i v : Int32) : RS hs la le (if okPut hs le k i = true then uC C (xn k) (upd (C (xn k)) (xn i) (cutL (la (xn k)) v)) else C) (if okPut hs le k i = true then uX Y 14 (100 * xn k + xn i) (cutL (la (xn k)) v) else Y) := by
  by_cases q : okPut hs le k i = true
  · rw [if_pos q, if_pos q]
    unfold okPut at q
    rw [Bool.and_eq_true, Bool.and_eq_true] at q
    obtain ⟨j, hj, rfl⟩ := inB_t (by decide) q.1
    rw [xn_nI (by omega)] at q
    have hJ := h j hj
    obtain ⟨m, hm, rfl⟩ := inB_t (by omega) q.2.2
    rw [xn_nI (by omega), xn_nI (by omega)]
    intro a ha
    have hI := h a ha
    refine ⟨?_, fun q2 => ?_, fun q2 x hx => ?_, hI.2.2.2⟩
    · simp [uX]; exact hI.1
    · simp [uX]; exact hI.2.1 q2
    · have hxx := hI.2.2.1 q2 x hx
      by_cases e : a = j
      · subst e
        by_cases ex : x = m
        · subst ex; simp [uX, uC, upd]
        · simp [uX, uC, upd, ex]; exact hxx
      · simp only [uX, uC, upd, if_true, e, if_false]
        rw [if_neg (by omega)]; exact hxx
  · rw [if_neg q, if_neg q]
    exact h
theorem sh_copy (h : RS hs la le C Y) (k i o d m : Int32) : RS hs la le (if okCopy hs la le k i o d m = true then uC C (xn o) (va_cpy (C (xn k)) (C (xn o)) (xn i) (xn d) (xn m)) else C) (if okCopy hs la le k i o d m = true then uY (uY Y 15 (va_cpy (Y 14) (Y 15) (100 * xn k + xn i) 0 (xn m))) 14 (va_cpy (va_cpy (Y 14) (Y 15) (100 * xn k + xn i) 0 (xn m)) (Y 14) 0 (100 * xn o + xn d) (xn m)) else Y) := by
  by_cases q : okCopy hs la le k i o d m = true
  · rw [if_pos q, if_pos q]
    unfold okCopy at q
    simp only [Bool.and_eq_true, decide_eq_true_eq] at q
    obtain ⟨⟨q1, q2⟩, ⟨q3, q4⟩, q5, q6, q7⟩ := q
    obtain ⟨j, hj, rfl⟩ := inB_t (by decide) q1
    obtain ⟨jo, hjo, rfl⟩ := inB_t (by decide) q2
    rw [xn_nI (by omega)] at q3 q5 q6
    rw [xn_nI (by omega)] at q4 q5 q7
    have hJ := h j hj
    have hO := h jo hjo
    obtain ⟨ia, na, hia, rfl, rfl⟩ := span_t (by omega) q6
    obtain ⟨da, nb, hda, rfl, hnb⟩ := span_t (by omega) q7
    have hnn : na = nb := (nI_eq (by omega) (by omega)).mp hnb
    subst hnn
    rw [xn_nI (by omega), xn_nI (by omega), xn_nI (by omega), xn_nI (by omega), xn_nI (by omega)]
    intro a ha
    have hI := h a ha
    refine ⟨?_, fun r2 => ?_, fun r2 x hx => ?_, hI.2.2.2⟩
    · simp [uY]; exact hI.1
    · simp [uY]; exact hI.2.1 r2
    · have hxx := hI.2.2.1 r2 x hx
      simp only [uY, if_true]
      by_cases e : a = jo
      · subst e
        simp only [uC, if_true]
        unfold va_cpy
        by_cases g : da ≤ x ∧ x < da + na
        · rw [if_pos (by omega), if_pos (by omega), if_pos g]
          have hs1 := hJ.2.2.1 q3 (ia + (x - da)) (by omega)
          rw [← hs1]
          congr 1
          omega
        · rw [if_neg (by omega), if_neg g]; exact hxx
      · simp only [uC, e, if_false]
        unfold va_cpy
        rw [if_neg (by omega)]
        exact hxx
  · rw [if_neg q, if_neg q]
    exact h
end KEEP
