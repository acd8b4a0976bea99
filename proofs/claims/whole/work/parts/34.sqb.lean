/-! square: both answer alike, and what holds goes on -/
section SQB
variable {E : Nat → Int32} {len : Nat} {S D : Nat → Int32} {Y : Nat → Nat → Int32} {f : Nat → Int32}
theorem rdmr_a (h : rdV E len S D = -1) : mrV E len Y = true := by
  obtain ⟨h1, h2, h3, h4, h5⟩ := rdV_t h
  have hb := mR_tR (E := E) (len := len) (wi := dgN E len 2 2 7) (S := S) (D := D) (Y := Y) (dgN E len 1 1 6 * dgN E len 2 2 7)
  rw [mrV, h1, decide_eq_true h2, decide_eq_true h3, hb.1, h4, hb.2.1, decide_eq_true h5]
  rfl
theorem rdmr_b (h : mrV E len Y = true) : rdV E len S D = -1 := by
  obtain ⟨h1, h2, h3, h4, h5⟩ := mrV_t h
  have hb := mR_tR (E := E) (len := len) (wi := dgN E len 2 2 7) (S := S) (D := D) (Y := Y) (dgN E len 1 1 6 * dgN E len 2 2 7)
  rw [hb.1] at h4
  rw [hb.2.1] at h5
  rw [rdV, if_pos h1, if_neg h2, if_neg h3, if_pos ⟨h4, h5⟩]
theorem rdmr_c (h : ¬ mrV E len Y = true) : mrF E len Y f 14 = rdV E len S D := by
  have hb := mR_tR (E := E) (len := len) (wi := dgN E len 2 2 7) (S := S) (D := D) (Y := Y) (dgN E len 1 1 6 * dgN E len 2 2 7)
  unfold mrF rdV
  by_cases h1 : sgB E len 0 113 = true
  · rw [if_pos h1, if_pos h1]
    by_cases h2 : dgN E len 1 1 6 = 0
    · rw [if_pos h2, if_pos h2]; rfl
    · rw [if_neg h2, if_neg h2]
      by_cases h3 : dgN E len 2 2 7 = 0
      · rw [if_pos h3, if_pos h3]; rfl
      · rw [if_neg h3, if_neg h3, if_neg (fun q => h (by rw [mrV, h1, decide_eq_true h2, decide_eq_true h3, hb.1, q.1, hb.2.1, decide_eq_true q.2]; rfl)), ← hb.2.1]; rfl
  · rw [if_neg h1, if_neg h1]; rfl
theorem uSq_eq {hs : Nat → Bool} {la le : Nat → Nat} {k lane i n : Int32} : uSqC hs la le k lane i n E S D = uSqM hs la le k lane i n E Y f := by
  unfold uSqC uSqM
  by_cases h1 : inB k 4 = true
  · rw [if_pos h1, if_pos h1]
    by_cases h2 : inB lane 3 = true
    · rw [if_pos h2, if_pos h2]
      by_cases h3 : sqN hs la le (xn k) (xn lane) i n = 0
      · rw [if_pos h3, if_pos h3]
        by_cases h4 : mrV E (xn n) Y = true
        · rw [if_pos (rdmr_b h4), if_pos h4]
        · rw [if_neg (fun q => h4 (rdmr_a q)), if_neg h4, rdmr_c (S := S) (D := D) h4]
      · rw [if_neg h3, if_neg h3]
    · rw [if_neg h2, if_neg h2]
  · rw [if_neg h1, if_neg h1]
theorem mrF_30 : mrF E len Y f 30 = f 30 := by
  unfold mrF
  repeat' split
  all_goals rfl
theorem mrY_hi {a : Nat} (h : a < 7 ∨ 11 < a) : mrY E len Y a = Y a := by
  unfold mrY
  repeat' split
  all_goals first | rfl | exact mR_hi h _
theorem sqY_hi {cl b t a : Nat} (h : 11 < a) : sqY cl b t Y a = Y a := by
  unfold sqY thY uY
  rw [if_neg (by omega), if_neg (by omega), if_neg (by omega), if_neg (by omega), if_neg (by omega), if_neg (by omega), if_neg (by omega)]
theorem RS_congr {hs : Nat → Bool} {la le : Nat → Nat} {C Y' : Nat → Nat → Int32} (h : RS hs la le C Y) (h12 : Y' 12 = Y 12) (h13 : Y' 13 = Y 13) (h14 : Y' 14 = Y 14) : RS hs la le C Y' := by
  unfold RS
  rw [h12, h13, h14]
  exact h
theorem cpy_lt {g h : Nat → Int32} {m c : Nat} (hc : c < m) : va_cpy g h 0 0 m c = g c := by
  unfold va_cpy
  rw [if_pos (by omega)]
  congr 1
  omega
theorem RM_new {d1 d2 b t : Nat} {A : Nat → Nat → Nat} (h : RMc (d1 * d2) b t A Y) (hA : ∀ j, j < t → A 5 j = 1) : RM (nNew d1 d2 b t) A (sqY (d1 * d2) b t Y) := by
  refine ⟨fun c hc => ?_, fun j hj => ?_, fun j hj => ?_⟩
  · show va_cpy (Y 7) (Y 0) 0 0 (d1 * d2) c = _
    have hc : c < d1 * d2 := hc
    rw [cpy_lt hc]; exact h.1 c hc
  · show va_cpy (Y 8) (Y 1) 0 0 b j = _
    have hj : j < b := hj
    rw [cpy_lt hj]; exact h.2.1 j hj
  · have h3 := h.2.2 j hj
    have hj : j < t := hj
    refine ⟨?_, ?_, ?_, ?_, ?_⟩
    · show va_cpy (Y 9) (Y 2) 0 0 t j = _
      rw [cpy_lt hj]; exact h3.1
    · show va_cpy (Y 10) (Y 3) 0 0 t j = _
      rw [cpy_lt hj]; exact h3.2.1
    · show va_cpy (Y 11) (Y 4) 0 0 t j = _
      rw [cpy_lt hj]; exact h3.2.2
    · show (if j < t then nI 0 else Y 5 j) = bI ((0 : Nat).testBit j)
      rw [if_pos hj, Nat.zero_testBit]; rfl
    · show (if j < t then nI 1 else Y 6 j) = _
      rw [if_pos hj, hA j hj]
variable {hs : Nat → Bool} {la le : Nat → Nat} {C : Nat → Nat → Int32} {n : Nat → Nat} {A : Nat → Nat → Nat} {X : Nat → Nat → Int32} {mb tr fl : Int32}
theorem LI_square (h : LI hs la le C n A X mb f Y tr fl) (ok : Bool) (v : Int32) : ∃ A', LI hs la le C (nSqC ok E len S D n X) A' (xSqC ok E len S D X) mb (uF (fSqM ok E len Y f) 0 v) (ySqM ok E len Y) tr v := by
  cases ok
  · exact ⟨A, LI_fl h v⟩
  · by_cases hv : rdV E len S D = -1
    · have hm := rdmr_a (Y := Y) hv
      obtain ⟨h1, h2, h3, h4, h5⟩ := rdV_t hv
      obtain ⟨hW, hG, hM, hS, hb, h01, h30, h0⟩ := h
      have hc := lR_cnt (D' := (tR E len (dgN E len 2 2 7) S D (dgN E len 1 1 6 * dgN E len 2 2 7)).2.2.2) (X := X) h4
      have hmt := (mR_tR (E := E) (len := len) (wi := dgN E len 2 2 7) (S := S) (D := D) (Y := Y) (dgN E len 1 1 6 * dgN E len 2 2 7)).2.2 h4
      have hg := lay_R (X := X) h4 (tR_D h4)
      have hr := read_R (Y := Y) h4
      have hw := wf_R h4
      have hcn := tR_cnt E len (dgN E len 2 2 7) S D (dgN E len 1 1 6 * dgN E len 2 2 7)
      have hd1 := dgN_le (E := E) (len := len) (p := 1) (lo := 1) (hi := 6) (by decide)
      have hd2 := dgN_le (E := E) (len := len) (p := 2) (lo := 2) (hi := 7) (by decide)
      rw [nSqC, xSqC, if_pos ⟨rfl, hv⟩, if_pos ⟨rfl, hv⟩, fSqM, if_pos rfl, ySqM, if_pos rfl, if_pos hm, lSqC, hc, hmt.1, hmt.2]
      refine ⟨aR E len (dgN E len 2 2 7) S D (dgN E len 1 1 6 * dgN E len 2 2 7), ⟨hd1, hd2, hcn.1, hcn.2.1, Nat.zero_le _, Nat.zero_le _, Nat.zero_le _, Nat.zero_le _, show 0 < 1024 by decide, hw.1, hw.2.1, fun j hj => ?_⟩, hg, RM_new hr (fun j hj => (hw.2.2 j hj).2.2.2.2), RS_congr hS ?_ ?_ ?_, fun q => absurd q (Nat.lt_irrefl 0), fun _ => Nat.pos_of_ne_zero h3, mrF_30.trans h30, rfl⟩
      · have := hw.2.2 j hj
        exact ⟨this.1, this.2.1, this.2.2.1, this.2.2.2.1, by omega, by omega⟩
      · rw [sqY_hi (by decide), mR_hi (Or.inr (by decide))]
      · rw [sqY_hi (by decide), mR_hi (Or.inr (by decide))]
      · rw [sqY_hi (by decide), mR_hi (Or.inr (by decide))]
    · have hm : ¬ mrV E len Y = true := fun q => hv (rdmr_b q)
      refine ⟨A, ?_⟩
      rw [nSqC, xSqC, if_neg (fun q => hv q.2), if_neg (fun q => hv q.2), fSqM, if_pos rfl, ySqM, if_pos rfl, if_neg hm]
      have h' := LI_sh h (Y' := mrY E len Y) (fun a ha => mrY_hi (Or.inl ha)) (RS_congr h.2.2.2.1 (mrY_hi (Or.inr (by decide))) (mrY_hi (Or.inr (by decide))) (mrY_hi (Or.inr (by decide))))
      obtain ⟨hW, hG, hM, hS, hb, h01, h30, h0⟩ := h'
      exact ⟨hW, hG, hM, hS, hb, h01, mrF_30.trans h30, rfl⟩
theorem nSq_eq {ok : Bool} {mb : Int32} {g : Nat → Int32} {Z : Nat → Nat → Int32} {cI cZ : ClassId} {q : Nat → Nat} : wM cI cZ q (nSqM ok E len Y n) mb g Z = wM cI cZ q (nSqC ok E len S D n X) mb g Z := by
  unfold nSqM nSqC
  by_cases ho : ok = true
  · by_cases hv : rdV E len S D = -1
    · obtain ⟨h1, h2, h3, h4, h5⟩ := rdV_t hv
      have hc := lR_cnt (D' := (tR E len (dgN E len 2 2 7) S D (dgN E len 1 1 6 * dgN E len 2 2 7)).2.2.2) (X := X) h4
      have hmt := (mR_tR (E := E) (len := len) (wi := dgN E len 2 2 7) (S := S) (D := D) (Y := Y) (dgN E len 1 1 6 * dgN E len 2 2 7)).2.2 h4
      rw [if_pos ⟨ho, rdmr_a hv⟩, if_pos ⟨ho, hv⟩, lSqC, hc, hmt.1, hmt.2]
    · rw [if_neg (fun q => hv (rdmr_b q.2)), if_neg (fun q => hv q.2)]
  · rw [if_neg (fun q => ho q.1), if_neg (fun q => ho q.1)]
theorem sq_hE {k i m : Int32} {E0 : Nat → Int32} (h : RS hs la le C Y) : ∀ j ia na, k = nI j → j < 4 → i = nI ia → m = nI na → ia + na ≤ le j → hs j = true → ∀ x, x < na → Y 14 (100 * j + ia + x) = va_cpy (C (xn k)) E0 (xn i) 0 (xn m) x := by
  intro j ia na hk hj hi hm hle hh x hx
  have hJ := h j hj
  subst hk; subst hi; subst hm
  rw [xn_nI (by omega), xn_nI (by omega), xn_nI (by omega)]
  have h1 := hJ.2.2.1 hh (ia + x) (by omega)
  unfold va_cpy
  rw [if_pos (by omega), show 100 * j + ia + x = 100 * j + (ia + x) by omega, h1]
  congr 1
end SQB
