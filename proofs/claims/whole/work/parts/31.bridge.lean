/-! the two readings come to one square -/
def acA (K c b t d : Nat) (A : Nat → Nat → Nat) : Nat → Nat → Nat := if K = 2 then uA (uA A 0 c 1) 1 b c else if 3 ≤ K then uA (uA (uA (uA (uA A 0 c (10 + t)) 2 t (K - 3)) 3 t c) 4 t d) 5 t 1 else uA A 0 c 0
def aR (E : Nat → Int32) (len wi : Nat) (S D : Nat → Int32) : Nat → Nat → Nat → Nat
  | 0 => fun _ _ => 0
  | m + 1 => acA (kAt E len wi S D m) m (tR E len wi S D m).2.1.2.1 (tR E len wi S D m).2.1.2.2 (dgN E len (pAt E len wi S D m + 1) 1 9) (aR E len wi S D m)
def RGc (m wi b t : Nat) (A : Nat → Nat → Nat) (X : Nat → Nat → Int32) : Prop := (∀ c, c < m → X 0 c = nI (A 0 c) ∧ X 1 c = nI (c / wi) ∧ X 2 c = nI (c % wi)) ∧ (∀ j, j < b → X 3 j = nI (A 1 j)) ∧ (∀ j, j < t → X 4 j = nI (A 2 j) ∧ X 5 j = nI (A 3 j) ∧ X 6 j = nI (A 4 j) ∧ X 7 j = nI (A 5 j))
def RMc (m b t : Nat) (A : Nat → Nat → Nat) (Y : Nat → Nat → Int32) : Prop := (∀ c, c < m → Y 7 c = nI (A 0 c)) ∧ (∀ j, j < b → Y 8 j = nI (A 1 j)) ∧ (∀ j, j < t → Y 9 j = nI (A 2 j) ∧ Y 10 j = nI (A 3 j) ∧ Y 11 j = nI (A 4 j))
def WFc (m b t : Nat) (A : Nat → Nat → Nat) : Prop := (∀ c, c < m → A 0 c ≤ 1 ∨ (10 ≤ A 0 c ∧ A 0 c < 10 + t)) ∧ (∀ j, j < b → A 1 j < m) ∧ (∀ j, j < t → A 2 j ≤ 2 ∧ A 3 j < m ∧ 1 ≤ A 4 j ∧ A 4 j ≤ 9 ∧ A 5 j = 1)
theorem RGc_s {m wi b t K d : Nat} {dd : Int32} {A : Nat → Nat → Nat} {X : Nat → Nat → Int32} (h : RGc m wi b t A X) (hd : 3 ≤ K → dd = nI d) : RGc (m + 1) wi (if K = 2 then b + 1 else b) (if 3 ≤ K then t + 1 else t) (acA K m b t d A) (lcX K m b t dd (uX (uX X 1 m (nI (m / wi))) 2 m (nI (m % wi)))) := by
  by_cases h2 : K = 2
  · subst h2
    refine ⟨fun c hc => ?_, fun j hj => ?_, fun j hj => ?_⟩
    · by_cases e : c = m
      · subst e; simp [lcX, acA, uX, uA, upd]
      · have := h.1 c (by omega); simp [lcX, acA, uX, uA, upd, e]; exact this
    · by_cases e : j = b
      · subst e; simp [lcX, acA, uX, uA, upd]
      · have := h.2.1 j (by simp at hj; omega); simp [lcX, acA, uX, uA, upd, e]; exact this
    · have := h.2.2 j (by simpa using hj); simp [lcX, acA, uX, uA, upd]; exact this
  · by_cases h3 : 3 ≤ K
    · refine ⟨fun c hc => ?_, fun j hj => ?_, fun j hj => ?_⟩
      · by_cases e : c = m
        · subst e; simp [lcX, acA, uX, uA, upd, h2, h3]
        · have := h.1 c (by omega); simp [lcX, acA, uX, uA, upd, h2, h3, e]; exact this
      · have := h.2.1 j (by simpa [h2] using hj); simp [lcX, acA, uX, uA, upd, h2, h3]; exact this
      · by_cases e : j = t
        · subst e; simp [lcX, acA, uX, uA, upd, h2, h3, hd h3]
        · have := h.2.2 j (by simp [h3] at hj; omega); simp [lcX, acA, uX, uA, upd, h2, h3, e]; exact this
    · refine ⟨fun c hc => ?_, fun j hj => ?_, fun j hj => ?_⟩
      · by_cases e : c = m
        · subst e; simp [lcX, acA, uX, uA, upd, h2, h3]
        · have := h.1 c (by omega); simp [lcX, acA, uX, uA, upd, h2, h3, e]; exact this
      · have := h.2.1 j (by simpa [h2] using hj); simp [lcX, acA, uX, uA, upd, h2, h3]; exact this
      · have := h.2.2 j (by simpa [h3] using hj); simp [lcX, acA, uX, uA, upd, h2, h3]; exact this
def mcK (K c b t d : Nat) (Y : Nat → Nat → Int32) : Nat → Nat → Int32 := if K = 2 then uX (uX Y 7 c (nI 1)) 8 b (nI c) else if 3 ≤ K then uX (uX (uX (uX Y 7 c (nI (10 + t))) 9 t (nI (K - 3))) 10 t (nI c)) 11 t (nI d) else uX Y 7 c (nI 0)
theorem RMc_s {m b t K d : Nat} {A : Nat → Nat → Nat} {Y : Nat → Nat → Int32} (h : RMc m b t A Y) : RMc (m + 1) (if K = 2 then b + 1 else b) (if 3 ≤ K then t + 1 else t) (acA K m b t d A) (mcK K m b t d Y) := by
  by_cases h2 : K = 2
  · subst h2
    refine ⟨fun c hc => ?_, fun j hj => ?_, fun j hj => ?_⟩
    · by_cases e : c = m
      · subst e; simp [mcK, acA, uX, uA, upd]
      · have := h.1 c (by omega); simp [mcK, acA, uX, uA, upd, e]; exact this
    · by_cases e : j = b
      · subst e; simp [mcK, acA, uX, uA, upd]
      · have := h.2.1 j (by simp at hj; omega); simp [mcK, acA, uX, uA, upd, e]; exact this
    · have := h.2.2 j (by simpa using hj); simp [mcK, acA, uX, uA, upd]; exact this
  · by_cases h3 : 3 ≤ K
    · refine ⟨fun c hc => ?_, fun j hj => ?_, fun j hj => ?_⟩
      · by_cases e : c = m
        · subst e; simp [mcK, acA, uX, uA, upd, h2, h3]
        · have := h.1 c (by omega); simp [mcK, acA, uX, uA, upd, h2, h3, e]; exact this
      · have := h.2.1 j (by simpa [h2] using hj); simp [mcK, acA, uX, uA, upd, h2, h3]; exact this
      · by_cases e : j = t
        · subst e; simp [mcK, acA, uX, uA, upd, h2, h3]
        · have := h.2.2 j (by simp [h3] at hj; omega); simp [mcK, acA, uX, uA, upd, h2, h3, e]; exact this
    · refine ⟨fun c hc => ?_, fun j hj => ?_, fun j hj => ?_⟩
      · by_cases e : c = m
        · subst e; simp [mcK, acA, uX, uA, upd, h2, h3]
        · have := h.1 c (by omega); simp [mcK, acA, uX, uA, upd, h2, h3, e]; exact this
      · have := h.2.1 j (by simpa [h2] using hj); simp [mcK, acA, uX, uA, upd, h2, h3]; exact this
      · have := h.2.2 j (by simpa [h3] using hj); simp [mcK, acA, uX, uA, upd, h2, h3]; exact this
theorem WFc_s {m b t K d : Nat} {A : Nat → Nat → Nat} (h : WFc m b t A) (hK : K ≤ 5) (hd : 3 ≤ K → 1 ≤ d ∧ d ≤ 9) : WFc (m + 1) (if K = 2 then b + 1 else b) (if 3 ≤ K then t + 1 else t) (acA K m b t d A) := by
  by_cases h2 : K = 2
  · subst h2
    refine ⟨fun c hc => ?_, fun j hj => ?_, fun j hj => ?_⟩
    · by_cases e : c = m
      · subst e; simp [acA, uA]
      · have := h.1 c (by omega); simp [acA, uA, e]; exact this
    · by_cases e : j = b
      · subst e; simp [acA, uA]
      · have := h.2.1 j (by simp at hj; omega); simp [acA, uA, e] <;> omega
    · have := h.2.2 j (by simpa using hj); simp [acA, uA] <;> omega
  · by_cases h3 : 3 ≤ K
    · have hdd := hd h3
      refine ⟨fun c hc => ?_, fun j hj => ?_, fun j hj => ?_⟩
      · by_cases e : c = m
        · subst e; simp [acA, uA, h2, h3] <;> omega
        · have := h.1 c (by omega); simp [acA, uA, h2, h3, e] <;> omega
      · have := h.2.1 j (by simpa [h2] using hj); simp [acA, uA, h2, h3] <;> omega
      · by_cases e : j = t
        · subst e; simp [acA, uA, h2, h3] <;> omega
        · have := h.2.2 j (by simp [h3] at hj; omega); simp [acA, uA, h2, h3, e] <;> omega
    · refine ⟨fun c hc => ?_, fun j hj => ?_, fun j hj => ?_⟩
      · by_cases e : c = m
        · subst e; simp [acA, uA, h2, h3]
        · have := h.1 c (by omega); simp [acA, uA, h2, h3, e] <;> omega
      · have := h.2.1 j (by simpa [h2] using hj); simp [acA, uA, h2, h3] <;> omega
      · have := h.2.2 j (by simpa [h3] using hj); simp [acA, uA, h2, h3] <;> omega
section PAR2
variable {E : Nat → Int32} {len wi : Nat} {S D : Nat → Int32} {Y : Nat → Nat → Int32}
theorem mcT_tcT {p be th : Nat} (h : tcO E len p be th = true) : mcT E len p th = tcT E len p th := by
  have ho := tcO_t h
  unfold mcT tcT
  by_cases q : 3 ≤ knd E len p
  · rw [if_pos ⟨q, ho.2.2 q⟩, if_pos ⟨q, (ho.2.2 q).1⟩]
  · rw [if_neg (fun r => q r.1), if_neg (fun r => q r.1)]
theorem tR_g0 {m : Nat} (hok : (tR E len wi S D m).1 = true) (h0 : m % wi = 0) (h : sgB E len (tR E len wi S D m).2.1.1 59 = false) : tR E len wi S D (m + 1) = (false, (tR E len wi S D m).2) := by
  rw [tR]
  simp only [hok, h0, h]
  rfl
theorem tR_g1 {m : Nat} (hok : (tR E len wi S D m).1 = true) (h0 : m % wi = 0 → sgB E len (tR E len wi S D m).2.1.1 59 = true) : tR E len wi S D (m + 1) = (tcO E len (pAt E len wi S D m) (tR E len wi S D m).2.1.2.1 (tR E len wi S D m).2.1.2.2, (tcP E len (pAt E len wi S D m) (tR E len wi S D m).2.1.2.1 (tR E len wi S D m).2.1.2.2, tcB E len (pAt E len wi S D m) (tR E len wi S D m).2.1.2.1, tcT E len (pAt E len wi S D m) (tR E len wi S D m).2.1.2.2), (upd (tR E len wi S D m).2.2.1 m (cdT E len (pAt E len wi S D m)), tcD E len (pAt E len wi S D m) (tR E len wi S D m).2.1.2.2 m (tR E len wi S D m).2.2.2)) := by
  have q : ¬ (m % wi = 0 ∧ sgB E len (tR E len wi S D m).2.1.1 59 = false) := fun r => by
    have := h0 r.1
    rw [r.2] at this
    cases this
  rw [tR]
  simp only [hok, q, pAt]
  rfl
theorem mR_tR : ∀ m, (mR E len wi Y m).1 = (tR E len wi S D m).1 ∧ (mR E len wi Y m).2.1.1 = (tR E len wi S D m).2.1.1 ∧ ((tR E len wi S D m).1 = true → (mR E len wi Y m).2.1.2.1 = (tR E len wi S D m).2.1.2.1 ∧ (mR E len wi Y m).2.1.2.2 = (tR E len wi S D m).2.1.2.2)
  | 0 => ⟨rfl, rfl, fun _ => ⟨rfl, rfl⟩⟩
  | m + 1 => by
    have ih := mR_tR m
    cases h : (tR E len wi S D m).1
    · rw [tR_stop' h (Nat.le_succ m), mR_stop' (ih.1.trans h) (Nat.le_succ m)]
      exact ih
    · obtain ⟨hb, ht⟩ := ih.2.2 h
      have hm := ih.1.trans h
      by_cases q : m % wi = 0
      · cases hs : sgB E len (tR E len wi S D m).2.1.1 59
        · rw [mR_semi hm q (by rw [ih.2.1]; exact hs), tR_g0 h q hs]
          exact ⟨rfl, ih.2.1, fun c => by cases c⟩
        · rw [mR_go0 hm q (by rw [ih.2.1]; exact hs), tR_g1 h (fun _ => hs), ih.2.1, hb, ht, pAt, if_pos q]
          exact ⟨rfl, rfl, fun c => ⟨rfl, mcT_tcT c⟩⟩
      · rw [mR_go1 hm q, tR_g1 h (fun r => absurd r q), ih.2.1, hb, ht, pAt, if_neg q]
        exact ⟨rfl, rfl, fun c => ⟨rfl, mcT_tcT c⟩⟩
theorem mR_step {m : Nat} (h : (tR E len wi S D (m + 1)).1 = true) : (mR E len wi Y (m + 1)).2.2 = mcK (kAt E len wi S D m) m (tR E len wi S D m).2.1.2.1 (tR E len wi S D m).2.1.2.2 (dgN E len (pAt E len wi S D m + 1) 1 9) (mR E len wi Y m).2.2 := by
  have h0 := tR_ok_lt h (Nat.le_succ m)
  have ih := mR_tR (E := E) (len := len) (wi := wi) (S := S) (D := D) (Y := Y) m
  obtain ⟨hb, ht⟩ := ih.2.2 h0
  have hm := ih.1.trans h0
  have hs := tR_step h
  have ho := tcO_t hs.1
  have e : (mR E len wi Y (m + 1)).2.2 = mcY E len (pAt E len wi S D m) (tR E len wi S D m).2.1.2.1 (tR E len wi S D m).2.1.2.2 m (mR E len wi Y m).2.2 := by
    by_cases q : m % wi = 0
    · cases hs1 : sgB E len (tR E len wi S D m).2.1.1 59
      · rw [tR_g0 h0 q hs1] at h; cases h
      · rw [mR_go0 hm q (by rw [ih.2.1]; exact hs1), ih.2.1, hb, ht, pAt, if_pos q]
    · rw [mR_go1 hm q, ih.2.1, hb, ht, pAt, if_neg q]
  rw [e]
  unfold mcY mcK kAt
  have hk5 := knd_le (E := E) (len := len) (pAt E len wi S D m)
  by_cases h1 : knd E len (pAt E len wi S D m) = 1
  · rw [if_pos h1, if_neg (by omega), if_neg (by omega)]
  · rw [if_neg h1]
    by_cases h2 : knd E len (pAt E len wi S D m) = 2
    · rw [if_pos h2, if_pos h2, if_neg (ho.2.1 h2)]
    · have h3 : 3 ≤ knd E len (pAt E len wi S D m) := by have := ho.1; omega
      rw [if_neg h2, if_neg h2, if_neg ho.1, if_neg (ho.2.2 h3).1, if_neg (ho.2.2 h3).2, if_pos h3]
theorem cnt_s {m : Nat} (h : (tR E len wi S D (m + 1)).1 = true) : (tR E len wi S D (m + 1)).2.1.2.1 = (if kAt E len wi S D m = 2 then (tR E len wi S D m).2.1.2.1 + 1 else (tR E len wi S D m).2.1.2.1) ∧ (tR E len wi S D (m + 1)).2.1.2.2 = (if 3 ≤ kAt E len wi S D m then (tR E len wi S D m).2.1.2.2 + 1 else (tR E len wi S D m).2.1.2.2) := by
  have hs := tR_step h
  have ho := tcO_t hs.1
  rw [hs.2]
  simp only []
  unfold tcB tcT kAt
  constructor
  · by_cases q : knd E len (pAt E len wi S D m) = 2
    · rw [if_pos q, if_pos ⟨q, ho.2.1 q⟩]
    · rw [if_neg q, if_neg (fun r => q r.1)]
  · by_cases q : 3 ≤ knd E len (pAt E len wi S D m)
    · rw [if_pos q, if_pos ⟨q, (ho.2.2 q).1⟩]
    · rw [if_neg q, if_neg (fun r => q r.1)]
theorem read_R : ∀ {M : Nat}, (tR E len wi S D M).1 = true → RMc M (tR E len wi S D M).2.1.2.1 (tR E len wi S D M).2.1.2.2 (aR E len wi S D M) (mR E len wi Y M).2.2
  | 0, _ => ⟨fun c h => absurd h (Nat.not_lt_zero _), fun c h => absurd h (Nat.not_lt_zero _), fun c h => absurd h (Nat.not_lt_zero _)⟩
  | M + 1, h => by
    have ih := read_R (tR_ok_lt h (Nat.le_succ M))
    rw [(cnt_s h).1, (cnt_s h).2, mR_step h, aR]
    exact RMc_s ih
theorem lay_R {D' : Nat → Int32} {X : Nat → Nat → Int32} : ∀ {M : Nat}, (tR E len wi S D M).1 = true → (∀ j, j < M → 3 ≤ kAt E len wi S D j → D' j = nI (dgN E len (pAt E len wi S D j + 1) 1 9)) → RGc M wi (tR E len wi S D M).2.1.2.1 (tR E len wi S D M).2.1.2.2 (aR E len wi S D M) (lR (kAt E len wi S D) D' wi X M).2
  | 0, _, _ => ⟨fun c h => absurd h (Nat.not_lt_zero _), fun c h => absurd h (Nat.not_lt_zero _), fun c h => absurd h (Nat.not_lt_zero _)⟩
  | M + 1, h, hd => by
    have h0 := tR_ok_lt h (Nat.le_succ M)
    have ih := lay_R (X := X) h0 (fun j hj => hd j (by omega))
    rw [(cnt_s h).1, (cnt_s h).2, lR, aR, lR_cnt h0]
    exact RGc_s ih (hd M (Nat.lt_succ_self M))
theorem wf_R : ∀ {M : Nat}, (tR E len wi S D M).1 = true → WFc M (tR E len wi S D M).2.1.2.1 (tR E len wi S D M).2.1.2.2 (aR E len wi S D M)
  | 0, _ => ⟨fun c h => absurd h (Nat.not_lt_zero _), fun c h => absurd h (Nat.not_lt_zero _), fun c h => absurd h (Nat.not_lt_zero _)⟩
  | M + 1, h => by
    have h0 := tR_ok_lt h (Nat.le_succ M)
    have ih := wf_R h0
    have ho := tcO_t (tR_step h).1
    rw [(cnt_s h).1, (cnt_s h).2, aR]
    exact WFc_s ih (knd_le _) (fun q => ⟨dgN_ge (by decide) (ho.2.2 q).2, dgN_le (by decide)⟩)
end PAR2
