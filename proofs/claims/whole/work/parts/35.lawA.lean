/-! THE CLAIM OUT OF ONE WALK OF THE LAW'S BODY. Your part is whole_start (and what it stands on); all else here is the same for every law, but numbers. -/
def R_law : String := "StatueSquareLaw"
def lw_P (b : Addr) (xs : List Int32) (args : Array Value) (s : State) : Prop := args = #[.ref b] ∧ s.IntsAt b xs ∧ xs.length ≤ 3072 ∧ (Jvm.Cond.and given_1 narrow_1).before args s = true
def lw_Q (_ : Array Value) (s : State) (o : Outcome) (t : State) : Prop := o = .returned (some (.int 1)) ∧ Framed s o t [] 600000 7302250
def lw_Z (below : List Frame) (a : Array Value) (s : State) : State → Prop := fun t => ∃ o, t.status = .running ∧ Ended t below o ∧ lw_Q a s o t
/-- the law's own end, with 1 on the stack, nothing written that was there before, its room as the claim has it -/
theorem lw_ret {p : Program} {l : Launch} {e : Env} {s : State} {m : MethodId} {below : List Frame} {meth : Method} {c : Code} {b : Nat} (hx : p.tables.exec = Jvm.exec) (hb : c.code = code) (hr : meth.sig.returnType = ret) (hlocks : meth.locks = false) {pc : Nat} {H : Heap} {ls : Array Slot} (hdg : decode code pc = .ok (.ireturn, 1)) : W p l e room_1 s m #[Value.ref b] below meth c H [] 600000 7302250 (lw_Z below #[Value.ref b] s) (F0 m pc ls [.int 1]) := by
  intro T hT X
  obtain ⟨fs, hret, hrun, hended, hW, hframe⟩ := X.leave (v := some (.int 1)) (hlocks := hlocks) (fun h => by rw [hr] at h; cases h)
  have hmeth' : T.vm.method? m = some meth := X.method'
  refine ⟨T.setFrames fs, ?_, .returned (some (.int 1)), hrun, hended, rfl, ⟨_, rfl⟩, hW, hframe⟩
  jvm_step X.here [X.here.top, hx, hb, hdg, hmeth', hr, ret, narrow_b1]
  (try refine ⟨rfl, ?_⟩); (try refine ⟨rfl, ?_⟩)
  first | (intro acts; rw [hret _ acts rfl rfl rfl]) | rw [hret _ _ rfl rfl rfl]
  exact Steps.refl _
/-- what holds at the law's entry: the machine, the code, the tables' words (any of lw_tbl by 'hts w (by decide +kernel)'), the script of L ints xs at the cell b, what the Statement gives of the start (any of its parts by flat_of_before) -/
def lw_At (p : Program) (s : State) (m : MethodId) (meth : Method) (c : Code) (b L : Nat) (xs : Nat → Int32) : Prop :=
  p.tables.exec = Jvm.exec ∧ c.code = code ∧ meth.sig.returnType = ret ∧ c.maxLocals = 4 ∧ s.vm.findClass R_law = some m.cls ∧ (∀ w ∈ lw_tbl, w.before #[Value.ref b] s = true) ∧ va_X b L xs s s.heap ∧ b < s.heap.size ∧ meth.locks = false ∧ (Jvm.Cond.and given_1 narrow_1).before #[Value.ref b] s = true
section LROW
variable {p : Program} {l : Launch} {e : Env} {R : Room} {s : State} {m : MethodId} {args : Array Value} {below : List Frame} {meth : Method} {c : Code} {H : Heap} {locs : List Loc} {cells slots : Nat} {Q : State → Prop}
variable {cc : ByteArray} {pc : Nat} {ls : Array Slot} {rest : List Value} {A : Nat → Prop} {H0 : Heap}
theorem x_sld (hx : p.tables.exec = Jvm.exec) (hb : c.code = cc) {b L : Nat} {xs : Nat → Int32} (hX : va_X b L xs s H0) (hbl : b < H0.size) (hbA : ¬ A b) (hS : va_S A H0 H locs) {j : Nat} (hj : j < L) (hL : L < 2 ^ 31) (hdg : decode cc pc = .ok (.iaload, 1))
    (kk : W p l e R s m args below meth c H locs cells slots Q (F0 m (pc + 1) ls (.int (xs j) :: rest))) : W p l e R s m args below meth c H locs cells slots Q (F0 m pc ls (.int (nI j) :: .ref b :: rest)) := va_sld hx hb hX hbl hbA hS (vp_in_nI hj hL) hdg (by rw [nI_clamp (Nat.lt_trans hj hL)]; exact kk)
end LROW
theorem eqT {args : Array Value} {s : State} {tm : Term} {z : Int32} (h : (Cond.eq tm (.int z)).before args s = true) : tm.eval args s none [] s = some (.int z) := by
  cases hv : tm.eval args s none [] s with
  | none => simp [Cond.before, Cond.holds, Cond.value, hv] at h
  | some w =>
    have hz : (Term.int z).eval args s none [] s = some (.int z) := rfl
    simp only [Cond.before, Cond.holds, Cond.value, hv, hz] at h
    cases w <;> simp_all
theorem hpS_of {args : Array Value} {s : State} (hg : (Jvm.Cond.and given_1 narrow_1).before args s = true) (hts : ∀ w ∈ lw_tbl, w.before args s = true) : ∃ tH, hpS tH (fun q : Nat => s.heap.size ≤ q) s s.heap := by
  have hs := flat_of_before _ hg
  have hA : ∀ a : Nat, a < s.heap.size → ¬ (fun q : Nat => s.heap.size ≤ q) a := fun a h => Nat.not_le.mpr h
  have harr : (Cond.arrayOf (.static "StatueSquare$Ground" "PART_HEIGHTS" "[I") .int).before args s = true := hs _ (by decide +kernel)
  have hlen : (Cond.eq (.length (.static "StatueSquare$Ground" "PART_HEIGHTS" "[I")) (.int 4)).before args s = true := hs _ (by decide +kernel)
  have e0 : (Cond.eq (.elem (.static "StatueSquare$Ground" "PART_HEIGHTS" "[I") (.int 0)) (.int 1)).before args s = true := hs _ (by decide +kernel)
  have e1 : (Cond.eq (.elem (.static "StatueSquare$Ground" "PART_HEIGHTS" "[I") (.int 1)) (.int 3)).before args s = true := hs _ (by decide +kernel)
  have e2 : (Cond.eq (.elem (.static "StatueSquare$Ground" "PART_HEIGHTS" "[I") (.int 2)) (.int 5)).before args s = true := hs _ (by decide +kernel)
  have e3 : (Cond.eq (.elem (.static "StatueSquare$Ground" "PART_HEIGHTS" "[I") (.int 3)) (.int 7)).before args s = true := hs _ (by decide +kernel)
  obtain ⟨tH, ht, hT⟩ := va_Tof (N := 4) (f := phF) (A := fun q : Nat => s.heap.size ≤ q) (by decide) harr (eqT hlen) (fun j hj => by
    rcases (show j = 0 ∨ j = 1 ∨ j = 2 ∨ j = 3 by omega) with rfl | rfl | rfl | rfl
    · exact eqT e0
    · exact eqT e1
    · exact eqT e2
    · exact eqT e3) hA
  exact ⟨tH, va_Zref (hts _ (by decide +kernel)) (hts _ (by decide +kernel)) ht hA, hT⟩
theorem lgc_self (x : Int64) : lg_cmp x x = 0 := by
  unfold lg_cmp
  rw [if_neg (show ¬ x > x from Int64.lt_irrefl), if_pos rfl]
theorem and31 (x : Int32) : ∃ k, k < 32 ∧ x &&& nI 31 = nI k := by
  refine ⟨(x &&& nI 31).toBitVec.toNat, ?_, ?_⟩
  · have h : (x &&& nI 31).toBitVec.toNat = x.toBitVec.toNat &&& 31 := rfl
    rw [h]
    exact Nat.lt_of_le_of_lt Nat.and_le_right (by decide)
  · apply Int32.toBitVec_inj.mp
    show _ = BitVec.ofNat 32 _
    simp
theorem li_i {L i : Nat} (hL : L ≤ 3072) (hi : i ≤ 4000) (h : ¬ Int32.ofNat L - nI 6 < nI i) : i + 6 ≤ L := by
  have h1 := Int32.le_iff_toInt_le.mp (Int32.not_lt.mp h)
  have e : (Int32.ofNat L - nI 6).toInt = (L : Int) - 6 := by
    have := fb_rng (Int32.ofNat L - nI 6)
    rw [Int32.toInt_sub]
    show (((nI L).toInt - (nI 6).toInt)).bmod _ = _
    rw [nI_toInt (by omega), nI_toInt (by decide)]
    exact Int.bmod_eq_of_le (by omega) (by omega)
  rw [e, nI_toInt (by omega)] at h1
  omega
section KEEP2
variable {hs : Nat → Bool} {la le : Nat → Nat} {C : Nat → Nat → Int32} {n : Nat → Nat} {A : Nat → Nat → Nat} {X : Nat → Nat → Int32} {mb : Int32} {f : Nat → Int32} {Y : Nat → Nat → Int32} {tr fl : Int32}
theorem LI_sheet (h : LI hs la le C n A X mb f Y tr fl) (k lane m : Int32) : LI (if okSheet k lane m = true then uB hs (xn k) true else hs) (if okSheet k lane m = true then uN la (xn k) (xn lane) else la) (if okSheet k lane m = true then uN le (xn k) (xn m) else le) (if okSheet k lane m = true then uC C (xn k) (fillz (C (xn k)) (xn m)) else C) n A X mb (uF f 0 (fSheet k lane m)) (if okSheet k lane m = true then uY (uX (uX Y 12 (xn k) (nI (xn m))) 13 (xn k) (nI (xn lane))) 14 (zf (Y 14) (100 * xn k) (xn m)) else Y) tr (fSheet k lane m) := by
  refine LI_fl (fl := fl) (LI_sh h (fun a ha => ?_) (sh_sheet h.2.2.2.1 k lane m)) _
  split
  · simp only [uY, uX]
    rw [if_neg (by omega), if_neg (by omega), if_neg (by omega)]
  · rfl
theorem LI_lose (h : LI hs la le C n A X mb f Y tr fl) (k : Int32) : LI (if inB k 4 = true then uB hs (xn k) false else hs) la le C n A X mb f (if inB k 4 = true then uX Y 12 (xn k) (-1) else Y) tr fl := by
  refine LI_sh h (fun a ha => ?_) (sh_lose h.2.2.2.1 k)
  split
  · simp only [uX]
    rw [if_neg (by omega)]
  · rfl
theorem LI_put (h : LI hs la le C n A X mb f Y tr fl) (k i v : Int32) : LI hs la le (if okPut hs le k i = true then uC C (xn k) (upd (C (xn k)) (xn i) (cutL (la (xn k)) v)) else C) n A X mb (uF f 0 (fPut hs le k i)) (if okPut hs le k i = true then uX Y 14 (100 * xn k + xn i) (cutL (la (xn k)) v) else Y) tr (fPut hs le k i) := by
  refine LI_fl (fl := fl) (LI_sh h (fun a ha => ?_) (sh_put h.2.2.2.1 k i v)) _
  split
  · simp only [uX]
    rw [if_neg (by omega)]
  · rfl
theorem LI_copy (h : LI hs la le C n A X mb f Y tr fl) (k i o d m : Int32) : LI hs la le (if okCopy hs la le k i o d m = true then uC C (xn o) (va_cpy (C (xn k)) (C (xn o)) (xn i) (xn d) (xn m)) else C) n A X mb (uF f 0 (fCopy hs la le k i o d m)) (if okCopy hs la le k i o d m = true then uY (uY Y 15 (va_cpy (Y 14) (Y 15) (100 * xn k + xn i) 0 (xn m))) 14 (va_cpy (va_cpy (Y 14) (Y 15) (100 * xn k + xn i) 0 (xn m)) (Y 14) 0 (100 * xn o + xn d) (xn m)) else Y) tr (fCopy hs la le k i o d m) := by
  refine LI_fl (fl := fl) (LI_sh h (fun a ha => ?_) (sh_copy h.2.2.2.1 k i o d m)) _
  split
  · simp only [uY]
    rw [if_neg (by omega), if_neg (by omega)]
  · rfl
theorem LI_0 : LI (fun _ => false) (fun _ => 0) (fun _ => 0) zX (fun _ => 0) (fun _ _ => 0) zX 0 zA yM0 0 0 := by
  refine ⟨⟨Nat.zero_le _, Nat.zero_le _, Nat.zero_le _, Nat.zero_le _, Nat.zero_le _, Nat.zero_le _, Nat.zero_le _, Nat.zero_le _, by decide, fun c h => absurd h (Nat.not_lt_zero _), fun c h => absurd h (Nat.not_lt_zero _), fun c h => absurd h (Nat.not_lt_zero _)⟩, ⟨fun c h => absurd h (Nat.not_lt_zero _), fun c h => absurd h (Nat.not_lt_zero _), fun c h => absurd h (Nat.not_lt_zero _)⟩, ⟨fun c h => absurd h (Nat.not_lt_zero _), fun c h => absurd h (Nat.not_lt_zero _), fun c h => absurd h (Nat.not_lt_zero _)⟩, fun k hk => ⟨?_, fun q => absurd q Bool.false_ne_true, fun q => absurd q Bool.false_ne_true, Nat.zero_le _, Nat.zero_le _⟩, fun q => absurd q (Nat.not_lt_zero _), fun q => absurd q (Nat.not_lt_zero _), rfl, rfl⟩
  rcases (show k = 0 ∨ k = 1 ∨ k = 2 ∨ k = 3 by omega) with rfl | rfl | rfl | rfl <;> rfl
end KEEP2
