/-! sheets -/
def shF (qs : Nat → Nat) : Nat → Option Nat := fun j => if j < 4 then some (qs j) else none
def wOne (cI : ClassId) (s r : Nat) (h : Bool) (la le : Nat) (C : Nat → Int32) : va_W := [(s, .inr (1, [.ref r, .int (bI h), .int (nI la), .int (nI le)])), (r, .inl (cI, 100, .inl C))]
def wSh (cS cI : ClassId) (r0 : Nat) (qs qr : Nat → Nat) (hs : Nat → Bool) (la le : Nat → Nat) (C : Nat → Nat → Int32) : va_W := [(r0, .inl (cS, 4, .inr (.inr (.inr (.inr (shF qs)))))), (qs 0, .inr (1, [.ref (qr 0), .int (bI (hs 0)), .int (nI (la 0)), .int (nI (le 0))])), (qr 0, .inl (cI, 100, .inl (C 0))), (qs 1, .inr (1, [.ref (qr 1), .int (bI (hs 1)), .int (nI (la 1)), .int (nI (le 1))])), (qr 1, .inl (cI, 100, .inl (C 1))), (qs 2, .inr (1, [.ref (qr 2), .int (bI (hs 2)), .int (nI (la 2)), .int (nI (le 2))])), (qr 2, .inl (cI, 100, .inl (C 2))), (qs 3, .inr (1, [.ref (qr 3), .int (bI (hs 3)), .int (nI (la 3)), .int (nI (le 3))])), (qr 3, .inl (cI, 100, .inl (C 3)))]
def uB (h : Nat → Bool) (k : Nat) (v : Bool) : Nat → Bool := fun i => if i = k then v else h i
def uC (C : Nat → Nat → Int32) (k : Nat) (g : Nat → Int32) : Nat → Nat → Int32 := fun i => if i = k then g else C i
def fillz (C : Nat → Int32) (k : Nat) : Nat → Int32 := fun i => if i < k then 0 else C i
theorem fillz_0 (C : Nat → Int32) : fillz C 0 = C := by funext i; simp [fillz]
theorem fillz_s (C : Nat → Int32) (k : Nat) : upd (fillz C k) k (nI 0) = fillz C (k + 1) := by
  funext i
  unfold upd fillz
  by_cases h : i = k
  · subst h; simp; rfl
  · simp only [h, if_false]
    by_cases h2 : i < k
    · rw [if_pos h2, if_pos (by omega)]
    · rw [if_neg h2, if_neg (by omega)]
def cutL (la : Nat) (v : Int32) : Int32 := if la = 0 then v.toInt8.toInt32 else if la = 1 then v.toInt16.toInt32 else v
def faR (h : Bool) (la lane : Nat) : Nat := if h = true then (if la = lane then 0 else 2) else 1
def spanB (i n : Int32) (le : Nat) : Bool := decide (0 ≤ i.toInt ∧ 0 ≤ n.toInt ∧ i.toInt + n.toInt ≤ le)
theorem span_t {i n : Int32} {le : Nat} (hle : le ≤ 100) (h : spanB i n le = true) : ∃ a b, a + b ≤ le ∧ i = nI a ∧ n = nI b := by
  have h1 := of_decide_eq_true h
  refine ⟨i.toInt.toNat, n.toInt.toNat, by omega, ?_, ?_⟩
  · apply Int32.toInt_inj.mp; rw [nI_toInt (by omega)]; omega
  · apply Int32.toInt_inj.mp; rw [nI_toInt (by omega)]; omega
theorem span_nI {a b le : Nat} (hle : le ≤ 100) (h : a + b ≤ le) : spanB (nI a) (nI b) le = true := decide_eq_true ⟨by rw [nI_toInt (by omega)]; omega, by rw [nI_toInt (by omega)]; omega, by rw [nI_toInt (by omega), nI_toInt (by omega)]; omega⟩
theorem i0 : (0 : Int32).toInt = 0 := rfl
section INS3
variable {p : Program} {l : Launch} {e : Env} {R : Room} {s : State} {m : MethodId} {args : Array Value} {below : List Frame} {meth : Method} {c : Code} {H : Heap} {locs : List Loc} {cells slots : Nat} {Q : State → Prop}
variable {cc : ByteArray} {pc : Nat} {ls : Array Slot} {rest : List Value} {D : va_G} {cl : List vw_C} {A : Nat → Prop} {a : Nat} {tys : List (ClassId × FieldType)} {ws : va_W} {H0 : Heap}
theorem x_aald (hx : p.tables.exec = Jvm.exec) (hb : c.code = cc) (hK : va_K D cl tys s) (hP : va_P D cl ws H) (q0 t0 : Nat) {cA : ClassId} {C : String} {n : Nat} {f : Nat → Option Nat} (ha : ws[q0]? = some (a, .inl (cA, n, .inr (.inr (.inr (.inr f)))))) (ht : tys[t0]? = some (cA, .object C)) {j v : Nat} (hj : j < n) (hn : n < 2 ^ 31) (hv : f j = some v) (hdg : decode cc pc = .ok (.aaload, 1))
    (kk : W p l e R s m args below meth c H locs cells slots Q (F0 m (pc + 1) ls (.ref v :: rest))) : W p l e R s m args below meth c H locs cells slots Q (F0 m pc ls (.int (nI j) :: .ref a :: rest)) := va_aldq hx hb hK hP q0 t0 ha ht (vp_in_nI hj hn) hdg (by rw [nI_clamp (Nat.lt_trans hj hn), hv]; exact kk)
theorem x_copy (hx : p.tables.exec = Jvm.exec) (hb : c.code = cc) (hml : c.maxLocals = ls.size) {own : String} {index : Nat} (hown : s.vm.findClass own = some m.cls) (hlink : (Cond.methodLink own index arraycopyName).before args s = true) (hnat : (Cond.native arraycopyName).before args s = true) (hstat : (Cond.static arraycopyName).before args s = true) (hini : (Cond.initialized "java/lang/System").before args s = true)
    (hK : va_K D cl tys s) (hP : va_P D cl ws H) (hD : va_D A ws) (hS : va_S A H0 H locs) (q0 q1 t0 : Nat) {a0 : Nat} {c0 : ClassId} {n0 n1 : Nat} {f g : Nat → Int32} (ha0 : ws[q0]? = some (a0, .inl (c0, n0, .inl f))) (ha1 : ws[q1]? = some (a, .inl (c0, n1, .inl g))) (ht0 : tys[t0]? = some (c0, .int))
    {sp dp n : Nat} (h4 : sp + n ≤ n0) (h5 : dp + n ≤ n1) (hb0 : n0 < 2 ^ 31) (hb1 : n1 < 2 ^ 31) (hframes : 1 ≤ R.frames) (hlocals : (rest.map fun v => v.category).sum + (nativeFrameWords "java/lang/System" "arraycopy" 5 + 11) ≤ R.locals) {wn : va_W} (hwn : ws.set q1 (a, .inl (c0, n1, .inl (va_cpy f g sp dp n))) = wn) (hdg : decode cc pc = .ok (.invokestatic index, 3))
    (kk : ∀ (H1 : Heap) (locs1 : List Loc), va_P D cl wn H1 → va_S A H0 H1 locs1 → W p l e R s m args below meth c H1 locs1 cells slots Q (F0 m (pc + 3) ls rest)) : W p l e R s m args below meth c H locs cells slots Q (F0 m pc ls (.int (nI n) :: .int (nI dp) :: .ref a :: .int (nI sp) :: .ref a0 :: rest)) := by
  subst hwn
  have e1 : (nI sp).toNatClampNeg = sp := nI_clamp (by omega)
  have e2 : (nI dp).toNatClampNeg = dp := nI_clamp (by omega)
  have e3 : (nI n).toNatClampNeg = n := nI_clamp (by omega)
  refine va_copyi hx hb hml hown hlink hnat hstat hini hK hP hD hS q0 q1 t0 t0 ha0 ha1 ht0 ht0 rfl (nI_pos (by omega)) (nI_pos (by omega)) (nI_pos (by omega)) (by rw [e1, e3]; exact h4) (by rw [e2, e3]; exact h5) (fun i _ => rfl) hframes hlocals hdg (fun H1 locs1 hP1 _ hS1 => kk H1 locs1 ?_ hS1)
  rw [e1, e2, e3] at hP1
  exact hP1
end INS3
/-! their calls' answers, faults and changes -/
def uSheet (k lane n : Int32) : Int32 := if inB k 4 = true then (if inB lane 3 = true ∧ n ≤ 100 then (if n < 0 then -14 else 1) else -2) else -1
def fSheet (k lane n : Int32) : Int32 := if inB k 4 = true ∧ inB lane 3 = true ∧ n < 0 then 4 else 0
def okSheet (k lane n : Int32) : Bool := inB k 4 && (inB lane 3 && inB n 101)
def uLose (hs : Nat → Bool) (k : Int32) : Int32 := if inB k 4 = true then bI (hs (xn k)) else -1
def uPut (hs : Nat → Bool) (le : Nat → Nat) (k i : Int32) : Int32 := if inB k 4 = true then (if hs (xn k) = true then (if inB i (le (xn k)) = true then 1 else -13) else -11) else -1
def fPut (hs : Nat → Bool) (le : Nat → Nat) (k i : Int32) : Int32 := if inB k 4 = true then (if hs (xn k) = true then (if inB i (le (xn k)) = true then 0 else 3) else 1) else 0
def okPut (hs : Nat → Bool) (le : Nat → Nat) (k i : Int32) : Bool := inB k 4 && (hs (xn k) && inB i (le (xn k)))
def uCell (hs : Nat → Bool) (la le : Nat → Nat) (C : Nat → Nat → Int32) (k i lane : Int32) : Int64 := if inB k 4 = true ∧ inB lane 3 = true then (if faR (hs (xn k)) (la (xn k)) (xn lane) = 0 ∧ inB i (le (xn k)) = true then (C (xn k) (xn i)).toInt64 else LOSTv) else LOSTv
def fCell (hs : Nat → Bool) (la le : Nat → Nat) (k i lane : Int32) : Int32 := if inB k 4 = true ∧ inB lane 3 = true then (if faR (hs (xn k)) (la (xn k)) (xn lane) = 0 then (if inB i (le (xn k)) = true then 0 else 3) else nI (faR (hs (xn k)) (la (xn k)) (xn lane))) else 0
def uCopy (hs : Nat → Bool) (la le : Nat → Nat) (k i o j n : Int32) : Int32 := if inB k 4 = true ∧ inB o 4 = true then (if hs (xn k) = true ∧ hs (xn o) = true then (if la (xn k) = la (xn o) then (if spanB i n (le (xn k)) = true ∧ spanB j n (le (xn o)) = true then n else -13) else -12) else -11) else -1
def fCopy (hs : Nat → Bool) (la le : Nat → Nat) (k i o j n : Int32) : Int32 := if inB k 4 = true ∧ inB o 4 = true then (if hs (xn k) = true ∧ hs (xn o) = true then (if la (xn k) = la (xn o) then (if spanB i n (le (xn k)) = true ∧ spanB j n (le (xn o)) = true then 0 else 3) else 2) else 1) else 0
def okCopy (hs : Nat → Bool) (la le : Nat → Nat) (k i o j n : Int32) : Bool := (inB k 4 && inB o 4) && ((hs (xn k) && hs (xn o)) && (decide (la (xn k) = la (xn o)) && (spanB i n (le (xn k)) && spanB j n (le (xn o)))))
theorem sp_sub {i : Int32} {le : Nat} (hle : le ≤ 100) (h0 : ¬ i < 0) (h1 : ¬ nI le < i) : (nI le - i).toInt = (le : Int) - i.toInt := by
  have a := Int32.le_iff_toInt_le.mp (Int32.not_lt.mp h0)
  have b := Int32.le_iff_toInt_le.mp (Int32.not_lt.mp h1)
  rw [nI_toInt (by omega)] at b
  rw [i0] at a
  rw [fb_subI (by rw [nI_toInt (by omega)]; omega) (by rw [nI_toInt (by omega)]; omega), nI_toInt (by omega)]
