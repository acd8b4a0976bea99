/-! writing: the state's changes -/
def uN (n : Nat → Nat) (k v : Nat) : Nat → Nat := fun i => if i = k then v else n i
def uA (A : Nat → Nat → Nat) (k i v : Nat) : Nat → Nat → Nat := fun a j => if a = k ∧ j = i then v else A a j
def uX (X : Nat → Nat → Int32) (k i : Nat) (v : Int32) : Nat → Nat → Int32 := fun a => if a = k then upd (X k) i v else X a
def uF (f : Nat → Int32) (k : Nat) (v : Int32) : Nat → Int32 := fun i => if i = k then v else f i
def bN (b : Bool) : Nat := if b then 1 else 0
theorem bI_bN (b : Bool) : bI b = nI (bN b) := by cases b <;> rfl
theorem bN_nar (b : Bool) : narrow .boolean (.int (nI (bN b))) = .int (nI (bN b)) := by cases b <;> decide
theorem bN_fit (b : Bool) : fits .boolean (.int (nI (bN b))) = true := by cases b <;> decide
section INS2
variable {p : Program} {l : Launch} {e : Env} {R : Room} {s : State} {m : MethodId} {args : Array Value} {below : List Frame} {meth : Method} {c : Code} {H : Heap} {locs : List Loc} {cells slots : Nat} {Q : State → Prop}
variable {cc : ByteArray} {pc : Nat} {ls : Array Slot} {rest : List Value} {D : va_G} {cl : List vw_C} {A : Nat → Prop} {a : Nat} {tys : List (ClassId × FieldType)} {ws : va_W} {H0 : Heap}
theorem x_zast (hx : p.tables.exec = Jvm.exec) (hb : c.code = cc) (hK : va_K D cl tys s) (hP : va_P D cl ws H) (hD : va_D A ws) (hS : va_S A H0 H locs) (q0 t0 : Nat) {cA : ClassId} {n : Nat} {f : Nat → Int32} (ha : ws[q0]? = some (a, .inl (cA, n, .inl f))) (ht : tys[t0]? = some (cA, .boolean)) {j : Nat} {x : Int32} (hnar : vp_nar .boolean x = x) (hj : j < n) (hn : n < 2 ^ 31) {wn : va_W} (hwn : ws.set q0 (a, .inl (cA, n, .inl (upd f j x))) = wn) (hdg : decode cc pc = .ok (.bastore, 1))
    (kk : ∀ (H1 : Heap) (locs1 : List Loc), va_P D cl wn H1 → va_S A H0 H1 locs1 → W p l e R s m args below meth c H1 locs1 cells slots Q (F0 m (pc + 1) ls rest)) : W p l e R s m args below meth c H locs cells slots Q (F0 m pc ls (.int x :: .int (nI j) :: .ref a :: rest)) := by
  subst hwn
  refine va_zast hx hb hK hP hD hS q0 t0 ha ht (vp_in_nI hj hn) hdg (fun H1 locs1 hP1 _ hS1 => kk H1 locs1 ?_ hS1)
  rw [nI_clamp (Nat.lt_trans hj hn), hnar] at hP1
  exact hP1
end INS2
theorem bI_vpnar (b : Bool) : vp_nar .boolean (bI b) = bI b := by cases b <;> decide
/-! year, cut, price, statue: answer and state -/
def uYear (n : Nat → Nat) (y : Int32) : Int32 := if inB y 31 = true then (if 0 < n 0 * n 1 then nI (n 4) else -3) else -2
def vYear (n : Nat → Nat) (y : Int32) (w : Bool) : Nat → Nat := if inB y 31 = true ∧ 0 < n 0 * n 1 then uN (uN n 4 (xn y)) 5 (bN w) else n
def uCut (n : Nat → Nat) (t : Int32) (is : Bool) : Int32 := if inB t (n 3) = true then (if (n 8).testBit (xn t) = is then 0 else 1) else -1
def vCut (n : Nat → Nat) (t : Int32) (is : Bool) : Nat → Nat := if inB t (n 3) = true ∧ ¬ (n 8).testBit (xn t) = is then uN n 8 (n 8 ^^^ 2 ^ xn t) else n
def in19 (v : Int32) : Bool := decide (1 ≤ v ∧ v ≤ 9)
def uPrice (n : Nat → Nat) (A : Nat → Nat → Nat) (t v : Int32) : Int32 := if inB t (n 3) = true then (if in19 v = true then nI (A 5 (xn t)) else -2) else -1
def okPrice (n : Nat → Nat) (t v : Int32) : Bool := inB t (n 3) && in19 v
def uStatue (n : Nat → Nat) (A : Nat → Nat → Nat) (c b : Int32) : Int32 := if inB c (n 0 * n 1) = true then (if inB b 10 = true then (if A 0 (xn c) = 0 then stI (n 6) else -3) else -2) else -1
def vStatue (n : Nat → Nat) (A : Nat → Nat → Nat) (c b : Int32) : Nat → Nat := if inB c (n 0 * n 1) = true ∧ inB b 10 = true ∧ A 0 (xn c) = 0 then uN (uN n 6 (xn c + 1)) 7 (xn b) else n
theorem in19_t {v : Int32} (h : in19 v = true) : ∃ j, 1 ≤ j ∧ j ≤ 9 ∧ v = nI j := by
  have h1 := of_decide_eq_true h
  have a := Int32.le_iff_toInt_le.mp h1.1
  have b := Int32.le_iff_toInt_le.mp h1.2
  have e1 : (1 : Int32).toInt = 1 := rfl
  have e9 : (9 : Int32).toInt = 9 := rfl
  refine ⟨v.toInt.toNat, by omega, by omega, ?_⟩
  apply Int32.toInt_inj.mp
  rw [nI_toInt (by omega)]
  omega
theorem in19_nI {j : Nat} (h1 : 1 ≤ j) (h9 : j ≤ 9) : in19 (nI j) = true := decide_eq_true ⟨nI_le (a := 1) h1 (by omega), nI_le (b := 9) h9 (by decide)⟩
theorem xor_bit {a t : Nat} (h : a < 1024) (ht : t < 10) : a ^^^ 2 ^ t < 1024 := Nat.xor_lt_two_pow (n := 10) h (Nat.pow_lt_pow_right (by decide) ht)
/-! telling -/
/-- a number that nobody unfolds -/
noncomputable def trc (x : Int32) (k : Nat) : Int32 := Classical.choose (⟨31 * x + nI k, rfl⟩ : ∃ y : Int32, y = 31 * x + nI k)
theorem trc_eq (x : Int32) (k : Nat) : trc x k = nI 31 * x + nI k := Classical.choose_spec (⟨31 * x + nI k, rfl⟩ : ∃ y : Int32, y = 31 * x + nI k)
def uTell (n : Nat → Nat) (A : Nat → Nat → Nat) (t : Int32) : Int32 := if inB t (n 3) = true then (if A 2 (xn t) = 0 then nI (A 4 (xn t)) else if A 2 (xn t) = 1 then nI (A 4 (xn t) + 100) else nI (2 * A 4 (xn t) + 100)) else -1
noncomputable def vTell (n : Nat → Nat) (A : Nat → Nat → Nat) (t tr : Int32) : Int32 := if inB t (n 3) = true then (if A 2 (xn t) = 0 then trc tr 1 else if A 2 (xn t) = 1 then trc (trc tr 2) 1 else trc (trc (trc (trc tr 3) 2) 1) 1) else tr
def uTend (n : Nat → Nat) (A : Nat → Nat → Nat) (t : Int32) : Int32 := if inB t (n 3) = true then (if A 2 (xn t) = 2 then 40 else t) else -1
noncomputable def vTend (n : Nat → Nat) (A : Nat → Nat → Nat) (t tr : Int32) : Int32 := if inB t (n 3) = true then (if A 2 (xn t) = 2 then trc tr 5 else trc tr 4) else tr
def uAs (n : Nat → Nat) (A : Nat → Nat → Nat) (t k : Int32) : Int32 := if inB t (n 3) = true then (if inB k 3 = true then (if A 2 (xn t) < xn k then -12 else 1) else -2) else -1
def vAs (n : Nat → Nat) (A : Nat → Nat → Nat) (t k : Int32) : Int32 := if inB t (n 3) = true ∧ inB k 3 = true ∧ A 2 (xn t) < xn k then 2 else 0
