/-! the ground, laid -/
def wL (cI : ClassId) (q : Nat → Nat) (wd cc : Int32) (b t : Nat) (g : Nat → Int32) (X : Nat → Nat → Int32) : va_W := [(q 0, .inr (0, [.int wd, .int cc, .int (nI b), .int (nI t), .ref (q 1), .ref (q 2), .ref (q 3), .ref (q 4), .ref (q 5), .ref (q 6), .ref (q 7), .ref (q 8), .int (g 12), .int (g 13), .int (g 14), .int (g 15), .int (g 16)])), (q 1, .inl (cI, 42, .inl (X 0))), (q 2, .inl (cI, 42, .inl (X 1))), (q 3, .inl (cI, 42, .inl (X 2))), (q 4, .inl (cI, 12, .inl (X 3))), (q 5, .inl (cI, 10, .inl (X 4))), (q 6, .inl (cI, 10, .inl (X 5))), (q 7, .inl (cI, 10, .inl (X 6))), (q 8, .inl (cI, 10, .inl (X 7)))]
def gN (n : Nat → Nat) : Nat → Int32
  | 12 => nI (n 8)
  | 13 => nI (n 4)
  | 14 => nI (n 5)
  | 15 => stI (n 6)
  | _ => nI (n 7)
def nNew (h w b t : Nat) : Nat → Nat
  | 0 => h
  | 1 => w
  | 2 => b
  | 3 => t
  | _ => 0
def lcX (K c b t : Nat) (d : Int32) (X : Nat → Nat → Int32) : Nat → Nat → Int32 := if K = 2 then uX (uX X 0 c (nI 1)) 3 b (nI c) else if 3 ≤ K then uX (uX (uX (uX (uX X 0 c (nI (10 + t))) 4 t (nI (K - 3))) 5 t (nI c)) 6 t d) 7 t (nI 1) else uX X 0 c (nI 0)
def lR (K : Nat → Nat) (D : Nat → Int32) (wi : Nat) (X : Nat → Nat → Int32) : Nat → (Nat × Nat) × (Nat → Nat → Int32)
  | 0 => ((0, 0), X)
  | m + 1 => ((if K m = 2 then (lR K D wi X m).1.1 + 1 else (lR K D wi X m).1.1, if 3 ≤ K m then (lR K D wi X m).1.2 + 1 else (lR K D wi X m).1.2), lcX (K m) m (lR K D wi X m).1.1 (lR K D wi X m).1.2 (D m) (uX (uX (lR K D wi X m).2 1 m (nI (m / wi))) 2 m (nI (m % wi))))
def sgK (x : Int32) (K : Nat) : Prop := (x = nI 98 ∧ K = 2) ∨ (x = nI 108 ∧ K = 3) ∨ (x = nI 117 ∧ K = 4) ∨ (x = nI 116 ∧ K = 5) ∨ ((¬ x = nI 98 ∧ ¬ x = nI 108 ∧ ¬ x = nI 117 ∧ ¬ x = nI 116) ∧ K = 1)
theorem rk_div {r k wi : Nat} (h : k < wi) : (r * wi + k) / wi = r := by
  rw [Nat.add_comm, Nat.add_mul_div_right _ _ (by omega), Nat.div_eq_of_lt h, Nat.zero_add]
theorem lR_go {K : Nat → Nat} {D : Nat → Int32} {wi r k : Nat} {X : Nat → Nat → Int32} (h : k < wi) : lR K D wi X (r * wi + k + 1) = ((if K (r * wi + k) = 2 then (lR K D wi X (r * wi + k)).1.1 + 1 else (lR K D wi X (r * wi + k)).1.1, if 3 ≤ K (r * wi + k) then (lR K D wi X (r * wi + k)).1.2 + 1 else (lR K D wi X (r * wi + k)).1.2), lcX (K (r * wi + k)) (r * wi + k) (lR K D wi X (r * wi + k)).1.1 (lR K D wi X (r * wi + k)).1.2 (D (r * wi + k)) (uX (uX (lR K D wi X (r * wi + k)).2 1 (r * wi + k) (nI r)) 2 (r * wi + k) (nI k))) := by
  rw [lR, rk_div h, rk_mod h]
