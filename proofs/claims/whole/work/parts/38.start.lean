set_option maxHeartbeats 4000000 in
set_option maxRecDepth 100000 in
theorem kn5 {args : Array Value} {s : State} (hts : ∀ w ∈ wsL_law, w.before args s = true) : ∃ (dC : Nat → ClassId) (dI : Nat → Nat → Nat), ∀ (k : Nat) (q : vw_C), vwCl[k]? = some q → u_Kn s q.1 q.2.1 q.2.2 (dC k) (dI k) := by
  obtain ⟨c0, iS0, hKn0⟩ := u_known (C := RX0) (T := TX0) (N := 17) (n := 17) hts inlX0 (hts (Cond.instantiable RX0 17) (List.mem_of_getElem? (i := 21) rfl))
  obtain ⟨c1, iS1, hKn1⟩ := u_known (C := RX1) (T := TX1) (N := 4) (n := 4) hts inlX1 (hts (Cond.instantiable RX1 4) (List.mem_of_getElem? (i := 14) rfl))
  obtain ⟨c2, iS2, hKn2⟩ := u_known (C := RX2) (T := TX2) (N := 9) (n := 9) hts inlX2 (hts (Cond.instantiable RX2 9) (List.mem_of_getElem? (i := 17) rfl))
  obtain ⟨c3, iS3, hKn3⟩ := u_known (C := RX3) (T := TX3) (N := 5) (n := 5) hts inlX3 (hts (Cond.instantiable RX3 5) (List.mem_of_getElem? (i := 1) rfl))
  obtain ⟨c4, iS4, hKn4⟩ := u_known (C := RX4) (T := TX4) (N := 31) (n := 31) hts inlX4 (hts (Cond.instantiable RX4 31) (List.mem_of_getElem? (i := 4) rfl))
  refine ⟨fun k => if k = 0 then c0 else if k = 1 then c1 else if k = 2 then c2 else if k = 3 then c3 else c4, fun k => if k = 0 then iS0 else if k = 1 then iS1 else if k = 2 then iS2 else if k = 3 then iS3 else iS4, ?_⟩
  intro k q hq
  match k, hq with
  | 0, hq => cases hq; exact hKn0
  | 1, hq => cases hq; exact hKn1
  | 2, hq => cases hq; exact hKn2
  | 3, hq => cases hq; exact hKn3
  | 4, hq => cases hq; exact hKn4
  | k + 5, hq => simp [vwCl] at hq
theorem hdX3_init : yX3_init.cls ≠ "java/lang/invoke/MethodHandle" ∧ yX3_init.cls ≠ "java/lang/invoke/VarHandle" ∧ (parseMethodDescriptor yX3_init.desc).map (fun d => d.parameters.length) = some 0 := by decide +kernel
theorem hdX4_init : yX4_init.cls ≠ "java/lang/invoke/MethodHandle" ∧ yX4_init.cls ≠ "java/lang/invoke/VarHandle" ∧ (parseMethodDescriptor yX4_init.desc).map (fun d => d.parameters.length) = some 0 := by decide +kernel
set_option maxHeartbeats 4000000 in
set_option maxRecDepth 100000 in
/-- THE LAW, from its entry -/
theorem whole_start {p : Program} {e : Env} {s : State} {m : MethodId} {below : List Frame} {meth : Method} {c : Code} (l : Launch) {b L : Nat} {xs : Nat → Int32} (hL : L ≤ 3072) (C0 : lw_At p s m meth c b L xs) : W p l e room_1 s m #[Value.ref b] below meth c s.heap [] 0 0 (lw_Z below #[Value.ref b] s) (entryFrame m ([Value.ref b] : List Value).toArray 4) := by
  obtain ⟨hx, hb, hr, hml, hown, hts0, hX, hbl, hlocks, hgv⟩ := id C0
  have hb : c.code = cL_law := hb
  have hown : s.vm.findClass RL = some m.cls := hown
  have hts : ∀ w ∈ wsL_law, w.before #[Value.ref b] s = true := fun w h => hts0 w (wsL_law_in w h)
  obtain ⟨tH, hZT⟩ := hpS_of hgv hts0
  have hA : ∀ q : Nat, s.heap.size ≤ q → (fun q : Nat => s.heap.size ≤ q) q := fun _ h => h
  have hbA : ¬ (fun q : Nat => s.heap.size ≤ q) b := Nat.not_le.mpr hbl
  obtain ⟨dC, dI, hKc⟩ := kn5 hts
  obtain ⟨cI, hI1, hI2⟩ := kI_int (hts (Cond.arrayClass .int) (List.mem_of_getElem? (i := 30) rfl))
  obtain ⟨cZ, hZ1, hZ2⟩ := kI_bool (hts (Cond.arrayClass .boolean) (List.mem_of_getElem? (i := 64) rfl))
  have hS : va_S (fun q : Nat => s.heap.size ≤ q) s.heap s.heap [] := va_S.rf
  have hK : va_K (dC, dI) vwCl [(cI, .int), (cZ, .boolean)] s := ⟨hKc, fun k q h => by
    match k, h with
    | 0, h => cases h; exact ⟨hI1, hI2⟩
    | 1, h => cases h; exact ⟨hZ1, hZ2⟩
    | k + 2, h => simp at h⟩
  have hP : va_P (dC, dI) vwCl [] s.heap := fun k q h => by simp at h
  have hD : va_D (fun q : Nat => s.heap.size ≤ q) [] := ⟨fun i j p q h => by simp at h, fun k q h => by simp at h⟩
  have hl := lv_entry ([.ref b]) (n := 4) (Nat.le_of_ble_eq_true rfl)
  rw [lg_entry_eq]
  generalize (lg_sl ([.ref b]) ++ List.replicate (4 - (lg_sl ([.ref b])).length) Slot.unset).toArray = ls at hl ⊢
  have hl : lv_has ls 4 [(0, .ref b)] := hl
  refine va_new (ci := 3) (fs := [.null, .null, .null, .int 0, .int 0]) (C := RX3) (T := TX3) (N := 5) hx hb hts inlX3 tyX3 tyX3_ok hown (hts (Cond.classLink RL 7 RX3) (List.mem_of_getElem? (i := 0) rfl)) (hts (Cond.instantiable RX3 5) (List.mem_of_getElem? (i := 1) rfl)) (hts (Cond.initialized RX3) (List.mem_of_getElem? (i := 2) rfl)) hK hP hD hS hA rfl (fun j hj => by rcases (show j = 0 ∨ j = 1 ∨ j = 2 ∨ j = 3 ∨ j = 4 by omega) with rfl | rfl | rfl | rfl | rfl <;> rfl) (Nat.le_of_ble_eq_true rfl) (Nat.le_of_ble_eq_true rfl) dL_law_0 (fun y1 H hP hD hS => ?_)
  have hP : va_P (dC, dI) vwCl [(y1, .inr (3, [.null, .null, .null, .int 0, .int 0]))] H := hP
  have hD : va_D (fun q : Nat => s.heap.size ≤ q) [(y1, .inr (3, [.null, .null, .null, .int 0, .int 0]))] := hD
  refine lv_dup hx hb dL_law_3 rfl ?_
  refine inC (wr := []) (fun _ _ hvm h => va_AO.moved hvm h) (va_AO.of (hts0 (.arrayOver (.object "StatueSquare$Sheet")) (by decide +kernel))) ⟨hx, hb, hml, hown, hts⟩ (kX3_init l dC dI cI y1 _) (cwI 0 hts gL_law_X3_init rfl rfl rfl (hts (Cond.initialized RX3) (List.mem_of_getElem? (i := 2) rfl)) (hts (Cond.methodLink RL 9 yX3_init) (List.mem_of_getElem? (i := 6) rfl)) (hts (Cond.instanceMethod yX3_init) (List.mem_of_getElem? (i := 7) rfl)) rfl hdX3_init ⟨Nat.le_of_ble_eq_true rfl, Nat.le_of_ble_eq_true rfl⟩) (hK.sub [0] rfl) hl.1 (Nat.le_of_ble_eq_true rfl) dL_law_4 ⟨Nat.le_of_ble_eq_true rfl, Nat.le_of_ble_eq_true rfl⟩ hP hD hS hA [0] [] rfl rfl (by decide) (by decide) (by decide) (fun u H locs hP hD hKs hS => ?_)
  have hP : va_P (dC, dI) vwCl ((y1, .inr (3, [.ref (u.2 1), .ref (u.2 10), .ref (u.2 14), .int 0, .int 0])) :: (wSh u.1 cI (u.2 1) (fun k => u.2 (2 + k)) (fun k => u.2 (6 + k)) (fun _ => false) (fun _ => 0) (fun _ => 0) zX ++ (wTd cI (fun k => u.2 (10 + k)) ((0, 0), (0, 0, 0, 0), (zA, zA, zA)) ++ wG cI (fun k => u.2 (14 + k)) (fun _ => 0) zX))) H := hP
  have hD : va_D (fun q : Nat => s.heap.size ≤ q) ((y1, .inr (3, [.ref (u.2 1), .ref (u.2 10), .ref (u.2 14), .int 0, .int 0])) :: (wSh u.1 cI (u.2 1) (fun k => u.2 (2 + k)) (fun k => u.2 (6 + k)) (fun _ => false) (fun _ => 0) (fun _ => 0) zX ++ (wTd cI (fun k => u.2 (10 + k)) ((0, 0), (0, 0, 0, 0), (zA, zA, zA)) ++ wG cI (fun k => u.2 (14 + k)) (fun _ => 0) zX))) := hD
  refine lv_astore_n (lv' := [(1, .ref y1), (0, .ref b)]) hx hb dL_law_7 rfl hl (by decide) rfl (fun ls hl => ?_)
  refine va_new (ci := 4) (fs := [.int 0, .int 0, .int 0, .null, .int 0, .null, .int 0, .null, .null, .null, .null, .null, .int 0, .int 0, .int 0, .int 0, .int 0, .int 0, .int 0, .null, .null, .null, .null, .null, .int 0, .int 0, .null, .null, .null, .null, .int 0]) (C := RX4) (T := TX4) (N := 31) hx hb hts inlX4 tyX4 tyX4_ok hown (hts (Cond.classLink RL 10 RX4) (List.mem_of_getElem? (i := 3) rfl)) (hts (Cond.instantiable RX4 31) (List.mem_of_getElem? (i := 4) rfl)) (hts (Cond.initialized RX4) (List.mem_of_getElem? (i := 5) rfl)) hK hP hD hS hA rfl (fun j hj => by rcases (show j = 0 ∨ j = 1 ∨ j = 2 ∨ j = 3 ∨ j = 4 ∨ j = 5 ∨ j = 6 ∨ j = 7 ∨ j = 8 ∨ j = 9 ∨ j = 10 ∨ j = 11 ∨ j = 12 ∨ j = 13 ∨ j = 14 ∨ j = 15 ∨ j = 16 ∨ j = 17 ∨ j = 18 ∨ j = 19 ∨ j = 20 ∨ j = 21 ∨ j = 22 ∨ j = 23 ∨ j = 24 ∨ j = 25 ∨ j = 26 ∨ j = 27 ∨ j = 28 ∨ j = 29 ∨ j = 30 by omega) with rfl | rfl | rfl | rfl | rfl | rfl | rfl | rfl | rfl | rfl | rfl | rfl | rfl | rfl | rfl | rfl | rfl | rfl | rfl | rfl | rfl | rfl | rfl | rfl | rfl | rfl | rfl | rfl | rfl | rfl | rfl <;> rfl) (Nat.le_of_ble_eq_true rfl) (Nat.le_of_ble_eq_true rfl) dL_law_8 (fun y2 H hP hD hS => ?_)
  refine lv_dup hx hb dL_law_11 rfl ?_
  refine inC (wr := (y1, .inr (3, [.ref (u.2 1), .ref (u.2 10), .ref (u.2 14), .int 0, .int 0])) :: (wSh u.1 cI (u.2 1) (fun k => u.2 (2 + k)) (fun k => u.2 (6 + k)) (fun _ => false) (fun _ => 0) (fun _ => 0) zX ++ (wTd cI (fun k => u.2 (10 + k)) ((0, 0), (0, 0, 0, 0), (zA, zA, zA)) ++ wG cI (fun k => u.2 (14 + k)) (fun _ => 0) zX))) (fun _ _ _ h => h) trivial ⟨hx, hb, hml, hown, hts⟩ (kX4_init l dC dI cI cZ y2 _) (cwI 0 hts gL_law_X4_init rfl rfl rfl (hts (Cond.initialized RX4) (List.mem_of_getElem? (i := 5) rfl)) (hts (Cond.methodLink RL 12 yX4_init) (List.mem_of_getElem? (i := 55) rfl)) (hts (Cond.instanceMethod yX4_init) (List.mem_of_getElem? (i := 56) rfl)) rfl hdX4_init ⟨Nat.le_of_ble_eq_true rfl, Nat.le_of_ble_eq_true rfl⟩) hK hl.1 (Nat.le_of_ble_eq_true rfl) dL_law_12 ⟨Nat.le_of_ble_eq_true rfl, Nat.le_of_ble_eq_true rfl⟩ hP hD hS hA [23] [0, 1, 2, 3, 4, 5, 6, 7, 8, 9, 10, 11, 12, 13, 14, 15, 16, 17, 18, 19, 20, 21, 22] rfl rfl (by decide) (by decide) (by decide) (fun v H locs hP hD _ hS => ?_)
  have hP : va_P (dC, dI) vwCl (lwW u.1 cI cZ y1 (u.2 1) (fun k => u.2 (2 + k)) (fun k => u.2 (6 + k)) (fun k => u.2 (10 + k)) (fun k => u.2 (14 + k)) (hdq y2 v) (fun _ => false) (fun _ => 0) (fun _ => 0) zX ((0, 0), (0, 0, 0, 0), (zA, zA, zA)) (fun _ => 0) zX (fun _ => 0) 0 zA yM0 0 0) H := hP
  have hD : va_D (fun q : Nat => s.heap.size ≤ q) (lwW u.1 cI cZ y1 (u.2 1) (fun k => u.2 (2 + k)) (fun k => u.2 (6 + k)) (fun k => u.2 (10 + k)) (fun k => u.2 (14 + k)) (hdq y2 v) (fun _ => false) (fun _ => 0) (fun _ => 0) zX ((0, 0), (0, 0, 0, 0), (zA, zA, zA)) (fun _ => 0) zX (fun _ => 0) 0 zA yM0 0 0) := hD
  refine lv_astore_n (lv' := [(2, .ref (hdq y2 v 0)), (1, .ref y1), (0, .ref b)]) hx hb dL_law_15 rfl hl (by decide) rfl (fun ls hl => ?_)
  refine lv_iconst (v := nI 0) hx hb dL_law_16 rfl ?_
  refine lv_istore_n (lv' := [(3, .int (nI 0)), (2, .ref (hdq y2 v 0)), (1, .ref y1), (0, .ref b)]) hx hb dL_law_17 rfl hl (by decide) rfl (fun ls hl => ?_)
  refine W.widen (k := 40) (n := 1540) (Nat.le_of_ble_eq_true rfl) (Nat.le_of_ble_eq_true rfl) ?_
  have hK3 : va_K (dC, dI) vwCl [(cI, .int), (u.1, .object "StatueSquare$Sheet"), (cZ, .boolean)] s := (hK.app hKs).sub [0, 2, 1] rfl
  exact law_loop hr hlocks ⟨hx, hb, hml, hown, hts, Nat.le_of_ble_eq_true rfl, Nat.le_of_ble_eq_true rfl, Nat.le_of_ble_eq_true rfl, Nat.le_of_ble_eq_true rfl, hK3, hA, hZT, hX, hbl, hbA, hL⟩ (L + 1) 0 (Nat.zero_le _) (by omega) H locs ls ⟨_, _, _, _, _, _, _, _, _, _, _, _, _, LI_0, hP, hD⟩ hS hl
