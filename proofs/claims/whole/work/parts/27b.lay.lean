set_option maxHeartbeats 4000000 in
set_option maxRecDepth 100000 in
theorem kX0_layBench (l : Launch) (dC : Nat → ClassId) (dI : Nat → Nat → Nat) (cI : ClassId) (q : Nat → Nat) (wd cc : Int32) (b t : Nat) (g : Nat → Int32) (X : Nat → Nat → Int32) (c : Nat) (sz : Nat) (hc : c < 42) (hb12 : b < 12) : Met l yX0_layBench wsX0_layBench ({ frames := 0, cells := 0, slots := 0, locals := 0 }) (rwP [.ref (q 0), .int (nI c)] sz (dC, dI) [(cI, .int)] (wL cI q wd cc b t g X)) (rwQv (dC, dI) (wL cI q wd cc b t g X) (wL cI q wd cc (b + 1) t g (uX (uX X 0 c (nI 1)) 3 b (nI c))) sz) 0 0 (va_A (wL cI q wd cc b t g X) sz) := by
  refine rw_met_v (by decide) rfl (Nat.le_of_ble_eq_true rfl) ?_
  intro pp ee ss mm aa bb me cd RR QQ Z hx hb hml hown hts hRf hRl hP hK hD hA hS hend ls hl
  have hown : ss.vm.findClass RX0 = some mm.cls := hown
  have hRf : 0 ≤ RR.frames := hRf
  have hRl : 0 ≤ RR.locals := hRl
  have hl : lv_has ls 2 [(0, .ref (q 0)), (1, .int (nI c))] := hl
  have hf9 := hts (.fieldLink RX0 9 "StatueSquare$Ground" "has" "[I") (List.mem_of_getElem? (i := 1) rfl)
  have hinX0 : ∀ w ∈ u_ws RX0 TX0 17, w ∈ wsX0_layBench := fun _ h => List.mem_cons_of_mem _ (List.mem_append_right _ h)
  have hf21 := hts (.fieldLink RX0 21 "StatueSquare$Ground" "benchCell" "[I") (List.mem_of_getElem? (i := 2) rfl)
  have hf49 := hts (.fieldLink RX0 49 "StatueSquare$Ground" "benchCount" "I") (List.mem_of_getElem? (i := 3) rfl)
  refine lv_aload_n hx hb dX0_layBench_0 rfl (lv_at hl 0 rfl) ?_
  refine x_get (D := (dC, dI)) (ci := 0) (v := .ref (q 1)) (C := RX0) (T := TX0) (N := 17) hx hb hts hinX0 hown hK hP 0 rfl rfl 4 (Nat.le_of_ble_eq_true rfl) hf9 rfl rfl dX0_layBench_1 ?_
  refine lv_iload_n hx hb dX0_layBench_4 rfl (lv_at hl 1 rfl) ?_
  refine lv_iconst (v := nI 1) hx hb dX0_layBench_5 rfl ?_
  refine x_iast (wn := wL cI q wd cc b t g (uX X 0 c (nI 1))) hx hb hK hP hD hS 1 0 rfl rfl (by omega) (by decide) rfl dX0_layBench_6 (fun H locs hP hS => ?_)
  have hD : va_D Z (wL cI q wd cc b t g (uX X 0 c (nI 1))) := hD.same rfl
  refine lv_aload_n hx hb dX0_layBench_7 rfl (lv_at hl 0 rfl) ?_
  refine x_get (D := (dC, dI)) (ci := 0) (v := .ref (q 4)) (C := RX0) (T := TX0) (N := 17) hx hb hts hinX0 hown hK hP 0 rfl rfl 7 (Nat.le_of_ble_eq_true rfl) hf21 rfl rfl dX0_layBench_8 ?_
  refine lv_aload_n hx hb dX0_layBench_11 rfl (lv_at hl 0 rfl) ?_
  refine x_get (D := (dC, dI)) (ci := 0) (v := .int (nI b)) (C := RX0) (T := TX0) (N := 17) hx hb hts hinX0 hown hK hP 0 rfl rfl 2 (Nat.le_of_ble_eq_true rfl) hf49 rfl rfl dX0_layBench_12 ?_
  refine lv_iload_n hx hb dX0_layBench_15 rfl (lv_at hl 1 rfl) ?_
  refine x_iast (wn := wL cI q wd cc b t g (uX (uX X 0 c (nI 1)) 3 b (nI c))) hx hb hK hP hD hS 4 0 rfl rfl (by omega) (by decide) rfl dX0_layBench_16 (fun H locs hP hS => ?_)
  have hD : va_D Z (wL cI q wd cc b t g (uX (uX X 0 c (nI 1)) 3 b (nI c))) := hD.same rfl
  refine lv_aload_n hx hb dX0_layBench_17 rfl (lv_at hl 0 rfl) ?_
  refine lv_dup hx hb dX0_layBench_18 rfl ?_
  refine x_get (D := (dC, dI)) (ci := 0) (v := .int (nI b)) (C := RX0) (T := TX0) (N := 17) hx hb hts hinX0 hown hK hP 0 rfl rfl 2 (Nat.le_of_ble_eq_true rfl) hf49 rfl rfl dX0_layBench_19 ?_
  refine lv_iconst (v := nI 1) hx hb dX0_layBench_22 rfl ?_
  refine x_iadd hx hb dX0_layBench_23 ?_
  refine x_put (D := (dC, dI)) (ci := 0) (v := .int (nI (b + 1))) (C := RX0) (T := TX0) (N := 17) (wn := wL cI q wd cc (b + 1) t g (uX (uX X 0 c (nI 1)) 3 b (nI c))) hx hb hts hinX0 tyX0 tyX0_ok nmX0 hown hK hP hD hS 0 rfl rfl 2 (Nat.le_of_ble_eq_true rfl) hf49 rfl rfl rfl rfl (Nat.le_of_ble_eq_true rfl) rfl dX0_layBench_24 (fun H locs hP hS => ?_)
  have hD : va_D Z (wL cI q wd cc (b + 1) t g (uX (uX X 0 c (nI 1)) 3 b (nI c))) := hD.same rfl
  exact hend _ _ _ _ _ rfl hP hS dX0_layBench_27
set_option maxHeartbeats 4000000 in
set_option maxRecDepth 100000 in
theorem kX0_layThing (l : Launch) (dC : Nat → ClassId) (dI : Nat → Nat → Nat) (cI : ClassId) (q : Nat → Nat) (wd cc : Int32) (b t : Nat) (g : Nat → Int32) (X : Nat → Nat → Int32) (c : Nat) (kd : Nat) (d : Int32) (sz : Nat) (hc : c < 42) (ht10 : t < 10) : Met l yX0_layThing wsX0_layThing ({ frames := 0, cells := 0, slots := 0, locals := 0 }) (rwP [.ref (q 0), .int (nI c), .int (nI kd), .int d] sz (dC, dI) [(cI, .int)] (wL cI q wd cc b t g X)) (rwQv (dC, dI) (wL cI q wd cc b t g X) (wL cI q wd cc b (t + 1) g (uX (uX (uX (uX (uX X 0 c (nI (10 + t))) 4 t (nI kd)) 5 t (nI c)) 6 t d) 7 t (nI 1))) sz) 0 0 (va_A (wL cI q wd cc b t g X) sz) := by
  refine rw_met_v (by decide) rfl (Nat.le_of_ble_eq_true rfl) ?_
  intro pp ee ss mm aa bb me cd RR QQ Z hx hb hml hown hts hRf hRl hP hK hD hA hS hend ls hl
  have hown : ss.vm.findClass RX0 = some mm.cls := hown
  have hRf : 0 ≤ RR.frames := hRf
  have hRl : 0 ≤ RR.locals := hRl
  have hl : lv_has ls 4 [(0, .ref (q 0)), (1, .int (nI c)), (2, .int (nI kd)), (3, .int d)] := hl
  have hf9 := hts (.fieldLink RX0 9 "StatueSquare$Ground" "has" "[I") (List.mem_of_getElem? (i := 1) rfl)
  have hinX0 : ∀ w ∈ u_ws RX0 TX0 17, w ∈ wsX0_layThing := fun _ h => List.mem_cons_of_mem _ (List.mem_append_right _ h)
  have hf52 := hts (.fieldLink RX0 52 "StatueSquare$Ground" "thingCount" "I") (List.mem_of_getElem? (i := 2) rfl)
  have hf24 := hts (.fieldLink RX0 24 "StatueSquare$Ground" "kind" "[I") (List.mem_of_getElem? (i := 3) rfl)
  have hf27 := hts (.fieldLink RX0 27 "StatueSquare$Ground" "thingCell" "[I") (List.mem_of_getElem? (i := 4) rfl)
  have hf30 := hts (.fieldLink RX0 30 "StatueSquare$Ground" "tallAtFirst" "[I") (List.mem_of_getElem? (i := 5) rfl)
  have hf33 := hts (.fieldLink RX0 33 "StatueSquare$Ground" "cost" "[I") (List.mem_of_getElem? (i := 6) rfl)
  refine lv_aload_n hx hb dX0_layThing_0 rfl (lv_at hl 0 rfl) ?_
  refine x_get (D := (dC, dI)) (ci := 0) (v := .ref (q 1)) (C := RX0) (T := TX0) (N := 17) hx hb hts hinX0 hown hK hP 0 rfl rfl 4 (Nat.le_of_ble_eq_true rfl) hf9 rfl rfl dX0_layThing_1 ?_
  refine lv_iload_n hx hb dX0_layThing_4 rfl (lv_at hl 1 rfl) ?_
  refine lv_bipush (v := nI 10) hx hb dX0_layThing_5 rfl ?_
  refine lv_aload_n hx hb dX0_layThing_7 rfl (lv_at hl 0 rfl) ?_
  refine x_get (D := (dC, dI)) (ci := 0) (v := .int (nI t)) (C := RX0) (T := TX0) (N := 17) hx hb hts hinX0 hown hK hP 0 rfl rfl 3 (Nat.le_of_ble_eq_true rfl) hf52 rfl rfl dX0_layThing_8 ?_
  refine x_iadd hx hb dX0_layThing_11 ?_
  refine x_iast (wn := wL cI q wd cc b t g (uX X 0 c (nI (10 + t)))) hx hb hK hP hD hS 1 0 rfl rfl (by omega) (by decide) rfl dX0_layThing_12 (fun H locs hP hS => ?_)
  have hD : va_D Z (wL cI q wd cc b t g (uX X 0 c (nI (10 + t)))) := hD.same rfl
  refine lv_aload_n hx hb dX0_layThing_13 rfl (lv_at hl 0 rfl) ?_
  refine x_get (D := (dC, dI)) (ci := 0) (v := .ref (q 5)) (C := RX0) (T := TX0) (N := 17) hx hb hts hinX0 hown hK hP 0 rfl rfl 8 (Nat.le_of_ble_eq_true rfl) hf24 rfl rfl dX0_layThing_14 ?_
  refine lv_aload_n hx hb dX0_layThing_17 rfl (lv_at hl 0 rfl) ?_
  refine x_get (D := (dC, dI)) (ci := 0) (v := .int (nI t)) (C := RX0) (T := TX0) (N := 17) hx hb hts hinX0 hown hK hP 0 rfl rfl 3 (Nat.le_of_ble_eq_true rfl) hf52 rfl rfl dX0_layThing_18 ?_
  refine lv_iload_n hx hb dX0_layThing_21 rfl (lv_at hl 2 rfl) ?_
  refine x_iast (wn := wL cI q wd cc b t g (uX (uX X 0 c (nI (10 + t))) 4 t (nI kd))) hx hb hK hP hD hS 5 0 rfl rfl (by omega) (by decide) rfl dX0_layThing_22 (fun H locs hP hS => ?_)
  have hD : va_D Z (wL cI q wd cc b t g (uX (uX X 0 c (nI (10 + t))) 4 t (nI kd))) := hD.same rfl
  refine lv_aload_n hx hb dX0_layThing_23 rfl (lv_at hl 0 rfl) ?_
  refine x_get (D := (dC, dI)) (ci := 0) (v := .ref (q 6)) (C := RX0) (T := TX0) (N := 17) hx hb hts hinX0 hown hK hP 0 rfl rfl 9 (Nat.le_of_ble_eq_true rfl) hf27 rfl rfl dX0_layThing_24 ?_
  refine lv_aload_n hx hb dX0_layThing_27 rfl (lv_at hl 0 rfl) ?_
  refine x_get (D := (dC, dI)) (ci := 0) (v := .int (nI t)) (C := RX0) (T := TX0) (N := 17) hx hb hts hinX0 hown hK hP 0 rfl rfl 3 (Nat.le_of_ble_eq_true rfl) hf52 rfl rfl dX0_layThing_28 ?_
  refine lv_iload_n hx hb dX0_layThing_31 rfl (lv_at hl 1 rfl) ?_
  refine x_iast (wn := wL cI q wd cc b t g (uX (uX (uX X 0 c (nI (10 + t))) 4 t (nI kd)) 5 t (nI c))) hx hb hK hP hD hS 6 0 rfl rfl (by omega) (by decide) rfl dX0_layThing_32 (fun H locs hP hS => ?_)
  have hD : va_D Z (wL cI q wd cc b t g (uX (uX (uX X 0 c (nI (10 + t))) 4 t (nI kd)) 5 t (nI c))) := hD.same rfl
  refine lv_aload_n hx hb dX0_layThing_33 rfl (lv_at hl 0 rfl) ?_
  refine x_get (D := (dC, dI)) (ci := 0) (v := .ref (q 7)) (C := RX0) (T := TX0) (N := 17) hx hb hts hinX0 hown hK hP 0 rfl rfl 10 (Nat.le_of_ble_eq_true rfl) hf30 rfl rfl dX0_layThing_34 ?_
  refine lv_aload_n hx hb dX0_layThing_37 rfl (lv_at hl 0 rfl) ?_
  refine x_get (D := (dC, dI)) (ci := 0) (v := .int (nI t)) (C := RX0) (T := TX0) (N := 17) hx hb hts hinX0 hown hK hP 0 rfl rfl 3 (Nat.le_of_ble_eq_true rfl) hf52 rfl rfl dX0_layThing_38 ?_
  refine lv_iload_n hx hb dX0_layThing_41 rfl (lv_at hl 3 rfl) ?_
  refine x_iast (wn := wL cI q wd cc b t g (uX (uX (uX (uX X 0 c (nI (10 + t))) 4 t (nI kd)) 5 t (nI c)) 6 t d)) hx hb hK hP hD hS 7 0 rfl rfl (by omega) (by decide) rfl dX0_layThing_42 (fun H locs hP hS => ?_)
  have hD : va_D Z (wL cI q wd cc b t g (uX (uX (uX (uX X 0 c (nI (10 + t))) 4 t (nI kd)) 5 t (nI c)) 6 t d)) := hD.same rfl
  refine lv_aload_n hx hb dX0_layThing_43 rfl (lv_at hl 0 rfl) ?_
  refine x_get (D := (dC, dI)) (ci := 0) (v := .ref (q 8)) (C := RX0) (T := TX0) (N := 17) hx hb hts hinX0 hown hK hP 0 rfl rfl 11 (Nat.le_of_ble_eq_true rfl) hf33 rfl rfl dX0_layThing_44 ?_
  refine lv_aload_n hx hb dX0_layThing_47 rfl (lv_at hl 0 rfl) ?_
  refine x_get (D := (dC, dI)) (ci := 0) (v := .int (nI t)) (C := RX0) (T := TX0) (N := 17) hx hb hts hinX0 hown hK hP 0 rfl rfl 3 (Nat.le_of_ble_eq_true rfl) hf52 rfl rfl dX0_layThing_48 ?_
  refine lv_iconst (v := nI 1) hx hb dX0_layThing_51 rfl ?_
  refine x_iast (wn := wL cI q wd cc b t g (uX (uX (uX (uX (uX X 0 c (nI (10 + t))) 4 t (nI kd)) 5 t (nI c)) 6 t d) 7 t (nI 1))) hx hb hK hP hD hS 8 0 rfl rfl (by omega) (by decide) rfl dX0_layThing_52 (fun H locs hP hS => ?_)
  have hD : va_D Z (wL cI q wd cc b t g (uX (uX (uX (uX (uX X 0 c (nI (10 + t))) 4 t (nI kd)) 5 t (nI c)) 6 t d) 7 t (nI 1))) := hD.same rfl
  refine lv_aload_n hx hb dX0_layThing_53 rfl (lv_at hl 0 rfl) ?_
  refine lv_dup hx hb dX0_layThing_54 rfl ?_
  refine x_get (D := (dC, dI)) (ci := 0) (v := .int (nI t)) (C := RX0) (T := TX0) (N := 17) hx hb hts hinX0 hown hK hP 0 rfl rfl 3 (Nat.le_of_ble_eq_true rfl) hf52 rfl rfl dX0_layThing_55 ?_
  refine lv_iconst (v := nI 1) hx hb dX0_layThing_58 rfl ?_
  refine x_iadd hx hb dX0_layThing_59 ?_
  refine x_put (D := (dC, dI)) (ci := 0) (v := .int (nI (t + 1))) (C := RX0) (T := TX0) (N := 17) (wn := wL cI q wd cc b (t + 1) g (uX (uX (uX (uX (uX X 0 c (nI (10 + t))) 4 t (nI kd)) 5 t (nI c)) 6 t d) 7 t (nI 1))) hx hb hts hinX0 tyX0 tyX0_ok nmX0 hown hK hP hD hS 0 rfl rfl 3 (Nat.le_of_ble_eq_true rfl) hf52 rfl rfl rfl rfl (Nat.le_of_ble_eq_true rfl) rfl dX0_layThing_60 (fun H locs hP hS => ?_)
  have hD : va_D Z (wL cI q wd cc b (t + 1) g (uX (uX (uX (uX (uX X 0 c (nI (10 + t))) 4 t (nI kd)) 5 t (nI c)) 6 t d) 7 t (nI 1))) := hD.same rfl
  exact hend _ _ _ _ _ rfl hP hS dX0_layThing_63
theorem hdX0_layBench : yX0_layBench.cls = RX0 ∧ yX0_layBench.cls ≠ "java/lang/invoke/MethodHandle" ∧ yX0_layBench.cls ≠ "java/lang/invoke/VarHandle" ∧ (parseMethodDescriptor yX0_layBench.desc).map (fun d => d.parameters.length) = some 1 := by decide +kernel
theorem hdX0_layThing : yX0_layThing.cls = RX0 ∧ yX0_layThing.cls ≠ "java/lang/invoke/MethodHandle" ∧ yX0_layThing.cls ≠ "java/lang/invoke/VarHandle" ∧ (parseMethodDescriptor yX0_layThing.desc).map (fun d => d.parameters.length) = some 3 := by decide +kernel
set_option maxRecDepth 20000 in
theorem ggX0_layCell_X0_layBench : GoodIn wsX0_layCell wsX0_layBench := goodIn_r _ [6, 1, 7, 8, 18, 19, 20, 21, 22, 23, 24, 25, 26, 27, 28, 29, 30, 31, 32, 33, 34] (by decide +kernel) (by decide +kernel)
set_option maxRecDepth 20000 in
theorem gX0_layCell_X0_layBench : GoodIn wsX0_layCell (wsV RX0 81 RX0 yX0_layBench wsX0_layBench) := goodIn_app (goodIn_of _ (by decide +kernel)) ggX0_layCell_X0_layBench
set_option maxRecDepth 20000 in
theorem ggX0_layCell_X0_layThing : GoodIn wsX0_layCell wsX0_layThing := goodIn_r _ [12, 1, 13, 14, 15, 16, 17, 18, 19, 20, 21, 22, 23, 24, 25, 26, 27, 28, 29, 30, 31, 32, 33, 34] (by decide +kernel) (by decide +kernel)
set_option maxRecDepth 20000 in
theorem gX0_layCell_X0_layThing : GoodIn wsX0_layCell (wsV RX0 85 RX0 yX0_layThing wsX0_layThing) := goodIn_app (goodIn_of _ (by decide +kernel)) ggX0_layCell_X0_layThing
set_option maxHeartbeats 4000000 in
set_option maxRecDepth 100000 in
theorem kX0_layCell (l : Launch) (dC : Nat → ClassId) (dI : Nat → Nat → Nat) (cI : ClassId) (q : Nat → Nat) (wd cc : Int32) (b t : Nat) (g : Nat → Int32) (X : Nat → Nat → Int32) (c : Nat) (x : Int32) (d : Int32) (K : Nat) (sz : Nat) (hc : c < 42) (hKx : sgK x K) (hbK : K = 2 → b < 12) (htK : 3 ≤ K → t < 10) : Met l yX0_layCell wsX0_layCell ({ frames := 1, cells := 0, slots := 0, locals := 23 }) (rwP [.ref (q 0), .int (nI c), .int x, .int d] sz (dC, dI) [(cI, .int)] (wL cI q wd cc b t g X)) (rwQv (dC, dI) (wL cI q wd cc b t g X) (wL cI q wd cc (if K = 2 then b + 1 else b) (if 3 ≤ K then t + 1 else t) g (lcX K c b t d X)) sz) 0 0 (va_A (wL cI q wd cc b t g X) sz) := by
  refine rw_met_v (by decide) rfl (Nat.le_of_ble_eq_true rfl) ?_
  intro pp ee ss mm aa bb me cd RR QQ Z hx hb hml hown hts hRf hRl hP hK hD hA hS hend ls hl
  have hown : ss.vm.findClass RX0 = some mm.cls := hown
  have hRf : 1 ≤ RR.frames := hRf
  have hRl : 23 ≤ RR.locals := hRl
  have hl : lv_has ls 4 [(0, .ref (q 0)), (1, .int (nI c)), (2, .int x), (3, .int d)] := hl
  have hf9 := hts (.fieldLink RX0 9 "StatueSquare$Ground" "has" "[I") (List.mem_of_getElem? (i := 1) rfl)
  have hinX0 : ∀ w ∈ u_ws RX0 TX0 17, w ∈ wsX0_layCell := fun _ h => List.mem_cons_of_mem _ (List.mem_append_right _ h)
  refine lv_iload_n hx hb dX0_layCell_0 rfl (lv_at hl 2 rfl) ?_
  rcases hKx with ⟨hk, rfl⟩ | ⟨hk, rfl⟩ | ⟨hk, rfl⟩ | ⟨hk, rfl⟩ | ⟨hk, rfl⟩
  · skip
    have hb12 := hbK rfl
    refine lv_lookup (off := 43) (tgt := 44) hx hb dX0_layCell_1 (by decide) (by rw [hk] <;> rfl) (by decide) ?_
    refine lv_aload_n hx hb dX0_layCell_44 rfl (lv_at hl 0 rfl) ?_
    refine lv_iload_n hx hb dX0_layCell_45 rfl (lv_at hl 1 rfl) ?_
    refine rwW_v (As := [.int (nI c)]) (rest := []) (wn := wL cI q wd cc (b + 1) t g (uX (uX X 0 c (nI 1)) 3 b (nI c))) ⟨hx, hb, hml, hown, hts⟩ (kX0_layBench l dC dI cI q wd cc b t g X c _ (by omega) (by omega)) (cwV 1 hts gX0_layCell_X0_layBench rfl rfl rfl hdX0_layBench ⟨Nat.le_trans (Nat.le_of_ble_eq_true rfl) hRf, Nat.le_trans (Nat.le_of_ble_eq_true rfl) hRl⟩) (va_recv hK hP (ci := 0) (q0 := 0) rfl rfl) hK rfl hl.1 rfl (Nat.le_of_ble_eq_true rfl) dX0_layCell_46 ⟨Nat.zero_le _, Nat.zero_le _⟩ hP hD hS hA [0, 1, 2, 3, 4, 5, 6, 7, 8] [] [0, 1, 2, 3, 4, 5, 6, 7, 8] rfl rfl (by decide) (by decide) (by decide) rfl rfl (fun H locs hP hS => ?_)
    have hD : va_D Z (wL cI q wd cc (b + 1) t g (uX (uX X 0 c (nI 1)) 3 b (nI c))) := hD.same rfl
    refine lv_goto (tgt := 89) hx hb dX0_layCell_49 (by decide) ?_
    exact hend _ _ _ _ _ rfl hP hS dX0_layCell_89
  · skip
    have ht10 := htK (by decide)
    refine lv_lookup (off := 51) (tgt := 52) hx hb dX0_layCell_1 (by decide) (by rw [hk] <;> rfl) (by decide) ?_
    refine lv_aload_n hx hb dX0_layCell_52 rfl (lv_at hl 0 rfl) ?_
    refine lv_iload_n hx hb dX0_layCell_53 rfl (lv_at hl 1 rfl) ?_
    refine lv_iconst (v := nI 0) hx hb dX0_layCell_54 rfl ?_
    refine lv_iload_n hx hb dX0_layCell_55 rfl (lv_at hl 3 rfl) ?_
    refine rwW_v (As := [.int (nI c), .int (nI 0), .int d]) (rest := []) (wn := wL cI q wd cc b (t + 1) g (uX (uX (uX (uX (uX X 0 c (nI (10 + t))) 4 t (nI 0)) 5 t (nI c)) 6 t d) 7 t (nI 1))) ⟨hx, hb, hml, hown, hts⟩ (kX0_layThing l dC dI cI q wd cc b t g X c 0 d _ (by omega) (by omega)) (cwV 3 hts gX0_layCell_X0_layThing rfl rfl rfl hdX0_layThing ⟨Nat.le_trans (Nat.le_of_ble_eq_true rfl) hRf, Nat.le_trans (Nat.le_of_ble_eq_true rfl) hRl⟩) (va_recv hK hP (ci := 0) (q0 := 0) rfl rfl) hK rfl hl.1 rfl (Nat.le_of_ble_eq_true rfl) dX0_layCell_56 ⟨Nat.zero_le _, Nat.zero_le _⟩ hP hD hS hA [0, 1, 2, 3, 4, 5, 6, 7, 8] [] [0, 1, 2, 3, 4, 5, 6, 7, 8] rfl rfl (by decide) (by decide) (by decide) rfl rfl (fun H locs hP hS => ?_)
    have hD : va_D Z (wL cI q wd cc b (t + 1) g (uX (uX (uX (uX (uX X 0 c (nI (10 + t))) 4 t (nI 0)) 5 t (nI c)) 6 t d) 7 t (nI 1))) := hD.same rfl
    refine lv_goto (tgt := 89) hx hb dX0_layCell_59 (by decide) ?_
    exact hend _ _ _ _ _ rfl hP hS dX0_layCell_89
  · skip
    have ht10 := htK (by decide)
    refine lv_lookup (off := 61) (tgt := 62) hx hb dX0_layCell_1 (by decide) (by rw [hk] <;> rfl) (by decide) ?_
    refine lv_aload_n hx hb dX0_layCell_62 rfl (lv_at hl 0 rfl) ?_
    refine lv_iload_n hx hb dX0_layCell_63 rfl (lv_at hl 1 rfl) ?_
    refine lv_iconst (v := nI 1) hx hb dX0_layCell_64 rfl ?_
    refine lv_iload_n hx hb dX0_layCell_65 rfl (lv_at hl 3 rfl) ?_
    refine rwW_v (As := [.int (nI c), .int (nI 1), .int d]) (rest := []) (wn := wL cI q wd cc b (t + 1) g (uX (uX (uX (uX (uX X 0 c (nI (10 + t))) 4 t (nI 1)) 5 t (nI c)) 6 t d) 7 t (nI 1))) ⟨hx, hb, hml, hown, hts⟩ (kX0_layThing l dC dI cI q wd cc b t g X c 1 d _ (by omega) (by omega)) (cwV 3 hts gX0_layCell_X0_layThing rfl rfl rfl hdX0_layThing ⟨Nat.le_trans (Nat.le_of_ble_eq_true rfl) hRf, Nat.le_trans (Nat.le_of_ble_eq_true rfl) hRl⟩) (va_recv hK hP (ci := 0) (q0 := 0) rfl rfl) hK rfl hl.1 rfl (Nat.le_of_ble_eq_true rfl) dX0_layCell_66 ⟨Nat.zero_le _, Nat.zero_le _⟩ hP hD hS hA [0, 1, 2, 3, 4, 5, 6, 7, 8] [] [0, 1, 2, 3, 4, 5, 6, 7, 8] rfl rfl (by decide) (by decide) (by decide) rfl rfl (fun H locs hP hS => ?_)
    have hD : va_D Z (wL cI q wd cc b (t + 1) g (uX (uX (uX (uX (uX X 0 c (nI (10 + t))) 4 t (nI 1)) 5 t (nI c)) 6 t d) 7 t (nI 1))) := hD.same rfl
    refine lv_goto (tgt := 89) hx hb dX0_layCell_69 (by decide) ?_
    exact hend _ _ _ _ _ rfl hP hS dX0_layCell_89
  · skip
    have ht10 := htK (by decide)
    refine lv_lookup (off := 71) (tgt := 72) hx hb dX0_layCell_1 (by decide) (by rw [hk] <;> rfl) (by decide) ?_
    refine lv_aload_n hx hb dX0_layCell_72 rfl (lv_at hl 0 rfl) ?_
    refine lv_iload_n hx hb dX0_layCell_73 rfl (lv_at hl 1 rfl) ?_
    refine lv_iconst (v := nI 2) hx hb dX0_layCell_74 rfl ?_
    refine lv_iload_n hx hb dX0_layCell_75 rfl (lv_at hl 3 rfl) ?_
    refine rwW_v (As := [.int (nI c), .int (nI 2), .int d]) (rest := []) (wn := wL cI q wd cc b (t + 1) g (uX (uX (uX (uX (uX X 0 c (nI (10 + t))) 4 t (nI 2)) 5 t (nI c)) 6 t d) 7 t (nI 1))) ⟨hx, hb, hml, hown, hts⟩ (kX0_layThing l dC dI cI q wd cc b t g X c 2 d _ (by omega) (by omega)) (cwV 3 hts gX0_layCell_X0_layThing rfl rfl rfl hdX0_layThing ⟨Nat.le_trans (Nat.le_of_ble_eq_true rfl) hRf, Nat.le_trans (Nat.le_of_ble_eq_true rfl) hRl⟩) (va_recv hK hP (ci := 0) (q0 := 0) rfl rfl) hK rfl hl.1 rfl (Nat.le_of_ble_eq_true rfl) dX0_layCell_76 ⟨Nat.zero_le _, Nat.zero_le _⟩ hP hD hS hA [0, 1, 2, 3, 4, 5, 6, 7, 8] [] [0, 1, 2, 3, 4, 5, 6, 7, 8] rfl rfl (by decide) (by decide) (by decide) rfl rfl (fun H locs hP hS => ?_)
    have hD : va_D Z (wL cI q wd cc b (t + 1) g (uX (uX (uX (uX (uX X 0 c (nI (10 + t))) 4 t (nI 2)) 5 t (nI c)) 6 t d) 7 t (nI 1))) := hD.same rfl
    refine lv_goto (tgt := 89) hx hb dX0_layCell_79 (by decide) ?_
    exact hend _ _ _ _ _ rfl hP hS dX0_layCell_89
  · skip
    refine lv_lookup (off := 81) (tgt := 82) hx hb dX0_layCell_1 (by decide) ((lv_osw hk.1 (by decide)).trans ((lv_osw hk.2.1 (by decide)).trans ((lv_osw hk.2.2.2 (by decide)).trans ((lv_osw hk.2.2.1 (by decide)).trans rfl)))) (by decide) ?_
    refine lv_aload_n hx hb dX0_layCell_82 rfl (lv_at hl 0 rfl) ?_
    refine x_get (D := (dC, dI)) (ci := 0) (v := .ref (q 1)) (C := RX0) (T := TX0) (N := 17) hx hb hts hinX0 hown hK hP 0 rfl rfl 4 (Nat.le_of_ble_eq_true rfl) hf9 rfl rfl dX0_layCell_83 ?_
    refine lv_iload_n hx hb dX0_layCell_86 rfl (lv_at hl 1 rfl) ?_
    refine lv_iconst (v := nI 0) hx hb dX0_layCell_87 rfl ?_
    refine x_iast (wn := wL cI q wd cc b t g (uX X 0 c (nI 0))) hx hb hK hP hD hS 1 0 rfl rfl (by omega) (by decide) rfl dX0_layCell_88 (fun H locs hP hS => ?_)
    have hD : va_D Z (wL cI q wd cc b t g (uX X 0 c (nI 0))) := hD.same rfl
    exact hend _ _ _ _ _ rfl hP hS dX0_layCell_89
theorem hdX0_layCell : yX0_layCell.cls = RX0 ∧ yX0_layCell.cls ≠ "java/lang/invoke/MethodHandle" ∧ yX0_layCell.cls ≠ "java/lang/invoke/VarHandle" ∧ (parseMethodDescriptor yX0_layCell.desc).map (fun d => d.parameters.length) = some 3 := by decide +kernel
set_option maxRecDepth 20000 in
theorem ggX0_layOut_X0_layCell : GoodIn wsX0_layOut wsX0_layCell := goodIn_r _ [20, 21, 22, 23, 24, 19, 25, 26, 4, 27, 28, 29, 30, 5, 31, 32, 33, 34, 44, 45, 46, 47, 48, 49, 50, 51, 52, 53, 54, 55, 56, 57, 58, 59, 60] (by decide +kernel) (by decide +kernel)
set_option maxRecDepth 20000 in
theorem gX0_layOut_X0_layCell : GoodIn wsX0_layOut (wsV RX0 64 RX0 yX0_layCell wsX0_layCell) := goodIn_app (goodIn_of _ (by decide +kernel)) ggX0_layOut_X0_layCell
set_option maxHeartbeats 4000000 in
set_option maxRecDepth 100000 in
theorem kX0_layOut (l : Launch) (dC : Nat → ClassId) (dI : Nat → Nat → Nat) (cI : ClassId) (q n : Nat → Nat) (X : Nat → Nat → Int32) (t : Nat → Nat) (hi wi len pl be th : Nat) (S D E : Nat → Int32) (K : Nat → Nat) (sz : Nat) (h42 : hi * wi ≤ 42) (hhi : hi ≤ 6) (hwi : wi ≤ 7) (hKs : ∀ j, j < hi * wi → sgK (S j) (K j)) (hcn : ∀ j, j < hi * wi → (K j = 2 → (lR K D wi X j).1.1 < 12) ∧ (3 ≤ K j → (lR K D wi X j).1.2 < 10)) : Met l yX0_layOut wsX0_layOut ({ frames := 2, cells := 0, slots := 0, locals := 46 }) (rwP [.ref (q 0), .ref (t 0)] sz (dC, dI) [(cI, .int)] (wG cI q n X ++ wT cI t (nI hi) (nI wi) len pl be th S D E)) (rwQv (dC, dI) (wG cI q n X ++ wT cI t (nI hi) (nI wi) len pl be th S D E) (wG cI q (nNew hi wi (lR K D wi X (hi * wi)).1.1 (lR K D wi X (hi * wi)).1.2) (lR K D wi X (hi * wi)).2 ++ wT cI t (nI hi) (nI wi) len pl be th S D E) sz) 0 0 (va_A (wG cI q n X ++ wT cI t (nI hi) (nI wi) len pl be th S D E) sz) := by
  refine rw_met_v (by decide) rfl (Nat.le_of_ble_eq_true rfl) ?_
  intro pp ee ss mm aa bb me cd RR QQ Z hx hb hml hown hts hRf hRl hP hK hD hA hS hend ls hl
  have hown : ss.vm.findClass RX0 = some mm.cls := hown
  have hRf : 2 ≤ RR.frames := hRf
  have hRl : 46 ≤ RR.locals := hRl
  have hl : lv_has ls 4 [(0, .ref (q 0)), (1, .ref (t 0))] := hl
  have hf40 := hts (.fieldLink RX0 40 "StatueSquare$TextReader" "wide" "I") (List.mem_of_getElem? (i := 1) rfl)
  have hinX2 : ∀ w ∈ u_ws RX2 TX2 9, w ∈ wsX0_layOut := fun _ h => List.mem_cons_of_mem _ (List.mem_append_left _ (List.mem_append_right _ h))
  have hf45 := hts (.fieldLink RX0 45 "StatueSquare$Ground" "wide" "I") (List.mem_of_getElem? (i := 2) rfl)
  have hinX0 : ∀ w ∈ u_ws RX0 TX0 17, w ∈ wsX0_layOut := fun _ h => List.mem_cons_of_mem _ (List.mem_append_right _ h)
  have hf46 := hts (.fieldLink RX0 46 "StatueSquare$Ground" "cellCount" "I") (List.mem_of_getElem? (i := 3) rfl)
  have hf49 := hts (.fieldLink RX0 49 "StatueSquare$Ground" "benchCount" "I") (List.mem_of_getElem? (i := 4) rfl)
  have hf52 := hts (.fieldLink RX0 52 "StatueSquare$Ground" "thingCount" "I") (List.mem_of_getElem? (i := 5) rfl)
  have hf55 := hts (.fieldLink RX0 55 "StatueSquare$TextReader" "high" "I") (List.mem_of_getElem? (i := 6) rfl)
  have hf68 := hts (.fieldLink RX0 68 "StatueSquare$Ground" "cutThings" "I") (List.mem_of_getElem? (i := 11) rfl)
  have hf71 := hts (.fieldLink RX0 71 "StatueSquare$Ground" "yearNow" "I") (List.mem_of_getElem? (i := 12) rfl)
  have hf74 := hts (.fieldLink RX0 74 "StatueSquare$Ground" "isWinter" "Z") (List.mem_of_getElem? (i := 13) rfl)
  have hf36 := hts (.fieldLink RX0 36 "StatueSquare$Ground" "statueCell" "I") (List.mem_of_getElem? (i := 14) rfl)
  have hf78 := hts (.fieldLink RX0 78 "StatueSquare$Ground" "statueBlock" "I") (List.mem_of_getElem? (i := 15) rfl)
  have hf15 := hts (.fieldLink RX0 15 "StatueSquare$Ground" "rowOf" "[I") (List.mem_of_getElem? (i := 7) rfl)
  have hf18 := hts (.fieldLink RX0 18 "StatueSquare$Ground" "columnOf" "[I") (List.mem_of_getElem? (i := 8) rfl)
  have hf58 := hts (.fieldLink RX0 58 "StatueSquare$TextReader" "signs" "[I") (List.mem_of_getElem? (i := 9) rfl)
  have hf61 := hts (.fieldLink RX0 61 "StatueSquare$TextReader" "digits" "[I") (List.mem_of_getElem? (i := 10) rfl)
  refine lv_aload_n hx hb dX0_layOut_0 rfl (lv_at hl 0 rfl) ?_
  refine lv_aload_n hx hb dX0_layOut_1 rfl (lv_at hl 1 rfl) ?_
  refine x_get (D := (dC, dI)) (ci := 2) (v := .int (nI wi)) (C := RX2) (T := TX2) (N := 9) hx hb hts hinX2 hown hK hP 9 rfl rfl 3 (Nat.le_of_ble_eq_true rfl) hf40 rfl rfl dX0_layOut_2 ?_
  refine x_put (D := (dC, dI)) (ci := 0) (v := .int (nI wi)) (C := RX0) (T := TX0) (N := 17) (wn := wL cI q (nI wi) (nI (n 0 * n 1)) (n 2) (n 3) (gN n) X ++ wT cI t (nI hi) (nI wi) len pl be th S D E) hx hb hts hinX0 tyX0 tyX0_ok nmX0 hown hK hP hD hS 0 rfl rfl 0 (Nat.le_of_ble_eq_true rfl) hf45 rfl rfl rfl rfl (Nat.le_of_ble_eq_true rfl) rfl dX0_layOut_5 (fun H locs hP hS => ?_)
  have hD : va_D Z (wL cI q (nI wi) (nI (n 0 * n 1)) (n 2) (n 3) (gN n) X ++ wT cI t (nI hi) (nI wi) len pl be th S D E) := hD.same rfl
  refine lv_aload_n hx hb dX0_layOut_8 rfl (lv_at hl 0 rfl) ?_
  refine lv_iconst (v := nI 0) hx hb dX0_layOut_9 rfl ?_
  refine x_put (D := (dC, dI)) (ci := 0) (v := .int (nI 0)) (C := RX0) (T := TX0) (N := 17) (wn := wL cI q (nI wi) (nI 0) (n 2) (n 3) (gN n) X ++ wT cI t (nI hi) (nI wi) len pl be th S D E) hx hb hts hinX0 tyX0 tyX0_ok nmX0 hown hK hP hD hS 0 rfl rfl 1 (Nat.le_of_ble_eq_true rfl) hf46 rfl rfl rfl rfl (Nat.le_of_ble_eq_true rfl) rfl dX0_layOut_10 (fun H locs hP hS => ?_)
  have hD : va_D Z (wL cI q (nI wi) (nI 0) (n 2) (n 3) (gN n) X ++ wT cI t (nI hi) (nI wi) len pl be th S D E) := hD.same rfl
  refine lv_aload_n hx hb dX0_layOut_13 rfl (lv_at hl 0 rfl) ?_
  refine lv_iconst (v := nI 0) hx hb dX0_layOut_14 rfl ?_
  refine x_put (D := (dC, dI)) (ci := 0) (v := .int (nI 0)) (C := RX0) (T := TX0) (N := 17) (wn := wL cI q (nI wi) (nI 0) 0 (n 3) (gN n) X ++ wT cI t (nI hi) (nI wi) len pl be th S D E) hx hb hts hinX0 tyX0 tyX0_ok nmX0 hown hK hP hD hS 0 rfl rfl 2 (Nat.le_of_ble_eq_true rfl) hf49 rfl rfl rfl rfl (Nat.le_of_ble_eq_true rfl) rfl dX0_layOut_15 (fun H locs hP hS => ?_)
  have hD : va_D Z (wL cI q (nI wi) (nI 0) 0 (n 3) (gN n) X ++ wT cI t (nI hi) (nI wi) len pl be th S D E) := hD.same rfl
  refine lv_aload_n hx hb dX0_layOut_18 rfl (lv_at hl 0 rfl) ?_
  refine lv_iconst (v := nI 0) hx hb dX0_layOut_19 rfl ?_
  refine x_put (D := (dC, dI)) (ci := 0) (v := .int (nI 0)) (C := RX0) (T := TX0) (N := 17) (wn := wL cI q (nI wi) (nI 0) 0 0 (gN n) X ++ wT cI t (nI hi) (nI wi) len pl be th S D E) hx hb hts hinX0 tyX0 tyX0_ok nmX0 hown hK hP hD hS 0 rfl rfl 3 (Nat.le_of_ble_eq_true rfl) hf52 rfl rfl rfl rfl (Nat.le_of_ble_eq_true rfl) rfl dX0_layOut_20 (fun H locs hP hS => ?_)
  have hD : va_D Z (wL cI q (nI wi) (nI 0) 0 0 (gN n) X ++ wT cI t (nI hi) (nI wi) len pl be th S D E) := hD.same rfl
  have hP : va_P (dC, dI) vwCl (wL cI q (nI wi) (nI 0) ((lR K D wi X 0).1.1) ((lR K D wi X 0).1.2) (gN n) ((lR K D wi X 0).2) ++ wT cI t (nI hi) (nI wi) len pl be th S D E) H := by exact hP
  have hD : va_D Z (wL cI q (nI wi) (nI 0) ((lR K D wi X 0).1.1) ((lR K D wi X 0).1.2) (gN n) ((lR K D wi X 0).2) ++ wT cI t (nI hi) (nI wi) len pl be th S D E) := hD.same rfl
  refine lv_iconst (v := nI 0) hx hb dX0_layOut_23 rfl ?_
  refine lv_istore_n (lv' := [(2, .int (nI 0)), (0, .ref (q 0)), (1, .ref (t 0))]) hx hb dX0_layOut_24 rfl hl (by decide) rfl (fun ls hl => ?_)
  have L25 : ∀ (fuel : Nat) (r : Nat) (hr : r ≤ hi) (hfu : hi - r < fuel) (H : Heap) (locs : List Loc), va_P (dC, dI) vwCl (wL cI q (nI wi) (nI (r * wi)) ((lR K D wi X (r * wi)).1.1) ((lR K D wi X (r * wi)).1.2) (gN n) ((lR K D wi X (r * wi)).2) ++ wT cI t (nI hi) (nI wi) len pl be th S D E) H → va_S Z ss.heap H locs → ∀ (ls : Array Slot), lv_has ls 4 [(0, .ref (q 0)), (1, .ref (t 0)), (2, .int (nI r))] → W pp l ee RR ss mm aa bb me cd H locs 0 0 QQ (F0 mm 25 ls []) := by
    intro fuel
    induction fuel with
    | zero => intro r hr hfu; exact absurd hfu (Nat.not_lt_zero _)
    | succ fuel ih =>
      intro r hr hfu H locs hP hS ls hl
      have hD : va_D Z (wL cI q (nI wi) (nI (r * wi)) ((lR K D wi X (r * wi)).1.1) ((lR K D wi X (r * wi)).1.2) (gN n) ((lR K D wi X (r * wi)).2) ++ wT cI t (nI hi) (nI wi) len pl be th S D E) := hD.same rfl
      refine lv_iload_n hx hb dX0_layOut_25 rfl (lv_at hl 2 rfl) ?_
      refine lv_aload_n hx hb dX0_layOut_26 rfl (lv_at hl 1 rfl) ?_
      refine x_get (D := (dC, dI)) (ci := 2) (v := .int (nI hi)) (C := RX2) (T := TX2) (N := 9) hx hb hts hinX2 hown hK hP 9 rfl rfl 2 (Nat.le_of_ble_eq_true rfl) hf55 rfl rfl dX0_layOut_27 ?_
      refine x_icmp_ge (tgt := 111) hx hb (by omega) (by omega) dX0_layOut_30 (by decide) (fun c30 => ?_) (fun c30 => ?_)
      · skip
        refine lv_aload_n hx hb dX0_layOut_111 rfl (lv_at hl 0 rfl) ?_
        refine lv_iconst (v := nI 0) hx hb dX0_layOut_112 rfl ?_
        refine x_put (D := (dC, dI)) (ci := 0) (v := .int (nI 0)) (C := RX0) (T := TX0) (N := 17) (wn := wL cI q (nI wi) (nI (r * wi)) ((lR K D wi X (r * wi)).1.1) ((lR K D wi X (r * wi)).1.2) (uF (gN n) 12 (nI 0)) ((lR K D wi X (r * wi)).2) ++ wT cI t (nI hi) (nI wi) len pl be th S D E) hx hb hts hinX0 tyX0 tyX0_ok nmX0 hown hK hP hD hS 0 rfl rfl 12 (Nat.le_of_ble_eq_true rfl) hf68 rfl rfl rfl rfl (Nat.le_of_ble_eq_true rfl) rfl dX0_layOut_113 (fun H locs hP hS => ?_)
        have hD : va_D Z (wL cI q (nI wi) (nI (r * wi)) ((lR K D wi X (r * wi)).1.1) ((lR K D wi X (r * wi)).1.2) (uF (gN n) 12 (nI 0)) ((lR K D wi X (r * wi)).2) ++ wT cI t (nI hi) (nI wi) len pl be th S D E) := hD.same rfl
        refine lv_aload_n hx hb dX0_layOut_116 rfl (lv_at hl 0 rfl) ?_
        refine lv_iconst (v := nI 0) hx hb dX0_layOut_117 rfl ?_
        refine x_put (D := (dC, dI)) (ci := 0) (v := .int (nI 0)) (C := RX0) (T := TX0) (N := 17) (wn := wL cI q (nI wi) (nI (r * wi)) ((lR K D wi X (r * wi)).1.1) ((lR K D wi X (r * wi)).1.2) (uF (uF (gN n) 12 (nI 0)) 13 (nI 0)) ((lR K D wi X (r * wi)).2) ++ wT cI t (nI hi) (nI wi) len pl be th S D E) hx hb hts hinX0 tyX0 tyX0_ok nmX0 hown hK hP hD hS 0 rfl rfl 13 (Nat.le_of_ble_eq_true rfl) hf71 rfl rfl rfl rfl (Nat.le_of_ble_eq_true rfl) rfl dX0_layOut_118 (fun H locs hP hS => ?_)
        have hD : va_D Z (wL cI q (nI wi) (nI (r * wi)) ((lR K D wi X (r * wi)).1.1) ((lR K D wi X (r * wi)).1.2) (uF (uF (gN n) 12 (nI 0)) 13 (nI 0)) ((lR K D wi X (r * wi)).2) ++ wT cI t (nI hi) (nI wi) len pl be th S D E) := hD.same rfl
        refine lv_aload_n hx hb dX0_layOut_121 rfl (lv_at hl 0 rfl) ?_
        refine lv_iconst (v := nI 0) hx hb dX0_layOut_122 rfl ?_
        refine x_put (D := (dC, dI)) (ci := 0) (v := .int (nI 0)) (C := RX0) (T := TX0) (N := 17) (wn := wL cI q (nI wi) (nI (r * wi)) ((lR K D wi X (r * wi)).1.1) ((lR K D wi X (r * wi)).1.2) (uF (uF (uF (gN n) 12 (nI 0)) 13 (nI 0)) 14 (nI 0)) ((lR K D wi X (r * wi)).2) ++ wT cI t (nI hi) (nI wi) len pl be th S D E) hx hb hts hinX0 tyX0 tyX0_ok nmX0 hown hK hP hD hS 0 rfl rfl 14 (Nat.le_of_ble_eq_true rfl) hf74 rfl rfl (by decide) (by decide) (Nat.le_of_ble_eq_true rfl) rfl dX0_layOut_123 (fun H locs hP hS => ?_)
        have hD : va_D Z (wL cI q (nI wi) (nI (r * wi)) ((lR K D wi X (r * wi)).1.1) ((lR K D wi X (r * wi)).1.2) (uF (uF (uF (gN n) 12 (nI 0)) 13 (nI 0)) 14 (nI 0)) ((lR K D wi X (r * wi)).2) ++ wT cI t (nI hi) (nI wi) len pl be th S D E) := hD.same rfl
        refine lv_aload_n hx hb dX0_layOut_126 rfl (lv_at hl 0 rfl) ?_
        refine lv_bipush (v := -9) hx hb dX0_layOut_127 rfl ?_
        refine x_put (D := (dC, dI)) (ci := 0) (v := .int (-9)) (C := RX0) (T := TX0) (N := 17) (wn := wL cI q (nI wi) (nI (r * wi)) ((lR K D wi X (r * wi)).1.1) ((lR K D wi X (r * wi)).1.2) (uF (uF (uF (uF (gN n) 12 (nI 0)) 13 (nI 0)) 14 (nI 0)) 15 (-9)) ((lR K D wi X (r * wi)).2) ++ wT cI t (nI hi) (nI wi) len pl be th S D E) hx hb hts hinX0 tyX0 tyX0_ok nmX0 hown hK hP hD hS 0 rfl rfl 15 (Nat.le_of_ble_eq_true rfl) hf36 rfl rfl rfl rfl (Nat.le_of_ble_eq_true rfl) rfl dX0_layOut_129 (fun H locs hP hS => ?_)
        have hD : va_D Z (wL cI q (nI wi) (nI (r * wi)) ((lR K D wi X (r * wi)).1.1) ((lR K D wi X (r * wi)).1.2) (uF (uF (uF (uF (gN n) 12 (nI 0)) 13 (nI 0)) 14 (nI 0)) 15 (-9)) ((lR K D wi X (r * wi)).2) ++ wT cI t (nI hi) (nI wi) len pl be th S D E) := hD.same rfl
        refine lv_aload_n hx hb dX0_layOut_132 rfl (lv_at hl 0 rfl) ?_
        refine lv_iconst (v := nI 0) hx hb dX0_layOut_133 rfl ?_
        refine x_put (D := (dC, dI)) (ci := 0) (v := .int (nI 0)) (C := RX0) (T := TX0) (N := 17) (wn := wL cI q (nI wi) (nI (r * wi)) ((lR K D wi X (r * wi)).1.1) ((lR K D wi X (r * wi)).1.2) (uF (uF (uF (uF (uF (gN n) 12 (nI 0)) 13 (nI 0)) 14 (nI 0)) 15 (-9)) 16 (nI 0)) ((lR K D wi X (r * wi)).2) ++ wT cI t (nI hi) (nI wi) len pl be th S D E) hx hb hts hinX0 tyX0 tyX0_ok nmX0 hown hK hP hD hS 0 rfl rfl 16 (Nat.le_of_ble_eq_true rfl) hf78 rfl rfl rfl rfl (Nat.le_of_ble_eq_true rfl) rfl dX0_layOut_134 (fun H locs hP hS => ?_)
        have hD : va_D Z (wL cI q (nI wi) (nI (r * wi)) ((lR K D wi X (r * wi)).1.1) ((lR K D wi X (r * wi)).1.2) (uF (uF (uF (uF (uF (gN n) 12 (nI 0)) 13 (nI 0)) 14 (nI 0)) 15 (-9)) 16 (nI 0)) ((lR K D wi X (r * wi)).2) ++ wT cI t (nI hi) (nI wi) len pl be th S D E) := hD.same rfl
        exact hend _ _ _ _ _ (by rw [show hi = r from by omega] <;> rfl) hP hS dX0_layOut_137
      · skip
        have hrw : r * wi + wi ≤ hi * wi := by have := Nat.mul_le_mul_right wi (show r + 1 ≤ hi by omega); rw [Nat.succ_mul] at this; exact this
        refine lv_iconst (v := nI 0) hx hb dX0_layOut_33 rfl ?_
        refine lv_istore_n (lv' := [(3, .int (nI 0)), (0, .ref (q 0)), (1, .ref (t 0)), (2, .int (nI r))]) hx hb dX0_layOut_34 rfl hl (by decide) rfl (fun ls hl => ?_)
        have L35 : ∀ (fuel : Nat) (k : Nat) (hk : k ≤ wi) (hfu : wi - k < fuel) (H : Heap) (locs : List Loc), va_P (dC, dI) vwCl (wL cI q (nI wi) (nI (r * wi + k)) ((lR K D wi X (r * wi + k)).1.1) ((lR K D wi X (r * wi + k)).1.2) (gN n) ((lR K D wi X (r * wi + k)).2) ++ wT cI t (nI hi) (nI wi) len pl be th S D E) H → va_S Z ss.heap H locs → ∀ (ls : Array Slot), lv_has ls 4 [(0, .ref (q 0)), (1, .ref (t 0)), (2, .int (nI r)), (3, .int (nI k))] → W pp l ee RR ss mm aa bb me cd H locs 0 0 QQ (F0 mm 35 ls []) := by
          intro fuel35
          induction fuel35 with
          | zero => intro k hk hfu; exact absurd hfu (Nat.not_lt_zero _)
          | succ fuel35 ih35 =>
            intro k hk hfu H locs hP hS ls hl
            have hD : va_D Z (wL cI q (nI wi) (nI (r * wi + k)) ((lR K D wi X (r * wi + k)).1.1) ((lR K D wi X (r * wi + k)).1.2) (gN n) ((lR K D wi X (r * wi + k)).2) ++ wT cI t (nI hi) (nI wi) len pl be th S D E) := hD.same rfl
            refine lv_iload_n hx hb dX0_layOut_35 rfl (lv_at hl 3 rfl) ?_
            refine lv_aload_n hx hb dX0_layOut_36 rfl (lv_at hl 1 rfl) ?_
            refine x_get (D := (dC, dI)) (ci := 2) (v := .int (nI wi)) (C := RX2) (T := TX2) (N := 9) hx hb hts hinX2 hown hK hP 9 rfl rfl 3 (Nat.le_of_ble_eq_true rfl) hf40 rfl rfl dX0_layOut_37 ?_
            refine x_icmp_ge (tgt := 105) hx hb (by omega) (by omega) dX0_layOut_40 (by decide) (fun c40 => ?_) (fun c40 => ?_)
            · skip
              have hkw : (r + 1) * wi = r * wi + k := by rw [Nat.succ_mul]; omega
              have hP : va_P (dC, dI) vwCl (wL cI q (nI wi) (nI ((r + 1) * wi)) ((lR K D wi X ((r + 1) * wi)).1.1) ((lR K D wi X ((r + 1) * wi)).1.2) (gN n) ((lR K D wi X ((r + 1) * wi)).2) ++ wT cI t (nI hi) (nI wi) len pl be th S D E) H := by rw [hkw]; exact hP
              have hD : va_D Z (wL cI q (nI wi) (nI ((r + 1) * wi)) ((lR K D wi X ((r + 1) * wi)).1.1) ((lR K D wi X ((r + 1) * wi)).1.2) (gN n) ((lR K D wi X ((r + 1) * wi)).2) ++ wT cI t (nI hi) (nI wi) len pl be th S D E) := hD.same rfl
              refine lv_iinc (v := (nI (r + 1))) (lv' := [(2, .int (nI (r + 1))), (0, .ref (q 0)), (1, .ref (t 0)), (3, .int (nI k))]) hx hb dX0_layOut_105 hl (k := 2) rfl (nI_add _ _) (by decide) rfl (fun ls hl => ?_)
              refine lv_goto (tgt := 25) hx hb dX0_layOut_108 (by decide) ?_
              exact ih (r + 1) (by omega) (by omega) _ _ hP hS _ (lv_sub hl [1, 2, 0] rfl)
            · skip
              have hm : r * wi + k < hi * wi := by omega
              refine lv_aload_n hx hb dX0_layOut_43 rfl (lv_at hl 0 rfl) ?_
              refine x_get (D := (dC, dI)) (ci := 0) (v := .ref (q 2)) (C := RX0) (T := TX0) (N := 17) hx hb hts hinX0 hown hK hP 0 rfl rfl 5 (Nat.le_of_ble_eq_true rfl) hf15 rfl rfl dX0_layOut_44 ?_
              refine lv_aload_n hx hb dX0_layOut_47 rfl (lv_at hl 0 rfl) ?_
              refine x_get (D := (dC, dI)) (ci := 0) (v := .int (nI (r * wi + k))) (C := RX0) (T := TX0) (N := 17) hx hb hts hinX0 hown hK hP 0 rfl rfl 1 (Nat.le_of_ble_eq_true rfl) hf46 rfl rfl dX0_layOut_48 ?_
              refine lv_iload_n hx hb dX0_layOut_51 rfl (lv_at hl 2 rfl) ?_
              refine x_iast (wn := wL cI q (nI wi) (nI (r * wi + k)) ((lR K D wi X (r * wi + k)).1.1) ((lR K D wi X (r * wi + k)).1.2) (gN n) (uX ((lR K D wi X (r * wi + k)).2) 1 (r * wi + k) (nI r)) ++ wT cI t (nI hi) (nI wi) len pl be th S D E) hx hb hK hP hD hS 2 0 rfl rfl (by omega) (by decide) rfl dX0_layOut_52 (fun H locs hP hS => ?_)
              have hD : va_D Z (wL cI q (nI wi) (nI (r * wi + k)) ((lR K D wi X (r * wi + k)).1.1) ((lR K D wi X (r * wi + k)).1.2) (gN n) (uX ((lR K D wi X (r * wi + k)).2) 1 (r * wi + k) (nI r)) ++ wT cI t (nI hi) (nI wi) len pl be th S D E) := hD.same rfl
              refine lv_aload_n hx hb dX0_layOut_53 rfl (lv_at hl 0 rfl) ?_
              refine x_get (D := (dC, dI)) (ci := 0) (v := .ref (q 3)) (C := RX0) (T := TX0) (N := 17) hx hb hts hinX0 hown hK hP 0 rfl rfl 6 (Nat.le_of_ble_eq_true rfl) hf18 rfl rfl dX0_layOut_54 ?_
              refine lv_aload_n hx hb dX0_layOut_57 rfl (lv_at hl 0 rfl) ?_
              refine x_get (D := (dC, dI)) (ci := 0) (v := .int (nI (r * wi + k))) (C := RX0) (T := TX0) (N := 17) hx hb hts hinX0 hown hK hP 0 rfl rfl 1 (Nat.le_of_ble_eq_true rfl) hf46 rfl rfl dX0_layOut_58 ?_
              refine lv_iload_n hx hb dX0_layOut_61 rfl (lv_at hl 3 rfl) ?_
              refine x_iast (wn := wL cI q (nI wi) (nI (r * wi + k)) ((lR K D wi X (r * wi + k)).1.1) ((lR K D wi X (r * wi + k)).1.2) (gN n) (uX (uX ((lR K D wi X (r * wi + k)).2) 1 (r * wi + k) (nI r)) 2 (r * wi + k) (nI k)) ++ wT cI t (nI hi) (nI wi) len pl be th S D E) hx hb hK hP hD hS 3 0 rfl rfl (by omega) (by decide) rfl dX0_layOut_62 (fun H locs hP hS => ?_)
              have hD : va_D Z (wL cI q (nI wi) (nI (r * wi + k)) ((lR K D wi X (r * wi + k)).1.1) ((lR K D wi X (r * wi + k)).1.2) (gN n) (uX (uX ((lR K D wi X (r * wi + k)).2) 1 (r * wi + k) (nI r)) 2 (r * wi + k) (nI k)) ++ wT cI t (nI hi) (nI wi) len pl be th S D E) := hD.same rfl
              refine lv_aload_n hx hb dX0_layOut_63 rfl (lv_at hl 0 rfl) ?_
              refine lv_aload_n hx hb dX0_layOut_64 rfl (lv_at hl 0 rfl) ?_
              refine x_get (D := (dC, dI)) (ci := 0) (v := .int (nI (r * wi + k))) (C := RX0) (T := TX0) (N := 17) hx hb hts hinX0 hown hK hP 0 rfl rfl 1 (Nat.le_of_ble_eq_true rfl) hf46 rfl rfl dX0_layOut_65 ?_
              refine lv_aload_n hx hb dX0_layOut_68 rfl (lv_at hl 1 rfl) ?_
              refine x_get (D := (dC, dI)) (ci := 2) (v := .ref (t 1)) (C := RX2) (T := TX2) (N := 9) hx hb hts hinX2 hown hK hP 9 rfl rfl 0 (Nat.le_of_ble_eq_true rfl) hf58 rfl rfl dX0_layOut_69 ?_
              refine lv_aload_n hx hb dX0_layOut_72 rfl (lv_at hl 0 rfl) ?_
              refine x_get (D := (dC, dI)) (ci := 0) (v := .int (nI (r * wi + k))) (C := RX0) (T := TX0) (N := 17) hx hb hts hinX0 hown hK hP 0 rfl rfl 1 (Nat.le_of_ble_eq_true rfl) hf46 rfl rfl dX0_layOut_73 ?_
              refine x_iald (v := (S (r * wi + k))) hx hb hK hP 10 0 rfl rfl (by omega) (by decide) rfl dX0_layOut_76 ?_
              refine lv_aload_n hx hb dX0_layOut_77 rfl (lv_at hl 1 rfl) ?_
              refine x_get (D := (dC, dI)) (ci := 2) (v := .ref (t 2)) (C := RX2) (T := TX2) (N := 9) hx hb hts hinX2 hown hK hP 9 rfl rfl 1 (Nat.le_of_ble_eq_true rfl) hf61 rfl rfl dX0_layOut_78 ?_
              refine lv_aload_n hx hb dX0_layOut_81 rfl (lv_at hl 0 rfl) ?_
              refine x_get (D := (dC, dI)) (ci := 0) (v := .int (nI (r * wi + k))) (C := RX0) (T := TX0) (N := 17) hx hb hts hinX0 hown hK hP 0 rfl rfl 1 (Nat.le_of_ble_eq_true rfl) hf46 rfl rfl dX0_layOut_82 ?_
              refine x_iald (v := (D (r * wi + k))) hx hb hK hP 11 0 rfl rfl (by omega) (by decide) rfl dX0_layOut_85 ?_
              refine rwW_v (As := [.int (nI (r * wi + k)), .int (S (r * wi + k)), .int (D (r * wi + k))]) (rest := []) (wn := wL cI q (nI wi) (nI (r * wi + k)) (if (K (r * wi + k)) = 2 then ((lR K D wi X (r * wi + k)).1.1) + 1 else ((lR K D wi X (r * wi + k)).1.1)) (if 3 ≤ (K (r * wi + k)) then ((lR K D wi X (r * wi + k)).1.2) + 1 else ((lR K D wi X (r * wi + k)).1.2)) (gN n) (lcX (K (r * wi + k)) (r * wi + k) ((lR K D wi X (r * wi + k)).1.1) ((lR K D wi X (r * wi + k)).1.2) (D (r * wi + k)) (uX (uX ((lR K D wi X (r * wi + k)).2) 1 (r * wi + k) (nI r)) 2 (r * wi + k) (nI k))) ++ wT cI t (nI hi) (nI wi) len pl be th S D E) ⟨hx, hb, hml, hown, hts⟩ (kX0_layCell l dC dI cI q (nI wi) (nI (r * wi + k)) ((lR K D wi X (r * wi + k)).1.1) ((lR K D wi X (r * wi + k)).1.2) (gN n) (uX (uX ((lR K D wi X (r * wi + k)).2) 1 (r * wi + k) (nI r)) 2 (r * wi + k) (nI k)) (r * wi + k) (S (r * wi + k)) (D (r * wi + k)) (K (r * wi + k)) _ (by omega) (hKs _ hm) (hcn _ hm).1 (hcn _ hm).2) (cwV 3 hts gX0_layOut_X0_layCell rfl rfl rfl hdX0_layCell ⟨Nat.le_trans (Nat.le_of_ble_eq_true rfl) hRf, Nat.le_trans (Nat.le_of_ble_eq_true rfl) hRl⟩) (va_recv hK hP (ci := 0) (q0 := 0) rfl rfl) hK rfl hl.1 rfl (Nat.le_of_ble_eq_true rfl) dX0_layOut_86 ⟨Nat.zero_le _, Nat.zero_le _⟩ hP hD hS hA [0, 1, 2, 3, 4, 5, 6, 7, 8] [9, 10, 11, 12] [4, 5, 6, 7, 8, 9, 10, 11, 12, 0, 1, 2, 3] rfl rfl (by decide) (by decide) (by decide) rfl rfl (fun H locs hP hS => ?_)
              have hD : va_D Z (wL cI q (nI wi) (nI (r * wi + k)) (if (K (r * wi + k)) = 2 then ((lR K D wi X (r * wi + k)).1.1) + 1 else ((lR K D wi X (r * wi + k)).1.1)) (if 3 ≤ (K (r * wi + k)) then ((lR K D wi X (r * wi + k)).1.2) + 1 else ((lR K D wi X (r * wi + k)).1.2)) (gN n) (lcX (K (r * wi + k)) (r * wi + k) ((lR K D wi X (r * wi + k)).1.1) ((lR K D wi X (r * wi + k)).1.2) (D (r * wi + k)) (uX (uX ((lR K D wi X (r * wi + k)).2) 1 (r * wi + k) (nI r)) 2 (r * wi + k) (nI k))) ++ wT cI t (nI hi) (nI wi) len pl be th S D E) := hD.same rfl
              refine lv_aload_n hx hb dX0_layOut_89 rfl (lv_at hl 0 rfl) ?_
              refine lv_dup hx hb dX0_layOut_90 rfl ?_
              refine x_get (D := (dC, dI)) (ci := 0) (v := .int (nI (r * wi + k))) (C := RX0) (T := TX0) (N := 17) hx hb hts hinX0 hown hK hP 0 rfl rfl 1 (Nat.le_of_ble_eq_true rfl) hf46 rfl rfl dX0_layOut_91 ?_
              refine lv_iconst (v := nI 1) hx hb dX0_layOut_94 rfl ?_
              refine x_iadd hx hb dX0_layOut_95 ?_
              refine x_put (D := (dC, dI)) (ci := 0) (v := .int (nI ((r * wi + k) + 1))) (C := RX0) (T := TX0) (N := 17) (wn := wL cI q (nI wi) (nI ((r * wi + k) + 1)) (if (K (r * wi + k)) = 2 then ((lR K D wi X (r * wi + k)).1.1) + 1 else ((lR K D wi X (r * wi + k)).1.1)) (if 3 ≤ (K (r * wi + k)) then ((lR K D wi X (r * wi + k)).1.2) + 1 else ((lR K D wi X (r * wi + k)).1.2)) (gN n) (lcX (K (r * wi + k)) (r * wi + k) ((lR K D wi X (r * wi + k)).1.1) ((lR K D wi X (r * wi + k)).1.2) (D (r * wi + k)) (uX (uX ((lR K D wi X (r * wi + k)).2) 1 (r * wi + k) (nI r)) 2 (r * wi + k) (nI k))) ++ wT cI t (nI hi) (nI wi) len pl be th S D E) hx hb hts hinX0 tyX0 tyX0_ok nmX0 hown hK hP hD hS 0 rfl rfl 1 (Nat.le_of_ble_eq_true rfl) hf46 rfl rfl rfl rfl (Nat.le_of_ble_eq_true rfl) rfl dX0_layOut_96 (fun H locs hP hS => ?_)
              have hD : va_D Z (wL cI q (nI wi) (nI ((r * wi + k) + 1)) (if (K (r * wi + k)) = 2 then ((lR K D wi X (r * wi + k)).1.1) + 1 else ((lR K D wi X (r * wi + k)).1.1)) (if 3 ≤ (K (r * wi + k)) then ((lR K D wi X (r * wi + k)).1.2) + 1 else ((lR K D wi X (r * wi + k)).1.2)) (gN n) (lcX (K (r * wi + k)) (r * wi + k) ((lR K D wi X (r * wi + k)).1.1) ((lR K D wi X (r * wi + k)).1.2) (D (r * wi + k)) (uX (uX ((lR K D wi X (r * wi + k)).2) 1 (r * wi + k) (nI r)) 2 (r * wi + k) (nI k))) ++ wT cI t (nI hi) (nI wi) len pl be th S D E) := hD.same rfl
              have hP : va_P (dC, dI) vwCl (wL cI q (nI wi) (nI (r * wi + (k + 1))) ((lR K D wi X (r * wi + (k + 1))).1.1) ((lR K D wi X (r * wi + (k + 1))).1.2) (gN n) ((lR K D wi X (r * wi + (k + 1))).2) ++ wT cI t (nI hi) (nI wi) len pl be th S D E) H := by rw [show r * wi + (k + 1) = r * wi + k + 1 from rfl, lR_go (show k < wi by omega)]; exact hP
              have hD : va_D Z (wL cI q (nI wi) (nI (r * wi + (k + 1))) ((lR K D wi X (r * wi + (k + 1))).1.1) ((lR K D wi X (r * wi + (k + 1))).1.2) (gN n) ((lR K D wi X (r * wi + (k + 1))).2) ++ wT cI t (nI hi) (nI wi) len pl be th S D E) := hD.same rfl
              refine lv_iinc (v := (nI (k + 1))) (lv' := [(3, .int (nI (k + 1))), (0, .ref (q 0)), (1, .ref (t 0)), (2, .int (nI r))]) hx hb dX0_layOut_99 hl (k := 3) rfl (nI_add _ _) (by decide) rfl (fun ls hl => ?_)
              refine lv_goto (tgt := 35) hx hb dX0_layOut_102 (by decide) ?_
              exact ih35 (k + 1) (by omega) (by omega) _ _ hP hS _ (lv_sub hl [1, 2, 3, 0] rfl)
        exact L35 _ 0 (by omega) (Nat.lt_succ_self _) _ _ hP hS _ (lv_sub hl [1, 2, 3, 0] rfl)
  exact L25 _ 0 (by omega) (Nat.lt_succ_self _) _ _ (by rw [Nat.zero_mul]; exact hP) hS _ (lv_sub hl [1, 2, 0] rfl)
