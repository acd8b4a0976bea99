set_option maxHeartbeats 4000000 in
set_option maxRecDepth 100000 in
theorem kX3_isBelow (l : Launch) (dC : Nat → ClassId) (dI : Nat → Nat → Nat) (x : Int32) (k : Nat) (sz : Nat) : Met l yX3_isBelow wsX3_isBelow ({ frames := 0, cells := 0, slots := 0, locals := 0 }) (roP [.int x, .int (nI k)] sz (dC, dI) [] ([] : va_W)) (roQi (bI (inB x k)) sz) 0 0 (va_A [] sz) := by
  refine ro_met_z (by decide) rfl (Nat.le_of_ble_eq_true rfl) ?_
  intro pp ee ss mm aa bb me cd RR QQ Z hx hb hml hown hts hRf hRl hP hK hA hS hend ls hl
  have hown : ss.vm.findClass RX3 = some mm.cls := hown
  have hRf : 0 ≤ RR.frames := hRf
  have hRl : 0 ≤ RR.locals := hRl
  have hl : lv_has ls 2 [(0, .int x), (1, .int (nI k))] := hl
  refine lv_iload_n hx hb dX3_isBelow_0 rfl (lv_at hl 0 rfl) ?_
  refine lv_if_lt (tgt := 13) hx hb dX3_isBelow_1 (by decide) (fun c1 => ?_) (fun c1 => ?_)
  · skip
    refine lv_iconst (v := nI 0) hx hb dX3_isBelow_13 rfl ?_
    exact hend _ _ _ _ _ (n0_b (decide_eq_false (fun q => by first | exact absurd c1 (Int32.not_lt.mpr q.1) | exact absurd q.2 (Int32.not_lt.mpr c6)))) hS dX3_isBelow_14
  · skip
    refine lv_iload_n hx hb dX3_isBelow_4 rfl (lv_at hl 0 rfl) ?_
    refine lv_iload_n hx hb dX3_isBelow_5 rfl (lv_at hl 1 rfl) ?_
    refine lv_icmp_ge (tgt := 13) hx hb dX3_isBelow_6 (by decide) (fun c6 => ?_) (fun c6 => ?_)
    · skip
      refine lv_iconst (v := nI 0) hx hb dX3_isBelow_13 rfl ?_
      exact hend _ _ _ _ _ (n0_b (decide_eq_false (fun q => by first | exact absurd c1 (Int32.not_lt.mpr q.1) | exact absurd q.2 (Int32.not_lt.mpr c6)))) hS dX3_isBelow_14
    · skip
      refine lv_iconst (v := nI 1) hx hb dX3_isBelow_9 rfl ?_
      refine lv_goto (tgt := 14) hx hb dX3_isBelow_10 (by decide) ?_
      exact hend _ _ _ _ _ (n1_b (decide_eq_true ⟨Int32.not_lt.mp c1, Int32.not_le.mp c6⟩)) hS dX3_isBelow_14
set_option maxHeartbeats 4000000 in
set_option maxRecDepth 100000 in
theorem kX3_greatestDivisor (l : Launch) (dC : Nat → ClassId) (dI : Nat → Nat → Nat) (u : Nat) (v : Nat) (sz : Nat) (hu : u ≤ 1000) (hv : v ≤ 1000) (hv0 : 0 < v) : Met l yX3_greatestDivisor wsX3_greatestDivisor ({ frames := 0, cells := 0, slots := 0, locals := 0 }) (roP [.int (nI u), .int (nI v)] sz (dC, dI) [] ([] : va_W)) (roQi (nI (Nat.gcd u v)) sz) 0 0 (va_A [] sz) := by
  refine ro_met_i (by decide) rfl (Nat.le_of_ble_eq_true rfl) ?_
  intro pp ee ss mm aa bb me cd RR QQ Z hx hb hml hown hts hRf hRl hP hK hA hS hend ls hl
  have hown : ss.vm.findClass RX3 = some mm.cls := hown
  have hRf : 0 ≤ RR.frames := hRf
  have hRl : 0 ≤ RR.locals := hRl
  have hl : lv_has ls 3 [(0, .int (nI u)), (1, .int (nI v))] := hl
  refine lv_iload_n hx hb dX3_greatestDivisor_0 rfl (lv_at hl 1 rfl) ?_
  refine lv_istore_n (lv' := [(2, .int (nI v)), (0, .int (nI u)), (1, .int (nI v))]) hx hb dX3_greatestDivisor_1 rfl hl (by decide) rfl (fun ls hl => ?_)
  have L2 : ∀ (fuel : Nat) (k : Nat) (hk : k ≤ v) (hno : ∀ j, k < j → j ≤ v → ¬ (u % j = 0 ∧ v % j = 0)) (hfu : k < fuel) (H : Heap) (locs : List Loc), va_P (dC, dI) vwCl ([] : va_W) H → va_S Z ss.heap H locs → ∀ (ls : Array Slot), lv_has ls 3 [(0, .int (nI u)), (1, .int (nI v)), (2, .int (nI k))] → W pp l ee RR ss mm aa bb me cd H locs 0 0 QQ (F0 mm 2 ls []) := by
    intro fuel
    induction fuel with
    | zero => intro k hk hno hfu; exact absurd hfu (Nat.not_lt_zero _)
    | succ fuel ih =>
      intro k hk hno hfu H locs hP hS ls hl
      refine lv_iload_n hx hb dX3_greatestDivisor_2 rfl (lv_at hl 2 rfl) ?_
      refine lv_iconst (v := nI 1) hx hb dX3_greatestDivisor_3 rfl ?_
      refine x_icmp_le (tgt := 27) hx hb (by omega) (by omega) dX3_greatestDivisor_4 (by decide) (fun c4 => ?_) (fun c4 => ?_)
      · skip
        refine lv_iconst (v := nI 1) hx hb dX3_greatestDivisor_27 rfl ?_
        exact hend _ _ _ _ _ (congrArg nI (gcd_one2 (by omega) hno hv0)) hS dX3_greatestDivisor_28
      · skip
        refine lv_iload_n hx hb dX3_greatestDivisor_7 rfl (lv_at hl 0 rfl) ?_
        refine lv_iload_n hx hb dX3_greatestDivisor_8 rfl (lv_at hl 2 rfl) ?_
        refine x_irem hx hb (by omega) (by omega) (by omega) dX3_greatestDivisor_9 ?_
        refine x_if_ne (tgt := 21) hx hb (mod_b (by omega)) dX3_greatestDivisor_10 (by decide) (fun c10 => ?_) (fun c10 => ?_)
        · skip
          have hbad : ¬ (u % k = 0 ∧ v % k = 0) := fun h => c10 h.1
          refine lv_iinc (v := (nI (k - 1))) (lv' := [(2, .int (nI (k - 1))), (0, .int (nI u)), (1, .int (nI v))]) hx hb dX3_greatestDivisor_21 hl (k := 2) rfl (pk_dec (by omega)) (by decide) rfl (fun ls hl => ?_)
          refine lv_goto (tgt := 2) hx hb dX3_greatestDivisor_24 (by decide) ?_
          exact ih (k - 1) (by omega) (fun j h1 h2 h3 => if e : j = k then hbad (e ▸ h3) else hno j (by omega) h2 h3) (by omega) _ _ hP hS _ (lv_sub hl [1, 2, 0] rfl)
        · skip
          refine lv_iload_n hx hb dX3_greatestDivisor_13 rfl (lv_at hl 1 rfl) ?_
          refine lv_iload_n hx hb dX3_greatestDivisor_14 rfl (lv_at hl 2 rfl) ?_
          refine x_irem hx hb (by omega) (by omega) (by omega) dX3_greatestDivisor_15 ?_
          refine x_if_ne (tgt := 21) hx hb (mod_b (by omega)) dX3_greatestDivisor_16 (by decide) (fun c16 => ?_) (fun c16 => ?_)
          · skip
            have hbad : ¬ (u % k = 0 ∧ v % k = 0) := fun h => c16 h.2
            refine lv_iinc (v := (nI (k - 1))) (lv' := [(2, .int (nI (k - 1))), (0, .int (nI u)), (1, .int (nI v))]) hx hb dX3_greatestDivisor_21 hl (k := 2) rfl (pk_dec (by omega)) (by decide) rfl (fun ls hl => ?_)
            refine lv_goto (tgt := 2) hx hb dX3_greatestDivisor_24 (by decide) ?_
            exact ih (k - 1) (by omega) (fun j h1 h2 h3 => if e : j = k then hbad (e ▸ h3) else hno j (by omega) h2 h3) (by omega) _ _ hP hS _ (lv_sub hl [1, 2, 0] rfl)
          · skip
            refine lv_iload_n hx hb dX3_greatestDivisor_19 rfl (lv_at hl 2 rfl) ?_
            exact hend _ _ _ _ _ (congrArg nI (gcd_ret2 (by omega) c10 c16 hno hv0)) hS dX3_greatestDivisor_20
  exact L2 _ v (by omega) (fun j h1 h2 => absurd h2 (by omega)) (Nat.lt_succ_self _) _ _ hP hS _ (lv_sub hl [1, 2, 0] rfl)
theorem hdX3_isBelow : yX3_isBelow.cls ≠ "java/lang/invoke/MethodHandle" ∧ yX3_isBelow.cls ≠ "java/lang/invoke/VarHandle" ∧ (parseMethodDescriptor yX3_isBelow.desc).map (fun d => d.parameters.length) = some 2 := by decide +kernel
set_option maxRecDepth 20000 in
theorem ggX3_cellHas_X3_isBelow : GoodIn wsX3_cellHas wsX3_isBelow := goodIn_r _ [7] (by decide +kernel) (by decide +kernel)
set_option maxRecDepth 20000 in
theorem gX3_cellHas_X3_isBelow : GoodIn wsX3_cellHas (va_wsS RX3 39 yX3_isBelow wsX3_isBelow) := goodIn_app (goodIn_of _ (by decide +kernel)) ggX3_cellHas_X3_isBelow
set_option maxHeartbeats 4000000 in
set_option maxRecDepth 100000 in
theorem kX3_cellHas (l : Launch) (dC : Nat → ClassId) (dI : Nat → Nat → Nat) (a r0 r1 : Nat) (tr fl : Int32) (cI : ClassId) (q n : Nat → Nat) (A : Nat → Nat → Nat) (X : Nat → Nat → Int32) (hW : WF n A) (hR : RG n A X) (c : Int32) (sz : Nat) : Met l yX3_cellHas wsX3_cellHas ({ frames := 1, cells := 0, slots := 0, locals := 21 }) (roP [.ref a, .int c] sz (dC, dI) [(cI, .int)] ((a, .inr (3, [.ref r0, .ref r1, .ref (q 0), .int tr, .int fl])) :: wG cI q n X)) (roQi (uCellHas n A c) sz) 0 0 (va_A [] sz) := by
  refine ro_met_i (by decide) rfl (Nat.le_of_ble_eq_true rfl) ?_
  intro pp ee ss mm aa bb me cd RR QQ Z hx hb hml hown hts hRf hRl hP hK hA hS hend ls hl
  have hown : ss.vm.findClass RX3 = some mm.cls := hown
  have hRf : 1 ≤ RR.frames := hRf
  have hRl : 21 ≤ RR.locals := hRl
  have hl : lv_has ls 2 [(0, .ref a), (1, .int c)] := hl
  obtain ⟨w0, w1, w2, w3, w4, w5, w6, w7, w8, wA0, wA1, wA2⟩ := id hW
  have wC : n 0 * n 1 ≤ 42 := Nat.mul_le_mul w0 w1
  have hf28 := hts (.fieldLink RX3 28 "StatueSquare" "ground" "LStatueSquare$Ground;") (List.mem_of_getElem? (i := 1) rfl)
  have hinX3 : ∀ w ∈ u_ws RX3 TX3 5, w ∈ wsX3_cellHas := fun _ h => List.mem_cons_of_mem _ (List.mem_append_left _ (List.mem_append_right _ h))
  have hf61 := hts (.fieldLink RX3 61 "StatueSquare$Ground" "cellCount" "I") (List.mem_of_getElem? (i := 2) rfl)
  have hinX0 : ∀ w ∈ u_ws RX0 TX0 17, w ∈ wsX3_cellHas := fun _ h => List.mem_cons_of_mem _ (List.mem_append_right _ h)
  have hf64 := hts (.fieldLink RX3 64 "StatueSquare$Ground" "has" "[I") (List.mem_of_getElem? (i := 3) rfl)
  refine lv_iload_n hx hb dX3_cellHas_0 rfl (lv_at hl 1 rfl) ?_
  refine lv_aload_n hx hb dX3_cellHas_1 rfl (lv_at hl 0 rfl) ?_
  refine x_get (D := (dC, dI)) (ci := 3) (v := .ref (q 0)) (C := RX3) (T := TX3) (N := 5) hx hb hts hinX3 hown hK hP 0 rfl rfl 2 (Nat.le_of_ble_eq_true rfl) hf28 rfl rfl dX3_cellHas_2 ?_
  refine x_get (D := (dC, dI)) (ci := 0) (v := .int (nI (n 0 * n 1))) (C := RX0) (T := TX0) (N := 17) hx hb hts hinX0 hown hK hP 1 rfl rfl 1 (Nat.le_of_ble_eq_true rfl) hf61 rfl rfl dX3_cellHas_5 ?_
  refine roS_i (As := [.int c, .int (nI (n 0 * n 1))]) (rest := []) ⟨hx, hb, hml, hown, hts⟩ (kX3_isBelow l dC dI c (n 0 * n 1) _ ) (va_cwS 2 hts gX3_cellHas_X3_isBelow rfl rfl rfl hdX3_isBelow ⟨Nat.le_trans (Nat.le_of_ble_eq_true rfl) hRf, Nat.le_trans (Nat.le_of_ble_eq_true rfl) hRl⟩) (hK.sub [] rfl) (hP.sub [] rfl) rfl hl.1 rfl (Nat.le_of_ble_eq_true rfl) dX3_cellHas_8 ⟨Nat.zero_le _, Nat.zero_le _⟩ hP hS hA (fun H locs hP hS => ?_)
  refine x_ifb_eq (tgt := 26) hx hb dX3_cellHas_11 (by decide) (fun c11 => ?_) (fun c11 => ?_)
  · skip
    refine lv_iconst (v := -1) hx hb dX3_cellHas_26 rfl ?_
    exact hend _ _ _ _ _ (by simp [uCellHas, inB02, c11] <;> rfl) hS dX3_cellHas_27
  · skip
    obtain ⟨j, hj, rfl⟩ := inB_t (by omega) c11
    have hxj : xn (nI j) = j := xn_nI (by omega)
    refine lv_aload_n hx hb dX3_cellHas_14 rfl (lv_at hl 0 rfl) ?_
    refine x_get (D := (dC, dI)) (ci := 3) (v := .ref (q 0)) (C := RX3) (T := TX3) (N := 5) hx hb hts hinX3 hown hK hP 0 rfl rfl 2 (Nat.le_of_ble_eq_true rfl) hf28 rfl rfl dX3_cellHas_15 ?_
    refine x_get (D := (dC, dI)) (ci := 0) (v := .ref (q 1)) (C := RX0) (T := TX0) (N := 17) hx hb hts hinX0 hown hK hP 1 rfl rfl 4 (Nat.le_of_ble_eq_true rfl) hf64 rfl rfl dX3_cellHas_18 ?_
    refine lv_iload_n hx hb dX3_cellHas_21 rfl (lv_at hl 1 rfl) ?_
    refine x_iald (v := (nI (A 0 j))) hx hb hK hP 2 0 rfl rfl (by omega) (by decide) (hR.1 _ (by omega)).1 dX3_cellHas_22 ?_
    refine lv_goto (tgt := 27) hx hb dX3_cellHas_23 (by decide) ?_
    exact hend _ _ _ _ _ (by simp [uCellHas, inB02, c11, hxj] <;> rfl) hS dX3_cellHas_27
set_option maxRecDepth 20000 in
theorem ggX3_bench_X3_isBelow : GoodIn wsX3_bench wsX3_isBelow := goodIn_r _ [7] (by decide +kernel) (by decide +kernel)
set_option maxRecDepth 20000 in
theorem gX3_bench_X3_isBelow : GoodIn wsX3_bench (va_wsS RX3 39 yX3_isBelow wsX3_isBelow) := goodIn_app (goodIn_of _ (by decide +kernel)) ggX3_bench_X3_isBelow
set_option maxHeartbeats 4000000 in
set_option maxRecDepth 100000 in
theorem kX3_bench (l : Launch) (dC : Nat → ClassId) (dI : Nat → Nat → Nat) (a r0 r1 : Nat) (tr fl : Int32) (cI : ClassId) (q n : Nat → Nat) (A : Nat → Nat → Nat) (X : Nat → Nat → Int32) (hW : WF n A) (hR : RG n A X) (b : Int32) (sz : Nat) : Met l yX3_bench wsX3_bench ({ frames := 1, cells := 0, slots := 0, locals := 21 }) (roP [.ref a, .int b] sz (dC, dI) [(cI, .int)] ((a, .inr (3, [.ref r0, .ref r1, .ref (q 0), .int tr, .int fl])) :: wG cI q n X)) (roQi (uBench n A b) sz) 0 0 (va_A [] sz) := by
  refine ro_met_i (by decide) rfl (Nat.le_of_ble_eq_true rfl) ?_
  intro pp ee ss mm aa bb me cd RR QQ Z hx hb hml hown hts hRf hRl hP hK hA hS hend ls hl
  have hown : ss.vm.findClass RX3 = some mm.cls := hown
  have hRf : 1 ≤ RR.frames := hRf
  have hRl : 21 ≤ RR.locals := hRl
  have hl : lv_has ls 2 [(0, .ref a), (1, .int b)] := hl
  obtain ⟨w0, w1, w2, w3, w4, w5, w6, w7, w8, wA0, wA1, wA2⟩ := id hW
  have wC : n 0 * n 1 ≤ 42 := Nat.mul_le_mul w0 w1
  have hf28 := hts (.fieldLink RX3 28 "StatueSquare" "ground" "LStatueSquare$Ground;") (List.mem_of_getElem? (i := 1) rfl)
  have hinX3 : ∀ w ∈ u_ws RX3 TX3 5, w ∈ wsX3_bench := fun _ h => List.mem_cons_of_mem _ (List.mem_append_left _ (List.mem_append_right _ h))
  have hf94 := hts (.fieldLink RX3 94 "StatueSquare$Ground" "benchCount" "I") (List.mem_of_getElem? (i := 2) rfl)
  have hinX0 : ∀ w ∈ u_ws RX0 TX0 17, w ∈ wsX3_bench := fun _ h => List.mem_cons_of_mem _ (List.mem_append_right _ h)
  have hf97 := hts (.fieldLink RX3 97 "StatueSquare$Ground" "benchCell" "[I") (List.mem_of_getElem? (i := 3) rfl)
  refine lv_iload_n hx hb dX3_bench_0 rfl (lv_at hl 1 rfl) ?_
  refine lv_aload_n hx hb dX3_bench_1 rfl (lv_at hl 0 rfl) ?_
  refine x_get (D := (dC, dI)) (ci := 3) (v := .ref (q 0)) (C := RX3) (T := TX3) (N := 5) hx hb hts hinX3 hown hK hP 0 rfl rfl 2 (Nat.le_of_ble_eq_true rfl) hf28 rfl rfl dX3_bench_2 ?_
  refine x_get (D := (dC, dI)) (ci := 0) (v := .int (nI (n 2))) (C := RX0) (T := TX0) (N := 17) hx hb hts hinX0 hown hK hP 1 rfl rfl 2 (Nat.le_of_ble_eq_true rfl) hf94 rfl rfl dX3_bench_5 ?_
  refine roS_i (As := [.int b, .int (nI (n 2))]) (rest := []) ⟨hx, hb, hml, hown, hts⟩ (kX3_isBelow l dC dI b (n 2) _ ) (va_cwS 2 hts gX3_bench_X3_isBelow rfl rfl rfl hdX3_isBelow ⟨Nat.le_trans (Nat.le_of_ble_eq_true rfl) hRf, Nat.le_trans (Nat.le_of_ble_eq_true rfl) hRl⟩) (hK.sub [] rfl) (hP.sub [] rfl) rfl hl.1 rfl (Nat.le_of_ble_eq_true rfl) dX3_bench_8 ⟨Nat.zero_le _, Nat.zero_le _⟩ hP hS hA (fun H locs hP hS => ?_)
  refine x_ifb_eq (tgt := 26) hx hb dX3_bench_11 (by decide) (fun c11 => ?_) (fun c11 => ?_)
  · skip
    refine lv_iconst (v := -1) hx hb dX3_bench_26 rfl ?_
    exact hend _ _ _ _ _ (by simp [uBench, inB02, c11] <;> rfl) hS dX3_bench_27
  · skip
    obtain ⟨j, hj, rfl⟩ := inB_t (by omega) c11
    have hxj : xn (nI j) = j := xn_nI (by omega)
    refine lv_aload_n hx hb dX3_bench_14 rfl (lv_at hl 0 rfl) ?_
    refine x_get (D := (dC, dI)) (ci := 3) (v := .ref (q 0)) (C := RX3) (T := TX3) (N := 5) hx hb hts hinX3 hown hK hP 0 rfl rfl 2 (Nat.le_of_ble_eq_true rfl) hf28 rfl rfl dX3_bench_15 ?_
    refine x_get (D := (dC, dI)) (ci := 0) (v := .ref (q 4)) (C := RX0) (T := TX0) (N := 17) hx hb hts hinX0 hown hK hP 1 rfl rfl 7 (Nat.le_of_ble_eq_true rfl) hf97 rfl rfl dX3_bench_18 ?_
    refine lv_iload_n hx hb dX3_bench_21 rfl (lv_at hl 1 rfl) ?_
    refine x_iald (v := (nI (A 1 j))) hx hb hK hP 5 0 rfl rfl (by omega) (by decide) (hR.2.1 _ (by omega)) dX3_bench_22 ?_
    refine lv_goto (tgt := 27) hx hb dX3_bench_23 (by decide) ?_
    exact hend _ _ _ _ _ (by simp [uBench, inB02, c11, hxj] <;> rfl) hS dX3_bench_27
set_option maxRecDepth 20000 in
theorem ggX3_ofThing_X3_isBelow : GoodIn wsX3_ofThing wsX3_isBelow := goodIn_r _ [11] (by decide +kernel) (by decide +kernel)
set_option maxRecDepth 20000 in
theorem gX3_ofThing_X3_isBelow : GoodIn wsX3_ofThing (va_wsS RX3 39 yX3_isBelow wsX3_isBelow) := goodIn_app (goodIn_of _ (by decide +kernel)) ggX3_ofThing_X3_isBelow
set_option maxRecDepth 20000 in
theorem ggX3_ofThing_X0_tallIn : GoodIn wsX3_ofThing wsX0_tallIn := goodIn_r _ [16, 17, 18, 19, 30, 31, 32, 33, 34, 35, 36, 37, 38, 39, 40, 41, 42, 43, 44, 45, 46] (by decide +kernel) (by decide +kernel)
set_option maxRecDepth 20000 in
theorem gX3_ofThing_X0_tallIn : GoodIn wsX3_ofThing (wsV RX3 83 RX0 yX0_tallIn wsX0_tallIn) := goodIn_app (goodIn_of _ (by decide +kernel)) ggX3_ofThing_X0_tallIn
set_option maxRecDepth 20000 in
theorem ggX3_ofThing_X0_isThere : GoodIn wsX3_ofThing wsX0_isThere := goodIn_r _ [23, 24, 30, 31, 32, 33, 34, 35, 36, 37, 38, 39, 40, 41, 42, 43, 44, 45, 46] (by decide +kernel) (by decide +kernel)
set_option maxRecDepth 20000 in
theorem gX3_ofThing_X0_isThere : GoodIn wsX3_ofThing (wsV RX3 87 RX0 yX0_isThere wsX0_isThere) := goodIn_app (goodIn_of _ (by decide +kernel)) ggX3_ofThing_X0_isThere
set_option maxHeartbeats 4000000 in
set_option maxRecDepth 100000 in
theorem kX3_ofThing (l : Launch) (dC : Nat → ClassId) (dI : Nat → Nat → Nat) (a r0 r1 : Nat) (tr fl : Int32) (cI : ClassId) (q n : Nat → Nat) (A : Nat → Nat → Nat) (X : Nat → Nat → Int32) (hW : WF n A) (hR : RG n A X) (t : Int32) (w : Int32) (sz : Nat) : Met l yX3_ofThing wsX3_ofThing ({ frames := 1, cells := 0, slots := 0, locals := 23 }) (roP [.ref a, .int t, .int w] sz (dC, dI) [(cI, .int)] ((a, .inr (3, [.ref r0, .ref r1, .ref (q 0), .int tr, .int fl])) :: wG cI q n X)) (roQi (uOfThing n A t w) sz) 0 0 (va_A [] sz) := by
  refine ro_met_i (by decide) rfl (Nat.le_of_ble_eq_true rfl) ?_
  intro pp ee ss mm aa bb me cd RR QQ Z hx hb hml hown hts hRf hRl hP hK hA hS hend ls hl
  have hown : ss.vm.findClass RX3 = some mm.cls := hown
  have hRf : 1 ≤ RR.frames := hRf
  have hRl : 23 ≤ RR.locals := hRl
  have hl : lv_has ls 3 [(0, .ref a), (1, .int t), (2, .int w)] := hl
  obtain ⟨w0, w1, w2, w3, w4, w5, w6, w7, w8, wA0, wA1, wA2⟩ := id hW
  have wC : n 0 * n 1 ≤ 42 := Nat.mul_le_mul w0 w1
  have hf28 := hts (.fieldLink RX3 28 "StatueSquare" "ground" "LStatueSquare$Ground;") (List.mem_of_getElem? (i := 1) rfl)
  have hinX3 : ∀ w ∈ u_ws RX3 TX3 5, w ∈ wsX3_ofThing := fun _ h => List.mem_cons_of_mem _ (List.mem_append_left _ (List.mem_append_right _ h))
  have hf68 := hts (.fieldLink RX3 68 "StatueSquare$Ground" "thingCount" "I") (List.mem_of_getElem? (i := 2) rfl)
  have hinX0 : ∀ w ∈ u_ws RX0 TX0 17, w ∈ wsX3_ofThing := fun _ h => List.mem_cons_of_mem _ (List.mem_append_right _ h)
  have hf71 := hts (.fieldLink RX3 71 "StatueSquare$Ground" "kind" "[I") (List.mem_of_getElem? (i := 3) rfl)
  have hf74 := hts (.fieldLink RX3 74 "StatueSquare$Ground" "thingCell" "[I") (List.mem_of_getElem? (i := 4) rfl)
  have hf77 := hts (.fieldLink RX3 77 "StatueSquare$Ground" "tallAtFirst" "[I") (List.mem_of_getElem? (i := 5) rfl)
  have hf80 := hts (.fieldLink RX3 80 "StatueSquare$Ground" "yearNow" "I") (List.mem_of_getElem? (i := 6) rfl)
  have hf91 := hts (.fieldLink RX3 91 "StatueSquare$Ground" "cost" "[I") (List.mem_of_getElem? (i := 7) rfl)
  refine lv_iload_n hx hb dX3_ofThing_0 rfl (lv_at hl 1 rfl) ?_
  refine lv_aload_n hx hb dX3_ofThing_1 rfl (lv_at hl 0 rfl) ?_
  refine x_get (D := (dC, dI)) (ci := 3) (v := .ref (q 0)) (C := RX3) (T := TX3) (N := 5) hx hb hts hinX3 hown hK hP 0 rfl rfl 2 (Nat.le_of_ble_eq_true rfl) hf28 rfl rfl dX3_ofThing_2 ?_
  refine x_get (D := (dC, dI)) (ci := 0) (v := .int (nI (n 3))) (C := RX0) (T := TX0) (N := 17) hx hb hts hinX0 hown hK hP 1 rfl rfl 3 (Nat.le_of_ble_eq_true rfl) hf68 rfl rfl dX3_ofThing_5 ?_
  refine roS_i (As := [.int t, .int (nI (n 3))]) (rest := []) ⟨hx, hb, hml, hown, hts⟩ (kX3_isBelow l dC dI t (n 3) _ ) (va_cwS 2 hts gX3_ofThing_X3_isBelow rfl rfl rfl hdX3_isBelow ⟨Nat.le_trans (Nat.le_of_ble_eq_true rfl) hRf, Nat.le_trans (Nat.le_of_ble_eq_true rfl) hRl⟩) (hK.sub [] rfl) (hP.sub [] rfl) rfl hl.1 rfl (Nat.le_of_ble_eq_true rfl) dX3_ofThing_8 ⟨Nat.zero_le _, Nat.zero_le _⟩ hP hS hA (fun H locs hP hS => ?_)
  refine x_ifb_ne (tgt := 16) hx hb dX3_ofThing_11 (by decide) (fun c11 => ?_) (fun c11 => ?_)
  · skip
    obtain ⟨j, hj, rfl⟩ := inB_t (by omega) c11
    have hxj : xn (nI j) = j := xn_nI (by omega)
    refine lv_iload_n hx hb dX3_ofThing_16 rfl (lv_at hl 2 rfl) ?_
    by_cases hw0 : w = 0
    · skip
      refine lv_tableIn (tgt := 56) hx hb dX3_ofThing_17 (by rw [hw0]; decide) (by rw [hw0]; decide) (by rw [hw0]; rfl) (by decide) ?_
      refine lv_aload_n hx hb dX3_ofThing_56 rfl (lv_at hl 0 rfl) ?_
      refine x_get (D := (dC, dI)) (ci := 3) (v := .ref (q 0)) (C := RX3) (T := TX3) (N := 5) hx hb hts hinX3 hown hK hP 0 rfl rfl 2 (Nat.le_of_ble_eq_true rfl) hf28 rfl rfl dX3_ofThing_57 ?_
      refine x_get (D := (dC, dI)) (ci := 0) (v := .ref (q 5)) (C := RX0) (T := TX0) (N := 17) hx hb hts hinX0 hown hK hP 1 rfl rfl 8 (Nat.le_of_ble_eq_true rfl) hf71 rfl rfl dX3_ofThing_60 ?_
      refine lv_iload_n hx hb dX3_ofThing_63 rfl (lv_at hl 1 rfl) ?_
      refine x_iald (v := (nI (A 2 j))) hx hb hK hP 6 0 rfl rfl (by omega) (by decide) (hR.2.2 _ (by omega)).1 dX3_ofThing_64 ?_
      exact hend _ _ _ _ _ (by simp [uOfThing, inB02, c11, hxj, hw0] <;> rfl) hS dX3_ofThing_65
    by_cases hw1 : w = 1
    · skip
      refine lv_tableIn (tgt := 66) hx hb dX3_ofThing_17 (by rw [hw1]; decide) (by rw [hw1]; decide) (by rw [hw1]; rfl) (by decide) ?_
      refine lv_aload_n hx hb dX3_ofThing_66 rfl (lv_at hl 0 rfl) ?_
      refine x_get (D := (dC, dI)) (ci := 3) (v := .ref (q 0)) (C := RX3) (T := TX3) (N := 5) hx hb hts hinX3 hown hK hP 0 rfl rfl 2 (Nat.le_of_ble_eq_true rfl) hf28 rfl rfl dX3_ofThing_67 ?_
      refine x_get (D := (dC, dI)) (ci := 0) (v := .ref (q 6)) (C := RX0) (T := TX0) (N := 17) hx hb hts hinX0 hown hK hP 1 rfl rfl 9 (Nat.le_of_ble_eq_true rfl) hf74 rfl rfl dX3_ofThing_70 ?_
      refine lv_iload_n hx hb dX3_ofThing_73 rfl (lv_at hl 1 rfl) ?_
      refine x_iald (v := (nI (A 3 j))) hx hb hK hP 7 0 rfl rfl (by omega) (by decide) (hR.2.2 _ (by omega)).2.1 dX3_ofThing_74 ?_
      exact hend _ _ _ _ _ (by simp [uOfThing, inB02, c11, hxj, hw0, hw1] <;> rfl) hS dX3_ofThing_75
    by_cases hw2 : w = 2
    · skip
      refine lv_tableIn (tgt := 76) hx hb dX3_ofThing_17 (by rw [hw2]; decide) (by rw [hw2]; decide) (by rw [hw2]; rfl) (by decide) ?_
      refine lv_aload_n hx hb dX3_ofThing_76 rfl (lv_at hl 0 rfl) ?_
      refine x_get (D := (dC, dI)) (ci := 3) (v := .ref (q 0)) (C := RX3) (T := TX3) (N := 5) hx hb hts hinX3 hown hK hP 0 rfl rfl 2 (Nat.le_of_ble_eq_true rfl) hf28 rfl rfl dX3_ofThing_77 ?_
      refine x_get (D := (dC, dI)) (ci := 0) (v := .ref (q 7)) (C := RX0) (T := TX0) (N := 17) hx hb hts hinX0 hown hK hP 1 rfl rfl 10 (Nat.le_of_ble_eq_true rfl) hf77 rfl rfl dX3_ofThing_80 ?_
      refine lv_iload_n hx hb dX3_ofThing_83 rfl (lv_at hl 1 rfl) ?_
      refine x_iald (v := (nI (A 4 j))) hx hb hK hP 8 0 rfl rfl (by omega) (by decide) (hR.2.2 _ (by omega)).2.2.1 dX3_ofThing_84 ?_
      exact hend _ _ _ _ _ (by simp [uOfThing, inB02, c11, hxj, hw0, hw1, hw2] <;> rfl) hS dX3_ofThing_85
    by_cases hw3 : w = 3
    · skip
      refine lv_tableIn (tgt := 86) hx hb dX3_ofThing_17 (by rw [hw3]; decide) (by rw [hw3]; decide) (by rw [hw3]; rfl) (by decide) ?_
      refine lv_aload_n hx hb dX3_ofThing_86 rfl (lv_at hl 0 rfl) ?_
      refine x_get (D := (dC, dI)) (ci := 3) (v := .ref (q 0)) (C := RX3) (T := TX3) (N := 5) hx hb hts hinX3 hown hK hP 0 rfl rfl 2 (Nat.le_of_ble_eq_true rfl) hf28 rfl rfl dX3_ofThing_87 ?_
      refine lv_iload_n hx hb dX3_ofThing_90 rfl (lv_at hl 1 rfl) ?_
      refine lv_aload_n hx hb dX3_ofThing_91 rfl (lv_at hl 0 rfl) ?_
      refine x_get (D := (dC, dI)) (ci := 3) (v := .ref (q 0)) (C := RX3) (T := TX3) (N := 5) hx hb hts hinX3 hown hK hP 0 rfl rfl 2 (Nat.le_of_ble_eq_true rfl) hf28 rfl rfl dX3_ofThing_92 ?_
      refine x_get (D := (dC, dI)) (ci := 0) (v := .int (nI (n 4))) (C := RX0) (T := TX0) (N := 17) hx hb hts hinX0 hown hK hP 1 rfl rfl 13 (Nat.le_of_ble_eq_true rfl) hf80 rfl rfl dX3_ofThing_95 ?_
      refine roV_i (As := [.int (nI j), .int (nI (n 4))]) (rest := []) ⟨hx, hb, hml, hown, hts⟩ (kX0_tallIn l dC dI cI q n A X hW hR j (n 4) _ (by omega) (by omega)) (cwV 2 hts gX3_ofThing_X0_tallIn rfl rfl rfl hdX0_tallIn ⟨Nat.le_trans (Nat.le_of_ble_eq_true rfl) hRf, Nat.le_trans (Nat.le_of_ble_eq_true rfl) hRl⟩) (va_recv hK hP (ci := 0) (q0 := 1) rfl rfl) hK (hP.sub [1, 2, 3, 4, 5, 6, 7, 8, 9] rfl) rfl hl.1 rfl (Nat.le_of_ble_eq_true rfl) dX3_ofThing_98 ⟨Nat.zero_le _, Nat.zero_le _⟩ hP hS hA (fun H locs hP hS => ?_)
      exact hend _ _ _ _ _ (by simp [uOfThing, inB02, c11, hxj, hw0, hw1, hw2, hw3] <;> rfl) hS dX3_ofThing_101
    by_cases hw4 : w = 4
    · skip
      refine lv_tableIn (tgt := 102) hx hb dX3_ofThing_17 (by rw [hw4]; decide) (by rw [hw4]; decide) (by rw [hw4]; rfl) (by decide) ?_
      refine lv_aload_n hx hb dX3_ofThing_102 rfl (lv_at hl 0 rfl) ?_
      refine x_get (D := (dC, dI)) (ci := 3) (v := .ref (q 0)) (C := RX3) (T := TX3) (N := 5) hx hb hts hinX3 hown hK hP 0 rfl rfl 2 (Nat.le_of_ble_eq_true rfl) hf28 rfl rfl dX3_ofThing_103 ?_
      refine lv_iload_n hx hb dX3_ofThing_106 rfl (lv_at hl 1 rfl) ?_
      refine roV_i (As := [.int (nI j)]) (rest := []) ⟨hx, hb, hml, hown, hts⟩ (kX0_isThere l dC dI cI q n A X hW hR j _ (by omega)) (cwV 1 hts gX3_ofThing_X0_isThere rfl rfl rfl hdX0_isThere ⟨Nat.le_trans (Nat.le_of_ble_eq_true rfl) hRf, Nat.le_trans (Nat.le_of_ble_eq_true rfl) hRl⟩) (va_recv hK hP (ci := 0) (q0 := 1) rfl rfl) hK (hP.sub [1, 2, 3, 4, 5, 6, 7, 8, 9] rfl) rfl hl.1 rfl (Nat.le_of_ble_eq_true rfl) dX3_ofThing_107 ⟨Nat.zero_le _, Nat.zero_le _⟩ hP hS hA (fun H locs hP hS => ?_)
      refine x_ifb_eq (tgt := 117) hx hb dX3_ofThing_110 (by decide) (fun c110 => ?_) (fun c110 => ?_)
      · skip
        refine lv_iconst (v := nI 1) hx hb dX3_ofThing_117 rfl ?_
        exact hend _ _ _ _ _ (by simp [uOfThing, c11, hxj, hw4, c110]; rfl) hS dX3_ofThing_118
      · skip
        refine lv_iconst (v := nI 0) hx hb dX3_ofThing_113 rfl ?_
        refine lv_goto (tgt := 118) hx hb dX3_ofThing_114 (by decide) ?_
        exact hend _ _ _ _ _ (by simp [uOfThing, c11, hxj, hw4, c110]; rfl) hS dX3_ofThing_118
    by_cases hw5 : w = 5
    · skip
      refine lv_tableIn (tgt := 119) hx hb dX3_ofThing_17 (by rw [hw5]; decide) (by rw [hw5]; decide) (by rw [hw5]; rfl) (by decide) ?_
      refine lv_aload_n hx hb dX3_ofThing_119 rfl (lv_at hl 0 rfl) ?_
      refine x_get (D := (dC, dI)) (ci := 3) (v := .ref (q 0)) (C := RX3) (T := TX3) (N := 5) hx hb hts hinX3 hown hK hP 0 rfl rfl 2 (Nat.le_of_ble_eq_true rfl) hf28 rfl rfl dX3_ofThing_120 ?_
      refine x_get (D := (dC, dI)) (ci := 0) (v := .ref (q 8)) (C := RX0) (T := TX0) (N := 17) hx hb hts hinX0 hown hK hP 1 rfl rfl 11 (Nat.le_of_ble_eq_true rfl) hf91 rfl rfl dX3_ofThing_123 ?_
      refine lv_iload_n hx hb dX3_ofThing_126 rfl (lv_at hl 1 rfl) ?_
      refine x_iald (v := (nI (A 5 j))) hx hb hK hP 9 0 rfl rfl (by omega) (by decide) (hR.2.2 _ (by omega)).2.2.2 dX3_ofThing_127 ?_
      exact hend _ _ _ _ _ (by simp [uOfThing, inB02, c11, hxj, hw0, hw1, hw2, hw3, hw4, hw5] <;> rfl) hS dX3_ofThing_128
    refine lv_tableOut (tgt := 129) hx hb dX3_ofThing_17 (by have q0 : ¬ w.toInt = 0 := lv_neT hw0 rfl; have q1 : ¬ w.toInt = 1 := lv_neT hw1 rfl; have q2 : ¬ w.toInt = 2 := lv_neT hw2 rfl; have q3 : ¬ w.toInt = 3 := lv_neT hw3 rfl; have q4 : ¬ w.toInt = 4 := lv_neT hw4 rfl; have q5 : ¬ w.toInt = 5 := lv_neT hw5 rfl; omega) (by decide) ?_
    refine lv_bipush (v := -2) hx hb dX3_ofThing_129 rfl ?_
    exact hend _ _ _ _ _ (by simp [uOfThing, inB02, c11, hxj, hw0, hw1, hw2, hw3, hw4, hw5] <;> rfl) hS dX3_ofThing_131
  · skip
    refine lv_iconst (v := -1) hx hb dX3_ofThing_14 rfl ?_
    exact hend _ _ _ _ _ (by simp [uOfThing, inB02, c11] <;> rfl) hS dX3_ofThing_15
theorem hdX0_hasStatue : yX0_hasStatue.cls = RX0 ∧ yX0_hasStatue.cls ≠ "java/lang/invoke/MethodHandle" ∧ yX0_hasStatue.cls ≠ "java/lang/invoke/VarHandle" ∧ (parseMethodDescriptor yX0_hasStatue.desc).map (fun d => d.parameters.length) = some 0 := by decide +kernel
set_option maxRecDepth 20000 in
theorem ggX3_seen_X3_isBelow : GoodIn wsX3_seen wsX3_isBelow := goodIn_r _ [7] (by decide +kernel) (by decide +kernel)
set_option maxRecDepth 20000 in
theorem gX3_seen_X3_isBelow : GoodIn wsX3_seen (va_wsS RX3 39 yX3_isBelow wsX3_isBelow) := goodIn_app (goodIn_of _ (by decide +kernel)) ggX3_seen_X3_isBelow
set_option maxRecDepth 20000 in
theorem ggX3_seen_X0_hasStatue : GoodIn wsX3_seen wsX0_hasStatue := goodIn_r _ [12, 13, 57, 58, 59, 60, 61, 62, 63, 64, 65, 66, 67, 68, 69, 70, 71, 72, 73] (by decide +kernel) (by decide +kernel)
set_option maxRecDepth 20000 in
theorem gX3_seen_X0_hasStatue : GoodIn wsX3_seen (wsV RX3 120 RX0 yX0_hasStatue wsX0_hasStatue) := goodIn_app (goodIn_of _ (by decide +kernel)) ggX3_seen_X0_hasStatue
set_option maxRecDepth 20000 in
theorem ggX3_seen_X0_partsSeen : GoodIn wsX3_seen wsX0_partsSeen := goodIn_r _ [17, 18, 19, 20, 21, 22, 23, 11, 24, 25, 26, 27, 28, 29, 30, 31, 32, 33, 34, 35, 36, 37, 38, 39, 40, 41, 42, 43, 44, 45, 46, 47, 48, 49, 50, 51, 57, 58, 59, 60, 61, 62, 63, 64, 65, 66, 67, 68, 69, 70, 71, 72, 73] (by decide +kernel) (by decide +kernel)
set_option maxRecDepth 20000 in
theorem gX3_seen_X0_partsSeen : GoodIn wsX3_seen (wsV RX3 123 RX0 yX0_partsSeen wsX0_partsSeen) := goodIn_app (goodIn_of _ (by decide +kernel)) ggX3_seen_X0_partsSeen
set_option maxHeartbeats 4000000 in
set_option maxRecDepth 100000 in
theorem kX3_seen (l : Launch) (dC : Nat → ClassId) (dI : Nat → Nat → Nat) (a r0 r1 : Nat) (tr fl : Int32) (cI : ClassId) (q n : Nat → Nat) (A : Nat → Nat → Nat) (X : Nat → Nat → Int32) (hW : WF n A) (hR : RG n A X) (tH : Nat) (b : Int32) (sz : Nat) : Met l yX3_seen wsX3_seen ({ frames := 4, cells := 0, slots := 0, locals := 101 }) (rsP tH [.ref a, .int b] sz (dC, dI) [(cI, .int)] ((a, .inr (3, [.ref r0, .ref r1, .ref (q 0), .int tr, .int fl])) :: wG cI q n X)) (roQi (uSeen n A b) sz) 0 0 (va_A [] sz) := by
  refine rs_met_i (by decide) rfl (Nat.le_of_ble_eq_true rfl) ?_
  intro pp ee ss mm aa bb me cd RR QQ Z hx hb hml hown hts hRf hRl hP hK hA hS hZT hend ls hl
  have hown : ss.vm.findClass RX3 = some mm.cls := hown
  have hRf : 4 ≤ RR.frames := hRf
  have hRl : 101 ≤ RR.locals := hRl
  have hl : lv_has ls 2 [(0, .ref a), (1, .int b)] := hl
  obtain ⟨w0, w1, w2, w3, w4, w5, w6, w7, w8, wA0, wA1, wA2⟩ := id hW
  have wC : n 0 * n 1 ≤ 42 := Nat.mul_le_mul w0 w1
  have hf28 := hts (.fieldLink RX3 28 "StatueSquare" "ground" "LStatueSquare$Ground;") (List.mem_of_getElem? (i := 1) rfl)
  have hinX3 : ∀ w ∈ u_ws RX3 TX3 5, w ∈ wsX3_seen := fun _ h => List.mem_cons_of_mem _ (List.mem_append_left _ (List.mem_append_right _ h))
  have hf94 := hts (.fieldLink RX3 94 "StatueSquare$Ground" "benchCount" "I") (List.mem_of_getElem? (i := 2) rfl)
  have hinX0 : ∀ w ∈ u_ws RX0 TX0 17, w ∈ wsX3_seen := fun _ h => List.mem_cons_of_mem _ (List.mem_append_right _ h)
  have hf114 := hts (.fieldLink RX3 114 "StatueSquare$Ground" "statueCell" "I") (List.mem_of_getElem? (i := 3) rfl)
  refine lv_iload_n hx hb dX3_seen_0 rfl (lv_at hl 1 rfl) ?_
  refine lv_aload_n hx hb dX3_seen_1 rfl (lv_at hl 0 rfl) ?_
  refine x_get (D := (dC, dI)) (ci := 3) (v := .ref (q 0)) (C := RX3) (T := TX3) (N := 5) hx hb hts hinX3 hown hK hP 0 rfl rfl 2 (Nat.le_of_ble_eq_true rfl) hf28 rfl rfl dX3_seen_2 ?_
  refine x_get (D := (dC, dI)) (ci := 0) (v := .int (nI (n 2))) (C := RX0) (T := TX0) (N := 17) hx hb hts hinX0 hown hK hP 1 rfl rfl 2 (Nat.le_of_ble_eq_true rfl) hf94 rfl rfl dX3_seen_5 ?_
  refine roS_i (As := [.int b, .int (nI (n 2))]) (rest := []) ⟨hx, hb, hml, hown, hts⟩ (kX3_isBelow l dC dI b (n 2) _ ) (va_cwS 2 hts gX3_seen_X3_isBelow rfl rfl rfl hdX3_isBelow ⟨Nat.le_trans (Nat.le_of_ble_eq_true rfl) hRf, Nat.le_trans (Nat.le_of_ble_eq_true rfl) hRl⟩) (hK.sub [] rfl) (hP.sub [] rfl) rfl hl.1 rfl (Nat.le_of_ble_eq_true rfl) dX3_seen_8 ⟨Nat.zero_le _, Nat.zero_le _⟩ hP hS hA (fun H locs hP hS => ?_)
  refine x_ifb_ne (tgt := 16) hx hb dX3_seen_11 (by decide) (fun c11 => ?_) (fun c11 => ?_)
  · skip
    obtain ⟨j, hj, rfl⟩ := inB_t (by omega) c11
    have hxj : xn (nI j) = j := xn_nI (by omega)
    refine lv_aload_n hx hb dX3_seen_16 rfl (lv_at hl 0 rfl) ?_
    refine x_get (D := (dC, dI)) (ci := 3) (v := .ref (q 0)) (C := RX3) (T := TX3) (N := 5) hx hb hts hinX3 hown hK hP 0 rfl rfl 2 (Nat.le_of_ble_eq_true rfl) hf28 rfl rfl dX3_seen_17 ?_
    refine roV_i (As := []) (rest := []) ⟨hx, hb, hml, hown, hts⟩ (kX0_hasStatue l dC dI cI q n A X hW hR  _ ) (cwV 0 hts gX3_seen_X0_hasStatue rfl rfl rfl hdX0_hasStatue ⟨Nat.le_trans (Nat.le_of_ble_eq_true rfl) hRf, Nat.le_trans (Nat.le_of_ble_eq_true rfl) hRl⟩) (va_recv hK hP (ci := 0) (q0 := 1) rfl rfl) hK (hP.sub [1, 2, 3, 4, 5, 6, 7, 8, 9] rfl) rfl hl.1 rfl (Nat.le_of_ble_eq_true rfl) dX3_seen_20 ⟨Nat.zero_le _, Nat.zero_le _⟩ hP hS hA (fun H locs hP hS => ?_)
    refine x_ifb_eq (tgt := 44) hx hb dX3_seen_23 (by decide) (fun c23 => ?_) (fun c23 => ?_)
    · skip
      have hst : ¬ 0 < n 6 := of_decide_eq_false c23
      refine lv_bipush (v := -3) hx hb dX3_seen_44 rfl ?_
      exact hend _ _ _ _ _ (by simp [uSeen, inB02, c11, hst] <;> rfl) hS dX3_seen_46
    · skip
      have hst : 0 < n 6 := of_decide_eq_true c23
      refine lv_aload_n hx hb dX3_seen_26 rfl (lv_at hl 0 rfl) ?_
      refine x_get (D := (dC, dI)) (ci := 3) (v := .ref (q 0)) (C := RX3) (T := TX3) (N := 5) hx hb hts hinX3 hown hK hP 0 rfl rfl 2 (Nat.le_of_ble_eq_true rfl) hf28 rfl rfl dX3_seen_27 ?_
      refine lv_iload_n hx hb dX3_seen_30 rfl (lv_at hl 1 rfl) ?_
      refine lv_aload_n hx hb dX3_seen_31 rfl (lv_at hl 0 rfl) ?_
      refine x_get (D := (dC, dI)) (ci := 3) (v := .ref (q 0)) (C := RX3) (T := TX3) (N := 5) hx hb hts hinX3 hown hK hP 0 rfl rfl 2 (Nat.le_of_ble_eq_true rfl) hf28 rfl rfl dX3_seen_32 ?_
      refine x_get (D := (dC, dI)) (ci := 0) (v := .int (stI (n 6))) (C := RX0) (T := TX0) (N := 17) hx hb hts hinX0 hown hK hP 1 rfl rfl 15 (Nat.le_of_ble_eq_true rfl) hf114 rfl rfl dX3_seen_35 ?_
      refine x_top (stI_pos hst) ?_
      refine rsV_i (As := [.int (nI j), .int (nI (n 6 - 1))]) (rest := []) ⟨hx, hb, hml, hown, hts⟩ (kX0_partsSeen l dC dI cI q n A X hW hR tH j (n 6 - 1) _ (by omega) (by omega)) (cwV 2 hts gX3_seen_X0_partsSeen rfl rfl rfl hdX0_partsSeen ⟨Nat.le_trans (Nat.le_of_ble_eq_true rfl) hRf, Nat.le_trans (Nat.le_of_ble_eq_true rfl) hRl⟩) (va_recv hK hP (ci := 0) (q0 := 1) rfl rfl) hK (hP.sub [1, 2, 3, 4, 5, 6, 7, 8, 9] rfl) rfl hl.1 rfl (Nat.le_of_ble_eq_true rfl) dX3_seen_38 ⟨Nat.zero_le _, Nat.zero_le _⟩ hP hS hA hZT (fun H locs hP hS => ?_)
      refine lv_goto (tgt := 46) hx hb dX3_seen_41 (by decide) ?_
      exact hend _ _ _ _ _ (by simp [uSeen, inB02, c11, hxj, hst] <;> rfl) hS dX3_seen_46
  · skip
    refine lv_iconst (v := -1) hx hb dX3_seen_14 rfl ?_
    exact hend _ _ _ _ _ (by simp [uSeen, inB02, c11] <;> rfl) hS dX3_seen_15
set_option maxRecDepth 20000 in
theorem ggX3_whole_X0_hasStatue : GoodIn wsX3_whole wsX0_hasStatue := goodIn_r _ [6, 7, 55, 56, 57, 58, 59, 60, 61, 62, 63, 64, 65, 66, 67, 68, 69, 70, 71] (by decide +kernel) (by decide +kernel)
set_option maxRecDepth 20000 in
theorem gX3_whole_X0_hasStatue : GoodIn wsX3_whole (wsV RX3 120 RX0 yX0_hasStatue wsX0_hasStatue) := goodIn_app (goodIn_of _ (by decide +kernel)) ggX3_whole_X0_hasStatue
set_option maxRecDepth 20000 in
theorem ggX3_whole_X0_benchesThatSeeWhole : GoodIn wsX3_whole wsX0_benchesThatSeeWhole := goodIn_r _ [11, 12, 13, 14, 15, 16, 5, 17, 7, 18, 19, 20, 21, 22, 23, 24, 25, 26, 27, 28, 29, 30, 31, 32, 33, 34, 35, 36, 37, 38, 39, 40, 41, 42, 43, 44, 45, 46, 47, 48, 49, 55, 56, 57, 58, 59, 60, 61, 62, 63, 64, 65, 66, 67, 68, 69, 70, 71] (by decide +kernel) (by decide +kernel)
set_option maxRecDepth 20000 in
theorem gX3_whole_X0_benchesThatSeeWhole : GoodIn wsX3_whole (wsV RX3 126 RX0 yX0_benchesThatSeeWhole wsX0_benchesThatSeeWhole) := goodIn_app (goodIn_of _ (by decide +kernel)) ggX3_whole_X0_benchesThatSeeWhole
set_option maxHeartbeats 4000000 in
set_option maxRecDepth 100000 in
theorem kX3_whole (l : Launch) (dC : Nat → ClassId) (dI : Nat → Nat → Nat) (a r0 r1 : Nat) (tr fl : Int32) (cI : ClassId) (q n : Nat → Nat) (A : Nat → Nat → Nat) (X : Nat → Nat → Int32) (hW : WF n A) (hR : RG n A X) (sz : Nat) : Met l yX3_whole wsX3_whole ({ frames := 5, cells := 0, slots := 0, locals := 121 }) (roP [.ref a] sz (dC, dI) [(cI, .int)] ((a, .inr (3, [.ref r0, .ref r1, .ref (q 0), .int tr, .int fl])) :: wG cI q n X)) (roQi (uWhole n A) sz) 0 0 (va_A [] sz) := by
  refine ro_met_i (by decide) rfl (Nat.le_of_ble_eq_true rfl) ?_
  intro pp ee ss mm aa bb me cd RR QQ Z hx hb hml hown hts hRf hRl hP hK hA hS hend ls hl
  have hown : ss.vm.findClass RX3 = some mm.cls := hown
  have hRf : 5 ≤ RR.frames := hRf
  have hRl : 121 ≤ RR.locals := hRl
  have hl : lv_has ls 1 [(0, .ref a)] := hl
  obtain ⟨w0, w1, w2, w3, w4, w5, w6, w7, w8, wA0, wA1, wA2⟩ := id hW
  have wC : n 0 * n 1 ≤ 42 := Nat.mul_le_mul w0 w1
  have hf28 := hts (.fieldLink RX3 28 "StatueSquare" "ground" "LStatueSquare$Ground;") (List.mem_of_getElem? (i := 1) rfl)
  have hinX3 : ∀ w ∈ u_ws RX3 TX3 5, w ∈ wsX3_whole := fun _ h => List.mem_cons_of_mem _ (List.mem_append_left _ (List.mem_append_right _ h))
  refine lv_aload_n hx hb dX3_whole_0 rfl (lv_at hl 0 rfl) ?_
  refine x_get (D := (dC, dI)) (ci := 3) (v := .ref (q 0)) (C := RX3) (T := TX3) (N := 5) hx hb hts hinX3 hown hK hP 0 rfl rfl 2 (Nat.le_of_ble_eq_true rfl) hf28 rfl rfl dX3_whole_1 ?_
  refine roV_i (As := []) (rest := []) ⟨hx, hb, hml, hown, hts⟩ (kX0_hasStatue l dC dI cI q n A X hW hR  _ ) (cwV 0 hts gX3_whole_X0_hasStatue rfl rfl rfl hdX0_hasStatue ⟨Nat.le_trans (Nat.le_of_ble_eq_true rfl) hRf, Nat.le_trans (Nat.le_of_ble_eq_true rfl) hRl⟩) (va_recv hK hP (ci := 0) (q0 := 1) rfl rfl) hK (hP.sub [1, 2, 3, 4, 5, 6, 7, 8, 9] rfl) rfl hl.1 rfl (Nat.le_of_ble_eq_true rfl) dX3_whole_4 ⟨Nat.zero_le _, Nat.zero_le _⟩ hP hS hA (fun H locs hP hS => ?_)
  refine x_ifb_eq (tgt := 20) hx hb dX3_whole_7 (by decide) (fun c7 => ?_) (fun c7 => ?_)
  · skip
    have hst : ¬ 0 < n 6 := of_decide_eq_false c7
    refine lv_bipush (v := -3) hx hb dX3_whole_20 rfl ?_
    exact hend _ _ _ _ _ (by simp [uWhole, inB02, hst] <;> rfl) hS dX3_whole_22
  · skip
    have hst : 0 < n 6 := of_decide_eq_true c7
    refine lv_aload_n hx hb dX3_whole_10 rfl (lv_at hl 0 rfl) ?_
    refine x_get (D := (dC, dI)) (ci := 3) (v := .ref (q 0)) (C := RX3) (T := TX3) (N := 5) hx hb hts hinX3 hown hK hP 0 rfl rfl 2 (Nat.le_of_ble_eq_true rfl) hf28 rfl rfl dX3_whole_11 ?_
    refine roV_i (As := []) (rest := []) ⟨hx, hb, hml, hown, hts⟩ (kX0_benchesThatSeeWhole l dC dI cI q n A X hW hR  _ (by omega)) (cwV 0 hts gX3_whole_X0_benchesThatSeeWhole rfl rfl rfl hdX0_benchesThatSeeWhole ⟨Nat.le_trans (Nat.le_of_ble_eq_true rfl) hRf, Nat.le_trans (Nat.le_of_ble_eq_true rfl) hRl⟩) (va_recv hK hP (ci := 0) (q0 := 1) rfl rfl) hK (hP.sub [1, 2, 3, 4, 5, 6, 7, 8, 9] rfl) rfl hl.1 rfl (Nat.le_of_ble_eq_true rfl) dX3_whole_14 ⟨Nat.zero_le _, Nat.zero_le _⟩ hP hS hA (fun H locs hP hS => ?_)
    refine lv_goto (tgt := 22) hx hb dX3_whole_17 (by decide) ?_
    exact hend _ _ _ _ _ (by simp [uWhole, inB02, hst] <;> rfl) hS dX3_whole_22
set_option maxRecDepth 20000 in
theorem ggX3_hidden_X3_isBelow : GoodIn wsX3_hidden wsX3_isBelow := goodIn_r _ [6] (by decide +kernel) (by decide +kernel)
set_option maxRecDepth 20000 in
theorem gX3_hidden_X3_isBelow : GoodIn wsX3_hidden (va_wsS RX3 39 yX3_isBelow wsX3_isBelow) := goodIn_app (goodIn_of _ (by decide +kernel)) ggX3_hidden_X3_isBelow
set_option maxRecDepth 20000 in
theorem ggX3_hidden_X0_hasStatue : GoodIn wsX3_hidden wsX0_hasStatue := goodIn_r _ [11, 12, 55, 56, 57, 58, 59, 60, 61, 62, 63, 64, 65, 66, 67, 68, 69, 70, 71] (by decide +kernel) (by decide +kernel)
set_option maxRecDepth 20000 in
theorem gX3_hidden_X0_hasStatue : GoodIn wsX3_hidden (wsV RX3 120 RX0 yX0_hasStatue wsX0_hasStatue) := goodIn_app (goodIn_of _ (by decide +kernel)) ggX3_hidden_X0_hasStatue
set_option maxRecDepth 20000 in
theorem ggX3_hidden_X0_hiders : GoodIn wsX3_hidden wsX0_hiders := goodIn_r _ [16, 12, 17, 18, 19, 20, 21, 10, 22, 23, 24, 25, 26, 27, 28, 29, 30, 31, 32, 33, 34, 35, 36, 37, 38, 39, 40, 41, 42, 43, 44, 45, 46, 47, 48, 49, 55, 56, 57, 58, 59, 60, 61, 62, 63, 64, 65, 66, 67, 68, 69, 70, 71] (by decide +kernel) (by decide +kernel)
set_option maxRecDepth 20000 in
theorem gX3_hidden_X0_hiders : GoodIn wsX3_hidden (wsV RX3 130 RX0 yX0_hiders wsX0_hiders) := goodIn_app (goodIn_of _ (by decide +kernel)) ggX3_hidden_X0_hiders
set_option maxHeartbeats 4000000 in
set_option maxRecDepth 100000 in
theorem kX3_hidden (l : Launch) (dC : Nat → ClassId) (dI : Nat → Nat → Nat) (a r0 r1 : Nat) (tr fl : Int32) (cI : ClassId) (q n : Nat → Nat) (A : Nat → Nat → Nat) (X : Nat → Nat → Int32) (hW : WF n A) (hR : RG n A X) (b : Int32) (sz : Nat) : Met l yX3_hidden wsX3_hidden ({ frames := 4, cells := 0, slots := 0, locals := 98 }) (roP [.ref a, .int b] sz (dC, dI) [(cI, .int)] ((a, .inr (3, [.ref r0, .ref r1, .ref (q 0), .int tr, .int fl])) :: wG cI q n X)) (roQi (uHidden n A b) sz) 0 0 (va_A [] sz) := by
  refine ro_met_i (by decide) rfl (Nat.le_of_ble_eq_true rfl) ?_
  intro pp ee ss mm aa bb me cd RR QQ Z hx hb hml hown hts hRf hRl hP hK hA hS hend ls hl
  have hown : ss.vm.findClass RX3 = some mm.cls := hown
  have hRf : 4 ≤ RR.frames := hRf
  have hRl : 98 ≤ RR.locals := hRl
  have hl : lv_has ls 2 [(0, .ref a), (1, .int b)] := hl
  obtain ⟨w0, w1, w2, w3, w4, w5, w6, w7, w8, wA0, wA1, wA2⟩ := id hW
  have wC : n 0 * n 1 ≤ 42 := Nat.mul_le_mul w0 w1
  have hf28 := hts (.fieldLink RX3 28 "StatueSquare" "ground" "LStatueSquare$Ground;") (List.mem_of_getElem? (i := 1) rfl)
  have hinX3 : ∀ w ∈ u_ws RX3 TX3 5, w ∈ wsX3_hidden := fun _ h => List.mem_cons_of_mem _ (List.mem_append_left _ (List.mem_append_right _ h))
  have hf94 := hts (.fieldLink RX3 94 "StatueSquare$Ground" "benchCount" "I") (List.mem_of_getElem? (i := 2) rfl)
  have hinX0 : ∀ w ∈ u_ws RX0 TX0 17, w ∈ wsX3_hidden := fun _ h => List.mem_cons_of_mem _ (List.mem_append_right _ h)
  refine lv_iload_n hx hb dX3_hidden_0 rfl (lv_at hl 1 rfl) ?_
  refine lv_aload_n hx hb dX3_hidden_1 rfl (lv_at hl 0 rfl) ?_
  refine x_get (D := (dC, dI)) (ci := 3) (v := .ref (q 0)) (C := RX3) (T := TX3) (N := 5) hx hb hts hinX3 hown hK hP 0 rfl rfl 2 (Nat.le_of_ble_eq_true rfl) hf28 rfl rfl dX3_hidden_2 ?_
  refine x_get (D := (dC, dI)) (ci := 0) (v := .int (nI (n 2))) (C := RX0) (T := TX0) (N := 17) hx hb hts hinX0 hown hK hP 1 rfl rfl 2 (Nat.le_of_ble_eq_true rfl) hf94 rfl rfl dX3_hidden_5 ?_
  refine roS_i (As := [.int b, .int (nI (n 2))]) (rest := []) ⟨hx, hb, hml, hown, hts⟩ (kX3_isBelow l dC dI b (n 2) _ ) (va_cwS 2 hts gX3_hidden_X3_isBelow rfl rfl rfl hdX3_isBelow ⟨Nat.le_trans (Nat.le_of_ble_eq_true rfl) hRf, Nat.le_trans (Nat.le_of_ble_eq_true rfl) hRl⟩) (hK.sub [] rfl) (hP.sub [] rfl) rfl hl.1 rfl (Nat.le_of_ble_eq_true rfl) dX3_hidden_8 ⟨Nat.zero_le _, Nat.zero_le _⟩ hP hS hA (fun H locs hP hS => ?_)
  refine x_ifb_ne (tgt := 16) hx hb dX3_hidden_11 (by decide) (fun c11 => ?_) (fun c11 => ?_)
  · skip
    obtain ⟨j, hj, rfl⟩ := inB_t (by omega) c11
    have hxj : xn (nI j) = j := xn_nI (by omega)
    refine lv_aload_n hx hb dX3_hidden_16 rfl (lv_at hl 0 rfl) ?_
    refine x_get (D := (dC, dI)) (ci := 3) (v := .ref (q 0)) (C := RX3) (T := TX3) (N := 5) hx hb hts hinX3 hown hK hP 0 rfl rfl 2 (Nat.le_of_ble_eq_true rfl) hf28 rfl rfl dX3_hidden_17 ?_
    refine roV_i (As := []) (rest := []) ⟨hx, hb, hml, hown, hts⟩ (kX0_hasStatue l dC dI cI q n A X hW hR  _ ) (cwV 0 hts gX3_hidden_X0_hasStatue rfl rfl rfl hdX0_hasStatue ⟨Nat.le_trans (Nat.le_of_ble_eq_true rfl) hRf, Nat.le_trans (Nat.le_of_ble_eq_true rfl) hRl⟩) (va_recv hK hP (ci := 0) (q0 := 1) rfl rfl) hK (hP.sub [1, 2, 3, 4, 5, 6, 7, 8, 9] rfl) rfl hl.1 rfl (Nat.le_of_ble_eq_true rfl) dX3_hidden_20 ⟨Nat.zero_le _, Nat.zero_le _⟩ hP hS hA (fun H locs hP hS => ?_)
    refine x_ifb_eq (tgt := 37) hx hb dX3_hidden_23 (by decide) (fun c23 => ?_) (fun c23 => ?_)
    · skip
      have hst : ¬ 0 < n 6 := of_decide_eq_false c23
      refine lv_bipush (v := -3) hx hb dX3_hidden_37 rfl ?_
      exact hend _ _ _ _ _ (by simp [uHidden, inB02, c11, hst] <;> rfl) hS dX3_hidden_39
    · skip
      have hst : 0 < n 6 := of_decide_eq_true c23
      refine lv_aload_n hx hb dX3_hidden_26 rfl (lv_at hl 0 rfl) ?_
      refine x_get (D := (dC, dI)) (ci := 3) (v := .ref (q 0)) (C := RX3) (T := TX3) (N := 5) hx hb hts hinX3 hown hK hP 0 rfl rfl 2 (Nat.le_of_ble_eq_true rfl) hf28 rfl rfl dX3_hidden_27 ?_
      refine lv_iload_n hx hb dX3_hidden_30 rfl (lv_at hl 1 rfl) ?_
      refine roV_i (As := [.int (nI j)]) (rest := []) ⟨hx, hb, hml, hown, hts⟩ (kX0_hiders l dC dI cI q n A X hW hR j _ (by omega) (by omega)) (cwV 1 hts gX3_hidden_X0_hiders rfl rfl rfl hdX0_hiders ⟨Nat.le_trans (Nat.le_of_ble_eq_true rfl) hRf, Nat.le_trans (Nat.le_of_ble_eq_true rfl) hRl⟩) (va_recv hK hP (ci := 0) (q0 := 1) rfl rfl) hK (hP.sub [1, 2, 3, 4, 5, 6, 7, 8, 9] rfl) rfl hl.1 rfl (Nat.le_of_ble_eq_true rfl) dX3_hidden_31 ⟨Nat.zero_le _, Nat.zero_le _⟩ hP hS hA (fun H locs hP hS => ?_)
      refine lv_goto (tgt := 39) hx hb dX3_hidden_34 (by decide) ?_
      exact hend _ _ _ _ _ (by simp [uHidden, inB02, c11, hxj, hst] <;> rfl) hS dX3_hidden_39
  · skip
    refine lv_iconst (v := -1) hx hb dX3_hidden_14 rfl ?_
    exact hend _ _ _ _ _ (by simp [uHidden, inB02, c11] <;> rfl) hS dX3_hidden_15
theorem hdX0_partsSeenInAll : yX0_partsSeenInAll.cls = RX0 ∧ yX0_partsSeenInAll.cls ≠ "java/lang/invoke/MethodHandle" ∧ yX0_partsSeenInAll.cls ≠ "java/lang/invoke/VarHandle" ∧ (parseMethodDescriptor yX0_partsSeenInAll.desc).map (fun d => d.parameters.length) = some 0 := by decide +kernel
theorem hdX3_greatestDivisor : yX3_greatestDivisor.cls ≠ "java/lang/invoke/MethodHandle" ∧ yX3_greatestDivisor.cls ≠ "java/lang/invoke/VarHandle" ∧ (parseMethodDescriptor yX3_greatestDivisor.desc).map (fun d => d.parameters.length) = some 2 := by decide +kernel
set_option maxRecDepth 20000 in
theorem ggX3_sight_X3_isBelow : GoodIn wsX3_sight wsX3_isBelow := goodIn_r _ [11] (by decide +kernel) (by decide +kernel)
set_option maxRecDepth 20000 in
theorem gX3_sight_X3_isBelow : GoodIn wsX3_sight (va_wsS RX3 39 yX3_isBelow wsX3_isBelow) := goodIn_app (goodIn_of _ (by decide +kernel)) ggX3_sight_X3_isBelow
set_option maxRecDepth 20000 in
theorem ggX3_sight_X0_hasStatue : GoodIn wsX3_sight wsX0_hasStatue := goodIn_r _ [16, 17, 73, 74, 75, 76, 77, 78, 79, 80, 81, 82, 83, 84, 85, 86, 87, 88, 89] (by decide +kernel) (by decide +kernel)
set_option maxRecDepth 20000 in
theorem gX3_sight_X0_hasStatue : GoodIn wsX3_sight (wsV RX3 120 RX0 yX0_hasStatue wsX0_hasStatue) := goodIn_app (goodIn_of _ (by decide +kernel)) ggX3_sight_X0_hasStatue
set_option maxRecDepth 20000 in
theorem ggX3_sight_X0_partsSeenInAll : GoodIn wsX3_sight wsX0_partsSeenInAll := goodIn_r _ [21, 22, 17, 23, 24, 25, 15, 26, 27, 28, 29, 30, 31, 32, 33, 34, 35, 36, 37, 38, 39, 40, 41, 42, 6, 43, 44, 45, 5, 7, 46, 47, 48, 49, 50, 51, 52, 53, 54, 55, 56, 57, 58, 59, 60, 61, 62, 63, 64, 73, 74, 75, 76, 77, 78, 79, 80, 81, 82, 83, 84, 85, 86, 87, 88, 89] (by decide +kernel) (by decide +kernel)
set_option maxRecDepth 20000 in
theorem gX3_sight_X0_partsSeenInAll : GoodIn wsX3_sight (wsV RX3 135 RX0 yX0_partsSeenInAll wsX0_partsSeenInAll) := goodIn_app (goodIn_of _ (by decide +kernel)) ggX3_sight_X0_partsSeenInAll
set_option maxRecDepth 20000 in
theorem ggX3_sight_X3_greatestDivisor : GoodIn wsX3_sight wsX3_greatestDivisor := goodIn_r _ [67] (by decide +kernel) (by decide +kernel)
set_option maxRecDepth 20000 in
theorem gX3_sight_X3_greatestDivisor : GoodIn wsX3_sight (va_wsS RX3 143 yX3_greatestDivisor wsX3_greatestDivisor) := goodIn_app (goodIn_of _ (by decide +kernel)) ggX3_sight_X3_greatestDivisor
set_option maxHeartbeats 4000000 in
set_option maxRecDepth 100000 in
theorem kX3_sight (l : Launch) (dC : Nat → ClassId) (dI : Nat → Nat → Nat) (a r0 r1 : Nat) (tr fl : Int32) (cI : ClassId) (q n : Nat → Nat) (A : Nat → Nat → Nat) (X : Nat → Nat → Int32) (hW : WF n A) (hR : RG n A X) (tH : Nat) (w : Int32) (sz : Nat) : Met l yX3_sight wsX3_sight ({ frames := 5, cells := 0, slots := 0, locals := 123 }) (rsP tH [.ref a, .int w] sz (dC, dI) [(cI, .int)] ((a, .inr (3, [.ref r0, .ref r1, .ref (q 0), .int tr, .int fl])) :: wG cI q n X)) (roQl (uSight n A w) sz) 0 0 (va_A [] sz) := by
  refine rs_met_l (by decide) rfl (Nat.le_of_ble_eq_true rfl) ?_
  intro pp ee ss mm aa bb me cd RR QQ Z hx hb hml hown hts hRf hRl hP hK hA hS hZT hend ls hl
  have hown : ss.vm.findClass RX3 = some mm.cls := hown
  have hRf : 5 ≤ RR.frames := hRf
  have hRl : 123 ≤ RR.locals := hRl
  have hl : lv_has ls 4 [(0, .ref a), (1, .int w)] := hl
  obtain ⟨w0, w1, w2, w3, w4, w5, w6, w7, w8, wA0, wA1, wA2⟩ := id hW
  have wC : n 0 * n 1 ≤ 42 := Nat.mul_le_mul w0 w1
  have hal := sAll_le (A := A) w2
  have hlo : sLow n ≤ 48 := by unfold sLow; omega
  have hlo0 : 0 < sLow n := by unfold sLow; omega
  have hk133 := hts (.constantLong RX3 133 (-9223372036854775808)) (List.mem_of_getElem? (i := 2) rfl)
  have hf28 := hts (.fieldLink RX3 28 "StatueSquare" "ground" "LStatueSquare$Ground;") (List.mem_of_getElem? (i := 1) rfl)
  have hinX3 : ∀ w ∈ u_ws RX3 TX3 5, w ∈ wsX3_sight := fun _ h => List.mem_cons_of_mem _ (List.mem_append_left _ (List.mem_append_right _ h))
  have hf94 := hts (.fieldLink RX3 94 "StatueSquare$Ground" "benchCount" "I") (List.mem_of_getElem? (i := 3) rfl)
  have hinX0 : ∀ w ∈ u_ws RX0 TX0 17, w ∈ wsX3_sight := fun _ h => List.mem_cons_of_mem _ (List.mem_append_right _ h)
  have hl138 := hts (.methodLink RX3 138 Lib.Math.max.name) (List.mem_of_getElem? (i := 4) rfl)
  have hsmax := hts (.static Lib.Math.max.name) (List.mem_of_getElem? (i := 5) rfl)
  have hiMath := hts (.initialized "java/lang/Math") (List.mem_of_getElem? (i := 6) rfl)
  have hcmax := hts (.code Lib.Math.max.name Lib.Math.max.code 2 (some .int)) (List.mem_of_getElem? (i := 7) rfl)
  refine lv_iload_n hx hb dX3_sight_0 rfl (lv_at hl 1 rfl) ?_
  refine lv_iconst (v := nI 2) hx hb dX3_sight_1 rfl ?_
  refine roS_i (As := [.int w, .int (nI 2)]) (rest := []) ⟨hx, hb, hml, hown, hts⟩ (kX3_isBelow l dC dI w 2 _ ) (va_cwS 2 hts gX3_sight_X3_isBelow rfl rfl rfl hdX3_isBelow ⟨Nat.le_trans (Nat.le_of_ble_eq_true rfl) hRf, Nat.le_trans (Nat.le_of_ble_eq_true rfl) hRl⟩) (hK.sub [] rfl) (hP.sub [] rfl) rfl hl.1 rfl (Nat.le_of_ble_eq_true rfl) dX3_sight_2 ⟨Nat.zero_le _, Nat.zero_le _⟩ hP hS hA (fun H locs hP hS => ?_)
  refine x_ifb_eq (tgt := 18) hx hb dX3_sight_5 (by decide) (fun c5 => ?_) (fun c5 => ?_)
  · skip
    refine lv_ldc2 hx hb hown hk133 dX3_sight_18 ?_
    exact hend _ _ _ _ _ (by first | (simp [uSight, c5, hst]; rfl) | (simp [uSight, c5]; rfl)) hS dX3_sight_21
  · skip
    refine lv_aload_n hx hb dX3_sight_8 rfl (lv_at hl 0 rfl) ?_
    refine x_get (D := (dC, dI)) (ci := 3) (v := .ref (q 0)) (C := RX3) (T := TX3) (N := 5) hx hb hts hinX3 hown hK hP 0 rfl rfl 2 (Nat.le_of_ble_eq_true rfl) hf28 rfl rfl dX3_sight_9 ?_
    refine roV_i (As := []) (rest := []) ⟨hx, hb, hml, hown, hts⟩ (kX0_hasStatue l dC dI cI q n A X hW hR  _ ) (cwV 0 hts gX3_sight_X0_hasStatue rfl rfl rfl hdX0_hasStatue ⟨Nat.le_trans (Nat.le_of_ble_eq_true rfl) hRf, Nat.le_trans (Nat.le_of_ble_eq_true rfl) hRl⟩) (va_recv hK hP (ci := 0) (q0 := 1) rfl rfl) hK (hP.sub [1, 2, 3, 4, 5, 6, 7, 8, 9] rfl) rfl hl.1 rfl (Nat.le_of_ble_eq_true rfl) dX3_sight_12 ⟨Nat.zero_le _, Nat.zero_le _⟩ hP hS hA (fun H locs hP hS => ?_)
    refine x_ifb_ne (tgt := 22) hx hb dX3_sight_15 (by decide) (fun c15 => ?_) (fun c15 => ?_)
    · skip
      have hst : 0 < n 6 := of_decide_eq_true c15
      refine lv_aload_n hx hb dX3_sight_22 rfl (lv_at hl 0 rfl) ?_
      refine x_get (D := (dC, dI)) (ci := 3) (v := .ref (q 0)) (C := RX3) (T := TX3) (N := 5) hx hb hts hinX3 hown hK hP 0 rfl rfl 2 (Nat.le_of_ble_eq_true rfl) hf28 rfl rfl dX3_sight_23 ?_
      refine rsV_i (As := []) (rest := []) ⟨hx, hb, hml, hown, hts⟩ (kX0_partsSeenInAll l dC dI cI q n A X hW hR tH _ (by omega)) (cwV 0 hts gX3_sight_X0_partsSeenInAll rfl rfl rfl hdX0_partsSeenInAll ⟨Nat.le_trans (Nat.le_of_ble_eq_true rfl) hRf, Nat.le_trans (Nat.le_of_ble_eq_true rfl) hRl⟩) (va_recv hK hP (ci := 0) (q0 := 1) rfl rfl) hK (hP.sub [1, 2, 3, 4, 5, 6, 7, 8, 9] rfl) rfl hl.1 rfl (Nat.le_of_ble_eq_true rfl) dX3_sight_26 ⟨Nat.zero_le _, Nat.zero_le _⟩ hP hS hA hZT (fun H locs hP hS => ?_)
      refine lv_istore_n (lv' := [(2, .int (nI (sAll n A))), (0, .ref a), (1, .int w)]) hx hb dX3_sight_29 rfl hl (by decide) rfl (fun ls hl => ?_)
      refine lv_iconst (v := nI 1) hx hb dX3_sight_30 rfl ?_
      refine lv_iconst (v := nI 4) hx hb dX3_sight_31 rfl ?_
      refine lv_aload_n hx hb dX3_sight_32 rfl (lv_at hl 1 rfl) ?_
      refine x_get (D := (dC, dI)) (ci := 3) (v := .ref (q 0)) (C := RX3) (T := TX3) (N := 5) hx hb hts hinX3 hown hK hP 0 rfl rfl 2 (Nat.le_of_ble_eq_true rfl) hf28 rfl rfl dX3_sight_33 ?_
      refine x_get (D := (dC, dI)) (ci := 0) (v := .int (nI (n 2))) (C := RX0) (T := TX0) (N := 17) hx hb hts hinX0 hown hK hP 1 rfl rfl 2 (Nat.le_of_ble_eq_true rfl) hf94 rfl rfl dX3_sight_36 ?_
      refine x_imul hx hb dX3_sight_39 ?_
      refine va_mmax hx hb (hml.trans hl.1.symm) hown hl138 hsmax hiMath hcmax (Nat.le_trans (Nat.le_of_ble_eq_true rfl) hRf) (Nat.le_trans (Nat.le_of_ble_eq_true rfl) hRl) (Nat.zero_le _) (Nat.zero_le _) dX3_sight_40 ?_
      refine x_top (y := (nI (sLow n))) (by rw [max_nI (by omega) (by omega)]; rfl) ?_
      refine lv_istore_n (lv' := [(3, .int (nI (sLow n))), (2, .int (nI (sAll n A))), (0, .ref a), (1, .int w)]) hx hb dX3_sight_43 rfl hl (by decide) rfl (fun ls hl => ?_)
      refine lv_iload_n hx hb dX3_sight_44 rfl (lv_at hl 3 rfl) ?_
      refine lv_if_ne (tgt := 52) hx hb dX3_sight_45 (by decide) (fun c45 => ?_) (fun c45 => ?_)
      · skip
        refine lv_iload_n hx hb dX3_sight_52 rfl (lv_at hl 0 rfl) ?_
        refine x_top (y := nI (if w = 0 then sAll n A else sLow n)) (by simp [c45]) ?_
        refine lv_iload_n hx hb dX3_sight_53 rfl (lv_at hl 1 rfl) ?_
        refine lv_iload_n hx hb dX3_sight_54 rfl (lv_at hl 0 rfl) ?_
        refine roS_i (As := [.int (nI (sAll n A)), .int (nI (sLow n))]) (rest := [.int (nI (if w = 0 then sAll n A else sLow n))]) ⟨hx, hb, hml, hown, hts⟩ (kX3_greatestDivisor l dC dI (sAll n A) (sLow n) _ (by omega) (by omega) hlo0) (va_cwS 2 hts gX3_sight_X3_greatestDivisor rfl rfl rfl hdX3_greatestDivisor ⟨Nat.le_trans (Nat.le_of_ble_eq_true rfl) hRf, Nat.le_trans (Nat.le_of_ble_eq_true rfl) hRl⟩) (hK.sub [] rfl) (hP.sub [] rfl) rfl hl.1 rfl (Nat.le_of_ble_eq_true rfl) dX3_sight_55 ⟨Nat.zero_le _, Nat.zero_le _⟩ hP hS hA (fun H locs hP hS => ?_)
        refine x_idiv hx hb (by split <;> omega) (Nat.gcd_pos_of_pos_right _ hlo0) (Nat.lt_of_le_of_lt (Nat.gcd_le_right _ hlo0) (by omega)) dX3_sight_58 ?_
        refine lv_i2l hx hb dX3_sight_59 rfl ?_
        exact hend _ _ _ _ _ (by simp [uSight, c5, hst]) hS dX3_sight_60
      · skip
        refine lv_iload_n hx hb dX3_sight_48 rfl (lv_at hl 1 rfl) ?_
        refine lv_goto (tgt := 53) hx hb dX3_sight_49 (by decide) ?_
        refine x_top (y := nI (if w = 0 then sAll n A else sLow n)) (by simp [c45]) ?_
        refine lv_iload_n hx hb dX3_sight_53 rfl (lv_at hl 1 rfl) ?_
        refine lv_iload_n hx hb dX3_sight_54 rfl (lv_at hl 0 rfl) ?_
        refine roS_i (As := [.int (nI (sAll n A)), .int (nI (sLow n))]) (rest := [.int (nI (if w = 0 then sAll n A else sLow n))]) ⟨hx, hb, hml, hown, hts⟩ (kX3_greatestDivisor l dC dI (sAll n A) (sLow n) _ (by omega) (by omega) hlo0) (va_cwS 2 hts gX3_sight_X3_greatestDivisor rfl rfl rfl hdX3_greatestDivisor ⟨Nat.le_trans (Nat.le_of_ble_eq_true rfl) hRf, Nat.le_trans (Nat.le_of_ble_eq_true rfl) hRl⟩) (hK.sub [] rfl) (hP.sub [] rfl) rfl hl.1 rfl (Nat.le_of_ble_eq_true rfl) dX3_sight_55 ⟨Nat.zero_le _, Nat.zero_le _⟩ hP hS hA (fun H locs hP hS => ?_)
        refine x_idiv hx hb (by split <;> omega) (Nat.gcd_pos_of_pos_right _ hlo0) (Nat.lt_of_le_of_lt (Nat.gcd_le_right _ hlo0) (by omega)) dX3_sight_58 ?_
        refine lv_i2l hx hb dX3_sight_59 rfl ?_
        exact hend _ _ _ _ _ (by simp [uSight, c5, hst]) hS dX3_sight_60
    · skip
      have hst : ¬ 0 < n 6 := of_decide_eq_false c15
      refine lv_ldc2 hx hb hown hk133 dX3_sight_18 ?_
      exact hend _ _ _ _ _ (by first | (simp [uSight, c5, hst]; rfl) | (simp [uSight, c5]; rfl)) hS dX3_sight_21
