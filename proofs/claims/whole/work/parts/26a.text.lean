set_option maxHeartbeats 4000000 in
set_option maxRecDepth 100000 in
theorem kX2_nextCode (l : Launch) (dC : Nat → ClassId) (dI : Nat → Nat → Nat) (cI : ClassId) (t : Nat → Nat) (hi wi : Int32) (len pl be th : Nat) (S D E : Nat → Int32) (sz : Nat) (hlen : len ≤ 100) (hpl : pl ≤ 1000) : Met l yX2_nextCode wsX2_nextCode ({ frames := 0, cells := 0, slots := 0, locals := 0 }) (roP [.ref (t 0)] sz (dC, dI) [(cI, .int)] (wT cI t hi wi len pl be th S D E)) (roQi (cdT E len pl) sz) 0 0 (va_A [] sz) := by
  refine ro_met_i (by decide) rfl (Nat.le_of_ble_eq_true rfl) ?_
  intro pp ee ss mm aa bb me cd RR QQ Z hx hb hml hown hts hRf hRl hP hK hA hS hend ls hl
  have hown : ss.vm.findClass RX2 = some mm.cls := hown
  have hRf : 0 ≤ RR.frames := hRf
  have hRl : 0 ≤ RR.locals := hRl
  have hl : lv_has ls 1 [(0, .ref (t 0))] := hl
  have hf36 := hts (.fieldLink RX2 36 "StatueSquare$TextReader" "place" "I") (List.mem_of_getElem? (i := 1) rfl)
  have hinX2 : ∀ w ∈ u_ws RX2 TX2 9, w ∈ wsX2_nextCode := fun _ h => List.mem_cons_of_mem _ (List.mem_append_right _ h)
  have hf32 := hts (.fieldLink RX2 32 "StatueSquare$TextReader" "length" "I") (List.mem_of_getElem? (i := 2) rfl)
  have hf18 := hts (.fieldLink RX2 18 "StatueSquare$TextReader" "codes" "[I") (List.mem_of_getElem? (i := 3) rfl)
  refine lv_aload_n hx hb dX2_nextCode_0 rfl (lv_at hl 0 rfl) ?_
  refine x_get (D := (dC, dI)) (ci := 2) (v := .int (nI pl)) (C := RX2) (T := TX2) (N := 9) hx hb hts hinX2 hown hK hP 0 rfl rfl 6 (Nat.le_of_ble_eq_true rfl) hf36 rfl rfl dX2_nextCode_1 ?_
  refine lv_aload_n hx hb dX2_nextCode_4 rfl (lv_at hl 0 rfl) ?_
  refine x_get (D := (dC, dI)) (ci := 2) (v := .int (nI len)) (C := RX2) (T := TX2) (N := 9) hx hb hts hinX2 hown hK hP 0 rfl rfl 5 (Nat.le_of_ble_eq_true rfl) hf32 rfl rfl dX2_nextCode_5 ?_
  refine x_icmp_ge (tgt := 23) hx hb (by omega) (by omega) dX2_nextCode_8 (by decide) (fun c8 => ?_) (fun c8 => ?_)
  · skip
    refine lv_iconst (v := -1) hx hb dX2_nextCode_23 rfl ?_
    exact hend _ _ _ _ _ (by rw [cdT, if_neg (by omega)]) hS dX2_nextCode_24
  · skip
    refine lv_aload_n hx hb dX2_nextCode_11 rfl (lv_at hl 0 rfl) ?_
    refine x_get (D := (dC, dI)) (ci := 2) (v := .ref (t 3)) (C := RX2) (T := TX2) (N := 9) hx hb hts hinX2 hown hK hP 0 rfl rfl 4 (Nat.le_of_ble_eq_true rfl) hf18 rfl rfl dX2_nextCode_12 ?_
    refine lv_aload_n hx hb dX2_nextCode_15 rfl (lv_at hl 0 rfl) ?_
    refine x_get (D := (dC, dI)) (ci := 2) (v := .int (nI pl)) (C := RX2) (T := TX2) (N := 9) hx hb hts hinX2 hown hK hP 0 rfl rfl 6 (Nat.le_of_ble_eq_true rfl) hf36 rfl rfl dX2_nextCode_16 ?_
    refine x_iald (v := (E pl)) hx hb hK hP 3 0 rfl rfl (by omega) (by decide) rfl dX2_nextCode_19 ?_
    refine lv_goto (tgt := 24) hx hb dX2_nextCode_20 (by decide) ?_
    exact hend _ _ _ _ _ (by rw [cdT, if_pos (by omega)]) hS dX2_nextCode_24
theorem hdX2_nextCode : yX2_nextCode.cls = RX2 ∧ yX2_nextCode.cls ≠ "java/lang/invoke/MethodHandle" ∧ yX2_nextCode.cls ≠ "java/lang/invoke/VarHandle" ∧ (parseMethodDescriptor yX2_nextCode.desc).map (fun d => d.parameters.length) = some 0 := by decide +kernel
set_option maxRecDepth 20000 in
theorem ggX2_takeSign_X2_nextCode : GoodIn wsX2_takeSign wsX2_nextCode := goodIn_r _ [6, 1, 7, 8, 9, 10, 11, 12, 13, 14, 15, 16, 17] (by decide +kernel) (by decide +kernel)
set_option maxRecDepth 20000 in
theorem gX2_takeSign_X2_nextCode : GoodIn wsX2_takeSign (wsV RX2 66 RX2 yX2_nextCode wsX2_nextCode) := goodIn_app (goodIn_of _ (by decide +kernel)) ggX2_takeSign_X2_nextCode
set_option maxHeartbeats 4000000 in
set_option maxRecDepth 100000 in
theorem kX2_takeSign (l : Launch) (dC : Nat → ClassId) (dI : Nat → Nat → Nat) (cI : ClassId) (t : Nat → Nat) (hi wi : Int32) (len pl be th : Nat) (S D E : Nat → Int32) (sg : Nat) (sz : Nat) (hlen : len ≤ 100) (hpl : pl ≤ 1000) (hsg : sg < 2 ^ 31) : Met l yX2_takeSign wsX2_takeSign ({ frames := 1, cells := 0, slots := 0, locals := 20 }) (rwP [.ref (t 0), .int (nI sg)] sz (dC, dI) [(cI, .int)] (wT cI t hi wi len pl be th S D E)) (rwQi (bI (sgB E len pl sg)) (dC, dI) (wT cI t hi wi len pl be th S D E) (wT cI t hi wi len (if sgB E len pl sg = true then pl + 1 else pl) be th S D E) sz) 0 0 (va_A (wT cI t hi wi len pl be th S D E) sz) := by
  refine rw_met_z (by decide) rfl (Nat.le_of_ble_eq_true rfl) ?_
  intro pp ee ss mm aa bb me cd RR QQ Z hx hb hml hown hts hRf hRl hP hK hD hA hS hend ls hl
  have hown : ss.vm.findClass RX2 = some mm.cls := hown
  have hRf : 1 ≤ RR.frames := hRf
  have hRl : 20 ≤ RR.locals := hRl
  have hl : lv_has ls 2 [(0, .ref (t 0)), (1, .int (nI sg))] := hl
  have hf36 := hts (.fieldLink RX2 36 "StatueSquare$TextReader" "place" "I") (List.mem_of_getElem? (i := 1) rfl)
  have hinX2 : ∀ w ∈ u_ws RX2 TX2 9, w ∈ wsX2_takeSign := fun _ h => List.mem_cons_of_mem _ (List.mem_append_right _ h)
  refine lv_aload_n hx hb dX2_takeSign_0 rfl (lv_at hl 0 rfl) ?_
  refine roV_i (As := []) (rest := []) ⟨hx, hb, hml, hown, hts⟩ (kX2_nextCode l dC dI cI t hi wi len pl be th S D E  _ (by omega) (by omega)) (cwV 0 hts gX2_takeSign_X2_nextCode rfl rfl rfl hdX2_nextCode ⟨Nat.le_trans (Nat.le_of_ble_eq_true rfl) hRf, Nat.le_trans (Nat.le_of_ble_eq_true rfl) hRl⟩) (va_recv hK hP (ci := 2) (q0 := 0) rfl rfl) hK hP rfl hl.1 rfl (Nat.le_of_ble_eq_true rfl) dX2_takeSign_1 ⟨Nat.zero_le _, Nat.zero_le _⟩ hP hS hA (fun H locs hP hS => ?_)
  refine lv_iload_n hx hb dX2_takeSign_4 rfl (lv_at hl 1 rfl) ?_
  refine lv_icmp_eq (tgt := 10) hx hb dX2_takeSign_5 (by decide) (fun c5 => ?_) (fun c5 => ?_)
  · skip
    refine lv_aload_n hx hb dX2_takeSign_10 rfl (lv_at hl 0 rfl) ?_
    refine lv_dup hx hb dX2_takeSign_11 rfl ?_
    refine x_get (D := (dC, dI)) (ci := 2) (v := .int (nI pl)) (C := RX2) (T := TX2) (N := 9) hx hb hts hinX2 hown hK hP 0 rfl rfl 6 (Nat.le_of_ble_eq_true rfl) hf36 rfl rfl dX2_takeSign_12 ?_
    refine lv_iconst (v := nI 1) hx hb dX2_takeSign_15 rfl ?_
    refine x_iadd hx hb dX2_takeSign_16 ?_
    refine x_put (D := (dC, dI)) (ci := 2) (v := .int (nI (pl + 1))) (C := RX2) (T := TX2) (N := 9) (wn := wT cI t hi wi len (pl + 1) be th S D E) hx hb hts hinX2 tyX2 tyX2_ok nmX2 hown hK hP hD hS 0 rfl rfl 6 (Nat.le_of_ble_eq_true rfl) hf36 rfl rfl rfl rfl (Nat.le_of_ble_eq_true rfl) rfl dX2_takeSign_17 (fun H locs hP hS => ?_)
    have hD : va_D Z (wT cI t hi wi len (pl + 1) be th S D E) := hD.same rfl
    refine lv_iconst (v := nI 1) hx hb dX2_takeSign_20 rfl ?_
    exact hend _ _ _ _ _ _ (n1_b ((cd_eq hsg).mp c5)) (by rw [if_pos ((cd_eq hsg).mp c5)]) hP hS dX2_takeSign_21
  · skip
    refine lv_iconst (v := nI 0) hx hb dX2_takeSign_8 rfl ?_
    exact hend _ _ _ _ _ _ (n0_b (Bool.eq_false_iff.mpr (mt (cd_eq hsg).mpr c5))) (by rw [if_neg (mt (cd_eq hsg).mpr c5)]) hP hS dX2_takeSign_9
set_option maxRecDepth 20000 in
theorem ggX2_takeDigit_X2_nextCode : GoodIn wsX2_takeDigit wsX2_nextCode := goodIn_r _ [6, 1, 7, 8, 9, 10, 11, 12, 13, 14, 15, 16, 17] (by decide +kernel) (by decide +kernel)
set_option maxRecDepth 20000 in
theorem gX2_takeDigit_X2_nextCode : GoodIn wsX2_takeDigit (wsV RX2 66 RX2 yX2_nextCode wsX2_nextCode) := goodIn_app (goodIn_of _ (by decide +kernel)) ggX2_takeDigit_X2_nextCode
set_option maxHeartbeats 4000000 in
set_option maxRecDepth 100000 in
theorem kX2_takeDigit (l : Launch) (dC : Nat → ClassId) (dI : Nat → Nat → Nat) (cI : ClassId) (t : Nat → Nat) (hi wi : Int32) (len pl be th : Nat) (S D E : Nat → Int32) (lo : Nat) (up : Nat) (sz : Nat) (hlen : len ≤ 100) (hpl : pl ≤ 1000) (hlo : lo < 2 ^ 31) (hlo0 : 0 < lo) (hup : up < 2 ^ 31) : Met l yX2_takeDigit wsX2_takeDigit ({ frames := 1, cells := 0, slots := 0, locals := 20 }) (rwP [.ref (t 0), .int (nI lo), .int (nI up)] sz (dC, dI) [(cI, .int)] (wT cI t hi wi len pl be th S D E)) (rwQi (dgI (dgN E len pl lo up)) (dC, dI) (wT cI t hi wi len pl be th S D E) (wT cI t hi wi len (if dgN E len pl lo up = 0 then pl else pl + 1) be th S D E) sz) 0 0 (va_A (wT cI t hi wi len pl be th S D E) sz) := by
  refine rw_met_i (by decide) rfl (Nat.le_of_ble_eq_true rfl) ?_
  intro pp ee ss mm aa bb me cd RR QQ Z hx hb hml hown hts hRf hRl hP hK hD hA hS hend ls hl
  have hown : ss.vm.findClass RX2 = some mm.cls := hown
  have hRf : 1 ≤ RR.frames := hRf
  have hRl : 20 ≤ RR.locals := hRl
  have hl : lv_has ls 4 [(0, .ref (t 0)), (1, .int (nI lo)), (2, .int (nI up))] := hl
  have hf36 := hts (.fieldLink RX2 36 "StatueSquare$TextReader" "place" "I") (List.mem_of_getElem? (i := 1) rfl)
  have hinX2 : ∀ w ∈ u_ws RX2 TX2 9, w ∈ wsX2_takeDigit := fun _ h => List.mem_cons_of_mem _ (List.mem_append_right _ h)
  refine lv_aload_n hx hb dX2_takeDigit_0 rfl (lv_at hl 0 rfl) ?_
  refine roV_i (As := []) (rest := []) ⟨hx, hb, hml, hown, hts⟩ (kX2_nextCode l dC dI cI t hi wi len pl be th S D E  _ (by omega) (by omega)) (cwV 0 hts gX2_takeDigit_X2_nextCode rfl rfl rfl hdX2_nextCode ⟨Nat.le_trans (Nat.le_of_ble_eq_true rfl) hRf, Nat.le_trans (Nat.le_of_ble_eq_true rfl) hRl⟩) (va_recv hK hP (ci := 2) (q0 := 0) rfl rfl) hK hP rfl hl.1 rfl (Nat.le_of_ble_eq_true rfl) dX2_takeDigit_1 ⟨Nat.zero_le _, Nat.zero_le _⟩ hP hS hA (fun H locs hP hS => ?_)
  refine lv_bipush (v := nI 48) hx hb dX2_takeDigit_4 rfl ?_
  refine lv_isub hx hb dX2_takeDigit_6 ?_
  refine lv_istore_n (lv' := [(3, .int ((cdT E len pl) - (nI 48))), (0, .ref (t 0)), (1, .int (nI lo)), (2, .int (nI up))]) hx hb dX2_takeDigit_7 rfl hl (by decide) rfl (fun ls hl => ?_)
  refine lv_iload_n hx hb dX2_takeDigit_8 rfl (lv_at hl 0 rfl) ?_
  refine lv_iload_n hx hb dX2_takeDigit_9 rfl (lv_at hl 2 rfl) ?_
  refine lv_icmp_lt (tgt := 18) hx hb dX2_takeDigit_10 (by decide) (fun c10 => ?_) (fun c10 => ?_)
  · skip
    refine lv_bipush (v := -9) hx hb dX2_takeDigit_18 rfl ?_
    exact hend _ _ _ _ _ _ (by rw [dgI, if_pos (dg_lt c10)]) (by rw [if_pos (dg_lt c10)]) hP hS dX2_takeDigit_20
  · skip
    refine lv_iload_n hx hb dX2_takeDigit_13 rfl (lv_at hl 0 rfl) ?_
    refine lv_iload_n hx hb dX2_takeDigit_14 rfl (lv_at hl 3 rfl) ?_
    refine lv_icmp_le (tgt := 21) hx hb dX2_takeDigit_15 (by decide) (fun c15 => ?_) (fun c15 => ?_)
    · skip
      refine lv_aload_n hx hb dX2_takeDigit_21 rfl (lv_at hl 1 rfl) ?_
      refine lv_dup hx hb dX2_takeDigit_22 rfl ?_
      refine x_get (D := (dC, dI)) (ci := 2) (v := .int (nI pl)) (C := RX2) (T := TX2) (N := 9) hx hb hts hinX2 hown hK hP 0 rfl rfl 6 (Nat.le_of_ble_eq_true rfl) hf36 rfl rfl dX2_takeDigit_23 ?_
      refine lv_iconst (v := nI 1) hx hb dX2_takeDigit_26 rfl ?_
      refine x_iadd hx hb dX2_takeDigit_27 ?_
      refine x_put (D := (dC, dI)) (ci := 2) (v := .int (nI (pl + 1))) (C := RX2) (T := TX2) (N := 9) (wn := wT cI t hi wi len (pl + 1) be th S D E) hx hb hts hinX2 tyX2 tyX2_ok nmX2 hown hK hP hD hS 0 rfl rfl 6 (Nat.le_of_ble_eq_true rfl) hf36 rfl rfl rfl rfl (Nat.le_of_ble_eq_true rfl) rfl dX2_takeDigit_28 (fun H locs hP hS => ?_)
      have hD : va_D Z (wT cI t hi wi len (pl + 1) be th S D E) := hD.same rfl
      refine lv_iload_n hx hb dX2_takeDigit_31 rfl (lv_at hl 0 rfl) ?_
      exact hend _ _ _ _ _ _ (by rw [dgI, if_neg (dg_ok hlo hlo0 hup c10 c15).1]; exact (dg_ok hlo hlo0 hup c10 c15).2) (by rw [if_neg (dg_ok hlo hlo0 hup c10 c15).1]) hP hS dX2_takeDigit_32
    · skip
      refine lv_bipush (v := -9) hx hb dX2_takeDigit_18 rfl ?_
      exact hend _ _ _ _ _ _ (by rw [dgI, if_pos (dg_gt c15)]) (by rw [if_pos (dg_gt c15)]) hP hS dX2_takeDigit_20
set_option maxHeartbeats 4000000 in
set_option maxRecDepth 100000 in
theorem kX2_takeBench (l : Launch) (dC : Nat → ClassId) (dI : Nat → Nat → Nat) (cI : ClassId) (t : Nat → Nat) (hi wi : Int32) (len pl be th : Nat) (S D E : Nat → Int32) (sz : Nat) (hlen : len ≤ 100) (hpl : pl ≤ 200) (hbe : be ≤ 12) : Met l yX2_takeBench wsX2_takeBench ({ frames := 0, cells := 0, slots := 0, locals := 0 }) (rwP [.ref (t 0)] sz (dC, dI) [(cI, .int)] (wT cI t hi wi len pl be th S D E)) (rwQi (bI (decide (¬ be = 12))) (dC, dI) (wT cI t hi wi len pl be th S D E) (wT cI t hi wi len (if be = 12 then pl else pl + 1) (if be = 12 then be else be + 1) th S D E) sz) 0 0 (va_A (wT cI t hi wi len pl be th S D E) sz) := by
  refine rw_met_z (by decide) rfl (Nat.le_of_ble_eq_true rfl) ?_
  intro pp ee ss mm aa bb me cd RR QQ Z hx hb hml hown hts hRf hRl hP hK hD hA hS hend ls hl
  have hown : ss.vm.findClass RX2 = some mm.cls := hown
  have hRf : 0 ≤ RR.frames := hRf
  have hRl : 0 ≤ RR.locals := hRl
  have hl : lv_has ls 1 [(0, .ref (t 0))] := hl
  have hf39 := hts (.fieldLink RX2 39 "StatueSquare$TextReader" "benches" "I") (List.mem_of_getElem? (i := 1) rfl)
  have hinX2 : ∀ w ∈ u_ws RX2 TX2 9, w ∈ wsX2_takeBench := fun _ h => List.mem_cons_of_mem _ (List.mem_append_right _ h)
  have hf36 := hts (.fieldLink RX2 36 "StatueSquare$TextReader" "place" "I") (List.mem_of_getElem? (i := 2) rfl)
  refine lv_aload_n hx hb dX2_takeBench_0 rfl (lv_at hl 0 rfl) ?_
  refine x_get (D := (dC, dI)) (ci := 2) (v := .int (nI be)) (C := RX2) (T := TX2) (N := 9) hx hb hts hinX2 hown hK hP 0 rfl rfl 7 (Nat.le_of_ble_eq_true rfl) hf39 rfl rfl dX2_takeBench_1 ?_
  refine lv_bipush (v := nI 12) hx hb dX2_takeBench_4 rfl ?_
  refine x_icmp_ne (tgt := 11) hx hb (by omega) (by omega) dX2_takeBench_6 (by decide) (fun c6 => ?_) (fun c6 => ?_)
  · skip
    refine lv_aload_n hx hb dX2_takeBench_11 rfl (lv_at hl 0 rfl) ?_
    refine lv_dup hx hb dX2_takeBench_12 rfl ?_
    refine x_get (D := (dC, dI)) (ci := 2) (v := .int (nI be)) (C := RX2) (T := TX2) (N := 9) hx hb hts hinX2 hown hK hP 0 rfl rfl 7 (Nat.le_of_ble_eq_true rfl) hf39 rfl rfl dX2_takeBench_13 ?_
    refine lv_iconst (v := nI 1) hx hb dX2_takeBench_16 rfl ?_
    refine x_iadd hx hb dX2_takeBench_17 ?_
    refine x_put (D := (dC, dI)) (ci := 2) (v := .int (nI (be + 1))) (C := RX2) (T := TX2) (N := 9) (wn := wT cI t hi wi len pl (be + 1) th S D E) hx hb hts hinX2 tyX2 tyX2_ok nmX2 hown hK hP hD hS 0 rfl rfl 7 (Nat.le_of_ble_eq_true rfl) hf39 rfl rfl rfl rfl (Nat.le_of_ble_eq_true rfl) rfl dX2_takeBench_18 (fun H locs hP hS => ?_)
    have hD : va_D Z (wT cI t hi wi len pl (be + 1) th S D E) := hD.same rfl
    refine lv_aload_n hx hb dX2_takeBench_21 rfl (lv_at hl 0 rfl) ?_
    refine lv_dup hx hb dX2_takeBench_22 rfl ?_
    refine x_get (D := (dC, dI)) (ci := 2) (v := .int (nI pl)) (C := RX2) (T := TX2) (N := 9) hx hb hts hinX2 hown hK hP 0 rfl rfl 6 (Nat.le_of_ble_eq_true rfl) hf36 rfl rfl dX2_takeBench_23 ?_
    refine lv_iconst (v := nI 1) hx hb dX2_takeBench_26 rfl ?_
    refine x_iadd hx hb dX2_takeBench_27 ?_
    refine x_put (D := (dC, dI)) (ci := 2) (v := .int (nI (pl + 1))) (C := RX2) (T := TX2) (N := 9) (wn := wT cI t hi wi len (pl + 1) (be + 1) th S D E) hx hb hts hinX2 tyX2 tyX2_ok nmX2 hown hK hP hD hS 0 rfl rfl 6 (Nat.le_of_ble_eq_true rfl) hf36 rfl rfl rfl rfl (Nat.le_of_ble_eq_true rfl) rfl dX2_takeBench_28 (fun H locs hP hS => ?_)
    have hD : va_D Z (wT cI t hi wi len (pl + 1) (be + 1) th S D E) := hD.same rfl
    refine lv_iconst (v := nI 1) hx hb dX2_takeBench_31 rfl ?_
    exact hend _ _ _ _ _ _ (n1_b (decide_eq_true (by omega))) (by rw [if_neg (show ¬ be = 12 by omega), if_neg (show ¬ be = 12 by omega)]) hP hS dX2_takeBench_32
  · skip
    refine lv_iconst (v := nI 0) hx hb dX2_takeBench_9 rfl ?_
    exact hend _ _ _ _ _ _ (n0_b (decide_eq_false (fun q => q (by omega)))) (by rw [if_pos (show be = 12 by omega), if_pos (show be = 12 by omega)]) hP hS dX2_takeBench_10
theorem hdX2_takeDigit : yX2_takeDigit.cls = RX2 ∧ yX2_takeDigit.cls ≠ "java/lang/invoke/MethodHandle" ∧ yX2_takeDigit.cls ≠ "java/lang/invoke/VarHandle" ∧ (parseMethodDescriptor yX2_takeDigit.desc).map (fun d => d.parameters.length) = some 2 := by decide +kernel
set_option maxRecDepth 20000 in
theorem ggX2_takeThing_X2_takeDigit : GoodIn wsX2_takeThing wsX2_takeDigit := goodIn_r _ [8, 2, 9, 10, 11, 7, 12, 13, 14, 15, 16, 17, 18, 19, 20, 21, 22, 23] (by decide +kernel) (by decide +kernel)
set_option maxRecDepth 20000 in
theorem gX2_takeThing_X2_takeDigit : GoodIn wsX2_takeThing (wsV RX2 49 RX2 yX2_takeDigit wsX2_takeDigit) := goodIn_app (goodIn_of _ (by decide +kernel)) ggX2_takeThing_X2_takeDigit
set_option maxHeartbeats 4000000 in
set_option maxRecDepth 100000 in
theorem kX2_takeThing (l : Launch) (dC : Nat → ClassId) (dI : Nat → Nat → Nat) (cI : ClassId) (t : Nat → Nat) (hi wi : Int32) (len pl be th : Nat) (S D E : Nat → Int32) (c : Nat) (sz : Nat) (hlen : len ≤ 100) (hpl : pl ≤ 200) (hth : th ≤ 10) (hc : c < 42) : Met l yX2_takeThing wsX2_takeThing ({ frames := 2, cells := 0, slots := 0, locals := 43 }) (rwP [.ref (t 0), .int (nI c)] sz (dC, dI) [(cI, .int)] (wT cI t hi wi len pl be th S D E)) (rwQi (bI (decide (¬ th = 10 ∧ ¬ dgN E len (pl + 1) 1 9 = 0))) (dC, dI) (wT cI t hi wi len pl be th S D E) (wT cI t hi wi len (if th = 10 then pl else if dgN E len (pl + 1) 1 9 = 0 then pl + 1 else pl + 2) be (if th = 10 then th else th + 1) S (if th = 10 then D else upd D c (dgI (dgN E len (pl + 1) 1 9))) E) sz) 0 0 (va_A (wT cI t hi wi len pl be th S D E) sz) := by
  refine rw_met_z (by decide) rfl (Nat.le_of_ble_eq_true rfl) ?_
  intro pp ee ss mm aa bb me cd RR QQ Z hx hb hml hown hts hRf hRl hP hK hD hA hS hend ls hl
  have hown : ss.vm.findClass RX2 = some mm.cls := hown
  have hRf : 2 ≤ RR.frames := hRf
  have hRl : 43 ≤ RR.locals := hRl
  have hl : lv_has ls 2 [(0, .ref (t 0)), (1, .int (nI c))] := hl
  have hf42 := hts (.fieldLink RX2 42 "StatueSquare$TextReader" "things" "I") (List.mem_of_getElem? (i := 1) rfl)
  have hinX2 : ∀ w ∈ u_ws RX2 TX2 9, w ∈ wsX2_takeThing := fun _ h => List.mem_cons_of_mem _ (List.mem_append_right _ h)
  have hf36 := hts (.fieldLink RX2 36 "StatueSquare$TextReader" "place" "I") (List.mem_of_getElem? (i := 2) rfl)
  have hf15 := hts (.fieldLink RX2 15 "StatueSquare$TextReader" "digits" "[I") (List.mem_of_getElem? (i := 3) rfl)
  refine lv_aload_n hx hb dX2_takeThing_0 rfl (lv_at hl 0 rfl) ?_
  refine x_get (D := (dC, dI)) (ci := 2) (v := .int (nI th)) (C := RX2) (T := TX2) (N := 9) hx hb hts hinX2 hown hK hP 0 rfl rfl 8 (Nat.le_of_ble_eq_true rfl) hf42 rfl rfl dX2_takeThing_1 ?_
  refine lv_bipush (v := nI 10) hx hb dX2_takeThing_4 rfl ?_
  refine x_icmp_ne (tgt := 11) hx hb (by omega) (by omega) dX2_takeThing_6 (by decide) (fun c6 => ?_) (fun c6 => ?_)
  · skip
    refine lv_aload_n hx hb dX2_takeThing_11 rfl (lv_at hl 0 rfl) ?_
    refine lv_dup hx hb dX2_takeThing_12 rfl ?_
    refine x_get (D := (dC, dI)) (ci := 2) (v := .int (nI th)) (C := RX2) (T := TX2) (N := 9) hx hb hts hinX2 hown hK hP 0 rfl rfl 8 (Nat.le_of_ble_eq_true rfl) hf42 rfl rfl dX2_takeThing_13 ?_
    refine lv_iconst (v := nI 1) hx hb dX2_takeThing_16 rfl ?_
    refine x_iadd hx hb dX2_takeThing_17 ?_
    refine x_put (D := (dC, dI)) (ci := 2) (v := .int (nI (th + 1))) (C := RX2) (T := TX2) (N := 9) (wn := wT cI t hi wi len pl be (th + 1) S D E) hx hb hts hinX2 tyX2 tyX2_ok nmX2 hown hK hP hD hS 0 rfl rfl 8 (Nat.le_of_ble_eq_true rfl) hf42 rfl rfl rfl rfl (Nat.le_of_ble_eq_true rfl) rfl dX2_takeThing_18 (fun H locs hP hS => ?_)
    have hD : va_D Z (wT cI t hi wi len pl be (th + 1) S D E) := hD.same rfl
    refine lv_aload_n hx hb dX2_takeThing_21 rfl (lv_at hl 0 rfl) ?_
    refine lv_dup hx hb dX2_takeThing_22 rfl ?_
    refine x_get (D := (dC, dI)) (ci := 2) (v := .int (nI pl)) (C := RX2) (T := TX2) (N := 9) hx hb hts hinX2 hown hK hP 0 rfl rfl 6 (Nat.le_of_ble_eq_true rfl) hf36 rfl rfl dX2_takeThing_23 ?_
    refine lv_iconst (v := nI 1) hx hb dX2_takeThing_26 rfl ?_
    refine x_iadd hx hb dX2_takeThing_27 ?_
    refine x_put (D := (dC, dI)) (ci := 2) (v := .int (nI (pl + 1))) (C := RX2) (T := TX2) (N := 9) (wn := wT cI t hi wi len (pl + 1) be (th + 1) S D E) hx hb hts hinX2 tyX2 tyX2_ok nmX2 hown hK hP hD hS 0 rfl rfl 6 (Nat.le_of_ble_eq_true rfl) hf36 rfl rfl rfl rfl (Nat.le_of_ble_eq_true rfl) rfl dX2_takeThing_28 (fun H locs hP hS => ?_)
    have hD : va_D Z (wT cI t hi wi len (pl + 1) be (th + 1) S D E) := hD.same rfl
    refine lv_aload_n hx hb dX2_takeThing_31 rfl (lv_at hl 0 rfl) ?_
    refine x_get (D := (dC, dI)) (ci := 2) (v := .ref (t 2)) (C := RX2) (T := TX2) (N := 9) hx hb hts hinX2 hown hK hP 0 rfl rfl 1 (Nat.le_of_ble_eq_true rfl) hf15 rfl rfl dX2_takeThing_32 ?_
    refine lv_iload_n hx hb dX2_takeThing_35 rfl (lv_at hl 1 rfl) ?_
    refine lv_aload_n hx hb dX2_takeThing_36 rfl (lv_at hl 0 rfl) ?_
    refine lv_iconst (v := nI 1) hx hb dX2_takeThing_37 rfl ?_
    refine lv_bipush (v := nI 9) hx hb dX2_takeThing_38 rfl ?_
    refine rwW_i (As := [.int (nI 1), .int (nI 9)]) (rest := [.int (nI c), .ref (t 2)]) (wn := wT cI t hi wi len (if dgN E len (pl + 1) 1 9 = 0 then (pl + 1) else (pl + 1) + 1) be (th + 1) S D E) ⟨hx, hb, hml, hown, hts⟩ (kX2_takeDigit l dC dI cI t hi wi len (pl + 1) be (th + 1) S D E 1 9 _ (by omega) (by omega) (by omega) (by omega) (by omega)) (cwV 2 hts gX2_takeThing_X2_takeDigit rfl rfl rfl hdX2_takeDigit ⟨Nat.le_trans (Nat.le_of_ble_eq_true rfl) hRf, Nat.le_trans (Nat.le_of_ble_eq_true rfl) hRl⟩) (va_recv hK hP (ci := 2) (q0 := 0) rfl rfl) hK rfl hl.1 rfl (Nat.le_of_ble_eq_true rfl) dX2_takeThing_40 ⟨Nat.zero_le _, Nat.zero_le _⟩ hP hD hS hA [0, 1, 2, 3] [] [0, 1, 2, 3] rfl rfl (by decide) (by decide) (by decide) rfl rfl (fun H locs hP hS => ?_)
    have hD : va_D Z (wT cI t hi wi len (if dgN E len (pl + 1) 1 9 = 0 then (pl + 1) else (pl + 1) + 1) be (th + 1) S D E) := hD.same rfl
    refine x_iast (wn := wT cI t hi wi len (if dgN E len (pl + 1) 1 9 = 0 then (pl + 1) else (pl + 1) + 1) be (th + 1) S (upd D c (dgI (dgN E len (pl + 1) 1 9))) E) hx hb hK hP hD hS 2 0 rfl rfl (by omega) (by decide) rfl dX2_takeThing_43 (fun H locs hP hS => ?_)
    have hD : va_D Z (wT cI t hi wi len (if dgN E len (pl + 1) 1 9 = 0 then (pl + 1) else (pl + 1) + 1) be (th + 1) S (upd D c (dgI (dgN E len (pl + 1) 1 9))) E) := hD.same rfl
    refine lv_aload_n hx hb dX2_takeThing_44 rfl (lv_at hl 0 rfl) ?_
    refine x_get (D := (dC, dI)) (ci := 2) (v := .ref (t 2)) (C := RX2) (T := TX2) (N := 9) hx hb hts hinX2 hown hK hP 0 rfl rfl 1 (Nat.le_of_ble_eq_true rfl) hf15 rfl rfl dX2_takeThing_45 ?_
    refine lv_iload_n hx hb dX2_takeThing_48 rfl (lv_at hl 1 rfl) ?_
    refine x_iald (v := (dgI (dgN E len (pl + 1) 1 9))) hx hb hK hP 2 0 rfl rfl (by omega) (by decide) (if_pos rfl) dX2_takeThing_49 ?_
    refine lv_bipush (v := -9) hx hb dX2_takeThing_50 rfl ?_
    refine lv_icmp_eq (tgt := 59) hx hb dX2_takeThing_52 (by decide) (fun c52 => ?_) (fun c52 => ?_)
    · skip
      refine lv_iconst (v := nI 0) hx hb dX2_takeThing_59 rfl ?_
      exact hend _ _ _ _ _ _ (n0_b (decide_eq_false (fun q => q.2 ((dI_eq (Nat.lt_of_le_of_lt (dgN_le (by decide)) (by decide))).mp c52)))) (by rw [if_neg (show ¬ th = 10 by omega), if_neg (show ¬ th = 10 by omega), if_neg (show ¬ th = 10 by omega)]) hP hS dX2_takeThing_60
    · skip
      refine lv_iconst (v := nI 1) hx hb dX2_takeThing_55 rfl ?_
      refine lv_goto (tgt := 60) hx hb dX2_takeThing_56 (by decide) ?_
      exact hend _ _ _ _ _ _ (n1_b (decide_eq_true ⟨by omega, fun q => c52 ((dI_eq (Nat.lt_of_le_of_lt (dgN_le (by decide)) (by decide))).mpr q)⟩)) (by rw [if_neg (show ¬ th = 10 by omega), if_neg (show ¬ th = 10 by omega), if_neg (show ¬ th = 10 by omega)]) hP hS dX2_takeThing_60
  · skip
    refine lv_iconst (v := nI 0) hx hb dX2_takeThing_9 rfl ?_
    exact hend _ _ _ _ _ _ (n0_b (decide_eq_false (fun q => q.1 (by omega)))) (by rw [if_pos (show th = 10 by omega), if_pos (show th = 10 by omega), if_pos (show th = 10 by omega)]) hP hS dX2_takeThing_10
theorem hdX2_takeBench : yX2_takeBench.cls = RX2 ∧ yX2_takeBench.cls ≠ "java/lang/invoke/MethodHandle" ∧ yX2_takeBench.cls ≠ "java/lang/invoke/VarHandle" ∧ (parseMethodDescriptor yX2_takeBench.desc).map (fun d => d.parameters.length) = some 0 := by decide +kernel
theorem hdX2_takeThing : yX2_takeThing.cls = RX2 ∧ yX2_takeThing.cls ≠ "java/lang/invoke/MethodHandle" ∧ yX2_takeThing.cls ≠ "java/lang/invoke/VarHandle" ∧ (parseMethodDescriptor yX2_takeThing.desc).map (fun d => d.parameters.length) = some 1 := by decide +kernel
set_option maxRecDepth 20000 in
theorem ggX2_takeCell_X2_nextCode : GoodIn wsX2_takeCell wsX2_nextCode := goodIn_r _ [7, 2, 8, 9, 25, 26, 27, 28, 29, 30, 31, 32, 33] (by decide +kernel) (by decide +kernel)
set_option maxRecDepth 20000 in
theorem gX2_takeCell_X2_nextCode : GoodIn wsX2_takeCell (wsV RX2 66 RX2 yX2_nextCode wsX2_nextCode) := goodIn_app (goodIn_of _ (by decide +kernel)) ggX2_takeCell_X2_nextCode
set_option maxRecDepth 20000 in
theorem ggX2_takeCell_X2_takeBench : GoodIn wsX2_takeCell wsX2_takeBench := goodIn_r _ [13, 14, 2, 25, 26, 27, 28, 29, 30, 31, 32, 33] (by decide +kernel) (by decide +kernel)
set_option maxRecDepth 20000 in
theorem gX2_takeCell_X2_takeBench : GoodIn wsX2_takeCell (wsV RX2 70 RX2 yX2_takeBench wsX2_takeBench) := goodIn_app (goodIn_of _ (by decide +kernel)) ggX2_takeCell_X2_takeBench
set_option maxRecDepth 20000 in
theorem ggX2_takeCell_X2_takeThing : GoodIn wsX2_takeCell wsX2_takeThing := goodIn_r _ [18, 19, 2, 20, 21, 22, 23, 6, 24, 3, 4, 5, 7, 8, 9, 25, 26, 27, 28, 29, 30, 31, 32, 33] (by decide +kernel) (by decide +kernel)
set_option maxRecDepth 20000 in
theorem gX2_takeCell_X2_takeThing : GoodIn wsX2_takeCell (wsV RX2 73 RX2 yX2_takeThing wsX2_takeThing) := goodIn_app (goodIn_of _ (by decide +kernel)) ggX2_takeCell_X2_takeThing
set_option maxHeartbeats 4000000 in
set_option maxRecDepth 100000 in
theorem kX2_takeCell (l : Launch) (dC : Nat → ClassId) (dI : Nat → Nat → Nat) (cI : ClassId) (t : Nat → Nat) (hi wi : Int32) (len pl be th : Nat) (S D E : Nat → Int32) (c : Nat) (sz : Nat) (hlen : len ≤ 100) (hpl : pl ≤ 200) (hbe : be ≤ 12) (hth : th ≤ 10) (hc : c < 42) : Met l yX2_takeCell wsX2_takeCell ({ frames := 3, cells := 0, slots := 0, locals := 64 }) (rwP [.ref (t 0), .int (nI c)] sz (dC, dI) [(cI, .int)] (wT cI t hi wi len pl be th S D E)) (rwQi (bI (tcO E len pl be th)) (dC, dI) (wT cI t hi wi len pl be th S D E) (wT cI t hi wi len (tcP E len pl be th) (tcB E len pl be) (tcT E len pl th) (upd S c (cdT E len pl)) (tcD E len pl th c D) E) sz) 0 0 (va_A (wT cI t hi wi len pl be th S D E) sz) := by
  refine rw_met_z (by decide) rfl (Nat.le_of_ble_eq_true rfl) ?_
  intro pp ee ss mm aa bb me cd RR QQ Z hx hb hml hown hts hRf hRl hP hK hD hA hS hend ls hl
  have hown : ss.vm.findClass RX2 = some mm.cls := hown
  have hRf : 3 ≤ RR.frames := hRf
  have hRl : 64 ≤ RR.locals := hRl
  have hl : lv_has ls 3 [(0, .ref (t 0)), (1, .int (nI c))] := hl
  have hf9 := hts (.fieldLink RX2 9 "StatueSquare$TextReader" "signs" "[I") (List.mem_of_getElem? (i := 1) rfl)
  have hinX2 : ∀ w ∈ u_ws RX2 TX2 9, w ∈ wsX2_takeCell := fun _ h => List.mem_cons_of_mem _ (List.mem_append_right _ h)
  have hf36 := hts (.fieldLink RX2 36 "StatueSquare$TextReader" "place" "I") (List.mem_of_getElem? (i := 2) rfl)
  refine lv_aload_n hx hb dX2_takeCell_0 rfl (lv_at hl 0 rfl) ?_
  refine roV_i (As := []) (rest := []) ⟨hx, hb, hml, hown, hts⟩ (kX2_nextCode l dC dI cI t hi wi len pl be th S D E  _ (by omega) (by omega)) (cwV 0 hts gX2_takeCell_X2_nextCode rfl rfl rfl hdX2_nextCode ⟨Nat.le_trans (Nat.le_of_ble_eq_true rfl) hRf, Nat.le_trans (Nat.le_of_ble_eq_true rfl) hRl⟩) (va_recv hK hP (ci := 2) (q0 := 0) rfl rfl) hK hP rfl hl.1 rfl (Nat.le_of_ble_eq_true rfl) dX2_takeCell_1 ⟨Nat.zero_le _, Nat.zero_le _⟩ hP hS hA (fun H locs hP hS => ?_)
  refine lv_istore_n (lv' := [(2, .int (cdT E len pl)), (0, .ref (t 0)), (1, .int (nI c))]) hx hb dX2_takeCell_4 rfl hl (by decide) rfl (fun ls hl => ?_)
  refine lv_aload_n hx hb dX2_takeCell_5 rfl (lv_at hl 1 rfl) ?_
  refine x_get (D := (dC, dI)) (ci := 2) (v := .ref (t 1)) (C := RX2) (T := TX2) (N := 9) hx hb hts hinX2 hown hK hP 0 rfl rfl 0 (Nat.le_of_ble_eq_true rfl) hf9 rfl rfl dX2_takeCell_6 ?_
  refine lv_iload_n hx hb dX2_takeCell_9 rfl (lv_at hl 2 rfl) ?_
  refine lv_iload_n hx hb dX2_takeCell_10 rfl (lv_at hl 0 rfl) ?_
  refine x_iast (wn := wT cI t hi wi len pl be th (upd S c (cdT E len pl)) D E) hx hb hK hP hD hS 1 0 rfl rfl (by omega) (by decide) rfl dX2_takeCell_11 (fun H locs hP hS => ?_)
  have hD : va_D Z (wT cI t hi wi len pl be th (upd S c (cdT E len pl)) D E) := hD.same rfl
  refine lv_iload_n hx hb dX2_takeCell_12 rfl (lv_at hl 0 rfl) ?_
  rcases knd_g (E := E) (len := len) (p := pl) (x := cdT E len pl) (fun sg hs => cd_eq hs) with hk | hk | hk | hk | hk | hk
  · skip
    refine lv_lookup (off := 51) (tgt := 64) hx hb dX2_takeCell_13 (by decide) (by rw [hk.1] <;> rfl) (by decide) ?_
    refine lv_aload_n hx hb dX2_takeCell_64 rfl (lv_at hl 1 rfl) ?_
    refine lv_dup hx hb dX2_takeCell_65 rfl ?_
    refine x_get (D := (dC, dI)) (ci := 2) (v := .int (nI pl)) (C := RX2) (T := TX2) (N := 9) hx hb hts hinX2 hown hK hP 0 rfl rfl 6 (Nat.le_of_ble_eq_true rfl) hf36 rfl rfl dX2_takeCell_66 ?_
    refine lv_iconst (v := nI 1) hx hb dX2_takeCell_69 rfl ?_
    refine x_iadd hx hb dX2_takeCell_70 ?_
    refine x_put (D := (dC, dI)) (ci := 2) (v := .int (nI (pl + 1))) (C := RX2) (T := TX2) (N := 9) (wn := wT cI t hi wi len (pl + 1) be th (upd S c (cdT E len pl)) D E) hx hb hts hinX2 tyX2 tyX2_ok nmX2 hown hK hP hD hS 0 rfl rfl 6 (Nat.le_of_ble_eq_true rfl) hf36 rfl rfl rfl rfl (Nat.le_of_ble_eq_true rfl) rfl dX2_takeCell_71 (fun H locs hP hS => ?_)
    have hD : va_D Z (wT cI t hi wi len (pl + 1) be th (upd S c (cdT E len pl)) D E) := hD.same rfl
    refine lv_iconst (v := nI 1) hx hb dX2_takeCell_74 rfl ?_
    exact hend _ _ _ _ _ _ (n1_b (by rw [tcO, hk.2]; rfl)) (by rw [tcP, tcB, tcT, tcD, hk.2]; rfl) hP hS dX2_takeCell_75
  · skip
    refine lv_lookup (off := 63) (tgt := 76) hx hb dX2_takeCell_13 (by decide) (by rw [hk.1] <;> rfl) (by decide) ?_
    refine lv_aload_n hx hb dX2_takeCell_76 rfl (lv_at hl 1 rfl) ?_
    refine rwW_i (As := []) (rest := []) (wn := wT cI t hi wi len (if be = 12 then pl else pl + 1) (if be = 12 then be else be + 1) th (upd S c (cdT E len pl)) D E) ⟨hx, hb, hml, hown, hts⟩ (kX2_takeBench l dC dI cI t hi wi len pl be th (upd S c (cdT E len pl)) D E  _ (by omega) (by omega) (by omega)) (cwV 0 hts gX2_takeCell_X2_takeBench rfl rfl rfl hdX2_takeBench ⟨Nat.le_trans (Nat.le_of_ble_eq_true rfl) hRf, Nat.le_trans (Nat.le_of_ble_eq_true rfl) hRl⟩) (va_recv hK hP (ci := 2) (q0 := 0) rfl rfl) hK rfl hl.1 rfl (Nat.le_of_ble_eq_true rfl) dX2_takeCell_77 ⟨Nat.zero_le _, Nat.zero_le _⟩ hP hD hS hA [0, 1, 2, 3] [] [0, 1, 2, 3] rfl rfl (by decide) (by decide) (by decide) rfl rfl (fun H locs hP hS => ?_)
    have hD : va_D Z (wT cI t hi wi len (if be = 12 then pl else pl + 1) (if be = 12 then be else be + 1) th (upd S c (cdT E len pl)) D E) := hD.same rfl
    exact hend _ _ _ _ _ _ (by rw [tcO, hk.2]; rfl) (by simp only [tcP, tcB, tcT, tcD, hk.2]; congr 1 <;> (repeat' split) <;> simp_all) hP hS dX2_takeCell_80
  · skip
    refine lv_lookup (off := 68) (tgt := 81) hx hb dX2_takeCell_13 (by decide) (by rw [hk.1] <;> rfl) (by decide) ?_
    refine lv_aload_n hx hb dX2_takeCell_81 rfl (lv_at hl 1 rfl) ?_
    refine lv_iload_n hx hb dX2_takeCell_82 rfl (lv_at hl 2 rfl) ?_
    refine rwW_i (As := [.int (nI c)]) (rest := []) (wn := wT cI t hi wi len (if th = 10 then pl else if dgN E len (pl + 1) 1 9 = 0 then pl + 1 else pl + 2) be (if th = 10 then th else th + 1) (upd S c (cdT E len pl)) (if th = 10 then D else upd D c (dgI (dgN E len (pl + 1) 1 9))) E) ⟨hx, hb, hml, hown, hts⟩ (kX2_takeThing l dC dI cI t hi wi len pl be th (upd S c (cdT E len pl)) D E c _ (by omega) (by omega) (by omega) (by omega)) (cwV 1 hts gX2_takeCell_X2_takeThing rfl rfl rfl hdX2_takeThing ⟨Nat.le_trans (Nat.le_of_ble_eq_true rfl) hRf, Nat.le_trans (Nat.le_of_ble_eq_true rfl) hRl⟩) (va_recv hK hP (ci := 2) (q0 := 0) rfl rfl) hK rfl hl.1 rfl (Nat.le_of_ble_eq_true rfl) dX2_takeCell_83 ⟨Nat.zero_le _, Nat.zero_le _⟩ hP hD hS hA [0, 1, 2, 3] [] [0, 1, 2, 3] rfl rfl (by decide) (by decide) (by decide) rfl rfl (fun H locs hP hS => ?_)
    have hD : va_D Z (wT cI t hi wi len (if th = 10 then pl else if dgN E len (pl + 1) 1 9 = 0 then pl + 1 else pl + 2) be (if th = 10 then th else th + 1) (upd S c (cdT E len pl)) (if th = 10 then D else upd D c (dgI (dgN E len (pl + 1) 1 9))) E) := hD.same rfl
    exact hend _ _ _ _ _ _ (by rw [tcO, hk.2]; rfl) (by simp only [tcP, tcB, tcT, tcD, hk.2]; congr 1 <;> (repeat' split) <;> simp_all) hP hS dX2_takeCell_86
  · skip
    refine lv_lookup (off := 68) (tgt := 81) hx hb dX2_takeCell_13 (by decide) (by rw [hk.1] <;> rfl) (by decide) ?_
    refine lv_aload_n hx hb dX2_takeCell_81 rfl (lv_at hl 1 rfl) ?_
    refine lv_iload_n hx hb dX2_takeCell_82 rfl (lv_at hl 2 rfl) ?_
    refine rwW_i (As := [.int (nI c)]) (rest := []) (wn := wT cI t hi wi len (if th = 10 then pl else if dgN E len (pl + 1) 1 9 = 0 then pl + 1 else pl + 2) be (if th = 10 then th else th + 1) (upd S c (cdT E len pl)) (if th = 10 then D else upd D c (dgI (dgN E len (pl + 1) 1 9))) E) ⟨hx, hb, hml, hown, hts⟩ (kX2_takeThing l dC dI cI t hi wi len pl be th (upd S c (cdT E len pl)) D E c _ (by omega) (by omega) (by omega) (by omega)) (cwV 1 hts gX2_takeCell_X2_takeThing rfl rfl rfl hdX2_takeThing ⟨Nat.le_trans (Nat.le_of_ble_eq_true rfl) hRf, Nat.le_trans (Nat.le_of_ble_eq_true rfl) hRl⟩) (va_recv hK hP (ci := 2) (q0 := 0) rfl rfl) hK rfl hl.1 rfl (Nat.le_of_ble_eq_true rfl) dX2_takeCell_83 ⟨Nat.zero_le _, Nat.zero_le _⟩ hP hD hS hA [0, 1, 2, 3] [] [0, 1, 2, 3] rfl rfl (by decide) (by decide) (by decide) rfl rfl (fun H locs hP hS => ?_)
    have hD : va_D Z (wT cI t hi wi len (if th = 10 then pl else if dgN E len (pl + 1) 1 9 = 0 then pl + 1 else pl + 2) be (if th = 10 then th else th + 1) (upd S c (cdT E len pl)) (if th = 10 then D else upd D c (dgI (dgN E len (pl + 1) 1 9))) E) := hD.same rfl
    exact hend _ _ _ _ _ _ (by rw [tcO, hk.2]; rfl) (by simp only [tcP, tcB, tcT, tcD, hk.2]; congr 1 <;> (repeat' split) <;> simp_all) hP hS dX2_takeCell_86
  · skip
    refine lv_lookup (off := 68) (tgt := 81) hx hb dX2_takeCell_13 (by decide) (by rw [hk.1] <;> rfl) (by decide) ?_
    refine lv_aload_n hx hb dX2_takeCell_81 rfl (lv_at hl 1 rfl) ?_
    refine lv_iload_n hx hb dX2_takeCell_82 rfl (lv_at hl 2 rfl) ?_
    refine rwW_i (As := [.int (nI c)]) (rest := []) (wn := wT cI t hi wi len (if th = 10 then pl else if dgN E len (pl + 1) 1 9 = 0 then pl + 1 else pl + 2) be (if th = 10 then th else th + 1) (upd S c (cdT E len pl)) (if th = 10 then D else upd D c (dgI (dgN E len (pl + 1) 1 9))) E) ⟨hx, hb, hml, hown, hts⟩ (kX2_takeThing l dC dI cI t hi wi len pl be th (upd S c (cdT E len pl)) D E c _ (by omega) (by omega) (by omega) (by omega)) (cwV 1 hts gX2_takeCell_X2_takeThing rfl rfl rfl hdX2_takeThing ⟨Nat.le_trans (Nat.le_of_ble_eq_true rfl) hRf, Nat.le_trans (Nat.le_of_ble_eq_true rfl) hRl⟩) (va_recv hK hP (ci := 2) (q0 := 0) rfl rfl) hK rfl hl.1 rfl (Nat.le_of_ble_eq_true rfl) dX2_takeCell_83 ⟨Nat.zero_le _, Nat.zero_le _⟩ hP hD hS hA [0, 1, 2, 3] [] [0, 1, 2, 3] rfl rfl (by decide) (by decide) (by decide) rfl rfl (fun H locs hP hS => ?_)
    have hD : va_D Z (wT cI t hi wi len (if th = 10 then pl else if dgN E len (pl + 1) 1 9 = 0 then pl + 1 else pl + 2) be (if th = 10 then th else th + 1) (upd S c (cdT E len pl)) (if th = 10 then D else upd D c (dgI (dgN E len (pl + 1) 1 9))) E) := hD.same rfl
    exact hend _ _ _ _ _ _ (by rw [tcO, hk.2]; rfl) (by simp only [tcP, tcB, tcT, tcD, hk.2]; congr 1 <;> (repeat' split) <;> simp_all) hP hS dX2_takeCell_86
  · skip
    refine lv_lookup (off := 74) (tgt := 87) hx hb dX2_takeCell_13 (by decide) ((lv_osw hk.1.1 (by decide)).trans ((lv_osw hk.1.2.1 (by decide)).trans ((lv_osw hk.1.2.2.1 (by decide)).trans ((lv_osw hk.1.2.2.2.2 (by decide)).trans ((lv_osw hk.1.2.2.2.1 (by decide)).trans rfl))))) (by decide) ?_
    refine lv_iconst (v := nI 0) hx hb dX2_takeCell_87 rfl ?_
    exact hend _ _ _ _ _ _ (n0_b (by rw [tcO, hk.2]; rfl)) (by rw [tcP, tcB, tcT, tcD, hk.2]; rfl) hP hS dX2_takeCell_88
