set_option maxHeartbeats 4000000 in
set_option maxRecDepth 100000 in
theorem kX0_isLaid (l : Launch) (dC : Nat → ClassId) (dI : Nat → Nat → Nat) (cI : ClassId) (q n : Nat → Nat) (A : Nat → Nat → Nat) (X : Nat → Nat → Int32) (hW : WF n A) (hR : RG n A X) (sz : Nat) : Met l yX0_isLaid wsX0_isLaid ({ frames := 0, cells := 0, slots := 0, locals := 0 }) (roP [.ref (q 0)] sz (dC, dI) [(cI, .int)] (wG cI q n X)) (roQi (bI (decide (0 < n 0 * n 1))) sz) 0 0 (va_A [] sz) := by
  refine ro_met_z (by decide) rfl (Nat.le_of_ble_eq_true rfl) ?_
  intro pp ee ss mm aa bb me cd RR QQ Z hx hb hml hown hts hRf hRl hP hK hA hS hend ls hl
  have hown : ss.vm.findClass RX0 = some mm.cls := hown
  have hRf : 0 ≤ RR.frames := hRf
  have hRl : 0 ≤ RR.locals := hRl
  have hl : lv_has ls 1 [(0, .ref (q 0))] := hl
  obtain ⟨w0, w1, w2, w3, w4, w5, w6, w7, w8, wA0, wA1, wA2⟩ := id hW
  have wC : n 0 * n 1 ≤ 42 := Nat.mul_le_mul w0 w1
  have hf46 := hts (.fieldLink RX0 46 "StatueSquare$Ground" "cellCount" "I") (List.mem_of_getElem? (i := 1) rfl)
  have hinX0 : ∀ w ∈ u_ws RX0 TX0 17, w ∈ wsX0_isLaid := fun _ h => List.mem_cons_of_mem _ (List.mem_append_right _ h)
  refine lv_aload_n hx hb dX0_isLaid_0 rfl (lv_at hl 0 rfl) ?_
  refine x_get (D := (dC, dI)) (ci := 0) (v := .int (nI (n 0 * n 1))) (C := RX0) (T := TX0) (N := 17) hx hb hts hinX0 hown hK hP 0 rfl rfl 1 (Nat.le_of_ble_eq_true rfl) hf46 rfl rfl dX0_isLaid_1 ?_
  refine x_if_le (tgt := 11) hx hb (by omega) dX0_isLaid_4 (by decide) (fun c4 => ?_) (fun c4 => ?_)
  · skip
    refine lv_iconst (v := nI 0) hx hb dX0_isLaid_11 rfl ?_
    exact hend _ _ _ _ _ (by first | exact n1_b (by simp; omega) | exact n0_b (by simp; omega)) hS dX0_isLaid_12
  · skip
    refine lv_iconst (v := nI 1) hx hb dX0_isLaid_7 rfl ?_
    refine lv_goto (tgt := 12) hx hb dX0_isLaid_8 (by decide) ?_
    exact hend _ _ _ _ _ (by first | exact n1_b (by simp; omega) | exact n0_b (by simp; omega)) hS dX0_isLaid_12
set_option maxHeartbeats 4000000 in
set_option maxRecDepth 100000 in
theorem kX0_hasStatue (l : Launch) (dC : Nat → ClassId) (dI : Nat → Nat → Nat) (cI : ClassId) (q n : Nat → Nat) (A : Nat → Nat → Nat) (X : Nat → Nat → Int32) (hW : WF n A) (hR : RG n A X) (sz : Nat) : Met l yX0_hasStatue wsX0_hasStatue ({ frames := 0, cells := 0, slots := 0, locals := 0 }) (roP [.ref (q 0)] sz (dC, dI) [(cI, .int)] (wG cI q n X)) (roQi (bI (decide (0 < n 6))) sz) 0 0 (va_A [] sz) := by
  refine ro_met_z (by decide) rfl (Nat.le_of_ble_eq_true rfl) ?_
  intro pp ee ss mm aa bb me cd RR QQ Z hx hb hml hown hts hRf hRl hP hK hA hS hend ls hl
  have hown : ss.vm.findClass RX0 = some mm.cls := hown
  have hRf : 0 ≤ RR.frames := hRf
  have hRl : 0 ≤ RR.locals := hRl
  have hl : lv_has ls 1 [(0, .ref (q 0))] := hl
  obtain ⟨w0, w1, w2, w3, w4, w5, w6, w7, w8, wA0, wA1, wA2⟩ := id hW
  have wC : n 0 * n 1 ≤ 42 := Nat.mul_le_mul w0 w1
  have hf36 := hts (.fieldLink RX0 36 "StatueSquare$Ground" "statueCell" "I") (List.mem_of_getElem? (i := 1) rfl)
  have hinX0 : ∀ w ∈ u_ws RX0 TX0 17, w ∈ wsX0_hasStatue := fun _ h => List.mem_cons_of_mem _ (List.mem_append_right _ h)
  refine lv_aload_n hx hb dX0_hasStatue_0 rfl (lv_at hl 0 rfl) ?_
  refine x_get (D := (dC, dI)) (ci := 0) (v := .int (stI (n 6))) (C := RX0) (T := TX0) (N := 17) hx hb hts hinX0 hown hK hP 0 rfl rfl 15 (Nat.le_of_ble_eq_true rfl) hf36 rfl rfl dX0_hasStatue_1 ?_
  refine lv_bipush (v := -9) hx hb dX0_hasStatue_4 rfl ?_
  refine lv_icmp_eq (tgt := 13) hx hb dX0_hasStatue_6 (by decide) (fun c6 => ?_) (fun c6 => ?_)
  · skip
    refine lv_iconst (v := nI 0) hx hb dX0_hasStatue_13 rfl ?_
    exact hend _ _ _ _ _ (n0_b (by have := (stI_ne (by omega)).mp c6; simp; omega)) hS dX0_hasStatue_14
  · skip
    refine lv_iconst (v := nI 1) hx hb dX0_hasStatue_9 rfl ?_
    refine lv_goto (tgt := 14) hx hb dX0_hasStatue_10 (by decide) ?_
    exact hend _ _ _ _ _ (n1_b (by have := mt (stI_ne (by omega)).mpr c6; simp; omega)) hS dX0_hasStatue_14
set_option maxHeartbeats 4000000 in
set_option maxRecDepth 100000 in
theorem kX0_isFree (l : Launch) (dC : Nat → ClassId) (dI : Nat → Nat → Nat) (cI : ClassId) (q n : Nat → Nat) (A : Nat → Nat → Nat) (X : Nat → Nat → Int32) (hW : WF n A) (hR : RG n A X) (c : Nat) (sz : Nat) (hc : c < n 0 * n 1) : Met l yX0_isFree wsX0_isFree ({ frames := 0, cells := 0, slots := 0, locals := 0 }) (roP [.ref (q 0), .int (nI c)] sz (dC, dI) [(cI, .int)] (wG cI q n X)) (roQi (bI (decide (A 0 c = 0))) sz) 0 0 (va_A [] sz) := by
  refine ro_met_z (by decide) rfl (Nat.le_of_ble_eq_true rfl) ?_
  intro pp ee ss mm aa bb me cd RR QQ Z hx hb hml hown hts hRf hRl hP hK hA hS hend ls hl
  have hown : ss.vm.findClass RX0 = some mm.cls := hown
  have hRf : 0 ≤ RR.frames := hRf
  have hRl : 0 ≤ RR.locals := hRl
  have hl : lv_has ls 2 [(0, .ref (q 0)), (1, .int (nI c))] := hl
  obtain ⟨w0, w1, w2, w3, w4, w5, w6, w7, w8, wA0, wA1, wA2⟩ := id hW
  have wC : n 0 * n 1 ≤ 42 := Nat.mul_le_mul w0 w1
  have hf9 := hts (.fieldLink RX0 9 "StatueSquare$Ground" "has" "[I") (List.mem_of_getElem? (i := 1) rfl)
  have hinX0 : ∀ w ∈ u_ws RX0 TX0 17, w ∈ wsX0_isFree := fun _ h => List.mem_cons_of_mem _ (List.mem_append_right _ h)
  refine lv_aload_n hx hb dX0_isFree_0 rfl (lv_at hl 0 rfl) ?_
  refine x_get (D := (dC, dI)) (ci := 0) (v := .ref (q 1)) (C := RX0) (T := TX0) (N := 17) hx hb hts hinX0 hown hK hP 0 rfl rfl 4 (Nat.le_of_ble_eq_true rfl) hf9 rfl rfl dX0_isFree_1 ?_
  refine lv_iload_n hx hb dX0_isFree_4 rfl (lv_at hl 1 rfl) ?_
  refine x_iald (v := (nI (A 0 c))) hx hb hK hP 1 0 rfl rfl (by omega) (by decide) (hR.1 _ (by omega)).1 dX0_isFree_5 ?_
  refine x_if_ne (tgt := 13) hx hb (by have := wA0 c hc; omega) dX0_isFree_6 (by decide) (fun c6 => ?_) (fun c6 => ?_)
  · skip
    refine lv_iconst (v := nI 0) hx hb dX0_isFree_13 rfl ?_
    exact hend _ _ _ _ _ (by first | exact n1_b (by simp; omega) | exact n0_b (by simp; omega)) hS dX0_isFree_14
  · skip
    refine lv_iconst (v := nI 1) hx hb dX0_isFree_9 rfl ?_
    refine lv_goto (tgt := 14) hx hb dX0_isFree_10 (by decide) ?_
    exact hend _ _ _ _ _ (by first | exact n1_b (by simp; omega) | exact n0_b (by simp; omega)) hS dX0_isFree_14
set_option maxHeartbeats 4000000 in
set_option maxRecDepth 100000 in
theorem kX0_isThere (l : Launch) (dC : Nat → ClassId) (dI : Nat → Nat → Nat) (cI : ClassId) (q n : Nat → Nat) (A : Nat → Nat → Nat) (X : Nat → Nat → Int32) (hW : WF n A) (hR : RG n A X) (t : Nat) (sz : Nat) (ht : t < n 3) : Met l yX0_isThere wsX0_isThere ({ frames := 0, cells := 0, slots := 0, locals := 0 }) (roP [.ref (q 0), .int (nI t)] sz (dC, dI) [(cI, .int)] (wG cI q n X)) (roQi (bI (sThere n t)) sz) 0 0 (va_A [] sz) := by
  refine ro_met_z (by decide) rfl (Nat.le_of_ble_eq_true rfl) ?_
  intro pp ee ss mm aa bb me cd RR QQ Z hx hb hml hown hts hRf hRl hP hK hA hS hend ls hl
  have hown : ss.vm.findClass RX0 = some mm.cls := hown
  have hRf : 0 ≤ RR.frames := hRf
  have hRl : 0 ≤ RR.locals := hRl
  have hl : lv_has ls 2 [(0, .ref (q 0)), (1, .int (nI t))] := hl
  obtain ⟨w0, w1, w2, w3, w4, w5, w6, w7, w8, wA0, wA1, wA2⟩ := id hW
  have wC : n 0 * n 1 ≤ 42 := Nat.mul_le_mul w0 w1
  have hf68 := hts (.fieldLink RX0 68 "StatueSquare$Ground" "cutThings" "I") (List.mem_of_getElem? (i := 1) rfl)
  have hinX0 : ∀ w ∈ u_ws RX0 TX0 17, w ∈ wsX0_isThere := fun _ h => List.mem_cons_of_mem _ (List.mem_append_right _ h)
  refine lv_aload_n hx hb dX0_isThere_0 rfl (lv_at hl 0 rfl) ?_
  refine x_get (D := (dC, dI)) (ci := 0) (v := .int (nI (n 8))) (C := RX0) (T := TX0) (N := 17) hx hb hts hinX0 hown hK hP 0 rfl rfl 12 (Nat.le_of_ble_eq_true rfl) hf68 rfl rfl dX0_isThere_1 ?_
  refine lv_iload_n hx hb dX0_isThere_4 rfl (lv_at hl 1 rfl) ?_
  refine x_ishr hx hb (by omega) (by omega) dX0_isThere_5 ?_
  refine lv_iconst (v := nI 1) hx hb dX0_isThere_6 rfl ?_
  refine x_iand hx hb dX0_isThere_7 ?_
  refine x_if_ne (tgt := 15) hx hb (and1_lt _) dX0_isThere_8 (by decide) (fun c8 => ?_) (fun c8 => ?_)
  · skip
    refine lv_iconst (v := nI 0) hx hb dX0_isThere_15 rfl ?_
    exact hend _ _ _ _ _ (by first | exact n1_b (by simp [sThere]; first | exact tb_0.mp c8) | exact n0_b (by simp [sThere]; exact (by have := mt tb_0.mpr c8; simpa using this))) hS dX0_isThere_16
  · skip
    refine lv_iconst (v := nI 1) hx hb dX0_isThere_11 rfl ?_
    refine lv_goto (tgt := 16) hx hb dX0_isThere_12 (by decide) ?_
    exact hend _ _ _ _ _ (by first | exact n1_b (by simp [sThere]; first | exact tb_0.mp c8) | exact n0_b (by simp [sThere]; exact (by have := mt tb_0.mpr c8; simpa using this))) hS dX0_isThere_16
set_option maxHeartbeats 4000000 in
set_option maxRecDepth 100000 in
theorem kX0_tallIn (l : Launch) (dC : Nat → ClassId) (dI : Nat → Nat → Nat) (cI : ClassId) (q n : Nat → Nat) (A : Nat → Nat → Nat) (X : Nat → Nat → Int32) (hW : WF n A) (hR : RG n A X) (t : Nat) (y : Nat) (sz : Nat) (ht : t < n 3) (hy : y ≤ 30) : Met l yX0_tallIn wsX0_tallIn ({ frames := 0, cells := 0, slots := 0, locals := 0 }) (roP [.ref (q 0), .int (nI t), .int (nI y)] sz (dC, dI) [(cI, .int)] (wG cI q n X)) (roQi (nI (sTall n A y t)) sz) 0 0 (va_A [] sz) := by
  refine ro_met_i (by decide) rfl (Nat.le_of_ble_eq_true rfl) ?_
  intro pp ee ss mm aa bb me cd RR QQ Z hx hb hml hown hts hRf hRl hP hK hA hS hend ls hl
  have hown : ss.vm.findClass RX0 = some mm.cls := hown
  have hRf : 0 ≤ RR.frames := hRf
  have hRl : 0 ≤ RR.locals := hRl
  have hl : lv_has ls 4 [(0, .ref (q 0)), (1, .int (nI t)), (2, .int (nI y))] := hl
  obtain ⟨w0, w1, w2, w3, w4, w5, w6, w7, w8, wA0, wA1, wA2⟩ := id hW
  have wC : n 0 * n 1 ≤ 42 := Nat.mul_le_mul w0 w1
  have wt := wA2 t ht
  have hf30 := hts (.fieldLink RX0 30 "StatueSquare$Ground" "tallAtFirst" "[I") (List.mem_of_getElem? (i := 1) rfl)
  have hinX0 : ∀ w ∈ u_ws RX0 TX0 17, w ∈ wsX0_tallIn := fun _ h => List.mem_cons_of_mem _ (List.mem_append_right _ h)
  have hf24 := hts (.fieldLink RX0 24 "StatueSquare$Ground" "kind" "[I") (List.mem_of_getElem? (i := 2) rfl)
  have hf74 := hts (.fieldLink RX0 74 "StatueSquare$Ground" "isWinter" "Z") (List.mem_of_getElem? (i := 3) rfl)
  refine lv_aload_n hx hb dX0_tallIn_0 rfl (lv_at hl 0 rfl) ?_
  refine x_get (D := (dC, dI)) (ci := 0) (v := .ref (q 7)) (C := RX0) (T := TX0) (N := 17) hx hb hts hinX0 hown hK hP 0 rfl rfl 10 (Nat.le_of_ble_eq_true rfl) hf30 rfl rfl dX0_tallIn_1 ?_
  refine lv_iload_n hx hb dX0_tallIn_4 rfl (lv_at hl 1 rfl) ?_
  refine x_iald (v := (nI (A 4 t))) hx hb hK hP 7 0 rfl rfl (by omega) (by decide) (hR.2.2 _ (by omega)).2.2.1 dX0_tallIn_5 ?_
  refine lv_istore_n (lv' := [(3, .int (nI (A 4 t))), (0, .ref (q 0)), (1, .int (nI t)), (2, .int (nI y))]) hx hb dX0_tallIn_6 rfl hl (by decide) rfl (fun ls hl => ?_)
  refine lv_aload_n hx hb dX0_tallIn_7 rfl (lv_at hl 1 rfl) ?_
  refine x_get (D := (dC, dI)) (ci := 0) (v := .ref (q 5)) (C := RX0) (T := TX0) (N := 17) hx hb hts hinX0 hown hK hP 0 rfl rfl 8 (Nat.le_of_ble_eq_true rfl) hf24 rfl rfl dX0_tallIn_8 ?_
  refine lv_iload_n hx hb dX0_tallIn_11 rfl (lv_at hl 2 rfl) ?_
  refine x_iald (v := (nI (A 2 t))) hx hb hK hP 5 0 rfl rfl (by omega) (by decide) (hR.2.2 _ (by omega)).1 dX0_tallIn_12 ?_
  refine x_if_eq (tgt := 26) hx hb (by omega) dX0_tallIn_13 (by decide) (fun c13 => ?_) (fun c13 => ?_)
  · skip
    refine lv_aload_n hx hb dX0_tallIn_26 rfl (lv_at hl 1 rfl) ?_
    refine x_get (D := (dC, dI)) (ci := 0) (v := .ref (q 5)) (C := RX0) (T := TX0) (N := 17) hx hb hts hinX0 hown hK hP 0 rfl rfl 8 (Nat.le_of_ble_eq_true rfl) hf24 rfl rfl dX0_tallIn_27 ?_
    refine lv_iload_n hx hb dX0_tallIn_30 rfl (lv_at hl 2 rfl) ?_
    refine x_iald (v := (nI (A 2 t))) hx hb hK hP 5 0 rfl rfl (by omega) (by decide) (hR.2.2 _ (by omega)).1 dX0_tallIn_31 ?_
    refine lv_iconst (v := nI 2) hx hb dX0_tallIn_32 rfl ?_
    refine x_icmp_ne (tgt := 53) hx hb (by omega) (by omega) dX0_tallIn_33 (by decide) (fun c33 => ?_) (fun c33 => ?_)
    · skip
      refine lv_iload_n hx hb dX0_tallIn_53 rfl (lv_at hl 0 rfl) ?_
      exact hend _ _ _ _ _ (by congr 1; simp [sTall, *]; try omega) hS dX0_tallIn_54
    · skip
      refine lv_iload_n hx hb dX0_tallIn_36 rfl (lv_at hl 0 rfl) ?_
      refine lv_iload_n hx hb dX0_tallIn_37 rfl (lv_at hl 3 rfl) ?_
      refine lv_iconst (v := nI 3) hx hb dX0_tallIn_38 rfl ?_
      refine x_idiv hx hb (by omega) (by omega) (by omega) dX0_tallIn_39 ?_
      refine x_iadd hx hb dX0_tallIn_40 ?_
      refine lv_istore_n (lv' := [(3, .int (nI ((A 4 t) + (y / 3)))), (0, .ref (q 0)), (1, .int (nI t)), (2, .int (nI y))]) hx hb dX0_tallIn_41 rfl hl (by decide) rfl (fun ls hl => ?_)
      refine lv_aload_n hx hb dX0_tallIn_42 rfl (lv_at hl 1 rfl) ?_
      refine x_get (D := (dC, dI)) (ci := 0) (v := .int (nI (n 5))) (C := RX0) (T := TX0) (N := 17) hx hb hts hinX0 hown hK hP 0 rfl rfl 14 (Nat.le_of_ble_eq_true rfl) hf74 rfl rfl dX0_tallIn_43 ?_
      refine x_if_eq (tgt := 53) hx hb (by omega) dX0_tallIn_46 (by decide) (fun c46 => ?_) (fun c46 => ?_)
      · skip
        refine lv_iload_n hx hb dX0_tallIn_53 rfl (lv_at hl 0 rfl) ?_
        exact hend _ _ _ _ _ (by congr 1; simp [sTall, *]; try omega) hS dX0_tallIn_54
      · skip
        refine lv_iload_n hx hb dX0_tallIn_49 rfl (lv_at hl 0 rfl) ?_
        refine lv_iconst (v := nI 2) hx hb dX0_tallIn_50 rfl ?_
        refine x_idiv hx hb (by omega) (by omega) (by omega) dX0_tallIn_51 ?_
        refine lv_istore_n (lv' := [(3, .int (nI (((A 4 t) + (y / 3)) / 2))), (0, .ref (q 0)), (1, .int (nI t)), (2, .int (nI y))]) hx hb dX0_tallIn_52 rfl hl (by decide) rfl (fun ls hl => ?_)
        refine lv_iload_n hx hb dX0_tallIn_53 rfl (lv_at hl 0 rfl) ?_
        exact hend _ _ _ _ _ (by congr 1; simp [sTall, *]; try omega) hS dX0_tallIn_54
  · skip
    refine lv_aload_n hx hb dX0_tallIn_16 rfl (lv_at hl 1 rfl) ?_
    refine x_get (D := (dC, dI)) (ci := 0) (v := .int (nI (n 5))) (C := RX0) (T := TX0) (N := 17) hx hb hts hinX0 hown hK hP 0 rfl rfl 14 (Nat.le_of_ble_eq_true rfl) hf74 rfl rfl dX0_tallIn_17 ?_
    refine x_if_ne (tgt := 26) hx hb (by omega) dX0_tallIn_20 (by decide) (fun c20 => ?_) (fun c20 => ?_)
    · skip
      refine lv_aload_n hx hb dX0_tallIn_26 rfl (lv_at hl 1 rfl) ?_
      refine x_get (D := (dC, dI)) (ci := 0) (v := .ref (q 5)) (C := RX0) (T := TX0) (N := 17) hx hb hts hinX0 hown hK hP 0 rfl rfl 8 (Nat.le_of_ble_eq_true rfl) hf24 rfl rfl dX0_tallIn_27 ?_
      refine lv_iload_n hx hb dX0_tallIn_30 rfl (lv_at hl 2 rfl) ?_
      refine x_iald (v := (nI (A 2 t))) hx hb hK hP 5 0 rfl rfl (by omega) (by decide) (hR.2.2 _ (by omega)).1 dX0_tallIn_31 ?_
      refine lv_iconst (v := nI 2) hx hb dX0_tallIn_32 rfl ?_
      refine x_icmp_ne (tgt := 53) hx hb (by omega) (by omega) dX0_tallIn_33 (by decide) (fun c33 => ?_) (fun c33 => ?_)
      · skip
        refine lv_iload_n hx hb dX0_tallIn_53 rfl (lv_at hl 0 rfl) ?_
        exact hend _ _ _ _ _ (by congr 1; simp [sTall, *]; try omega) hS dX0_tallIn_54
      · skip
        refine lv_iload_n hx hb dX0_tallIn_36 rfl (lv_at hl 0 rfl) ?_
        refine lv_iload_n hx hb dX0_tallIn_37 rfl (lv_at hl 3 rfl) ?_
        refine lv_iconst (v := nI 3) hx hb dX0_tallIn_38 rfl ?_
        refine x_idiv hx hb (by omega) (by omega) (by omega) dX0_tallIn_39 ?_
        refine x_iadd hx hb dX0_tallIn_40 ?_
        refine lv_istore_n (lv' := [(3, .int (nI ((A 4 t) + (y / 3)))), (0, .ref (q 0)), (1, .int (nI t)), (2, .int (nI y))]) hx hb dX0_tallIn_41 rfl hl (by decide) rfl (fun ls hl => ?_)
        refine lv_aload_n hx hb dX0_tallIn_42 rfl (lv_at hl 1 rfl) ?_
        refine x_get (D := (dC, dI)) (ci := 0) (v := .int (nI (n 5))) (C := RX0) (T := TX0) (N := 17) hx hb hts hinX0 hown hK hP 0 rfl rfl 14 (Nat.le_of_ble_eq_true rfl) hf74 rfl rfl dX0_tallIn_43 ?_
        refine x_if_eq (tgt := 53) hx hb (by omega) dX0_tallIn_46 (by decide) (fun c46 => ?_) (fun c46 => ?_)
        · skip
          refine lv_iload_n hx hb dX0_tallIn_53 rfl (lv_at hl 0 rfl) ?_
          exact hend _ _ _ _ _ (by congr 1; simp [sTall, *]; try omega) hS dX0_tallIn_54
        · skip
          refine lv_iload_n hx hb dX0_tallIn_49 rfl (lv_at hl 0 rfl) ?_
          refine lv_iconst (v := nI 2) hx hb dX0_tallIn_50 rfl ?_
          refine x_idiv hx hb (by omega) (by omega) (by omega) dX0_tallIn_51 ?_
          refine lv_istore_n (lv' := [(3, .int (nI (((A 4 t) + (y / 3)) / 2))), (0, .ref (q 0)), (1, .int (nI t)), (2, .int (nI y))]) hx hb dX0_tallIn_52 rfl hl (by decide) rfl (fun ls hl => ?_)
          refine lv_iload_n hx hb dX0_tallIn_53 rfl (lv_at hl 0 rfl) ?_
          exact hend _ _ _ _ _ (by congr 1; simp [sTall, *]; try omega) hS dX0_tallIn_54
    · skip
      refine lv_iinc (v := (nI (A 4 t + 1))) (lv' := [(3, .int (nI (A 4 t + 1))), (0, .ref (q 0)), (1, .int (nI t)), (2, .int (nI y))]) hx hb dX0_tallIn_23 hl (k := 0) rfl (nI_add _ _) (by decide) rfl (fun ls hl => ?_)
      refine lv_aload_n hx hb dX0_tallIn_26 rfl (lv_at hl 1 rfl) ?_
      refine x_get (D := (dC, dI)) (ci := 0) (v := .ref (q 5)) (C := RX0) (T := TX0) (N := 17) hx hb hts hinX0 hown hK hP 0 rfl rfl 8 (Nat.le_of_ble_eq_true rfl) hf24 rfl rfl dX0_tallIn_27 ?_
      refine lv_iload_n hx hb dX0_tallIn_30 rfl (lv_at hl 2 rfl) ?_
      refine x_iald (v := (nI (A 2 t))) hx hb hK hP 5 0 rfl rfl (by omega) (by decide) (hR.2.2 _ (by omega)).1 dX0_tallIn_31 ?_
      refine lv_iconst (v := nI 2) hx hb dX0_tallIn_32 rfl ?_
      refine x_icmp_ne (tgt := 53) hx hb (by omega) (by omega) dX0_tallIn_33 (by decide) (fun c33 => ?_) (fun c33 => ?_)
      · skip
        refine lv_iload_n hx hb dX0_tallIn_53 rfl (lv_at hl 0 rfl) ?_
        exact hend _ _ _ _ _ (by congr 1; simp [sTall, *]; try omega) hS dX0_tallIn_54
      · skip
        refine lv_iload_n hx hb dX0_tallIn_36 rfl (lv_at hl 0 rfl) ?_
        refine lv_iload_n hx hb dX0_tallIn_37 rfl (lv_at hl 3 rfl) ?_
        refine lv_iconst (v := nI 3) hx hb dX0_tallIn_38 rfl ?_
        refine x_idiv hx hb (by omega) (by omega) (by omega) dX0_tallIn_39 ?_
        refine x_iadd hx hb dX0_tallIn_40 ?_
        refine lv_istore_n (lv' := [(3, .int (nI ((A 4 t + 1) + (y / 3)))), (0, .ref (q 0)), (1, .int (nI t)), (2, .int (nI y))]) hx hb dX0_tallIn_41 rfl hl (by decide) rfl (fun ls hl => ?_)
        refine lv_aload_n hx hb dX0_tallIn_42 rfl (lv_at hl 1 rfl) ?_
        refine x_get (D := (dC, dI)) (ci := 0) (v := .int (nI (n 5))) (C := RX0) (T := TX0) (N := 17) hx hb hts hinX0 hown hK hP 0 rfl rfl 14 (Nat.le_of_ble_eq_true rfl) hf74 rfl rfl dX0_tallIn_43 ?_
        refine x_if_eq (tgt := 53) hx hb (by omega) dX0_tallIn_46 (by decide) (fun c46 => ?_) (fun c46 => ?_)
        · skip
          refine lv_iload_n hx hb dX0_tallIn_53 rfl (lv_at hl 0 rfl) ?_
          exact hend _ _ _ _ _ (by congr 1; simp [sTall, *]; try omega) hS dX0_tallIn_54
        · skip
          refine lv_iload_n hx hb dX0_tallIn_49 rfl (lv_at hl 0 rfl) ?_
          refine lv_iconst (v := nI 2) hx hb dX0_tallIn_50 rfl ?_
          refine x_idiv hx hb (by omega) (by omega) (by omega) dX0_tallIn_51 ?_
          refine lv_istore_n (lv' := [(3, .int (nI (((A 4 t + 1) + (y / 3)) / 2))), (0, .ref (q 0)), (1, .int (nI t)), (2, .int (nI y))]) hx hb dX0_tallIn_52 rfl hl (by decide) rfl (fun ls hl => ?_)
          refine lv_iload_n hx hb dX0_tallIn_53 rfl (lv_at hl 0 rfl) ?_
          exact hend _ _ _ _ _ (by congr 1; simp [sTall, *]; try omega) hS dX0_tallIn_54
set_option maxHeartbeats 4000000 in
set_option maxRecDepth 100000 in
theorem kX0_stepsBetween (l : Launch) (dC : Nat → ClassId) (dI : Nat → Nat → Nat) (cI : ClassId) (q n : Nat → Nat) (A : Nat → Nat → Nat) (X : Nat → Nat → Int32) (hW : WF n A) (hR : RG n A X) (c : Nat) (d : Nat) (sz : Nat) (hc : c < n 0 * n 1) (hd : d < n 0 * n 1) : Met l yX0_stepsBetween wsX0_stepsBetween ({ frames := 1, cells := 0, slots := 0, locals := 21 }) (roP [.ref (q 0), .int (nI c), .int (nI d)] sz (dC, dI) [(cI, .int)] (wG cI q n X)) (roQi (nI (sSt n c d)) sz) 0 0 (va_A [] sz) := by
  refine ro_met_i (by decide) rfl (Nat.le_of_ble_eq_true rfl) ?_
  intro pp ee ss mm aa bb me cd RR QQ Z hx hb hml hown hts hRf hRl hP hK hA hS hend ls hl
  have hown : ss.vm.findClass RX0 = some mm.cls := hown
  have hRf : 1 ≤ RR.frames := hRf
  have hRl : 21 ≤ RR.locals := hRl
  have hl : lv_has ls 6 [(0, .ref (q 0)), (1, .int (nI c)), (2, .int (nI d))] := hl
  obtain ⟨w0, w1, w2, w3, w4, w5, w6, w7, w8, wA0, wA1, wA2⟩ := id hW
  have wC : n 0 * n 1 ≤ 42 := Nat.mul_le_mul w0 w1
  have b1 : c / n 1 ≤ 42 := Nat.le_trans (Nat.div_le_self _ _) (by omega)
  have b2 : d / n 1 ≤ 42 := Nat.le_trans (Nat.div_le_self _ _) (by omega)
  have b3 : c % n 1 ≤ 42 := Nat.le_trans (Nat.mod_le _ _) (by omega)
  have b4 : d % n 1 ≤ 42 := Nat.le_trans (Nat.mod_le _ _) (by omega)
  have b5 : dd (c / n 1) (d / n 1) ≤ 42 := dd_le b1 b2
  have b6 : dd (c % n 1) (d % n 1) ≤ 42 := dd_le b3 b4
  have hf15 := hts (.fieldLink RX0 15 "StatueSquare$Ground" "rowOf" "[I") (List.mem_of_getElem? (i := 1) rfl)
  have hinX0 : ∀ w ∈ u_ws RX0 TX0 17, w ∈ wsX0_stepsBetween := fun _ h => List.mem_cons_of_mem _ (List.mem_append_right _ h)
  have hl88 := hts (.methodLink RX0 88 Lib.Math.abs.name) (List.mem_of_getElem? (i := 2) rfl)
  have hsabs := hts (.static Lib.Math.abs.name) (List.mem_of_getElem? (i := 3) rfl)
  have hiMath := hts (.initialized "java/lang/Math") (List.mem_of_getElem? (i := 4) rfl)
  have hcabs := hts (.code Lib.Math.abs.name Lib.Math.abs.code 1 (some .int)) (List.mem_of_getElem? (i := 5) rfl)
  have hf18 := hts (.fieldLink RX0 18 "StatueSquare$Ground" "columnOf" "[I") (List.mem_of_getElem? (i := 6) rfl)
  have hl94 := hts (.methodLink RX0 94 Lib.Math.max.name) (List.mem_of_getElem? (i := 7) rfl)
  have hsmax := hts (.static Lib.Math.max.name) (List.mem_of_getElem? (i := 8) rfl)
  have hcmax := hts (.code Lib.Math.max.name Lib.Math.max.code 2 (some .int)) (List.mem_of_getElem? (i := 9) rfl)
  refine lv_aload_n hx hb dX0_stepsBetween_0 rfl (lv_at hl 0 rfl) ?_
  refine x_get (D := (dC, dI)) (ci := 0) (v := .ref (q 2)) (C := RX0) (T := TX0) (N := 17) hx hb hts hinX0 hown hK hP 0 rfl rfl 5 (Nat.le_of_ble_eq_true rfl) hf15 rfl rfl dX0_stepsBetween_1 ?_
  refine lv_iload_n hx hb dX0_stepsBetween_4 rfl (lv_at hl 1 rfl) ?_
  refine x_iald (v := (nI (c / n 1))) hx hb hK hP 2 0 rfl rfl (by omega) (by decide) (hR.1 _ (by omega)).2.1 dX0_stepsBetween_5 ?_
  refine lv_aload_n hx hb dX0_stepsBetween_6 rfl (lv_at hl 0 rfl) ?_
  refine x_get (D := (dC, dI)) (ci := 0) (v := .ref (q 2)) (C := RX0) (T := TX0) (N := 17) hx hb hts hinX0 hown hK hP 0 rfl rfl 5 (Nat.le_of_ble_eq_true rfl) hf15 rfl rfl dX0_stepsBetween_7 ?_
  refine lv_iload_n hx hb dX0_stepsBetween_10 rfl (lv_at hl 2 rfl) ?_
  refine x_iald (v := (nI (d / n 1))) hx hb hK hP 2 0 rfl rfl (by omega) (by decide) (hR.1 _ (by omega)).2.1 dX0_stepsBetween_11 ?_
  refine lv_isub hx hb dX0_stepsBetween_12 ?_
  refine va_mabs hx hb (hml.trans hl.1.symm) hown hl88 hsabs hiMath hcabs (Nat.le_trans (Nat.le_of_ble_eq_true rfl) hRf) (Nat.le_trans (Nat.le_of_ble_eq_true rfl) hRl) (Nat.zero_le _) (Nat.zero_le _) dX0_stepsBetween_13 ?_
  refine x_top (y := (nI (dd (c / n 1) (d / n 1)))) (abs_sub (by omega) (by omega)) ?_
  refine lv_istore_n (lv' := [(3, .int (nI (dd (c / n 1) (d / n 1)))), (0, .ref (q 0)), (1, .int (nI c)), (2, .int (nI d))]) hx hb dX0_stepsBetween_16 rfl hl (by decide) rfl (fun ls hl => ?_)
  refine lv_aload_n hx hb dX0_stepsBetween_17 rfl (lv_at hl 1 rfl) ?_
  refine x_get (D := (dC, dI)) (ci := 0) (v := .ref (q 3)) (C := RX0) (T := TX0) (N := 17) hx hb hts hinX0 hown hK hP 0 rfl rfl 6 (Nat.le_of_ble_eq_true rfl) hf18 rfl rfl dX0_stepsBetween_18 ?_
  refine lv_iload_n hx hb dX0_stepsBetween_21 rfl (lv_at hl 2 rfl) ?_
  refine x_iald (v := (nI (c % n 1))) hx hb hK hP 3 0 rfl rfl (by omega) (by decide) (hR.1 _ (by omega)).2.2 dX0_stepsBetween_22 ?_
  refine lv_aload_n hx hb dX0_stepsBetween_23 rfl (lv_at hl 1 rfl) ?_
  refine x_get (D := (dC, dI)) (ci := 0) (v := .ref (q 3)) (C := RX0) (T := TX0) (N := 17) hx hb hts hinX0 hown hK hP 0 rfl rfl 6 (Nat.le_of_ble_eq_true rfl) hf18 rfl rfl dX0_stepsBetween_24 ?_
  refine lv_iload_n hx hb dX0_stepsBetween_27 rfl (lv_at hl 3 rfl) ?_
  refine x_iald (v := (nI (d % n 1))) hx hb hK hP 3 0 rfl rfl (by omega) (by decide) (hR.1 _ (by omega)).2.2 dX0_stepsBetween_28 ?_
  refine lv_isub hx hb dX0_stepsBetween_29 ?_
  refine va_mabs hx hb (hml.trans hl.1.symm) hown hl88 hsabs hiMath hcabs (Nat.le_trans (Nat.le_of_ble_eq_true rfl) hRf) (Nat.le_trans (Nat.le_of_ble_eq_true rfl) hRl) (Nat.zero_le _) (Nat.zero_le _) dX0_stepsBetween_30 ?_
  refine x_top (y := (nI (dd (c % n 1) (d % n 1)))) (abs_sub (by omega) (by omega)) ?_
  refine lv_istore (lv' := [(4, .int (nI (dd (c % n 1) (d % n 1)))), (3, .int (nI (dd (c / n 1) (d / n 1)))), (0, .ref (q 0)), (1, .int (nI c)), (2, .int (nI d))]) hx hb dX0_stepsBetween_33 hl (by decide) rfl (fun ls hl => ?_)
  refine lv_iload_n hx hb dX0_stepsBetween_35 rfl (lv_at hl 1 rfl) ?_
  refine lv_iload hx hb dX0_stepsBetween_36 (lv_at hl 0 rfl) ?_
  refine va_mmax hx hb (hml.trans hl.1.symm) hown hl94 hsmax hiMath hcmax (Nat.le_trans (Nat.le_of_ble_eq_true rfl) hRf) (Nat.le_trans (Nat.le_of_ble_eq_true rfl) hRl) (Nat.zero_le _) (Nat.zero_le _) dX0_stepsBetween_38 ?_
  refine x_top (y := (nI (max (dd (c / n 1) (d / n 1)) (dd (c % n 1) (d % n 1))))) (max_nI (by omega) (by omega)) ?_
  refine lv_istore (lv' := [(5, .int (nI (max (dd (c / n 1) (d / n 1)) (dd (c % n 1) (d % n 1))))), (4, .int (nI (dd (c % n 1) (d % n 1)))), (3, .int (nI (dd (c / n 1) (d / n 1)))), (0, .ref (q 0)), (1, .int (nI c)), (2, .int (nI d))]) hx hb dX0_stepsBetween_41 hl (by decide) rfl (fun ls hl => ?_)
  have L43 : ∀ (fuel : Nat) (k : Nat) (hk : k ≤ max (dd (c / n 1) (d / n 1)) (dd (c % n 1) (d % n 1))) (hno : ∀ j, k < j → j ≤ max (dd (c / n 1) (d / n 1)) (dd (c % n 1) (d % n 1)) → ¬ ((dd (c / n 1) (d / n 1)) % j = 0 ∧ (dd (c % n 1) (d % n 1)) % j = 0)) (hfu : k < fuel) (H : Heap) (locs : List Loc), va_P (dC, dI) vwCl (wG cI q n X) H → va_S Z ss.heap H locs → ∀ (ls : Array Slot), lv_has ls 6 [(0, .ref (q 0)), (3, .int (nI (dd (c / n 1) (d / n 1)))), (4, .int (nI (dd (c % n 1) (d % n 1)))), (5, .int (nI k))] → W pp l ee RR ss mm aa bb me cd H locs 0 0 QQ (F0 mm 43 ls []) := by
    intro fuel
    induction fuel with
    | zero => intro k hk hno hfu; exact absurd hfu (Nat.not_lt_zero _)
    | succ fuel ih =>
      intro k hk hno hfu H locs hP hS ls hl
      refine lv_iload hx hb dX0_stepsBetween_43 (lv_at hl 3 rfl) ?_
      refine lv_iconst (v := nI 1) hx hb dX0_stepsBetween_45 rfl ?_
      refine x_icmp_le (tgt := 73) hx hb (by omega) (by omega) dX0_stepsBetween_46 (by decide) (fun c46 => ?_) (fun c46 => ?_)
      · skip
        refine lv_iconst (v := nI 1) hx hb dX0_stepsBetween_73 rfl ?_
        exact hend _ _ _ _ _ (congrArg nI (gcd_one (by omega) hno)) hS dX0_stepsBetween_74
      · skip
        refine lv_iload_n hx hb dX0_stepsBetween_49 rfl (lv_at hl 1 rfl) ?_
        refine lv_iload hx hb dX0_stepsBetween_50 (lv_at hl 3 rfl) ?_
        refine x_irem hx hb (by omega) (by omega) (by omega) dX0_stepsBetween_52 ?_
        refine x_if_ne (tgt := 67) hx hb (mod_b (by omega)) dX0_stepsBetween_53 (by decide) (fun c53 => ?_) (fun c53 => ?_)
        · skip
          have hbad : ¬ ((dd (c / n 1) (d / n 1)) % k = 0 ∧ (dd (c % n 1) (d % n 1)) % k = 0) := fun h => c53 h.1
          refine lv_iinc (v := (nI (k - 1))) (lv' := [(5, .int (nI (k - 1))), (0, .ref (q 0)), (3, .int (nI (dd (c / n 1) (d / n 1)))), (4, .int (nI (dd (c % n 1) (d % n 1))))]) hx hb dX0_stepsBetween_67 hl (k := 3) rfl (pk_dec (by omega)) (by decide) rfl (fun ls hl => ?_)
          refine lv_goto (tgt := 43) hx hb dX0_stepsBetween_70 (by decide) ?_
          exact ih (k - 1) (by omega) (fun j h1 h2 h3 => if e : j = k then hbad (e ▸ h3) else hno j (by omega) h2 h3) (by omega) _ _ hP hS _ (lv_sub hl [1, 2, 3, 0] rfl)
        · skip
          refine lv_iload hx hb dX0_stepsBetween_56 (lv_at hl 2 rfl) ?_
          refine lv_iload hx hb dX0_stepsBetween_58 (lv_at hl 3 rfl) ?_
          refine x_irem hx hb (by omega) (by omega) (by omega) dX0_stepsBetween_60 ?_
          refine x_if_ne (tgt := 67) hx hb (mod_b (by omega)) dX0_stepsBetween_61 (by decide) (fun c61 => ?_) (fun c61 => ?_)
          · skip
            have hbad : ¬ ((dd (c / n 1) (d / n 1)) % k = 0 ∧ (dd (c % n 1) (d % n 1)) % k = 0) := fun h => c61 h.2
            refine lv_iinc (v := (nI (k - 1))) (lv' := [(5, .int (nI (k - 1))), (0, .ref (q 0)), (3, .int (nI (dd (c / n 1) (d / n 1)))), (4, .int (nI (dd (c % n 1) (d % n 1))))]) hx hb dX0_stepsBetween_67 hl (k := 3) rfl (pk_dec (by omega)) (by decide) rfl (fun ls hl => ?_)
            refine lv_goto (tgt := 43) hx hb dX0_stepsBetween_70 (by decide) ?_
            exact ih (k - 1) (by omega) (fun j h1 h2 h3 => if e : j = k then hbad (e ▸ h3) else hno j (by omega) h2 h3) (by omega) _ _ hP hS _ (lv_sub hl [1, 2, 3, 0] rfl)
          · skip
            refine lv_iload hx hb dX0_stepsBetween_64 (lv_at hl 3 rfl) ?_
            exact hend _ _ _ _ _ (congrArg nI (gcd_ret (by omega) c53 c61 hno (fun h => by omega))) hS dX0_stepsBetween_66
  exact L43 _ (max (dd (c / n 1) (d / n 1)) (dd (c % n 1) (d % n 1))) (by omega) (fun j h1 h2 => absurd h2 (by omega)) (Nat.lt_succ_self _) _ _ hP hS _ (lv_sub hl [3, 2, 1, 0] rfl)
theorem hdX0_isThere : yX0_isThere.cls = RX0 ∧ yX0_isThere.cls ≠ "java/lang/invoke/MethodHandle" ∧ yX0_isThere.cls ≠ "java/lang/invoke/VarHandle" ∧ (parseMethodDescriptor yX0_isThere.desc).map (fun d => d.parameters.length) = some 1 := by decide +kernel
theorem hdX0_stepsBetween : yX0_stepsBetween.cls = RX0 ∧ yX0_stepsBetween.cls ≠ "java/lang/invoke/MethodHandle" ∧ yX0_stepsBetween.cls ≠ "java/lang/invoke/VarHandle" ∧ (parseMethodDescriptor yX0_stepsBetween.desc).map (fun d => d.parameters.length) = some 2 := by decide +kernel
theorem hdX0_tallIn : yX0_tallIn.cls = RX0 ∧ yX0_tallIn.cls ≠ "java/lang/invoke/MethodHandle" ∧ yX0_tallIn.cls ≠ "java/lang/invoke/VarHandle" ∧ (parseMethodDescriptor yX0_tallIn.desc).map (fun d => d.parameters.length) = some 2 := by decide +kernel
set_option maxRecDepth 20000 in
theorem ggX0_inTheWay_X0_stepsBetween : GoodIn wsX0_inTheWay wsX0_stepsBetween := goodIn_r _ [7, 8, 9, 10, 11, 12, 13, 14, 15, 16, 29, 30, 31, 32, 33, 34, 35, 36, 37, 38, 39, 40, 41, 42, 43, 44, 45] (by decide +kernel) (by decide +kernel)
set_option maxRecDepth 20000 in
theorem gX0_inTheWay_X0_stepsBetween : GoodIn wsX0_inTheWay (wsV RX0 98 RX0 yX0_stepsBetween wsX0_stepsBetween) := goodIn_app (goodIn_of _ (by decide +kernel)) ggX0_inTheWay_X0_stepsBetween
set_option maxRecDepth 20000 in
theorem ggX0_inTheWay_X0_isThere : GoodIn wsX0_inTheWay wsX0_isThere := goodIn_r _ [20, 21, 29, 30, 31, 32, 33, 34, 35, 36, 37, 38, 39, 40, 41, 42, 43, 44, 45] (by decide +kernel) (by decide +kernel)
set_option maxRecDepth 20000 in
theorem gX0_inTheWay_X0_isThere : GoodIn wsX0_inTheWay (wsV RX0 101 RX0 yX0_isThere wsX0_isThere) := goodIn_app (goodIn_of _ (by decide +kernel)) ggX0_inTheWay_X0_isThere
set_option maxRecDepth 20000 in
theorem ggX0_inTheWay_X0_tallIn : GoodIn wsX0_inTheWay wsX0_tallIn := goodIn_r _ [25, 26, 27, 28, 29, 30, 31, 32, 33, 34, 35, 36, 37, 38, 39, 40, 41, 42, 43, 44, 45] (by decide +kernel) (by decide +kernel)
set_option maxRecDepth 20000 in
theorem gX0_inTheWay_X0_tallIn : GoodIn wsX0_inTheWay (wsV RX0 105 RX0 yX0_tallIn wsX0_tallIn) := goodIn_app (goodIn_of _ (by decide +kernel)) ggX0_inTheWay_X0_tallIn
set_option maxHeartbeats 4000000 in
set_option maxRecDepth 100000 in
theorem kX0_inTheWay (l : Launch) (dC : Nat → ClassId) (dI : Nat → Nat → Nat) (cI : ClassId) (q n : Nat → Nat) (A : Nat → Nat → Nat) (X : Nat → Nat → Int32) (hW : WF n A) (hR : RG n A X) (b : Nat) (c : Nat) (h : Nat) (y : Nat) (sz : Nat) (hb0 : b < n 2) (hc : c < n 0 * n 1) (hh : h ≤ 20) (hy : y ≤ 30) : Met l yX0_inTheWay wsX0_inTheWay ({ frames := 2, cells := 0, slots := 0, locals := 46 }) (roP [.ref (q 0), .int (nI b), .int (nI c), .int (nI h), .int (nI y)] sz (dC, dI) [(cI, .int)] (wG cI q n X)) (roQi (nI (sWay n A b c h y)) sz) 0 0 (va_A [] sz) := by
  refine ro_met_i (by decide) rfl (Nat.le_of_ble_eq_true rfl) ?_
  intro pp ee ss mm aa bb me cd RR QQ Z hx hb hml hown hts hRf hRl hP hK hA hS hend ls hl
  have hown : ss.vm.findClass RX0 = some mm.cls := hown
  have hRf : 2 ≤ RR.frames := hRf
  have hRl : 46 ≤ RR.locals := hRl
  have hl : lv_has ls 12 [(0, .ref (q 0)), (1, .int (nI b)), (2, .int (nI c)), (3, .int (nI h)), (4, .int (nI y))] := hl
  obtain ⟨w0, w1, w2, w3, w4, w5, w6, w7, w8, wA0, wA1, wA2⟩ := id hW
  have wC : n 0 * n 1 ≤ 42 := Nat.mul_le_mul w0 w1
  have hf := wA1 b hb0
  have hg0 : 0 < sSt n (A 1 b) c := sSt_pos _ _ _
  have hg6 : sSt n (A 1 b) c ≤ 6 := sSt_le w0 w1 hf hc
  have hf21 := hts (.fieldLink RX0 21 "StatueSquare$Ground" "benchCell" "[I") (List.mem_of_getElem? (i := 1) rfl)
  have hinX0 : ∀ w ∈ u_ws RX0 TX0 17, w ∈ wsX0_inTheWay := fun _ h => List.mem_cons_of_mem _ (List.mem_append_right _ h)
  have hf9 := hts (.fieldLink RX0 9 "StatueSquare$Ground" "has" "[I") (List.mem_of_getElem? (i := 2) rfl)
  refine lv_aload_n hx hb dX0_inTheWay_0 rfl (lv_at hl 0 rfl) ?_
  refine x_get (D := (dC, dI)) (ci := 0) (v := .ref (q 4)) (C := RX0) (T := TX0) (N := 17) hx hb hts hinX0 hown hK hP 0 rfl rfl 7 (Nat.le_of_ble_eq_true rfl) hf21 rfl rfl dX0_inTheWay_1 ?_
  refine lv_iload_n hx hb dX0_inTheWay_4 rfl (lv_at hl 1 rfl) ?_
  refine x_iald (v := (nI (A 1 b))) hx hb hK hP 4 0 rfl rfl (by omega) (by decide) (hR.2.1 _ (by omega)) dX0_inTheWay_5 ?_
  refine lv_istore (lv' := [(5, .int (nI (A 1 b))), (0, .ref (q 0)), (1, .int (nI b)), (2, .int (nI c)), (3, .int (nI h)), (4, .int (nI y))]) hx hb dX0_inTheWay_6 hl (by decide) rfl (fun ls hl => ?_)
  refine lv_aload_n hx hb dX0_inTheWay_8 rfl (lv_at hl 1 rfl) ?_
  refine lv_iload hx hb dX0_inTheWay_9 (lv_at hl 0 rfl) ?_
  refine lv_iload_n hx hb dX0_inTheWay_11 rfl (lv_at hl 3 rfl) ?_
  refine roV_i (As := [.int (nI (A 1 b)), .int (nI c)]) (rest := []) ⟨hx, hb, hml, hown, hts⟩ (kX0_stepsBetween l dC dI cI q n A X hW hR (A 1 b) c _ (by omega) (by omega)) (cwV 2 hts gX0_inTheWay_X0_stepsBetween rfl rfl rfl hdX0_stepsBetween ⟨Nat.le_trans (Nat.le_of_ble_eq_true rfl) hRf, Nat.le_trans (Nat.le_of_ble_eq_true rfl) hRl⟩) (va_recv hK hP (ci := 0) (q0 := 0) rfl rfl) hK hP rfl hl.1 rfl (Nat.le_of_ble_eq_true rfl) dX0_inTheWay_12 ⟨Nat.zero_le _, Nat.zero_le _⟩ hP hS hA (fun H locs hP hS => ?_)
  refine lv_istore (lv' := [(6, .int (nI (sSt n (A 1 b) c))), (5, .int (nI (A 1 b))), (0, .ref (q 0)), (1, .int (nI b)), (2, .int (nI c)), (3, .int (nI h)), (4, .int (nI y))]) hx hb dX0_inTheWay_15 hl (by decide) rfl (fun ls hl => ?_)
  refine lv_iload_n hx hb dX0_inTheWay_17 rfl (lv_at hl 4 rfl) ?_
  refine lv_iload hx hb dX0_inTheWay_18 (lv_at hl 1 rfl) ?_
  refine lv_isub hx hb dX0_inTheWay_20 ?_
  refine lv_iload hx hb dX0_inTheWay_21 (lv_at hl 0 rfl) ?_
  refine lv_idiv hx hb dX0_inTheWay_23 (nI_ne0 hg0 (by omega)) ?_
  refine lv_istore (lv' := [(7, .int (((nI c) - (nI (A 1 b))) / (nI (sSt n (A 1 b) c)))), (6, .int (nI (sSt n (A 1 b) c))), (5, .int (nI (A 1 b))), (0, .ref (q 0)), (1, .int (nI b)), (2, .int (nI c)), (3, .int (nI h)), (4, .int (nI y))]) hx hb dX0_inTheWay_24 hl (by decide) rfl (fun ls hl => ?_)
  refine lv_iconst (v := nI 0) hx hb dX0_inTheWay_26 rfl ?_
  refine lv_istore (lv' := [(8, .int (nI 0)), (7, .int (((nI c) - (nI (A 1 b))) / (nI (sSt n (A 1 b) c)))), (6, .int (nI (sSt n (A 1 b) c))), (5, .int (nI (A 1 b))), (0, .ref (q 0)), (1, .int (nI b)), (2, .int (nI c)), (3, .int (nI h)), (4, .int (nI y))]) hx hb dX0_inTheWay_27 hl (by decide) rfl (fun ls hl => ?_)
  refine lv_iconst (v := nI 1) hx hb dX0_inTheWay_29 rfl ?_
  refine lv_istore (lv' := [(9, .int (nI 1)), (8, .int (nI 0)), (7, .int (((nI c) - (nI (A 1 b))) / (nI (sSt n (A 1 b) c)))), (6, .int (nI (sSt n (A 1 b) c))), (5, .int (nI (A 1 b))), (0, .ref (q 0)), (1, .int (nI b)), (2, .int (nI c)), (3, .int (nI h)), (4, .int (nI y))]) hx hb dX0_inTheWay_30 hl (by decide) rfl (fun ls hl => ?_)
  have L32 : ∀ (fuel : Nat) (k : Nat) (hk : k + 1 ≤ sSt n (A 1 b) c) (hfu : sSt n (A 1 b) c - k < fuel) (H : Heap) (locs : List Loc), va_P (dC, dI) vwCl (wG cI q n X) H → va_S Z ss.heap H locs → ∀ (ls : Array Slot), lv_has ls 12 [(0, .ref (q 0)), (2, .int (nI c)), (3, .int (nI h)), (4, .int (nI y)), (5, .int (nI (A 1 b))), (6, .int (nI (sSt n (A 1 b) c))), (7, .int ((nI c - nI (A 1 b)) / nI (sSt n (A 1 b) c))), (8, .int (nI (orM (fun i => sBit n A (A 1 b) c (sSt n (A 1 b) c) h y (i + 1)) k))), (9, .int (nI (k + 1)))] → W pp l ee RR ss mm aa bb me cd H locs 0 0 QQ (F0 mm 32 ls []) := by
    intro fuel
    induction fuel with
    | zero => intro k hk hfu; exact absurd hfu (Nat.not_lt_zero _)
    | succ fuel ih =>
      intro k hk hfu H locs hP hS ls hl
      refine lv_iload hx hb dX0_inTheWay_32 (lv_at hl 8 rfl) ?_
      refine lv_iload hx hb dX0_inTheWay_34 (lv_at hl 5 rfl) ?_
      refine x_icmp_ge (tgt := 115) hx hb (by omega) (by omega) dX0_inTheWay_36 (by decide) (fun c36 => ?_) (fun c36 => ?_)
      · skip
        refine lv_iload hx hb dX0_inTheWay_115 (lv_at hl 7 rfl) ?_
        exact hend _ _ _ _ _ (congrArg nI (show orM (fun i => sBit n A (A 1 b) c (sSt n (A 1 b) c) h y (i + 1)) k = orM (fun i => sBit n A (A 1 b) c (sSt n (A 1 b) c) h y (i + 1)) (sSt n (A 1 b) c - 1) from by congr 1; omega)) hS dX0_inTheWay_117
      · skip
        have hat : sAt (A 1 b) c (sSt n (A 1 b) c) (k + 1) < n 0 * n 1 := sAt_lt hW hb0 hc (by omega)
        have ha := wA0 _ hat
        refine lv_aload_n hx hb dX0_inTheWay_39 rfl (lv_at hl 0 rfl) ?_
        refine x_get (D := (dC, dI)) (ci := 0) (v := .ref (q 1)) (C := RX0) (T := TX0) (N := 17) hx hb hts hinX0 hown hK hP 0 rfl rfl 4 (Nat.le_of_ble_eq_true rfl) hf9 rfl rfl dX0_inTheWay_40 ?_
        refine lv_iload hx hb dX0_inTheWay_43 (lv_at hl 4 rfl) ?_
        refine lv_iload hx hb dX0_inTheWay_45 (lv_at hl 8 rfl) ?_
        refine lv_iload hx hb dX0_inTheWay_47 (lv_at hl 6 rfl) ?_
        refine lv_imul hx hb dX0_inTheWay_49 ?_
        refine lv_iadd hx hb dX0_inTheWay_50 ?_
        refine x_top (y := (nI (sAt (A 1 b) c (sSt n (A 1 b) c) (k + 1)))) (at_eq (by omega) (by omega) (by omega) hg6) ?_
        refine x_iald (v := (nI (A 0 (sAt (A 1 b) c (sSt n (A 1 b) c) (k + 1))))) hx hb hK hP 1 0 rfl rfl (by omega) (by decide) (hR.1 _ hat).1 dX0_inTheWay_51 ?_
        refine lv_bipush (v := nI 10) hx hb dX0_inTheWay_52 rfl ?_
        refine lv_isub hx hb dX0_inTheWay_54 ?_
        rcases Nat.lt_or_ge (A 0 (sAt (A 1 b) c (sSt n (A 1 b) c) (k + 1))) 10 with hlt | hge
        · skip
          have hz : sBit n A (A 1 b) c (sSt n (A 1 b) c) h y (k + 1) = 0 := if_neg (fun q => by omega)
          refine lv_istore (lv' := [(10, .int ((nI (A 0 (sAt (A 1 b) c (sSt n (A 1 b) c) (k + 1)))) - (nI 10))), (0, .ref (q 0)), (2, .int (nI c)), (3, .int (nI h)), (4, .int (nI y)), (5, .int (nI (A 1 b))), (6, .int (nI (sSt n (A 1 b) c))), (7, .int ((nI c - nI (A 1 b)) / nI (sSt n (A 1 b) c))), (8, .int (nI (orM (fun i => sBit n A (A 1 b) c (sSt n (A 1 b) c) h y (i + 1)) k))), (9, .int (nI (k + 1)))]) hx hb dX0_inTheWay_55 hl (by decide) rfl (fun ls hl => ?_)
          refine lv_iload hx hb dX0_inTheWay_57 (lv_at hl 0 rfl) ?_
          refine lv_if_lt (tgt := 109) hx hb dX0_inTheWay_59 (by decide) (fun c59 => ?_) (fun c59 => ?_)
          · skip
            refine lv_iinc (v := (nI (k + 1 + 1))) (lv' := [(9, .int (nI (k + 1 + 1))), (10, .int ((nI (A 0 (sAt (A 1 b) c (sSt n (A 1 b) c) (k + 1)))) - (nI 10))), (0, .ref (q 0)), (2, .int (nI c)), (3, .int (nI h)), (4, .int (nI y)), (5, .int (nI (A 1 b))), (6, .int (nI (sSt n (A 1 b) c))), (7, .int ((nI c - nI (A 1 b)) / nI (sSt n (A 1 b) c))), (8, .int (nI (orM (fun i => sBit n A (A 1 b) c (sSt n (A 1 b) c) h y (i + 1)) k)))]) hx hb dX0_inTheWay_109 hl (k := 9) rfl (nI_add _ _) (by decide) rfl (fun ls hl => ?_)
            refine lv_goto (tgt := 32) hx hb dX0_inTheWay_112 (by decide) ?_
            exact ih (k + 1) (by omega) (by omega) _ _ hP hS _ (by rw [show orM (fun i => sBit n A (A 1 b) c (sSt n (A 1 b) c) h y (i + 1)) (k + 1) = orM (fun i => sBit n A (A 1 b) c (sSt n (A 1 b) c) h y (i + 1)) k from by rw [orM, hz, Nat.or_zero]]; exact lv_sub hl [2, 3, 4, 5, 6, 7, 8, 9, 0] rfl)
          · skip
            exact absurd (pk_sneg (by decide) hlt) c59
        · skip
          refine x_top (y := nI (A 0 (sAt (A 1 b) c (sSt n (A 1 b) c) (k + 1)) - 10)) (pk_sub hge) ?_
          have htn : A 0 (sAt (A 1 b) c (sSt n (A 1 b) c) (k + 1)) - 10 < n 3 := by omega
          refine lv_istore (lv' := [(10, .int (nI (A 0 (sAt (A 1 b) c (sSt n (A 1 b) c) (k + 1)) - 10))), (0, .ref (q 0)), (2, .int (nI c)), (3, .int (nI h)), (4, .int (nI y)), (5, .int (nI (A 1 b))), (6, .int (nI (sSt n (A 1 b) c))), (7, .int ((nI c - nI (A 1 b)) / nI (sSt n (A 1 b) c))), (8, .int (nI (orM (fun i => sBit n A (A 1 b) c (sSt n (A 1 b) c) h y (i + 1)) k))), (9, .int (nI (k + 1)))]) hx hb dX0_inTheWay_55 hl (by decide) rfl (fun ls hl => ?_)
          refine lv_iload hx hb dX0_inTheWay_57 (lv_at hl 0 rfl) ?_
          refine x_if_lt (tgt := 109) hx hb (by omega) dX0_inTheWay_59 (by decide) ?_
          refine lv_aload_n hx hb dX0_inTheWay_62 rfl (lv_at hl 1 rfl) ?_
          refine lv_iload hx hb dX0_inTheWay_63 (lv_at hl 0 rfl) ?_
          refine roV_i (As := [.int (nI (A 0 (sAt (A 1 b) c (sSt n (A 1 b) c) (k + 1)) - 10))]) (rest := []) ⟨hx, hb, hml, hown, hts⟩ (kX0_isThere l dC dI cI q n A X hW hR (A 0 (sAt (A 1 b) c (sSt n (A 1 b) c) (k + 1)) - 10) _ (by omega)) (cwV 1 hts gX0_inTheWay_X0_isThere rfl rfl rfl hdX0_isThere ⟨Nat.le_trans (Nat.le_of_ble_eq_true rfl) hRf, Nat.le_trans (Nat.le_of_ble_eq_true rfl) hRl⟩) (va_recv hK hP (ci := 0) (q0 := 0) rfl rfl) hK hP rfl hl.1 rfl (Nat.le_of_ble_eq_true rfl) dX0_inTheWay_65 ⟨Nat.zero_le _, Nat.zero_le _⟩ hP hS hA (fun H locs hP hS => ?_)
          refine x_ifb_eq (tgt := 109) hx hb dX0_inTheWay_68 (by decide) (fun c68 => ?_) (fun c68 => ?_)
          · skip
            have hz : sBit n A (A 1 b) c (sSt n (A 1 b) c) h y (k + 1) = 0 := if_neg (fun q => by rw [c68] at q; simp at q)
            refine lv_iinc (v := (nI (k + 1 + 1))) (lv' := [(9, .int (nI (k + 1 + 1))), (10, .int (nI (A 0 (sAt (A 1 b) c (sSt n (A 1 b) c) (k + 1)) - 10))), (0, .ref (q 0)), (2, .int (nI c)), (3, .int (nI h)), (4, .int (nI y)), (5, .int (nI (A 1 b))), (6, .int (nI (sSt n (A 1 b) c))), (7, .int ((nI c - nI (A 1 b)) / nI (sSt n (A 1 b) c))), (8, .int (nI (orM (fun i => sBit n A (A 1 b) c (sSt n (A 1 b) c) h y (i + 1)) k)))]) hx hb dX0_inTheWay_109 hl (k := 9) rfl (nI_add _ _) (by decide) rfl (fun ls hl => ?_)
            refine lv_goto (tgt := 32) hx hb dX0_inTheWay_112 (by decide) ?_
            exact ih (k + 1) (by omega) (by omega) _ _ hP hS _ (by rw [show orM (fun i => sBit n A (A 1 b) c (sSt n (A 1 b) c) h y (i + 1)) (k + 1) = orM (fun i => sBit n A (A 1 b) c (sSt n (A 1 b) c) h y (i + 1)) k from by rw [orM, hz, Nat.or_zero]]; exact lv_sub hl [2, 3, 4, 5, 6, 7, 8, 9, 0] rfl)
          · skip
            refine lv_iconst (v := nI 2) hx hb dX0_inTheWay_71 rfl ?_
            refine lv_iload hx hb dX0_inTheWay_72 (lv_at hl 6 rfl) ?_
            refine x_imul hx hb dX0_inTheWay_74 ?_
            refine lv_iload hx hb dX0_inTheWay_75 (lv_at hl 9 rfl) ?_
            refine lv_iload_n hx hb dX0_inTheWay_77 rfl (lv_at hl 3 rfl) ?_
            refine lv_iconst (v := nI 2) hx hb dX0_inTheWay_78 rfl ?_
            refine lv_isub hx hb dX0_inTheWay_79 ?_
            refine lv_imul hx hb dX0_inTheWay_80 ?_
            refine lv_iadd hx hb dX0_inTheWay_81 ?_
            refine lv_istore (lv' := [(11, .int ((nI (2 * (sSt n (A 1 b) c))) + ((nI (k + 1)) * ((nI h) - (nI 2))))), (10, .int (nI (A 0 (sAt (A 1 b) c (sSt n (A 1 b) c) (k + 1)) - 10))), (0, .ref (q 0)), (2, .int (nI c)), (3, .int (nI h)), (4, .int (nI y)), (5, .int (nI (A 1 b))), (6, .int (nI (sSt n (A 1 b) c))), (7, .int ((nI c - nI (A 1 b)) / nI (sSt n (A 1 b) c))), (8, .int (nI (orM (fun i => sBit n A (A 1 b) c (sSt n (A 1 b) c) h y (i + 1)) k))), (9, .int (nI (k + 1)))]) hx hb dX0_inTheWay_82 hl (by decide) rfl (fun ls hl => ?_)
            refine lv_aload_n hx hb dX0_inTheWay_84 rfl (lv_at hl 2 rfl) ?_
            refine lv_iload hx hb dX0_inTheWay_85 (lv_at hl 1 rfl) ?_
            refine lv_iload hx hb dX0_inTheWay_87 (lv_at hl 5 rfl) ?_
            refine roV_i (As := [.int (nI (A 0 (sAt (A 1 b) c (sSt n (A 1 b) c) (k + 1)) - 10)), .int (nI y)]) (rest := []) ⟨hx, hb, hml, hown, hts⟩ (kX0_tallIn l dC dI cI q n A X hW hR (A 0 (sAt (A 1 b) c (sSt n (A 1 b) c) (k + 1)) - 10) y _ (by omega) (by omega)) (cwV 2 hts gX0_inTheWay_X0_tallIn rfl rfl rfl hdX0_tallIn ⟨Nat.le_trans (Nat.le_of_ble_eq_true rfl) hRf, Nat.le_trans (Nat.le_of_ble_eq_true rfl) hRl⟩) (va_recv hK hP (ci := 0) (q0 := 0) rfl rfl) hK hP rfl hl.1 rfl (Nat.le_of_ble_eq_true rfl) dX0_inTheWay_89 ⟨Nat.zero_le _, Nat.zero_le _⟩ hP hS hA (fun H locs hP hS => ?_)
            refine lv_iload hx hb dX0_inTheWay_92 (lv_at hl 7 rfl) ?_
            refine x_imul hx hb dX0_inTheWay_94 ?_
            refine lv_iload hx hb dX0_inTheWay_95 (lv_at hl 0 rfl) ?_
            refine lv_icmp_lt (tgt := 109) hx hb dX0_inTheWay_97 (by decide) (fun c97 => ?_) (fun c97 => ?_)
            · skip
              have hlin := (line_lt (sTall_le (wA2 _ htn).2.2.2.1 hy) hg6 (by omega) hh).mp c97
              have hz : sBit n A (A 1 b) c (sSt n (A 1 b) c) h y (k + 1) = 0 := if_neg (fun q => by have := q.2.2; omega)
              refine lv_iinc (v := (nI (k + 1 + 1))) (lv' := [(9, .int (nI (k + 1 + 1))), (11, .int ((nI (2 * (sSt n (A 1 b) c))) + ((nI (k + 1)) * ((nI h) - (nI 2))))), (10, .int (nI (A 0 (sAt (A 1 b) c (sSt n (A 1 b) c) (k + 1)) - 10))), (0, .ref (q 0)), (2, .int (nI c)), (3, .int (nI h)), (4, .int (nI y)), (5, .int (nI (A 1 b))), (6, .int (nI (sSt n (A 1 b) c))), (7, .int ((nI c - nI (A 1 b)) / nI (sSt n (A 1 b) c))), (8, .int (nI (orM (fun i => sBit n A (A 1 b) c (sSt n (A 1 b) c) h y (i + 1)) k)))]) hx hb dX0_inTheWay_109 hl (k := 10) rfl (nI_add _ _) (by decide) rfl (fun ls hl => ?_)
              refine lv_goto (tgt := 32) hx hb dX0_inTheWay_112 (by decide) ?_
              exact ih (k + 1) (by omega) (by omega) _ _ hP hS _ (by rw [show orM (fun i => sBit n A (A 1 b) c (sSt n (A 1 b) c) h y (i + 1)) (k + 1) = orM (fun i => sBit n A (A 1 b) c (sSt n (A 1 b) c) h y (i + 1)) k from by rw [orM, hz, Nat.or_zero]]; exact lv_sub hl [3, 4, 5, 6, 7, 8, 9, 10, 0] rfl)
            · skip
              have hlin := mt (line_lt (sTall_le (wA2 _ htn).2.2.2.1 hy) hg6 (by omega) hh).mpr c97
              have hz : sBit n A (A 1 b) c (sSt n (A 1 b) c) h y (k + 1) = 2 ^ (A 0 (sAt (A 1 b) c (sSt n (A 1 b) c) (k + 1)) - 10) := if_pos ⟨hge, c68, by omega⟩
              refine lv_iload hx hb dX0_inTheWay_100 (lv_at hl 9 rfl) ?_
              refine lv_iconst (v := nI 1) hx hb dX0_inTheWay_102 rfl ?_
              refine lv_iload hx hb dX0_inTheWay_103 (lv_at hl 1 rfl) ?_
              refine x_shl1 hx hb (by omega) dX0_inTheWay_105 ?_
              refine x_ior hx hb dX0_inTheWay_106 ?_
              refine lv_istore (lv' := [(8, .int (nI ((orM (fun i => sBit n A (A 1 b) c (sSt n (A 1 b) c) h y (i + 1)) k) ||| (2 ^ (A 0 (sAt (A 1 b) c (sSt n (A 1 b) c) (k + 1)) - 10))))), (11, .int ((nI (2 * (sSt n (A 1 b) c))) + ((nI (k + 1)) * ((nI h) - (nI 2))))), (10, .int (nI (A 0 (sAt (A 1 b) c (sSt n (A 1 b) c) (k + 1)) - 10))), (0, .ref (q 0)), (2, .int (nI c)), (3, .int (nI h)), (4, .int (nI y)), (5, .int (nI (A 1 b))), (6, .int (nI (sSt n (A 1 b) c))), (7, .int ((nI c - nI (A 1 b)) / nI (sSt n (A 1 b) c))), (9, .int (nI (k + 1)))]) hx hb dX0_inTheWay_107 hl (by decide) rfl (fun ls hl => ?_)
              refine lv_iinc (v := (nI (k + 1 + 1))) (lv' := [(9, .int (nI (k + 1 + 1))), (8, .int (nI ((orM (fun i => sBit n A (A 1 b) c (sSt n (A 1 b) c) h y (i + 1)) k) ||| (2 ^ (A 0 (sAt (A 1 b) c (sSt n (A 1 b) c) (k + 1)) - 10))))), (11, .int ((nI (2 * (sSt n (A 1 b) c))) + ((nI (k + 1)) * ((nI h) - (nI 2))))), (10, .int (nI (A 0 (sAt (A 1 b) c (sSt n (A 1 b) c) (k + 1)) - 10))), (0, .ref (q 0)), (2, .int (nI c)), (3, .int (nI h)), (4, .int (nI y)), (5, .int (nI (A 1 b))), (6, .int (nI (sSt n (A 1 b) c))), (7, .int ((nI c - nI (A 1 b)) / nI (sSt n (A 1 b) c)))]) hx hb dX0_inTheWay_109 hl (k := 10) rfl (nI_add _ _) (by decide) rfl (fun ls hl => ?_)
              refine lv_goto (tgt := 32) hx hb dX0_inTheWay_112 (by decide) ?_
              exact ih (k + 1) (by omega) (by omega) _ _ hP hS _ (by rw [show orM (fun i => sBit n A (A 1 b) c (sSt n (A 1 b) c) h y (i + 1)) (k + 1) = ((orM (fun i => sBit n A (A 1 b) c (sSt n (A 1 b) c) h y (i + 1)) k) ||| (2 ^ (A 0 (sAt (A 1 b) c (sSt n (A 1 b) c) (k + 1)) - 10))) from by rw [orM, hz]; try rfl]; exact lv_sub hl [4, 5, 6, 7, 8, 9, 10, 1, 0] rfl)
  exact L32 _ 0 (by omega) (Nat.lt_succ_self _) _ _ hP hS _ (lv_sub hl [5, 7, 8, 9, 4, 3, 2, 1, 0] rfl)
theorem hdX0_inTheWay : yX0_inTheWay.cls = RX0 ∧ yX0_inTheWay.cls ≠ "java/lang/invoke/MethodHandle" ∧ yX0_inTheWay.cls ≠ "java/lang/invoke/VarHandle" ∧ (parseMethodDescriptor yX0_inTheWay.desc).map (fun d => d.parameters.length) = some 4 := by decide +kernel
set_option maxRecDepth 20000 in
theorem ggX0_partsSeen_X0_inTheWay : GoodIn wsX0_partsSeen wsX0_inTheWay := goodIn_r _ [8, 9, 10, 11, 12, 13, 7, 14, 15, 16, 17, 18, 19, 20, 21, 22, 23, 24, 25, 26, 27, 28, 29, 30, 31, 32, 33, 34, 35, 36, 37, 38, 39, 40, 41, 42, 43, 44, 45, 46, 47, 48, 49, 50, 51, 52] (by decide +kernel) (by decide +kernel)
set_option maxRecDepth 20000 in
theorem gX0_partsSeen_X0_inTheWay : GoodIn wsX0_partsSeen (wsV RX0 111 RX0 yX0_inTheWay wsX0_inTheWay) := goodIn_app (goodIn_of _ (by decide +kernel)) ggX0_partsSeen_X0_inTheWay
set_option maxHeartbeats 4000000 in
set_option maxRecDepth 100000 in
theorem kX0_partsSeen (l : Launch) (dC : Nat → ClassId) (dI : Nat → Nat → Nat) (cI : ClassId) (q n : Nat → Nat) (A : Nat → Nat → Nat) (X : Nat → Nat → Int32) (hW : WF n A) (hR : RG n A X) (tH : Nat) (b : Nat) (c : Nat) (sz : Nat) (hb0 : b < n 2) (hc : c < n 0 * n 1) : Met l yX0_partsSeen wsX0_partsSeen ({ frames := 3, cells := 0, slots := 0, locals := 77 }) (rsP tH [.ref (q 0), .int (nI b), .int (nI c)] sz (dC, dI) [(cI, .int)] (wG cI q n X)) (roQi (nI (sSeen n A b c)) sz) 0 0 (va_A [] sz) := by
  refine rs_met_i (by decide) rfl (Nat.le_of_ble_eq_true rfl) ?_
  intro pp ee ss mm aa bb me cd RR QQ Z hx hb hml hown hts hRf hRl hP hK hA hS hZT hend ls hl
  have hown : ss.vm.findClass RX0 = some mm.cls := hown
  have hRf : 3 ≤ RR.frames := hRf
  have hRl : 77 ≤ RR.locals := hRl
  have hl : lv_has ls 5 [(0, .ref (q 0)), (1, .int (nI b)), (2, .int (nI c))] := hl
  obtain ⟨w0, w1, w2, w3, w4, w5, w6, w7, w8, wA0, wA1, wA2⟩ := id hW
  have wC : n 0 * n 1 ≤ 42 := Nat.mul_le_mul w0 w1
  have hf78 := hts (.fieldLink RX0 78 "StatueSquare$Ground" "statueBlock" "I") (List.mem_of_getElem? (i := 1) rfl)
  have hinX0 : ∀ w ∈ u_ws RX0 TX0 17, w ∈ wsX0_partsSeen := fun _ h => List.mem_cons_of_mem _ (List.mem_append_right _ h)
  have hf108 := hts (.fieldLink RX0 108 "StatueSquare$Ground" "PART_HEIGHTS" "[I") (List.mem_of_getElem? (i := 2) rfl)
  have hf71 := hts (.fieldLink RX0 71 "StatueSquare$Ground" "yearNow" "I") (List.mem_of_getElem? (i := 3) rfl)
  refine lv_iconst (v := nI 0) hx hb dX0_partsSeen_0 rfl ?_
  refine lv_istore_n (lv' := [(3, .int (nI 0)), (0, .ref (q 0)), (1, .int (nI b)), (2, .int (nI c))]) hx hb dX0_partsSeen_1 rfl hl (by decide) rfl (fun ls hl => ?_)
  refine lv_iconst (v := nI 0) hx hb dX0_partsSeen_2 rfl ?_
  refine lv_istore (lv' := [(4, .int (nI 0)), (3, .int (nI 0)), (0, .ref (q 0)), (1, .int (nI b)), (2, .int (nI c))]) hx hb dX0_partsSeen_3 hl (by decide) rfl (fun ls hl => ?_)
  have L5 : ∀ (fuel : Nat) (k : Nat) (hk : k ≤ 4) (hfu : 4 - k < fuel) (H : Heap) (locs : List Loc), va_P (dC, dI) vwCl (wG cI q n X) H → va_S Z ss.heap H locs → ∀ (ls : Array Slot), lv_has ls 5 [(0, .ref (q 0)), (1, .int (nI b)), (2, .int (nI c)), (3, .int (nI (orB (fun p => decide (sWay n A b c (n 7 + (1 + 2 * p)) (n 4) = 0)) k))), (4, .int (nI k))] → W pp l ee RR ss mm aa bb me cd H locs 0 0 QQ (F0 mm 5 ls []) := by
    intro fuel
    induction fuel with
    | zero => intro k hk hfu; exact absurd hfu (Nat.not_lt_zero _)
    | succ fuel ih =>
      intro k hk hfu H locs hP hS ls hl
      refine lv_iload hx hb dX0_partsSeen_5 (lv_at hl 4 rfl) ?_
      refine lv_iconst (v := nI 4) hx hb dX0_partsSeen_7 rfl ?_
      refine x_icmp_ge (tgt := 48) hx hb (by omega) (by omega) dX0_partsSeen_8 (by decide) (fun c8 => ?_) (fun c8 => ?_)
      · skip
        refine lv_iload_n hx hb dX0_partsSeen_48 rfl (lv_at hl 3 rfl) ?_
        exact hend _ _ _ _ _ (congrArg nI (show orB (fun p => decide (sWay n A b c (n 7 + (1 + 2 * p)) (n 4) = 0)) k = orB (fun p => decide (sWay n A b c (n 7 + (1 + 2 * p)) (n 4) = 0)) 4 from by congr 1; omega)) hS dX0_partsSeen_49
      · skip
        refine lv_aload_n hx hb dX0_partsSeen_11 rfl (lv_at hl 0 rfl) ?_
        refine lv_iload_n hx hb dX0_partsSeen_12 rfl (lv_at hl 1 rfl) ?_
        refine lv_iload_n hx hb dX0_partsSeen_13 rfl (lv_at hl 2 rfl) ?_
        refine lv_aload_n hx hb dX0_partsSeen_14 rfl (lv_at hl 0 rfl) ?_
        refine x_get (D := (dC, dI)) (ci := 0) (v := .int (nI (n 7))) (C := RX0) (T := TX0) (N := 17) hx hb hts hinX0 hown hK hP 0 rfl rfl 16 (Nat.le_of_ble_eq_true rfl) hf78 rfl rfl dX0_partsSeen_15 ?_
        refine x_getph hx hb hZT hS hown hf108 dX0_partsSeen_18 ?_
        refine lv_iload hx hb dX0_partsSeen_21 (lv_at hl 4 rfl) ?_
        refine x_phald hx hb hZT hS (by omega) dX0_partsSeen_23 ?_
        refine x_iadd hx hb dX0_partsSeen_24 ?_
        refine lv_aload_n hx hb dX0_partsSeen_25 rfl (lv_at hl 0 rfl) ?_
        refine x_get (D := (dC, dI)) (ci := 0) (v := .int (nI (n 4))) (C := RX0) (T := TX0) (N := 17) hx hb hts hinX0 hown hK hP 0 rfl rfl 13 (Nat.le_of_ble_eq_true rfl) hf71 rfl rfl dX0_partsSeen_26 ?_
        refine roV_i (As := [.int (nI b), .int (nI c), .int (nI ((n 7) + (1 + 2 * k))), .int (nI (n 4))]) (rest := []) ⟨hx, hb, hml, hown, hts⟩ (kX0_inTheWay l dC dI cI q n A X hW hR b c ((n 7) + (1 + 2 * k)) (n 4) _ (by omega) (by omega) (by omega) (by omega)) (cwV 4 hts gX0_partsSeen_X0_inTheWay rfl rfl rfl hdX0_inTheWay ⟨Nat.le_trans (Nat.le_of_ble_eq_true rfl) hRf, Nat.le_trans (Nat.le_of_ble_eq_true rfl) hRl⟩) (va_recv hK hP (ci := 0) (q0 := 0) rfl rfl) hK hP rfl hl.1 rfl (Nat.le_of_ble_eq_true rfl) dX0_partsSeen_29 ⟨Nat.zero_le _, Nat.zero_le _⟩ hP hS hA (fun H locs hP hS => ?_)
        refine x_if_ne (tgt := 42) hx hb (Nat.lt_trans (sWay_lt hW (by omega) (by omega)) (by decide)) dX0_partsSeen_32 (by decide) (fun c32 => ?_) (fun c32 => ?_)
        · skip
          have hz : (fun p => decide (sWay n A b c (n 7 + (1 + 2 * p)) (n 4) = 0)) k = false := decide_eq_false c32
          refine lv_iinc (v := (nI (k + 1))) (lv' := [(4, .int (nI (k + 1))), (0, .ref (q 0)), (1, .int (nI b)), (2, .int (nI c)), (3, .int (nI (orB (fun p => decide (sWay n A b c (n 7 + (1 + 2 * p)) (n 4) = 0)) k)))]) hx hb dX0_partsSeen_42 hl (k := 4) rfl (nI_add _ _) (by decide) rfl (fun ls hl => ?_)
          refine lv_goto (tgt := 5) hx hb dX0_partsSeen_45 (by decide) ?_
          exact ih (k + 1) (by omega) (by omega) _ _ hP hS _ (by rw [show orB (fun p => decide (sWay n A b c (n 7 + (1 + 2 * p)) (n 4) = 0)) (k + 1) = orB (fun p => decide (sWay n A b c (n 7 + (1 + 2 * p)) (n 4) = 0)) k from (orB_f hz).symm]; exact lv_sub hl [1, 2, 3, 4, 0] rfl)
        · skip
          have hz : (fun p => decide (sWay n A b c (n 7 + (1 + 2 * p)) (n 4) = 0)) k = true := decide_eq_true c32
          refine lv_iload_n hx hb dX0_partsSeen_35 rfl (lv_at hl 3 rfl) ?_
          refine lv_iconst (v := nI 1) hx hb dX0_partsSeen_36 rfl ?_
          refine lv_iload hx hb dX0_partsSeen_37 (lv_at hl 4 rfl) ?_
          refine x_shl1 hx hb (by omega) dX0_partsSeen_39 ?_
          refine x_ior hx hb dX0_partsSeen_40 ?_
          refine lv_istore_n (lv' := [(3, .int (nI ((orB (fun p => decide (sWay n A b c (n 7 + (1 + 2 * p)) (n 4) = 0)) k) ||| (2 ^ k)))), (0, .ref (q 0)), (1, .int (nI b)), (2, .int (nI c)), (4, .int (nI k))]) hx hb dX0_partsSeen_41 rfl hl (by decide) rfl (fun ls hl => ?_)
          refine lv_iinc (v := (nI (k + 1))) (lv' := [(4, .int (nI (k + 1))), (3, .int (nI ((orB (fun p => decide (sWay n A b c (n 7 + (1 + 2 * p)) (n 4) = 0)) k) ||| (2 ^ k)))), (0, .ref (q 0)), (1, .int (nI b)), (2, .int (nI c))]) hx hb dX0_partsSeen_42 hl (k := 4) rfl (nI_add _ _) (by decide) rfl (fun ls hl => ?_)
          refine lv_goto (tgt := 5) hx hb dX0_partsSeen_45 (by decide) ?_
          exact ih (k + 1) (by omega) (by omega) _ _ hP hS _ (by rw [show orB (fun p => decide (sWay n A b c (n 7 + (1 + 2 * p)) (n 4) = 0)) (k + 1) = ((orB (fun p => decide (sWay n A b c (n 7 + (1 + 2 * p)) (n 4) = 0)) k) ||| (2 ^ k)) from (orB_t hz).symm]; exact lv_sub hl [2, 3, 4, 1, 0] rfl)
  exact L5 _ 0 (by omega) (Nat.lt_succ_self _) _ _ hP hS _ (lv_sub hl [2, 3, 4, 1, 0] rfl)
