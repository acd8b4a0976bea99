set_option maxHeartbeats 4000000 in
set_option maxRecDepth 100000 in
theorem kX0_isLaid (l : Launch) (dC : Nat → ClassId) (dI : Nat → Nat → Nat) (cI : ClassId) (q n : Nat → Nat) (A : Nat → Nat → Nat) (X : Nat → Nat → Int32) (hW : WF n A) (hR : RG n A X) (sz : Nat) : Met l yX0_isLaid wsX0_isLaid ({ frames := 0, cells := 0, slots := 0, locals := 0 }) (roP [.ref (q 0)] sz (dC, dI) [(cI, .int)] (wG cI q n X)) (roQi (bI (decide (0 < n 0 * n 1))) sz) 0 0 (va_A [] sz) := by
  refine ro_met_z (by decide) rfl (Nat.le_of_ble_eq_true rfl) ?_
  intro pp ee ss mm aa bb me cd RR QQ Z hx hb hml hown hts hRf hRl hP hK hA hS hend ls hl
  have hown : ss.vm.findClass RX0 = some mm.cls := hown
  have hRf : 0 ≤ RR.frames := hRf
  have hRl : 0 ≤ RR.locals := hRl
  have hl : lv_has ls 1 [(0, .ref (q 0))] := hl
  obtain ⟨w0, w1, w2, w3, w4, w5, w6, w7, w8, wA0, wA1, wA2⟩ := id hW
  have wC : n 0 * n 1 ≤ 42 := Nat.mul_le_mul w0 w1
  have hf46 := hts (.fieldLink RX0 46 "StatueSquare$Ground" "cellCount" "I") (List.mem_of_getElem? (i := 1) rfl)
  have hinX0 : ∀ w ∈ u_ws RX0 TX0 17, w ∈ wsX0_isLaid := fun _ h => List.mem_cons_of_mem _ (List.mem_append_right _ h)
  refine lv_aload_n hx hb dX0_isLaid_0 rfl (lv_at hl 0 rfl) ?_
  refine x_get (D := (dC, dI)) (ci := 0) (v := .int (nI (n 0 * n 1))) (C := RX0) (T := TX0) (N := 17) hx hb hts hinX0 hown hK hP 0 rfl rfl 1 (Nat.le_of_ble_eq_true rfl) hf46 rfl rfl dX0_isLaid_1 ?_
  refine x_if_le (tgt := 11) hx hb (by omega) dX0_isLaid_4 (by decide) (fun c4 => ?_) (fun c4 => ?_)
  · skip
    refine lv_iconst (v := nI 0) hx hb dX0_isLaid_11 rfl ?_
    exact hend _ _ _ _ _ (by first | exact n1_b (by simp; omega) | exact n0_b (by simp; omega)) hS dX0_isLaid_12
  · skip
    refine lv_iconst (v := nI 1) hx hb dX0_isLaid_7 rfl ?_
    refine lv_goto (tgt := 12) hx hb dX0_isLaid_8 (by decide) ?_
    exact hend _ _ _ _ _ (by first | exact n1_b (by simp; omega) | exact n0_b (by simp; omega)) hS dX0_isLaid_12
set_option maxHeartbeats 4000000 in
set_option maxRecDepth 100000 in
theorem kX0_isFree (l : Launch) (dC : Nat → ClassId) (dI : Nat → Nat → Nat) (cI : ClassId) (q n : Nat → Nat) (A : Nat → Nat → Nat) (X : Nat → Nat → Int32) (hW : WF n A) (hR : RG n A X) (c : Nat) (sz : Nat) (hc : c < n 0 * n 1) : Met l yX0_isFree wsX0_isFree ({ frames := 0, cells := 0, slots := 0, locals := 0 }) (roP [.ref (q 0), .int (nI c)] sz (dC, dI) [(cI, .int)] (wG cI q n X)) (roQi (bI (decide (A 0 c = 0))) sz) 0 0 (va_A [] sz) := by
  refine ro_met_z (by decide) rfl (Nat.le_of_ble_eq_true rfl) ?_
  intro pp ee ss mm aa bb me cd RR QQ Z hx hb hml hown hts hRf hRl hP hK hA hS hend ls hl
  have hown : ss.vm.findClass RX0 = some mm.cls := hown
  have hRf : 0 ≤ RR.frames := hRf
  have hRl : 0 ≤ RR.locals := hRl
  have hl : lv_has ls 2 [(0, .ref (q 0)), (1, .int (nI c))] := hl
  obtain ⟨w0, w1, w2, w3, w4, w5, w6, w7, w8, wA0, wA1, wA2⟩ := id hW
  have wC : n 0 * n 1 ≤ 42 := Nat.mul_le_mul w0 w1
  have hf9 := hts (.fieldLink RX0 9 "StatueSquare$Ground" "has" "[I") (List.mem_of_getElem? (i := 1) rfl)
  have hinX0 : ∀ w ∈ u_ws RX0 TX0 17, w ∈ wsX0_isFree := fun _ h => List.mem_cons_of_mem _ (List.mem_append_right _ h)
  refine lv_aload_n hx hb dX0_isFree_0 rfl (lv_at hl 0 rfl) ?_
  refine x_get (D := (dC, dI)) (ci := 0) (v := .ref (q 1)) (C := RX0) (T := TX0) (N := 17) hx hb hts hinX0 hown hK hP 0 rfl rfl 4 (Nat.le_of_ble_eq_true rfl) hf9 rfl rfl dX0_isFree_1 ?_
  refine lv_iload_n hx hb dX0_isFree_4 rfl (lv_at hl 1 rfl) ?_
  refine x_iald (v := (nI (A 0 c))) hx hb hK hP 1 0 rfl rfl (by omega) (by decide) (hR.1 _ (by omega)).1 dX0_isFree_5 ?_
  refine x_if_ne (tgt := 13) hx hb (by have := wA0 c hc; omega) dX0_isFree_6 (by decide) (fun c6 => ?_) (fun c6 => ?_)
  · skip
    refine lv_iconst (v := nI 0) hx hb dX0_isFree_13 rfl ?_
    exact hend _ _ _ _ _ (by first | exact n1_b (by simp; omega) | exact n0_b (by simp; omega)) hS dX0_isFree_14
  · skip
    refine lv_iconst (v := nI 1) hx hb dX0_isFree_9 rfl ?_
    refine lv_goto (tgt := 14) hx hb dX0_isFree_10 (by decide) ?_
    exact hend _ _ _ _ _ (by first | exact n1_b (by simp; omega) | exact n0_b (by simp; omega)) hS dX0_isFree_14
set_option maxHeartbeats 4000000 in
set_option maxRecDepth 100000 in
theorem kX0_isThere (l : Launch) (dC : Nat → ClassId) (dI : Nat → Nat → Nat) (cI : ClassId) (q n : Nat → Nat) (A : Nat → Nat → Nat) (X : Nat → Nat → Int32) (hW : WF n A) (hR : RG n A X) (t : Nat) (sz : Nat) (ht : t < n 3) : Met l yX0_isThere wsX0_isThere ({ frames := 0, cells := 0, slots := 0, locals := 0 }) (roP [.ref (q 0), .int (nI t)] sz (dC, dI) [(cI, .int)] (wG cI q n X)) (roQi (bI (sThere n t)) sz) 0 0 (va_A [] sz) := by
  refine ro_met_z (by decide) rfl (Nat.le_of_ble_eq_true rfl) ?_
  intro pp ee ss mm aa bb me cd RR QQ Z hx hb hml hown hts hRf hRl hP hK hA hS hend ls hl
  have hown : ss.vm.findClass RX0 = some mm.cls := hown
  have hRf : 0 ≤ RR.frames := hRf
  have hRl : 0 ≤ RR.locals := hRl
  have hl : lv_has ls 2 [(0, .ref (q 0)), (1, .int (nI t))] := hl
  obtain ⟨w0, w1, w2, w3, w4, w5, w6, w7, w8, wA0, wA1, wA2⟩ := id hW
  have wC : n 0 * n 1 ≤ 42 := Nat.mul_le_mul w0 w1
  have hf68 := hts (.fieldLink RX0 68 "StatueSquare$Ground" "cutThings" "I") (List.mem_of_getElem? (i := 1) rfl)
  have hinX0 : ∀ w ∈ u_ws RX0 TX0 17, w ∈ wsX0_isThere := fun _ h => List.mem_cons_of_mem _ (List.mem_append_right _ h)
  refine lv_aload_n hx hb dX0_isThere_0 rfl (lv_at hl 0 rfl) ?_
  refine x_get (D := (dC, dI)) (ci := 0) (v := .int (nI (n 8))) (C := RX0) (T := TX0) (N := 17) hx hb hts hinX0 hown hK hP 0 rfl rfl 12 (Nat.le_of_ble_eq_true rfl) hf68 rfl rfl dX0_isThere_1 ?_
  refine lv_iload_n hx hb dX0_isThere_4 rfl (lv_at hl 1 rfl) ?_
  refine x_ishr hx hb (by omega) (by omega) dX0_isThere_5 ?_
  refine lv_iconst (v := nI 1) hx hb dX0_isThere_6 rfl ?_
  refine x_iand hx hb dX0_isThere_7 ?_
  refine x_if_ne (tgt := 15) hx hb (and1_lt _) dX0_isThere_8 (by decide) (fun c8 => ?_) (fun c8 => ?_)
  · skip
    refine lv_iconst (v := nI 0) hx hb dX0_isThere_15 rfl ?_
    exact hend _ _ _ _ _ (by first | exact n1_b (by simp [sThere]; first | exact tb_0.mp c8) | exact n0_b (by simp [sThere]; exact (by have := mt tb_0.mpr c8; simpa using this))) hS dX0_isThere_16
  · skip
    refine lv_iconst (v := nI 1) hx hb dX0_isThere_11 rfl ?_
    refine lv_goto (tgt := 16) hx hb dX0_isThere_12 (by decide) ?_
    exact hend _ _ _ _ _ (by first | exact n1_b (by simp [sThere]; first | exact tb_0.mp c8) | exact n0_b (by simp [sThere]; exact (by have := mt tb_0.mpr c8; simpa using this))) hS dX0_isThere_16
set_option maxHeartbeats 4000000 in
set_option maxRecDepth 100000 in
theorem kX0_tallIn (l : Launch) (dC : Nat → ClassId) (dI : Nat → Nat → Nat) (cI : ClassId) (q n : Nat → Nat) (A : Nat → Nat → Nat) (X : Nat → Nat → Int32) (hW : WF n A) (hR : RG n A X) (t : Nat) (y : Nat) (sz : Nat) (ht : t < n 3) (hy : y ≤ 30) : Met l yX0_tallIn wsX0_tallIn ({ frames := 0, cells := 0, slots := 0, locals := 0 }) (roP [.ref (q 0), .int (nI t), .int (nI y)] sz (dC, dI) [(cI, .int)] (wG cI q n X)) (roQi (nI (sTall n A y t)) sz) 0 0 (va_A [] sz) := by
  refine ro_met_i (by decide) rfl (Nat.le_of_ble_eq_true rfl) ?_
  intro pp ee ss mm aa bb me cd RR QQ Z hx hb hml hown hts hRf hRl hP hK hA hS hend ls hl
  have hown : ss.vm.findClass RX0 = some mm.cls := hown
  have hRf : 0 ≤ RR.frames := hRf
  have hRl : 0 ≤ RR.locals := hRl
  have hl : lv_has ls 4 [(0, .ref (q 0)), (1, .int (nI t)), (2, .int (nI y))] := hl
  obtain ⟨w0, w1, w2, w3, w4, w5, w6, w7, w8, wA0, wA1, wA2⟩ := id hW
  have wC : n 0 * n 1 ≤ 42 := Nat.mul_le_mul w0 w1
  have wt := wA2 t ht
  have hf30 := hts (.fieldLink RX0 30 "StatueSquare$Ground" "tallAtFirst" "[I") (List.mem_of_getElem? (i := 1) rfl)
  have hinX0 : ∀ w ∈ u_ws RX0 TX0 17, w ∈ wsX0_tallIn := fun _ h => List.mem_cons_of_mem _ (List.mem_append_right _ h)
  have hf24 := hts (.fieldLink RX0 24 "StatueSquare$Ground" "kind" "[I") (List.mem_of_getElem? (i := 2) rfl)
  have hf74 := hts (.fieldLink RX0 74 "StatueSquare$Ground" "isWinter" "Z") (List.mem_of_getElem? (i := 3) rfl)
  refine lv_aload_n hx hb dX0_tallIn_0 rfl (lv_at hl 0 rfl) ?_
  refine x_get (D := (dC, dI)) (ci := 0) (v := .ref (q 7)) (C := RX0) (T := TX0) (N := 17) hx hb hts hinX0 hown hK hP 0 rfl rfl 10 (Nat.le_of_ble_eq_true rfl) hf30 rfl rfl dX0_tallIn_1 ?_
  refine lv_iload_n hx hb dX0_tallIn_4 rfl (lv_at hl 1 rfl) ?_
  refine x_iald (v := (nI (A 4 t))) hx hb hK hP 7 0 rfl rfl (by omega) (by decide) (hR.2.2 _ (by omega)).2.2.1 dX0_tallIn_5 ?_
  refine lv_istore_n (lv' := [(3, .int (nI (A 4 t))), (0, .ref (q 0)), (1, .int (nI t)), (2, .int (nI y))]) hx hb dX0_tallIn_6 rfl hl (by decide) rfl (fun ls hl => ?_)
  refine lv_aload_n hx hb dX0_tallIn_7 rfl (lv_at hl 1 rfl) ?_
  refine x_get (D := (dC, dI)) (ci := 0) (v := .ref (q 5)) (C := RX0) (T := TX0) (N := 17) hx hb hts hinX0 hown hK hP 0 rfl rfl 8 (Nat.le_of_ble_eq_true rfl) hf24 rfl rfl dX0_tallIn_8 ?_
  refine lv_iload_n hx hb dX0_tallIn_11 rfl (lv_at hl 2 rfl) ?_
  refine x_iald (v := (nI (A 2 t))) hx hb hK hP 5 0 rfl rfl (by omega) (by decide) (hR.2.2 _ (by omega)).1 dX0_tallIn_12 ?_
  refine x_if_eq (tgt := 26) hx hb (by omega) dX0_tallIn_13 (by decide) (fun c13 => ?_) (fun c13 => ?_)
  · skip
    refine lv_aload_n hx hb dX0_tallIn_26 rfl (lv_at hl 1 rfl) ?_
    refine x_get (D := (dC, dI)) (ci := 0) (v := .ref (q 5)) (C := RX0) (T := TX0) (N := 17) hx hb hts hinX0 hown hK hP 0 rfl rfl 8 (Nat.le_of_ble_eq_true rfl) hf24 rfl rfl dX0_tallIn_27 ?_
    refine lv_iload_n hx hb dX0_tallIn_30 rfl (lv_at hl 2 rfl) ?_
    refine x_iald (v := (nI (A 2 t))) hx hb hK hP 5 0 rfl rfl (by omega) (by decide) (hR.2.2 _ (by omega)).1 dX0_tallIn_31 ?_
    refine lv_iconst (v := nI 2) hx hb dX0_tallIn_32 rfl ?_
    refine x_icmp_ne (tgt := 53) hx hb (by omega) (by omega) dX0_tallIn_33 (by decide) (fun c33 => ?_) (fun c33 => ?_)
    · skip
      refine lv_iload_n hx hb dX0_tallIn_53 rfl (lv_at hl 0 rfl) ?_
      exact hend _ _ _ _ _ (by congr 1; simp [sTall, *]; try omega) hS dX0_tallIn_54
    · skip
      refine lv_iload_n hx hb dX0_tallIn_36 rfl (lv_at hl 0 rfl) ?_
      refine lv_iload_n hx hb dX0_tallIn_37 rfl (lv_at hl 3 rfl) ?_
      refine lv_iconst (v := nI 3) hx hb dX0_tallIn_38 rfl ?_
      refine x_idiv hx hb (by omega) (by omega) (by omega) dX0_tallIn_39 ?_
      refine x_iadd hx hb dX0_tallIn_40 ?_
      refine lv_istore_n (lv' := [(3, .int (nI ((A 4 t) + (y / 3)))), (0, .ref (q 0)), (1, .int (nI t)), (2, .int (nI y))]) hx hb dX0_tallIn_41 rfl hl (by decide) rfl (fun ls hl => ?_)
      refine lv_aload_n hx hb dX0_tallIn_42 rfl (lv_at hl 1 rfl) ?_
      refine x_get (D := (dC, dI)) (ci := 0) (v := .int (nI (n 5))) (C := RX0) (T := TX0) (N := 17) hx hb hts hinX0 hown hK hP 0 rfl rfl 14 (Nat.le_of_ble_eq_true rfl) hf74 rfl rfl dX0_tallIn_43 ?_
      refine x_if_eq (tgt := 53) hx hb (by omega) dX0_tallIn_46 (by decide) (fun c46 => ?_) (fun c46 => ?_)
      · skip
        refine lv_iload_n hx hb dX0_tallIn_53 rfl (lv_at hl 0 rfl) ?_
        exact hend _ _ _ _ _ (by congr 1; simp [sTall, *]; try omega) hS dX0_tallIn_54
      · skip
        refine lv_iload_n hx hb dX0_tallIn_49 rfl (lv_at hl 0 rfl) ?_
        refine lv_iconst (v := nI 2) hx hb dX0_tallIn_50 rfl ?_
        refine x_idiv hx hb (by omega) (by omega) (by omega) dX0_tallIn_51 ?_
        refine lv_istore_n (lv' := [(3, .int (nI (((A 4 t) + (y / 3)) / 2))), (0, .ref (q 0)), (1, .int (nI t)), (2, .int (nI y))]) hx hb dX0_tallIn_52 rfl hl (by decide) rfl (fun ls hl => ?_)
        refine lv_iload_n hx hb dX0_tallIn_53 rfl (lv_at hl 0 rfl) ?_
        exact hend _ _ _ _ _ (by congr 1; simp [sTall, *]; try omega) hS dX0_tallIn_54
  · skip
    refine lv_aload_n hx hb dX0_tallIn_16 rfl (lv_at hl 1 rfl) ?_
    refine x_get (D := (dC, dI)) (ci := 0) (v := .int (nI (n 5))) (C := RX0) (T := TX0) (N := 17) hx hb hts hinX0 hown hK hP 0 rfl rfl 14 (Nat.le_of_ble_eq_true rfl) hf74 rfl rfl dX0_tallIn_17 ?_
    refine x_if_ne (tgt := 26) hx hb (by omega) dX0_tallIn_20 (by decide) (fun c20 => ?_) (fun c20 => ?_)
    · skip
      refine lv_aload_n hx hb dX0_tallIn_26 rfl (lv_at hl 1 rfl) ?_
      refine x_get (D := (dC, dI)) (ci := 0) (v := .ref (q 5)) (C := RX0) (T := TX0) (N := 17) hx hb hts hinX0 hown hK hP 0 rfl rfl 8 (Nat.le_of_ble_eq_true rfl) hf24 rfl rfl dX0_tallIn_27 ?_
      refine lv_iload_n hx hb dX0_tallIn_30 rfl (lv_at hl 2 rfl) ?_
      refine x_iald (v := (nI (A 2 t))) hx hb hK hP 5 0 rfl rfl (by omega) (by decide) (hR.2.2 _ (by omega)).1 dX0_tallIn_31 ?_
      refine lv_iconst (v := nI 2) hx hb dX0_tallIn_32 rfl ?_
      refine x_icmp_ne (tgt := 53) hx hb (by omega) (by omega) dX0_tallIn_33 (by decide) (fun c33 => ?_) (fun c33 => ?_)
      · skip
        refine lv_iload_n hx hb dX0_tallIn_53 rfl (lv_at hl 0 rfl) ?_
        exact hend _ _ _ _ _ (by congr 1; simp [sTall, *]; try omega) hS dX0_tallIn_54
      · skip
        refine lv_iload_n hx hb dX0_tallIn_36 rfl (lv_at hl 0 rfl) ?_
        refine lv_iload_n hx hb dX0_tallIn_37 rfl (lv_at hl 3 rfl) ?_
        refine lv_iconst (v := nI 3) hx hb dX0_tallIn_38 rfl ?_
        refine x_idiv hx hb (by omega) (by omega) (by omega) dX0_tallIn_39 ?_
        refine x_iadd hx hb dX0_tallIn_40 ?_
        refine lv_istore_n (lv' := [(3, .int (nI ((A 4 t) + (y / 3)))), (0, .ref (q 0)), (1, .int (nI t)), (2, .int (nI y))]) hx hb dX0_tallIn_41 rfl hl (by decide) rfl (fun ls hl => ?_)
        refine lv_aload_n hx hb dX0_tallIn_42 rfl (lv_at hl 1 rfl) ?_
        refine x_get (D := (dC, dI)) (ci := 0) (v := .int (nI (n 5))) (C := RX0) (T := TX0) (N := 17) hx hb hts hinX0 hown hK hP 0 rfl rfl 14 (Nat.le_of_ble_eq_true rfl) hf74 rfl rfl dX0_tallIn_43 ?_
        refine x_if_eq (tgt := 53) hx hb (by omega) dX0_tallIn_46 (by decide) (fun c46 => ?_) (fun c46 => ?_)
        · skip
          refine lv_iload_n hx hb dX0_tallIn_53 rfl (lv_at hl 0 rfl) ?_
          exact hend _ _ _ _ _ (by congr 1; simp [sTall, *]; try omega) hS dX0_tallIn_54
        · skip
          refine lv_iload_n hx hb dX0_tallIn_49 rfl (lv_at hl 0 rfl) ?_
          refine lv_iconst (v := nI 2) hx hb dX0_tallIn_50 rfl ?_
          refine x_idiv hx hb (by omega) (by omega) (by omega) dX0_tallIn_51 ?_
          refine lv_istore_n (lv' := [(3, .int (nI (((A 4 t) + (y / 3)) / 2))), (0, .ref (q 0)), (1, .int (nI t)), (2, .int (nI y))]) hx hb dX0_tallIn_52 rfl hl (by decide) rfl (fun ls hl => ?_)
          refine lv_iload_n hx hb dX0_tallIn_53 rfl (lv_at hl 0 rfl) ?_
          exact hend _ _ _ _ _ (by congr 1; simp [sTall, *]; try omega) hS dX0_tallIn_54
    · skip
      refine lv_iinc (v := (nI (A 4 t + 1))) (lv' := [(3, .int (nI (A 4 t + 1))), (0, .ref (q 0)), (1, .int (nI t)), (2, .int (nI y))]) hx hb dX0_tallIn_23 hl (k := 0) rfl (nI_add _ _) (by decide) rfl (fun ls hl => ?_)
      refine lv_aload_n hx hb dX0_tallIn_26 rfl (lv_at hl 1 rfl) ?_
      refine x_get (D := (dC, dI)) (ci := 0) (v := .ref (q 5)) (C := RX0) (T := TX0) (N := 17) hx hb hts hinX0 hown hK hP 0 rfl rfl 8 (Nat.le_of_ble_eq_true rfl) hf24 rfl rfl dX0_tallIn_27 ?_
      refine lv_iload_n hx hb dX0_tallIn_30 rfl (lv_at hl 2 rfl) ?_
      refine x_iald (v := (nI (A 2 t))) hx hb hK hP 5 0 rfl rfl (by omega) (by decide) (hR.2.2 _ (by omega)).1 dX0_tallIn_31 ?_
      refine lv_iconst (v := nI 2) hx hb dX0_tallIn_32 rfl ?_
      refine x_icmp_ne (tgt := 53) hx hb (by omega) (by omega) dX0_tallIn_33 (by decide) (fun c33 => ?_) (fun c33 => ?_)
      · skip
        refine lv_iload_n hx hb dX0_tallIn_53 rfl (lv_at hl 0 rfl) ?_
        exact hend _ _ _ _ _ (by congr 1; simp [sTall, *]; try omega) hS dX0_tallIn_54
      · skip
        refine lv_iload_n hx hb dX0_tallIn_36 rfl (lv_at hl 0 rfl) ?_
        refine lv_iload_n hx hb dX0_tallIn_37 rfl (lv_at hl 3 rfl) ?_
        refine lv_iconst (v := nI 3) hx hb dX0_tallIn_38 rfl ?_
        refine x_idiv hx hb (by omega) (by omega) (by omega) dX0_tallIn_39 ?_
        refine x_iadd hx hb dX0_tallIn_40 ?_
        refine lv_istore_n (lv' := [(3, .int (nI ((A 4 t + 1) + (y / 3)))), (0, .ref (q 0)), (1, .int (nI t)), (2, .int (nI y))]) hx hb dX0_tallIn_41 rfl hl (by decide) rfl (fun ls hl => ?_)
        refine lv_aload_n hx hb dX0_tallIn_42 rfl (lv_at hl 1 rfl) ?_
        refine x_get (D := (dC, dI)) (ci := 0) (v := .int (nI (n 5))) (C := RX0) (T := TX0) (N := 17) hx hb hts hinX0 hown hK hP 0 rfl rfl 14 (Nat.le_of_ble_eq_true rfl) hf74 rfl rfl dX0_tallIn_43 ?_
        refine x_if_eq (tgt := 53) hx hb (by omega) dX0_tallIn_46 (by decide) (fun c46 => ?_) (fun c46 => ?_)
        · skip
          refine lv_iload_n hx hb dX0_tallIn_53 rfl (lv_at hl 0 rfl) ?_
          exact hend _ _ _ _ _ (by congr 1; simp [sTall, *]; try omega) hS dX0_tallIn_54
        · skip
          refine lv_iload_n hx hb dX0_tallIn_49 rfl (lv_at hl 0 rfl) ?_
          refine lv_iconst (v := nI 2) hx hb dX0_tallIn_50 rfl ?_
          refine x_idiv hx hb (by omega) (by omega) (by omega) dX0_tallIn_51 ?_
          refine lv_istore_n (lv' := [(3, .int (nI (((A 4 t + 1) + (y / 3)) / 2))), (0, .ref (q 0)), (1, .int (nI t)), (2, .int (nI y))]) hx hb dX0_tallIn_52 rfl hl (by decide) rfl (fun ls hl => ?_)
          refine lv_iload_n hx hb dX0_tallIn_53 rfl (lv_at hl 0 rfl) ?_
          exact hend _ _ _ _ _ (by congr 1; simp [sTall, *]; try omega) hS dX0_tallIn_54
