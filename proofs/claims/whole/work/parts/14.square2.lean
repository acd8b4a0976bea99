theorem hdX0_bestCell : yX0_bestCell.cls = RX0 ∧ yX0_bestCell.cls ≠ "java/lang/invoke/MethodHandle" ∧ yX0_bestCell.cls ≠ "java/lang/invoke/VarHandle" ∧ (parseMethodDescriptor yX0_bestCell.desc).map (fun d => d.parameters.length) = some 1 := by decide +kernel
theorem hdX0_isLaid : yX0_isLaid.cls = RX0 ∧ yX0_isLaid.cls ≠ "java/lang/invoke/MethodHandle" ∧ yX0_isLaid.cls ≠ "java/lang/invoke/VarHandle" ∧ (parseMethodDescriptor yX0_isLaid.desc).map (fun d => d.parameters.length) = some 0 := by decide +kernel
set_option maxRecDepth 20000 in
theorem ggX3_best_X3_isBelow : GoodIn wsX3_best wsX3_isBelow := goodIn_r _ [5] (by decide +kernel) (by decide +kernel)
set_option maxRecDepth 20000 in
theorem gX3_best_X3_isBelow : GoodIn wsX3_best (va_wsS RX3 39 yX3_isBelow wsX3_isBelow) := goodIn_app (goodIn_of _ (by decide +kernel)) ggX3_best_X3_isBelow
set_option maxRecDepth 20000 in
theorem ggX3_best_X0_isLaid : GoodIn wsX3_best wsX0_isLaid := goodIn_r _ [10, 11, 63, 64, 65, 66, 67, 68, 69, 70, 71, 72, 73, 74, 75, 76, 77, 78, 79] (by decide +kernel) (by decide +kernel)
set_option maxRecDepth 20000 in
theorem gX3_best_X0_isLaid : GoodIn wsX3_best (wsV RX3 100 RX0 yX0_isLaid wsX0_isLaid) := goodIn_app (goodIn_of _ (by decide +kernel)) ggX3_best_X0_isLaid
set_option maxRecDepth 20000 in
theorem ggX3_best_X0_bestCell : GoodIn wsX3_best wsX0_bestCell := goodIn_r _ [15, 11, 16, 17, 18, 9, 19, 20, 21, 22, 23, 24, 25, 26, 27, 28, 29, 30, 31, 32, 33, 34, 35, 36, 37, 38, 39, 40, 41, 42, 43, 44, 45, 46, 47, 48, 49, 50, 51, 52, 53, 54, 55, 56, 63, 64, 65, 66, 67, 68, 69, 70, 71, 72, 73, 74, 75, 76, 77, 78, 79] (by decide +kernel) (by decide +kernel)
set_option maxRecDepth 20000 in
theorem gX3_best_X0_bestCell : GoodIn wsX3_best (wsV RX3 146 RX0 yX0_bestCell wsX0_bestCell) := goodIn_app (goodIn_of _ (by decide +kernel)) ggX3_best_X0_bestCell
set_option maxRecDepth 20000 in
theorem ggX3_best_X0_countWhole : GoodIn wsX3_best wsX0_countWhole := goodIn_r _ [24, 25, 26, 27, 28, 29, 9, 30, 31, 20, 32, 33, 34, 35, 36, 37, 38, 39, 40, 41, 42, 43, 44, 45, 46, 47, 48, 49, 50, 51, 52, 53, 54, 55, 56, 63, 64, 65, 66, 67, 68, 69, 70, 71, 72, 73, 74, 75, 76, 77, 78, 79] (by decide +kernel) (by decide +kernel)
set_option maxRecDepth 20000 in
theorem gX3_best_X0_countWhole : GoodIn wsX3_best (wsV RX3 149 RX0 yX0_countWhole wsX0_countWhole) := goodIn_app (goodIn_of _ (by decide +kernel)) ggX3_best_X0_countWhole
set_option maxHeartbeats 4000000 in
set_option maxRecDepth 100000 in
theorem kX3_best (l : Launch) (dC : Nat → ClassId) (dI : Nat → Nat → Nat) (a r0 r1 : Nat) (tr fl : Int32) (cI : ClassId) (q n : Nat → Nat) (A : Nat → Nat → Nat) (X : Nat → Nat → Int32) (hW : WF n A) (hR : RG n A X) (bl : Int32) (w : Int32) (sz : Nat) : Met l yX3_best wsX3_best ({ frames := 5, cells := 0, slots := 0, locals := 126 }) (roP [.ref a, .int bl, .int w] sz (dC, dI) [(cI, .int)] ((a, .inr (3, [.ref r0, .ref r1, .ref (q 0), .int tr, .int fl])) :: wG cI q n X)) (roQi (uBest n A bl w) sz) 0 0 (va_A [] sz) := by
  refine ro_met_i (by decide) rfl (Nat.le_of_ble_eq_true rfl) ?_
  intro pp ee ss mm aa bb me cd RR QQ Z hx hb hml hown hts hRf hRl hP hK hA hS hend ls hl
  have hown : ss.vm.findClass RX3 = some mm.cls := hown
  have hRf : 5 ≤ RR.frames := hRf
  have hRl : 126 ≤ RR.locals := hRl
  have hl : lv_has ls 4 [(0, .ref a), (1, .int bl), (2, .int w)] := hl
  obtain ⟨w0, w1, w2, w3, w4, w5, w6, w7, w8, wA0, wA1, wA2⟩ := id hW
  have wC : n 0 * n 1 ≤ 42 := Nat.mul_le_mul w0 w1
  have hf28 := hts (.fieldLink RX3 28 "StatueSquare" "ground" "LStatueSquare$Ground;") (List.mem_of_getElem? (i := 1) rfl)
  have hinX3 : ∀ w ∈ u_ws RX3 TX3 5, w ∈ wsX3_best := fun _ h => List.mem_cons_of_mem _ (List.mem_append_left _ (List.mem_append_right _ h))
  refine lv_iload_n hx hb dX3_best_0 rfl (lv_at hl 1 rfl) ?_
  refine lv_bipush (v := nI 10) hx hb dX3_best_1 rfl ?_
  refine roS_i (As := [.int bl, .int (nI 10)]) (rest := []) ⟨hx, hb, hml, hown, hts⟩ (kX3_isBelow l dC dI bl 10 _ ) (va_cwS 2 hts gX3_best_X3_isBelow rfl rfl rfl hdX3_isBelow ⟨Nat.le_trans (Nat.le_of_ble_eq_true rfl) hRf, Nat.le_trans (Nat.le_of_ble_eq_true rfl) hRl⟩) (hK.sub [] rfl) (hP.sub [] rfl) rfl hl.1 rfl (Nat.le_of_ble_eq_true rfl) dX3_best_3 ⟨Nat.zero_le _, Nat.zero_le _⟩ hP hS hA (fun H locs hP hS => ?_)
  refine x_ifb_eq (tgt := 17) hx hb dX3_best_6 (by decide) (fun c6 => ?_) (fun c6 => ?_)
  · skip
    refine lv_bipush (v := -2) hx hb dX3_best_17 rfl ?_
    exact hend _ _ _ _ _ (by first | (simp [uBest, c6]; done) | (simp [uBest, c14]; done)) hS dX3_best_19
  · skip
    obtain ⟨j, hj, rfl⟩ := inB_t (by omega) c6
    have hxj : xn (nI j) = j := xn_nI (by omega)
    refine lv_iload_n hx hb dX3_best_9 rfl (lv_at hl 2 rfl) ?_
    refine lv_iconst (v := nI 2) hx hb dX3_best_10 rfl ?_
    refine roS_i (As := [.int w, .int (nI 2)]) (rest := []) ⟨hx, hb, hml, hown, hts⟩ (kX3_isBelow l dC dI w 2 _ ) (va_cwS 2 hts gX3_best_X3_isBelow rfl rfl rfl hdX3_isBelow ⟨Nat.le_trans (Nat.le_of_ble_eq_true rfl) hRf, Nat.le_trans (Nat.le_of_ble_eq_true rfl) hRl⟩) (hK.sub [] rfl) (hP.sub [] rfl) rfl hl.1 rfl (Nat.le_of_ble_eq_true rfl) dX3_best_11 ⟨Nat.zero_le _, Nat.zero_le _⟩ hP hS hA (fun H locs hP hS => ?_)
    refine x_ifb_ne (tgt := 20) hx hb dX3_best_14 (by decide) (fun c14 => ?_) (fun c14 => ?_)
    · skip
      refine lv_aload_n hx hb dX3_best_20 rfl (lv_at hl 0 rfl) ?_
      refine x_get (D := (dC, dI)) (ci := 3) (v := .ref (q 0)) (C := RX3) (T := TX3) (N := 5) hx hb hts hinX3 hown hK hP 0 rfl rfl 2 (Nat.le_of_ble_eq_true rfl) hf28 rfl rfl dX3_best_21 ?_
      refine roV_i (As := []) (rest := []) ⟨hx, hb, hml, hown, hts⟩ (kX0_isLaid l dC dI cI q n A X hW hR  _ ) (cwV 0 hts gX3_best_X0_isLaid rfl rfl rfl hdX0_isLaid ⟨Nat.le_trans (Nat.le_of_ble_eq_true rfl) hRf, Nat.le_trans (Nat.le_of_ble_eq_true rfl) hRl⟩) (va_recv hK hP (ci := 0) (q0 := 1) rfl rfl) hK (hP.sub [1, 2, 3, 4, 5, 6, 7, 8, 9] rfl) rfl hl.1 rfl (Nat.le_of_ble_eq_true rfl) dX3_best_24 ⟨Nat.zero_le _, Nat.zero_le _⟩ hP hS hA (fun H locs hP hS => ?_)
      refine x_ifb_ne (tgt := 33) hx hb dX3_best_27 (by decide) (fun c27 => ?_) (fun c27 => ?_)
      · skip
        have hla : 0 < n 0 * n 1 := of_decide_eq_true c27
        refine lv_aload_n hx hb dX3_best_33 rfl (lv_at hl 0 rfl) ?_
        refine x_get (D := (dC, dI)) (ci := 3) (v := .ref (q 0)) (C := RX3) (T := TX3) (N := 5) hx hb hts hinX3 hown hK hP 0 rfl rfl 2 (Nat.le_of_ble_eq_true rfl) hf28 rfl rfl dX3_best_34 ?_
        refine lv_iload_n hx hb dX3_best_37 rfl (lv_at hl 1 rfl) ?_
        refine roV_i (As := [.int (nI j)]) (rest := []) ⟨hx, hb, hml, hown, hts⟩ (kX0_bestCell l dC dI cI q n A X hW hR j _ (by omega)) (cwV 1 hts gX3_best_X0_bestCell rfl rfl rfl hdX0_bestCell ⟨Nat.le_trans (Nat.le_of_ble_eq_true rfl) hRf, Nat.le_trans (Nat.le_of_ble_eq_true rfl) hRl⟩) (va_recv hK hP (ci := 0) (q0 := 1) rfl rfl) hK (hP.sub [1, 2, 3, 4, 5, 6, 7, 8, 9] rfl) rfl hl.1 rfl (Nat.le_of_ble_eq_true rfl) dX3_best_38 ⟨Nat.zero_le _, Nat.zero_le _⟩ hP hS hA (fun H locs hP hS => ?_)
        refine lv_istore_n (lv' := [(3, .int (stI (sBest n A j (n 0 * n 1)).1)), (0, .ref a), (1, .int (nI j)), (2, .int w)]) hx hb dX3_best_41 rfl hl (by decide) rfl (fun ls hl => ?_)
        refine lv_iload_n hx hb dX3_best_42 rfl (lv_at hl 3 rfl) ?_
        refine lv_if_ne (tgt := 48) hx hb dX3_best_43 (by decide) (fun c43 => ?_) (fun c43 => ?_)
        · skip
          refine lv_iload_n hx hb dX3_best_48 rfl (lv_at hl 0 rfl) ?_
          refine lv_bipush (v := -9) hx hb dX3_best_49 rfl ?_
          refine lv_icmp_ne (tgt := 58) hx hb dX3_best_51 (by decide) (fun c51 => ?_) (fun c51 => ?_)
          · skip
            have hb1 : ¬ (sBest n A j (n 0 * n 1)).1 = 0 := fun e => c51 (by rw [e]; rfl)
            have hb2 := best_some hb1
            refine lv_aload_n hx hb dX3_best_58 rfl (lv_at hl 1 rfl) ?_
            refine x_get (D := (dC, dI)) (ci := 3) (v := .ref (q 0)) (C := RX3) (T := TX3) (N := 5) hx hb hts hinX3 hown hK hP 0 rfl rfl 2 (Nat.le_of_ble_eq_true rfl) hf28 rfl rfl dX3_best_59 ?_
            refine lv_iload_n hx hb dX3_best_62 rfl (lv_at hl 0 rfl) ?_
            refine x_top (y := nI ((sBest n A j (n 0 * n 1)).1 - 1)) (stI_pos (by omega)) ?_
            refine lv_iload_n hx hb dX3_best_63 rfl (lv_at hl 2 rfl) ?_
            refine roV_i (As := [.int (nI ((sBest n A j (n 0 * n 1)).1 - 1)), .int (nI j)]) (rest := []) ⟨hx, hb, hml, hown, hts⟩ (kX0_countWhole l dC dI cI q n A X hW hR ((sBest n A j (n 0 * n 1)).1 - 1) j _ (by omega) (by omega)) (cwV 2 hts gX3_best_X0_countWhole rfl rfl rfl hdX0_countWhole ⟨Nat.le_trans (Nat.le_of_ble_eq_true rfl) hRf, Nat.le_trans (Nat.le_of_ble_eq_true rfl) hRl⟩) (va_recv hK hP (ci := 0) (q0 := 1) rfl rfl) hK (hP.sub [1, 2, 3, 4, 5, 6, 7, 8, 9] rfl) rfl hl.1 rfl (Nat.le_of_ble_eq_true rfl) dX3_best_64 ⟨Nat.zero_le _, Nat.zero_le _⟩ hP hS hA (fun H locs hP hS => ?_)
            exact hend _ _ _ _ _ (by simp [uBest, c6, c14, hla, hxj, c43, hb2.2.2]) hS dX3_best_67
          · skip
            refine lv_iconst (v := nI 0) hx hb dX3_best_54 rfl ?_
            refine lv_goto (tgt := 67) hx hb dX3_best_55 (by decide) ?_
            exact hend _ _ _ _ _ (by simp [uBest, c6, c14, hla, hxj, c43, best_none ((stI_ne (Nat.le_trans (best_le w2 _ _).1 wC)).mp c51)]) hS dX3_best_67
        · skip
          refine lv_iload_n hx hb dX3_best_46 rfl (lv_at hl 0 rfl) ?_
          exact hend _ _ _ _ _ (by simp [uBest, inB02, c6, c14, hla, hxj, c43] <;> rfl) hS dX3_best_47
      · skip
        have hla : ¬ 0 < n 0 * n 1 := of_decide_eq_false c27
        refine lv_bipush (v := -3) hx hb dX3_best_30 rfl ?_
        exact hend _ _ _ _ _ (by simp [uBest, inB02, c6, c14, hla] <;> rfl) hS dX3_best_32
    · skip
      refine lv_bipush (v := -2) hx hb dX3_best_17 rfl ?_
      exact hend _ _ _ _ _ (by first | (simp [uBest, c6]; done) | (simp [uBest, c14]; done)) hS dX3_best_19
theorem hdX0_leastBlock : yX0_leastBlock.cls = RX0 ∧ yX0_leastBlock.cls ≠ "java/lang/invoke/MethodHandle" ∧ yX0_leastBlock.cls ≠ "java/lang/invoke/VarHandle" ∧ (parseMethodDescriptor yX0_leastBlock.desc).map (fun d => d.parameters.length) = some 1 := by decide +kernel
set_option maxRecDepth 20000 in
theorem ggX3_block_X3_isBelow : GoodIn wsX3_block wsX3_isBelow := goodIn_r _ [6] (by decide +kernel) (by decide +kernel)
set_option maxRecDepth 20000 in
theorem gX3_block_X3_isBelow : GoodIn wsX3_block (va_wsS RX3 39 yX3_isBelow wsX3_isBelow) := goodIn_app (goodIn_of _ (by decide +kernel)) ggX3_block_X3_isBelow
set_option maxRecDepth 20000 in
theorem ggX3_block_X0_isFree : GoodIn wsX3_block wsX0_isFree := goodIn_r _ [11, 12, 59, 60, 61, 62, 63, 64, 65, 66, 67, 68, 69, 70, 71, 72, 73, 74, 75] (by decide +kernel) (by decide +kernel)
set_option maxRecDepth 20000 in
theorem gX3_block_X0_isFree : GoodIn wsX3_block (wsV RX3 111 RX0 yX0_isFree wsX0_isFree) := goodIn_app (goodIn_of _ (by decide +kernel)) ggX3_block_X0_isFree
set_option maxRecDepth 20000 in
theorem ggX3_block_X0_leastBlock : GoodIn wsX3_block wsX0_leastBlock := goodIn_r _ [16, 17, 18, 19, 10, 20, 21, 22, 23, 24, 25, 26, 27, 12, 28, 29, 30, 31, 32, 33, 34, 35, 36, 37, 38, 39, 40, 41, 42, 43, 44, 45, 46, 47, 48, 49, 50, 51, 52, 59, 60, 61, 62, 63, 64, 65, 66, 67, 68, 69, 70, 71, 72, 73, 74, 75] (by decide +kernel) (by decide +kernel)
set_option maxRecDepth 20000 in
theorem gX3_block_X0_leastBlock : GoodIn wsX3_block (wsV RX3 152 RX0 yX0_leastBlock wsX0_leastBlock) := goodIn_app (goodIn_of _ (by decide +kernel)) ggX3_block_X0_leastBlock
set_option maxRecDepth 20000 in
theorem ggX3_block_X0_countWhole : GoodIn wsX3_block wsX0_countWhole := goodIn_r _ [20, 21, 22, 23, 24, 25, 10, 26, 27, 12, 28, 29, 30, 31, 32, 33, 34, 35, 36, 37, 38, 39, 40, 41, 42, 43, 44, 45, 46, 47, 48, 49, 50, 51, 52, 59, 60, 61, 62, 63, 64, 65, 66, 67, 68, 69, 70, 71, 72, 73, 74, 75] (by decide +kernel) (by decide +kernel)
set_option maxRecDepth 20000 in
theorem gX3_block_X0_countWhole : GoodIn wsX3_block (wsV RX3 149 RX0 yX0_countWhole wsX0_countWhole) := goodIn_app (goodIn_of _ (by decide +kernel)) ggX3_block_X0_countWhole
set_option maxHeartbeats 4000000 in
set_option maxRecDepth 100000 in
theorem kX3_block (l : Launch) (dC : Nat → ClassId) (dI : Nat → Nat → Nat) (a r0 r1 : Nat) (tr fl : Int32) (cI : ClassId) (q n : Nat → Nat) (A : Nat → Nat → Nat) (X : Nat → Nat → Int32) (hW : WF n A) (hR : RG n A X) (c : Int32) (w : Int32) (sz : Nat) : Met l yX3_block wsX3_block ({ frames := 5, cells := 0, slots := 0, locals := 126 }) (roP [.ref a, .int c, .int w] sz (dC, dI) [(cI, .int)] ((a, .inr (3, [.ref r0, .ref r1, .ref (q 0), .int tr, .int fl])) :: wG cI q n X)) (roQi (uBlock n A c w) sz) 0 0 (va_A [] sz) := by
  refine ro_met_i (by decide) rfl (Nat.le_of_ble_eq_true rfl) ?_
  intro pp ee ss mm aa bb me cd RR QQ Z hx hb hml hown hts hRf hRl hP hK hA hS hend ls hl
  have hown : ss.vm.findClass RX3 = some mm.cls := hown
  have hRf : 5 ≤ RR.frames := hRf
  have hRl : 126 ≤ RR.locals := hRl
  have hl : lv_has ls 4 [(0, .ref a), (1, .int c), (2, .int w)] := hl
  obtain ⟨w0, w1, w2, w3, w4, w5, w6, w7, w8, wA0, wA1, wA2⟩ := id hW
  have wC : n 0 * n 1 ≤ 42 := Nat.mul_le_mul w0 w1
  have hf28 := hts (.fieldLink RX3 28 "StatueSquare" "ground" "LStatueSquare$Ground;") (List.mem_of_getElem? (i := 1) rfl)
  have hinX3 : ∀ w ∈ u_ws RX3 TX3 5, w ∈ wsX3_block := fun _ h => List.mem_cons_of_mem _ (List.mem_append_left _ (List.mem_append_right _ h))
  have hf61 := hts (.fieldLink RX3 61 "StatueSquare$Ground" "cellCount" "I") (List.mem_of_getElem? (i := 2) rfl)
  have hinX0 : ∀ w ∈ u_ws RX0 TX0 17, w ∈ wsX3_block := fun _ h => List.mem_cons_of_mem _ (List.mem_append_right _ h)
  refine lv_iload_n hx hb dX3_block_0 rfl (lv_at hl 1 rfl) ?_
  refine lv_aload_n hx hb dX3_block_1 rfl (lv_at hl 0 rfl) ?_
  refine x_get (D := (dC, dI)) (ci := 3) (v := .ref (q 0)) (C := RX3) (T := TX3) (N := 5) hx hb hts hinX3 hown hK hP 0 rfl rfl 2 (Nat.le_of_ble_eq_true rfl) hf28 rfl rfl dX3_block_2 ?_
  refine x_get (D := (dC, dI)) (ci := 0) (v := .int (nI (n 0 * n 1))) (C := RX0) (T := TX0) (N := 17) hx hb hts hinX0 hown hK hP 1 rfl rfl 1 (Nat.le_of_ble_eq_true rfl) hf61 rfl rfl dX3_block_5 ?_
  refine roS_i (As := [.int c, .int (nI (n 0 * n 1))]) (rest := []) ⟨hx, hb, hml, hown, hts⟩ (kX3_isBelow l dC dI c (n 0 * n 1) _ ) (va_cwS 2 hts gX3_block_X3_isBelow rfl rfl rfl hdX3_isBelow ⟨Nat.le_trans (Nat.le_of_ble_eq_true rfl) hRf, Nat.le_trans (Nat.le_of_ble_eq_true rfl) hRl⟩) (hK.sub [] rfl) (hP.sub [] rfl) rfl hl.1 rfl (Nat.le_of_ble_eq_true rfl) dX3_block_8 ⟨Nat.zero_le _, Nat.zero_le _⟩ hP hS hA (fun H locs hP hS => ?_)
  refine x_ifb_ne (tgt := 16) hx hb dX3_block_11 (by decide) (fun c11 => ?_) (fun c11 => ?_)
  · skip
    obtain ⟨j, hj, rfl⟩ := inB_t (by omega) c11
    have hxj : xn (nI j) = j := xn_nI (by omega)
    refine lv_iload_n hx hb dX3_block_16 rfl (lv_at hl 2 rfl) ?_
    refine lv_iconst (v := nI 2) hx hb dX3_block_17 rfl ?_
    refine roS_i (As := [.int w, .int (nI 2)]) (rest := []) ⟨hx, hb, hml, hown, hts⟩ (kX3_isBelow l dC dI w 2 _ ) (va_cwS 2 hts gX3_block_X3_isBelow rfl rfl rfl hdX3_isBelow ⟨Nat.le_trans (Nat.le_of_ble_eq_true rfl) hRf, Nat.le_trans (Nat.le_of_ble_eq_true rfl) hRl⟩) (hK.sub [] rfl) (hP.sub [] rfl) rfl hl.1 rfl (Nat.le_of_ble_eq_true rfl) dX3_block_18 ⟨Nat.zero_le _, Nat.zero_le _⟩ hP hS hA (fun H locs hP hS => ?_)
    refine x_ifb_ne (tgt := 27) hx hb dX3_block_21 (by decide) (fun c21 => ?_) (fun c21 => ?_)
    · skip
      refine lv_aload_n hx hb dX3_block_27 rfl (lv_at hl 0 rfl) ?_
      refine x_get (D := (dC, dI)) (ci := 3) (v := .ref (q 0)) (C := RX3) (T := TX3) (N := 5) hx hb hts hinX3 hown hK hP 0 rfl rfl 2 (Nat.le_of_ble_eq_true rfl) hf28 rfl rfl dX3_block_28 ?_
      refine lv_iload_n hx hb dX3_block_31 rfl (lv_at hl 1 rfl) ?_
      refine roV_i (As := [.int (nI j)]) (rest := []) ⟨hx, hb, hml, hown, hts⟩ (kX0_isFree l dC dI cI q n A X hW hR j _ (by omega)) (cwV 1 hts gX3_block_X0_isFree rfl rfl rfl hdX0_isFree ⟨Nat.le_trans (Nat.le_of_ble_eq_true rfl) hRf, Nat.le_trans (Nat.le_of_ble_eq_true rfl) hRl⟩) (va_recv hK hP (ci := 0) (q0 := 1) rfl rfl) hK (hP.sub [1, 2, 3, 4, 5, 6, 7, 8, 9] rfl) rfl hl.1 rfl (Nat.le_of_ble_eq_true rfl) dX3_block_32 ⟨Nat.zero_le _, Nat.zero_le _⟩ hP hS hA (fun H locs hP hS => ?_)
      refine x_ifb_ne (tgt := 41) hx hb dX3_block_35 (by decide) (fun c35 => ?_) (fun c35 => ?_)
      · skip
        have hfr : A 0 j = 0 := of_decide_eq_true c35
        have hle := least_snd n A j
        refine lv_aload_n hx hb dX3_block_41 rfl (lv_at hl 0 rfl) ?_
        refine x_get (D := (dC, dI)) (ci := 3) (v := .ref (q 0)) (C := RX3) (T := TX3) (N := 5) hx hb hts hinX3 hown hK hP 0 rfl rfl 2 (Nat.le_of_ble_eq_true rfl) hf28 rfl rfl dX3_block_42 ?_
        refine lv_iload_n hx hb dX3_block_45 rfl (lv_at hl 1 rfl) ?_
        refine roV_i (As := [.int (nI j)]) (rest := []) ⟨hx, hb, hml, hown, hts⟩ (kX0_leastBlock l dC dI cI q n A X hW hR j _ (by omega)) (cwV 1 hts gX3_block_X0_leastBlock rfl rfl rfl hdX0_leastBlock ⟨Nat.le_trans (Nat.le_of_ble_eq_true rfl) hRf, Nat.le_trans (Nat.le_of_ble_eq_true rfl) hRl⟩) (va_recv hK hP (ci := 0) (q0 := 1) rfl rfl) hK (hP.sub [1, 2, 3, 4, 5, 6, 7, 8, 9] rfl) rfl hl.1 rfl (Nat.le_of_ble_eq_true rfl) dX3_block_46 ⟨Nat.zero_le _, Nat.zero_le _⟩ hP hS hA (fun H locs hP hS => ?_)
        refine lv_istore_n (lv' := [(3, .int (nI ((sLeast n A j 10).1 - 1))), (0, .ref a), (1, .int (nI j)), (2, .int w)]) hx hb dX3_block_49 rfl hl (by decide) rfl (fun ls hl => ?_)
        refine lv_iload_n hx hb dX3_block_50 rfl (lv_at hl 3 rfl) ?_
        refine lv_if_ne (tgt := 58) hx hb dX3_block_51 (by decide) (fun c51 => ?_) (fun c51 => ?_)
        · skip
          refine lv_aload_n hx hb dX3_block_58 rfl (lv_at hl 1 rfl) ?_
          refine x_get (D := (dC, dI)) (ci := 3) (v := .ref (q 0)) (C := RX3) (T := TX3) (N := 5) hx hb hts hinX3 hown hK hP 0 rfl rfl 2 (Nat.le_of_ble_eq_true rfl) hf28 rfl rfl dX3_block_59 ?_
          refine lv_iload_n hx hb dX3_block_62 rfl (lv_at hl 2 rfl) ?_
          refine lv_iload_n hx hb dX3_block_63 rfl (lv_at hl 0 rfl) ?_
          refine roV_i (As := [.int (nI j), .int (nI ((sLeast n A j 10).1 - 1))]) (rest := []) ⟨hx, hb, hml, hown, hts⟩ (kX0_countWhole l dC dI cI q n A X hW hR j ((sLeast n A j 10).1 - 1) _ (by omega) (by omega)) (cwV 2 hts gX3_block_X0_countWhole rfl rfl rfl hdX0_countWhole ⟨Nat.le_trans (Nat.le_of_ble_eq_true rfl) hRf, Nat.le_trans (Nat.le_of_ble_eq_true rfl) hRl⟩) (va_recv hK hP (ci := 0) (q0 := 1) rfl rfl) hK (hP.sub [1, 2, 3, 4, 5, 6, 7, 8, 9] rfl) rfl hl.1 rfl (Nat.le_of_ble_eq_true rfl) dX3_block_64 ⟨Nat.zero_le _, Nat.zero_le _⟩ hP hS hA (fun H locs hP hS => ?_)
          exact hend _ _ _ _ _ (by simp [uBlock, c11, c21, hxj, hfr, c51, (least_snd n A j).2.2]) hS dX3_block_67
        · skip
          refine lv_iload_n hx hb dX3_block_54 rfl (lv_at hl 0 rfl) ?_
          refine lv_goto (tgt := 67) hx hb dX3_block_55 (by decide) ?_
          exact hend _ _ _ _ _ (by simp [uBlock, inB02, c11, c21, hxj, hfr, c51] <;> rfl) hS dX3_block_67
      · skip
        have hfr : ¬ A 0 j = 0 := of_decide_eq_false c35
        refine lv_bipush (v := -3) hx hb dX3_block_38 rfl ?_
        exact hend _ _ _ _ _ (by simp [uBlock, inB02, c11, c21, hxj, hfr] <;> rfl) hS dX3_block_40
    · skip
      refine lv_bipush (v := -2) hx hb dX3_block_24 rfl ?_
      exact hend _ _ _ _ _ (by simp [uBlock, inB02, c11, c21] <;> rfl) hS dX3_block_26
  · skip
    refine lv_iconst (v := -1) hx hb dX3_block_14 rfl ?_
    exact hend _ _ _ _ _ (by simp [uBlock, inB02, c11] <;> rfl) hS dX3_block_15
theorem hdX0_allHiders : yX0_allHiders.cls = RX0 ∧ yX0_allHiders.cls ≠ "java/lang/invoke/MethodHandle" ∧ yX0_allHiders.cls ≠ "java/lang/invoke/VarHandle" ∧ (parseMethodDescriptor yX0_allHiders.desc).map (fun d => d.parameters.length) = some 0 := by decide +kernel
theorem hdX0_costOf : yX0_costOf.cls = RX0 ∧ yX0_costOf.cls ≠ "java/lang/invoke/MethodHandle" ∧ yX0_costOf.cls ≠ "java/lang/invoke/VarHandle" ∧ (parseMethodDescriptor yX0_costOf.desc).map (fun d => d.parameters.length) = some 1 := by decide +kernel
set_option maxRecDepth 20000 in
theorem ggX3_cuts_X3_isBelow : GoodIn wsX3_cuts wsX3_isBelow := goodIn_r _ [5] (by decide +kernel) (by decide +kernel)
set_option maxRecDepth 20000 in
theorem gX3_cuts_X3_isBelow : GoodIn wsX3_cuts (va_wsS RX3 39 yX3_isBelow wsX3_isBelow) := goodIn_app (goodIn_of _ (by decide +kernel)) ggX3_cuts_X3_isBelow
set_option maxRecDepth 20000 in
theorem ggX3_cuts_X0_hasStatue : GoodIn wsX3_cuts wsX0_hasStatue := goodIn_r _ [10, 11, 65, 66, 67, 68, 69, 70, 71, 72, 73, 74, 75, 76, 77, 78, 79, 80, 81] (by decide +kernel) (by decide +kernel)
set_option maxRecDepth 20000 in
theorem gX3_cuts_X0_hasStatue : GoodIn wsX3_cuts (wsV RX3 120 RX0 yX0_hasStatue wsX0_hasStatue) := goodIn_app (goodIn_of _ (by decide +kernel)) ggX3_cuts_X0_hasStatue
set_option maxRecDepth 20000 in
theorem ggX3_cuts_X0_allHiders : GoodIn wsX3_cuts wsX0_allHiders := goodIn_r _ [15, 16, 17, 18, 19, 9, 20, 11, 21, 22, 23, 24, 25, 26, 27, 28, 29, 30, 31, 32, 33, 34, 35, 36, 37, 38, 39, 40, 41, 42, 43, 44, 45, 46, 47, 48, 49, 50, 51, 52, 53, 65, 66, 67, 68, 69, 70, 71, 72, 73, 74, 75, 76, 77, 78, 79, 80, 81] (by decide +kernel) (by decide +kernel)
set_option maxRecDepth 20000 in
theorem gX3_cuts_X0_allHiders : GoodIn wsX3_cuts (wsV RX3 155 RX0 yX0_allHiders wsX0_allHiders) := goodIn_app (goodIn_of _ (by decide +kernel)) ggX3_cuts_X0_allHiders
set_option maxRecDepth 20000 in
theorem ggX3_cuts_X0_costOf : GoodIn wsX3_cuts wsX0_costOf := goodIn_r _ [57, 58, 59, 65, 66, 67, 68, 69, 70, 71, 72, 73, 74, 75, 76, 77, 78, 79, 80, 81] (by decide +kernel) (by decide +kernel)
set_option maxRecDepth 20000 in
theorem gX3_cuts_X0_costOf : GoodIn wsX3_cuts (wsV RX3 158 RX0 yX0_costOf wsX0_costOf) := goodIn_app (goodIn_of _ (by decide +kernel)) ggX3_cuts_X0_costOf
set_option maxHeartbeats 4000000 in
set_option maxRecDepth 100000 in
theorem kX3_cuts (l : Launch) (dC : Nat → ClassId) (dI : Nat → Nat → Nat) (a r0 r1 : Nat) (tr fl : Int32) (cI : ClassId) (q n : Nat → Nat) (A : Nat → Nat → Nat) (X : Nat → Nat → Int32) (hW : WF n A) (hR : RG n A X) (w : Int32) (sz : Nat) : Met l yX3_cuts wsX3_cuts ({ frames := 5, cells := 0, slots := 0, locals := 120 }) (roP [.ref a, .int w] sz (dC, dI) [(cI, .int)] ((a, .inr (3, [.ref r0, .ref r1, .ref (q 0), .int tr, .int fl])) :: wG cI q n X)) (roQi (uCuts n A w) sz) 0 0 (va_A [] sz) := by
  refine ro_met_i (by decide) rfl (Nat.le_of_ble_eq_true rfl) ?_
  intro pp ee ss mm aa bb me cd RR QQ Z hx hb hml hown hts hRf hRl hP hK hA hS hend ls hl
  have hown : ss.vm.findClass RX3 = some mm.cls := hown
  have hRf : 5 ≤ RR.frames := hRf
  have hRl : 120 ≤ RR.locals := hRl
  have hl : lv_has ls 3 [(0, .ref a), (1, .int w)] := hl
  obtain ⟨w0, w1, w2, w3, w4, w5, w6, w7, w8, wA0, wA1, wA2⟩ := id hW
  have wC : n 0 * n 1 ≤ 42 := Nat.mul_le_mul w0 w1
  have hf28 := hts (.fieldLink RX3 28 "StatueSquare" "ground" "LStatueSquare$Ground;") (List.mem_of_getElem? (i := 1) rfl)
  have hinX3 : ∀ w ∈ u_ws RX3 TX3 5, w ∈ wsX3_cuts := fun _ h => List.mem_cons_of_mem _ (List.mem_append_left _ (List.mem_append_right _ h))
  refine lv_iload_n hx hb dX3_cuts_0 rfl (lv_at hl 1 rfl) ?_
  refine lv_iconst (v := nI 2) hx hb dX3_cuts_1 rfl ?_
  refine roS_i (As := [.int w, .int (nI 2)]) (rest := []) ⟨hx, hb, hml, hown, hts⟩ (kX3_isBelow l dC dI w 2 _ ) (va_cwS 2 hts gX3_cuts_X3_isBelow rfl rfl rfl hdX3_isBelow ⟨Nat.le_trans (Nat.le_of_ble_eq_true rfl) hRf, Nat.le_trans (Nat.le_of_ble_eq_true rfl) hRl⟩) (hK.sub [] rfl) (hP.sub [] rfl) rfl hl.1 rfl (Nat.le_of_ble_eq_true rfl) dX3_cuts_2 ⟨Nat.zero_le _, Nat.zero_le _⟩ hP hS hA (fun H locs hP hS => ?_)
  refine x_ifb_ne (tgt := 11) hx hb dX3_cuts_5 (by decide) (fun c5 => ?_) (fun c5 => ?_)
  · skip
    refine lv_aload_n hx hb dX3_cuts_11 rfl (lv_at hl 0 rfl) ?_
    refine x_get (D := (dC, dI)) (ci := 3) (v := .ref (q 0)) (C := RX3) (T := TX3) (N := 5) hx hb hts hinX3 hown hK hP 0 rfl rfl 2 (Nat.le_of_ble_eq_true rfl) hf28 rfl rfl dX3_cuts_12 ?_
    refine roV_i (As := []) (rest := []) ⟨hx, hb, hml, hown, hts⟩ (kX0_hasStatue l dC dI cI q n A X hW hR  _ ) (cwV 0 hts gX3_cuts_X0_hasStatue rfl rfl rfl hdX0_hasStatue ⟨Nat.le_trans (Nat.le_of_ble_eq_true rfl) hRf, Nat.le_trans (Nat.le_of_ble_eq_true rfl) hRl⟩) (va_recv hK hP (ci := 0) (q0 := 1) rfl rfl) hK (hP.sub [1, 2, 3, 4, 5, 6, 7, 8, 9] rfl) rfl hl.1 rfl (Nat.le_of_ble_eq_true rfl) dX3_cuts_15 ⟨Nat.zero_le _, Nat.zero_le _⟩ hP hS hA (fun H locs hP hS => ?_)
    refine x_ifb_ne (tgt := 24) hx hb dX3_cuts_18 (by decide) (fun c18 => ?_) (fun c18 => ?_)
    · skip
      have hst : 0 < n 6 := of_decide_eq_true c18
      refine lv_aload_n hx hb dX3_cuts_24 rfl (lv_at hl 0 rfl) ?_
      refine x_get (D := (dC, dI)) (ci := 3) (v := .ref (q 0)) (C := RX3) (T := TX3) (N := 5) hx hb hts hinX3 hown hK hP 0 rfl rfl 2 (Nat.le_of_ble_eq_true rfl) hf28 rfl rfl dX3_cuts_25 ?_
      refine roV_i (As := []) (rest := []) ⟨hx, hb, hml, hown, hts⟩ (kX0_allHiders l dC dI cI q n A X hW hR  _ (by omega)) (cwV 0 hts gX3_cuts_X0_allHiders rfl rfl rfl hdX0_allHiders ⟨Nat.le_trans (Nat.le_of_ble_eq_true rfl) hRf, Nat.le_trans (Nat.le_of_ble_eq_true rfl) hRl⟩) (va_recv hK hP (ci := 0) (q0 := 1) rfl rfl) hK (hP.sub [1, 2, 3, 4, 5, 6, 7, 8, 9] rfl) rfl hl.1 rfl (Nat.le_of_ble_eq_true rfl) dX3_cuts_28 ⟨Nat.zero_le _, Nat.zero_le _⟩ hP hS hA (fun H locs hP hS => ?_)
      refine lv_istore_n (lv' := [(2, .int (nI (sHid n A))), (0, .ref a), (1, .int w)]) hx hb dX3_cuts_31 rfl hl (by decide) rfl (fun ls hl => ?_)
      refine lv_iload_n hx hb dX3_cuts_32 rfl (lv_at hl 2 rfl) ?_
      refine lv_if_ne (tgt := 40) hx hb dX3_cuts_33 (by decide) (fun c33 => ?_) (fun c33 => ?_)
      · skip
        refine lv_aload_n hx hb dX3_cuts_40 rfl (lv_at hl 1 rfl) ?_
        refine x_get (D := (dC, dI)) (ci := 3) (v := .ref (q 0)) (C := RX3) (T := TX3) (N := 5) hx hb hts hinX3 hown hK hP 0 rfl rfl 2 (Nat.le_of_ble_eq_true rfl) hf28 rfl rfl dX3_cuts_41 ?_
        refine lv_iload_n hx hb dX3_cuts_44 rfl (lv_at hl 0 rfl) ?_
        refine roV_i (As := [.int (nI (sHid n A))]) (rest := []) ⟨hx, hb, hml, hown, hts⟩ (kX0_costOf l dC dI cI q n A X hW hR (sHid n A) _ (orM_lt (e := 10) (fun b hb => sWay_lt hW hb (by omega)))) (cwV 1 hts gX3_cuts_X0_costOf rfl rfl rfl hdX0_costOf ⟨Nat.le_trans (Nat.le_of_ble_eq_true rfl) hRf, Nat.le_trans (Nat.le_of_ble_eq_true rfl) hRl⟩) (va_recv hK hP (ci := 0) (q0 := 1) rfl rfl) hK (hP.sub [1, 2, 3, 4, 5, 6, 7, 8, 9] rfl) rfl hl.1 rfl (Nat.le_of_ble_eq_true rfl) dX3_cuts_45 ⟨Nat.zero_le _, Nat.zero_le _⟩ hP hS hA (fun H locs hP hS => ?_)
        exact hend _ _ _ _ _ (by simp [uCuts, inB02, c5, hst, c33] <;> rfl) hS dX3_cuts_48
      · skip
        refine lv_iload_n hx hb dX3_cuts_36 rfl (lv_at hl 0 rfl) ?_
        refine lv_goto (tgt := 48) hx hb dX3_cuts_37 (by decide) ?_
        exact hend _ _ _ _ _ (by simp [uCuts, inB02, c5, hst, c33] <;> rfl) hS dX3_cuts_48
    · skip
      have hst : ¬ 0 < n 6 := of_decide_eq_false c18
      refine lv_bipush (v := -3) hx hb dX3_cuts_21 rfl ?_
      exact hend _ _ _ _ _ (by simp [uCuts, inB02, c5, hst] <;> rfl) hS dX3_cuts_23
  · skip
    refine lv_bipush (v := -2) hx hb dX3_cuts_8 rfl ?_
    exact hend _ _ _ _ _ (by simp [uCuts, inB02, c5] <;> rfl) hS dX3_cuts_10
set_option maxRecDepth 20000 in
theorem ggX3_complaints_X0_hasStatue : GoodIn wsX3_complaints wsX0_hasStatue := goodIn_r _ [7, 8, 51, 52, 53, 54, 55, 56, 57, 58, 59, 60, 61, 62, 63, 64, 65, 66, 67] (by decide +kernel) (by decide +kernel)
set_option maxRecDepth 20000 in
theorem gX3_complaints_X0_hasStatue : GoodIn wsX3_complaints (wsV RX3 120 RX0 yX0_hasStatue wsX0_hasStatue) := goodIn_app (goodIn_of _ (by decide +kernel)) ggX3_complaints_X0_hasStatue
set_option maxRecDepth 20000 in
theorem ggX3_complaints_X0_complainers : GoodIn wsX3_complaints wsX0_complainers := goodIn_r _ [12, 13, 8, 14, 15, 16, 17, 6, 18, 19, 20, 21, 22, 23, 24, 25, 26, 27, 28, 29, 30, 31, 32, 33, 34, 35, 36, 37, 38, 39, 40, 41, 42, 43, 44, 45, 51, 52, 53, 54, 55, 56, 57, 58, 59, 60, 61, 62, 63, 64, 65, 66, 67] (by decide +kernel) (by decide +kernel)
set_option maxRecDepth 20000 in
theorem gX3_complaints_X0_complainers : GoodIn wsX3_complaints (wsV RX3 161 RX0 yX0_complainers wsX0_complainers) := goodIn_app (goodIn_of _ (by decide +kernel)) ggX3_complaints_X0_complainers
set_option maxHeartbeats 4000000 in
set_option maxRecDepth 100000 in
theorem kX3_complaints (l : Launch) (dC : Nat → ClassId) (dI : Nat → Nat → Nat) (a r0 r1 : Nat) (tr fl : Int32) (cI : ClassId) (q n : Nat → Nat) (A : Nat → Nat → Nat) (X : Nat → Nat → Int32) (hW : WF n A) (hR : RG n A X) (sz : Nat) : Met l yX3_complaints wsX3_complaints ({ frames := 4, cells := 0, slots := 0, locals := 101 }) (roP [.ref a] sz (dC, dI) [(cI, .int)] ((a, .inr (3, [.ref r0, .ref r1, .ref (q 0), .int tr, .int fl])) :: wG cI q n X)) (roQi (uComplaints n A) sz) 0 0 (va_A [] sz) := by
  refine ro_met_i (by decide) rfl (Nat.le_of_ble_eq_true rfl) ?_
  intro pp ee ss mm aa bb me cd RR QQ Z hx hb hml hown hts hRf hRl hP hK hA hS hend ls hl
  have hown : ss.vm.findClass RX3 = some mm.cls := hown
  have hRf : 4 ≤ RR.frames := hRf
  have hRl : 101 ≤ RR.locals := hRl
  have hl : lv_has ls 1 [(0, .ref a)] := hl
  obtain ⟨w0, w1, w2, w3, w4, w5, w6, w7, w8, wA0, wA1, wA2⟩ := id hW
  have wC : n 0 * n 1 ≤ 42 := Nat.mul_le_mul w0 w1
  have hf28 := hts (.fieldLink RX3 28 "StatueSquare" "ground" "LStatueSquare$Ground;") (List.mem_of_getElem? (i := 1) rfl)
  have hinX3 : ∀ w ∈ u_ws RX3 TX3 5, w ∈ wsX3_complaints := fun _ h => List.mem_cons_of_mem _ (List.mem_append_left _ (List.mem_append_right _ h))
  have hf80 := hts (.fieldLink RX3 80 "StatueSquare$Ground" "yearNow" "I") (List.mem_of_getElem? (i := 2) rfl)
  have hinX0 : ∀ w ∈ u_ws RX0 TX0 17, w ∈ wsX3_complaints := fun _ h => List.mem_cons_of_mem _ (List.mem_append_right _ h)
  refine lv_aload_n hx hb dX3_complaints_0 rfl (lv_at hl 0 rfl) ?_
  refine x_get (D := (dC, dI)) (ci := 3) (v := .ref (q 0)) (C := RX3) (T := TX3) (N := 5) hx hb hts hinX3 hown hK hP 0 rfl rfl 2 (Nat.le_of_ble_eq_true rfl) hf28 rfl rfl dX3_complaints_1 ?_
  refine roV_i (As := []) (rest := []) ⟨hx, hb, hml, hown, hts⟩ (kX0_hasStatue l dC dI cI q n A X hW hR  _ ) (cwV 0 hts gX3_complaints_X0_hasStatue rfl rfl rfl hdX0_hasStatue ⟨Nat.le_trans (Nat.le_of_ble_eq_true rfl) hRf, Nat.le_trans (Nat.le_of_ble_eq_true rfl) hRl⟩) (va_recv hK hP (ci := 0) (q0 := 1) rfl rfl) hK (hP.sub [1, 2, 3, 4, 5, 6, 7, 8, 9] rfl) rfl hl.1 rfl (Nat.le_of_ble_eq_true rfl) dX3_complaints_4 ⟨Nat.zero_le _, Nat.zero_le _⟩ hP hS hA (fun H locs hP hS => ?_)
  refine x_ifb_eq (tgt := 28) hx hb dX3_complaints_7 (by decide) (fun c7 => ?_) (fun c7 => ?_)
  · skip
    have hst : ¬ 0 < n 6 := of_decide_eq_false c7
    refine lv_bipush (v := -3) hx hb dX3_complaints_28 rfl ?_
    exact hend _ _ _ _ _ (by simp [uComplaints, inB02, hst] <;> rfl) hS dX3_complaints_30
  · skip
    have hst : 0 < n 6 := of_decide_eq_true c7
    refine lv_aload_n hx hb dX3_complaints_10 rfl (lv_at hl 0 rfl) ?_
    refine x_get (D := (dC, dI)) (ci := 3) (v := .ref (q 0)) (C := RX3) (T := TX3) (N := 5) hx hb hts hinX3 hown hK hP 0 rfl rfl 2 (Nat.le_of_ble_eq_true rfl) hf28 rfl rfl dX3_complaints_11 ?_
    refine lv_iconst (v := nI 0) hx hb dX3_complaints_14 rfl ?_
    refine lv_aload_n hx hb dX3_complaints_15 rfl (lv_at hl 0 rfl) ?_
    refine x_get (D := (dC, dI)) (ci := 3) (v := .ref (q 0)) (C := RX3) (T := TX3) (N := 5) hx hb hts hinX3 hown hK hP 0 rfl rfl 2 (Nat.le_of_ble_eq_true rfl) hf28 rfl rfl dX3_complaints_16 ?_
    refine x_get (D := (dC, dI)) (ci := 0) (v := .int (nI (n 4))) (C := RX0) (T := TX0) (N := 17) hx hb hts hinX0 hown hK hP 1 rfl rfl 13 (Nat.le_of_ble_eq_true rfl) hf80 rfl rfl dX3_complaints_19 ?_
    refine roV_i (As := [.int (nI 0), .int (nI (n 4))]) (rest := []) ⟨hx, hb, hml, hown, hts⟩ (kX0_complainers l dC dI cI q n A X hW hR 0 (n 4) _ (by omega) (by omega)) (cwV 2 hts gX3_complaints_X0_complainers rfl rfl rfl hdX0_complainers ⟨Nat.le_trans (Nat.le_of_ble_eq_true rfl) hRf, Nat.le_trans (Nat.le_of_ble_eq_true rfl) hRl⟩) (va_recv hK hP (ci := 0) (q0 := 1) rfl rfl) hK (hP.sub [1, 2, 3, 4, 5, 6, 7, 8, 9] rfl) rfl hl.1 rfl (Nat.le_of_ble_eq_true rfl) dX3_complaints_22 ⟨Nat.zero_le _, Nat.zero_le _⟩ hP hS hA (fun H locs hP hS => ?_)
    refine lv_goto (tgt := 30) hx hb dX3_complaints_25 (by decide) ?_
    exact hend _ _ _ _ _ (by simp [uComplaints, inB02, hst] <;> rfl) hS dX3_complaints_30
theorem hdX0_thingsThatLeave : yX0_thingsThatLeave.cls = RX0 ∧ yX0_thingsThatLeave.cls ≠ "java/lang/invoke/MethodHandle" ∧ yX0_thingsThatLeave.cls ≠ "java/lang/invoke/VarHandle" ∧ (parseMethodDescriptor yX0_thingsThatLeave.desc).map (fun d => d.parameters.length) = some 1 := by decide +kernel
set_option maxRecDepth 20000 in
theorem ggX3_moved_X0_hasStatue : GoodIn wsX3_moved wsX0_hasStatue := goodIn_r _ [7, 8, 57, 58, 59, 60, 61, 62, 63, 64, 65, 66, 67, 68, 69, 70, 71, 72, 73] (by decide +kernel) (by decide +kernel)
set_option maxRecDepth 20000 in
theorem gX3_moved_X0_hasStatue : GoodIn wsX3_moved (wsV RX3 120 RX0 yX0_hasStatue wsX0_hasStatue) := goodIn_app (goodIn_of _ (by decide +kernel)) ggX3_moved_X0_hasStatue
set_option maxRecDepth 20000 in
theorem ggX3_moved_X0_thingsThatLeave : GoodIn wsX3_moved wsX0_thingsThatLeave := goodIn_r _ [12, 13, 14, 15, 16, 17, 6, 18, 19, 20, 21, 22, 23, 24, 8, 25, 26, 27, 28, 29, 30, 31, 32, 33, 34, 35, 36, 37, 38, 39, 40, 41, 42, 43, 44, 45, 46, 47, 48, 49, 50, 51, 57, 58, 59, 60, 61, 62, 63, 64, 65, 66, 67, 68, 69, 70, 71, 72, 73] (by decide +kernel) (by decide +kernel)
set_option maxRecDepth 20000 in
theorem gX3_moved_X0_thingsThatLeave : GoodIn wsX3_moved (wsV RX3 164 RX0 yX0_thingsThatLeave wsX0_thingsThatLeave) := goodIn_app (goodIn_of _ (by decide +kernel)) ggX3_moved_X0_thingsThatLeave
set_option maxHeartbeats 4000000 in
set_option maxRecDepth 100000 in
theorem kX3_moved (l : Launch) (dC : Nat → ClassId) (dI : Nat → Nat → Nat) (a r0 r1 : Nat) (tr fl : Int32) (cI : ClassId) (q n : Nat → Nat) (A : Nat → Nat → Nat) (X : Nat → Nat → Int32) (hW : WF n A) (hR : RG n A X) (x : Int32) (sz : Nat) : Met l yX3_moved wsX3_moved ({ frames := 5, cells := 0, slots := 0, locals := 124 }) (roP [.ref a, .int x] sz (dC, dI) [(cI, .int)] ((a, .inr (3, [.ref r0, .ref r1, .ref (q 0), .int tr, .int fl])) :: wG cI q n X)) (roQi (uMoved n A x) sz) 0 0 (va_A [] sz) := by
  refine ro_met_i (by decide) rfl (Nat.le_of_ble_eq_true rfl) ?_
  intro pp ee ss mm aa bb me cd RR QQ Z hx hb hml hown hts hRf hRl hP hK hA hS hend ls hl
  have hown : ss.vm.findClass RX3 = some mm.cls := hown
  have hRf : 5 ≤ RR.frames := hRf
  have hRl : 124 ≤ RR.locals := hRl
  have hl : lv_has ls 2 [(0, .ref a), (1, .int x)] := hl
  obtain ⟨w0, w1, w2, w3, w4, w5, w6, w7, w8, wA0, wA1, wA2⟩ := id hW
  have wC : n 0 * n 1 ≤ 42 := Nat.mul_le_mul w0 w1
  have hp2 : 2 ^ n 2 ≤ 2 ^ 12 := Nat.pow_le_pow_right (by decide) w2
  have hf28 := hts (.fieldLink RX3 28 "StatueSquare" "ground" "LStatueSquare$Ground;") (List.mem_of_getElem? (i := 1) rfl)
  have hinX3 : ∀ w ∈ u_ws RX3 TX3 5, w ∈ wsX3_moved := fun _ h => List.mem_cons_of_mem _ (List.mem_append_left _ (List.mem_append_right _ h))
  have hf94 := hts (.fieldLink RX3 94 "StatueSquare$Ground" "benchCount" "I") (List.mem_of_getElem? (i := 2) rfl)
  have hinX0 : ∀ w ∈ u_ws RX0 TX0 17, w ∈ wsX3_moved := fun _ h => List.mem_cons_of_mem _ (List.mem_append_right _ h)
  refine lv_iload_n hx hb dX3_moved_0 rfl (lv_at hl 1 rfl) ?_
  refine lv_aload_n hx hb dX3_moved_1 rfl (lv_at hl 0 rfl) ?_
  refine x_get (D := (dC, dI)) (ci := 3) (v := .ref (q 0)) (C := RX3) (T := TX3) (N := 5) hx hb hts hinX3 hown hK hP 0 rfl rfl 2 (Nat.le_of_ble_eq_true rfl) hf28 rfl rfl dX3_moved_2 ?_
  refine x_get (D := (dC, dI)) (ci := 0) (v := .int (nI (n 2))) (C := RX0) (T := TX0) (N := 17) hx hb hts hinX0 hown hK hP 1 rfl rfl 2 (Nat.le_of_ble_eq_true rfl) hf94 rfl rfl dX3_moved_5 ?_
  refine lv_iushr hx hb dX3_moved_8 rfl ?_
  refine lv_if_eq (tgt := 15) hx hb dX3_moved_9 (by decide) (fun c9 => ?_) (fun c9 => ?_)
  · skip
    obtain ⟨j, hj, rfl⟩ := inB_t (by omega) ((ush_0 w2).mp c9)
    have hxj : xn (nI j) = j := xn_nI (by omega)
    refine lv_aload_n hx hb dX3_moved_15 rfl (lv_at hl 0 rfl) ?_
    refine x_get (D := (dC, dI)) (ci := 3) (v := .ref (q 0)) (C := RX3) (T := TX3) (N := 5) hx hb hts hinX3 hown hK hP 0 rfl rfl 2 (Nat.le_of_ble_eq_true rfl) hf28 rfl rfl dX3_moved_16 ?_
    refine roV_i (As := []) (rest := []) ⟨hx, hb, hml, hown, hts⟩ (kX0_hasStatue l dC dI cI q n A X hW hR  _ ) (cwV 0 hts gX3_moved_X0_hasStatue rfl rfl rfl hdX0_hasStatue ⟨Nat.le_trans (Nat.le_of_ble_eq_true rfl) hRf, Nat.le_trans (Nat.le_of_ble_eq_true rfl) hRl⟩) (va_recv hK hP (ci := 0) (q0 := 1) rfl rfl) hK (hP.sub [1, 2, 3, 4, 5, 6, 7, 8, 9] rfl) rfl hl.1 rfl (Nat.le_of_ble_eq_true rfl) dX3_moved_19 ⟨Nat.zero_le _, Nat.zero_le _⟩ hP hS hA (fun H locs hP hS => ?_)
    refine x_ifb_eq (tgt := 36) hx hb dX3_moved_22 (by decide) (fun c22 => ?_) (fun c22 => ?_)
    · skip
      have hst : ¬ 0 < n 6 := of_decide_eq_false c22
      refine lv_bipush (v := -3) hx hb dX3_moved_36 rfl ?_
      exact hend _ _ _ _ _ (by rw [uMoved, if_pos (inB_nI (by omega) hj), if_neg hst]) hS dX3_moved_38
    · skip
      have hst : 0 < n 6 := of_decide_eq_true c22
      refine lv_aload_n hx hb dX3_moved_25 rfl (lv_at hl 0 rfl) ?_
      refine x_get (D := (dC, dI)) (ci := 3) (v := .ref (q 0)) (C := RX3) (T := TX3) (N := 5) hx hb hts hinX3 hown hK hP 0 rfl rfl 2 (Nat.le_of_ble_eq_true rfl) hf28 rfl rfl dX3_moved_26 ?_
      refine lv_iload_n hx hb dX3_moved_29 rfl (lv_at hl 1 rfl) ?_
      refine roV_i (As := [.int (nI j)]) (rest := []) ⟨hx, hb, hml, hown, hts⟩ (kX0_thingsThatLeave l dC dI cI q n A X hW hR j _ (by omega) (by omega)) (cwV 1 hts gX3_moved_X0_thingsThatLeave rfl rfl rfl hdX0_thingsThatLeave ⟨Nat.le_trans (Nat.le_of_ble_eq_true rfl) hRf, Nat.le_trans (Nat.le_of_ble_eq_true rfl) hRl⟩) (va_recv hK hP (ci := 0) (q0 := 1) rfl rfl) hK (hP.sub [1, 2, 3, 4, 5, 6, 7, 8, 9] rfl) rfl hl.1 rfl (Nat.le_of_ble_eq_true rfl) dX3_moved_30 ⟨Nat.zero_le _, Nat.zero_le _⟩ hP hS hA (fun H locs hP hS => ?_)
      refine lv_goto (tgt := 38) hx hb dX3_moved_33 (by decide) ?_
      exact hend _ _ _ _ _ (by rw [uMoved, if_pos (inB_nI (by omega) hj), if_pos hst, hxj]) hS dX3_moved_38
  · skip
    have hno := mt (ush_0 w2).mpr c9
    refine lv_bipush (v := -2) hx hb dX3_moved_12 rfl ?_
    exact hend _ _ _ _ _ (by simp [uMoved, inB02, hno] <;> rfl) hS dX3_moved_14
theorem hdX0_firstYearOfComplaint : yX0_firstYearOfComplaint.cls = RX0 ∧ yX0_firstYearOfComplaint.cls ≠ "java/lang/invoke/MethodHandle" ∧ yX0_firstYearOfComplaint.cls ≠ "java/lang/invoke/VarHandle" ∧ (parseMethodDescriptor yX0_firstYearOfComplaint.desc).map (fun d => d.parameters.length) = some 0 := by decide +kernel
set_option maxRecDepth 20000 in
theorem ggX3_years_X0_hasStatue : GoodIn wsX3_years wsX0_hasStatue := goodIn_r _ [6, 7, 55, 56, 57, 58, 59, 60, 61, 62, 63, 64, 65, 66, 67, 68, 69, 70, 71] (by decide +kernel) (by decide +kernel)
set_option maxRecDepth 20000 in
theorem gX3_years_X0_hasStatue : GoodIn wsX3_years (wsV RX3 120 RX0 yX0_hasStatue wsX0_hasStatue) := goodIn_app (goodIn_of _ (by decide +kernel)) ggX3_years_X0_hasStatue
set_option maxRecDepth 20000 in
theorem ggX3_years_X0_firstYearOfComplaint : GoodIn wsX3_years wsX0_firstYearOfComplaint := goodIn_r _ [11, 12, 13, 14, 15, 5, 16, 17, 7, 18, 19, 20, 21, 22, 23, 24, 25, 26, 27, 28, 29, 30, 31, 32, 33, 34, 35, 36, 37, 38, 39, 40, 41, 42, 43, 44, 45, 46, 47, 48, 49, 55, 56, 57, 58, 59, 60, 61, 62, 63, 64, 65, 66, 67, 68, 69, 70, 71] (by decide +kernel) (by decide +kernel)
set_option maxRecDepth 20000 in
theorem gX3_years_X0_firstYearOfComplaint : GoodIn wsX3_years (wsV RX3 167 RX0 yX0_firstYearOfComplaint wsX0_firstYearOfComplaint) := goodIn_app (goodIn_of _ (by decide +kernel)) ggX3_years_X0_firstYearOfComplaint
set_option maxHeartbeats 4000000 in
set_option maxRecDepth 100000 in
theorem kX3_years (l : Launch) (dC : Nat → ClassId) (dI : Nat → Nat → Nat) (a r0 r1 : Nat) (tr fl : Int32) (cI : ClassId) (q n : Nat → Nat) (A : Nat → Nat → Nat) (X : Nat → Nat → Int32) (hW : WF n A) (hR : RG n A X) (sz : Nat) : Met l yX3_years wsX3_years ({ frames := 5, cells := 0, slots := 0, locals := 122 }) (roP [.ref a] sz (dC, dI) [(cI, .int)] ((a, .inr (3, [.ref r0, .ref r1, .ref (q 0), .int tr, .int fl])) :: wG cI q n X)) (roQi (uYears n A) sz) 0 0 (va_A [] sz) := by
  refine ro_met_i (by decide) rfl (Nat.le_of_ble_eq_true rfl) ?_
  intro pp ee ss mm aa bb me cd RR QQ Z hx hb hml hown hts hRf hRl hP hK hA hS hend ls hl
  have hown : ss.vm.findClass RX3 = some mm.cls := hown
  have hRf : 5 ≤ RR.frames := hRf
  have hRl : 122 ≤ RR.locals := hRl
  have hl : lv_has ls 1 [(0, .ref a)] := hl
  obtain ⟨w0, w1, w2, w3, w4, w5, w6, w7, w8, wA0, wA1, wA2⟩ := id hW
  have wC : n 0 * n 1 ≤ 42 := Nat.mul_le_mul w0 w1
  have hf28 := hts (.fieldLink RX3 28 "StatueSquare" "ground" "LStatueSquare$Ground;") (List.mem_of_getElem? (i := 1) rfl)
  have hinX3 : ∀ w ∈ u_ws RX3 TX3 5, w ∈ wsX3_years := fun _ h => List.mem_cons_of_mem _ (List.mem_append_left _ (List.mem_append_right _ h))
  refine lv_aload_n hx hb dX3_years_0 rfl (lv_at hl 0 rfl) ?_
  refine x_get (D := (dC, dI)) (ci := 3) (v := .ref (q 0)) (C := RX3) (T := TX3) (N := 5) hx hb hts hinX3 hown hK hP 0 rfl rfl 2 (Nat.le_of_ble_eq_true rfl) hf28 rfl rfl dX3_years_1 ?_
  refine roV_i (As := []) (rest := []) ⟨hx, hb, hml, hown, hts⟩ (kX0_hasStatue l dC dI cI q n A X hW hR  _ ) (cwV 0 hts gX3_years_X0_hasStatue rfl rfl rfl hdX0_hasStatue ⟨Nat.le_trans (Nat.le_of_ble_eq_true rfl) hRf, Nat.le_trans (Nat.le_of_ble_eq_true rfl) hRl⟩) (va_recv hK hP (ci := 0) (q0 := 1) rfl rfl) hK (hP.sub [1, 2, 3, 4, 5, 6, 7, 8, 9] rfl) rfl hl.1 rfl (Nat.le_of_ble_eq_true rfl) dX3_years_4 ⟨Nat.zero_le _, Nat.zero_le _⟩ hP hS hA (fun H locs hP hS => ?_)
  refine x_ifb_eq (tgt := 20) hx hb dX3_years_7 (by decide) (fun c7 => ?_) (fun c7 => ?_)
  · skip
    have hst : ¬ 0 < n 6 := of_decide_eq_false c7
    refine lv_bipush (v := -3) hx hb dX3_years_20 rfl ?_
    exact hend _ _ _ _ _ (by simp [uYears, inB02, hst] <;> rfl) hS dX3_years_22
  · skip
    have hst : 0 < n 6 := of_decide_eq_true c7
    refine lv_aload_n hx hb dX3_years_10 rfl (lv_at hl 0 rfl) ?_
    refine x_get (D := (dC, dI)) (ci := 3) (v := .ref (q 0)) (C := RX3) (T := TX3) (N := 5) hx hb hts hinX3 hown hK hP 0 rfl rfl 2 (Nat.le_of_ble_eq_true rfl) hf28 rfl rfl dX3_years_11 ?_
    refine roV_i (As := []) (rest := []) ⟨hx, hb, hml, hown, hts⟩ (kX0_firstYearOfComplaint l dC dI cI q n A X hW hR  _ (by omega)) (cwV 0 hts gX3_years_X0_firstYearOfComplaint rfl rfl rfl hdX0_firstYearOfComplaint ⟨Nat.le_trans (Nat.le_of_ble_eq_true rfl) hRf, Nat.le_trans (Nat.le_of_ble_eq_true rfl) hRl⟩) (va_recv hK hP (ci := 0) (q0 := 1) rfl rfl) hK (hP.sub [1, 2, 3, 4, 5, 6, 7, 8, 9] rfl) rfl hl.1 rfl (Nat.le_of_ble_eq_true rfl) dX3_years_14 ⟨Nat.zero_le _, Nat.zero_le _⟩ hP hS hA (fun H locs hP hS => ?_)
    refine lv_goto (tgt := 22) hx hb dX3_years_17 (by decide) ?_
    exact hend _ _ _ _ _ (by simp [uYears, inB02, hst] <;> rfl) hS dX3_years_22
theorem hdX0_unseenCells : yX0_unseenCells.cls = RX0 ∧ yX0_unseenCells.cls ≠ "java/lang/invoke/MethodHandle" ∧ yX0_unseenCells.cls ≠ "java/lang/invoke/VarHandle" ∧ (parseMethodDescriptor yX0_unseenCells.desc).map (fun d => d.parameters.length) = some 0 := by decide +kernel
set_option maxRecDepth 20000 in
theorem ggX3_second_X0_hasStatue : GoodIn wsX3_second wsX0_hasStatue := goodIn_r _ [7, 8, 74, 75, 76, 77, 78, 79, 80, 81, 82, 83, 84, 85, 86, 87, 88, 89, 90] (by decide +kernel) (by decide +kernel)
set_option maxRecDepth 20000 in
theorem gX3_second_X0_hasStatue : GoodIn wsX3_second (wsV RX3 120 RX0 yX0_hasStatue wsX0_hasStatue) := goodIn_app (goodIn_of _ (by decide +kernel)) ggX3_second_X0_hasStatue
set_option maxRecDepth 20000 in
theorem ggX3_second_X0_unseenCells : GoodIn wsX3_second wsX0_unseenCells := goodIn_r _ [12, 13, 8, 14, 15, 16, 6, 17, 18, 19, 20, 21, 22, 23, 24, 25, 26, 27, 28, 29, 30, 31, 32, 33, 34, 35, 36, 37, 38, 39, 40, 41, 42, 43, 44, 45, 46, 47, 48, 49, 50, 51, 52, 53, 54, 55, 56, 57, 58, 59, 60, 61, 62, 63, 64, 65, 66, 67, 68, 74, 75, 76, 77, 78, 79, 80, 81, 82, 83, 84, 85, 86, 87, 88, 89, 90] (by decide +kernel) (by decide +kernel)
set_option maxRecDepth 20000 in
theorem gX3_second_X0_unseenCells : GoodIn wsX3_second (wsV RX3 170 RX0 yX0_unseenCells wsX0_unseenCells) := goodIn_app (goodIn_of _ (by decide +kernel)) ggX3_second_X0_unseenCells
set_option maxHeartbeats 4000000 in
set_option maxRecDepth 100000 in
theorem kX3_second (l : Launch) (dC : Nat → ClassId) (dI : Nat → Nat → Nat) (a r0 r1 : Nat) (tr fl : Int32) (cI : ClassId) (q n : Nat → Nat) (A : Nat → Nat → Nat) (X : Nat → Nat → Int32) (hW : WF n A) (hR : RG n A X) (tH : Nat) (sz : Nat) : Met l yX3_second wsX3_second ({ frames := 6, cells := 0, slots := 0, locals := 148 }) (rsP tH [.ref a] sz (dC, dI) [(cI, .int)] ((a, .inr (3, [.ref r0, .ref r1, .ref (q 0), .int tr, .int fl])) :: wG cI q n X)) (roQl (uSecond n A) sz) 0 0 (va_A [] sz) := by
  refine rs_met_l (by decide) rfl (Nat.le_of_ble_eq_true rfl) ?_
  intro pp ee ss mm aa bb me cd RR QQ Z hx hb hml hown hts hRf hRl hP hK hA hS hZT hend ls hl
  have hown : ss.vm.findClass RX3 = some mm.cls := hown
  have hRf : 6 ≤ RR.frames := hRf
  have hRl : 148 ≤ RR.locals := hRl
  have hl : lv_has ls 1 [(0, .ref a)] := hl
  obtain ⟨w0, w1, w2, w3, w4, w5, w6, w7, w8, wA0, wA1, wA2⟩ := id hW
  have wC : n 0 * n 1 ≤ 42 := Nat.mul_le_mul w0 w1
  have hf28 := hts (.fieldLink RX3 28 "StatueSquare" "ground" "LStatueSquare$Ground;") (List.mem_of_getElem? (i := 1) rfl)
  have hinX3 : ∀ w ∈ u_ws RX3 TX3 5, w ∈ wsX3_second := fun _ h => List.mem_cons_of_mem _ (List.mem_append_left _ (List.mem_append_right _ h))
  have hk133 := hts (.constantLong RX3 133 (-9223372036854775808)) (List.mem_of_getElem? (i := 2) rfl)
  refine lv_aload_n hx hb dX3_second_0 rfl (lv_at hl 0 rfl) ?_
  refine x_get (D := (dC, dI)) (ci := 3) (v := .ref (q 0)) (C := RX3) (T := TX3) (N := 5) hx hb hts hinX3 hown hK hP 0 rfl rfl 2 (Nat.le_of_ble_eq_true rfl) hf28 rfl rfl dX3_second_1 ?_
  refine roV_i (As := []) (rest := []) ⟨hx, hb, hml, hown, hts⟩ (kX0_hasStatue l dC dI cI q n A X hW hR  _ ) (cwV 0 hts gX3_second_X0_hasStatue rfl rfl rfl hdX0_hasStatue ⟨Nat.le_trans (Nat.le_of_ble_eq_true rfl) hRf, Nat.le_trans (Nat.le_of_ble_eq_true rfl) hRl⟩) (va_recv hK hP (ci := 0) (q0 := 1) rfl rfl) hK (hP.sub [1, 2, 3, 4, 5, 6, 7, 8, 9] rfl) rfl hl.1 rfl (Nat.le_of_ble_eq_true rfl) dX3_second_4 ⟨Nat.zero_le _, Nat.zero_le _⟩ hP hS hA (fun H locs hP hS => ?_)
  refine x_ifb_eq (tgt := 20) hx hb dX3_second_7 (by decide) (fun c7 => ?_) (fun c7 => ?_)
  · skip
    have hst : ¬ 0 < n 6 := of_decide_eq_false c7
    refine lv_ldc2 hx hb hown hk133 dX3_second_20 ?_
    exact hend _ _ _ _ _ (by simp [uSecond, hst]; rfl) hS dX3_second_23
  · skip
    have hst : 0 < n 6 := of_decide_eq_true c7
    refine lv_aload_n hx hb dX3_second_10 rfl (lv_at hl 0 rfl) ?_
    refine x_get (D := (dC, dI)) (ci := 3) (v := .ref (q 0)) (C := RX3) (T := TX3) (N := 5) hx hb hts hinX3 hown hK hP 0 rfl rfl 2 (Nat.le_of_ble_eq_true rfl) hf28 rfl rfl dX3_second_11 ?_
    refine rsV_l (As := []) (rest := []) ⟨hx, hb, hml, hown, hts⟩ (kX0_unseenCells l dC dI cI q n A X hW hR tH _ (by omega)) (cwV 0 hts gX3_second_X0_unseenCells rfl rfl rfl hdX0_unseenCells ⟨Nat.le_trans (Nat.le_of_ble_eq_true rfl) hRf, Nat.le_trans (Nat.le_of_ble_eq_true rfl) hRl⟩) (va_recv hK hP (ci := 0) (q0 := 1) rfl rfl) hK (hP.sub [1, 2, 3, 4, 5, 6, 7, 8, 9] rfl) rfl hl.1 rfl (Nat.le_of_ble_eq_true rfl) dX3_second_14 ⟨Nat.zero_le _, Nat.zero_le _⟩ hP hS hA hZT (fun H locs hP hS => ?_)
    refine lv_goto (tgt := 23) hx hb dX3_second_17 (by decide) ?_
    exact hend _ _ _ _ _ (by simp [uSecond, inB02, hst] <;> rfl) hS dX3_second_23
theorem hdX0_fewestLamps : yX0_fewestLamps.cls = RX0 ∧ yX0_fewestLamps.cls ≠ "java/lang/invoke/MethodHandle" ∧ yX0_fewestLamps.cls ≠ "java/lang/invoke/VarHandle" ∧ (parseMethodDescriptor yX0_fewestLamps.desc).map (fun d => d.parameters.length) = some 0 := by decide +kernel
set_option maxRecDepth 20000 in
theorem ggX3_lit_X3_isBelow : GoodIn wsX3_lit wsX3_isBelow := goodIn_r _ [5] (by decide +kernel) (by decide +kernel)
set_option maxRecDepth 20000 in
theorem gX3_lit_X3_isBelow : GoodIn wsX3_lit (va_wsS RX3 39 yX3_isBelow wsX3_isBelow) := goodIn_app (goodIn_of _ (by decide +kernel)) ggX3_lit_X3_isBelow
set_option maxRecDepth 20000 in
theorem ggX3_lit_X0_hasStatue : GoodIn wsX3_lit wsX0_hasStatue := goodIn_r _ [10, 11, 53, 54, 55, 56, 57, 58, 59, 60, 61, 62, 63, 64, 65, 66, 67, 68, 69] (by decide +kernel) (by decide +kernel)
set_option maxRecDepth 20000 in
theorem gX3_lit_X0_hasStatue : GoodIn wsX3_lit (wsV RX3 120 RX0 yX0_hasStatue wsX0_hasStatue) := goodIn_app (goodIn_of _ (by decide +kernel)) ggX3_lit_X0_hasStatue
set_option maxRecDepth 20000 in
theorem ggX3_lit_X0_partsLitByAny : GoodIn wsX3_lit wsX0_partsLitByAny := goodIn_r _ [20, 16, 21, 22, 23, 9, 24, 25, 26, 11, 27, 28, 29, 30, 31, 32, 33, 34, 35, 36, 37, 38, 39, 40, 41, 42, 43, 44, 45, 46, 53, 54, 55, 56, 57, 58, 59, 60, 61, 62, 63, 64, 65, 66, 67, 68, 69] (by decide +kernel) (by decide +kernel)
set_option maxRecDepth 20000 in
theorem gX3_lit_X0_partsLitByAny : GoodIn wsX3_lit (wsV RX3 177 RX0 yX0_partsLitByAny wsX0_partsLitByAny) := goodIn_app (goodIn_of _ (by decide +kernel)) ggX3_lit_X0_partsLitByAny
set_option maxRecDepth 20000 in
theorem ggX3_lit_X0_fewestLamps : GoodIn wsX3_lit wsX0_fewestLamps := goodIn_r _ [15, 16, 17, 18, 19, 9, 20, 21, 22, 23, 24, 25, 26, 11, 27, 28, 29, 30, 31, 32, 33, 34, 35, 36, 37, 38, 39, 40, 41, 42, 43, 44, 45, 46, 53, 54, 55, 56, 57, 58, 59, 60, 61, 62, 63, 64, 65, 66, 67, 68, 69] (by decide +kernel) (by decide +kernel)
set_option maxRecDepth 20000 in
theorem gX3_lit_X0_fewestLamps : GoodIn wsX3_lit (wsV RX3 174 RX0 yX0_fewestLamps wsX0_fewestLamps) := goodIn_app (goodIn_of _ (by decide +kernel)) ggX3_lit_X0_fewestLamps
set_option maxHeartbeats 4000000 in
set_option maxRecDepth 100000 in
theorem kX3_lit (l : Launch) (dC : Nat → ClassId) (dI : Nat → Nat → Nat) (a r0 r1 : Nat) (tr fl : Int32) (cI : ClassId) (q n : Nat → Nat) (A : Nat → Nat → Nat) (X : Nat → Nat → Int32) (hW : WF n A) (hR : RG n A X) (tH : Nat) (w : Int32) (sz : Nat) : Met l yX3_lit wsX3_lit ({ frames := 4, cells := 0, slots := 0, locals := 93 }) (rsP tH [.ref a, .int w] sz (dC, dI) [(cI, .int)] ((a, .inr (3, [.ref r0, .ref r1, .ref (q 0), .int tr, .int fl])) :: wG cI q n X)) (roQi (uLit n A w) sz) 0 0 (va_A [] sz) := by
  refine rs_met_i (by decide) rfl (Nat.le_of_ble_eq_true rfl) ?_
  intro pp ee ss mm aa bb me cd RR QQ Z hx hb hml hown hts hRf hRl hP hK hA hS hZT hend ls hl
  have hown : ss.vm.findClass RX3 = some mm.cls := hown
  have hRf : 4 ≤ RR.frames := hRf
  have hRl : 93 ≤ RR.locals := hRl
  have hl : lv_has ls 2 [(0, .ref a), (1, .int w)] := hl
  obtain ⟨w0, w1, w2, w3, w4, w5, w6, w7, w8, wA0, wA1, wA2⟩ := id hW
  have wC : n 0 * n 1 ≤ 42 := Nat.mul_le_mul w0 w1
  have hf28 := hts (.fieldLink RX3 28 "StatueSquare" "ground" "LStatueSquare$Ground;") (List.mem_of_getElem? (i := 1) rfl)
  have hinX3 : ∀ w ∈ u_ws RX3 TX3 5, w ∈ wsX3_lit := fun _ h => List.mem_cons_of_mem _ (List.mem_append_left _ (List.mem_append_right _ h))
  refine lv_iload_n hx hb dX3_lit_0 rfl (lv_at hl 1 rfl) ?_
  refine lv_iconst (v := nI 2) hx hb dX3_lit_1 rfl ?_
  refine roS_i (As := [.int w, .int (nI 2)]) (rest := []) ⟨hx, hb, hml, hown, hts⟩ (kX3_isBelow l dC dI w 2 _ ) (va_cwS 2 hts gX3_lit_X3_isBelow rfl rfl rfl hdX3_isBelow ⟨Nat.le_trans (Nat.le_of_ble_eq_true rfl) hRf, Nat.le_trans (Nat.le_of_ble_eq_true rfl) hRl⟩) (hK.sub [] rfl) (hP.sub [] rfl) rfl hl.1 rfl (Nat.le_of_ble_eq_true rfl) dX3_lit_2 ⟨Nat.zero_le _, Nat.zero_le _⟩ hP hS hA (fun H locs hP hS => ?_)
  refine x_ifb_ne (tgt := 11) hx hb dX3_lit_5 (by decide) (fun c5 => ?_) (fun c5 => ?_)
  · skip
    refine lv_aload_n hx hb dX3_lit_11 rfl (lv_at hl 0 rfl) ?_
    refine x_get (D := (dC, dI)) (ci := 3) (v := .ref (q 0)) (C := RX3) (T := TX3) (N := 5) hx hb hts hinX3 hown hK hP 0 rfl rfl 2 (Nat.le_of_ble_eq_true rfl) hf28 rfl rfl dX3_lit_12 ?_
    refine roV_i (As := []) (rest := []) ⟨hx, hb, hml, hown, hts⟩ (kX0_hasStatue l dC dI cI q n A X hW hR  _ ) (cwV 0 hts gX3_lit_X0_hasStatue rfl rfl rfl hdX0_hasStatue ⟨Nat.le_trans (Nat.le_of_ble_eq_true rfl) hRf, Nat.le_trans (Nat.le_of_ble_eq_true rfl) hRl⟩) (va_recv hK hP (ci := 0) (q0 := 1) rfl rfl) hK (hP.sub [1, 2, 3, 4, 5, 6, 7, 8, 9] rfl) rfl hl.1 rfl (Nat.le_of_ble_eq_true rfl) dX3_lit_15 ⟨Nat.zero_le _, Nat.zero_le _⟩ hP hS hA (fun H locs hP hS => ?_)
    refine x_ifb_ne (tgt := 24) hx hb dX3_lit_18 (by decide) (fun c18 => ?_) (fun c18 => ?_)
    · skip
      have hst : 0 < n 6 := of_decide_eq_true c18
      refine lv_iload_n hx hb dX3_lit_24 rfl (lv_at hl 1 rfl) ?_
      refine lv_if_ne (tgt := 38) hx hb dX3_lit_25 (by decide) (fun c25 => ?_) (fun c25 => ?_)
      · skip
        refine lv_aload_n hx hb dX3_lit_38 rfl (lv_at hl 0 rfl) ?_
        refine x_get (D := (dC, dI)) (ci := 3) (v := .ref (q 0)) (C := RX3) (T := TX3) (N := 5) hx hb hts hinX3 hown hK hP 0 rfl rfl 2 (Nat.le_of_ble_eq_true rfl) hf28 rfl rfl dX3_lit_39 ?_
        refine rsV_i (As := []) (rest := []) ⟨hx, hb, hml, hown, hts⟩ (kX0_partsLitByAny l dC dI cI q n A X hW hR tH _ (by omega)) (cwV 0 hts gX3_lit_X0_partsLitByAny rfl rfl rfl hdX0_partsLitByAny ⟨Nat.le_trans (Nat.le_of_ble_eq_true rfl) hRf, Nat.le_trans (Nat.le_of_ble_eq_true rfl) hRl⟩) (va_recv hK hP (ci := 0) (q0 := 1) rfl rfl) hK (hP.sub [1, 2, 3, 4, 5, 6, 7, 8, 9] rfl) rfl hl.1 rfl (Nat.le_of_ble_eq_true rfl) dX3_lit_42 ⟨Nat.zero_le _, Nat.zero_le _⟩ hP hS hA hZT (fun H locs hP hS => ?_)
        exact hend _ _ _ _ _ (by simp [uLit, inB02, c5, hst, c25] <;> rfl) hS dX3_lit_45
      · skip
        refine lv_aload_n hx hb dX3_lit_28 rfl (lv_at hl 0 rfl) ?_
        refine x_get (D := (dC, dI)) (ci := 3) (v := .ref (q 0)) (C := RX3) (T := TX3) (N := 5) hx hb hts hinX3 hown hK hP 0 rfl rfl 2 (Nat.le_of_ble_eq_true rfl) hf28 rfl rfl dX3_lit_29 ?_
        refine rsV_i (As := []) (rest := []) ⟨hx, hb, hml, hown, hts⟩ (kX0_fewestLamps l dC dI cI q n A X hW hR tH _ (by omega)) (cwV 0 hts gX3_lit_X0_fewestLamps rfl rfl rfl hdX0_fewestLamps ⟨Nat.le_trans (Nat.le_of_ble_eq_true rfl) hRf, Nat.le_trans (Nat.le_of_ble_eq_true rfl) hRl⟩) (va_recv hK hP (ci := 0) (q0 := 1) rfl rfl) hK (hP.sub [1, 2, 3, 4, 5, 6, 7, 8, 9] rfl) rfl hl.1 rfl (Nat.le_of_ble_eq_true rfl) dX3_lit_32 ⟨Nat.zero_le _, Nat.zero_le _⟩ hP hS hA hZT (fun H locs hP hS => ?_)
        refine lv_goto (tgt := 45) hx hb dX3_lit_35 (by decide) ?_
        exact hend _ _ _ _ _ (by simp [uLit, inB02, c5, hst, c25] <;> rfl) hS dX3_lit_45
    · skip
      have hst : ¬ 0 < n 6 := of_decide_eq_false c18
      refine lv_bipush (v := -3) hx hb dX3_lit_21 rfl ?_
      exact hend _ _ _ _ _ (by simp [uLit, inB02, c5, hst] <;> rfl) hS dX3_lit_23
  · skip
    refine lv_bipush (v := -2) hx hb dX3_lit_8 rfl ?_
    exact hend _ _ _ _ _ (by simp [uLit, inB02, c5] <;> rfl) hS dX3_lit_10
set_option maxHeartbeats 4000000 in
set_option maxRecDepth 100000 in
theorem kX3_trace (l : Launch) (dC : Nat → ClassId) (dI : Nat → Nat → Nat) (a r0 r1 : Nat) (tr fl : Int32) (cI : ClassId) (q n : Nat → Nat) (A : Nat → Nat → Nat) (X : Nat → Nat → Int32) (hW : WF n A) (hR : RG n A X) (sz : Nat) : Met l yX3_trace wsX3_trace ({ frames := 0, cells := 0, slots := 0, locals := 0 }) (roP [.ref a] sz (dC, dI) [(cI, .int)] ((a, .inr (3, [.ref r0, .ref r1, .ref (q 0), .int tr, .int fl])) :: wG cI q n X)) (roQi tr sz) 0 0 (va_A [] sz) := by
  refine ro_met_i (by decide) rfl (Nat.le_of_ble_eq_true rfl) ?_
  intro pp ee ss mm aa bb me cd RR QQ Z hx hb hml hown hts hRf hRl hP hK hA hS hend ls hl
  have hown : ss.vm.findClass RX3 = some mm.cls := hown
  have hRf : 0 ≤ RR.frames := hRf
  have hRl : 0 ≤ RR.locals := hRl
  have hl : lv_has ls 1 [(0, .ref a)] := hl
  obtain ⟨w0, w1, w2, w3, w4, w5, w6, w7, w8, wA0, wA1, wA2⟩ := id hW
  have wC : n 0 * n 1 ≤ 42 := Nat.mul_le_mul w0 w1
  have hf32 := hts (.fieldLink RX3 32 "StatueSquare" "traced" "I") (List.mem_of_getElem? (i := 1) rfl)
  have hinX3 : ∀ w ∈ u_ws RX3 TX3 5, w ∈ wsX3_trace := fun _ h => List.mem_cons_of_mem _ (List.mem_append_right _ h)
  refine lv_aload_n hx hb dX3_trace_0 rfl (lv_at hl 0 rfl) ?_
  refine x_get (D := (dC, dI)) (ci := 3) (v := .int tr) (C := RX3) (T := TX3) (N := 5) hx hb hts hinX3 hown hK hP 0 rfl rfl 3 (Nat.le_of_ble_eq_true rfl) hf32 rfl rfl dX3_trace_1 ?_
  exact hend _ _ _ _ _ rfl hS dX3_trace_4
set_option maxHeartbeats 4000000 in
set_option maxRecDepth 100000 in
theorem kX3_fault (l : Launch) (dC : Nat → ClassId) (dI : Nat → Nat → Nat) (a r0 r1 : Nat) (tr fl : Int32) (cI : ClassId) (q n : Nat → Nat) (A : Nat → Nat → Nat) (X : Nat → Nat → Int32) (hW : WF n A) (hR : RG n A X) (sz : Nat) : Met l yX3_fault wsX3_fault ({ frames := 0, cells := 0, slots := 0, locals := 0 }) (roP [.ref a] sz (dC, dI) [(cI, .int)] ((a, .inr (3, [.ref r0, .ref r1, .ref (q 0), .int tr, .int fl])) :: wG cI q n X)) (roQi fl sz) 0 0 (va_A [] sz) := by
  refine ro_met_i (by decide) rfl (Nat.le_of_ble_eq_true rfl) ?_
  intro pp ee ss mm aa bb me cd RR QQ Z hx hb hml hown hts hRf hRl hP hK hA hS hend ls hl
  have hown : ss.vm.findClass RX3 = some mm.cls := hown
  have hRf : 0 ≤ RR.frames := hRf
  have hRl : 0 ≤ RR.locals := hRl
  have hl : lv_has ls 1 [(0, .ref a)] := hl
  obtain ⟨w0, w1, w2, w3, w4, w5, w6, w7, w8, wA0, wA1, wA2⟩ := id hW
  have wC : n 0 * n 1 ≤ 42 := Nat.mul_le_mul w0 w1
  have hf36 := hts (.fieldLink RX3 36 "StatueSquare" "latestFault" "I") (List.mem_of_getElem? (i := 1) rfl)
  have hinX3 : ∀ w ∈ u_ws RX3 TX3 5, w ∈ wsX3_fault := fun _ h => List.mem_cons_of_mem _ (List.mem_append_right _ h)
  refine lv_aload_n hx hb dX3_fault_0 rfl (lv_at hl 0 rfl) ?_
  refine x_get (D := (dC, dI)) (ci := 3) (v := .int fl) (C := RX3) (T := TX3) (N := 5) hx hb hts hinX3 hown hK hP 0 rfl rfl 4 (Nat.le_of_ble_eq_true rfl) hf36 rfl rfl dX3_fault_1 ?_
  exact hend _ _ _ _ _ rfl hS dX3_fault_4
set_option maxHeartbeats 4000000 in
set_option maxRecDepth 100000 in
theorem kX3_many (l : Launch) (dC : Nat → ClassId) (dI : Nat → Nat → Nat) (a r0 r1 : Nat) (tr fl : Int32) (cI : ClassId) (q n : Nat → Nat) (A : Nat → Nat → Nat) (X : Nat → Nat → Int32) (hW : WF n A) (hR : RG n A X) (w : Int32) (sz : Nat) : Met l yX3_many wsX3_many ({ frames := 0, cells := 0, slots := 0, locals := 0 }) (roP [.ref a, .int w] sz (dC, dI) [(cI, .int)] ((a, .inr (3, [.ref r0, .ref r1, .ref (q 0), .int tr, .int fl])) :: wG cI q n X)) (roQi (uMany n w) sz) 0 0 (va_A [] sz) := by
  refine ro_met_i (by decide) rfl (Nat.le_of_ble_eq_true rfl) ?_
  intro pp ee ss mm aa bb me cd RR QQ Z hx hb hml hown hts hRf hRl hP hK hA hS hend ls hl
  have hown : ss.vm.findClass RX3 = some mm.cls := hown
  have hRf : 0 ≤ RR.frames := hRf
  have hRl : 0 ≤ RR.locals := hRl
  have hl : lv_has ls 2 [(0, .ref a), (1, .int w)] := hl
  obtain ⟨w0, w1, w2, w3, w4, w5, w6, w7, w8, wA0, wA1, wA2⟩ := id hW
  have wC : n 0 * n 1 ≤ 42 := Nat.mul_le_mul w0 w1
  have hf28 := hts (.fieldLink RX3 28 "StatueSquare" "ground" "LStatueSquare$Ground;") (List.mem_of_getElem? (i := 1) rfl)
  have hinX3 : ∀ w ∈ u_ws RX3 TX3 5, w ∈ wsX3_many := fun _ h => List.mem_cons_of_mem _ (List.mem_append_left _ (List.mem_append_right _ h))
  have hf61 := hts (.fieldLink RX3 61 "StatueSquare$Ground" "cellCount" "I") (List.mem_of_getElem? (i := 2) rfl)
  have hinX0 : ∀ w ∈ u_ws RX0 TX0 17, w ∈ wsX3_many := fun _ h => List.mem_cons_of_mem _ (List.mem_append_right _ h)
  have hf220 := hts (.fieldLink RX3 220 "StatueSquare$Ground" "wide" "I") (List.mem_of_getElem? (i := 3) rfl)
  have hf94 := hts (.fieldLink RX3 94 "StatueSquare$Ground" "benchCount" "I") (List.mem_of_getElem? (i := 4) rfl)
  have hf68 := hts (.fieldLink RX3 68 "StatueSquare$Ground" "thingCount" "I") (List.mem_of_getElem? (i := 5) rfl)
  have hf80 := hts (.fieldLink RX3 80 "StatueSquare$Ground" "yearNow" "I") (List.mem_of_getElem? (i := 6) rfl)
  refine lv_iload_n hx hb dX3_many_0 rfl (lv_at hl 1 rfl) ?_
  by_cases hw0 : w = 0
  · skip
    refine lv_tableIn (tgt := 36) hx hb dX3_many_1 (by rw [hw0]; decide) (by rw [hw0]; decide) (by rw [hw0]; rfl) (by decide) ?_
    refine lv_aload_n hx hb dX3_many_36 rfl (lv_at hl 0 rfl) ?_
    refine x_get (D := (dC, dI)) (ci := 3) (v := .ref (q 0)) (C := RX3) (T := TX3) (N := 5) hx hb hts hinX3 hown hK hP 0 rfl rfl 2 (Nat.le_of_ble_eq_true rfl) hf28 rfl rfl dX3_many_37 ?_
    refine x_get (D := (dC, dI)) (ci := 0) (v := .int (nI (n 0 * n 1))) (C := RX0) (T := TX0) (N := 17) hx hb hts hinX0 hown hK hP 1 rfl rfl 1 (Nat.le_of_ble_eq_true rfl) hf61 rfl rfl dX3_many_40 ?_
    exact hend _ _ _ _ _ (by simp [uMany, hw0]) hS dX3_many_43
  by_cases hw1 : w = 1
  · skip
    refine lv_tableIn (tgt := 44) hx hb dX3_many_1 (by rw [hw1]; decide) (by rw [hw1]; decide) (by rw [hw1]; rfl) (by decide) ?_
    refine lv_aload_n hx hb dX3_many_44 rfl (lv_at hl 0 rfl) ?_
    refine x_get (D := (dC, dI)) (ci := 3) (v := .ref (q 0)) (C := RX3) (T := TX3) (N := 5) hx hb hts hinX3 hown hK hP 0 rfl rfl 2 (Nat.le_of_ble_eq_true rfl) hf28 rfl rfl dX3_many_45 ?_
    refine x_get (D := (dC, dI)) (ci := 0) (v := .int (nI (n 1))) (C := RX0) (T := TX0) (N := 17) hx hb hts hinX0 hown hK hP 1 rfl rfl 0 (Nat.le_of_ble_eq_true rfl) hf220 rfl rfl dX3_many_48 ?_
    exact hend _ _ _ _ _ (by simp [uMany, hw0, hw1]) hS dX3_many_51
  by_cases hw2 : w = 2
  · skip
    refine lv_tableIn (tgt := 52) hx hb dX3_many_1 (by rw [hw2]; decide) (by rw [hw2]; decide) (by rw [hw2]; rfl) (by decide) ?_
    refine lv_aload_n hx hb dX3_many_52 rfl (lv_at hl 0 rfl) ?_
    refine x_get (D := (dC, dI)) (ci := 3) (v := .ref (q 0)) (C := RX3) (T := TX3) (N := 5) hx hb hts hinX3 hown hK hP 0 rfl rfl 2 (Nat.le_of_ble_eq_true rfl) hf28 rfl rfl dX3_many_53 ?_
    refine x_get (D := (dC, dI)) (ci := 0) (v := .int (nI (n 2))) (C := RX0) (T := TX0) (N := 17) hx hb hts hinX0 hown hK hP 1 rfl rfl 2 (Nat.le_of_ble_eq_true rfl) hf94 rfl rfl dX3_many_56 ?_
    exact hend _ _ _ _ _ (by simp [uMany, hw0, hw1, hw2]) hS dX3_many_59
  by_cases hw3 : w = 3
  · skip
    refine lv_tableIn (tgt := 60) hx hb dX3_many_1 (by rw [hw3]; decide) (by rw [hw3]; decide) (by rw [hw3]; rfl) (by decide) ?_
    refine lv_aload_n hx hb dX3_many_60 rfl (lv_at hl 0 rfl) ?_
    refine x_get (D := (dC, dI)) (ci := 3) (v := .ref (q 0)) (C := RX3) (T := TX3) (N := 5) hx hb hts hinX3 hown hK hP 0 rfl rfl 2 (Nat.le_of_ble_eq_true rfl) hf28 rfl rfl dX3_many_61 ?_
    refine x_get (D := (dC, dI)) (ci := 0) (v := .int (nI (n 3))) (C := RX0) (T := TX0) (N := 17) hx hb hts hinX0 hown hK hP 1 rfl rfl 3 (Nat.le_of_ble_eq_true rfl) hf68 rfl rfl dX3_many_64 ?_
    exact hend _ _ _ _ _ (by simp [uMany, hw0, hw1, hw2, hw3]) hS dX3_many_67
  by_cases hw4 : w = 4
  · skip
    refine lv_tableIn (tgt := 68) hx hb dX3_many_1 (by rw [hw4]; decide) (by rw [hw4]; decide) (by rw [hw4]; rfl) (by decide) ?_
    refine lv_aload_n hx hb dX3_many_68 rfl (lv_at hl 0 rfl) ?_
    refine x_get (D := (dC, dI)) (ci := 3) (v := .ref (q 0)) (C := RX3) (T := TX3) (N := 5) hx hb hts hinX3 hown hK hP 0 rfl rfl 2 (Nat.le_of_ble_eq_true rfl) hf28 rfl rfl dX3_many_69 ?_
    refine x_get (D := (dC, dI)) (ci := 0) (v := .int (nI (n 4))) (C := RX0) (T := TX0) (N := 17) hx hb hts hinX0 hown hK hP 1 rfl rfl 13 (Nat.le_of_ble_eq_true rfl) hf80 rfl rfl dX3_many_72 ?_
    exact hend _ _ _ _ _ (by simp [uMany, hw0, hw1, hw2, hw3, hw4]) hS dX3_many_75
  refine lv_tableOut (tgt := 76) hx hb dX3_many_1 (by have q0 : ¬ w.toInt = 0 := lv_neT hw0 rfl; have q1 : ¬ w.toInt = 1 := lv_neT hw1 rfl; have q2 : ¬ w.toInt = 2 := lv_neT hw2 rfl; have q3 : ¬ w.toInt = 3 := lv_neT hw3 rfl; have q4 : ¬ w.toInt = 4 := lv_neT hw4 rfl; omega) (by decide) ?_
  refine lv_bipush (v := -2) hx hb dX3_many_76 rfl ?_
  exact hend _ _ _ _ _ (by simp [uMany, hw0, hw1, hw2, hw3, hw4]) hS dX3_many_78
