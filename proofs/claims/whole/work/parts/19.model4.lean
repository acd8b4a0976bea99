theorem hdX4_isUnseen : yX4_isUnseen.cls = RX4 ∧ yX4_isUnseen.cls ≠ "java/lang/invoke/MethodHandle" ∧ yX4_isUnseen.cls ≠ "java/lang/invoke/VarHandle" ∧ (parseMethodDescriptor yX4_isUnseen.desc).map (fun d => d.parameters.length) = some 2 := by decide +kernel
set_option maxRecDepth 20000 in
theorem ggX4_second_X4_wholeAt : GoodIn wsX4_second wsX4_wholeAt := goodIn_r _ [12, 13, 14, 15, 16, 6, 17, 18, 19, 20, 21, 22, 23, 3, 24, 25, 26, 27, 28, 29, 30, 31, 32, 33, 34, 35, 36, 37, 38, 48, 49, 50, 51, 52, 53, 54, 55, 56, 57, 58, 59, 60, 61, 62, 63, 64, 65, 66, 67, 68, 69, 70, 71, 72, 73, 74, 75, 76, 77, 78] (by decide +kernel) (by decide +kernel)
set_option maxRecDepth 20000 in
theorem gX4_second_X4_wholeAt : GoodIn wsX4_second (wsV RX4 179 RX4 yX4_wholeAt wsX4_wholeAt) := goodIn_app (goodIn_of _ (by decide +kernel)) ggX4_second_X4_wholeAt
set_option maxRecDepth 20000 in
theorem ggX4_second_X4_cells : GoodIn wsX4_second wsX4_cells := goodIn_r _ [42, 43, 22, 48, 49, 50, 51, 52, 53, 54, 55, 56, 57, 58, 59, 60, 61, 62, 63, 64, 65, 66, 67, 68, 69, 70, 71, 72, 73, 74, 75, 76, 77, 78] (by decide +kernel) (by decide +kernel)
set_option maxRecDepth 20000 in
theorem gX4_second_X4_cells : GoodIn wsX4_second (wsV RX4 78 RX4 yX4_cells wsX4_cells) := goodIn_app (goodIn_of _ (by decide +kernel)) ggX4_second_X4_cells
set_option maxRecDepth 20000 in
theorem ggX4_second_X4_isUnseen : GoodIn wsX4_second wsX4_isUnseen := goodIn_r _ [47, 13, 2, 14, 15, 16, 6, 17, 18, 19, 20, 21, 22, 23, 3, 24, 25, 26, 27, 28, 29, 30, 31, 32, 33, 34, 35, 36, 37, 38, 48, 49, 50, 51, 52, 53, 54, 55, 56, 57, 58, 59, 60, 61, 62, 63, 64, 65, 66, 67, 68, 69, 70, 71, 72, 73, 74, 75, 76, 77, 78] (by decide +kernel) (by decide +kernel)
set_option maxRecDepth 20000 in
theorem gX4_second_X4_isUnseen : GoodIn wsX4_second (wsV RX4 191 RX4 yX4_isUnseen wsX4_isUnseen) := goodIn_app (goodIn_of _ (by decide +kernel)) ggX4_second_X4_isUnseen
set_option maxRecDepth 20000 in
theorem ggX4_second_X4_lost : GoodIn wsX4_second wsX4_lost := goodIn_r _ [7, 8] (by decide +kernel) (by decide +kernel)
set_option maxRecDepth 20000 in
theorem gX4_second_X4_lost : GoodIn wsX4_second (va_wsS RX4 68 yX4_lost wsX4_lost) := goodIn_app (goodIn_of _ (by decide +kernel)) ggX4_second_X4_lost
set_option maxHeartbeats 4000000 in
set_option maxRecDepth 100000 in
theorem kX4_second (l : Launch) (dC : Nat → ClassId) (dI : Nat → Nat → Nat) (cI cZ : ClassId) (q n : Nat → Nat) (mb : Int32) (f : Nat → Int32) (A : Nat → Nat → Nat) (Y : Nat → Nat → Int32) (hW : WF n A) (hR : RM n A Y) (hmb : 0 < n 6 → mb = nI (n 7)) (sz : Nat) : Met l yX4_second wsX4_second ({ frames := 4, cells := 0, slots := 0, locals := 106 }) (roP [.ref (q 0)] sz (dC, dI) [(cI, .int), (cZ, .boolean)] (wM cI cZ q n mb f Y)) (roQl (uSecond n A) sz) 0 0 (va_A [] sz) := by
  refine ro_met_l (by decide) rfl (Nat.le_of_ble_eq_true rfl) ?_
  intro pp ee ss mm aa bb me cd RR QQ Z hx hb hml hown hts hRf hRl hP hK hA hS hend ls hl
  have hown : ss.vm.findClass RX4 = some mm.cls := hown
  have hRf : 4 ≤ RR.frames := hRf
  have hRl : 106 ≤ RR.locals := hRl
  have hl : lv_has ls 6 [(0, .ref (q 0))] := hl
  obtain ⟨w0, w1, w2, w3, w4, w5, w6, w7, w8, wA0, wA1, wA2⟩ := id hW
  have wC : n 0 * n 1 ≤ 42 := Nat.mul_le_mul w0 w1
  have hf47 := hts (.fieldLink RX4 47 "StatueSquareModel" "statueAt" "I") (List.mem_of_getElem? (i := 1) rfl)
  have hinX4 : ∀ w ∈ u_ws RX4 TX4 31, w ∈ wsX4_second := fun _ h => List.mem_cons_of_mem _ (List.mem_append_right _ h)
  have hf163 := hts (.fieldLink RX4 163 "StatueSquareModel" "blockNow" "I") (List.mem_of_getElem? (i := 2) rfl)
  have hf7 := hts (.fieldLink RX4 7 "StatueSquareModel" "has" "[I") (List.mem_of_getElem? (i := 3) rfl)
  refine lv_aload_n hx hb dX4_second_0 rfl (lv_at hl 0 rfl) ?_
  refine x_get (D := (dC, dI)) (ci := 4) (v := .int (stI (n 6))) (C := RX4) (T := TX4) (N := 31) hx hb hts hinX4 hown hK hP 0 rfl rfl 24 (Nat.le_of_ble_eq_true rfl) hf47 rfl rfl dX4_second_1 ?_
  refine lv_if_ge (tgt := 11) hx hb dX4_second_4 (by decide) (fun c4 => ?_) (fun c4 => ?_)
  · skip
    have hst : 0 < n 6 := st_ge (by omega) c4
    refine lv_aload_n hx hb dX4_second_11 rfl (lv_at hl 0 rfl) ?_
    refine lv_aload_n hx hb dX4_second_12 rfl (lv_at hl 0 rfl) ?_
    refine x_get (D := (dC, dI)) (ci := 4) (v := .int (stI (n 6))) (C := RX4) (T := TX4) (N := 31) hx hb hts hinX4 hown hK hP 0 rfl rfl 24 (Nat.le_of_ble_eq_true rfl) hf47 rfl rfl dX4_second_13 ?_
    refine x_top (stI_pos hst) ?_
    refine lv_aload_n hx hb dX4_second_16 rfl (lv_at hl 0 rfl) ?_
    refine x_get (D := (dC, dI)) (ci := 4) (v := .int mb) (C := RX4) (T := TX4) (N := 31) hx hb hts hinX4 hown hK hP 0 rfl rfl 25 (Nat.le_of_ble_eq_true rfl) hf163 rfl rfl dX4_second_17 ?_
    refine x_top (hmb hst) ?_
    refine roV_i (As := [.int (nI (n 6 - 1)), .int (nI (n 7))]) (rest := []) ⟨hx, hb, hml, hown, hts⟩ (kX4_wholeAt l dC dI cI cZ q n mb f A Y hW hR hmb (n 6 - 1) (n 7) _ (by omega) (by omega)) (cwV 2 hts gX4_second_X4_wholeAt rfl rfl rfl hdX4_wholeAt ⟨Nat.le_trans (Nat.le_of_ble_eq_true rfl) hRf, Nat.le_trans (Nat.le_of_ble_eq_true rfl) hRl⟩) (va_recv hK hP (ci := 4) (q0 := 0) rfl rfl) hK hP rfl hl.1 rfl (Nat.le_of_ble_eq_true rfl) dX4_second_20 ⟨Nat.zero_le _, Nat.zero_le _⟩ hP hS hA (fun H locs hP hS => ?_)
    refine x_top (y := (nI (sWhole n A))) rfl ?_
    refine lv_istore_n (lv' := [(1, .int (nI (sWhole n A))), (0, .ref (q 0))]) hx hb dX4_second_23 rfl hl (by decide) rfl (fun ls hl => ?_)
    refine lv_lconst (v := 0) hx hb dX4_second_24 rfl ?_
    refine lv_lstore_n (lv' := [(2, .long 0), (1, .int (nI (sWhole n A))), (0, .ref (q 0))]) hx hb dX4_second_25 rfl hl (by decide) rfl (fun ls hl => ?_)
    refine lv_iconst (v := nI 0) hx hb dX4_second_26 rfl ?_
    refine lv_istore (lv' := [(4, .int (nI 0)), (2, .long 0), (1, .int (nI (sWhole n A))), (0, .ref (q 0))]) hx hb dX4_second_27 hl (by decide) rfl (fun ls hl => ?_)
    have L29 : ∀ (fuel : Nat) (k : Nat) (hk : k ≤ n 0 * n 1) (hfu : n 0 * n 1 - k < fuel) (H : Heap) (locs : List Loc), va_P (dC, dI) vwCl (wM cI cZ q n mb f Y) H → va_S Z ss.heap H locs → ∀ (ls : Array Slot), lv_has ls 6 [(0, .ref (q 0)), (1, .int (nI (sWhole n A))), (2, .long (lN (orB (fun c => decide (A 0 c = 0) && (decide (¬ c = n 6 - 1) && decide (sAny n A (sWhole n A) c = 0))) k))), (4, .int (nI k))] → W pp l ee RR ss mm aa bb me cd H locs 0 0 QQ (F0 mm 29 ls []) := by
      intro fuel
      induction fuel with
      | zero => intro k hk hfu; exact absurd hfu (Nat.not_lt_zero _)
      | succ fuel ih =>
        intro k hk hfu H locs hP hS ls hl
        refine lv_iload hx hb dX4_second_29 (lv_at hl 3 rfl) ?_
        refine lv_aload_n hx hb dX4_second_31 rfl (lv_at hl 0 rfl) ?_
        refine roV_i (As := []) (rest := [.int (nI k)]) ⟨hx, hb, hml, hown, hts⟩ (kX4_cells l dC dI cI cZ q n mb f A Y hW hR hmb  _ ) (cwV 0 hts gX4_second_X4_cells rfl rfl rfl hdX4_cells ⟨Nat.le_trans (Nat.le_of_ble_eq_true rfl) hRf, Nat.le_trans (Nat.le_of_ble_eq_true rfl) hRl⟩) (va_recv hK hP (ci := 4) (q0 := 0) rfl rfl) hK hP rfl hl.1 rfl (Nat.le_of_ble_eq_true rfl) dX4_second_32 ⟨Nat.zero_le _, Nat.zero_le _⟩ hP hS hA (fun H locs hP hS => ?_)
        refine x_icmp_ge (tgt := 96) hx hb (by omega) (by omega) dX4_second_35 (by decide) (fun c35 => ?_) (fun c35 => ?_)
        · skip
          refine lv_lload_n hx hb dX4_second_96 rfl (lv_at hl 2 rfl) ?_
          exact hend _ _ _ _ _ (by rw [uSecond, if_pos hst, show k = n 0 * n 1 from by omega]; rfl) hS dX4_second_97
        · skip
          refine lv_aload_n hx hb dX4_second_38 rfl (lv_at hl 0 rfl) ?_
          refine x_get (D := (dC, dI)) (ci := 4) (v := .ref (q 1)) (C := RX4) (T := TX4) (N := 31) hx hb hts hinX4 hown hK hP 0 rfl rfl 3 (Nat.le_of_ble_eq_true rfl) hf7 rfl rfl dX4_second_39 ?_
          refine lv_iload hx hb dX4_second_42 (lv_at hl 3 rfl) ?_
          refine x_iald (v := (nI (A 0 k))) hx hb hK hP 1 0 rfl rfl (by omega) (by decide) (hR.1 _ (by omega)) dX4_second_44 ?_
          refine x_if_ne (tgt := 61) hx hb (by have := wA0 k (by omega); omega) dX4_second_45 (by decide) (fun c45 => ?_) (fun c45 => ?_)
          · skip
            refine lv_iconst (v := nI 0) hx hb dX4_second_61 rfl ?_
            refine x_top (y := bI (decide (A 0 k = 0) && decide (¬ k = n 6 - 1))) (n0_b (by first | (rw [decide_eq_false c45]; rfl) | (rw [show decide (¬ k = n 6 - 1) = false from decide_eq_false (fun q => q c54), Bool.and_false]))) ?_
            refine lv_istore (lv' := [(5, .int (bI (decide (A 0 k = 0) && decide (¬ k = n 6 - 1)))), (0, .ref (q 0)), (1, .int (nI (sWhole n A))), (2, .long (lN (orB (fun c => decide (A 0 c = 0) && (decide (¬ c = n 6 - 1) && decide (sAny n A (sWhole n A) c = 0))) k))), (4, .int (nI k))]) hx hb dX4_second_62 hl (by decide) rfl (fun ls hl => ?_)
            refine lv_lload_n hx hb dX4_second_64 rfl (lv_at hl 3 rfl) ?_
            refine lv_iload hx hb dX4_second_65 (lv_at hl 0 rfl) ?_
            refine x_ifb_eq (tgt := 87) hx hb dX4_second_67 (by decide) (fun c67 => ?_) (fun c67 => ?_)
            · skip
              have hz : (fun c => decide (A 0 c = 0) && (decide (¬ c = n 6 - 1) && decide (sAny n A (sWhole n A) c = 0))) k = false := by show (decide (A 0 k = 0) && (decide (¬ k = n 6 - 1) && decide (sAny n A (sWhole n A) k = 0))) = false; rw [← Bool.and_assoc, c67]; rfl
              refine lv_lconst (v := 0) hx hb dX4_second_87 rfl ?_
              refine lv_lor hx hb dX4_second_88 ?_
              refine x_topl (y := lN (orB (fun c => decide (A 0 c = 0) && (decide (¬ c = n 6 - 1) && decide (sAny n A (sWhole n A) c = 0))) (k + 1))) (by rw [show (0 : Int64) = lN 0 from rfl, fb_orL, Nat.or_zero, orB_f (k := k) hz]) ?_
              refine lv_lstore_n (lv' := [(2, .long (lN (orB (fun c => decide (A 0 c = 0) && (decide (¬ c = n 6 - 1) && decide (sAny n A (sWhole n A) c = 0))) (k + 1)))), (5, .int (bI (decide (A 0 k = 0) && decide (¬ k = n 6 - 1)))), (0, .ref (q 0)), (1, .int (nI (sWhole n A))), (4, .int (nI k))]) hx hb dX4_second_89 rfl hl (by decide) rfl (fun ls hl => ?_)
              refine lv_iinc (v := (nI (k + 1))) (lv' := [(4, .int (nI (k + 1))), (2, .long (lN (orB (fun c => decide (A 0 c = 0) && (decide (¬ c = n 6 - 1) && decide (sAny n A (sWhole n A) c = 0))) (k + 1)))), (5, .int (bI (decide (A 0 k = 0) && decide (¬ k = n 6 - 1)))), (0, .ref (q 0)), (1, .int (nI (sWhole n A)))]) hx hb dX4_second_90 hl (k := 4) rfl (nI_add _ _) (by decide) rfl (fun ls hl => ?_)
              refine lv_goto (tgt := 29) hx hb dX4_second_93 (by decide) ?_
              exact ih (k + 1) (by omega) (by omega) _ _ hP hS _ (lv_sub hl [3, 4, 1, 0] rfl)
            · skip
              refine lv_aload_n hx hb dX4_second_70 rfl (lv_at hl 1 rfl) ?_
              refine lv_iload hx hb dX4_second_71 (lv_at hl 4 rfl) ?_
              refine lv_iload_n hx hb dX4_second_73 rfl (lv_at hl 2 rfl) ?_
              refine roV_i (As := [.int (nI k), .int (nI (sWhole n A))]) (rest := [.long (lN (orB (fun c => decide (A 0 c = 0) && (decide (¬ c = n 6 - 1) && decide (sAny n A (sWhole n A) c = 0))) k))]) ⟨hx, hb, hml, hown, hts⟩ (kX4_isUnseen l dC dI cI cZ q n mb f A Y hW hR hmb k (sWhole n A) _ hst (by omega) (Nat.lt_of_lt_of_le (orB_lt _ _) (Nat.pow_le_pow_right (by decide) w2))) (cwV 2 hts gX4_second_X4_isUnseen rfl rfl rfl hdX4_isUnseen ⟨Nat.le_trans (Nat.le_of_ble_eq_true rfl) hRf, Nat.le_trans (Nat.le_of_ble_eq_true rfl) hRl⟩) (va_recv hK hP (ci := 4) (q0 := 0) rfl rfl) hK hP rfl hl.1 rfl (Nat.le_of_ble_eq_true rfl) dX4_second_74 ⟨Nat.zero_le _, Nat.zero_le _⟩ hP hS hA (fun H locs hP hS => ?_)
              refine x_ifb_eq (tgt := 87) hx hb dX4_second_77 (by decide) (fun c77 => ?_) (fun c77 => ?_)
              · skip
                have hz : (fun c => decide (A 0 c = 0) && (decide (¬ c = n 6 - 1) && decide (sAny n A (sWhole n A) c = 0))) k = false := by show (decide (A 0 k = 0) && (decide (¬ k = n 6 - 1) && decide (sAny n A (sWhole n A) k = 0))) = false; rw [← Bool.and_assoc, c67, c77]; rfl
                refine lv_lconst (v := 0) hx hb dX4_second_87 rfl ?_
                refine lv_lor hx hb dX4_second_88 ?_
                refine x_topl (y := lN (orB (fun c => decide (A 0 c = 0) && (decide (¬ c = n 6 - 1) && decide (sAny n A (sWhole n A) c = 0))) (k + 1))) (by rw [show (0 : Int64) = lN 0 from rfl, fb_orL, Nat.or_zero, orB_f (k := k) hz]) ?_
                refine lv_lstore_n (lv' := [(2, .long (lN (orB (fun c => decide (A 0 c = 0) && (decide (¬ c = n 6 - 1) && decide (sAny n A (sWhole n A) c = 0))) (k + 1)))), (5, .int (bI (decide (A 0 k = 0) && decide (¬ k = n 6 - 1)))), (0, .ref (q 0)), (1, .int (nI (sWhole n A))), (4, .int (nI k))]) hx hb dX4_second_89 rfl hl (by decide) rfl (fun ls hl => ?_)
                refine lv_iinc (v := (nI (k + 1))) (lv' := [(4, .int (nI (k + 1))), (2, .long (lN (orB (fun c => decide (A 0 c = 0) && (decide (¬ c = n 6 - 1) && decide (sAny n A (sWhole n A) c = 0))) (k + 1)))), (5, .int (bI (decide (A 0 k = 0) && decide (¬ k = n 6 - 1)))), (0, .ref (q 0)), (1, .int (nI (sWhole n A)))]) hx hb dX4_second_90 hl (k := 4) rfl (nI_add _ _) (by decide) rfl (fun ls hl => ?_)
                refine lv_goto (tgt := 29) hx hb dX4_second_93 (by decide) ?_
                exact ih (k + 1) (by omega) (by omega) _ _ hP hS _ (lv_sub hl [3, 4, 1, 0] rfl)
              · skip
                have hz : (fun c => decide (A 0 c = 0) && (decide (¬ c = n 6 - 1) && decide (sAny n A (sWhole n A) c = 0))) k = true := by show (decide (A 0 k = 0) && (decide (¬ k = n 6 - 1) && decide (sAny n A (sWhole n A) k = 0))) = true; rw [← Bool.and_assoc, c67, c77]; rfl
                refine lv_lconst (v := 1) hx hb dX4_second_80 rfl ?_
                refine lv_iload hx hb dX4_second_81 (lv_at hl 4 rfl) ?_
                refine lv_lshl hx hb dX4_second_83 rfl ?_
                refine lv_goto (tgt := 88) hx hb dX4_second_84 (by decide) ?_
                refine lv_lor hx hb dX4_second_88 ?_
                refine x_topl (y := lN (orB (fun c => decide (A 0 c = 0) && (decide (¬ c = n 6 - 1) && decide (sAny n A (sWhole n A) c = 0))) (k + 1))) (sec_or (k := k) hz (by omega)) ?_
                refine lv_lstore_n (lv' := [(2, .long (lN (orB (fun c => decide (A 0 c = 0) && (decide (¬ c = n 6 - 1) && decide (sAny n A (sWhole n A) c = 0))) (k + 1)))), (5, .int (bI (decide (A 0 k = 0) && decide (¬ k = n 6 - 1)))), (0, .ref (q 0)), (1, .int (nI (sWhole n A))), (4, .int (nI k))]) hx hb dX4_second_89 rfl hl (by decide) rfl (fun ls hl => ?_)
                refine lv_iinc (v := (nI (k + 1))) (lv' := [(4, .int (nI (k + 1))), (2, .long (lN (orB (fun c => decide (A 0 c = 0) && (decide (¬ c = n 6 - 1) && decide (sAny n A (sWhole n A) c = 0))) (k + 1)))), (5, .int (bI (decide (A 0 k = 0) && decide (¬ k = n 6 - 1)))), (0, .ref (q 0)), (1, .int (nI (sWhole n A)))]) hx hb dX4_second_90 hl (k := 4) rfl (nI_add _ _) (by decide) rfl (fun ls hl => ?_)
                refine lv_goto (tgt := 29) hx hb dX4_second_93 (by decide) ?_
                exact ih (k + 1) (by omega) (by omega) _ _ hP hS _ (lv_sub hl [3, 4, 1, 0] rfl)
          · skip
            refine lv_iload hx hb dX4_second_48 (lv_at hl 3 rfl) ?_
            refine lv_aload_n hx hb dX4_second_50 rfl (lv_at hl 0 rfl) ?_
            refine x_get (D := (dC, dI)) (ci := 4) (v := .int (stI (n 6))) (C := RX4) (T := TX4) (N := 31) hx hb hts hinX4 hown hK hP 0 rfl rfl 24 (Nat.le_of_ble_eq_true rfl) hf47 rfl rfl dX4_second_51 ?_
            refine x_top (stI_pos hst) ?_
            refine x_icmp_eq (tgt := 61) hx hb (by omega) (by omega) dX4_second_54 (by decide) (fun c54 => ?_) (fun c54 => ?_)
            · skip
              refine lv_iconst (v := nI 0) hx hb dX4_second_61 rfl ?_
              refine x_top (y := bI (decide (A 0 k = 0) && decide (¬ k = n 6 - 1))) (n0_b (by first | (rw [decide_eq_false c45]; rfl) | (rw [show decide (¬ k = n 6 - 1) = false from decide_eq_false (fun q => q c54), Bool.and_false]))) ?_
              refine lv_istore (lv' := [(5, .int (bI (decide (A 0 k = 0) && decide (¬ k = n 6 - 1)))), (0, .ref (q 0)), (1, .int (nI (sWhole n A))), (2, .long (lN (orB (fun c => decide (A 0 c = 0) && (decide (¬ c = n 6 - 1) && decide (sAny n A (sWhole n A) c = 0))) k))), (4, .int (nI k))]) hx hb dX4_second_62 hl (by decide) rfl (fun ls hl => ?_)
              refine lv_lload_n hx hb dX4_second_64 rfl (lv_at hl 3 rfl) ?_
              refine lv_iload hx hb dX4_second_65 (lv_at hl 0 rfl) ?_
              refine x_ifb_eq (tgt := 87) hx hb dX4_second_67 (by decide) (fun c67 => ?_) (fun c67 => ?_)
              · skip
                have hz : (fun c => decide (A 0 c = 0) && (decide (¬ c = n 6 - 1) && decide (sAny n A (sWhole n A) c = 0))) k = false := by show (decide (A 0 k = 0) && (decide (¬ k = n 6 - 1) && decide (sAny n A (sWhole n A) k = 0))) = false; rw [← Bool.and_assoc, c67]; rfl
                refine lv_lconst (v := 0) hx hb dX4_second_87 rfl ?_
                refine lv_lor hx hb dX4_second_88 ?_
                refine x_topl (y := lN (orB (fun c => decide (A 0 c = 0) && (decide (¬ c = n 6 - 1) && decide (sAny n A (sWhole n A) c = 0))) (k + 1))) (by rw [show (0 : Int64) = lN 0 from rfl, fb_orL, Nat.or_zero, orB_f (k := k) hz]) ?_
                refine lv_lstore_n (lv' := [(2, .long (lN (orB (fun c => decide (A 0 c = 0) && (decide (¬ c = n 6 - 1) && decide (sAny n A (sWhole n A) c = 0))) (k + 1)))), (5, .int (bI (decide (A 0 k = 0) && decide (¬ k = n 6 - 1)))), (0, .ref (q 0)), (1, .int (nI (sWhole n A))), (4, .int (nI k))]) hx hb dX4_second_89 rfl hl (by decide) rfl (fun ls hl => ?_)
                refine lv_iinc (v := (nI (k + 1))) (lv' := [(4, .int (nI (k + 1))), (2, .long (lN (orB (fun c => decide (A 0 c = 0) && (decide (¬ c = n 6 - 1) && decide (sAny n A (sWhole n A) c = 0))) (k + 1)))), (5, .int (bI (decide (A 0 k = 0) && decide (¬ k = n 6 - 1)))), (0, .ref (q 0)), (1, .int (nI (sWhole n A)))]) hx hb dX4_second_90 hl (k := 4) rfl (nI_add _ _) (by decide) rfl (fun ls hl => ?_)
                refine lv_goto (tgt := 29) hx hb dX4_second_93 (by decide) ?_
                exact ih (k + 1) (by omega) (by omega) _ _ hP hS _ (lv_sub hl [3, 4, 1, 0] rfl)
              · skip
                refine lv_aload_n hx hb dX4_second_70 rfl (lv_at hl 1 rfl) ?_
                refine lv_iload hx hb dX4_second_71 (lv_at hl 4 rfl) ?_
                refine lv_iload_n hx hb dX4_second_73 rfl (lv_at hl 2 rfl) ?_
                refine roV_i (As := [.int (nI k), .int (nI (sWhole n A))]) (rest := [.long (lN (orB (fun c => decide (A 0 c = 0) && (decide (¬ c = n 6 - 1) && decide (sAny n A (sWhole n A) c = 0))) k))]) ⟨hx, hb, hml, hown, hts⟩ (kX4_isUnseen l dC dI cI cZ q n mb f A Y hW hR hmb k (sWhole n A) _ hst (by omega) (Nat.lt_of_lt_of_le (orB_lt _ _) (Nat.pow_le_pow_right (by decide) w2))) (cwV 2 hts gX4_second_X4_isUnseen rfl rfl rfl hdX4_isUnseen ⟨Nat.le_trans (Nat.le_of_ble_eq_true rfl) hRf, Nat.le_trans (Nat.le_of_ble_eq_true rfl) hRl⟩) (va_recv hK hP (ci := 4) (q0 := 0) rfl rfl) hK hP rfl hl.1 rfl (Nat.le_of_ble_eq_true rfl) dX4_second_74 ⟨Nat.zero_le _, Nat.zero_le _⟩ hP hS hA (fun H locs hP hS => ?_)
                refine x_ifb_eq (tgt := 87) hx hb dX4_second_77 (by decide) (fun c77 => ?_) (fun c77 => ?_)
                · skip
                  have hz : (fun c => decide (A 0 c = 0) && (decide (¬ c = n 6 - 1) && decide (sAny n A (sWhole n A) c = 0))) k = false := by show (decide (A 0 k = 0) && (decide (¬ k = n 6 - 1) && decide (sAny n A (sWhole n A) k = 0))) = false; rw [← Bool.and_assoc, c67, c77]; rfl
                  refine lv_lconst (v := 0) hx hb dX4_second_87 rfl ?_
                  refine lv_lor hx hb dX4_second_88 ?_
                  refine x_topl (y := lN (orB (fun c => decide (A 0 c = 0) && (decide (¬ c = n 6 - 1) && decide (sAny n A (sWhole n A) c = 0))) (k + 1))) (by rw [show (0 : Int64) = lN 0 from rfl, fb_orL, Nat.or_zero, orB_f (k := k) hz]) ?_
                  refine lv_lstore_n (lv' := [(2, .long (lN (orB (fun c => decide (A 0 c = 0) && (decide (¬ c = n 6 - 1) && decide (sAny n A (sWhole n A) c = 0))) (k + 1)))), (5, .int (bI (decide (A 0 k = 0) && decide (¬ k = n 6 - 1)))), (0, .ref (q 0)), (1, .int (nI (sWhole n A))), (4, .int (nI k))]) hx hb dX4_second_89 rfl hl (by decide) rfl (fun ls hl => ?_)
                  refine lv_iinc (v := (nI (k + 1))) (lv' := [(4, .int (nI (k + 1))), (2, .long (lN (orB (fun c => decide (A 0 c = 0) && (decide (¬ c = n 6 - 1) && decide (sAny n A (sWhole n A) c = 0))) (k + 1)))), (5, .int (bI (decide (A 0 k = 0) && decide (¬ k = n 6 - 1)))), (0, .ref (q 0)), (1, .int (nI (sWhole n A)))]) hx hb dX4_second_90 hl (k := 4) rfl (nI_add _ _) (by decide) rfl (fun ls hl => ?_)
                  refine lv_goto (tgt := 29) hx hb dX4_second_93 (by decide) ?_
                  exact ih (k + 1) (by omega) (by omega) _ _ hP hS _ (lv_sub hl [3, 4, 1, 0] rfl)
                · skip
                  have hz : (fun c => decide (A 0 c = 0) && (decide (¬ c = n 6 - 1) && decide (sAny n A (sWhole n A) c = 0))) k = true := by show (decide (A 0 k = 0) && (decide (¬ k = n 6 - 1) && decide (sAny n A (sWhole n A) k = 0))) = true; rw [← Bool.and_assoc, c67, c77]; rfl
                  refine lv_lconst (v := 1) hx hb dX4_second_80 rfl ?_
                  refine lv_iload hx hb dX4_second_81 (lv_at hl 4 rfl) ?_
                  refine lv_lshl hx hb dX4_second_83 rfl ?_
                  refine lv_goto (tgt := 88) hx hb dX4_second_84 (by decide) ?_
                  refine lv_lor hx hb dX4_second_88 ?_
                  refine x_topl (y := lN (orB (fun c => decide (A 0 c = 0) && (decide (¬ c = n 6 - 1) && decide (sAny n A (sWhole n A) c = 0))) (k + 1))) (sec_or (k := k) hz (by omega)) ?_
                  refine lv_lstore_n (lv' := [(2, .long (lN (orB (fun c => decide (A 0 c = 0) && (decide (¬ c = n 6 - 1) && decide (sAny n A (sWhole n A) c = 0))) (k + 1)))), (5, .int (bI (decide (A 0 k = 0) && decide (¬ k = n 6 - 1)))), (0, .ref (q 0)), (1, .int (nI (sWhole n A))), (4, .int (nI k))]) hx hb dX4_second_89 rfl hl (by decide) rfl (fun ls hl => ?_)
                  refine lv_iinc (v := (nI (k + 1))) (lv' := [(4, .int (nI (k + 1))), (2, .long (lN (orB (fun c => decide (A 0 c = 0) && (decide (¬ c = n 6 - 1) && decide (sAny n A (sWhole n A) c = 0))) (k + 1)))), (5, .int (bI (decide (A 0 k = 0) && decide (¬ k = n 6 - 1)))), (0, .ref (q 0)), (1, .int (nI (sWhole n A)))]) hx hb dX4_second_90 hl (k := 4) rfl (nI_add _ _) (by decide) rfl (fun ls hl => ?_)
                  refine lv_goto (tgt := 29) hx hb dX4_second_93 (by decide) ?_
                  exact ih (k + 1) (by omega) (by omega) _ _ hP hS _ (lv_sub hl [3, 4, 1, 0] rfl)
            · skip
              refine lv_iconst (v := nI 1) hx hb dX4_second_57 rfl ?_
              refine lv_goto (tgt := 62) hx hb dX4_second_58 (by decide) ?_
              refine x_top (y := bI (decide (A 0 k = 0) && decide (¬ k = n 6 - 1))) (n1_b (by rw [decide_eq_true c45, decide_eq_true c54]; rfl)) ?_
              refine lv_istore (lv' := [(5, .int (bI (decide (A 0 k = 0) && decide (¬ k = n 6 - 1)))), (0, .ref (q 0)), (1, .int (nI (sWhole n A))), (2, .long (lN (orB (fun c => decide (A 0 c = 0) && (decide (¬ c = n 6 - 1) && decide (sAny n A (sWhole n A) c = 0))) k))), (4, .int (nI k))]) hx hb dX4_second_62 hl (by decide) rfl (fun ls hl => ?_)
              refine lv_lload_n hx hb dX4_second_64 rfl (lv_at hl 3 rfl) ?_
              refine lv_iload hx hb dX4_second_65 (lv_at hl 0 rfl) ?_
              refine x_ifb_eq (tgt := 87) hx hb dX4_second_67 (by decide) (fun c67 => ?_) (fun c67 => ?_)
              · skip
                have hz : (fun c => decide (A 0 c = 0) && (decide (¬ c = n 6 - 1) && decide (sAny n A (sWhole n A) c = 0))) k = false := by show (decide (A 0 k = 0) && (decide (¬ k = n 6 - 1) && decide (sAny n A (sWhole n A) k = 0))) = false; rw [← Bool.and_assoc, c67]; rfl
                refine lv_lconst (v := 0) hx hb dX4_second_87 rfl ?_
                refine lv_lor hx hb dX4_second_88 ?_
                refine x_topl (y := lN (orB (fun c => decide (A 0 c = 0) && (decide (¬ c = n 6 - 1) && decide (sAny n A (sWhole n A) c = 0))) (k + 1))) (by rw [show (0 : Int64) = lN 0 from rfl, fb_orL, Nat.or_zero, orB_f (k := k) hz]) ?_
                refine lv_lstore_n (lv' := [(2, .long (lN (orB (fun c => decide (A 0 c = 0) && (decide (¬ c = n 6 - 1) && decide (sAny n A (sWhole n A) c = 0))) (k + 1)))), (5, .int (bI (decide (A 0 k = 0) && decide (¬ k = n 6 - 1)))), (0, .ref (q 0)), (1, .int (nI (sWhole n A))), (4, .int (nI k))]) hx hb dX4_second_89 rfl hl (by decide) rfl (fun ls hl => ?_)
                refine lv_iinc (v := (nI (k + 1))) (lv' := [(4, .int (nI (k + 1))), (2, .long (lN (orB (fun c => decide (A 0 c = 0) && (decide (¬ c = n 6 - 1) && decide (sAny n A (sWhole n A) c = 0))) (k + 1)))), (5, .int (bI (decide (A 0 k = 0) && decide (¬ k = n 6 - 1)))), (0, .ref (q 0)), (1, .int (nI (sWhole n A)))]) hx hb dX4_second_90 hl (k := 4) rfl (nI_add _ _) (by decide) rfl (fun ls hl => ?_)
                refine lv_goto (tgt := 29) hx hb dX4_second_93 (by decide) ?_
                exact ih (k + 1) (by omega) (by omega) _ _ hP hS _ (lv_sub hl [3, 4, 1, 0] rfl)
              · skip
                refine lv_aload_n hx hb dX4_second_70 rfl (lv_at hl 1 rfl) ?_
                refine lv_iload hx hb dX4_second_71 (lv_at hl 4 rfl) ?_
                refine lv_iload_n hx hb dX4_second_73 rfl (lv_at hl 2 rfl) ?_
                refine roV_i (As := [.int (nI k), .int (nI (sWhole n A))]) (rest := [.long (lN (orB (fun c => decide (A 0 c = 0) && (decide (¬ c = n 6 - 1) && decide (sAny n A (sWhole n A) c = 0))) k))]) ⟨hx, hb, hml, hown, hts⟩ (kX4_isUnseen l dC dI cI cZ q n mb f A Y hW hR hmb k (sWhole n A) _ hst (by omega) (Nat.lt_of_lt_of_le (orB_lt _ _) (Nat.pow_le_pow_right (by decide) w2))) (cwV 2 hts gX4_second_X4_isUnseen rfl rfl rfl hdX4_isUnseen ⟨Nat.le_trans (Nat.le_of_ble_eq_true rfl) hRf, Nat.le_trans (Nat.le_of_ble_eq_true rfl) hRl⟩) (va_recv hK hP (ci := 4) (q0 := 0) rfl rfl) hK hP rfl hl.1 rfl (Nat.le_of_ble_eq_true rfl) dX4_second_74 ⟨Nat.zero_le _, Nat.zero_le _⟩ hP hS hA (fun H locs hP hS => ?_)
                refine x_ifb_eq (tgt := 87) hx hb dX4_second_77 (by decide) (fun c77 => ?_) (fun c77 => ?_)
                · skip
                  have hz : (fun c => decide (A 0 c = 0) && (decide (¬ c = n 6 - 1) && decide (sAny n A (sWhole n A) c = 0))) k = false := by show (decide (A 0 k = 0) && (decide (¬ k = n 6 - 1) && decide (sAny n A (sWhole n A) k = 0))) = false; rw [← Bool.and_assoc, c67, c77]; rfl
                  refine lv_lconst (v := 0) hx hb dX4_second_87 rfl ?_
                  refine lv_lor hx hb dX4_second_88 ?_
                  refine x_topl (y := lN (orB (fun c => decide (A 0 c = 0) && (decide (¬ c = n 6 - 1) && decide (sAny n A (sWhole n A) c = 0))) (k + 1))) (by rw [show (0 : Int64) = lN 0 from rfl, fb_orL, Nat.or_zero, orB_f (k := k) hz]) ?_
                  refine lv_lstore_n (lv' := [(2, .long (lN (orB (fun c => decide (A 0 c = 0) && (decide (¬ c = n 6 - 1) && decide (sAny n A (sWhole n A) c = 0))) (k + 1)))), (5, .int (bI (decide (A 0 k = 0) && decide (¬ k = n 6 - 1)))), (0, .ref (q 0)), (1, .int (nI (sWhole n A))), (4, .int (nI k))]) hx hb dX4_second_89 rfl hl (by decide) rfl (fun ls hl => ?_)
                  refine lv_iinc (v := (nI (k + 1))) (lv' := [(4, .int (nI (k + 1))), (2, .long (lN (orB (fun c => decide (A 0 c = 0) && (decide (¬ c = n 6 - 1) && decide (sAny n A (sWhole n A) c = 0))) (k + 1)))), (5, .int (bI (decide (A 0 k = 0) && decide (¬ k = n 6 - 1)))), (0, .ref (q 0)), (1, .int (nI (sWhole n A)))]) hx hb dX4_second_90 hl (k := 4) rfl (nI_add _ _) (by decide) rfl (fun ls hl => ?_)
                  refine lv_goto (tgt := 29) hx hb dX4_second_93 (by decide) ?_
                  exact ih (k + 1) (by omega) (by omega) _ _ hP hS _ (lv_sub hl [3, 4, 1, 0] rfl)
                · skip
                  have hz : (fun c => decide (A 0 c = 0) && (decide (¬ c = n 6 - 1) && decide (sAny n A (sWhole n A) c = 0))) k = true := by show (decide (A 0 k = 0) && (decide (¬ k = n 6 - 1) && decide (sAny n A (sWhole n A) k = 0))) = true; rw [← Bool.and_assoc, c67, c77]; rfl
                  refine lv_lconst (v := 1) hx hb dX4_second_80 rfl ?_
                  refine lv_iload hx hb dX4_second_81 (lv_at hl 4 rfl) ?_
                  refine lv_lshl hx hb dX4_second_83 rfl ?_
                  refine lv_goto (tgt := 88) hx hb dX4_second_84 (by decide) ?_
                  refine lv_lor hx hb dX4_second_88 ?_
                  refine x_topl (y := lN (orB (fun c => decide (A 0 c = 0) && (decide (¬ c = n 6 - 1) && decide (sAny n A (sWhole n A) c = 0))) (k + 1))) (sec_or (k := k) hz (by omega)) ?_
                  refine lv_lstore_n (lv' := [(2, .long (lN (orB (fun c => decide (A 0 c = 0) && (decide (¬ c = n 6 - 1) && decide (sAny n A (sWhole n A) c = 0))) (k + 1)))), (5, .int (bI (decide (A 0 k = 0) && decide (¬ k = n 6 - 1)))), (0, .ref (q 0)), (1, .int (nI (sWhole n A))), (4, .int (nI k))]) hx hb dX4_second_89 rfl hl (by decide) rfl (fun ls hl => ?_)
                  refine lv_iinc (v := (nI (k + 1))) (lv' := [(4, .int (nI (k + 1))), (2, .long (lN (orB (fun c => decide (A 0 c = 0) && (decide (¬ c = n 6 - 1) && decide (sAny n A (sWhole n A) c = 0))) (k + 1)))), (5, .int (bI (decide (A 0 k = 0) && decide (¬ k = n 6 - 1)))), (0, .ref (q 0)), (1, .int (nI (sWhole n A)))]) hx hb dX4_second_90 hl (k := 4) rfl (nI_add _ _) (by decide) rfl (fun ls hl => ?_)
                  refine lv_goto (tgt := 29) hx hb dX4_second_93 (by decide) ?_
                  exact ih (k + 1) (by omega) (by omega) _ _ hP hS _ (lv_sub hl [3, 4, 1, 0] rfl)
    exact L29 _ 0 (by omega) (Nat.lt_succ_self _) _ _ hP hS _ (lv_sub hl [3, 2, 1, 0] rfl)
  · skip
    have hst : ¬ 0 < n 6 := st_lt (by omega) c4
    refine roS_l (As := []) (rest := []) ⟨hx, hb, hml, hown, hts⟩ (kX4_lost l dC dI  _ ) (va_cwS 0 hts gX4_second_X4_lost rfl rfl rfl hdX4_lost ⟨Nat.le_trans (Nat.le_of_ble_eq_true rfl) hRf, Nat.le_trans (Nat.le_of_ble_eq_true rfl) hRl⟩) (hK.sub [] rfl) (hP.sub [] rfl) rfl hl.1 rfl (Nat.le_of_ble_eq_true rfl) dX4_second_7 ⟨Nat.zero_le _, Nat.zero_le _⟩ hP hS hA (fun H locs hP hS => ?_)
    exact hend _ _ _ _ _ (by simp [uSecond, hst]) hS dX4_second_10
set_option maxRecDepth 20000 in
theorem ggX4_litBy_X4_far : GoodIn wsX4_litBy wsX4_far := goodIn_r _ [10] (by decide +kernel) (by decide +kernel)
set_option maxRecDepth 20000 in
theorem gX4_litBy_X4_far : GoodIn wsX4_litBy (va_wsS RX4 166 yX4_far wsX4_far) := goodIn_app (goodIn_of _ (by decide +kernel)) ggX4_litBy_X4_far
set_option maxRecDepth 20000 in
theorem ggX4_litBy_X4_tallNow : GoodIn wsX4_litBy wsX4_tallNow := goodIn_r _ [14, 4, 15, 16, 17, 18, 19, 20, 21, 22, 23, 24, 25, 26, 27, 28, 29, 30, 31, 32, 33, 34, 35, 36, 37, 38, 39, 40, 41, 42, 43, 44, 45, 46, 47, 48] (by decide +kernel) (by decide +kernel)
set_option maxRecDepth 20000 in
theorem gX4_litBy_X4_tallNow : GoodIn wsX4_litBy (wsV RX4 153 RX4 yX4_tallNow wsX4_tallNow) := goodIn_app (goodIn_of _ (by decide +kernel)) ggX4_litBy_X4_tallNow
set_option maxHeartbeats 4000000 in
set_option maxRecDepth 100000 in
theorem kX4_litBy (l : Launch) (dC : Nat → ClassId) (dI : Nat → Nat → Nat) (cI cZ : ClassId) (q n : Nat → Nat) (mb : Int32) (f : Nat → Int32) (A : Nat → Nat → Nat) (Y : Nat → Nat → Int32) (hW : WF n A) (hR : RM n A Y) (hmb : 0 < n 6 → mb = nI (n 7)) (t : Nat) (sz : Nat) (hst : 0 < n 6) (ht : t < n 3) : Met l yX4_litBy wsX4_litBy ({ frames := 1, cells := 0, slots := 0, locals := 22 }) (roP [.ref (q 0), .int (nI t)] sz (dC, dI) [(cI, .int), (cZ, .boolean)] (wM cI cZ q n mb f Y)) (roQi (nI (sLit n A t)) sz) 0 0 (va_A [] sz) := by
  refine ro_met_i (by decide) rfl (Nat.le_of_ble_eq_true rfl) ?_
  intro pp ee ss mm aa bb me cd RR QQ Z hx hb hml hown hts hRf hRl hP hK hA hS hend ls hl
  have hown : ss.vm.findClass RX4 = some mm.cls := hown
  have hRf : 1 ≤ RR.frames := hRf
  have hRl : 22 ≤ RR.locals := hRl
  have hl : lv_has ls 5 [(0, .ref (q 0)), (1, .int (nI t))] := hl
  obtain ⟨w0, w1, w2, w3, w4, w5, w6, w7, w8, wA0, wA1, wA2⟩ := id hW
  have wC : n 0 * n 1 ≤ 42 := Nat.mul_le_mul w0 w1
  have wt := wA2 t ht
  have hw0 : 0 < n 1 := Nat.pos_of_ne_zero fun h => by rw [h] at wt; omega
  have b1 : A 3 t / n 1 ≤ 42 := Nat.le_trans (Nat.div_le_self _ _) (by omega)
  have b2 : (n 6 - 1) / n 1 ≤ 42 := Nat.le_trans (Nat.div_le_self _ _) (by omega)
  have b3 : A 3 t % n 1 ≤ 42 := Nat.le_trans (Nat.mod_le _ _) (by omega)
  have b4 : (n 6 - 1) % n 1 ≤ 42 := Nat.le_trans (Nat.mod_le _ _) (by omega)
  have b5 : dd (A 3 t / n 1) ((n 6 - 1) / n 1) ≤ 42 := dd_le b1 b2
  have b6 : dd (A 3 t % n 1) ((n 6 - 1) % n 1) ≤ 42 := dd_le b3 b4
  have b7 : sTall n A (n 4) t ≤ 20 := sTall_le (by omega) w4
  have hf19 := hts (.fieldLink RX4 19 "StatueSquareModel" "thingAt" "[I") (List.mem_of_getElem? (i := 1) rfl)
  have hinX4 : ∀ w ∈ u_ws RX4 TX4 31, w ∈ wsX4_litBy := fun _ h => List.mem_cons_of_mem _ (List.mem_append_right _ h)
  have hf75 := hts (.fieldLink RX4 75 "StatueSquareModel" "wide" "I") (List.mem_of_getElem? (i := 2) rfl)
  have hf47 := hts (.fieldLink RX4 47 "StatueSquareModel" "statueAt" "I") (List.mem_of_getElem? (i := 3) rfl)
  have hf16 := hts (.fieldLink RX4 16 "StatueSquareModel" "kindOf" "[I") (List.mem_of_getElem? (i := 4) rfl)
  have hf25 := hts (.fieldLink RX4 25 "StatueSquareModel" "isCut" "[Z") (List.mem_of_getElem? (i := 5) rfl)
  have hf163 := hts (.fieldLink RX4 163 "StatueSquareModel" "blockNow" "I") (List.mem_of_getElem? (i := 6) rfl)
  refine lv_aload_n hx hb dX4_litBy_0 rfl (lv_at hl 0 rfl) ?_
  refine x_get (D := (dC, dI)) (ci := 4) (v := .ref (q 4)) (C := RX4) (T := TX4) (N := 31) hx hb hts hinX4 hown hK hP 0 rfl rfl 8 (Nat.le_of_ble_eq_true rfl) hf19 rfl rfl dX4_litBy_1 ?_
  refine lv_iload_n hx hb dX4_litBy_4 rfl (lv_at hl 1 rfl) ?_
  refine x_iald (v := (nI (A 3 t))) hx hb hK hP 4 0 rfl rfl (by omega) (by decide) (hR.2.2 _ (by omega)).2.1 dX4_litBy_5 ?_
  refine lv_aload_n hx hb dX4_litBy_6 rfl (lv_at hl 0 rfl) ?_
  refine x_get (D := (dC, dI)) (ci := 4) (v := .int (nI (n 1))) (C := RX4) (T := TX4) (N := 31) hx hb hts hinX4 hown hK hP 0 rfl rfl 2 (Nat.le_of_ble_eq_true rfl) hf75 rfl rfl dX4_litBy_7 ?_
  refine x_idiv hx hb (by omega) hw0 (by omega) dX4_litBy_10 ?_
  refine lv_aload_n hx hb dX4_litBy_11 rfl (lv_at hl 0 rfl) ?_
  refine x_get (D := (dC, dI)) (ci := 4) (v := .int (stI (n 6))) (C := RX4) (T := TX4) (N := 31) hx hb hts hinX4 hown hK hP 0 rfl rfl 24 (Nat.le_of_ble_eq_true rfl) hf47 rfl rfl dX4_litBy_12 ?_
  refine x_top (stI_pos hst) ?_
  refine lv_aload_n hx hb dX4_litBy_15 rfl (lv_at hl 0 rfl) ?_
  refine x_get (D := (dC, dI)) (ci := 4) (v := .int (nI (n 1))) (C := RX4) (T := TX4) (N := 31) hx hb hts hinX4 hown hK hP 0 rfl rfl 2 (Nat.le_of_ble_eq_true rfl) hf75 rfl rfl dX4_litBy_16 ?_
  refine x_idiv hx hb (by omega) hw0 (by omega) dX4_litBy_19 ?_
  refine roS_i (As := [.int (nI ((A 3 t) / (n 1))), .int (nI ((n 6 - 1) / (n 1)))]) (rest := []) ⟨hx, hb, hml, hown, hts⟩ (kX4_far l dC dI (nI ((A 3 t) / (n 1))) (nI ((n 6 - 1) / (n 1))) _ ) (va_cwS 2 hts gX4_litBy_X4_far rfl rfl rfl hdX4_far ⟨Nat.le_trans (Nat.le_of_ble_eq_true rfl) hRf, Nat.le_trans (Nat.le_of_ble_eq_true rfl) hRl⟩) (hK.sub [] rfl) (hP.sub [] rfl) rfl hl.1 rfl (Nat.le_of_ble_eq_true rfl) dX4_litBy_20 ⟨Nat.zero_le _, Nat.zero_le _⟩ hP hS hA (fun H locs hP hS => ?_)
  refine x_top (y := (nI (dd (A 3 t / n 1) ((n 6 - 1) / n 1)))) (farI_nn (by omega) (by omega)) ?_
  refine lv_iconst (v := nI 4) hx hb dX4_litBy_23 rfl ?_
  refine x_icmp_ge (tgt := 58) hx hb (by omega) (by omega) dX4_litBy_24 (by decide) (fun c24 => ?_) (fun c24 => ?_)
  · skip
    refine lv_iconst (v := nI 0) hx hb dX4_litBy_58 rfl ?_
    refine x_top (y := bI (decide (dd (A 3 t / n 1) ((n 6 - 1) / n 1) ≤ 3 ∧ dd (A 3 t % n 1) ((n 6 - 1) % n 1) ≤ 3))) (n0_b (decide_eq_false (fun q => by omega))) ?_
    refine lv_istore_n (lv' := [(2, .int (bI (decide (dd (A 3 t / n 1) ((n 6 - 1) / n 1) ≤ 3 ∧ dd (A 3 t % n 1) ((n 6 - 1) % n 1) ≤ 3)))), (0, .ref (q 0)), (1, .int (nI t))]) hx hb dX4_litBy_59 rfl hl (by decide) rfl (fun ls hl => ?_)
    refine lv_iconst (v := nI 0) hx hb dX4_litBy_60 rfl ?_
    refine lv_istore_n (lv' := [(3, .int (nI 0)), (2, .int (bI (decide (dd (A 3 t / n 1) ((n 6 - 1) / n 1) ≤ 3 ∧ dd (A 3 t % n 1) ((n 6 - 1) % n 1) ≤ 3)))), (0, .ref (q 0)), (1, .int (nI t))]) hx hb dX4_litBy_61 rfl hl (by decide) rfl (fun ls hl => ?_)
    refine lv_iconst (v := nI 0) hx hb dX4_litBy_62 rfl ?_
    refine lv_istore (lv' := [(4, .int (nI 0)), (3, .int (nI 0)), (2, .int (bI (decide (dd (A 3 t / n 1) ((n 6 - 1) / n 1) ≤ 3 ∧ dd (A 3 t % n 1) ((n 6 - 1) % n 1) ≤ 3)))), (0, .ref (q 0)), (1, .int (nI t))]) hx hb dX4_litBy_63 hl (by decide) rfl (fun ls hl => ?_)
    have L65 : ∀ (fuel : Nat) (k : Nat) (hk : k ≤ 4) (hcd : k = 0 ∨ (A 2 t = 0 ∧ sThere n t = true ∧ dd (A 3 t / n 1) ((n 6 - 1) / n 1) ≤ 3 ∧ dd (A 3 t % n 1) ((n 6 - 1) % n 1) ≤ 3)) (hfu : 4 - k < fuel) (H : Heap) (locs : List Loc), va_P (dC, dI) vwCl (wM cI cZ q n mb f Y) H → va_S Z ss.heap H locs → ∀ (ls : Array Slot), lv_has ls 5 [(0, .ref (q 0)), (1, .int (nI t)), (2, .int (bI (decide (dd (A 3 t / n 1) ((n 6 - 1) / n 1) ≤ 3 ∧ dd (A 3 t % n 1) ((n 6 - 1) % n 1) ≤ 3)))), (3, .int (nI (orB (fun p => decide (n 7 + (1 + 2 * p) ≤ sTall n A (n 4) t)) k))), (4, .int (nI k))] → W pp l ee RR ss mm aa bb me cd H locs 0 0 QQ (F0 mm 65 ls []) := by
      intro fuel
      induction fuel with
      | zero => intro k hk hcd hfu; exact absurd hfu (Nat.not_lt_zero _)
      | succ fuel ih =>
        intro k hk hcd hfu H locs hP hS ls hl
        refine lv_iload hx hb dX4_litBy_65 (lv_at hl 4 rfl) ?_
        refine lv_iconst (v := nI 4) hx hb dX4_litBy_67 rfl ?_
        refine x_icmp_ge (tgt := 129) hx hb (by omega) (by omega) dX4_litBy_68 (by decide) (fun c68 => ?_) (fun c68 => ?_)
        · skip
          refine lv_iload_n hx hb dX4_litBy_129 rfl (lv_at hl 3 rfl) ?_
          exact hend _ _ _ _ _ (congrArg nI (lit_end (k := k) (T := sTall n A (n 4) t) (n7 := n 7) rfl hcd (by first | exact Or.inl (show k = 4 from by omega) | exact Or.inr (fun q => by first | exact absurd q.2.2 (of_decide_eq_false c72) | exact absurd q.1 c81 | (have := q.2.1; rw [sThere, c90] at this; exact absurd this (by decide)))))) hS dX4_litBy_130
        · skip
          refine lv_iload_n hx hb dX4_litBy_71 rfl (lv_at hl 2 rfl) ?_
          refine x_ifb_eq (tgt := 129) hx hb dX4_litBy_72 (by decide) (fun c72 => ?_) (fun c72 => ?_)
          · skip
            refine lv_iload_n hx hb dX4_litBy_129 rfl (lv_at hl 3 rfl) ?_
            exact hend _ _ _ _ _ (congrArg nI (lit_end (k := k) (T := sTall n A (n 4) t) (n7 := n 7) rfl hcd (by first | exact Or.inl (show k = 4 from by omega) | exact Or.inr (fun q => by first | exact absurd q.2.2 (of_decide_eq_false c72) | exact absurd q.1 c81 | (have := q.2.1; rw [sThere, c90] at this; exact absurd this (by decide)))))) hS dX4_litBy_130
          · skip
            refine lv_aload_n hx hb dX4_litBy_75 rfl (lv_at hl 0 rfl) ?_
            refine x_get (D := (dC, dI)) (ci := 4) (v := .ref (q 3)) (C := RX4) (T := TX4) (N := 31) hx hb hts hinX4 hown hK hP 0 rfl rfl 7 (Nat.le_of_ble_eq_true rfl) hf16 rfl rfl dX4_litBy_76 ?_
            refine lv_iload_n hx hb dX4_litBy_79 rfl (lv_at hl 1 rfl) ?_
            refine x_iald (v := (nI (A 2 t))) hx hb hK hP 3 0 rfl rfl (by omega) (by decide) (hR.2.2 _ (by omega)).1 dX4_litBy_80 ?_
            refine x_if_ne (tgt := 129) hx hb (by omega) dX4_litBy_81 (by decide) (fun c81 => ?_) (fun c81 => ?_)
            · skip
              refine lv_iload_n hx hb dX4_litBy_129 rfl (lv_at hl 3 rfl) ?_
              exact hend _ _ _ _ _ (congrArg nI (lit_end (k := k) (T := sTall n A (n 4) t) (n7 := n 7) rfl hcd (by first | exact Or.inl (show k = 4 from by omega) | exact Or.inr (fun q => by first | exact absurd q.2.2 (of_decide_eq_false c72) | exact absurd q.1 c81 | (have := q.2.1; rw [sThere, c90] at this; exact absurd this (by decide)))))) hS dX4_litBy_130
            · skip
              refine lv_aload_n hx hb dX4_litBy_84 rfl (lv_at hl 0 rfl) ?_
              refine x_get (D := (dC, dI)) (ci := 4) (v := .ref (q 6)) (C := RX4) (T := TX4) (N := 31) hx hb hts hinX4 hown hK hP 0 rfl rfl 10 (Nat.le_of_ble_eq_true rfl) hf25 rfl rfl dX4_litBy_85 ?_
              refine lv_iload_n hx hb dX4_litBy_88 rfl (lv_at hl 1 rfl) ?_
              refine x_zald (v := (bI ((n 8).testBit t))) hx hb hK hP 6 1 rfl rfl (by omega) (by decide) (hR.2.2 _ (by omega)).2.2.2.1 dX4_litBy_89 ?_
              refine x_ifb_ne (tgt := 129) hx hb dX4_litBy_90 (by decide) (fun c90 => ?_) (fun c90 => ?_)
              · skip
                refine lv_iload_n hx hb dX4_litBy_129 rfl (lv_at hl 3 rfl) ?_
                exact hend _ _ _ _ _ (congrArg nI (lit_end (k := k) (T := sTall n A (n 4) t) (n7 := n 7) rfl hcd (by first | exact Or.inl (show k = 4 from by omega) | exact Or.inr (fun q => by first | exact absurd q.2.2 (of_decide_eq_false c72) | exact absurd q.1 c81 | (have := q.2.1; rw [sThere, c90] at this; exact absurd this (by decide)))))) hS dX4_litBy_130
              · skip
                refine lv_iload_n hx hb dX4_litBy_93 rfl (lv_at hl 3 rfl) ?_
                refine lv_aload_n hx hb dX4_litBy_94 rfl (lv_at hl 0 rfl) ?_
                refine x_get (D := (dC, dI)) (ci := 4) (v := .int mb) (C := RX4) (T := TX4) (N := 31) hx hb hts hinX4 hown hK hP 0 rfl rfl 25 (Nat.le_of_ble_eq_true rfl) hf163 rfl rfl dX4_litBy_95 ?_
                refine x_top (hmb hst) ?_
                refine lv_iconst (v := nI 1) hx hb dX4_litBy_98 rfl ?_
                refine x_iadd hx hb dX4_litBy_99 ?_
                refine lv_iconst (v := nI 2) hx hb dX4_litBy_100 rfl ?_
                refine lv_iload hx hb dX4_litBy_101 (lv_at hl 4 rfl) ?_
                refine x_imul hx hb dX4_litBy_103 ?_
                refine x_iadd hx hb dX4_litBy_104 ?_
                refine lv_aload_n hx hb dX4_litBy_105 rfl (lv_at hl 0 rfl) ?_
                refine lv_iload_n hx hb dX4_litBy_106 rfl (lv_at hl 1 rfl) ?_
                refine roV_i (As := [.int (nI t)]) (rest := [.int (nI (((n 7) + 1) + (2 * k))), .int (nI (orB (fun p => decide (n 7 + (1 + 2 * p) ≤ sTall n A (n 4) t)) k))]) ⟨hx, hb, hml, hown, hts⟩ (kX4_tallNow l dC dI cI cZ q n mb f A Y hW hR hmb t _ (by omega)) (cwV 1 hts gX4_litBy_X4_tallNow rfl rfl rfl hdX4_tallNow ⟨Nat.le_trans (Nat.le_of_ble_eq_true rfl) hRf, Nat.le_trans (Nat.le_of_ble_eq_true rfl) hRl⟩) (va_recv hK hP (ci := 4) (q0 := 0) rfl rfl) hK hP rfl hl.1 rfl (Nat.le_of_ble_eq_true rfl) dX4_litBy_107 ⟨Nat.zero_le _, Nat.zero_le _⟩ hP hS hA (fun H locs hP hS => ?_)
                refine x_icmp_gt (tgt := 120) hx hb (by omega) (by omega) dX4_litBy_110 (by decide) (fun c110 => ?_) (fun c110 => ?_)
                · skip
                  have hz : (fun p => decide (n 7 + (1 + 2 * p) ≤ sTall n A (n 4) t)) k = false := decide_eq_false (by omega)
                  refine lv_iconst (v := nI 0) hx hb dX4_litBy_120 rfl ?_
                  refine x_ior hx hb dX4_litBy_121 ?_
                  refine lv_istore_n (lv' := [(3, .int (nI ((orB (fun p => decide (n 7 + (1 + 2 * p) ≤ sTall n A (n 4) t)) k) ||| 0))), (0, .ref (q 0)), (1, .int (nI t)), (2, .int (bI (decide (dd (A 3 t / n 1) ((n 6 - 1) / n 1) ≤ 3 ∧ dd (A 3 t % n 1) ((n 6 - 1) % n 1) ≤ 3)))), (4, .int (nI k))]) hx hb dX4_litBy_122 rfl hl (by decide) rfl (fun ls hl => ?_)
                  refine lv_iinc (v := (nI (k + 1))) (lv' := [(4, .int (nI (k + 1))), (3, .int (nI ((orB (fun p => decide (n 7 + (1 + 2 * p) ≤ sTall n A (n 4) t)) k) ||| 0))), (0, .ref (q 0)), (1, .int (nI t)), (2, .int (bI (decide (dd (A 3 t / n 1) ((n 6 - 1) / n 1) ≤ 3 ∧ dd (A 3 t % n 1) ((n 6 - 1) % n 1) ≤ 3))))]) hx hb dX4_litBy_123 hl (k := 4) rfl (nI_add _ _) (by decide) rfl (fun ls hl => ?_)
                  refine lv_goto (tgt := 65) hx hb dX4_litBy_126 (by decide) ?_
                  exact ih (k + 1) (by omega) (Or.inr ⟨c81, by rw [sThere, c90]; rfl, of_decide_eq_true c72⟩) (by omega) _ _ hP hS _ (by rw [show orB (fun p => decide (n 7 + (1 + 2 * p) ≤ sTall n A (n 4) t)) (k + 1) = ((orB (fun p => decide (n 7 + (1 + 2 * p) ≤ sTall n A (n 4) t)) k) ||| 0) from (orB_f (k := k) hz).symm.trans (Nat.or_zero _).symm]; exact lv_sub hl [2, 3, 4, 1, 0] rfl)
                · skip
                  have hz : (fun p => decide (n 7 + (1 + 2 * p) ≤ sTall n A (n 4) t)) k = true := decide_eq_true (by omega)
                  refine lv_iconst (v := nI 1) hx hb dX4_litBy_113 rfl ?_
                  refine lv_iload hx hb dX4_litBy_114 (lv_at hl 4 rfl) ?_
                  refine x_shl1 hx hb (by omega) dX4_litBy_116 ?_
                  refine lv_goto (tgt := 121) hx hb dX4_litBy_117 (by decide) ?_
                  refine x_ior hx hb dX4_litBy_121 ?_
                  refine lv_istore_n (lv' := [(3, .int (nI ((orB (fun p => decide (n 7 + (1 + 2 * p) ≤ sTall n A (n 4) t)) k) ||| (2 ^ k)))), (0, .ref (q 0)), (1, .int (nI t)), (2, .int (bI (decide (dd (A 3 t / n 1) ((n 6 - 1) / n 1) ≤ 3 ∧ dd (A 3 t % n 1) ((n 6 - 1) % n 1) ≤ 3)))), (4, .int (nI k))]) hx hb dX4_litBy_122 rfl hl (by decide) rfl (fun ls hl => ?_)
                  refine lv_iinc (v := (nI (k + 1))) (lv' := [(4, .int (nI (k + 1))), (3, .int (nI ((orB (fun p => decide (n 7 + (1 + 2 * p) ≤ sTall n A (n 4) t)) k) ||| (2 ^ k)))), (0, .ref (q 0)), (1, .int (nI t)), (2, .int (bI (decide (dd (A 3 t / n 1) ((n 6 - 1) / n 1) ≤ 3 ∧ dd (A 3 t % n 1) ((n 6 - 1) % n 1) ≤ 3))))]) hx hb dX4_litBy_123 hl (k := 4) rfl (nI_add _ _) (by decide) rfl (fun ls hl => ?_)
                  refine lv_goto (tgt := 65) hx hb dX4_litBy_126 (by decide) ?_
                  exact ih (k + 1) (by omega) (Or.inr ⟨c81, by rw [sThere, c90]; rfl, of_decide_eq_true c72⟩) (by omega) _ _ hP hS _ (by rw [show orB (fun p => decide (n 7 + (1 + 2 * p) ≤ sTall n A (n 4) t)) (k + 1) = ((orB (fun p => decide (n 7 + (1 + 2 * p) ≤ sTall n A (n 4) t)) k) ||| (2 ^ k)) from (orB_t (k := k) hz).symm]; exact lv_sub hl [2, 3, 4, 1, 0] rfl)
    exact L65 _ 0 (by omega) (Or.inl rfl) (Nat.lt_succ_self _) _ _ hP hS _ (lv_sub hl [3, 4, 2, 1, 0] rfl)
  · skip
    refine lv_aload_n hx hb dX4_litBy_27 rfl (lv_at hl 0 rfl) ?_
    refine x_get (D := (dC, dI)) (ci := 4) (v := .ref (q 4)) (C := RX4) (T := TX4) (N := 31) hx hb hts hinX4 hown hK hP 0 rfl rfl 8 (Nat.le_of_ble_eq_true rfl) hf19 rfl rfl dX4_litBy_28 ?_
    refine lv_iload_n hx hb dX4_litBy_31 rfl (lv_at hl 1 rfl) ?_
    refine x_iald (v := (nI (A 3 t))) hx hb hK hP 4 0 rfl rfl (by omega) (by decide) (hR.2.2 _ (by omega)).2.1 dX4_litBy_32 ?_
    refine lv_aload_n hx hb dX4_litBy_33 rfl (lv_at hl 0 rfl) ?_
    refine x_get (D := (dC, dI)) (ci := 4) (v := .int (nI (n 1))) (C := RX4) (T := TX4) (N := 31) hx hb hts hinX4 hown hK hP 0 rfl rfl 2 (Nat.le_of_ble_eq_true rfl) hf75 rfl rfl dX4_litBy_34 ?_
    refine x_irem hx hb (by omega) hw0 (by omega) dX4_litBy_37 ?_
    refine lv_aload_n hx hb dX4_litBy_38 rfl (lv_at hl 0 rfl) ?_
    refine x_get (D := (dC, dI)) (ci := 4) (v := .int (stI (n 6))) (C := RX4) (T := TX4) (N := 31) hx hb hts hinX4 hown hK hP 0 rfl rfl 24 (Nat.le_of_ble_eq_true rfl) hf47 rfl rfl dX4_litBy_39 ?_
    refine x_top (stI_pos hst) ?_
    refine lv_aload_n hx hb dX4_litBy_42 rfl (lv_at hl 0 rfl) ?_
    refine x_get (D := (dC, dI)) (ci := 4) (v := .int (nI (n 1))) (C := RX4) (T := TX4) (N := 31) hx hb hts hinX4 hown hK hP 0 rfl rfl 2 (Nat.le_of_ble_eq_true rfl) hf75 rfl rfl dX4_litBy_43 ?_
    refine x_irem hx hb (by omega) hw0 (by omega) dX4_litBy_46 ?_
    refine roS_i (As := [.int (nI ((A 3 t) % (n 1))), .int (nI ((n 6 - 1) % (n 1)))]) (rest := []) ⟨hx, hb, hml, hown, hts⟩ (kX4_far l dC dI (nI ((A 3 t) % (n 1))) (nI ((n 6 - 1) % (n 1))) _ ) (va_cwS 2 hts gX4_litBy_X4_far rfl rfl rfl hdX4_far ⟨Nat.le_trans (Nat.le_of_ble_eq_true rfl) hRf, Nat.le_trans (Nat.le_of_ble_eq_true rfl) hRl⟩) (hK.sub [] rfl) (hP.sub [] rfl) rfl hl.1 rfl (Nat.le_of_ble_eq_true rfl) dX4_litBy_47 ⟨Nat.zero_le _, Nat.zero_le _⟩ hP hS hA (fun H locs hP hS => ?_)
    refine x_top (y := (nI (dd (A 3 t % n 1) ((n 6 - 1) % n 1)))) (farI_nn (by omega) (by omega)) ?_
    refine lv_iconst (v := nI 4) hx hb dX4_litBy_50 rfl ?_
    refine x_icmp_ge (tgt := 58) hx hb (by omega) (by omega) dX4_litBy_51 (by decide) (fun c51 => ?_) (fun c51 => ?_)
    · skip
      refine lv_iconst (v := nI 0) hx hb dX4_litBy_58 rfl ?_
      refine x_top (y := bI (decide (dd (A 3 t / n 1) ((n 6 - 1) / n 1) ≤ 3 ∧ dd (A 3 t % n 1) ((n 6 - 1) % n 1) ≤ 3))) (n0_b (decide_eq_false (fun q => by omega))) ?_
      refine lv_istore_n (lv' := [(2, .int (bI (decide (dd (A 3 t / n 1) ((n 6 - 1) / n 1) ≤ 3 ∧ dd (A 3 t % n 1) ((n 6 - 1) % n 1) ≤ 3)))), (0, .ref (q 0)), (1, .int (nI t))]) hx hb dX4_litBy_59 rfl hl (by decide) rfl (fun ls hl => ?_)
      refine lv_iconst (v := nI 0) hx hb dX4_litBy_60 rfl ?_
      refine lv_istore_n (lv' := [(3, .int (nI 0)), (2, .int (bI (decide (dd (A 3 t / n 1) ((n 6 - 1) / n 1) ≤ 3 ∧ dd (A 3 t % n 1) ((n 6 - 1) % n 1) ≤ 3)))), (0, .ref (q 0)), (1, .int (nI t))]) hx hb dX4_litBy_61 rfl hl (by decide) rfl (fun ls hl => ?_)
      refine lv_iconst (v := nI 0) hx hb dX4_litBy_62 rfl ?_
      refine lv_istore (lv' := [(4, .int (nI 0)), (3, .int (nI 0)), (2, .int (bI (decide (dd (A 3 t / n 1) ((n 6 - 1) / n 1) ≤ 3 ∧ dd (A 3 t % n 1) ((n 6 - 1) % n 1) ≤ 3)))), (0, .ref (q 0)), (1, .int (nI t))]) hx hb dX4_litBy_63 hl (by decide) rfl (fun ls hl => ?_)
      have L65 : ∀ (fuel : Nat) (k : Nat) (hk : k ≤ 4) (hcd : k = 0 ∨ (A 2 t = 0 ∧ sThere n t = true ∧ dd (A 3 t / n 1) ((n 6 - 1) / n 1) ≤ 3 ∧ dd (A 3 t % n 1) ((n 6 - 1) % n 1) ≤ 3)) (hfu : 4 - k < fuel) (H : Heap) (locs : List Loc), va_P (dC, dI) vwCl (wM cI cZ q n mb f Y) H → va_S Z ss.heap H locs → ∀ (ls : Array Slot), lv_has ls 5 [(0, .ref (q 0)), (1, .int (nI t)), (2, .int (bI (decide (dd (A 3 t / n 1) ((n 6 - 1) / n 1) ≤ 3 ∧ dd (A 3 t % n 1) ((n 6 - 1) % n 1) ≤ 3)))), (3, .int (nI (orB (fun p => decide (n 7 + (1 + 2 * p) ≤ sTall n A (n 4) t)) k))), (4, .int (nI k))] → W pp l ee RR ss mm aa bb me cd H locs 0 0 QQ (F0 mm 65 ls []) := by
        intro fuel
        induction fuel with
        | zero => intro k hk hcd hfu; exact absurd hfu (Nat.not_lt_zero _)
        | succ fuel ih =>
          intro k hk hcd hfu H locs hP hS ls hl
          refine lv_iload hx hb dX4_litBy_65 (lv_at hl 4 rfl) ?_
          refine lv_iconst (v := nI 4) hx hb dX4_litBy_67 rfl ?_
          refine x_icmp_ge (tgt := 129) hx hb (by omega) (by omega) dX4_litBy_68 (by decide) (fun c68 => ?_) (fun c68 => ?_)
          · skip
            refine lv_iload_n hx hb dX4_litBy_129 rfl (lv_at hl 3 rfl) ?_
            exact hend _ _ _ _ _ (congrArg nI (lit_end (k := k) (T := sTall n A (n 4) t) (n7 := n 7) rfl hcd (by first | exact Or.inl (show k = 4 from by omega) | exact Or.inr (fun q => by first | exact absurd q.2.2 (of_decide_eq_false c72) | exact absurd q.1 c81 | (have := q.2.1; rw [sThere, c90] at this; exact absurd this (by decide)))))) hS dX4_litBy_130
          · skip
            refine lv_iload_n hx hb dX4_litBy_71 rfl (lv_at hl 2 rfl) ?_
            refine x_ifb_eq (tgt := 129) hx hb dX4_litBy_72 (by decide) (fun c72 => ?_) (fun c72 => ?_)
            · skip
              refine lv_iload_n hx hb dX4_litBy_129 rfl (lv_at hl 3 rfl) ?_
              exact hend _ _ _ _ _ (congrArg nI (lit_end (k := k) (T := sTall n A (n 4) t) (n7 := n 7) rfl hcd (by first | exact Or.inl (show k = 4 from by omega) | exact Or.inr (fun q => by first | exact absurd q.2.2 (of_decide_eq_false c72) | exact absurd q.1 c81 | (have := q.2.1; rw [sThere, c90] at this; exact absurd this (by decide)))))) hS dX4_litBy_130
            · skip
              refine lv_aload_n hx hb dX4_litBy_75 rfl (lv_at hl 0 rfl) ?_
              refine x_get (D := (dC, dI)) (ci := 4) (v := .ref (q 3)) (C := RX4) (T := TX4) (N := 31) hx hb hts hinX4 hown hK hP 0 rfl rfl 7 (Nat.le_of_ble_eq_true rfl) hf16 rfl rfl dX4_litBy_76 ?_
              refine lv_iload_n hx hb dX4_litBy_79 rfl (lv_at hl 1 rfl) ?_
              refine x_iald (v := (nI (A 2 t))) hx hb hK hP 3 0 rfl rfl (by omega) (by decide) (hR.2.2 _ (by omega)).1 dX4_litBy_80 ?_
              refine x_if_ne (tgt := 129) hx hb (by omega) dX4_litBy_81 (by decide) (fun c81 => ?_) (fun c81 => ?_)
              · skip
                refine lv_iload_n hx hb dX4_litBy_129 rfl (lv_at hl 3 rfl) ?_
                exact hend _ _ _ _ _ (congrArg nI (lit_end (k := k) (T := sTall n A (n 4) t) (n7 := n 7) rfl hcd (by first | exact Or.inl (show k = 4 from by omega) | exact Or.inr (fun q => by first | exact absurd q.2.2 (of_decide_eq_false c72) | exact absurd q.1 c81 | (have := q.2.1; rw [sThere, c90] at this; exact absurd this (by decide)))))) hS dX4_litBy_130
              · skip
                refine lv_aload_n hx hb dX4_litBy_84 rfl (lv_at hl 0 rfl) ?_
                refine x_get (D := (dC, dI)) (ci := 4) (v := .ref (q 6)) (C := RX4) (T := TX4) (N := 31) hx hb hts hinX4 hown hK hP 0 rfl rfl 10 (Nat.le_of_ble_eq_true rfl) hf25 rfl rfl dX4_litBy_85 ?_
                refine lv_iload_n hx hb dX4_litBy_88 rfl (lv_at hl 1 rfl) ?_
                refine x_zald (v := (bI ((n 8).testBit t))) hx hb hK hP 6 1 rfl rfl (by omega) (by decide) (hR.2.2 _ (by omega)).2.2.2.1 dX4_litBy_89 ?_
                refine x_ifb_ne (tgt := 129) hx hb dX4_litBy_90 (by decide) (fun c90 => ?_) (fun c90 => ?_)
                · skip
                  refine lv_iload_n hx hb dX4_litBy_129 rfl (lv_at hl 3 rfl) ?_
                  exact hend _ _ _ _ _ (congrArg nI (lit_end (k := k) (T := sTall n A (n 4) t) (n7 := n 7) rfl hcd (by first | exact Or.inl (show k = 4 from by omega) | exact Or.inr (fun q => by first | exact absurd q.2.2 (of_decide_eq_false c72) | exact absurd q.1 c81 | (have := q.2.1; rw [sThere, c90] at this; exact absurd this (by decide)))))) hS dX4_litBy_130
                · skip
                  refine lv_iload_n hx hb dX4_litBy_93 rfl (lv_at hl 3 rfl) ?_
                  refine lv_aload_n hx hb dX4_litBy_94 rfl (lv_at hl 0 rfl) ?_
                  refine x_get (D := (dC, dI)) (ci := 4) (v := .int mb) (C := RX4) (T := TX4) (N := 31) hx hb hts hinX4 hown hK hP 0 rfl rfl 25 (Nat.le_of_ble_eq_true rfl) hf163 rfl rfl dX4_litBy_95 ?_
                  refine x_top (hmb hst) ?_
                  refine lv_iconst (v := nI 1) hx hb dX4_litBy_98 rfl ?_
                  refine x_iadd hx hb dX4_litBy_99 ?_
                  refine lv_iconst (v := nI 2) hx hb dX4_litBy_100 rfl ?_
                  refine lv_iload hx hb dX4_litBy_101 (lv_at hl 4 rfl) ?_
                  refine x_imul hx hb dX4_litBy_103 ?_
                  refine x_iadd hx hb dX4_litBy_104 ?_
                  refine lv_aload_n hx hb dX4_litBy_105 rfl (lv_at hl 0 rfl) ?_
                  refine lv_iload_n hx hb dX4_litBy_106 rfl (lv_at hl 1 rfl) ?_
                  refine roV_i (As := [.int (nI t)]) (rest := [.int (nI (((n 7) + 1) + (2 * k))), .int (nI (orB (fun p => decide (n 7 + (1 + 2 * p) ≤ sTall n A (n 4) t)) k))]) ⟨hx, hb, hml, hown, hts⟩ (kX4_tallNow l dC dI cI cZ q n mb f A Y hW hR hmb t _ (by omega)) (cwV 1 hts gX4_litBy_X4_tallNow rfl rfl rfl hdX4_tallNow ⟨Nat.le_trans (Nat.le_of_ble_eq_true rfl) hRf, Nat.le_trans (Nat.le_of_ble_eq_true rfl) hRl⟩) (va_recv hK hP (ci := 4) (q0 := 0) rfl rfl) hK hP rfl hl.1 rfl (Nat.le_of_ble_eq_true rfl) dX4_litBy_107 ⟨Nat.zero_le _, Nat.zero_le _⟩ hP hS hA (fun H locs hP hS => ?_)
                  refine x_icmp_gt (tgt := 120) hx hb (by omega) (by omega) dX4_litBy_110 (by decide) (fun c110 => ?_) (fun c110 => ?_)
                  · skip
                    have hz : (fun p => decide (n 7 + (1 + 2 * p) ≤ sTall n A (n 4) t)) k = false := decide_eq_false (by omega)
                    refine lv_iconst (v := nI 0) hx hb dX4_litBy_120 rfl ?_
                    refine x_ior hx hb dX4_litBy_121 ?_
                    refine lv_istore_n (lv' := [(3, .int (nI ((orB (fun p => decide (n 7 + (1 + 2 * p) ≤ sTall n A (n 4) t)) k) ||| 0))), (0, .ref (q 0)), (1, .int (nI t)), (2, .int (bI (decide (dd (A 3 t / n 1) ((n 6 - 1) / n 1) ≤ 3 ∧ dd (A 3 t % n 1) ((n 6 - 1) % n 1) ≤ 3)))), (4, .int (nI k))]) hx hb dX4_litBy_122 rfl hl (by decide) rfl (fun ls hl => ?_)
                    refine lv_iinc (v := (nI (k + 1))) (lv' := [(4, .int (nI (k + 1))), (3, .int (nI ((orB (fun p => decide (n 7 + (1 + 2 * p) ≤ sTall n A (n 4) t)) k) ||| 0))), (0, .ref (q 0)), (1, .int (nI t)), (2, .int (bI (decide (dd (A 3 t / n 1) ((n 6 - 1) / n 1) ≤ 3 ∧ dd (A 3 t % n 1) ((n 6 - 1) % n 1) ≤ 3))))]) hx hb dX4_litBy_123 hl (k := 4) rfl (nI_add _ _) (by decide) rfl (fun ls hl => ?_)
                    refine lv_goto (tgt := 65) hx hb dX4_litBy_126 (by decide) ?_
                    exact ih (k + 1) (by omega) (Or.inr ⟨c81, by rw [sThere, c90]; rfl, of_decide_eq_true c72⟩) (by omega) _ _ hP hS _ (by rw [show orB (fun p => decide (n 7 + (1 + 2 * p) ≤ sTall n A (n 4) t)) (k + 1) = ((orB (fun p => decide (n 7 + (1 + 2 * p) ≤ sTall n A (n 4) t)) k) ||| 0) from (orB_f (k := k) hz).symm.trans (Nat.or_zero _).symm]; exact lv_sub hl [2, 3, 4, 1, 0] rfl)
                  · skip
                    have hz : (fun p => decide (n 7 + (1 + 2 * p) ≤ sTall n A (n 4) t)) k = true := decide_eq_true (by omega)
                    refine lv_iconst (v := nI 1) hx hb dX4_litBy_113 rfl ?_
                    refine lv_iload hx hb dX4_litBy_114 (lv_at hl 4 rfl) ?_
                    refine x_shl1 hx hb (by omega) dX4_litBy_116 ?_
                    refine lv_goto (tgt := 121) hx hb dX4_litBy_117 (by decide) ?_
                    refine x_ior hx hb dX4_litBy_121 ?_
                    refine lv_istore_n (lv' := [(3, .int (nI ((orB (fun p => decide (n 7 + (1 + 2 * p) ≤ sTall n A (n 4) t)) k) ||| (2 ^ k)))), (0, .ref (q 0)), (1, .int (nI t)), (2, .int (bI (decide (dd (A 3 t / n 1) ((n 6 - 1) / n 1) ≤ 3 ∧ dd (A 3 t % n 1) ((n 6 - 1) % n 1) ≤ 3)))), (4, .int (nI k))]) hx hb dX4_litBy_122 rfl hl (by decide) rfl (fun ls hl => ?_)
                    refine lv_iinc (v := (nI (k + 1))) (lv' := [(4, .int (nI (k + 1))), (3, .int (nI ((orB (fun p => decide (n 7 + (1 + 2 * p) ≤ sTall n A (n 4) t)) k) ||| (2 ^ k)))), (0, .ref (q 0)), (1, .int (nI t)), (2, .int (bI (decide (dd (A 3 t / n 1) ((n 6 - 1) / n 1) ≤ 3 ∧ dd (A 3 t % n 1) ((n 6 - 1) % n 1) ≤ 3))))]) hx hb dX4_litBy_123 hl (k := 4) rfl (nI_add _ _) (by decide) rfl (fun ls hl => ?_)
                    refine lv_goto (tgt := 65) hx hb dX4_litBy_126 (by decide) ?_
                    exact ih (k + 1) (by omega) (Or.inr ⟨c81, by rw [sThere, c90]; rfl, of_decide_eq_true c72⟩) (by omega) _ _ hP hS _ (by rw [show orB (fun p => decide (n 7 + (1 + 2 * p) ≤ sTall n A (n 4) t)) (k + 1) = ((orB (fun p => decide (n 7 + (1 + 2 * p) ≤ sTall n A (n 4) t)) k) ||| (2 ^ k)) from (orB_t (k := k) hz).symm]; exact lv_sub hl [2, 3, 4, 1, 0] rfl)
      exact L65 _ 0 (by omega) (Or.inl rfl) (Nat.lt_succ_self _) _ _ hP hS _ (lv_sub hl [3, 4, 2, 1, 0] rfl)
    · skip
      refine lv_iconst (v := nI 1) hx hb dX4_litBy_54 rfl ?_
      refine lv_goto (tgt := 59) hx hb dX4_litBy_55 (by decide) ?_
      refine x_top (y := bI (decide (dd (A 3 t / n 1) ((n 6 - 1) / n 1) ≤ 3 ∧ dd (A 3 t % n 1) ((n 6 - 1) % n 1) ≤ 3))) (n1_b (decide_eq_true ⟨by omega, by omega⟩)) ?_
      refine lv_istore_n (lv' := [(2, .int (bI (decide (dd (A 3 t / n 1) ((n 6 - 1) / n 1) ≤ 3 ∧ dd (A 3 t % n 1) ((n 6 - 1) % n 1) ≤ 3)))), (0, .ref (q 0)), (1, .int (nI t))]) hx hb dX4_litBy_59 rfl hl (by decide) rfl (fun ls hl => ?_)
      refine lv_iconst (v := nI 0) hx hb dX4_litBy_60 rfl ?_
      refine lv_istore_n (lv' := [(3, .int (nI 0)), (2, .int (bI (decide (dd (A 3 t / n 1) ((n 6 - 1) / n 1) ≤ 3 ∧ dd (A 3 t % n 1) ((n 6 - 1) % n 1) ≤ 3)))), (0, .ref (q 0)), (1, .int (nI t))]) hx hb dX4_litBy_61 rfl hl (by decide) rfl (fun ls hl => ?_)
      refine lv_iconst (v := nI 0) hx hb dX4_litBy_62 rfl ?_
      refine lv_istore (lv' := [(4, .int (nI 0)), (3, .int (nI 0)), (2, .int (bI (decide (dd (A 3 t / n 1) ((n 6 - 1) / n 1) ≤ 3 ∧ dd (A 3 t % n 1) ((n 6 - 1) % n 1) ≤ 3)))), (0, .ref (q 0)), (1, .int (nI t))]) hx hb dX4_litBy_63 hl (by decide) rfl (fun ls hl => ?_)
      have L65 : ∀ (fuel : Nat) (k : Nat) (hk : k ≤ 4) (hcd : k = 0 ∨ (A 2 t = 0 ∧ sThere n t = true ∧ dd (A 3 t / n 1) ((n 6 - 1) / n 1) ≤ 3 ∧ dd (A 3 t % n 1) ((n 6 - 1) % n 1) ≤ 3)) (hfu : 4 - k < fuel) (H : Heap) (locs : List Loc), va_P (dC, dI) vwCl (wM cI cZ q n mb f Y) H → va_S Z ss.heap H locs → ∀ (ls : Array Slot), lv_has ls 5 [(0, .ref (q 0)), (1, .int (nI t)), (2, .int (bI (decide (dd (A 3 t / n 1) ((n 6 - 1) / n 1) ≤ 3 ∧ dd (A 3 t % n 1) ((n 6 - 1) % n 1) ≤ 3)))), (3, .int (nI (orB (fun p => decide (n 7 + (1 + 2 * p) ≤ sTall n A (n 4) t)) k))), (4, .int (nI k))] → W pp l ee RR ss mm aa bb me cd H locs 0 0 QQ (F0 mm 65 ls []) := by
        intro fuel
        induction fuel with
        | zero => intro k hk hcd hfu; exact absurd hfu (Nat.not_lt_zero _)
        | succ fuel ih =>
          intro k hk hcd hfu H locs hP hS ls hl
          refine lv_iload hx hb dX4_litBy_65 (lv_at hl 4 rfl) ?_
          refine lv_iconst (v := nI 4) hx hb dX4_litBy_67 rfl ?_
          refine x_icmp_ge (tgt := 129) hx hb (by omega) (by omega) dX4_litBy_68 (by decide) (fun c68 => ?_) (fun c68 => ?_)
          · skip
            refine lv_iload_n hx hb dX4_litBy_129 rfl (lv_at hl 3 rfl) ?_
            exact hend _ _ _ _ _ (congrArg nI (lit_end (k := k) (T := sTall n A (n 4) t) (n7 := n 7) rfl hcd (by first | exact Or.inl (show k = 4 from by omega) | exact Or.inr (fun q => by first | exact absurd q.2.2 (of_decide_eq_false c72) | exact absurd q.1 c81 | (have := q.2.1; rw [sThere, c90] at this; exact absurd this (by decide)))))) hS dX4_litBy_130
          · skip
            refine lv_iload_n hx hb dX4_litBy_71 rfl (lv_at hl 2 rfl) ?_
            refine x_ifb_eq (tgt := 129) hx hb dX4_litBy_72 (by decide) (fun c72 => ?_) (fun c72 => ?_)
            · skip
              refine lv_iload_n hx hb dX4_litBy_129 rfl (lv_at hl 3 rfl) ?_
              exact hend _ _ _ _ _ (congrArg nI (lit_end (k := k) (T := sTall n A (n 4) t) (n7 := n 7) rfl hcd (by first | exact Or.inl (show k = 4 from by omega) | exact Or.inr (fun q => by first | exact absurd q.2.2 (of_decide_eq_false c72) | exact absurd q.1 c81 | (have := q.2.1; rw [sThere, c90] at this; exact absurd this (by decide)))))) hS dX4_litBy_130
            · skip
              refine lv_aload_n hx hb dX4_litBy_75 rfl (lv_at hl 0 rfl) ?_
              refine x_get (D := (dC, dI)) (ci := 4) (v := .ref (q 3)) (C := RX4) (T := TX4) (N := 31) hx hb hts hinX4 hown hK hP 0 rfl rfl 7 (Nat.le_of_ble_eq_true rfl) hf16 rfl rfl dX4_litBy_76 ?_
              refine lv_iload_n hx hb dX4_litBy_79 rfl (lv_at hl 1 rfl) ?_
              refine x_iald (v := (nI (A 2 t))) hx hb hK hP 3 0 rfl rfl (by omega) (by decide) (hR.2.2 _ (by omega)).1 dX4_litBy_80 ?_
              refine x_if_ne (tgt := 129) hx hb (by omega) dX4_litBy_81 (by decide) (fun c81 => ?_) (fun c81 => ?_)
              · skip
                refine lv_iload_n hx hb dX4_litBy_129 rfl (lv_at hl 3 rfl) ?_
                exact hend _ _ _ _ _ (congrArg nI (lit_end (k := k) (T := sTall n A (n 4) t) (n7 := n 7) rfl hcd (by first | exact Or.inl (show k = 4 from by omega) | exact Or.inr (fun q => by first | exact absurd q.2.2 (of_decide_eq_false c72) | exact absurd q.1 c81 | (have := q.2.1; rw [sThere, c90] at this; exact absurd this (by decide)))))) hS dX4_litBy_130
              · skip
                refine lv_aload_n hx hb dX4_litBy_84 rfl (lv_at hl 0 rfl) ?_
                refine x_get (D := (dC, dI)) (ci := 4) (v := .ref (q 6)) (C := RX4) (T := TX4) (N := 31) hx hb hts hinX4 hown hK hP 0 rfl rfl 10 (Nat.le_of_ble_eq_true rfl) hf25 rfl rfl dX4_litBy_85 ?_
                refine lv_iload_n hx hb dX4_litBy_88 rfl (lv_at hl 1 rfl) ?_
                refine x_zald (v := (bI ((n 8).testBit t))) hx hb hK hP 6 1 rfl rfl (by omega) (by decide) (hR.2.2 _ (by omega)).2.2.2.1 dX4_litBy_89 ?_
                refine x_ifb_ne (tgt := 129) hx hb dX4_litBy_90 (by decide) (fun c90 => ?_) (fun c90 => ?_)
                · skip
                  refine lv_iload_n hx hb dX4_litBy_129 rfl (lv_at hl 3 rfl) ?_
                  exact hend _ _ _ _ _ (congrArg nI (lit_end (k := k) (T := sTall n A (n 4) t) (n7 := n 7) rfl hcd (by first | exact Or.inl (show k = 4 from by omega) | exact Or.inr (fun q => by first | exact absurd q.2.2 (of_decide_eq_false c72) | exact absurd q.1 c81 | (have := q.2.1; rw [sThere, c90] at this; exact absurd this (by decide)))))) hS dX4_litBy_130
                · skip
                  refine lv_iload_n hx hb dX4_litBy_93 rfl (lv_at hl 3 rfl) ?_
                  refine lv_aload_n hx hb dX4_litBy_94 rfl (lv_at hl 0 rfl) ?_
                  refine x_get (D := (dC, dI)) (ci := 4) (v := .int mb) (C := RX4) (T := TX4) (N := 31) hx hb hts hinX4 hown hK hP 0 rfl rfl 25 (Nat.le_of_ble_eq_true rfl) hf163 rfl rfl dX4_litBy_95 ?_
                  refine x_top (hmb hst) ?_
                  refine lv_iconst (v := nI 1) hx hb dX4_litBy_98 rfl ?_
                  refine x_iadd hx hb dX4_litBy_99 ?_
                  refine lv_iconst (v := nI 2) hx hb dX4_litBy_100 rfl ?_
                  refine lv_iload hx hb dX4_litBy_101 (lv_at hl 4 rfl) ?_
                  refine x_imul hx hb dX4_litBy_103 ?_
                  refine x_iadd hx hb dX4_litBy_104 ?_
                  refine lv_aload_n hx hb dX4_litBy_105 rfl (lv_at hl 0 rfl) ?_
                  refine lv_iload_n hx hb dX4_litBy_106 rfl (lv_at hl 1 rfl) ?_
                  refine roV_i (As := [.int (nI t)]) (rest := [.int (nI (((n 7) + 1) + (2 * k))), .int (nI (orB (fun p => decide (n 7 + (1 + 2 * p) ≤ sTall n A (n 4) t)) k))]) ⟨hx, hb, hml, hown, hts⟩ (kX4_tallNow l dC dI cI cZ q n mb f A Y hW hR hmb t _ (by omega)) (cwV 1 hts gX4_litBy_X4_tallNow rfl rfl rfl hdX4_tallNow ⟨Nat.le_trans (Nat.le_of_ble_eq_true rfl) hRf, Nat.le_trans (Nat.le_of_ble_eq_true rfl) hRl⟩) (va_recv hK hP (ci := 4) (q0 := 0) rfl rfl) hK hP rfl hl.1 rfl (Nat.le_of_ble_eq_true rfl) dX4_litBy_107 ⟨Nat.zero_le _, Nat.zero_le _⟩ hP hS hA (fun H locs hP hS => ?_)
                  refine x_icmp_gt (tgt := 120) hx hb (by omega) (by omega) dX4_litBy_110 (by decide) (fun c110 => ?_) (fun c110 => ?_)
                  · skip
                    have hz : (fun p => decide (n 7 + (1 + 2 * p) ≤ sTall n A (n 4) t)) k = false := decide_eq_false (by omega)
                    refine lv_iconst (v := nI 0) hx hb dX4_litBy_120 rfl ?_
                    refine x_ior hx hb dX4_litBy_121 ?_
                    refine lv_istore_n (lv' := [(3, .int (nI ((orB (fun p => decide (n 7 + (1 + 2 * p) ≤ sTall n A (n 4) t)) k) ||| 0))), (0, .ref (q 0)), (1, .int (nI t)), (2, .int (bI (decide (dd (A 3 t / n 1) ((n 6 - 1) / n 1) ≤ 3 ∧ dd (A 3 t % n 1) ((n 6 - 1) % n 1) ≤ 3)))), (4, .int (nI k))]) hx hb dX4_litBy_122 rfl hl (by decide) rfl (fun ls hl => ?_)
                    refine lv_iinc (v := (nI (k + 1))) (lv' := [(4, .int (nI (k + 1))), (3, .int (nI ((orB (fun p => decide (n 7 + (1 + 2 * p) ≤ sTall n A (n 4) t)) k) ||| 0))), (0, .ref (q 0)), (1, .int (nI t)), (2, .int (bI (decide (dd (A 3 t / n 1) ((n 6 - 1) / n 1) ≤ 3 ∧ dd (A 3 t % n 1) ((n 6 - 1) % n 1) ≤ 3))))]) hx hb dX4_litBy_123 hl (k := 4) rfl (nI_add _ _) (by decide) rfl (fun ls hl => ?_)
                    refine lv_goto (tgt := 65) hx hb dX4_litBy_126 (by decide) ?_
                    exact ih (k + 1) (by omega) (Or.inr ⟨c81, by rw [sThere, c90]; rfl, of_decide_eq_true c72⟩) (by omega) _ _ hP hS _ (by rw [show orB (fun p => decide (n 7 + (1 + 2 * p) ≤ sTall n A (n 4) t)) (k + 1) = ((orB (fun p => decide (n 7 + (1 + 2 * p) ≤ sTall n A (n 4) t)) k) ||| 0) from (orB_f (k := k) hz).symm.trans (Nat.or_zero _).symm]; exact lv_sub hl [2, 3, 4, 1, 0] rfl)
                  · skip
                    have hz : (fun p => decide (n 7 + (1 + 2 * p) ≤ sTall n A (n 4) t)) k = true := decide_eq_true (by omega)
                    refine lv_iconst (v := nI 1) hx hb dX4_litBy_113 rfl ?_
                    refine lv_iload hx hb dX4_litBy_114 (lv_at hl 4 rfl) ?_
                    refine x_shl1 hx hb (by omega) dX4_litBy_116 ?_
                    refine lv_goto (tgt := 121) hx hb dX4_litBy_117 (by decide) ?_
                    refine x_ior hx hb dX4_litBy_121 ?_
                    refine lv_istore_n (lv' := [(3, .int (nI ((orB (fun p => decide (n 7 + (1 + 2 * p) ≤ sTall n A (n 4) t)) k) ||| (2 ^ k)))), (0, .ref (q 0)), (1, .int (nI t)), (2, .int (bI (decide (dd (A 3 t / n 1) ((n 6 - 1) / n 1) ≤ 3 ∧ dd (A 3 t % n 1) ((n 6 - 1) % n 1) ≤ 3)))), (4, .int (nI k))]) hx hb dX4_litBy_122 rfl hl (by decide) rfl (fun ls hl => ?_)
                    refine lv_iinc (v := (nI (k + 1))) (lv' := [(4, .int (nI (k + 1))), (3, .int (nI ((orB (fun p => decide (n 7 + (1 + 2 * p) ≤ sTall n A (n 4) t)) k) ||| (2 ^ k)))), (0, .ref (q 0)), (1, .int (nI t)), (2, .int (bI (decide (dd (A 3 t / n 1) ((n 6 - 1) / n 1) ≤ 3 ∧ dd (A 3 t % n 1) ((n 6 - 1) % n 1) ≤ 3))))]) hx hb dX4_litBy_123 hl (k := 4) rfl (nI_add _ _) (by decide) rfl (fun ls hl => ?_)
                    refine lv_goto (tgt := 65) hx hb dX4_litBy_126 (by decide) ?_
                    exact ih (k + 1) (by omega) (Or.inr ⟨c81, by rw [sThere, c90]; rfl, of_decide_eq_true c72⟩) (by omega) _ _ hP hS _ (by rw [show orB (fun p => decide (n 7 + (1 + 2 * p) ≤ sTall n A (n 4) t)) (k + 1) = ((orB (fun p => decide (n 7 + (1 + 2 * p) ≤ sTall n A (n 4) t)) k) ||| (2 ^ k)) from (orB_t (k := k) hz).symm]; exact lv_sub hl [2, 3, 4, 1, 0] rfl)
      exact L65 _ 0 (by omega) (Or.inl rfl) (Nat.lt_succ_self _) _ _ hP hS _ (lv_sub hl [3, 4, 2, 1, 0] rfl)
theorem hdX4_litBy : yX4_litBy.cls = RX4 ∧ yX4_litBy.cls ≠ "java/lang/invoke/MethodHandle" ∧ yX4_litBy.cls ≠ "java/lang/invoke/VarHandle" ∧ (parseMethodDescriptor yX4_litBy.desc).map (fun d => d.parameters.length) = some 1 := by decide +kernel
set_option maxRecDepth 20000 in
theorem ggX4_litByAll_X4_litBy : GoodIn wsX4_litByAll wsX4_litBy := goodIn_r _ [6, 7, 8, 9, 10, 11, 12, 13, 14, 5, 15, 16, 17, 18, 19, 20, 21, 22, 23, 24, 25, 26, 27, 28, 29, 30, 31, 32, 33, 34, 35, 36, 37, 38, 39, 40, 41, 42, 43, 44, 45, 46, 47, 48, 49, 50, 51, 52, 53] (by decide +kernel) (by decide +kernel)
set_option maxRecDepth 20000 in
theorem gX4_litByAll_X4_litBy : GoodIn wsX4_litByAll (wsV RX4 194 RX4 yX4_litBy wsX4_litBy) := goodIn_app (goodIn_of _ (by decide +kernel)) ggX4_litByAll_X4_litBy
set_option maxHeartbeats 4000000 in
set_option maxRecDepth 100000 in
theorem kX4_litByAll (l : Launch) (dC : Nat → ClassId) (dI : Nat → Nat → Nat) (cI cZ : ClassId) (q n : Nat → Nat) (mb : Int32) (f : Nat → Int32) (A : Nat → Nat → Nat) (Y : Nat → Nat → Int32) (hW : WF n A) (hR : RM n A Y) (hmb : 0 < n 6 → mb = nI (n 7)) (s : Nat) (sz : Nat) (hst : 0 < n 6) (hs0 : s < 1024) : Met l yX4_litByAll wsX4_litByAll ({ frames := 2, cells := 0, slots := 0, locals := 46 }) (roP [.ref (q 0), .int (nI s)] sz (dC, dI) [(cI, .int), (cZ, .boolean)] (wM cI cZ q n mb f Y)) (roQi (nI (sLitS n A s)) sz) 0 0 (va_A [] sz) := by
  refine ro_met_i (by decide) rfl (Nat.le_of_ble_eq_true rfl) ?_
  intro pp ee ss mm aa bb me cd RR QQ Z hx hb hml hown hts hRf hRl hP hK hA hS hend ls hl
  have hown : ss.vm.findClass RX4 = some mm.cls := hown
  have hRf : 2 ≤ RR.frames := hRf
  have hRl : 46 ≤ RR.locals := hRl
  have hl : lv_has ls 4 [(0, .ref (q 0)), (1, .int (nI s))] := hl
  obtain ⟨w0, w1, w2, w3, w4, w5, w6, w7, w8, wA0, wA1, wA2⟩ := id hW
  have wC : n 0 * n 1 ≤ 42 := Nat.mul_le_mul w0 w1
  have hf86 := hts (.fieldLink RX4 86 "StatueSquareModel" "things" "I") (List.mem_of_getElem? (i := 1) rfl)
  have hinX4 : ∀ w ∈ u_ws RX4 TX4 31, w ∈ wsX4_litByAll := fun _ h => List.mem_cons_of_mem _ (List.mem_append_right _ h)
  refine lv_iconst (v := nI 0) hx hb dX4_litByAll_0 rfl ?_
  refine lv_istore_n (lv' := [(2, .int (nI 0)), (0, .ref (q 0)), (1, .int (nI s))]) hx hb dX4_litByAll_1 rfl hl (by decide) rfl (fun ls hl => ?_)
  refine lv_iconst (v := nI 0) hx hb dX4_litByAll_2 rfl ?_
  refine lv_istore_n (lv' := [(3, .int (nI 0)), (2, .int (nI 0)), (0, .ref (q 0)), (1, .int (nI s))]) hx hb dX4_litByAll_3 rfl hl (by decide) rfl (fun ls hl => ?_)
  have L4 : ∀ (fuel : Nat) (k : Nat) (hk : k ≤ n 3) (hfu : n 3 - k < fuel) (H : Heap) (locs : List Loc), va_P (dC, dI) vwCl (wM cI cZ q n mb f Y) H → va_S Z ss.heap H locs → ∀ (ls : Array Slot), lv_has ls 4 [(0, .ref (q 0)), (1, .int (nI s)), (2, .int (nI (orM (fun t => if s.testBit t then sLit n A t else 0) k))), (3, .int (nI k))] → W pp l ee RR ss mm aa bb me cd H locs 0 0 QQ (F0 mm 4 ls []) := by
    intro fuel
    induction fuel with
    | zero => intro k hk hfu; exact absurd hfu (Nat.not_lt_zero _)
    | succ fuel ih =>
      intro k hk hfu H locs hP hS ls hl
      refine lv_iload_n hx hb dX4_litByAll_4 rfl (lv_at hl 3 rfl) ?_
      refine lv_aload_n hx hb dX4_litByAll_5 rfl (lv_at hl 0 rfl) ?_
      refine x_get (D := (dC, dI)) (ci := 4) (v := .int (nI (n 3))) (C := RX4) (T := TX4) (N := 31) hx hb hts hinX4 hown hK hP 0 rfl rfl 6 (Nat.le_of_ble_eq_true rfl) hf86 rfl rfl dX4_litByAll_6 ?_
      refine x_icmp_ge (tgt := 39) hx hb (by omega) (by omega) dX4_litByAll_9 (by decide) (fun c9 => ?_) (fun c9 => ?_)
      · skip
        refine lv_iload_n hx hb dX4_litByAll_39 rfl (lv_at hl 2 rfl) ?_
        exact hend _ _ _ _ _ (congrArg nI (show orM (fun t => if s.testBit t then sLit n A t else 0) k = orM (fun t => if s.testBit t then sLit n A t else 0) (n 3) from by congr 1; omega)) hS dX4_litByAll_40
      · skip
        refine lv_iload_n hx hb dX4_litByAll_12 rfl (lv_at hl 2 rfl) ?_
        refine lv_iload_n hx hb dX4_litByAll_13 rfl (lv_at hl 1 rfl) ?_
        refine lv_iload_n hx hb dX4_litByAll_14 rfl (lv_at hl 3 rfl) ?_
        refine x_ishr hx hb (by omega) (by omega) dX4_litByAll_15 ?_
        refine lv_iconst (v := nI 1) hx hb dX4_litByAll_16 rfl ?_
        refine x_iand hx hb dX4_litByAll_17 ?_
        refine lv_iconst (v := nI 1) hx hb dX4_litByAll_18 rfl ?_
        refine x_icmp_ne (tgt := 30) hx hb (and1_lt _) (by omega) dX4_litByAll_19 (by decide) (fun c19 => ?_) (fun c19 => ?_)
        · skip
          have hz : (if s.testBit k then sLit n A k else 0) = 0 := by rw [if_neg]; intro q; rw [bit_and1, if_pos q] at c19; exact c19 rfl
          refine lv_iconst (v := nI 0) hx hb dX4_litByAll_30 rfl ?_
          refine x_ior hx hb dX4_litByAll_31 ?_
          refine lv_istore_n (lv' := [(2, .int (nI ((orM (fun t => if s.testBit t then sLit n A t else 0) k) ||| 0))), (0, .ref (q 0)), (1, .int (nI s)), (3, .int (nI k))]) hx hb dX4_litByAll_32 rfl hl (by decide) rfl (fun ls hl => ?_)
          refine lv_iinc (v := (nI (k + 1))) (lv' := [(3, .int (nI (k + 1))), (2, .int (nI ((orM (fun t => if s.testBit t then sLit n A t else 0) k) ||| 0))), (0, .ref (q 0)), (1, .int (nI s))]) hx hb dX4_litByAll_33 hl (k := 3) rfl (nI_add _ _) (by decide) rfl (fun ls hl => ?_)
          refine lv_goto (tgt := 4) hx hb dX4_litByAll_36 (by decide) ?_
          exact ih (k + 1) (by omega) (by omega) _ _ hP hS _ (by rw [show orM (fun t => if s.testBit t then sLit n A t else 0) (k + 1) = ((orM (fun t => if s.testBit t then sLit n A t else 0) k) ||| 0) from by rw [orM, hz]]; exact lv_sub hl [2, 3, 1, 0] rfl)
        · skip
          have hz : (if s.testBit k then sLit n A k else 0) = sLit n A k := by rw [if_pos]; rw [bit_and1] at c19; exact Classical.byContradiction fun q => by rw [if_neg q] at c19; exact absurd c19 (by decide)
          refine lv_aload_n hx hb dX4_litByAll_22 rfl (lv_at hl 0 rfl) ?_
          refine lv_iload_n hx hb dX4_litByAll_23 rfl (lv_at hl 3 rfl) ?_
          refine roV_i (As := [.int (nI k)]) (rest := [.int (nI (orM (fun t => if s.testBit t then sLit n A t else 0) k))]) ⟨hx, hb, hml, hown, hts⟩ (kX4_litBy l dC dI cI cZ q n mb f A Y hW hR hmb k _ (by omega) (by omega)) (cwV 1 hts gX4_litByAll_X4_litBy rfl rfl rfl hdX4_litBy ⟨Nat.le_trans (Nat.le_of_ble_eq_true rfl) hRf, Nat.le_trans (Nat.le_of_ble_eq_true rfl) hRl⟩) (va_recv hK hP (ci := 4) (q0 := 0) rfl rfl) hK hP rfl hl.1 rfl (Nat.le_of_ble_eq_true rfl) dX4_litByAll_24 ⟨Nat.zero_le _, Nat.zero_le _⟩ hP hS hA (fun H locs hP hS => ?_)
          refine lv_goto (tgt := 31) hx hb dX4_litByAll_27 (by decide) ?_
          refine x_ior hx hb dX4_litByAll_31 ?_
          refine lv_istore_n (lv' := [(2, .int (nI ((orM (fun t => if s.testBit t then sLit n A t else 0) k) ||| (sLit n A k)))), (0, .ref (q 0)), (1, .int (nI s)), (3, .int (nI k))]) hx hb dX4_litByAll_32 rfl hl (by decide) rfl (fun ls hl => ?_)
          refine lv_iinc (v := (nI (k + 1))) (lv' := [(3, .int (nI (k + 1))), (2, .int (nI ((orM (fun t => if s.testBit t then sLit n A t else 0) k) ||| (sLit n A k)))), (0, .ref (q 0)), (1, .int (nI s))]) hx hb dX4_litByAll_33 hl (k := 3) rfl (nI_add _ _) (by decide) rfl (fun ls hl => ?_)
          refine lv_goto (tgt := 4) hx hb dX4_litByAll_36 (by decide) ?_
          exact ih (k + 1) (by omega) (by omega) _ _ hP hS _ (by rw [show orM (fun t => if s.testBit t then sLit n A t else 0) (k + 1) = ((orM (fun t => if s.testBit t then sLit n A t else 0) k) ||| (sLit n A k)) from by rw [orM, hz]]; exact lv_sub hl [2, 3, 1, 0] rfl)
  exact L4 _ 0 (by omega) (Nat.lt_succ_self _) _ _ hP hS _ (lv_sub hl [2, 3, 1, 0] rfl)
theorem hdX4_litByAll : yX4_litByAll.cls = RX4 ∧ yX4_litByAll.cls ≠ "java/lang/invoke/MethodHandle" ∧ yX4_litByAll.cls ≠ "java/lang/invoke/VarHandle" ∧ (parseMethodDescriptor yX4_litByAll.desc).map (fun d => d.parameters.length) = some 1 := by decide +kernel
set_option maxRecDepth 20000 in
theorem ggX4_lit_X4_in : GoodIn wsX4_lit wsX4_in := goodIn_r _ [6] (by decide +kernel) (by decide +kernel)
set_option maxRecDepth 20000 in
theorem gX4_lit_X4_in : GoodIn wsX4_lit (va_wsS RX4 82 yX4_in wsX4_in) := goodIn_app (goodIn_of _ (by decide +kernel)) ggX4_lit_X4_in
set_option maxRecDepth 20000 in
theorem ggX4_lit_X4_litByAll : GoodIn wsX4_lit wsX4_litByAll := goodIn_r _ [10, 2, 11, 12, 13, 5, 14, 15, 16, 1, 17, 18, 19, 20, 21, 22, 23, 24, 25, 26, 27, 28, 29, 33, 34, 35, 36, 37, 38, 39, 40, 41, 42, 43, 44, 45, 46, 47, 48, 49, 50, 51, 52, 53, 54, 55, 56, 57, 58, 59, 60, 61, 62, 63] (by decide +kernel) (by decide +kernel)
set_option maxRecDepth 20000 in
theorem gX4_lit_X4_litByAll : GoodIn wsX4_lit (wsV RX4 197 RX4 yX4_litByAll wsX4_litByAll) := goodIn_app (goodIn_of _ (by decide +kernel)) ggX4_lit_X4_litByAll
set_option maxRecDepth 20000 in
theorem ggX4_lit_X4_bits : GoodIn wsX4_lit wsX4_bits := goodIn_r _ [32] (by decide +kernel) (by decide +kernel)
set_option maxRecDepth 20000 in
theorem gX4_lit_X4_bits : GoodIn wsX4_lit (va_wsS RX4 185 yX4_bits wsX4_bits) := goodIn_app (goodIn_of _ (by decide +kernel)) ggX4_lit_X4_bits
set_option maxHeartbeats 4000000 in
set_option maxRecDepth 100000 in
theorem kX4_lit (l : Launch) (dC : Nat → ClassId) (dI : Nat → Nat → Nat) (cI cZ : ClassId) (q n : Nat → Nat) (mb : Int32) (f : Nat → Int32) (A : Nat → Nat → Nat) (Y : Nat → Nat → Int32) (hW : WF n A) (hR : RM n A Y) (hmb : 0 < n 6 → mb = nI (n 7)) (w : Int32) (sz : Nat) : Met l yX4_lit wsX4_lit ({ frames := 3, cells := 0, slots := 0, locals := 69 }) (roP [.ref (q 0), .int w] sz (dC, dI) [(cI, .int), (cZ, .boolean)] (wM cI cZ q n mb f Y)) (roQi (uLit n A w) sz) 0 0 (va_A [] sz) := by
  refine ro_met_i (by decide) rfl (Nat.le_of_ble_eq_true rfl) ?_
  intro pp ee ss mm aa bb me cd RR QQ Z hx hb hml hown hts hRf hRl hP hK hA hS hend ls hl
  have hown : ss.vm.findClass RX4 = some mm.cls := hown
  have hRf : 3 ≤ RR.frames := hRf
  have hRl : 69 ≤ RR.locals := hRl
  have hl : lv_has ls 5 [(0, .ref (q 0)), (1, .int w)] := hl
  obtain ⟨w0, w1, w2, w3, w4, w5, w6, w7, w8, wA0, wA1, wA2⟩ := id hW
  have wC : n 0 * n 1 ≤ 42 := Nat.mul_le_mul w0 w1
  have hp3 : 2 ^ n 3 ≤ 2 ^ 10 := Nat.pow_le_pow_right (by decide) w3
  have hp0 : 0 < 2 ^ n 3 := Nat.two_pow_pos _
  have hl16 : sLits n A < 2 ^ 4 := orM_lt (fun i _ => sLit_lt n A i)
  have hpop : ∀ s, popN s ≤ 16 := fun s => cntB_le _ _
  have hf47 := hts (.fieldLink RX4 47 "StatueSquareModel" "statueAt" "I") (List.mem_of_getElem? (i := 1) rfl)
  have hinX4 : ∀ w ∈ u_ws RX4 TX4 31, w ∈ wsX4_lit := fun _ h => List.mem_cons_of_mem _ (List.mem_append_right _ h)
  have hf86 := hts (.fieldLink RX4 86 "StatueSquareModel" "things" "I") (List.mem_of_getElem? (i := 2) rfl)
  refine lv_iload_n hx hb dX4_lit_0 rfl (lv_at hl 1 rfl) ?_
  refine lv_i2l hx hb dX4_lit_1 rfl ?_
  refine lv_lconst (v := 0) hx hb dX4_lit_2 rfl ?_
  refine lv_lconst (v := 1) hx hb dX4_lit_3 rfl ?_
  refine roS_i (As := [.long w.toInt64, .long 0, .long 1]) (rest := []) ⟨hx, hb, hml, hown, hts⟩ (kX4_in l dC dI w.toInt64 0 1 _ ) (va_cwS 3 hts gX4_lit_X4_in rfl rfl rfl hdX4_in ⟨Nat.le_trans (Nat.le_of_ble_eq_true rfl) hRf, Nat.le_trans (Nat.le_of_ble_eq_true rfl) hRl⟩) (hK.sub [] rfl) (hP.sub [] rfl) rfl hl.1 rfl (Nat.le_of_ble_eq_true rfl) dX4_lit_4 ⟨Nat.zero_le _, Nat.zero_le _⟩ hP hS hA (fun H locs hP hS => ?_)
  refine x_top (y := bI (inB w 2)) (congrArg bI (inL_c (by omega) rfl)) ?_
  refine x_ifb_ne (tgt := 13) hx hb dX4_lit_7 (by decide) (fun c7 => ?_) (fun c7 => ?_)
  · skip
    refine lv_aload_n hx hb dX4_lit_13 rfl (lv_at hl 0 rfl) ?_
    refine x_get (D := (dC, dI)) (ci := 4) (v := .int (stI (n 6))) (C := RX4) (T := TX4) (N := 31) hx hb hts hinX4 hown hK hP 0 rfl rfl 24 (Nat.le_of_ble_eq_true rfl) hf47 rfl rfl dX4_lit_14 ?_
    refine lv_if_ge (tgt := 23) hx hb dX4_lit_17 (by decide) (fun c17 => ?_) (fun c17 => ?_)
    · skip
      have hst : 0 < n 6 := st_ge (by omega) c17
      refine lv_aload_n hx hb dX4_lit_23 rfl (lv_at hl 0 rfl) ?_
      refine lv_iconst (v := nI 1) hx hb dX4_lit_24 rfl ?_
      refine lv_aload_n hx hb dX4_lit_25 rfl (lv_at hl 0 rfl) ?_
      refine x_get (D := (dC, dI)) (ci := 4) (v := .int (nI (n 3))) (C := RX4) (T := TX4) (N := 31) hx hb hts hinX4 hown hK hP 0 rfl rfl 6 (Nat.le_of_ble_eq_true rfl) hf86 rfl rfl dX4_lit_26 ?_
      refine x_shl1 hx hb (by omega) dX4_lit_29 ?_
      refine lv_iconst (v := nI 1) hx hb dX4_lit_30 rfl ?_
      refine x_isub hx hb hp0 dX4_lit_31 ?_
      refine roV_i (As := [.int (nI ((2 ^ (n 3)) - 1))]) (rest := []) ⟨hx, hb, hml, hown, hts⟩ (kX4_litByAll l dC dI cI cZ q n mb f A Y hW hR hmb ((2 ^ (n 3)) - 1) _ (by omega) (by omega)) (cwV 1 hts gX4_lit_X4_litByAll rfl rfl rfl hdX4_litByAll ⟨Nat.le_trans (Nat.le_of_ble_eq_true rfl) hRf, Nat.le_trans (Nat.le_of_ble_eq_true rfl) hRl⟩) (va_recv hK hP (ci := 4) (q0 := 0) rfl rfl) hK hP rfl hl.1 rfl (Nat.le_of_ble_eq_true rfl) dX4_lit_32 ⟨Nat.zero_le _, Nat.zero_le _⟩ hP hS hA (fun H locs hP hS => ?_)
      refine x_top (y := (nI (sLits n A))) (congrArg nI (sLitS_all n A)) ?_
      refine lv_istore_n (lv' := [(2, .int (nI (sLits n A))), (0, .ref (q 0)), (1, .int w)]) hx hb dX4_lit_35 rfl hl (by decide) rfl (fun ls hl => ?_)
      refine lv_iconst (v := nI 1) hx hb dX4_lit_36 rfl ?_
      refine lv_aload_n hx hb dX4_lit_37 rfl (lv_at hl 1 rfl) ?_
      refine x_get (D := (dC, dI)) (ci := 4) (v := .int (nI (n 3))) (C := RX4) (T := TX4) (N := 31) hx hb hts hinX4 hown hK hP 0 rfl rfl 6 (Nat.le_of_ble_eq_true rfl) hf86 rfl rfl dX4_lit_38 ?_
      refine x_shl1 hx hb (by omega) dX4_lit_41 ?_
      refine lv_iconst (v := nI 1) hx hb dX4_lit_42 rfl ?_
      refine x_isub hx hb hp0 dX4_lit_43 ?_
      refine lv_istore_n (lv' := [(3, .int (nI ((2 ^ (n 3)) - 1))), (2, .int (nI (sLits n A))), (0, .ref (q 0)), (1, .int w)]) hx hb dX4_lit_44 rfl hl (by decide) rfl (fun ls hl => ?_)
      refine lv_iconst (v := nI 1) hx hb dX4_lit_45 rfl ?_
      refine lv_aload_n hx hb dX4_lit_46 rfl (lv_at hl 2 rfl) ?_
      refine x_get (D := (dC, dI)) (ci := 4) (v := .int (nI (n 3))) (C := RX4) (T := TX4) (N := 31) hx hb hts hinX4 hown hK hP 0 rfl rfl 6 (Nat.le_of_ble_eq_true rfl) hf86 rfl rfl dX4_lit_47 ?_
      refine x_shl1 hx hb (by omega) dX4_lit_50 ?_
      refine lv_iconst (v := nI 1) hx hb dX4_lit_51 rfl ?_
      refine x_isub hx hb hp0 dX4_lit_52 ?_
      refine lv_istore (lv' := [(4, .int (nI ((2 ^ (n 3)) - 1))), (3, .int (nI ((2 ^ (n 3)) - 1))), (2, .int (nI (sLits n A))), (0, .ref (q 0)), (1, .int w)]) hx hb dX4_lit_53 hl (by decide) rfl (fun ls hl => ?_)
      have L55 : ∀ (fuel : Nat) (k : Nat) (b : Nat) (hk : k ≤ 2 ^ n 3) (hbb : b < 2 ^ n 3) (hbl : sLitS n A b = sLits n A) (hI : ∀ s, k ≤ s → s < 2 ^ n 3 → sLitS n A s = sLits n A → popN b ≤ popN s ∧ (popN s = popN b → b ≤ s)) (hfu : k < fuel) (H : Heap) (locs : List Loc), va_P (dC, dI) vwCl (wM cI cZ q n mb f Y) H → va_S Z ss.heap H locs → ∀ (ls : Array Slot), lv_has ls 5 [(0, .ref (q 0)), (1, .int w), (2, .int (nI (sLits n A))), (3, .int (nI b)), (4, .int (pI k))] → W pp l ee RR ss mm aa bb me cd H locs 0 0 QQ (F0 mm 55 ls []) := by
        intro fuel
        induction fuel with
        | zero => intro k b hk hbb hbl hI hfu; exact absurd hfu (Nat.not_lt_zero _)
        | succ fuel ih =>
          intro k b hk hbb hbl hI hfu H locs hP hS ls hl
          rcases Nat.eq_zero_or_pos k with hk0 | hk0
          · skip
            subst hk0
            have hl : lv_has ls 5 [(0, .ref (q 0)), (1, .int w), (2, .int (nI (sLits n A))), (3, .int (nI b)), (4, .int (-1))] := hl
            refine lv_iload hx hb dX4_lit_55 (lv_at hl 4 rfl) ?_
            refine lv_if_lt (tgt := 95) hx hb dX4_lit_57 (by decide) (fun c57 => ?_) (fun c57 => ?_)
            · skip
              refine lv_iload_n hx hb dX4_lit_95 rfl (lv_at hl 1 rfl) ?_
              refine lv_if_ne (tgt := 103) hx hb dX4_lit_96 (by decide) (fun c96 => ?_) (fun c96 => ?_)
              · skip
                refine lv_iload_n hx hb dX4_lit_103 rfl (lv_at hl 2 rfl) ?_
                exact hend _ _ _ _ _ (by simp [uLit, inB02, c7, hst, c96] <;> rfl) hS dX4_lit_104
              · skip
                refine lv_iload_n hx hb dX4_lit_99 rfl (lv_at hl 3 rfl) ?_
                refine lv_goto (tgt := 104) hx hb dX4_lit_100 (by decide) ?_
                exact hend _ _ _ _ _ (by simp [uLit, inB02, c7, hst, c96, few_is w3 hbb hbl (fun s h2 h3 => hI s (Nat.zero_le _) h2 h3)]) hS dX4_lit_104
            · skip
              exact absurd (show (-1 : Int32) < 0 from by decide) c57
          · skip
            obtain ⟨j, rfl⟩ : ∃ j, k = j + 1 := ⟨k - 1, by omega⟩
            have hl : lv_has ls 5 [(0, .ref (q 0)), (1, .int w), (2, .int (nI (sLits n A))), (3, .int (nI b)), (4, .int (nI j))] := hl
            refine lv_iload hx hb dX4_lit_55 (lv_at hl 4 rfl) ?_
            refine x_if_lt (tgt := 95) hx hb (by omega) dX4_lit_57 (by decide) ?_
            refine lv_iload hx hb dX4_lit_60 (lv_at hl 4 rfl) ?_
            refine roS_i (As := [.int (nI j)]) (rest := []) ⟨hx, hb, hml, hown, hts⟩ (kX4_bits l dC dI j _ (by omega)) (va_cwS 1 hts gX4_lit_X4_bits rfl rfl rfl hdX4_bits ⟨Nat.le_trans (Nat.le_of_ble_eq_true rfl) hRf, Nat.le_trans (Nat.le_of_ble_eq_true rfl) hRl⟩) (hK.sub [] rfl) (hP.sub [] rfl) rfl hl.1 rfl (Nat.le_of_ble_eq_true rfl) dX4_lit_62 ⟨Nat.zero_le _, Nat.zero_le _⟩ hP hS hA (fun H locs hP hS => ?_)
            refine lv_iload_n hx hb dX4_lit_65 rfl (lv_at hl 3 rfl) ?_
            refine roS_i (As := [.int (nI b)]) (rest := [.int (nI (popN j))]) ⟨hx, hb, hml, hown, hts⟩ (kX4_bits l dC dI b _ (by omega)) (va_cwS 1 hts gX4_lit_X4_bits rfl rfl rfl hdX4_bits ⟨Nat.le_trans (Nat.le_of_ble_eq_true rfl) hRf, Nat.le_trans (Nat.le_of_ble_eq_true rfl) hRl⟩) (hK.sub [] rfl) (hP.sub [] rfl) rfl hl.1 rfl (Nat.le_of_ble_eq_true rfl) dX4_lit_66 ⟨Nat.zero_le _, Nat.zero_le _⟩ hP hS hA (fun H locs hP hS => ?_)
            refine x_icmp_gt (tgt := 87) hx hb (by have := hpop j; omega) (by have := hpop b; omega) dX4_lit_69 (by decide) (fun c69 => ?_) (fun c69 => ?_)
            · skip
              have hI2 : ∀ s, j ≤ s → s < 2 ^ n 3 → sLitS n A s = sLits n A → popN b ≤ popN s ∧ (popN s = popN b → b ≤ s) := fun s h1 h2 h3 => if e : s = j then by subst e; omega else hI s (by omega) h2 h3
              have hnb := hbl
              have hnb2 := hbb
              refine lv_iload_n hx hb dX4_lit_87 rfl (lv_at hl 3 rfl) ?_
              refine lv_istore_n (lv' := [(3, .int (nI b)), (0, .ref (q 0)), (1, .int w), (2, .int (nI (sLits n A))), (4, .int (nI j))]) hx hb dX4_lit_88 rfl hl (by decide) rfl (fun ls hl => ?_)
              refine lv_iinc (v := ((nI j) + (-1))) (lv' := [(4, .int ((nI j) + (-1))), (3, .int (nI b)), (0, .ref (q 0)), (1, .int w), (2, .int (nI (sLits n A)))]) hx hb dX4_lit_89 hl (k := 4) rfl rfl (by decide) rfl (fun ls hl => ?_)
              refine lv_goto (tgt := 55) hx hb dX4_lit_92 (by decide) ?_
              exact ih j b (by omega) hnb2 hnb hI2 (by omega) _ _ hP hS _ (by rw [show pI j = nI j + Int32.ofInt (-1) from pI_dec j]; exact lv_sub hl [2, 3, 4, 1, 0] rfl)
            · skip
              refine lv_aload_n hx hb dX4_lit_72 rfl (lv_at hl 0 rfl) ?_
              refine lv_iload hx hb dX4_lit_73 (lv_at hl 4 rfl) ?_
              refine roV_i (As := [.int (nI j)]) (rest := []) ⟨hx, hb, hml, hown, hts⟩ (kX4_litByAll l dC dI cI cZ q n mb f A Y hW hR hmb j _ (by omega) (by omega)) (cwV 1 hts gX4_lit_X4_litByAll rfl rfl rfl hdX4_litByAll ⟨Nat.le_trans (Nat.le_of_ble_eq_true rfl) hRf, Nat.le_trans (Nat.le_of_ble_eq_true rfl) hRl⟩) (va_recv hK hP (ci := 4) (q0 := 0) rfl rfl) hK hP rfl hl.1 rfl (Nat.le_of_ble_eq_true rfl) dX4_lit_75 ⟨Nat.zero_le _, Nat.zero_le _⟩ hP hS hA (fun H locs hP hS => ?_)
              refine lv_iload_n hx hb dX4_lit_78 rfl (lv_at hl 2 rfl) ?_
              refine x_icmp_ne (tgt := 87) hx hb (Nat.lt_trans (sLitS_lt _ _ _) (by decide)) (Nat.lt_trans hl16 (by decide)) dX4_lit_79 (by decide) (fun c79 => ?_) (fun c79 => ?_)
              · skip
                have hI2 : ∀ s, j ≤ s → s < 2 ^ n 3 → sLitS n A s = sLits n A → popN b ≤ popN s ∧ (popN s = popN b → b ≤ s) := fun s h1 h2 h3 => if e : s = j then by subst e; exact absurd h3 c79 else hI s (by omega) h2 h3
                have hnb := hbl
                have hnb2 := hbb
                refine lv_iload_n hx hb dX4_lit_87 rfl (lv_at hl 3 rfl) ?_
                refine lv_istore_n (lv' := [(3, .int (nI b)), (0, .ref (q 0)), (1, .int w), (2, .int (nI (sLits n A))), (4, .int (nI j))]) hx hb dX4_lit_88 rfl hl (by decide) rfl (fun ls hl => ?_)
                refine lv_iinc (v := ((nI j) + (-1))) (lv' := [(4, .int ((nI j) + (-1))), (3, .int (nI b)), (0, .ref (q 0)), (1, .int w), (2, .int (nI (sLits n A)))]) hx hb dX4_lit_89 hl (k := 4) rfl rfl (by decide) rfl (fun ls hl => ?_)
                refine lv_goto (tgt := 55) hx hb dX4_lit_92 (by decide) ?_
                exact ih j b (by omega) hnb2 hnb hI2 (by omega) _ _ hP hS _ (by rw [show pI j = nI j + Int32.ofInt (-1) from pI_dec j]; exact lv_sub hl [2, 3, 4, 1, 0] rfl)
              · skip
                have hI2 : ∀ s, j ≤ s → s < 2 ^ n 3 → sLitS n A s = sLits n A → popN j ≤ popN s ∧ (popN s = popN j → j ≤ s) := fun s h1 h2 h3 => ⟨if e : s = j then by subst e; omega else by have := (hI s (by omega) h2 h3).1; omega, fun _ => h1⟩
                have hnb := c79
                have hnb2 : j < 2 ^ n 3 := by omega
                refine lv_iload hx hb dX4_lit_82 (lv_at hl 4 rfl) ?_
                refine lv_goto (tgt := 88) hx hb dX4_lit_84 (by decide) ?_
                refine lv_istore_n (lv' := [(3, .int (nI j)), (0, .ref (q 0)), (1, .int w), (2, .int (nI (sLits n A))), (4, .int (nI j))]) hx hb dX4_lit_88 rfl hl (by decide) rfl (fun ls hl => ?_)
                refine lv_iinc (v := ((nI j) + (-1))) (lv' := [(4, .int ((nI j) + (-1))), (3, .int (nI j)), (0, .ref (q 0)), (1, .int w), (2, .int (nI (sLits n A)))]) hx hb dX4_lit_89 hl (k := 4) rfl rfl (by decide) rfl (fun ls hl => ?_)
                refine lv_goto (tgt := 55) hx hb dX4_lit_92 (by decide) ?_
                exact ih j j (by omega) hnb2 hnb hI2 (by omega) _ _ hP hS _ (by rw [show pI j = nI j + Int32.ofInt (-1) from pI_dec j]; exact lv_sub hl [2, 3, 4, 1, 0] rfl)
      exact L55 _ (2 ^ n 3) (2 ^ n 3 - 1) (Nat.le_refl _) (by omega) (sLitS_all n A) (fun s h1 h2 => absurd h2 (by omega)) (Nat.lt_succ_self _) _ _ hP hS _ (by rw [show pI (2 ^ n 3) = nI (2 ^ n 3 - 1) from pI_pos hp0]; exact lv_sub hl [3, 4, 2, 1, 0] rfl)
    · skip
      have hst : ¬ 0 < n 6 := st_lt (by omega) c17
      refine lv_bipush (v := -3) hx hb dX4_lit_20 rfl ?_
      exact hend _ _ _ _ _ (by simp [uLit, inB02, c7, hst] <;> rfl) hS dX4_lit_22
  · skip
    refine lv_bipush (v := -2) hx hb dX4_lit_10 rfl ?_
    exact hend _ _ _ _ _ (by simp [uLit, inB02, c7] <;> rfl) hS dX4_lit_12
set_option maxHeartbeats 4000000 in
set_option maxRecDepth 100000 in
theorem kX4_trace (l : Launch) (dC : Nat → ClassId) (dI : Nat → Nat → Nat) (cI cZ : ClassId) (q n : Nat → Nat) (mb : Int32) (f : Nat → Int32) (A : Nat → Nat → Nat) (Y : Nat → Nat → Int32) (hW : WF n A) (hR : RM n A Y) (hmb : 0 < n 6 → mb = nI (n 7)) (sz : Nat) : Met l yX4_trace wsX4_trace ({ frames := 0, cells := 0, slots := 0, locals := 0 }) (roP [.ref (q 0)] sz (dC, dI) [(cI, .int), (cZ, .boolean)] (wM cI cZ q n mb f Y)) (roQi (f 30) sz) 0 0 (va_A [] sz) := by
  refine ro_met_i (by decide) rfl (Nat.le_of_ble_eq_true rfl) ?_
  intro pp ee ss mm aa bb me cd RR QQ Z hx hb hml hown hts hRf hRl hP hK hA hS hend ls hl
  have hown : ss.vm.findClass RX4 = some mm.cls := hown
  have hRf : 0 ≤ RR.frames := hRf
  have hRl : 0 ≤ RR.locals := hRl
  have hl : lv_has ls 1 [(0, .ref (q 0))] := hl
  obtain ⟨w0, w1, w2, w3, w4, w5, w6, w7, w8, wA0, wA1, wA2⟩ := id hW
  have wC : n 0 * n 1 ≤ 42 := Nat.mul_le_mul w0 w1
  have hf208 := hts (.fieldLink RX4 208 "StatueSquareModel" "traceNow" "I") (List.mem_of_getElem? (i := 1) rfl)
  have hinX4 : ∀ w ∈ u_ws RX4 TX4 31, w ∈ wsX4_trace := fun _ h => List.mem_cons_of_mem _ (List.mem_append_right _ h)
  refine lv_aload_n hx hb dX4_trace_0 rfl (lv_at hl 0 rfl) ?_
  refine x_get (D := (dC, dI)) (ci := 4) (v := .int (f 30)) (C := RX4) (T := TX4) (N := 31) hx hb hts hinX4 hown hK hP 0 rfl rfl 30 (Nat.le_of_ble_eq_true rfl) hf208 rfl rfl dX4_trace_1 ?_
  exact hend _ _ _ _ _ rfl hS dX4_trace_4
set_option maxHeartbeats 4000000 in
set_option maxRecDepth 100000 in
theorem kX4_fault (l : Launch) (dC : Nat → ClassId) (dI : Nat → Nat → Nat) (cI cZ : ClassId) (q n : Nat → Nat) (mb : Int32) (f : Nat → Int32) (A : Nat → Nat → Nat) (Y : Nat → Nat → Int32) (hW : WF n A) (hR : RM n A Y) (hmb : 0 < n 6 → mb = nI (n 7)) (sz : Nat) : Met l yX4_fault wsX4_fault ({ frames := 0, cells := 0, slots := 0, locals := 0 }) (roP [.ref (q 0)] sz (dC, dI) [(cI, .int), (cZ, .boolean)] (wM cI cZ q n mb f Y)) (roQi (f 0) sz) 0 0 (va_A [] sz) := by
  refine ro_met_i (by decide) rfl (Nat.le_of_ble_eq_true rfl) ?_
  intro pp ee ss mm aa bb me cd RR QQ Z hx hb hml hown hts hRf hRl hP hK hA hS hend ls hl
  have hown : ss.vm.findClass RX4 = some mm.cls := hown
  have hRf : 0 ≤ RR.frames := hRf
  have hRl : 0 ≤ RR.locals := hRl
  have hl : lv_has ls 1 [(0, .ref (q 0))] := hl
  obtain ⟨w0, w1, w2, w3, w4, w5, w6, w7, w8, wA0, wA1, wA2⟩ := id hW
  have wC : n 0 * n 1 ≤ 42 := Nat.mul_le_mul w0 w1
  have hf65 := hts (.fieldLink RX4 65 "StatueSquareModel" "fault" "I") (List.mem_of_getElem? (i := 1) rfl)
  have hinX4 : ∀ w ∈ u_ws RX4 TX4 31, w ∈ wsX4_fault := fun _ h => List.mem_cons_of_mem _ (List.mem_append_right _ h)
  refine lv_aload_n hx hb dX4_fault_0 rfl (lv_at hl 0 rfl) ?_
  refine x_get (D := (dC, dI)) (ci := 4) (v := .int (f 0)) (C := RX4) (T := TX4) (N := 31) hx hb hts hinX4 hown hK hP 0 rfl rfl 0 (Nat.le_of_ble_eq_true rfl) hf65 rfl rfl dX4_fault_1 ?_
  exact hend _ _ _ _ _ rfl hS dX4_fault_4
set_option maxRecDepth 20000 in
theorem ggX4_many_X4_cells : GoodIn wsX4_many wsX4_cells := goodIn_r _ [9, 10, 1, 11, 12, 13, 14, 15, 16, 17, 18, 19, 20, 21, 22, 23, 24, 25, 26, 27, 28, 29, 30, 31, 32, 33, 34, 35, 36, 37, 38, 39, 40, 41] (by decide +kernel) (by decide +kernel)
set_option maxRecDepth 20000 in
theorem gX4_many_X4_cells : GoodIn wsX4_many (wsV RX4 78 RX4 yX4_cells wsX4_cells) := goodIn_app (goodIn_of _ (by decide +kernel)) ggX4_many_X4_cells
set_option maxHeartbeats 4000000 in
set_option maxRecDepth 100000 in
theorem kX4_many (l : Launch) (dC : Nat → ClassId) (dI : Nat → Nat → Nat) (cI cZ : ClassId) (q n : Nat → Nat) (mb : Int32) (f : Nat → Int32) (A : Nat → Nat → Nat) (Y : Nat → Nat → Int32) (hW : WF n A) (hR : RM n A Y) (hmb : 0 < n 6 → mb = nI (n 7)) (w : Int32) (sz : Nat) : Met l yX4_many wsX4_many ({ frames := 1, cells := 0, slots := 0, locals := 20 }) (roP [.ref (q 0), .int w] sz (dC, dI) [(cI, .int), (cZ, .boolean)] (wM cI cZ q n mb f Y)) (roQi (uMany n w) sz) 0 0 (va_A [] sz) := by
  refine ro_met_i (by decide) rfl (Nat.le_of_ble_eq_true rfl) ?_
  intro pp ee ss mm aa bb me cd RR QQ Z hx hb hml hown hts hRf hRl hP hK hA hS hend ls hl
  have hown : ss.vm.findClass RX4 = some mm.cls := hown
  have hRf : 1 ≤ RR.frames := hRf
  have hRl : 20 ≤ RR.locals := hRl
  have hl : lv_has ls 2 [(0, .ref (q 0)), (1, .int w)] := hl
  obtain ⟨w0, w1, w2, w3, w4, w5, w6, w7, w8, wA0, wA1, wA2⟩ := id hW
  have wC : n 0 * n 1 ≤ 42 := Nat.mul_le_mul w0 w1
  have hf75 := hts (.fieldLink RX4 75 "StatueSquareModel" "wide" "I") (List.mem_of_getElem? (i := 1) rfl)
  have hinX4 : ∀ w ∈ u_ws RX4 TX4 31, w ∈ wsX4_many := fun _ h => List.mem_cons_of_mem _ (List.mem_append_right _ h)
  have hf89 := hts (.fieldLink RX4 89 "StatueSquareModel" "benches" "I") (List.mem_of_getElem? (i := 2) rfl)
  have hf86 := hts (.fieldLink RX4 86 "StatueSquareModel" "things" "I") (List.mem_of_getElem? (i := 3) rfl)
  have hf140 := hts (.fieldLink RX4 140 "StatueSquareModel" "yearNow" "I") (List.mem_of_getElem? (i := 4) rfl)
  refine lv_iload_n hx hb dX4_many_0 rfl (lv_at hl 1 rfl) ?_
  by_cases hw0 : w = 0
  · skip
    refine lv_tableIn (tgt := 36) hx hb dX4_many_1 (by rw [hw0]; decide) (by rw [hw0]; decide) (by rw [hw0]; rfl) (by decide) ?_
    refine lv_aload_n hx hb dX4_many_36 rfl (lv_at hl 0 rfl) ?_
    refine roV_i (As := []) (rest := []) ⟨hx, hb, hml, hown, hts⟩ (kX4_cells l dC dI cI cZ q n mb f A Y hW hR hmb  _ ) (cwV 0 hts gX4_many_X4_cells rfl rfl rfl hdX4_cells ⟨Nat.le_trans (Nat.le_of_ble_eq_true rfl) hRf, Nat.le_trans (Nat.le_of_ble_eq_true rfl) hRl⟩) (va_recv hK hP (ci := 4) (q0 := 0) rfl rfl) hK hP rfl hl.1 rfl (Nat.le_of_ble_eq_true rfl) dX4_many_37 ⟨Nat.zero_le _, Nat.zero_le _⟩ hP hS hA (fun H locs hP hS => ?_)
    exact hend _ _ _ _ _ (by simp [uMany, hw0]) hS dX4_many_40
  by_cases hw1 : w = 1
  · skip
    refine lv_tableIn (tgt := 41) hx hb dX4_many_1 (by rw [hw1]; decide) (by rw [hw1]; decide) (by rw [hw1]; rfl) (by decide) ?_
    refine lv_aload_n hx hb dX4_many_41 rfl (lv_at hl 0 rfl) ?_
    refine x_get (D := (dC, dI)) (ci := 4) (v := .int (nI (n 1))) (C := RX4) (T := TX4) (N := 31) hx hb hts hinX4 hown hK hP 0 rfl rfl 2 (Nat.le_of_ble_eq_true rfl) hf75 rfl rfl dX4_many_42 ?_
    exact hend _ _ _ _ _ (by simp [uMany, hw0, hw1]) hS dX4_many_45
  by_cases hw2 : w = 2
  · skip
    refine lv_tableIn (tgt := 46) hx hb dX4_many_1 (by rw [hw2]; decide) (by rw [hw2]; decide) (by rw [hw2]; rfl) (by decide) ?_
    refine lv_aload_n hx hb dX4_many_46 rfl (lv_at hl 0 rfl) ?_
    refine x_get (D := (dC, dI)) (ci := 4) (v := .int (nI (n 2))) (C := RX4) (T := TX4) (N := 31) hx hb hts hinX4 hown hK hP 0 rfl rfl 4 (Nat.le_of_ble_eq_true rfl) hf89 rfl rfl dX4_many_47 ?_
    exact hend _ _ _ _ _ (by simp [uMany, hw0, hw1, hw2]) hS dX4_many_50
  by_cases hw3 : w = 3
  · skip
    refine lv_tableIn (tgt := 51) hx hb dX4_many_1 (by rw [hw3]; decide) (by rw [hw3]; decide) (by rw [hw3]; rfl) (by decide) ?_
    refine lv_aload_n hx hb dX4_many_51 rfl (lv_at hl 0 rfl) ?_
    refine x_get (D := (dC, dI)) (ci := 4) (v := .int (nI (n 3))) (C := RX4) (T := TX4) (N := 31) hx hb hts hinX4 hown hK hP 0 rfl rfl 6 (Nat.le_of_ble_eq_true rfl) hf86 rfl rfl dX4_many_52 ?_
    exact hend _ _ _ _ _ (by simp [uMany, hw0, hw1, hw2, hw3]) hS dX4_many_55
  by_cases hw4 : w = 4
  · skip
    refine lv_tableIn (tgt := 56) hx hb dX4_many_1 (by rw [hw4]; decide) (by rw [hw4]; decide) (by rw [hw4]; rfl) (by decide) ?_
    refine lv_aload_n hx hb dX4_many_56 rfl (lv_at hl 0 rfl) ?_
    refine x_get (D := (dC, dI)) (ci := 4) (v := .int (nI (n 4))) (C := RX4) (T := TX4) (N := 31) hx hb hts hinX4 hown hK hP 0 rfl rfl 12 (Nat.le_of_ble_eq_true rfl) hf140 rfl rfl dX4_many_57 ?_
    exact hend _ _ _ _ _ (by simp [uMany, hw0, hw1, hw2, hw3, hw4]) hS dX4_many_60
  refine lv_tableOut (tgt := 61) hx hb dX4_many_1 (by have q0 : ¬ w.toInt = 0 := lv_neT hw0 rfl; have q1 : ¬ w.toInt = 1 := lv_neT hw1 rfl; have q2 : ¬ w.toInt = 2 := lv_neT hw2 rfl; have q3 : ¬ w.toInt = 3 := lv_neT hw3 rfl; have q4 : ¬ w.toInt = 4 := lv_neT hw4 rfl; omega) (by decide) ?_
  refine lv_bipush (v := -2) hx hb dX4_many_61 rfl ?_
  exact hend _ _ _ _ _ (by simp [uMany, hw0, hw1, hw2, hw3, hw4]) hS dX4_many_63
