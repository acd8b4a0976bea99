set_option maxHeartbeats 4000000 in
set_option maxRecDepth 100000 in
theorem kX4_in (l : Launch) (dC : Nat → ClassId) (dI : Nat → Nat → Nat) (v : Int64) (lo : Int64) (hi : Int64) (sz : Nat) : Met l yX4_in wsX4_in ({ frames := 0, cells := 0, slots := 0, locals := 0 }) (roP [.long v, .long lo, .long hi] sz (dC, dI) [] ([] : va_W)) (roQi (bI (inL v lo hi)) sz) 0 0 (va_A [] sz) := by
  refine ro_met_z (by decide) rfl (Nat.le_of_ble_eq_true rfl) ?_
  intro pp ee ss mm aa bb me cd RR QQ Z hx hb hml hown hts hRf hRl hP hK hA hS hend ls hl
  have hown : ss.vm.findClass RX4 = some mm.cls := hown
  have hRf : 0 ≤ RR.frames := hRf
  have hRl : 0 ≤ RR.locals := hRl
  have hl : lv_has ls 6 [(0, .long v), (2, .long lo), (4, .long hi)] := hl
  refine lv_lload_n hx hb dX4_in_0 rfl (lv_at hl 0 rfl) ?_
  refine lv_lload_n hx hb dX4_in_1 rfl (lv_at hl 1 rfl) ?_
  refine W.lcmp hx hb dX4_in_2 ?_
  refine lv_if_lt (tgt := 17) hx hb dX4_in_3 (by decide) (fun c3 => ?_) (fun c3 => ?_)
  · skip
    refine lv_iconst (v := nI 0) hx hb dX4_in_17 rfl ?_
    exact hend _ _ _ _ _ (n0_b (decide_eq_false (fun q => by first | exact absurd ((lg_cmp_lt v lo).mp c3) (Int64.not_lt.mpr q.1) | exact absurd ((lg_cmp_gt v hi).mp c10) (Int64.not_lt.mpr q.2)))) hS dX4_in_18
  · skip
    refine lv_lload_n hx hb dX4_in_6 rfl (lv_at hl 0 rfl) ?_
    refine lv_lload hx hb dX4_in_7 (lv_at hl 2 rfl) ?_
    refine W.lcmp hx hb dX4_in_9 ?_
    refine lv_if_gt (tgt := 17) hx hb dX4_in_10 (by decide) (fun c10 => ?_) (fun c10 => ?_)
    · skip
      refine lv_iconst (v := nI 0) hx hb dX4_in_17 rfl ?_
      exact hend _ _ _ _ _ (n0_b (decide_eq_false (fun q => by first | exact absurd ((lg_cmp_lt v lo).mp c3) (Int64.not_lt.mpr q.1) | exact absurd ((lg_cmp_gt v hi).mp c10) (Int64.not_lt.mpr q.2)))) hS dX4_in_18
    · skip
      refine lv_iconst (v := nI 1) hx hb dX4_in_13 rfl ?_
      refine lv_goto (tgt := 18) hx hb dX4_in_14 (by decide) ?_
      exact hend _ _ _ _ _ (n1_b (decide_eq_true ⟨Int64.not_lt.mp (mt (lg_cmp_lt v lo).mpr c3), Int64.not_lt.mp (mt (lg_cmp_gt v hi).mpr c10)⟩)) hS dX4_in_18
set_option maxHeartbeats 4000000 in
set_option maxRecDepth 100000 in
theorem kX4_lost (l : Launch) (dC : Nat → ClassId) (dI : Nat → Nat → Nat) (sz : Nat) : Met l yX4_lost wsX4_lost ({ frames := 0, cells := 0, slots := 0, locals := 0 }) (roP [] sz (dC, dI) [] ([] : va_W)) (roQl LOSTv sz) 0 0 (va_A [] sz) := by
  refine ro_met_l (by decide) rfl (Nat.le_of_ble_eq_true rfl) ?_
  intro pp ee ss mm aa bb me cd RR QQ Z hx hb hml hown hts hRf hRl hP hK hA hS hend ls hl
  have hown : ss.vm.findClass RX4 = some mm.cls := hown
  have hRf : 0 ≤ RR.frames := hRf
  have hRl : 0 ≤ RR.locals := hRl
  have hl : lv_has ls 0 [] := hl
  have hk63 := hts (.constantLong RX4 63 (-9223372036854775808)) (List.mem_of_getElem? (i := 1) rfl)
  refine lv_ldc2 hx hb hown hk63 dX4_lost_0 ?_
  exact hend _ _ _ _ _ rfl hS dX4_lost_3
set_option maxHeartbeats 4000000 in
set_option maxRecDepth 100000 in
theorem kX4_far (l : Launch) (dC : Nat → ClassId) (dI : Nat → Nat → Nat) (x : Int32) (y : Int32) (sz : Nat) : Met l yX4_far wsX4_far ({ frames := 0, cells := 0, slots := 0, locals := 0 }) (roP [.int x, .int y] sz (dC, dI) [] ([] : va_W)) (roQi (farI x y) sz) 0 0 (va_A [] sz) := by
  refine ro_met_i (by decide) rfl (Nat.le_of_ble_eq_true rfl) ?_
  intro pp ee ss mm aa bb me cd RR QQ Z hx hb hml hown hts hRf hRl hP hK hA hS hend ls hl
  have hown : ss.vm.findClass RX4 = some mm.cls := hown
  have hRf : 0 ≤ RR.frames := hRf
  have hRl : 0 ≤ RR.locals := hRl
  have hl : lv_has ls 2 [(0, .int x), (1, .int y)] := hl
  refine lv_iload_n hx hb dX4_far_0 rfl (lv_at hl 0 rfl) ?_
  refine lv_iload_n hx hb dX4_far_1 rfl (lv_at hl 1 rfl) ?_
  refine lv_icmp_ge (tgt := 11) hx hb dX4_far_2 (by decide) (fun c2 => ?_) (fun c2 => ?_)
  · skip
    refine lv_iload_n hx hb dX4_far_11 rfl (lv_at hl 0 rfl) ?_
    refine lv_iload_n hx hb dX4_far_12 rfl (lv_at hl 1 rfl) ?_
    refine lv_isub hx hb dX4_far_13 ?_
    exact hend _ _ _ _ _ (if_neg (Int32.not_lt.mpr c2)).symm hS dX4_far_14
  · skip
    refine lv_iload_n hx hb dX4_far_5 rfl (lv_at hl 1 rfl) ?_
    refine lv_iload_n hx hb dX4_far_6 rfl (lv_at hl 0 rfl) ?_
    refine lv_isub hx hb dX4_far_7 ?_
    refine lv_goto (tgt := 14) hx hb dX4_far_8 (by decide) ?_
    exact hend _ _ _ _ _ (if_pos (Int32.not_le.mp c2)).symm hS dX4_far_14
set_option maxHeartbeats 4000000 in
set_option maxRecDepth 100000 in
theorem kX4_common (l : Launch) (dC : Nat → ClassId) (dI : Nat → Nat → Nat) (a : Nat) (b : Nat) (sz : Nat) (ha : a < 2 ^ 31) (hb0 : b < 2 ^ 31) : Met l yX4_common wsX4_common ({ frames := 0, cells := 0, slots := 0, locals := 0 }) (roP [.int (nI a), .int (nI b)] sz (dC, dI) [] ([] : va_W)) (roQi (nI (Nat.gcd a b)) sz) 0 0 (va_A [] sz) := by
  refine ro_met_i (by decide) rfl (Nat.le_of_ble_eq_true rfl) ?_
  intro pp ee ss mm aa bb me cd RR QQ Z hx hb hml hown hts hRf hRl hP hK hA hS hend ls hl
  have hown : ss.vm.findClass RX4 = some mm.cls := hown
  have hRf : 0 ≤ RR.frames := hRf
  have hRl : 0 ≤ RR.locals := hRl
  have hl : lv_has ls 5 [(0, .int (nI a)), (1, .int (nI b))] := hl
  refine lv_iload_n hx hb dX4_common_0 rfl (lv_at hl 0 rfl) ?_
  refine lv_istore_n (lv' := [(2, .int (nI a)), (0, .int (nI a)), (1, .int (nI b))]) hx hb dX4_common_1 rfl hl (by decide) rfl (fun ls hl => ?_)
  refine lv_iload_n hx hb dX4_common_2 rfl (lv_at hl 2 rfl) ?_
  refine lv_istore_n (lv' := [(3, .int (nI b)), (2, .int (nI a)), (0, .int (nI a)), (1, .int (nI b))]) hx hb dX4_common_3 rfl hl (by decide) rfl (fun ls hl => ?_)
  have L4 : ∀ (fuel : Nat) (x : Nat) (y : Nat) (hx1 : x < 2 ^ 31) (hy1 : y < 2 ^ 31) (hg : Nat.gcd x y = Nat.gcd a b) (hfu : y < fuel) (H : Heap) (locs : List Loc), va_P (dC, dI) vwCl ([] : va_W) H → va_S Z ss.heap H locs → ∀ (ls : Array Slot), lv_has ls 5 [(2, .int (nI x)), (3, .int (nI y))] → W pp l ee RR ss mm aa bb me cd H locs 0 0 QQ (F0 mm 4 ls []) := by
    intro fuel
    induction fuel with
    | zero => intro x y hx1 hy1 hg hfu; exact absurd hfu (Nat.not_lt_zero _)
    | succ fuel ih =>
      intro x y hx1 hy1 hg hfu H locs hP hS ls hl
      refine lv_iload_n hx hb dX4_common_4 rfl (lv_at hl 1 rfl) ?_
      refine x_if_eq (tgt := 21) hx hb (by omega) dX4_common_5 (by decide) (fun c5 => ?_) (fun c5 => ?_)
      · skip
        refine lv_iload_n hx hb dX4_common_21 rfl (lv_at hl 0 rfl) ?_
        exact hend _ _ _ _ _ (by rw [← hg, c5, Nat.gcd_zero_right]) hS dX4_common_22
      · skip
        refine lv_iload_n hx hb dX4_common_8 rfl (lv_at hl 0 rfl) ?_
        refine lv_iload_n hx hb dX4_common_9 rfl (lv_at hl 1 rfl) ?_
        refine x_irem hx hb hx1 (by omega) hy1 dX4_common_10 ?_
        refine lv_istore (lv' := [(4, .int (nI (x % y))), (2, .int (nI x)), (3, .int (nI y))]) hx hb dX4_common_11 hl (by decide) rfl (fun ls hl => ?_)
        refine lv_iload_n hx hb dX4_common_13 rfl (lv_at hl 2 rfl) ?_
        refine lv_istore_n (lv' := [(2, .int (nI y)), (4, .int (nI (x % y))), (3, .int (nI y))]) hx hb dX4_common_14 rfl hl (by decide) rfl (fun ls hl => ?_)
        refine lv_iload hx hb dX4_common_15 (lv_at hl 1 rfl) ?_
        refine lv_istore_n (lv' := [(3, .int (nI (x % y))), (2, .int (nI y)), (4, .int (nI (x % y)))]) hx hb dX4_common_17 rfl hl (by decide) rfl (fun ls hl => ?_)
        refine lv_goto (tgt := 4) hx hb dX4_common_18 (by decide) ?_
        exact ih y (x % y) hy1 (mod_b hx1) (by rw [← hg, Nat.gcd_comm, ← Nat.gcd_rec, Nat.gcd_comm]) (by have := Nat.mod_lt x (show 0 < y by omega); omega) _ _ hP hS _ (lv_sub hl [1, 0] rfl)
  exact L4 _ a b ha hb0 rfl (Nat.lt_succ_self _) _ _ hP hS _ (lv_sub hl [1, 0] rfl)
set_option maxHeartbeats 4000000 in
set_option maxRecDepth 100000 in
theorem kX4_cells (l : Launch) (dC : Nat → ClassId) (dI : Nat → Nat → Nat) (cI cZ : ClassId) (q n : Nat → Nat) (mb : Int32) (f : Nat → Int32) (A : Nat → Nat → Nat) (Y : Nat → Nat → Int32) (hW : WF n A) (hR : RM n A Y) (hmb : 0 < n 6 → mb = nI (n 7)) (sz : Nat) : Met l yX4_cells wsX4_cells ({ frames := 0, cells := 0, slots := 0, locals := 0 }) (roP [.ref (q 0)] sz (dC, dI) [(cI, .int), (cZ, .boolean)] (wM cI cZ q n mb f Y)) (roQi (nI (n 0 * n 1)) sz) 0 0 (va_A [] sz) := by
  refine ro_met_i (by decide) rfl (Nat.le_of_ble_eq_true rfl) ?_
  intro pp ee ss mm aa bb me cd RR QQ Z hx hb hml hown hts hRf hRl hP hK hA hS hend ls hl
  have hown : ss.vm.findClass RX4 = some mm.cls := hown
  have hRf : 0 ≤ RR.frames := hRf
  have hRl : 0 ≤ RR.locals := hRl
  have hl : lv_has ls 1 [(0, .ref (q 0))] := hl
  obtain ⟨w0, w1, w2, w3, w4, w5, w6, w7, w8, wA0, wA1, wA2⟩ := id hW
  have wC : n 0 * n 1 ≤ 42 := Nat.mul_le_mul w0 w1
  have hf72 := hts (.fieldLink RX4 72 "StatueSquareModel" "high" "I") (List.mem_of_getElem? (i := 1) rfl)
  have hinX4 : ∀ w ∈ u_ws RX4 TX4 31, w ∈ wsX4_cells := fun _ h => List.mem_cons_of_mem _ (List.mem_append_right _ h)
  have hf75 := hts (.fieldLink RX4 75 "StatueSquareModel" "wide" "I") (List.mem_of_getElem? (i := 2) rfl)
  refine lv_aload_n hx hb dX4_cells_0 rfl (lv_at hl 0 rfl) ?_
  refine x_get (D := (dC, dI)) (ci := 4) (v := .int (nI (n 0))) (C := RX4) (T := TX4) (N := 31) hx hb hts hinX4 hown hK hP 0 rfl rfl 1 (Nat.le_of_ble_eq_true rfl) hf72 rfl rfl dX4_cells_1 ?_
  refine lv_aload_n hx hb dX4_cells_4 rfl (lv_at hl 0 rfl) ?_
  refine x_get (D := (dC, dI)) (ci := 4) (v := .int (nI (n 1))) (C := RX4) (T := TX4) (N := 31) hx hb hts hinX4 hown hK hP 0 rfl rfl 2 (Nat.le_of_ble_eq_true rfl) hf75 rfl rfl dX4_cells_5 ?_
  refine x_imul hx hb dX4_cells_8 ?_
  exact hend _ _ _ _ _ rfl hS dX4_cells_9
theorem hdX4_cells : yX4_cells.cls = RX4 ∧ yX4_cells.cls ≠ "java/lang/invoke/MethodHandle" ∧ yX4_cells.cls ≠ "java/lang/invoke/VarHandle" ∧ (parseMethodDescriptor yX4_cells.desc).map (fun d => d.parameters.length) = some 0 := by decide +kernel
theorem hdX4_in : yX4_in.cls ≠ "java/lang/invoke/MethodHandle" ∧ yX4_in.cls ≠ "java/lang/invoke/VarHandle" ∧ (parseMethodDescriptor yX4_in.desc).map (fun d => d.parameters.length) = some 3 := by decide +kernel
set_option maxRecDepth 20000 in
theorem ggX4_noCell_X4_cells : GoodIn wsX4_noCell wsX4_cells := goodIn_r _ [5, 6, 7, 11, 12, 13, 14, 15, 16, 17, 18, 19, 20, 21, 22, 23, 24, 25, 26, 27, 28, 29, 30, 31, 32, 33, 34, 35, 36, 37, 38, 39, 40, 41] (by decide +kernel) (by decide +kernel)
set_option maxRecDepth 20000 in
theorem gX4_noCell_X4_cells : GoodIn wsX4_noCell (wsV RX4 78 RX4 yX4_cells wsX4_cells) := goodIn_app (goodIn_of _ (by decide +kernel)) ggX4_noCell_X4_cells
set_option maxRecDepth 20000 in
theorem ggX4_noCell_X4_in : GoodIn wsX4_noCell wsX4_in := goodIn_r _ [10] (by decide +kernel) (by decide +kernel)
set_option maxRecDepth 20000 in
theorem gX4_noCell_X4_in : GoodIn wsX4_noCell (va_wsS RX4 82 yX4_in wsX4_in) := goodIn_app (goodIn_of _ (by decide +kernel)) ggX4_noCell_X4_in
set_option maxHeartbeats 4000000 in
set_option maxRecDepth 100000 in
theorem kX4_noCell (l : Launch) (dC : Nat → ClassId) (dI : Nat → Nat → Nat) (cI cZ : ClassId) (q n : Nat → Nat) (mb : Int32) (f : Nat → Int32) (A : Nat → Nat → Nat) (Y : Nat → Nat → Int32) (hW : WF n A) (hR : RM n A Y) (hmb : 0 < n 6 → mb = nI (n 7)) (c : Int32) (sz : Nat) : Met l yX4_noCell wsX4_noCell ({ frames := 1, cells := 0, slots := 0, locals := 25 }) (roP [.ref (q 0), .int c] sz (dC, dI) [(cI, .int), (cZ, .boolean)] (wM cI cZ q n mb f Y)) (roQi (bI (!inB c (n 0 * n 1))) sz) 0 0 (va_A [] sz) := by
  refine ro_met_z (by decide) rfl (Nat.le_of_ble_eq_true rfl) ?_
  intro pp ee ss mm aa bb me cd RR QQ Z hx hb hml hown hts hRf hRl hP hK hA hS hend ls hl
  have hown : ss.vm.findClass RX4 = some mm.cls := hown
  have hRf : 1 ≤ RR.frames := hRf
  have hRl : 25 ≤ RR.locals := hRl
  have hl : lv_has ls 2 [(0, .ref (q 0)), (1, .int c)] := hl
  obtain ⟨w0, w1, w2, w3, w4, w5, w6, w7, w8, wA0, wA1, wA2⟩ := id hW
  have wC : n 0 * n 1 ≤ 42 := Nat.mul_le_mul w0 w1
  refine lv_iload_n hx hb dX4_noCell_0 rfl (lv_at hl 1 rfl) ?_
  refine lv_i2l hx hb dX4_noCell_1 rfl ?_
  refine lv_lconst (v := 0) hx hb dX4_noCell_2 rfl ?_
  refine lv_aload_n hx hb dX4_noCell_3 rfl (lv_at hl 0 rfl) ?_
  refine roV_i (As := []) (rest := [.long 0, .long c.toInt64]) ⟨hx, hb, hml, hown, hts⟩ (kX4_cells l dC dI cI cZ q n mb f A Y hW hR hmb  _ ) (cwV 0 hts gX4_noCell_X4_cells rfl rfl rfl hdX4_cells ⟨Nat.le_trans (Nat.le_of_ble_eq_true rfl) hRf, Nat.le_trans (Nat.le_of_ble_eq_true rfl) hRl⟩) (va_recv hK hP (ci := 4) (q0 := 0) rfl rfl) hK hP rfl hl.1 rfl (Nat.le_of_ble_eq_true rfl) dX4_noCell_4 ⟨Nat.zero_le _, Nat.zero_le _⟩ hP hS hA (fun H locs hP hS => ?_)
  refine lv_i2l hx hb dX4_noCell_7 rfl ?_
  refine lv_lconst (v := 1) hx hb dX4_noCell_8 rfl ?_
  refine lv_lsub hx hb dX4_noCell_9 ?_
  refine roS_i (As := [.long c.toInt64, .long 0, .long (((nI (n 0 * n 1)).toInt64) - 1)]) (rest := []) ⟨hx, hb, hml, hown, hts⟩ (kX4_in l dC dI c.toInt64 0 (((nI (n 0 * n 1)).toInt64) - 1) _ ) (va_cwS 3 hts gX4_noCell_X4_in rfl rfl rfl hdX4_in ⟨Nat.le_trans (Nat.le_of_ble_eq_true rfl) hRf, Nat.le_trans (Nat.le_of_ble_eq_true rfl) hRl⟩) (hK.sub [] rfl) (hP.sub [] rfl) rfl hl.1 rfl (Nat.le_of_ble_eq_true rfl) dX4_noCell_10 ⟨Nat.zero_le _, Nat.zero_le _⟩ hP hS hA (fun H locs hP hS => ?_)
  refine x_top (y := bI (inB c (n 0 * n 1))) (congrArg bI (inL_k (by omega))) ?_
  refine x_ifb_ne (tgt := 20) hx hb dX4_noCell_13 (by decide) (fun c13 => ?_) (fun c13 => ?_)
  · skip
    refine lv_iconst (v := nI 0) hx hb dX4_noCell_20 rfl ?_
    exact hend _ _ _ _ _ (n0_b (by rw [c13]; rfl)) hS dX4_noCell_21
  · skip
    refine lv_iconst (v := nI 1) hx hb dX4_noCell_16 rfl ?_
    refine lv_goto (tgt := 21) hx hb dX4_noCell_17 (by decide) ?_
    exact hend _ _ _ _ _ (n1_b (by rw [c13]; rfl)) hS dX4_noCell_21
set_option maxRecDepth 20000 in
theorem ggX4_noThing_X4_in : GoodIn wsX4_noThing wsX4_in := goodIn_r _ [5] (by decide +kernel) (by decide +kernel)
set_option maxRecDepth 20000 in
theorem gX4_noThing_X4_in : GoodIn wsX4_noThing (va_wsS RX4 82 yX4_in wsX4_in) := goodIn_app (goodIn_of _ (by decide +kernel)) ggX4_noThing_X4_in
set_option maxHeartbeats 4000000 in
set_option maxRecDepth 100000 in
theorem kX4_noThing (l : Launch) (dC : Nat → ClassId) (dI : Nat → Nat → Nat) (cI cZ : ClassId) (q n : Nat → Nat) (mb : Int32) (f : Nat → Int32) (A : Nat → Nat → Nat) (Y : Nat → Nat → Int32) (hW : WF n A) (hR : RM n A Y) (hmb : 0 < n 6 → mb = nI (n 7)) (t : Int32) (sz : Nat) : Met l yX4_noThing wsX4_noThing ({ frames := 1, cells := 0, slots := 0, locals := 25 }) (roP [.ref (q 0), .int t] sz (dC, dI) [(cI, .int), (cZ, .boolean)] (wM cI cZ q n mb f Y)) (roQi (bI (!inB t (n 3))) sz) 0 0 (va_A [] sz) := by
  refine ro_met_z (by decide) rfl (Nat.le_of_ble_eq_true rfl) ?_
  intro pp ee ss mm aa bb me cd RR QQ Z hx hb hml hown hts hRf hRl hP hK hA hS hend ls hl
  have hown : ss.vm.findClass RX4 = some mm.cls := hown
  have hRf : 1 ≤ RR.frames := hRf
  have hRl : 25 ≤ RR.locals := hRl
  have hl : lv_has ls 2 [(0, .ref (q 0)), (1, .int t)] := hl
  obtain ⟨w0, w1, w2, w3, w4, w5, w6, w7, w8, wA0, wA1, wA2⟩ := id hW
  have wC : n 0 * n 1 ≤ 42 := Nat.mul_le_mul w0 w1
  have hf86 := hts (.fieldLink RX4 86 "StatueSquareModel" "things" "I") (List.mem_of_getElem? (i := 1) rfl)
  have hinX4 : ∀ w ∈ u_ws RX4 TX4 31, w ∈ wsX4_noThing := fun _ h => List.mem_cons_of_mem _ (List.mem_append_right _ h)
  refine lv_iload_n hx hb dX4_noThing_0 rfl (lv_at hl 1 rfl) ?_
  refine lv_i2l hx hb dX4_noThing_1 rfl ?_
  refine lv_lconst (v := 0) hx hb dX4_noThing_2 rfl ?_
  refine lv_aload_n hx hb dX4_noThing_3 rfl (lv_at hl 0 rfl) ?_
  refine x_get (D := (dC, dI)) (ci := 4) (v := .int (nI (n 3))) (C := RX4) (T := TX4) (N := 31) hx hb hts hinX4 hown hK hP 0 rfl rfl 6 (Nat.le_of_ble_eq_true rfl) hf86 rfl rfl dX4_noThing_4 ?_
  refine lv_i2l hx hb dX4_noThing_7 rfl ?_
  refine lv_lconst (v := 1) hx hb dX4_noThing_8 rfl ?_
  refine lv_lsub hx hb dX4_noThing_9 ?_
  refine roS_i (As := [.long t.toInt64, .long 0, .long (((nI (n 3)).toInt64) - 1)]) (rest := []) ⟨hx, hb, hml, hown, hts⟩ (kX4_in l dC dI t.toInt64 0 (((nI (n 3)).toInt64) - 1) _ ) (va_cwS 3 hts gX4_noThing_X4_in rfl rfl rfl hdX4_in ⟨Nat.le_trans (Nat.le_of_ble_eq_true rfl) hRf, Nat.le_trans (Nat.le_of_ble_eq_true rfl) hRl⟩) (hK.sub [] rfl) (hP.sub [] rfl) rfl hl.1 rfl (Nat.le_of_ble_eq_true rfl) dX4_noThing_10 ⟨Nat.zero_le _, Nat.zero_le _⟩ hP hS hA (fun H locs hP hS => ?_)
  refine x_top (y := bI (inB t (n 3))) (congrArg bI (inL_k (by omega))) ?_
  refine x_ifb_ne (tgt := 20) hx hb dX4_noThing_13 (by decide) (fun c13 => ?_) (fun c13 => ?_)
  · skip
    refine lv_iconst (v := nI 0) hx hb dX4_noThing_20 rfl ?_
    exact hend _ _ _ _ _ (n0_b (by rw [c13]; rfl)) hS dX4_noThing_21
  · skip
    refine lv_iconst (v := nI 1) hx hb dX4_noThing_16 rfl ?_
    refine lv_goto (tgt := 21) hx hb dX4_noThing_17 (by decide) ?_
    exact hend _ _ _ _ _ (n1_b (by rw [c13]; rfl)) hS dX4_noThing_21
set_option maxRecDepth 20000 in
theorem ggX4_noBench_X4_in : GoodIn wsX4_noBench wsX4_in := goodIn_r _ [5] (by decide +kernel) (by decide +kernel)
set_option maxRecDepth 20000 in
theorem gX4_noBench_X4_in : GoodIn wsX4_noBench (va_wsS RX4 82 yX4_in wsX4_in) := goodIn_app (goodIn_of _ (by decide +kernel)) ggX4_noBench_X4_in
set_option maxHeartbeats 4000000 in
set_option maxRecDepth 100000 in
theorem kX4_noBench (l : Launch) (dC : Nat → ClassId) (dI : Nat → Nat → Nat) (cI cZ : ClassId) (q n : Nat → Nat) (mb : Int32) (f : Nat → Int32) (A : Nat → Nat → Nat) (Y : Nat → Nat → Int32) (hW : WF n A) (hR : RM n A Y) (hmb : 0 < n 6 → mb = nI (n 7)) (b : Int32) (sz : Nat) : Met l yX4_noBench wsX4_noBench ({ frames := 1, cells := 0, slots := 0, locals := 25 }) (roP [.ref (q 0), .int b] sz (dC, dI) [(cI, .int), (cZ, .boolean)] (wM cI cZ q n mb f Y)) (roQi (bI (!inB b (n 2))) sz) 0 0 (va_A [] sz) := by
  refine ro_met_z (by decide) rfl (Nat.le_of_ble_eq_true rfl) ?_
  intro pp ee ss mm aa bb me cd RR QQ Z hx hb hml hown hts hRf hRl hP hK hA hS hend ls hl
  have hown : ss.vm.findClass RX4 = some mm.cls := hown
  have hRf : 1 ≤ RR.frames := hRf
  have hRl : 25 ≤ RR.locals := hRl
  have hl : lv_has ls 2 [(0, .ref (q 0)), (1, .int b)] := hl
  obtain ⟨w0, w1, w2, w3, w4, w5, w6, w7, w8, wA0, wA1, wA2⟩ := id hW
  have wC : n 0 * n 1 ≤ 42 := Nat.mul_le_mul w0 w1
  have hf89 := hts (.fieldLink RX4 89 "StatueSquareModel" "benches" "I") (List.mem_of_getElem? (i := 1) rfl)
  have hinX4 : ∀ w ∈ u_ws RX4 TX4 31, w ∈ wsX4_noBench := fun _ h => List.mem_cons_of_mem _ (List.mem_append_right _ h)
  refine lv_iload_n hx hb dX4_noBench_0 rfl (lv_at hl 1 rfl) ?_
  refine lv_i2l hx hb dX4_noBench_1 rfl ?_
  refine lv_lconst (v := 0) hx hb dX4_noBench_2 rfl ?_
  refine lv_aload_n hx hb dX4_noBench_3 rfl (lv_at hl 0 rfl) ?_
  refine x_get (D := (dC, dI)) (ci := 4) (v := .int (nI (n 2))) (C := RX4) (T := TX4) (N := 31) hx hb hts hinX4 hown hK hP 0 rfl rfl 4 (Nat.le_of_ble_eq_true rfl) hf89 rfl rfl dX4_noBench_4 ?_
  refine lv_i2l hx hb dX4_noBench_7 rfl ?_
  refine lv_lconst (v := 1) hx hb dX4_noBench_8 rfl ?_
  refine lv_lsub hx hb dX4_noBench_9 ?_
  refine roS_i (As := [.long b.toInt64, .long 0, .long (((nI (n 2)).toInt64) - 1)]) (rest := []) ⟨hx, hb, hml, hown, hts⟩ (kX4_in l dC dI b.toInt64 0 (((nI (n 2)).toInt64) - 1) _ ) (va_cwS 3 hts gX4_noBench_X4_in rfl rfl rfl hdX4_in ⟨Nat.le_trans (Nat.le_of_ble_eq_true rfl) hRf, Nat.le_trans (Nat.le_of_ble_eq_true rfl) hRl⟩) (hK.sub [] rfl) (hP.sub [] rfl) rfl hl.1 rfl (Nat.le_of_ble_eq_true rfl) dX4_noBench_10 ⟨Nat.zero_le _, Nat.zero_le _⟩ hP hS hA (fun H locs hP hS => ?_)
  refine x_top (y := bI (inB b (n 2))) (congrArg bI (inL_k (by omega))) ?_
  refine x_ifb_ne (tgt := 20) hx hb dX4_noBench_13 (by decide) (fun c13 => ?_) (fun c13 => ?_)
  · skip
    refine lv_iconst (v := nI 0) hx hb dX4_noBench_20 rfl ?_
    exact hend _ _ _ _ _ (n0_b (by rw [c13]; rfl)) hS dX4_noBench_21
  · skip
    refine lv_iconst (v := nI 1) hx hb dX4_noBench_16 rfl ?_
    refine lv_goto (tgt := 21) hx hb dX4_noBench_17 (by decide) ?_
    exact hend _ _ _ _ _ (n1_b (by rw [c13]; rfl)) hS dX4_noBench_21
theorem hdX4_noCell : yX4_noCell.cls = RX4 ∧ yX4_noCell.cls ≠ "java/lang/invoke/MethodHandle" ∧ yX4_noCell.cls ≠ "java/lang/invoke/VarHandle" ∧ (parseMethodDescriptor yX4_noCell.desc).map (fun d => d.parameters.length) = some 1 := by decide +kernel
set_option maxRecDepth 20000 in
theorem ggX4_cellHas_X4_noCell : GoodIn wsX4_cellHas wsX4_noCell := goodIn_r _ [6, 7, 8, 9, 5, 10, 11, 12, 13, 14, 15, 16, 17, 18, 19, 20, 21, 22, 23, 24, 25, 26, 27, 28, 29, 30, 31, 32, 33, 34, 35, 36, 37, 38, 39, 40, 41, 42, 43, 44, 45, 46] (by decide +kernel) (by decide +kernel)
set_option maxRecDepth 20000 in
theorem gX4_cellHas_X4_noCell : GoodIn wsX4_cellHas (wsV RX4 147 RX4 yX4_noCell wsX4_noCell) := goodIn_app (goodIn_of _ (by decide +kernel)) ggX4_cellHas_X4_noCell
set_option maxHeartbeats 4000000 in
set_option maxRecDepth 100000 in
theorem kX4_cellHas (l : Launch) (dC : Nat → ClassId) (dI : Nat → Nat → Nat) (cI cZ : ClassId) (q n : Nat → Nat) (mb : Int32) (f : Nat → Int32) (A : Nat → Nat → Nat) (Y : Nat → Nat → Int32) (hW : WF n A) (hR : RM n A Y) (hmb : 0 < n 6 → mb = nI (n 7)) (c : Int32) (sz : Nat) : Met l yX4_cellHas wsX4_cellHas ({ frames := 2, cells := 0, slots := 0, locals := 46 }) (roP [.ref (q 0), .int c] sz (dC, dI) [(cI, .int), (cZ, .boolean)] (wM cI cZ q n mb f Y)) (roQi (uCellHas n A c) sz) 0 0 (va_A [] sz) := by
  refine ro_met_i (by decide) rfl (Nat.le_of_ble_eq_true rfl) ?_
  intro pp ee ss mm aa bb me cd RR QQ Z hx hb hml hown hts hRf hRl hP hK hA hS hend ls hl
  have hown : ss.vm.findClass RX4 = some mm.cls := hown
  have hRf : 2 ≤ RR.frames := hRf
  have hRl : 46 ≤ RR.locals := hRl
  have hl : lv_has ls 2 [(0, .ref (q 0)), (1, .int c)] := hl
  obtain ⟨w0, w1, w2, w3, w4, w5, w6, w7, w8, wA0, wA1, wA2⟩ := id hW
  have wC : n 0 * n 1 ≤ 42 := Nat.mul_le_mul w0 w1
  have hf7 := hts (.fieldLink RX4 7 "StatueSquareModel" "has" "[I") (List.mem_of_getElem? (i := 1) rfl)
  have hinX4 : ∀ w ∈ u_ws RX4 TX4 31, w ∈ wsX4_cellHas := fun _ h => List.mem_cons_of_mem _ (List.mem_append_right _ h)
  refine lv_aload_n hx hb dX4_cellHas_0 rfl (lv_at hl 0 rfl) ?_
  refine lv_iload_n hx hb dX4_cellHas_1 rfl (lv_at hl 1 rfl) ?_
  refine roV_i (As := [.int c]) (rest := []) ⟨hx, hb, hml, hown, hts⟩ (kX4_noCell l dC dI cI cZ q n mb f A Y hW hR hmb c _ ) (cwV 1 hts gX4_cellHas_X4_noCell rfl rfl rfl hdX4_noCell ⟨Nat.le_trans (Nat.le_of_ble_eq_true rfl) hRf, Nat.le_trans (Nat.le_of_ble_eq_true rfl) hRl⟩) (va_recv hK hP (ci := 4) (q0 := 0) rfl rfl) hK hP rfl hl.1 rfl (Nat.le_of_ble_eq_true rfl) dX4_cellHas_2 ⟨Nat.zero_le _, Nat.zero_le _⟩ hP hS hA (fun H locs hP hS => ?_)
  refine x_ifb_eq (tgt := 12) hx hb dX4_cellHas_5 (by decide) (fun c5 => ?_) (fun c5 => ?_)
  · skip
    have c5 : inB c (n 0 * n 1) = true := by simpa using c5
    obtain ⟨j, hj, rfl⟩ := inB_t (by omega) c5
    have hxj : xn (nI j) = j := xn_nI (by omega)
    refine lv_aload_n hx hb dX4_cellHas_12 rfl (lv_at hl 0 rfl) ?_
    refine x_get (D := (dC, dI)) (ci := 4) (v := .ref (q 1)) (C := RX4) (T := TX4) (N := 31) hx hb hts hinX4 hown hK hP 0 rfl rfl 3 (Nat.le_of_ble_eq_true rfl) hf7 rfl rfl dX4_cellHas_13 ?_
    refine lv_iload_n hx hb dX4_cellHas_16 rfl (lv_at hl 1 rfl) ?_
    refine x_iald (v := (nI (A 0 j))) hx hb hK hP 1 0 rfl rfl (by omega) (by decide) (hR.1 _ (by omega)) dX4_cellHas_17 ?_
    exact hend _ _ _ _ _ (by simp [uCellHas, inB02, c5, hxj] <;> rfl) hS dX4_cellHas_18
  · skip
    have c5 : inB c (n 0 * n 1) = false := by simpa using c5
    refine lv_iconst (v := -1) hx hb dX4_cellHas_8 rfl ?_
    refine lv_goto (tgt := 18) hx hb dX4_cellHas_9 (by decide) ?_
    exact hend _ _ _ _ _ (by simp [uCellHas, inB02, c5] <;> rfl) hS dX4_cellHas_18
theorem hdX4_noBench : yX4_noBench.cls = RX4 ∧ yX4_noBench.cls ≠ "java/lang/invoke/MethodHandle" ∧ yX4_noBench.cls ≠ "java/lang/invoke/VarHandle" ∧ (parseMethodDescriptor yX4_noBench.desc).map (fun d => d.parameters.length) = some 1 := by decide +kernel
set_option maxRecDepth 20000 in
theorem ggX4_bench_X4_noBench : GoodIn wsX4_bench wsX4_noBench := goodIn_r _ [6, 7, 8, 9, 5, 10, 11, 12, 13, 14, 15, 16, 17, 18, 19, 20, 21, 22, 23, 24, 25, 26, 27, 28, 29, 30, 31, 32, 33, 34, 35, 36, 37, 38, 39, 40, 41] (by decide +kernel) (by decide +kernel)
set_option maxRecDepth 20000 in
theorem gX4_bench_X4_noBench : GoodIn wsX4_bench (wsV RX4 156 RX4 yX4_noBench wsX4_noBench) := goodIn_app (goodIn_of _ (by decide +kernel)) ggX4_bench_X4_noBench
set_option maxHeartbeats 4000000 in
set_option maxRecDepth 100000 in
theorem kX4_bench (l : Launch) (dC : Nat → ClassId) (dI : Nat → Nat → Nat) (cI cZ : ClassId) (q n : Nat → Nat) (mb : Int32) (f : Nat → Int32) (A : Nat → Nat → Nat) (Y : Nat → Nat → Int32) (hW : WF n A) (hR : RM n A Y) (hmb : 0 < n 6 → mb = nI (n 7)) (b : Int32) (sz : Nat) : Met l yX4_bench wsX4_bench ({ frames := 2, cells := 0, slots := 0, locals := 46 }) (roP [.ref (q 0), .int b] sz (dC, dI) [(cI, .int), (cZ, .boolean)] (wM cI cZ q n mb f Y)) (roQi (uBench n A b) sz) 0 0 (va_A [] sz) := by
  refine ro_met_i (by decide) rfl (Nat.le_of_ble_eq_true rfl) ?_
  intro pp ee ss mm aa bb me cd RR QQ Z hx hb hml hown hts hRf hRl hP hK hA hS hend ls hl
  have hown : ss.vm.findClass RX4 = some mm.cls := hown
  have hRf : 2 ≤ RR.frames := hRf
  have hRl : 46 ≤ RR.locals := hRl
  have hl : lv_has ls 2 [(0, .ref (q 0)), (1, .int b)] := hl
  obtain ⟨w0, w1, w2, w3, w4, w5, w6, w7, w8, wA0, wA1, wA2⟩ := id hW
  have wC : n 0 * n 1 ≤ 42 := Nat.mul_le_mul w0 w1
  have hf13 := hts (.fieldLink RX4 13 "StatueSquareModel" "benchAt" "[I") (List.mem_of_getElem? (i := 1) rfl)
  have hinX4 : ∀ w ∈ u_ws RX4 TX4 31, w ∈ wsX4_bench := fun _ h => List.mem_cons_of_mem _ (List.mem_append_right _ h)
  refine lv_aload_n hx hb dX4_bench_0 rfl (lv_at hl 0 rfl) ?_
  refine lv_iload_n hx hb dX4_bench_1 rfl (lv_at hl 1 rfl) ?_
  refine roV_i (As := [.int b]) (rest := []) ⟨hx, hb, hml, hown, hts⟩ (kX4_noBench l dC dI cI cZ q n mb f A Y hW hR hmb b _ ) (cwV 1 hts gX4_bench_X4_noBench rfl rfl rfl hdX4_noBench ⟨Nat.le_trans (Nat.le_of_ble_eq_true rfl) hRf, Nat.le_trans (Nat.le_of_ble_eq_true rfl) hRl⟩) (va_recv hK hP (ci := 4) (q0 := 0) rfl rfl) hK hP rfl hl.1 rfl (Nat.le_of_ble_eq_true rfl) dX4_bench_2 ⟨Nat.zero_le _, Nat.zero_le _⟩ hP hS hA (fun H locs hP hS => ?_)
  refine x_ifb_eq (tgt := 12) hx hb dX4_bench_5 (by decide) (fun c5 => ?_) (fun c5 => ?_)
  · skip
    have c5 : inB b (n 2) = true := by simpa using c5
    obtain ⟨j, hj, rfl⟩ := inB_t (by omega) c5
    have hxj : xn (nI j) = j := xn_nI (by omega)
    refine lv_aload_n hx hb dX4_bench_12 rfl (lv_at hl 0 rfl) ?_
    refine x_get (D := (dC, dI)) (ci := 4) (v := .ref (q 2)) (C := RX4) (T := TX4) (N := 31) hx hb hts hinX4 hown hK hP 0 rfl rfl 5 (Nat.le_of_ble_eq_true rfl) hf13 rfl rfl dX4_bench_13 ?_
    refine lv_iload_n hx hb dX4_bench_16 rfl (lv_at hl 1 rfl) ?_
    refine x_iald (v := (nI (A 1 j))) hx hb hK hP 2 0 rfl rfl (by omega) (by decide) (hR.2.1 _ (by omega)) dX4_bench_17 ?_
    exact hend _ _ _ _ _ (by simp [uBench, inB02, c5, hxj] <;> rfl) hS dX4_bench_18
  · skip
    have c5 : inB b (n 2) = false := by simpa using c5
    refine lv_iconst (v := -1) hx hb dX4_bench_8 rfl ?_
    refine lv_goto (tgt := 18) hx hb dX4_bench_9 (by decide) ?_
    exact hend _ _ _ _ _ (by simp [uBench, inB02, c5] <;> rfl) hS dX4_bench_18
set_option maxHeartbeats 4000000 in
set_option maxRecDepth 100000 in
theorem kX4_tallNow (l : Launch) (dC : Nat → ClassId) (dI : Nat → Nat → Nat) (cI cZ : ClassId) (q n : Nat → Nat) (mb : Int32) (f : Nat → Int32) (A : Nat → Nat → Nat) (Y : Nat → Nat → Int32) (hW : WF n A) (hR : RM n A Y) (hmb : 0 < n 6 → mb = nI (n 7)) (t : Nat) (sz : Nat) (ht : t < n 3) : Met l yX4_tallNow wsX4_tallNow ({ frames := 0, cells := 0, slots := 0, locals := 0 }) (roP [.ref (q 0), .int (nI t)] sz (dC, dI) [(cI, .int), (cZ, .boolean)] (wM cI cZ q n mb f Y)) (roQi (nI (sTall n A (n 4) t)) sz) 0 0 (va_A [] sz) := by
  refine ro_met_i (by decide) rfl (Nat.le_of_ble_eq_true rfl) ?_
  intro pp ee ss mm aa bb me cd RR QQ Z hx hb hml hown hts hRf hRl hP hK hA hS hend ls hl
  have hown : ss.vm.findClass RX4 = some mm.cls := hown
  have hRf : 0 ≤ RR.frames := hRf
  have hRl : 0 ≤ RR.locals := hRl
  have hl : lv_has ls 3 [(0, .ref (q 0)), (1, .int (nI t))] := hl
  obtain ⟨w0, w1, w2, w3, w4, w5, w6, w7, w8, wA0, wA1, wA2⟩ := id hW
  have wC : n 0 * n 1 ≤ 42 := Nat.mul_le_mul w0 w1
  have wt := wA2 t ht
  have hf16 := hts (.fieldLink RX4 16 "StatueSquareModel" "kindOf" "[I") (List.mem_of_getElem? (i := 1) rfl)
  have hinX4 : ∀ w ∈ u_ws RX4 TX4 31, w ∈ wsX4_tallNow := fun _ h => List.mem_cons_of_mem _ (List.mem_append_right _ h)
  have hf143 := hts (.fieldLink RX4 143 "StatueSquareModel" "isWinter" "Z") (List.mem_of_getElem? (i := 3) rfl)
  have hf22 := hts (.fieldLink RX4 22 "StatueSquareModel" "tallOf" "[I") (List.mem_of_getElem? (i := 2) rfl)
  have hf140 := hts (.fieldLink RX4 140 "StatueSquareModel" "yearNow" "I") (List.mem_of_getElem? (i := 4) rfl)
  refine lv_aload_n hx hb dX4_tallNow_0 rfl (lv_at hl 0 rfl) ?_
  refine x_get (D := (dC, dI)) (ci := 4) (v := .ref (q 3)) (C := RX4) (T := TX4) (N := 31) hx hb hts hinX4 hown hK hP 0 rfl rfl 7 (Nat.le_of_ble_eq_true rfl) hf16 rfl rfl dX4_tallNow_1 ?_
  refine lv_iload_n hx hb dX4_tallNow_4 rfl (lv_at hl 1 rfl) ?_
  refine x_iald (v := (nI (A 2 t))) hx hb hK hP 3 0 rfl rfl (by omega) (by decide) (hR.2.2 _ (by omega)).1 dX4_tallNow_5 ?_
  refine x_if_ne (tgt := 16) hx hb (by omega) dX4_tallNow_6 (by decide) (fun c6 => ?_) (fun c6 => ?_)
  · skip
    refine lv_aload_n hx hb dX4_tallNow_16 rfl (lv_at hl 0 rfl) ?_
    refine x_get (D := (dC, dI)) (ci := 4) (v := .int (nI (n 5))) (C := RX4) (T := TX4) (N := 31) hx hb hts hinX4 hown hK hP 0 rfl rfl 13 (Nat.le_of_ble_eq_true rfl) hf143 rfl rfl dX4_tallNow_17 ?_
    refine x_if_eq (tgt := 32) hx hb (by omega) dX4_tallNow_20 (by decide) (fun c20 => ?_) (fun c20 => ?_)
    · skip
      refine lv_aload_n hx hb dX4_tallNow_32 rfl (lv_at hl 0 rfl) ?_
      refine x_get (D := (dC, dI)) (ci := 4) (v := .ref (q 5)) (C := RX4) (T := TX4) (N := 31) hx hb hts hinX4 hown hK hP 0 rfl rfl 9 (Nat.le_of_ble_eq_true rfl) hf22 rfl rfl dX4_tallNow_33 ?_
      refine lv_iload_n hx hb dX4_tallNow_36 rfl (lv_at hl 1 rfl) ?_
      refine x_iald (v := (nI (A 4 t))) hx hb hK hP 5 0 rfl rfl (by omega) (by decide) (hR.2.2 _ (by omega)).2.2.1 dX4_tallNow_37 ?_
      refine lv_iconst (v := nI 1) hx hb dX4_tallNow_38 rfl ?_
      refine x_iadd hx hb dX4_tallNow_39 ?_
      refine lv_istore_n (lv' := [(2, .int (nI ((A 4 t) + 1))), (0, .ref (q 0)), (1, .int (nI t))]) hx hb dX4_tallNow_40 rfl hl (by decide) rfl (fun ls hl => ?_)
      refine lv_aload_n hx hb dX4_tallNow_41 rfl (lv_at hl 1 rfl) ?_
      refine x_get (D := (dC, dI)) (ci := 4) (v := .ref (q 3)) (C := RX4) (T := TX4) (N := 31) hx hb hts hinX4 hown hK hP 0 rfl rfl 7 (Nat.le_of_ble_eq_true rfl) hf16 rfl rfl dX4_tallNow_42 ?_
      refine lv_iload_n hx hb dX4_tallNow_45 rfl (lv_at hl 2 rfl) ?_
      refine x_iald (v := (nI (A 2 t))) hx hb hK hP 3 0 rfl rfl (by omega) (by decide) (hR.2.2 _ (by omega)).1 dX4_tallNow_46 ?_
      refine lv_iconst (v := nI 1) hx hb dX4_tallNow_47 rfl ?_
      refine x_icmp_ne (tgt := 53) hx hb (by omega) (by omega) dX4_tallNow_48 (by decide) (fun c48 => ?_) (fun c48 => ?_)
      · skip
        refine lv_iload_n hx hb dX4_tallNow_53 rfl (lv_at hl 0 rfl) ?_
        refine lv_aload_n hx hb dX4_tallNow_54 rfl (lv_at hl 1 rfl) ?_
        refine x_get (D := (dC, dI)) (ci := 4) (v := .int (nI (n 4))) (C := RX4) (T := TX4) (N := 31) hx hb hts hinX4 hown hK hP 0 rfl rfl 12 (Nat.le_of_ble_eq_true rfl) hf140 rfl rfl dX4_tallNow_55 ?_
        refine lv_iconst (v := nI 3) hx hb dX4_tallNow_58 rfl ?_
        refine x_idiv hx hb (by omega) (by omega) (by omega) dX4_tallNow_59 ?_
        refine x_iadd hx hb dX4_tallNow_60 ?_
        refine lv_istore_n (lv' := [(2, .int (nI (((A 4 t) + 1) + ((n 4) / 3)))), (0, .ref (q 0)), (1, .int (nI t))]) hx hb dX4_tallNow_61 rfl hl (by decide) rfl (fun ls hl => ?_)
        refine lv_aload_n hx hb dX4_tallNow_62 rfl (lv_at hl 1 rfl) ?_
        refine x_get (D := (dC, dI)) (ci := 4) (v := .int (nI (n 5))) (C := RX4) (T := TX4) (N := 31) hx hb hts hinX4 hown hK hP 0 rfl rfl 13 (Nat.le_of_ble_eq_true rfl) hf143 rfl rfl dX4_tallNow_63 ?_
        refine x_if_eq (tgt := 75) hx hb (by omega) dX4_tallNow_66 (by decide) (fun c66 => ?_) (fun c66 => ?_)
        · skip
          refine lv_iload_n hx hb dX4_tallNow_75 rfl (lv_at hl 0 rfl) ?_
          exact hend _ _ _ _ _ (by congr 1; simp [sTall, c6, show A 2 t = 2 from by omega, c20]; try omega) hS dX4_tallNow_76
        · skip
          refine lv_iload_n hx hb dX4_tallNow_69 rfl (lv_at hl 0 rfl) ?_
          refine lv_iconst (v := nI 2) hx hb dX4_tallNow_70 rfl ?_
          refine x_idiv hx hb (by omega) (by omega) (by omega) dX4_tallNow_71 ?_
          refine lv_goto (tgt := 76) hx hb dX4_tallNow_72 (by decide) ?_
          exact hend _ _ _ _ _ (by congr 1; simp [sTall, c6, show A 2 t = 2 from by omega, c20]; try omega) hS dX4_tallNow_76
      · skip
        refine lv_iload_n hx hb dX4_tallNow_51 rfl (lv_at hl 0 rfl) ?_
        exact hend _ _ _ _ _ (by congr 1; simp [sTall, c6, c20, c48]) hS dX4_tallNow_52
    · skip
      refine lv_aload_n hx hb dX4_tallNow_23 rfl (lv_at hl 0 rfl) ?_
      refine x_get (D := (dC, dI)) (ci := 4) (v := .ref (q 5)) (C := RX4) (T := TX4) (N := 31) hx hb hts hinX4 hown hK hP 0 rfl rfl 9 (Nat.le_of_ble_eq_true rfl) hf22 rfl rfl dX4_tallNow_24 ?_
      refine lv_iload_n hx hb dX4_tallNow_27 rfl (lv_at hl 1 rfl) ?_
      refine x_iald (v := (nI (A 4 t))) hx hb hK hP 5 0 rfl rfl (by omega) (by decide) (hR.2.2 _ (by omega)).2.2.1 dX4_tallNow_28 ?_
      refine lv_goto (tgt := 40) hx hb dX4_tallNow_29 (by decide) ?_
      refine lv_istore_n (lv' := [(2, .int (nI (A 4 t))), (0, .ref (q 0)), (1, .int (nI t))]) hx hb dX4_tallNow_40 rfl hl (by decide) rfl (fun ls hl => ?_)
      refine lv_aload_n hx hb dX4_tallNow_41 rfl (lv_at hl 1 rfl) ?_
      refine x_get (D := (dC, dI)) (ci := 4) (v := .ref (q 3)) (C := RX4) (T := TX4) (N := 31) hx hb hts hinX4 hown hK hP 0 rfl rfl 7 (Nat.le_of_ble_eq_true rfl) hf16 rfl rfl dX4_tallNow_42 ?_
      refine lv_iload_n hx hb dX4_tallNow_45 rfl (lv_at hl 2 rfl) ?_
      refine x_iald (v := (nI (A 2 t))) hx hb hK hP 3 0 rfl rfl (by omega) (by decide) (hR.2.2 _ (by omega)).1 dX4_tallNow_46 ?_
      refine lv_iconst (v := nI 1) hx hb dX4_tallNow_47 rfl ?_
      refine x_icmp_ne (tgt := 53) hx hb (by omega) (by omega) dX4_tallNow_48 (by decide) (fun c48 => ?_) (fun c48 => ?_)
      · skip
        refine lv_iload_n hx hb dX4_tallNow_53 rfl (lv_at hl 0 rfl) ?_
        refine lv_aload_n hx hb dX4_tallNow_54 rfl (lv_at hl 1 rfl) ?_
        refine x_get (D := (dC, dI)) (ci := 4) (v := .int (nI (n 4))) (C := RX4) (T := TX4) (N := 31) hx hb hts hinX4 hown hK hP 0 rfl rfl 12 (Nat.le_of_ble_eq_true rfl) hf140 rfl rfl dX4_tallNow_55 ?_
        refine lv_iconst (v := nI 3) hx hb dX4_tallNow_58 rfl ?_
        refine x_idiv hx hb (by omega) (by omega) (by omega) dX4_tallNow_59 ?_
        refine x_iadd hx hb dX4_tallNow_60 ?_
        refine lv_istore_n (lv' := [(2, .int (nI ((A 4 t) + ((n 4) / 3)))), (0, .ref (q 0)), (1, .int (nI t))]) hx hb dX4_tallNow_61 rfl hl (by decide) rfl (fun ls hl => ?_)
        refine lv_aload_n hx hb dX4_tallNow_62 rfl (lv_at hl 1 rfl) ?_
        refine x_get (D := (dC, dI)) (ci := 4) (v := .int (nI (n 5))) (C := RX4) (T := TX4) (N := 31) hx hb hts hinX4 hown hK hP 0 rfl rfl 13 (Nat.le_of_ble_eq_true rfl) hf143 rfl rfl dX4_tallNow_63 ?_
        refine x_if_eq (tgt := 75) hx hb (by omega) dX4_tallNow_66 (by decide) (fun c66 => ?_) (fun c66 => ?_)
        · skip
          refine lv_iload_n hx hb dX4_tallNow_75 rfl (lv_at hl 0 rfl) ?_
          exact hend _ _ _ _ _ (by congr 1; simp [sTall, c6, show A 2 t = 2 from by omega, c20]; try omega) hS dX4_tallNow_76
        · skip
          refine lv_iload_n hx hb dX4_tallNow_69 rfl (lv_at hl 0 rfl) ?_
          refine lv_iconst (v := nI 2) hx hb dX4_tallNow_70 rfl ?_
          refine x_idiv hx hb (by omega) (by omega) (by omega) dX4_tallNow_71 ?_
          refine lv_goto (tgt := 76) hx hb dX4_tallNow_72 (by decide) ?_
          exact hend _ _ _ _ _ (by congr 1; simp [sTall, c6, show A 2 t = 2 from by omega, c20]; try omega) hS dX4_tallNow_76
      · skip
        refine lv_iload_n hx hb dX4_tallNow_51 rfl (lv_at hl 0 rfl) ?_
        exact hend _ _ _ _ _ (by congr 1; simp [sTall, c6, c20, c48]) hS dX4_tallNow_52
  · skip
    refine lv_aload_n hx hb dX4_tallNow_9 rfl (lv_at hl 0 rfl) ?_
    refine x_get (D := (dC, dI)) (ci := 4) (v := .ref (q 5)) (C := RX4) (T := TX4) (N := 31) hx hb hts hinX4 hown hK hP 0 rfl rfl 9 (Nat.le_of_ble_eq_true rfl) hf22 rfl rfl dX4_tallNow_10 ?_
    refine lv_iload_n hx hb dX4_tallNow_13 rfl (lv_at hl 1 rfl) ?_
    refine x_iald (v := (nI (A 4 t))) hx hb hK hP 5 0 rfl rfl (by omega) (by decide) (hR.2.2 _ (by omega)).2.2.1 dX4_tallNow_14 ?_
    exact hend _ _ _ _ _ (by congr 1; simp [sTall, c6]) hS dX4_tallNow_15
theorem hdX4_noThing : yX4_noThing.cls = RX4 ∧ yX4_noThing.cls ≠ "java/lang/invoke/MethodHandle" ∧ yX4_noThing.cls ≠ "java/lang/invoke/VarHandle" ∧ (parseMethodDescriptor yX4_noThing.desc).map (fun d => d.parameters.length) = some 1 := by decide +kernel
theorem hdX4_tallNow : yX4_tallNow.cls = RX4 ∧ yX4_tallNow.cls ≠ "java/lang/invoke/MethodHandle" ∧ yX4_tallNow.cls ≠ "java/lang/invoke/VarHandle" ∧ (parseMethodDescriptor yX4_tallNow.desc).map (fun d => d.parameters.length) = some 1 := by decide +kernel
set_option maxRecDepth 20000 in
theorem ggX4_ofThing_X4_noThing : GoodIn wsX4_ofThing wsX4_noThing := goodIn_r _ [10, 11, 12, 13, 9, 14, 21, 22, 23, 24, 25, 26, 27, 28, 29, 30, 31, 32, 33, 34, 35, 36, 37, 38, 39, 40, 41, 42, 43, 44, 45, 46, 47, 48, 49, 50, 51] (by decide +kernel) (by decide +kernel)
set_option maxRecDepth 20000 in
theorem gX4_ofThing_X4_noThing : GoodIn wsX4_ofThing (wsV RX4 150 RX4 yX4_noThing wsX4_noThing) := goodIn_app (goodIn_of _ (by decide +kernel)) ggX4_ofThing_X4_noThing
set_option maxRecDepth 20000 in
theorem ggX4_ofThing_X4_tallNow : GoodIn wsX4_ofThing wsX4_tallNow := goodIn_r _ [18, 1, 3, 19, 20, 21, 22, 23, 24, 25, 26, 27, 28, 29, 30, 31, 32, 33, 34, 35, 36, 37, 38, 39, 40, 41, 42, 43, 44, 45, 46, 47, 48, 49, 50, 51] (by decide +kernel) (by decide +kernel)
set_option maxRecDepth 20000 in
theorem gX4_ofThing_X4_tallNow : GoodIn wsX4_ofThing (wsV RX4 153 RX4 yX4_tallNow wsX4_tallNow) := goodIn_app (goodIn_of _ (by decide +kernel)) ggX4_ofThing_X4_tallNow
set_option maxHeartbeats 4000000 in
set_option maxRecDepth 100000 in
theorem kX4_ofThing (l : Launch) (dC : Nat → ClassId) (dI : Nat → Nat → Nat) (cI cZ : ClassId) (q n : Nat → Nat) (mb : Int32) (f : Nat → Int32) (A : Nat → Nat → Nat) (Y : Nat → Nat → Int32) (hW : WF n A) (hR : RM n A Y) (hmb : 0 < n 6 → mb = nI (n 7)) (t : Int32) (w : Int32) (sz : Nat) : Met l yX4_ofThing wsX4_ofThing ({ frames := 2, cells := 0, slots := 0, locals := 46 }) (roP [.ref (q 0), .int t, .int w] sz (dC, dI) [(cI, .int), (cZ, .boolean)] (wM cI cZ q n mb f Y)) (roQi (uOfThing n A t w) sz) 0 0 (va_A [] sz) := by
  refine ro_met_i (by decide) rfl (Nat.le_of_ble_eq_true rfl) ?_
  intro pp ee ss mm aa bb me cd RR QQ Z hx hb hml hown hts hRf hRl hP hK hA hS hend ls hl
  have hown : ss.vm.findClass RX4 = some mm.cls := hown
  have hRf : 2 ≤ RR.frames := hRf
  have hRl : 46 ≤ RR.locals := hRl
  have hl : lv_has ls 3 [(0, .ref (q 0)), (1, .int t), (2, .int w)] := hl
  obtain ⟨w0, w1, w2, w3, w4, w5, w6, w7, w8, wA0, wA1, wA2⟩ := id hW
  have wC : n 0 * n 1 ≤ 42 := Nat.mul_le_mul w0 w1
  have hf16 := hts (.fieldLink RX4 16 "StatueSquareModel" "kindOf" "[I") (List.mem_of_getElem? (i := 1) rfl)
  have hinX4 : ∀ w ∈ u_ws RX4 TX4 31, w ∈ wsX4_ofThing := fun _ h => List.mem_cons_of_mem _ (List.mem_append_right _ h)
  have hf19 := hts (.fieldLink RX4 19 "StatueSquareModel" "thingAt" "[I") (List.mem_of_getElem? (i := 2) rfl)
  have hf22 := hts (.fieldLink RX4 22 "StatueSquareModel" "tallOf" "[I") (List.mem_of_getElem? (i := 3) rfl)
  have hf25 := hts (.fieldLink RX4 25 "StatueSquareModel" "isCut" "[Z") (List.mem_of_getElem? (i := 4) rfl)
  have hf29 := hts (.fieldLink RX4 29 "StatueSquareModel" "priceOf" "[I") (List.mem_of_getElem? (i := 5) rfl)
  refine lv_aload_n hx hb dX4_ofThing_0 rfl (lv_at hl 0 rfl) ?_
  refine lv_iload_n hx hb dX4_ofThing_1 rfl (lv_at hl 1 rfl) ?_
  refine roV_i (As := [.int t]) (rest := []) ⟨hx, hb, hml, hown, hts⟩ (kX4_noThing l dC dI cI cZ q n mb f A Y hW hR hmb t _ ) (cwV 1 hts gX4_ofThing_X4_noThing rfl rfl rfl hdX4_noThing ⟨Nat.le_trans (Nat.le_of_ble_eq_true rfl) hRf, Nat.le_trans (Nat.le_of_ble_eq_true rfl) hRl⟩) (va_recv hK hP (ci := 4) (q0 := 0) rfl rfl) hK hP rfl hl.1 rfl (Nat.le_of_ble_eq_true rfl) dX4_ofThing_2 ⟨Nat.zero_le _, Nat.zero_le _⟩ hP hS hA (fun H locs hP hS => ?_)
  refine x_ifb_eq (tgt := 10) hx hb dX4_ofThing_5 (by decide) (fun c5 => ?_) (fun c5 => ?_)
  · skip
    have c5 : inB t (n 3) = true := by simpa using c5
    obtain ⟨j, hj, rfl⟩ := inB_t (by omega) c5
    have hxj : xn (nI j) = j := xn_nI (by omega)
    refine lv_iload_n hx hb dX4_ofThing_10 rfl (lv_at hl 2 rfl) ?_
    by_cases hw0 : w = 0
    · skip
      refine lv_tableIn (tgt := 48) hx hb dX4_ofThing_11 (by rw [hw0]; decide) (by rw [hw0]; decide) (by rw [hw0]; rfl) (by decide) ?_
      refine lv_aload_n hx hb dX4_ofThing_48 rfl (lv_at hl 0 rfl) ?_
      refine x_get (D := (dC, dI)) (ci := 4) (v := .ref (q 3)) (C := RX4) (T := TX4) (N := 31) hx hb hts hinX4 hown hK hP 0 rfl rfl 7 (Nat.le_of_ble_eq_true rfl) hf16 rfl rfl dX4_ofThing_49 ?_
      refine lv_iload_n hx hb dX4_ofThing_52 rfl (lv_at hl 1 rfl) ?_
      refine x_iald (v := (nI (A 2 j))) hx hb hK hP 3 0 rfl rfl (by omega) (by decide) (hR.2.2 _ (by omega)).1 dX4_ofThing_53 ?_
      exact hend _ _ _ _ _ (by simp [uOfThing, inB02, c5, hxj, hw0] <;> rfl) hS dX4_ofThing_54
    by_cases hw1 : w = 1
    · skip
      refine lv_tableIn (tgt := 55) hx hb dX4_ofThing_11 (by rw [hw1]; decide) (by rw [hw1]; decide) (by rw [hw1]; rfl) (by decide) ?_
      refine lv_aload_n hx hb dX4_ofThing_55 rfl (lv_at hl 0 rfl) ?_
      refine x_get (D := (dC, dI)) (ci := 4) (v := .ref (q 4)) (C := RX4) (T := TX4) (N := 31) hx hb hts hinX4 hown hK hP 0 rfl rfl 8 (Nat.le_of_ble_eq_true rfl) hf19 rfl rfl dX4_ofThing_56 ?_
      refine lv_iload_n hx hb dX4_ofThing_59 rfl (lv_at hl 1 rfl) ?_
      refine x_iald (v := (nI (A 3 j))) hx hb hK hP 4 0 rfl rfl (by omega) (by decide) (hR.2.2 _ (by omega)).2.1 dX4_ofThing_60 ?_
      exact hend _ _ _ _ _ (by simp [uOfThing, inB02, c5, hxj, hw0, hw1] <;> rfl) hS dX4_ofThing_61
    by_cases hw2 : w = 2
    · skip
      refine lv_tableIn (tgt := 62) hx hb dX4_ofThing_11 (by rw [hw2]; decide) (by rw [hw2]; decide) (by rw [hw2]; rfl) (by decide) ?_
      refine lv_aload_n hx hb dX4_ofThing_62 rfl (lv_at hl 0 rfl) ?_
      refine x_get (D := (dC, dI)) (ci := 4) (v := .ref (q 5)) (C := RX4) (T := TX4) (N := 31) hx hb hts hinX4 hown hK hP 0 rfl rfl 9 (Nat.le_of_ble_eq_true rfl) hf22 rfl rfl dX4_ofThing_63 ?_
      refine lv_iload_n hx hb dX4_ofThing_66 rfl (lv_at hl 1 rfl) ?_
      refine x_iald (v := (nI (A 4 j))) hx hb hK hP 5 0 rfl rfl (by omega) (by decide) (hR.2.2 _ (by omega)).2.2.1 dX4_ofThing_67 ?_
      exact hend _ _ _ _ _ (by simp [uOfThing, inB02, c5, hxj, hw0, hw1, hw2] <;> rfl) hS dX4_ofThing_68
    by_cases hw3 : w = 3
    · skip
      refine lv_tableIn (tgt := 69) hx hb dX4_ofThing_11 (by rw [hw3]; decide) (by rw [hw3]; decide) (by rw [hw3]; rfl) (by decide) ?_
      refine lv_aload_n hx hb dX4_ofThing_69 rfl (lv_at hl 0 rfl) ?_
      refine lv_iload_n hx hb dX4_ofThing_70 rfl (lv_at hl 1 rfl) ?_
      refine roV_i (As := [.int (nI j)]) (rest := []) ⟨hx, hb, hml, hown, hts⟩ (kX4_tallNow l dC dI cI cZ q n mb f A Y hW hR hmb j _ (by omega)) (cwV 1 hts gX4_ofThing_X4_tallNow rfl rfl rfl hdX4_tallNow ⟨Nat.le_trans (Nat.le_of_ble_eq_true rfl) hRf, Nat.le_trans (Nat.le_of_ble_eq_true rfl) hRl⟩) (va_recv hK hP (ci := 4) (q0 := 0) rfl rfl) hK hP rfl hl.1 rfl (Nat.le_of_ble_eq_true rfl) dX4_ofThing_71 ⟨Nat.zero_le _, Nat.zero_le _⟩ hP hS hA (fun H locs hP hS => ?_)
      exact hend _ _ _ _ _ (by simp [uOfThing, inB02, c5, hxj, hw0, hw1, hw2, hw3] <;> rfl) hS dX4_ofThing_74
    by_cases hw4 : w = 4
    · skip
      refine lv_tableIn (tgt := 75) hx hb dX4_ofThing_11 (by rw [hw4]; decide) (by rw [hw4]; decide) (by rw [hw4]; rfl) (by decide) ?_
      refine lv_aload_n hx hb dX4_ofThing_75 rfl (lv_at hl 0 rfl) ?_
      refine x_get (D := (dC, dI)) (ci := 4) (v := .ref (q 6)) (C := RX4) (T := TX4) (N := 31) hx hb hts hinX4 hown hK hP 0 rfl rfl 10 (Nat.le_of_ble_eq_true rfl) hf25 rfl rfl dX4_ofThing_76 ?_
      refine lv_iload_n hx hb dX4_ofThing_79 rfl (lv_at hl 1 rfl) ?_
      refine x_zald (v := (bI ((n 8).testBit j))) hx hb hK hP 6 1 rfl rfl (by omega) (by decide) (hR.2.2 _ (by omega)).2.2.2.1 dX4_ofThing_80 ?_
      refine x_ifb_eq (tgt := 88) hx hb dX4_ofThing_81 (by decide) (fun c81 => ?_) (fun c81 => ?_)
      · skip
        refine lv_iconst (v := nI 0) hx hb dX4_ofThing_88 rfl ?_
        exact hend _ _ _ _ _ (by simp [uOfThing, c5, hxj, hw4, sThere, c81]; rfl) hS dX4_ofThing_89
      · skip
        refine lv_iconst (v := nI 1) hx hb dX4_ofThing_84 rfl ?_
        refine lv_goto (tgt := 89) hx hb dX4_ofThing_85 (by decide) ?_
        exact hend _ _ _ _ _ (by simp [uOfThing, c5, hxj, hw4, sThere, c81]; rfl) hS dX4_ofThing_89
    by_cases hw5 : w = 5
    · skip
      refine lv_tableIn (tgt := 90) hx hb dX4_ofThing_11 (by rw [hw5]; decide) (by rw [hw5]; decide) (by rw [hw5]; rfl) (by decide) ?_
      refine lv_aload_n hx hb dX4_ofThing_90 rfl (lv_at hl 0 rfl) ?_
      refine x_get (D := (dC, dI)) (ci := 4) (v := .ref (q 7)) (C := RX4) (T := TX4) (N := 31) hx hb hts hinX4 hown hK hP 0 rfl rfl 11 (Nat.le_of_ble_eq_true rfl) hf29 rfl rfl dX4_ofThing_91 ?_
      refine lv_iload_n hx hb dX4_ofThing_94 rfl (lv_at hl 1 rfl) ?_
      refine x_iald (v := (nI (A 5 j))) hx hb hK hP 7 0 rfl rfl (by omega) (by decide) (hR.2.2 _ (by omega)).2.2.2.2 dX4_ofThing_95 ?_
      exact hend _ _ _ _ _ (by simp [uOfThing, inB02, c5, hxj, hw0, hw1, hw2, hw3, hw4, hw5] <;> rfl) hS dX4_ofThing_96
    refine lv_tableOut (tgt := 97) hx hb dX4_ofThing_11 (by have q0 : ¬ w.toInt = 0 := lv_neT hw0 rfl; have q1 : ¬ w.toInt = 1 := lv_neT hw1 rfl; have q2 : ¬ w.toInt = 2 := lv_neT hw2 rfl; have q3 : ¬ w.toInt = 3 := lv_neT hw3 rfl; have q4 : ¬ w.toInt = 4 := lv_neT hw4 rfl; have q5 : ¬ w.toInt = 5 := lv_neT hw5 rfl; omega) (by decide) ?_
    refine lv_bipush (v := -2) hx hb dX4_ofThing_97 rfl ?_
    exact hend _ _ _ _ _ (by simp [uOfThing, inB02, c5, hxj, hw0, hw1, hw2, hw3, hw4, hw5] <;> rfl) hS dX4_ofThing_99
  · skip
    have c5 : inB t (n 3) = false := by simpa using c5
    refine lv_iconst (v := -1) hx hb dX4_ofThing_8 rfl ?_
    exact hend _ _ _ _ _ (by simp [uOfThing, inB02, c5] <;> rfl) hS dX4_ofThing_9
theorem hdX4_common : yX4_common.cls ≠ "java/lang/invoke/MethodHandle" ∧ yX4_common.cls ≠ "java/lang/invoke/VarHandle" ∧ (parseMethodDescriptor yX4_common.desc).map (fun d => d.parameters.length) = some 2 := by decide +kernel
theorem hdX4_far : yX4_far.cls ≠ "java/lang/invoke/MethodHandle" ∧ yX4_far.cls ≠ "java/lang/invoke/VarHandle" ∧ (parseMethodDescriptor yX4_far.desc).map (fun d => d.parameters.length) = some 2 := by decide +kernel
set_option maxRecDepth 20000 in
theorem ggX4_inTheWay_X4_far : GoodIn wsX4_inTheWay wsX4_far := goodIn_r _ [8] (by decide +kernel) (by decide +kernel)
set_option maxRecDepth 20000 in
theorem gX4_inTheWay_X4_far : GoodIn wsX4_inTheWay (va_wsS RX4 166 yX4_far wsX4_far) := goodIn_app (goodIn_of _ (by decide +kernel)) ggX4_inTheWay_X4_far
set_option maxRecDepth 20000 in
theorem ggX4_inTheWay_X4_common : GoodIn wsX4_inTheWay wsX4_common := goodIn_r _ [11] (by decide +kernel) (by decide +kernel)
set_option maxRecDepth 20000 in
theorem gX4_inTheWay_X4_common : GoodIn wsX4_inTheWay (va_wsS RX4 169 yX4_common wsX4_common) := goodIn_app (goodIn_of _ (by decide +kernel)) ggX4_inTheWay_X4_common
set_option maxRecDepth 20000 in
theorem ggX4_inTheWay_X4_tallNow : GoodIn wsX4_inTheWay wsX4_tallNow := goodIn_r _ [15, 16, 17, 18, 19, 20, 21, 22, 23, 24, 25, 26, 27, 28, 29, 30, 31, 32, 33, 34, 35, 36, 37, 38, 39, 40, 41, 42, 43, 44, 45, 46, 47, 48, 49, 50] (by decide +kernel) (by decide +kernel)
set_option maxRecDepth 20000 in
theorem gX4_inTheWay_X4_tallNow : GoodIn wsX4_inTheWay (wsV RX4 153 RX4 yX4_tallNow wsX4_tallNow) := goodIn_app (goodIn_of _ (by decide +kernel)) ggX4_inTheWay_X4_tallNow
set_option maxHeartbeats 4000000 in
set_option maxRecDepth 100000 in
theorem kX4_inTheWay (l : Launch) (dC : Nat → ClassId) (dI : Nat → Nat → Nat) (cI cZ : ClassId) (q n : Nat → Nat) (mb : Int32) (f : Nat → Int32) (A : Nat → Nat → Nat) (Y : Nat → Nat → Int32) (hW : WF n A) (hR : RM n A Y) (hmb : 0 < n 6 → mb = nI (n 7)) (b : Nat) (c : Nat) (bl : Nat) (p : Nat) (sz : Nat) (hb0 : b < n 2) (hc : c < n 0 * n 1) (hbl : bl ≤ 9) (hp : p < 4) : Met l yX4_inTheWay wsX4_inTheWay ({ frames := 1, cells := 0, slots := 0, locals := 24 }) (roP [.ref (q 0), .int (nI b), .int (nI c), .int (nI bl), .int (nI p)] sz (dC, dI) [(cI, .int), (cZ, .boolean)] (wM cI cZ q n mb f Y)) (roQi (nI (sWay n A b c (bl + 1 + 2 * p) (n 4))) sz) 0 0 (va_A [] sz) := by
  refine ro_met_i (by decide) rfl (Nat.le_of_ble_eq_true rfl) ?_
  intro pp ee ss mm aa bb me cd RR QQ Z hx hb hml hown hts hRf hRl hP hK hA hS hend ls hl
  have hown : ss.vm.findClass RX4 = some mm.cls := hown
  have hRf : 1 ≤ RR.frames := hRf
  have hRl : 24 ≤ RR.locals := hRl
  have hl : lv_has ls 14 [(0, .ref (q 0)), (1, .int (nI b)), (2, .int (nI c)), (3, .int (nI bl)), (4, .int (nI p))] := hl
  obtain ⟨w0, w1, w2, w3, w4, w5, w6, w7, w8, wA0, wA1, wA2⟩ := id hW
  have wC : n 0 * n 1 ≤ 42 := Nat.mul_le_mul w0 w1
  have hf := wA1 b hb0
  have hw0 : 0 < n 1 := Nat.pos_of_ne_zero fun h => by rw [h] at hc; omega
  have hg0 : 0 < sSt n (A 1 b) c := sSt_pos _ _ _
  have hg6 : sSt n (A 1 b) c ≤ 6 := sSt_le w0 w1 hf hc
  have hss : sSt n (A 1 b) c = max 1 (sG n (A 1 b) c) := rfl
  have b1 : c / n 1 ≤ 42 := Nat.le_trans (Nat.div_le_self _ _) (by omega)
  have b2 : A 1 b / n 1 ≤ 42 := Nat.le_trans (Nat.div_le_self _ _) (by omega)
  have b3 : c % n 1 ≤ 42 := Nat.le_trans (Nat.mod_le _ _) (by omega)
  have b4 : A 1 b % n 1 ≤ 42 := Nat.le_trans (Nat.mod_le _ _) (by omega)
  have b5 := dd_le b1 b2
  have b6 := dd_le b3 b4
  have hf75 := hts (.fieldLink RX4 75 "StatueSquareModel" "wide" "I") (List.mem_of_getElem? (i := 1) rfl)
  have hinX4 : ∀ w ∈ u_ws RX4 TX4 31, w ∈ wsX4_inTheWay := fun _ h => List.mem_cons_of_mem _ (List.mem_append_right _ h)
  have hf13 := hts (.fieldLink RX4 13 "StatueSquareModel" "benchAt" "[I") (List.mem_of_getElem? (i := 2) rfl)
  have hf7 := hts (.fieldLink RX4 7 "StatueSquareModel" "has" "[I") (List.mem_of_getElem? (i := 3) rfl)
  have hf25 := hts (.fieldLink RX4 25 "StatueSquareModel" "isCut" "[Z") (List.mem_of_getElem? (i := 4) rfl)
  refine lv_iload_n hx hb dX4_inTheWay_0 rfl (lv_at hl 2 rfl) ?_
  refine lv_aload_n hx hb dX4_inTheWay_1 rfl (lv_at hl 0 rfl) ?_
  refine x_get (D := (dC, dI)) (ci := 4) (v := .int (nI (n 1))) (C := RX4) (T := TX4) (N := 31) hx hb hts hinX4 hown hK hP 0 rfl rfl 2 (Nat.le_of_ble_eq_true rfl) hf75 rfl rfl dX4_inTheWay_2 ?_
  refine x_idiv hx hb (by omega) hw0 (by omega) dX4_inTheWay_5 ?_
  refine lv_aload_n hx hb dX4_inTheWay_6 rfl (lv_at hl 0 rfl) ?_
  refine x_get (D := (dC, dI)) (ci := 4) (v := .ref (q 2)) (C := RX4) (T := TX4) (N := 31) hx hb hts hinX4 hown hK hP 0 rfl rfl 5 (Nat.le_of_ble_eq_true rfl) hf13 rfl rfl dX4_inTheWay_7 ?_
  refine lv_iload_n hx hb dX4_inTheWay_10 rfl (lv_at hl 1 rfl) ?_
  refine x_iald (v := (nI (A 1 b))) hx hb hK hP 2 0 rfl rfl (by omega) (by decide) (hR.2.1 _ (by omega)) dX4_inTheWay_11 ?_
  refine lv_aload_n hx hb dX4_inTheWay_12 rfl (lv_at hl 0 rfl) ?_
  refine x_get (D := (dC, dI)) (ci := 4) (v := .int (nI (n 1))) (C := RX4) (T := TX4) (N := 31) hx hb hts hinX4 hown hK hP 0 rfl rfl 2 (Nat.le_of_ble_eq_true rfl) hf75 rfl rfl dX4_inTheWay_13 ?_
  refine x_idiv hx hb (by omega) hw0 (by omega) dX4_inTheWay_16 ?_
  refine lv_isub hx hb dX4_inTheWay_17 ?_
  refine lv_istore (lv' := [(5, .int ((nI (c / (n 1))) - (nI ((A 1 b) / (n 1))))), (0, .ref (q 0)), (1, .int (nI b)), (2, .int (nI c)), (3, .int (nI bl)), (4, .int (nI p))]) hx hb dX4_inTheWay_18 hl (by decide) rfl (fun ls hl => ?_)
  refine lv_iload_n hx hb dX4_inTheWay_20 rfl (lv_at hl 3 rfl) ?_
  refine lv_aload_n hx hb dX4_inTheWay_21 rfl (lv_at hl 1 rfl) ?_
  refine x_get (D := (dC, dI)) (ci := 4) (v := .int (nI (n 1))) (C := RX4) (T := TX4) (N := 31) hx hb hts hinX4 hown hK hP 0 rfl rfl 2 (Nat.le_of_ble_eq_true rfl) hf75 rfl rfl dX4_inTheWay_22 ?_
  refine x_irem hx hb (by omega) hw0 (by omega) dX4_inTheWay_25 ?_
  refine lv_aload_n hx hb dX4_inTheWay_26 rfl (lv_at hl 1 rfl) ?_
  refine x_get (D := (dC, dI)) (ci := 4) (v := .ref (q 2)) (C := RX4) (T := TX4) (N := 31) hx hb hts hinX4 hown hK hP 0 rfl rfl 5 (Nat.le_of_ble_eq_true rfl) hf13 rfl rfl dX4_inTheWay_27 ?_
  refine lv_iload_n hx hb dX4_inTheWay_30 rfl (lv_at hl 2 rfl) ?_
  refine x_iald (v := (nI (A 1 b))) hx hb hK hP 2 0 rfl rfl (by omega) (by decide) (hR.2.1 _ (by omega)) dX4_inTheWay_31 ?_
  refine lv_aload_n hx hb dX4_inTheWay_32 rfl (lv_at hl 1 rfl) ?_
  refine x_get (D := (dC, dI)) (ci := 4) (v := .int (nI (n 1))) (C := RX4) (T := TX4) (N := 31) hx hb hts hinX4 hown hK hP 0 rfl rfl 2 (Nat.le_of_ble_eq_true rfl) hf75 rfl rfl dX4_inTheWay_33 ?_
  refine x_irem hx hb (by omega) hw0 (by omega) dX4_inTheWay_36 ?_
  refine lv_isub hx hb dX4_inTheWay_37 ?_
  refine lv_istore (lv' := [(6, .int ((nI (c % (n 1))) - (nI ((A 1 b) % (n 1))))), (5, .int ((nI (c / (n 1))) - (nI ((A 1 b) / (n 1))))), (0, .ref (q 0)), (1, .int (nI b)), (2, .int (nI c)), (3, .int (nI bl)), (4, .int (nI p))]) hx hb dX4_inTheWay_38 hl (by decide) rfl (fun ls hl => ?_)
  refine lv_iload hx hb dX4_inTheWay_40 (lv_at hl 1 rfl) ?_
  refine lv_iconst (v := nI 0) hx hb dX4_inTheWay_42 rfl ?_
  refine roS_i (As := [.int ((nI (c / (n 1))) - (nI ((A 1 b) / (n 1)))), .int (nI 0)]) (rest := []) ⟨hx, hb, hml, hown, hts⟩ (kX4_far l dC dI ((nI (c / (n 1))) - (nI ((A 1 b) / (n 1)))) (nI 0) _ ) (va_cwS 2 hts gX4_inTheWay_X4_far rfl rfl rfl hdX4_far ⟨Nat.le_trans (Nat.le_of_ble_eq_true rfl) hRf, Nat.le_trans (Nat.le_of_ble_eq_true rfl) hRl⟩) (hK.sub [] rfl) (hP.sub [] rfl) rfl hl.1 rfl (Nat.le_of_ble_eq_true rfl) dX4_inTheWay_43 ⟨Nat.zero_le _, Nat.zero_le _⟩ hP hS hA (fun H locs hP hS => ?_)
  refine x_top (y := (nI (dd (c / n 1) (A 1 b / n 1)))) (farI_s0 (by omega) (by omega)) ?_
  refine lv_iload hx hb dX4_inTheWay_46 (lv_at hl 0 rfl) ?_
  refine lv_iconst (v := nI 0) hx hb dX4_inTheWay_48 rfl ?_
  refine roS_i (As := [.int ((nI (c % (n 1))) - (nI ((A 1 b) % (n 1)))), .int (nI 0)]) (rest := [.int (nI (dd (c / n 1) (A 1 b / n 1)))]) ⟨hx, hb, hml, hown, hts⟩ (kX4_far l dC dI ((nI (c % (n 1))) - (nI ((A 1 b) % (n 1)))) (nI 0) _ ) (va_cwS 2 hts gX4_inTheWay_X4_far rfl rfl rfl hdX4_far ⟨Nat.le_trans (Nat.le_of_ble_eq_true rfl) hRf, Nat.le_trans (Nat.le_of_ble_eq_true rfl) hRl⟩) (hK.sub [] rfl) (hP.sub [] rfl) rfl hl.1 rfl (Nat.le_of_ble_eq_true rfl) dX4_inTheWay_49 ⟨Nat.zero_le _, Nat.zero_le _⟩ hP hS hA (fun H locs hP hS => ?_)
  refine x_top (y := (nI (dd (c % n 1) (A 1 b % n 1)))) (farI_s0 (by omega) (by omega)) ?_
  refine roS_i (As := [.int (nI (dd (c / n 1) (A 1 b / n 1))), .int (nI (dd (c % n 1) (A 1 b % n 1)))]) (rest := []) ⟨hx, hb, hml, hown, hts⟩ (kX4_common l dC dI (dd (c / n 1) (A 1 b / n 1)) (dd (c % n 1) (A 1 b % n 1)) _ (by omega) (by omega)) (va_cwS 2 hts gX4_inTheWay_X4_common rfl rfl rfl hdX4_common ⟨Nat.le_trans (Nat.le_of_ble_eq_true rfl) hRf, Nat.le_trans (Nat.le_of_ble_eq_true rfl) hRl⟩) (hK.sub [] rfl) (hP.sub [] rfl) rfl hl.1 rfl (Nat.le_of_ble_eq_true rfl) dX4_inTheWay_52 ⟨Nat.zero_le _, Nat.zero_le _⟩ hP hS hA (fun H locs hP hS => ?_)
  refine x_top (y := (nI (sG n (A 1 b) c))) (congrArg nI (by unfold sG; rw [dd_comm (c / n 1), dd_comm (c % n 1)])) ?_
  refine lv_istore (lv' := [(7, .int (nI (sG n (A 1 b) c))), (6, .int ((nI (c % (n 1))) - (nI ((A 1 b) % (n 1))))), (5, .int ((nI (c / (n 1))) - (nI ((A 1 b) / (n 1))))), (0, .ref (q 0)), (1, .int (nI b)), (2, .int (nI c)), (3, .int (nI bl)), (4, .int (nI p))]) hx hb dX4_inTheWay_55 hl (by decide) rfl (fun ls hl => ?_)
  refine lv_iload_n hx hb dX4_inTheWay_57 rfl (lv_at hl 6 rfl) ?_
  refine lv_iconst (v := nI 1) hx hb dX4_inTheWay_58 rfl ?_
  refine x_iadd hx hb dX4_inTheWay_59 ?_
  refine lv_iconst (v := nI 2) hx hb dX4_inTheWay_60 rfl ?_
  refine lv_iload hx hb dX4_inTheWay_61 (lv_at hl 7 rfl) ?_
  refine x_imul hx hb dX4_inTheWay_63 ?_
  refine x_iadd hx hb dX4_inTheWay_64 ?_
  refine lv_istore (lv' := [(8, .int (nI ((bl + 1) + (2 * p)))), (7, .int (nI (sG n (A 1 b) c))), (6, .int ((nI (c % (n 1))) - (nI ((A 1 b) % (n 1))))), (5, .int ((nI (c / (n 1))) - (nI ((A 1 b) / (n 1))))), (0, .ref (q 0)), (1, .int (nI b)), (2, .int (nI c)), (3, .int (nI bl)), (4, .int (nI p))]) hx hb dX4_inTheWay_65 hl (by decide) rfl (fun ls hl => ?_)
  refine lv_iconst (v := nI 0) hx hb dX4_inTheWay_67 rfl ?_
  refine lv_istore (lv' := [(9, .int (nI 0)), (8, .int (nI ((bl + 1) + (2 * p)))), (7, .int (nI (sG n (A 1 b) c))), (6, .int ((nI (c % (n 1))) - (nI ((A 1 b) % (n 1))))), (5, .int ((nI (c / (n 1))) - (nI ((A 1 b) / (n 1))))), (0, .ref (q 0)), (1, .int (nI b)), (2, .int (nI c)), (3, .int (nI bl)), (4, .int (nI p))]) hx hb dX4_inTheWay_68 hl (by decide) rfl (fun ls hl => ?_)
  refine lv_iconst (v := nI 1) hx hb dX4_inTheWay_70 rfl ?_
  refine lv_istore (lv' := [(10, .int (nI 1)), (9, .int (nI 0)), (8, .int (nI ((bl + 1) + (2 * p)))), (7, .int (nI (sG n (A 1 b) c))), (6, .int ((nI (c % (n 1))) - (nI ((A 1 b) % (n 1))))), (5, .int ((nI (c / (n 1))) - (nI ((A 1 b) / (n 1))))), (0, .ref (q 0)), (1, .int (nI b)), (2, .int (nI c)), (3, .int (nI bl)), (4, .int (nI p))]) hx hb dX4_inTheWay_71 hl (by decide) rfl (fun ls hl => ?_)
  have L73 : ∀ (fuel : Nat) (k : Nat) (hk : k + 1 ≤ sSt n (A 1 b) c) (hfu : sSt n (A 1 b) c - k < fuel) (H : Heap) (locs : List Loc), va_P (dC, dI) vwCl (wM cI cZ q n mb f Y) H → va_S Z ss.heap H locs → ∀ (ls : Array Slot), lv_has ls 14 [(0, .ref (q 0)), (1, .int (nI b)), (2, .int (nI c)), (5, .int (nI (c / n 1) - nI (A 1 b / n 1))), (6, .int (nI (c % n 1) - nI (A 1 b % n 1))), (7, .int (nI (sG n (A 1 b) c))), (8, .int (nI (bl + 1 + 2 * p))), (9, .int (nI (orM (fun i => sBit n A (A 1 b) c (sSt n (A 1 b) c) (bl + 1 + 2 * p) (n 4) (i + 1)) k))), (10, .int (nI (k + 1)))] → W pp l ee RR ss mm aa bb me cd H locs 0 0 QQ (F0 mm 73 ls []) := by
    intro fuel
    induction fuel with
    | zero => intro k hk hfu; exact absurd hfu (Nat.not_lt_zero _)
    | succ fuel ih =>
      intro k hk hfu H locs hP hS ls hl
      refine lv_iload hx hb dX4_inTheWay_73 (lv_at hl 8 rfl) ?_
      refine lv_iload hx hb dX4_inTheWay_75 (lv_at hl 5 rfl) ?_
      refine x_icmp_ge (tgt := 193) hx hb (by omega) (by omega) dX4_inTheWay_77 (by decide) (fun c77 => ?_) (fun c77 => ?_)
      · skip
        refine lv_iload hx hb dX4_inTheWay_193 (lv_at hl 7 rfl) ?_
        exact hend _ _ _ _ _ (congrArg nI (show orM (fun i => sBit n A (A 1 b) c (sSt n (A 1 b) c) (bl + 1 + 2 * p) (n 4) (i + 1)) k = orM (fun i => sBit n A (A 1 b) c (sSt n (A 1 b) c) (bl + 1 + 2 * p) (n 4) (i + 1)) (sSt n (A 1 b) c - 1) from by congr 1; omega)) hS dX4_inTheWay_195
      · skip
        have hgs : sSt n (A 1 b) c = sG n (A 1 b) c := by omega
        have hat : sAt (A 1 b) c (sSt n (A 1 b) c) (k + 1) < n 0 * n 1 := sAt_lt hW hb0 hc (by omega)
        have ha := wA0 _ hat
        refine lv_aload_n hx hb dX4_inTheWay_80 rfl (lv_at hl 0 rfl) ?_
        refine x_get (D := (dC, dI)) (ci := 4) (v := .ref (q 2)) (C := RX4) (T := TX4) (N := 31) hx hb hts hinX4 hown hK hP 0 rfl rfl 5 (Nat.le_of_ble_eq_true rfl) hf13 rfl rfl dX4_inTheWay_81 ?_
        refine lv_iload_n hx hb dX4_inTheWay_84 rfl (lv_at hl 1 rfl) ?_
        refine x_iald (v := (nI (A 1 b))) hx hb hK hP 2 0 rfl rfl (by omega) (by decide) (hR.2.1 _ (by omega)) dX4_inTheWay_85 ?_
        refine lv_iload hx hb dX4_inTheWay_86 (lv_at hl 3 rfl) ?_
        refine lv_iload hx hb dX4_inTheWay_88 (lv_at hl 5 rfl) ?_
        refine lv_idiv hx hb dX4_inTheWay_90 (nI_ne0 (by omega) (by omega)) ?_
        refine lv_iload hx hb dX4_inTheWay_91 (lv_at hl 8 rfl) ?_
        refine lv_imul hx hb dX4_inTheWay_93 ?_
        refine lv_aload_n hx hb dX4_inTheWay_94 rfl (lv_at hl 0 rfl) ?_
        refine x_get (D := (dC, dI)) (ci := 4) (v := .int (nI (n 1))) (C := RX4) (T := TX4) (N := 31) hx hb hts hinX4 hown hK hP 0 rfl rfl 2 (Nat.le_of_ble_eq_true rfl) hf75 rfl rfl dX4_inTheWay_95 ?_
        refine lv_imul hx hb dX4_inTheWay_98 ?_
        refine lv_iadd hx hb dX4_inTheWay_99 ?_
        refine lv_iload hx hb dX4_inTheWay_100 (lv_at hl 4 rfl) ?_
        refine lv_iload hx hb dX4_inTheWay_102 (lv_at hl 5 rfl) ?_
        refine lv_idiv hx hb dX4_inTheWay_104 (nI_ne0 (by omega) (by omega)) ?_
        refine lv_iload hx hb dX4_inTheWay_105 (lv_at hl 8 rfl) ?_
        refine lv_imul hx hb dX4_inTheWay_107 ?_
        refine lv_iadd hx hb dX4_inTheWay_108 ?_
        refine x_top (y := (nI (sAt (A 1 b) c (sSt n (A 1 b) c) (k + 1)))) (by rw [← hgs]; exact at_eqM (by omega) (by omega) (by omega) hg6 w1) ?_
        refine lv_istore (lv' := [(11, .int (nI (sAt (A 1 b) c (sSt n (A 1 b) c) (k + 1)))), (0, .ref (q 0)), (1, .int (nI b)), (2, .int (nI c)), (5, .int (nI (c / n 1) - nI (A 1 b / n 1))), (6, .int (nI (c % n 1) - nI (A 1 b % n 1))), (7, .int (nI (sG n (A 1 b) c))), (8, .int (nI (bl + 1 + 2 * p))), (9, .int (nI (orM (fun i => sBit n A (A 1 b) c (sSt n (A 1 b) c) (bl + 1 + 2 * p) (n 4) (i + 1)) k))), (10, .int (nI (k + 1)))]) hx hb dX4_inTheWay_109 hl (by decide) rfl (fun ls hl => ?_)
        refine lv_aload_n hx hb dX4_inTheWay_111 rfl (lv_at hl 1 rfl) ?_
        refine x_get (D := (dC, dI)) (ci := 4) (v := .ref (q 1)) (C := RX4) (T := TX4) (N := 31) hx hb hts hinX4 hown hK hP 0 rfl rfl 3 (Nat.le_of_ble_eq_true rfl) hf7 rfl rfl dX4_inTheWay_112 ?_
        refine lv_iload hx hb dX4_inTheWay_115 (lv_at hl 0 rfl) ?_
        refine x_iald (v := (nI (A 0 (sAt (A 1 b) c (sSt n (A 1 b) c) (k + 1))))) hx hb hK hP 1 0 rfl rfl (by omega) (by decide) (hR.1 _ hat) dX4_inTheWay_117 ?_
        refine lv_bipush (v := nI 10) hx hb dX4_inTheWay_118 rfl ?_
        refine lv_isub hx hb dX4_inTheWay_120 ?_
        rcases Nat.lt_or_ge (A 0 (sAt (A 1 b) c (sSt n (A 1 b) c) (k + 1))) 10 with hlt | hge
        · skip
          have hz : sBit n A (A 1 b) c (sSt n (A 1 b) c) (bl + 1 + 2 * p) (n 4) (k + 1) = 0 := if_neg (fun q => by omega)
          refine lv_istore (lv' := [(12, .int ((nI (A 0 (sAt (A 1 b) c (sSt n (A 1 b) c) (k + 1)))) - (nI 10))), (11, .int (nI (sAt (A 1 b) c (sSt n (A 1 b) c) (k + 1)))), (0, .ref (q 0)), (1, .int (nI b)), (2, .int (nI c)), (5, .int (nI (c / n 1) - nI (A 1 b / n 1))), (6, .int (nI (c % n 1) - nI (A 1 b % n 1))), (7, .int (nI (sG n (A 1 b) c))), (8, .int (nI (bl + 1 + 2 * p))), (9, .int (nI (orM (fun i => sBit n A (A 1 b) c (sSt n (A 1 b) c) (bl + 1 + 2 * p) (n 4) (i + 1)) k))), (10, .int (nI (k + 1)))]) hx hb dX4_inTheWay_121 hl (by decide) rfl (fun ls hl => ?_)
          refine lv_iload hx hb dX4_inTheWay_123 (lv_at hl 0 rfl) ?_
          refine lv_if_lt (tgt := 142) hx hb dX4_inTheWay_125 (by decide) (fun c125 => ?_) (fun c125 => ?_)
          · skip
            refine lv_iconst (v := nI 0) hx hb dX4_inTheWay_142 rfl ?_
            refine x_top (y := bI false) rfl ?_
            refine lv_istore (lv' := [(13, .int (bI false)), (12, .int ((nI (A 0 (sAt (A 1 b) c (sSt n (A 1 b) c) (k + 1)))) - (nI 10))), (11, .int (nI (sAt (A 1 b) c (sSt n (A 1 b) c) (k + 1)))), (0, .ref (q 0)), (1, .int (nI b)), (2, .int (nI c)), (5, .int (nI (c / n 1) - nI (A 1 b / n 1))), (6, .int (nI (c % n 1) - nI (A 1 b % n 1))), (7, .int (nI (sG n (A 1 b) c))), (8, .int (nI (bl + 1 + 2 * p))), (9, .int (nI (orM (fun i => sBit n A (A 1 b) c (sSt n (A 1 b) c) (bl + 1 + 2 * p) (n 4) (i + 1)) k))), (10, .int (nI (k + 1)))]) hx hb dX4_inTheWay_143 hl (by decide) rfl (fun ls hl => ?_)
            refine lv_iload hx hb dX4_inTheWay_145 (lv_at hl 10 rfl) ?_
            refine lv_iload hx hb dX4_inTheWay_147 (lv_at hl 0 rfl) ?_
            refine x_ifb_eq (tgt := 183) hx hb dX4_inTheWay_149 (by decide) (fun c149 => ?_) (fun c149 => absurd c149 (by decide))
            refine lv_iconst (v := nI 0) hx hb dX4_inTheWay_183 rfl ?_
            refine x_ior hx hb dX4_inTheWay_184 ?_
            refine lv_istore (lv' := [(9, .int (nI ((orM (fun i => sBit n A (A 1 b) c (sSt n (A 1 b) c) (bl + 1 + 2 * p) (n 4) (i + 1)) k) ||| 0))), (13, .int (bI false)), (12, .int ((nI (A 0 (sAt (A 1 b) c (sSt n (A 1 b) c) (k + 1)))) - (nI 10))), (11, .int (nI (sAt (A 1 b) c (sSt n (A 1 b) c) (k + 1)))), (0, .ref (q 0)), (1, .int (nI b)), (2, .int (nI c)), (5, .int (nI (c / n 1) - nI (A 1 b / n 1))), (6, .int (nI (c % n 1) - nI (A 1 b % n 1))), (7, .int (nI (sG n (A 1 b) c))), (8, .int (nI (bl + 1 + 2 * p))), (10, .int (nI (k + 1)))]) hx hb dX4_inTheWay_185 hl (by decide) rfl (fun ls hl => ?_)
            refine lv_iinc (v := (nI (k + 1 + 1))) (lv' := [(10, .int (nI (k + 1 + 1))), (9, .int (nI ((orM (fun i => sBit n A (A 1 b) c (sSt n (A 1 b) c) (bl + 1 + 2 * p) (n 4) (i + 1)) k) ||| 0))), (13, .int (bI false)), (12, .int ((nI (A 0 (sAt (A 1 b) c (sSt n (A 1 b) c) (k + 1)))) - (nI 10))), (11, .int (nI (sAt (A 1 b) c (sSt n (A 1 b) c) (k + 1)))), (0, .ref (q 0)), (1, .int (nI b)), (2, .int (nI c)), (5, .int (nI (c / n 1) - nI (A 1 b / n 1))), (6, .int (nI (c % n 1) - nI (A 1 b % n 1))), (7, .int (nI (sG n (A 1 b) c))), (8, .int (nI (bl + 1 + 2 * p)))]) hx hb dX4_inTheWay_187 hl (k := 11) rfl (nI_add _ _) (by decide) rfl (fun ls hl => ?_)
            refine lv_goto (tgt := 73) hx hb dX4_inTheWay_190 (by decide) ?_
            exact ih (k + 1) (by omega) (by omega) _ _ hP hS _ (by rw [show orM (fun i => sBit n A (A 1 b) c (sSt n (A 1 b) c) (bl + 1 + 2 * p) (n 4) (i + 1)) (k + 1) = ((orM (fun i => sBit n A (A 1 b) c (sSt n (A 1 b) c) (bl + 1 + 2 * p) (n 4) (i + 1)) k) ||| 0) from by rw [orM, hz]; try rfl]; exact lv_sub hl [5, 6, 7, 8, 9, 10, 11, 1, 0] rfl)
          · skip
            exact absurd (pk_sneg (by decide) hlt) c125
        · skip
          refine x_top (y := nI (A 0 (sAt (A 1 b) c (sSt n (A 1 b) c) (k + 1)) - 10)) (pk_sub hge) ?_
          have htn : A 0 (sAt (A 1 b) c (sSt n (A 1 b) c) (k + 1)) - 10 < n 3 := by omega
          refine lv_istore (lv' := [(12, .int (nI (A 0 (sAt (A 1 b) c (sSt n (A 1 b) c) (k + 1)) - 10))), (11, .int (nI (sAt (A 1 b) c (sSt n (A 1 b) c) (k + 1)))), (0, .ref (q 0)), (1, .int (nI b)), (2, .int (nI c)), (5, .int (nI (c / n 1) - nI (A 1 b / n 1))), (6, .int (nI (c % n 1) - nI (A 1 b % n 1))), (7, .int (nI (sG n (A 1 b) c))), (8, .int (nI (bl + 1 + 2 * p))), (9, .int (nI (orM (fun i => sBit n A (A 1 b) c (sSt n (A 1 b) c) (bl + 1 + 2 * p) (n 4) (i + 1)) k))), (10, .int (nI (k + 1)))]) hx hb dX4_inTheWay_121 hl (by decide) rfl (fun ls hl => ?_)
          refine lv_iload hx hb dX4_inTheWay_123 (lv_at hl 0 rfl) ?_
          refine x_if_lt (tgt := 142) hx hb (by omega) dX4_inTheWay_125 (by decide) ?_
          refine lv_aload_n hx hb dX4_inTheWay_128 rfl (lv_at hl 2 rfl) ?_
          refine x_get (D := (dC, dI)) (ci := 4) (v := .ref (q 6)) (C := RX4) (T := TX4) (N := 31) hx hb hts hinX4 hown hK hP 0 rfl rfl 10 (Nat.le_of_ble_eq_true rfl) hf25 rfl rfl dX4_inTheWay_129 ?_
          refine lv_iload hx hb dX4_inTheWay_132 (lv_at hl 0 rfl) ?_
          refine x_zald (v := (bI ((n 8).testBit (A 0 (sAt (A 1 b) c (sSt n (A 1 b) c) (k + 1)) - 10)))) hx hb hK hP 6 1 rfl rfl (by omega) (by decide) (hR.2.2 _ (by omega)).2.2.2.1 dX4_inTheWay_134 ?_
          refine x_ifb_ne (tgt := 142) hx hb dX4_inTheWay_135 (by decide) (fun c135 => ?_) (fun c135 => ?_)
          · skip
            have hz : sBit n A (A 1 b) c (sSt n (A 1 b) c) (bl + 1 + 2 * p) (n 4) (k + 1) = 0 := if_neg (fun q => by have := q.2.1; rw [sThere, c135] at this; exact absurd this (by decide))
            refine lv_iconst (v := nI 0) hx hb dX4_inTheWay_142 rfl ?_
            refine x_top (y := bI false) rfl ?_
            refine lv_istore (lv' := [(13, .int (bI false)), (12, .int (nI (A 0 (sAt (A 1 b) c (sSt n (A 1 b) c) (k + 1)) - 10))), (11, .int (nI (sAt (A 1 b) c (sSt n (A 1 b) c) (k + 1)))), (0, .ref (q 0)), (1, .int (nI b)), (2, .int (nI c)), (5, .int (nI (c / n 1) - nI (A 1 b / n 1))), (6, .int (nI (c % n 1) - nI (A 1 b % n 1))), (7, .int (nI (sG n (A 1 b) c))), (8, .int (nI (bl + 1 + 2 * p))), (9, .int (nI (orM (fun i => sBit n A (A 1 b) c (sSt n (A 1 b) c) (bl + 1 + 2 * p) (n 4) (i + 1)) k))), (10, .int (nI (k + 1)))]) hx hb dX4_inTheWay_143 hl (by decide) rfl (fun ls hl => ?_)
            refine lv_iload hx hb dX4_inTheWay_145 (lv_at hl 10 rfl) ?_
            refine lv_iload hx hb dX4_inTheWay_147 (lv_at hl 0 rfl) ?_
            refine x_ifb_eq (tgt := 183) hx hb dX4_inTheWay_149 (by decide) (fun c149 => ?_) (fun c149 => absurd c149 (by decide))
            refine lv_iconst (v := nI 0) hx hb dX4_inTheWay_183 rfl ?_
            refine x_ior hx hb dX4_inTheWay_184 ?_
            refine lv_istore (lv' := [(9, .int (nI ((orM (fun i => sBit n A (A 1 b) c (sSt n (A 1 b) c) (bl + 1 + 2 * p) (n 4) (i + 1)) k) ||| 0))), (13, .int (bI false)), (12, .int (nI (A 0 (sAt (A 1 b) c (sSt n (A 1 b) c) (k + 1)) - 10))), (11, .int (nI (sAt (A 1 b) c (sSt n (A 1 b) c) (k + 1)))), (0, .ref (q 0)), (1, .int (nI b)), (2, .int (nI c)), (5, .int (nI (c / n 1) - nI (A 1 b / n 1))), (6, .int (nI (c % n 1) - nI (A 1 b % n 1))), (7, .int (nI (sG n (A 1 b) c))), (8, .int (nI (bl + 1 + 2 * p))), (10, .int (nI (k + 1)))]) hx hb dX4_inTheWay_185 hl (by decide) rfl (fun ls hl => ?_)
            refine lv_iinc (v := (nI (k + 1 + 1))) (lv' := [(10, .int (nI (k + 1 + 1))), (9, .int (nI ((orM (fun i => sBit n A (A 1 b) c (sSt n (A 1 b) c) (bl + 1 + 2 * p) (n 4) (i + 1)) k) ||| 0))), (13, .int (bI false)), (12, .int (nI (A 0 (sAt (A 1 b) c (sSt n (A 1 b) c) (k + 1)) - 10))), (11, .int (nI (sAt (A 1 b) c (sSt n (A 1 b) c) (k + 1)))), (0, .ref (q 0)), (1, .int (nI b)), (2, .int (nI c)), (5, .int (nI (c / n 1) - nI (A 1 b / n 1))), (6, .int (nI (c % n 1) - nI (A 1 b % n 1))), (7, .int (nI (sG n (A 1 b) c))), (8, .int (nI (bl + 1 + 2 * p)))]) hx hb dX4_inTheWay_187 hl (k := 11) rfl (nI_add _ _) (by decide) rfl (fun ls hl => ?_)
            refine lv_goto (tgt := 73) hx hb dX4_inTheWay_190 (by decide) ?_
            exact ih (k + 1) (by omega) (by omega) _ _ hP hS _ (by rw [show orM (fun i => sBit n A (A 1 b) c (sSt n (A 1 b) c) (bl + 1 + 2 * p) (n 4) (i + 1)) (k + 1) = ((orM (fun i => sBit n A (A 1 b) c (sSt n (A 1 b) c) (bl + 1 + 2 * p) (n 4) (i + 1)) k) ||| 0) from by rw [orM, hz]; try rfl]; exact lv_sub hl [5, 6, 7, 8, 9, 10, 11, 1, 0] rfl)
          · skip
            refine lv_iconst (v := nI 1) hx hb dX4_inTheWay_138 rfl ?_
            refine lv_goto (tgt := 143) hx hb dX4_inTheWay_139 (by decide) ?_
            refine x_top (y := bI true) rfl ?_
            refine lv_istore (lv' := [(13, .int (bI true)), (12, .int (nI (A 0 (sAt (A 1 b) c (sSt n (A 1 b) c) (k + 1)) - 10))), (11, .int (nI (sAt (A 1 b) c (sSt n (A 1 b) c) (k + 1)))), (0, .ref (q 0)), (1, .int (nI b)), (2, .int (nI c)), (5, .int (nI (c / n 1) - nI (A 1 b / n 1))), (6, .int (nI (c % n 1) - nI (A 1 b % n 1))), (7, .int (nI (sG n (A 1 b) c))), (8, .int (nI (bl + 1 + 2 * p))), (9, .int (nI (orM (fun i => sBit n A (A 1 b) c (sSt n (A 1 b) c) (bl + 1 + 2 * p) (n 4) (i + 1)) k))), (10, .int (nI (k + 1)))]) hx hb dX4_inTheWay_143 hl (by decide) rfl (fun ls hl => ?_)
            refine lv_iload hx hb dX4_inTheWay_145 (lv_at hl 10 rfl) ?_
            refine lv_iload hx hb dX4_inTheWay_147 (lv_at hl 0 rfl) ?_
            refine x_ifb_eq (tgt := 183) hx hb dX4_inTheWay_149 (by decide) (fun c149 => absurd c149 (by decide)) (fun c149 => ?_)
            refine lv_aload_n hx hb dX4_inTheWay_152 rfl (lv_at hl 3 rfl) ?_
            refine lv_iload hx hb dX4_inTheWay_153 (lv_at hl 1 rfl) ?_
            refine roV_i (As := [.int (nI (A 0 (sAt (A 1 b) c (sSt n (A 1 b) c) (k + 1)) - 10))]) (rest := [.int (nI (orM (fun i => sBit n A (A 1 b) c (sSt n (A 1 b) c) (bl + 1 + 2 * p) (n 4) (i + 1)) k))]) ⟨hx, hb, hml, hown, hts⟩ (kX4_tallNow l dC dI cI cZ q n mb f A Y hW hR hmb (A 0 (sAt (A 1 b) c (sSt n (A 1 b) c) (k + 1)) - 10) _ (by omega)) (cwV 1 hts gX4_inTheWay_X4_tallNow rfl rfl rfl hdX4_tallNow ⟨Nat.le_trans (Nat.le_of_ble_eq_true rfl) hRf, Nat.le_trans (Nat.le_of_ble_eq_true rfl) hRl⟩) (va_recv hK hP (ci := 4) (q0 := 0) rfl rfl) hK hP rfl hl.1 rfl (Nat.le_of_ble_eq_true rfl) dX4_inTheWay_155 ⟨Nat.zero_le _, Nat.zero_le _⟩ hP hS hA (fun H locs hP hS => ?_)
            refine lv_iload hx hb dX4_inTheWay_158 (lv_at hl 8 rfl) ?_
            refine x_imul hx hb dX4_inTheWay_160 ?_
            refine lv_iconst (v := nI 2) hx hb dX4_inTheWay_161 rfl ?_
            refine lv_iload hx hb dX4_inTheWay_162 (lv_at hl 8 rfl) ?_
            refine x_imul hx hb dX4_inTheWay_164 ?_
            refine lv_iload hx hb dX4_inTheWay_165 (lv_at hl 11 rfl) ?_
            refine lv_iload hx hb dX4_inTheWay_167 (lv_at hl 9 rfl) ?_
            refine lv_iconst (v := nI 2) hx hb dX4_inTheWay_169 rfl ?_
            refine lv_isub hx hb dX4_inTheWay_170 ?_
            refine lv_imul hx hb dX4_inTheWay_171 ?_
            refine lv_iadd hx hb dX4_inTheWay_172 ?_
            refine lv_icmp_lt (tgt := 183) hx hb dX4_inTheWay_173 (by decide) (fun c173 => ?_) (fun c173 => ?_)
            · skip
              have hlin := (line_lt (sTall_le (wA2 _ htn).2.2.2.1 w4) (by omega) (by omega) (by omega)).mp c173
              have hz : sBit n A (A 1 b) c (sSt n (A 1 b) c) (bl + 1 + 2 * p) (n 4) (k + 1) = 0 := if_neg (fun q => by have := q.2.2; rw [← hgs] at hlin; omega)
              refine lv_iconst (v := nI 0) hx hb dX4_inTheWay_183 rfl ?_
              refine x_ior hx hb dX4_inTheWay_184 ?_
              refine lv_istore (lv' := [(9, .int (nI ((orM (fun i => sBit n A (A 1 b) c (sSt n (A 1 b) c) (bl + 1 + 2 * p) (n 4) (i + 1)) k) ||| 0))), (13, .int (bI true)), (12, .int (nI (A 0 (sAt (A 1 b) c (sSt n (A 1 b) c) (k + 1)) - 10))), (11, .int (nI (sAt (A 1 b) c (sSt n (A 1 b) c) (k + 1)))), (0, .ref (q 0)), (1, .int (nI b)), (2, .int (nI c)), (5, .int (nI (c / n 1) - nI (A 1 b / n 1))), (6, .int (nI (c % n 1) - nI (A 1 b % n 1))), (7, .int (nI (sG n (A 1 b) c))), (8, .int (nI (bl + 1 + 2 * p))), (10, .int (nI (k + 1)))]) hx hb dX4_inTheWay_185 hl (by decide) rfl (fun ls hl => ?_)
              refine lv_iinc (v := (nI (k + 1 + 1))) (lv' := [(10, .int (nI (k + 1 + 1))), (9, .int (nI ((orM (fun i => sBit n A (A 1 b) c (sSt n (A 1 b) c) (bl + 1 + 2 * p) (n 4) (i + 1)) k) ||| 0))), (13, .int (bI true)), (12, .int (nI (A 0 (sAt (A 1 b) c (sSt n (A 1 b) c) (k + 1)) - 10))), (11, .int (nI (sAt (A 1 b) c (sSt n (A 1 b) c) (k + 1)))), (0, .ref (q 0)), (1, .int (nI b)), (2, .int (nI c)), (5, .int (nI (c / n 1) - nI (A 1 b / n 1))), (6, .int (nI (c % n 1) - nI (A 1 b % n 1))), (7, .int (nI (sG n (A 1 b) c))), (8, .int (nI (bl + 1 + 2 * p)))]) hx hb dX4_inTheWay_187 hl (k := 11) rfl (nI_add _ _) (by decide) rfl (fun ls hl => ?_)
              refine lv_goto (tgt := 73) hx hb dX4_inTheWay_190 (by decide) ?_
              exact ih (k + 1) (by omega) (by omega) _ _ hP hS _ (by rw [show orM (fun i => sBit n A (A 1 b) c (sSt n (A 1 b) c) (bl + 1 + 2 * p) (n 4) (i + 1)) (k + 1) = ((orM (fun i => sBit n A (A 1 b) c (sSt n (A 1 b) c) (bl + 1 + 2 * p) (n 4) (i + 1)) k) ||| 0) from by rw [orM, hz]; try rfl]; exact lv_sub hl [5, 6, 7, 8, 9, 10, 11, 1, 0] rfl)
            · skip
              have hlin := mt (line_lt (sTall_le (wA2 _ htn).2.2.2.1 w4) (by omega) (by omega) (by omega)).mpr c173
              have hz : sBit n A (A 1 b) c (sSt n (A 1 b) c) (bl + 1 + 2 * p) (n 4) (k + 1) = 2 ^ (A 0 (sAt (A 1 b) c (sSt n (A 1 b) c) (k + 1)) - 10) := if_pos ⟨hge, by rw [sThere, c135]; rfl, by rw [← hgs] at hlin; omega⟩
              refine lv_iconst (v := nI 1) hx hb dX4_inTheWay_176 rfl ?_
              refine lv_iload hx hb dX4_inTheWay_177 (lv_at hl 1 rfl) ?_
              refine x_shl1 hx hb (by omega) dX4_inTheWay_179 ?_
              refine lv_goto (tgt := 184) hx hb dX4_inTheWay_180 (by decide) ?_
              refine x_ior hx hb dX4_inTheWay_184 ?_
              refine lv_istore (lv' := [(9, .int (nI ((orM (fun i => sBit n A (A 1 b) c (sSt n (A 1 b) c) (bl + 1 + 2 * p) (n 4) (i + 1)) k) ||| (2 ^ (A 0 (sAt (A 1 b) c (sSt n (A 1 b) c) (k + 1)) - 10))))), (13, .int (bI true)), (12, .int (nI (A 0 (sAt (A 1 b) c (sSt n (A 1 b) c) (k + 1)) - 10))), (11, .int (nI (sAt (A 1 b) c (sSt n (A 1 b) c) (k + 1)))), (0, .ref (q 0)), (1, .int (nI b)), (2, .int (nI c)), (5, .int (nI (c / n 1) - nI (A 1 b / n 1))), (6, .int (nI (c % n 1) - nI (A 1 b % n 1))), (7, .int (nI (sG n (A 1 b) c))), (8, .int (nI (bl + 1 + 2 * p))), (10, .int (nI (k + 1)))]) hx hb dX4_inTheWay_185 hl (by decide) rfl (fun ls hl => ?_)
              refine lv_iinc (v := (nI (k + 1 + 1))) (lv' := [(10, .int (nI (k + 1 + 1))), (9, .int (nI ((orM (fun i => sBit n A (A 1 b) c (sSt n (A 1 b) c) (bl + 1 + 2 * p) (n 4) (i + 1)) k) ||| (2 ^ (A 0 (sAt (A 1 b) c (sSt n (A 1 b) c) (k + 1)) - 10))))), (13, .int (bI true)), (12, .int (nI (A 0 (sAt (A 1 b) c (sSt n (A 1 b) c) (k + 1)) - 10))), (11, .int (nI (sAt (A 1 b) c (sSt n (A 1 b) c) (k + 1)))), (0, .ref (q 0)), (1, .int (nI b)), (2, .int (nI c)), (5, .int (nI (c / n 1) - nI (A 1 b / n 1))), (6, .int (nI (c % n 1) - nI (A 1 b % n 1))), (7, .int (nI (sG n (A 1 b) c))), (8, .int (nI (bl + 1 + 2 * p)))]) hx hb dX4_inTheWay_187 hl (k := 11) rfl (nI_add _ _) (by decide) rfl (fun ls hl => ?_)
              refine lv_goto (tgt := 73) hx hb dX4_inTheWay_190 (by decide) ?_
              exact ih (k + 1) (by omega) (by omega) _ _ hP hS _ (by rw [show orM (fun i => sBit n A (A 1 b) c (sSt n (A 1 b) c) (bl + 1 + 2 * p) (n 4) (i + 1)) (k + 1) = ((orM (fun i => sBit n A (A 1 b) c (sSt n (A 1 b) c) (bl + 1 + 2 * p) (n 4) (i + 1)) k) ||| (2 ^ (A 0 (sAt (A 1 b) c (sSt n (A 1 b) c) (k + 1)) - 10))) from by rw [orM, hz]; try rfl]; exact lv_sub hl [5, 6, 7, 8, 9, 10, 11, 1, 0] rfl)
  exact L73 _ 0 (by omega) (Nat.lt_succ_self _) _ _ hP hS _ (lv_sub hl [6, 7, 8, 5, 4, 3, 2, 1, 0] rfl)
