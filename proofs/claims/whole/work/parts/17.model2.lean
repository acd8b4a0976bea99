theorem hdX4_inTheWay : yX4_inTheWay.cls = RX4 ∧ yX4_inTheWay.cls ≠ "java/lang/invoke/MethodHandle" ∧ yX4_inTheWay.cls ≠ "java/lang/invoke/VarHandle" ∧ (parseMethodDescriptor yX4_inTheWay.desc).map (fun d => d.parameters.length) = some 4 := by decide +kernel
set_option maxRecDepth 20000 in
theorem ggX4_seenAt_X4_inTheWay : GoodIn wsX4_seenAt wsX4_inTheWay := goodIn_r _ [5, 6, 7, 8, 9, 10, 11, 4, 12, 13, 14, 15, 16, 17, 18, 19, 20, 21, 22, 23, 24, 25, 26, 27, 28, 29, 30, 31, 32, 33, 34, 35, 36, 37, 38, 39, 40, 41, 42, 43, 44, 45, 46, 47, 48, 49, 50, 51, 52, 53, 54] (by decide +kernel) (by decide +kernel)
set_option maxRecDepth 20000 in
theorem gX4_seenAt_X4_inTheWay : GoodIn wsX4_seenAt (wsV RX4 172 RX4 yX4_inTheWay wsX4_inTheWay) := goodIn_app (goodIn_of _ (by decide +kernel)) ggX4_seenAt_X4_inTheWay
set_option maxHeartbeats 4000000 in
set_option maxRecDepth 100000 in
theorem kX4_seenAt (l : Launch) (dC : Nat → ClassId) (dI : Nat → Nat → Nat) (cI cZ : ClassId) (q n : Nat → Nat) (mb : Int32) (f : Nat → Int32) (A : Nat → Nat → Nat) (Y : Nat → Nat → Int32) (hW : WF n A) (hR : RM n A Y) (hmb : 0 < n 6 → mb = nI (n 7)) (b : Nat) (c : Nat) (bl : Nat) (sz : Nat) (hb0 : b < n 2) (hc : c < n 0 * n 1) (hbl : bl ≤ 9) : Met l yX4_seenAt wsX4_seenAt ({ frames := 2, cells := 0, slots := 0, locals := 57 }) (roP [.ref (q 0), .int (nI b), .int (nI c), .int (nI bl)] sz (dC, dI) [(cI, .int), (cZ, .boolean)] (wM cI cZ q n mb f Y)) (roQi (nI (sSeenB n A b c bl)) sz) 0 0 (va_A [] sz) := by
  refine ro_met_i (by decide) rfl (Nat.le_of_ble_eq_true rfl) ?_
  intro pp ee ss mm aa bb me cd RR QQ Z hx hb hml hown hts hRf hRl hP hK hA hS hend ls hl
  have hown : ss.vm.findClass RX4 = some mm.cls := hown
  have hRf : 2 ≤ RR.frames := hRf
  have hRl : 57 ≤ RR.locals := hRl
  have hl : lv_has ls 6 [(0, .ref (q 0)), (1, .int (nI b)), (2, .int (nI c)), (3, .int (nI bl))] := hl
  obtain ⟨w0, w1, w2, w3, w4, w5, w6, w7, w8, wA0, wA1, wA2⟩ := id hW
  have wC : n 0 * n 1 ≤ 42 := Nat.mul_le_mul w0 w1
  refine lv_iconst (v := nI 0) hx hb dX4_seenAt_0 rfl ?_
  refine lv_istore (lv' := [(4, .int (nI 0)), (0, .ref (q 0)), (1, .int (nI b)), (2, .int (nI c)), (3, .int (nI bl))]) hx hb dX4_seenAt_1 hl (by decide) rfl (fun ls hl => ?_)
  refine lv_iconst (v := nI 0) hx hb dX4_seenAt_3 rfl ?_
  refine lv_istore (lv' := [(5, .int (nI 0)), (4, .int (nI 0)), (0, .ref (q 0)), (1, .int (nI b)), (2, .int (nI c)), (3, .int (nI bl))]) hx hb dX4_seenAt_4 hl (by decide) rfl (fun ls hl => ?_)
  have L6 : ∀ (fuel : Nat) (k : Nat) (hk : k ≤ 4) (hfu : 4 - k < fuel) (H : Heap) (locs : List Loc), va_P (dC, dI) vwCl (wM cI cZ q n mb f Y) H → va_S Z ss.heap H locs → ∀ (ls : Array Slot), lv_has ls 6 [(0, .ref (q 0)), (1, .int (nI b)), (2, .int (nI c)), (3, .int (nI bl)), (4, .int (nI (orB (fun p => decide (sWay n A b c (bl + 1 + 2 * p) (n 4) = 0)) k))), (5, .int (nI k))] → W pp l ee RR ss mm aa bb me cd H locs 0 0 QQ (F0 mm 6 ls []) := by
    intro fuel
    induction fuel with
    | zero => intro k hk hfu; exact absurd hfu (Nat.not_lt_zero _)
    | succ fuel ih =>
      intro k hk hfu H locs hP hS ls hl
      refine lv_iload hx hb dX4_seenAt_6 (lv_at hl 5 rfl) ?_
      refine lv_iconst (v := nI 4) hx hb dX4_seenAt_8 rfl ?_
      refine x_icmp_ge (tgt := 43) hx hb (by omega) (by omega) dX4_seenAt_9 (by decide) (fun c9 => ?_) (fun c9 => ?_)
      · skip
        refine lv_iload hx hb dX4_seenAt_43 (lv_at hl 4 rfl) ?_
        exact hend _ _ _ _ _ (congrArg nI (show orB (fun p => decide (sWay n A b c (bl + 1 + 2 * p) (n 4) = 0)) k = orB (fun p => decide (sWay n A b c (bl + 1 + 2 * p) (n 4) = 0)) 4 from by congr 1; omega)) hS dX4_seenAt_45
      · skip
        refine lv_iload hx hb dX4_seenAt_12 (lv_at hl 4 rfl) ?_
        refine lv_aload_n hx hb dX4_seenAt_14 rfl (lv_at hl 0 rfl) ?_
        refine lv_iload_n hx hb dX4_seenAt_15 rfl (lv_at hl 1 rfl) ?_
        refine lv_iload_n hx hb dX4_seenAt_16 rfl (lv_at hl 2 rfl) ?_
        refine lv_iload_n hx hb dX4_seenAt_17 rfl (lv_at hl 3 rfl) ?_
        refine lv_iload hx hb dX4_seenAt_18 (lv_at hl 5 rfl) ?_
        refine roV_i (As := [.int (nI b), .int (nI c), .int (nI bl), .int (nI k)]) (rest := [.int (nI (orB (fun p => decide (sWay n A b c (bl + 1 + 2 * p) (n 4) = 0)) k))]) ⟨hx, hb, hml, hown, hts⟩ (kX4_inTheWay l dC dI cI cZ q n mb f A Y hW hR hmb b c bl k _ (by omega) (by omega) (by omega) (by omega)) (cwV 4 hts gX4_seenAt_X4_inTheWay rfl rfl rfl hdX4_inTheWay ⟨Nat.le_trans (Nat.le_of_ble_eq_true rfl) hRf, Nat.le_trans (Nat.le_of_ble_eq_true rfl) hRl⟩) (va_recv hK hP (ci := 4) (q0 := 0) rfl rfl) hK hP rfl hl.1 rfl (Nat.le_of_ble_eq_true rfl) dX4_seenAt_20 ⟨Nat.zero_le _, Nat.zero_le _⟩ hP hS hA (fun H locs hP hS => ?_)
        refine x_if_ne (tgt := 33) hx hb (Nat.lt_trans (sWay_lt hW (by omega) (by omega)) (by decide)) dX4_seenAt_23 (by decide) (fun c23 => ?_) (fun c23 => ?_)
        · skip
          have hz : (fun p => decide (sWay n A b c (bl + 1 + 2 * p) (n 4) = 0)) k = false := decide_eq_false c23
          refine lv_iconst (v := nI 0) hx hb dX4_seenAt_33 rfl ?_
          refine x_ior hx hb dX4_seenAt_34 ?_
          refine lv_istore (lv' := [(4, .int (nI ((orB (fun p => decide (sWay n A b c (bl + 1 + 2 * p) (n 4) = 0)) k) ||| 0))), (0, .ref (q 0)), (1, .int (nI b)), (2, .int (nI c)), (3, .int (nI bl)), (5, .int (nI k))]) hx hb dX4_seenAt_35 hl (by decide) rfl (fun ls hl => ?_)
          refine lv_iinc (v := (nI (k + 1))) (lv' := [(5, .int (nI (k + 1))), (4, .int (nI ((orB (fun p => decide (sWay n A b c (bl + 1 + 2 * p) (n 4) = 0)) k) ||| 0))), (0, .ref (q 0)), (1, .int (nI b)), (2, .int (nI c)), (3, .int (nI bl))]) hx hb dX4_seenAt_37 hl (k := 5) rfl (nI_add _ _) (by decide) rfl (fun ls hl => ?_)
          refine lv_goto (tgt := 6) hx hb dX4_seenAt_40 (by decide) ?_
          exact ih (k + 1) (by omega) (by omega) _ _ hP hS _ (by rw [show orB (fun p => decide (sWay n A b c (bl + 1 + 2 * p) (n 4) = 0)) (k + 1) = ((orB (fun p => decide (sWay n A b c (bl + 1 + 2 * p) (n 4) = 0)) k) ||| 0) from (orB_f (k := k) hz).symm.trans (Nat.or_zero _).symm]; exact lv_sub hl [2, 3, 4, 5, 1, 0] rfl)
        · skip
          have hz : (fun p => decide (sWay n A b c (bl + 1 + 2 * p) (n 4) = 0)) k = true := decide_eq_true c23
          refine lv_iconst (v := nI 1) hx hb dX4_seenAt_26 rfl ?_
          refine lv_iload hx hb dX4_seenAt_27 (lv_at hl 5 rfl) ?_
          refine x_shl1 hx hb (by omega) dX4_seenAt_29 ?_
          refine lv_goto (tgt := 34) hx hb dX4_seenAt_30 (by decide) ?_
          refine x_ior hx hb dX4_seenAt_34 ?_
          refine lv_istore (lv' := [(4, .int (nI ((orB (fun p => decide (sWay n A b c (bl + 1 + 2 * p) (n 4) = 0)) k) ||| (2 ^ k)))), (0, .ref (q 0)), (1, .int (nI b)), (2, .int (nI c)), (3, .int (nI bl)), (5, .int (nI k))]) hx hb dX4_seenAt_35 hl (by decide) rfl (fun ls hl => ?_)
          refine lv_iinc (v := (nI (k + 1))) (lv' := [(5, .int (nI (k + 1))), (4, .int (nI ((orB (fun p => decide (sWay n A b c (bl + 1 + 2 * p) (n 4) = 0)) k) ||| (2 ^ k)))), (0, .ref (q 0)), (1, .int (nI b)), (2, .int (nI c)), (3, .int (nI bl))]) hx hb dX4_seenAt_37 hl (k := 5) rfl (nI_add _ _) (by decide) rfl (fun ls hl => ?_)
          refine lv_goto (tgt := 6) hx hb dX4_seenAt_40 (by decide) ?_
          exact ih (k + 1) (by omega) (by omega) _ _ hP hS _ (by rw [show orB (fun p => decide (sWay n A b c (bl + 1 + 2 * p) (n 4) = 0)) (k + 1) = ((orB (fun p => decide (sWay n A b c (bl + 1 + 2 * p) (n 4) = 0)) k) ||| (2 ^ k)) from (orB_t (k := k) hz).symm]; exact lv_sub hl [2, 3, 4, 5, 1, 0] rfl)
  exact L6 _ 0 (by omega) (Nat.lt_succ_self _) _ _ hP hS _ (lv_sub hl [2, 3, 4, 5, 1, 0] rfl)
theorem hdX4_seenAt : yX4_seenAt.cls = RX4 ∧ yX4_seenAt.cls ≠ "java/lang/invoke/MethodHandle" ∧ yX4_seenAt.cls ≠ "java/lang/invoke/VarHandle" ∧ (parseMethodDescriptor yX4_seenAt.desc).map (fun d => d.parameters.length) = some 3 := by decide +kernel
set_option maxRecDepth 20000 in
theorem ggX4_wholeAt_X4_seenAt : GoodIn wsX4_wholeAt wsX4_seenAt := goodIn_r _ [6, 7, 8, 9, 5, 10, 11, 12, 13, 14, 15, 16, 17, 18, 19, 20, 21, 22, 23, 24, 25, 26, 27, 28, 29, 30, 31, 32, 33, 34, 35, 36, 37, 38, 39, 40, 41, 42, 43, 44, 45, 46, 47, 48, 49, 50, 51, 52, 53, 54, 55, 56, 57, 58, 59] (by decide +kernel) (by decide +kernel)
set_option maxRecDepth 20000 in
theorem gX4_wholeAt_X4_seenAt : GoodIn wsX4_wholeAt (wsV RX4 175 RX4 yX4_seenAt wsX4_seenAt) := goodIn_app (goodIn_of _ (by decide +kernel)) ggX4_wholeAt_X4_seenAt
set_option maxHeartbeats 4000000 in
set_option maxRecDepth 100000 in
theorem kX4_wholeAt (l : Launch) (dC : Nat → ClassId) (dI : Nat → Nat → Nat) (cI cZ : ClassId) (q n : Nat → Nat) (mb : Int32) (f : Nat → Int32) (A : Nat → Nat → Nat) (Y : Nat → Nat → Int32) (hW : WF n A) (hR : RM n A Y) (hmb : 0 < n 6 → mb = nI (n 7)) (c : Nat) (bl : Nat) (sz : Nat) (hc : c < n 0 * n 1) (hbl : bl ≤ 9) : Met l yX4_wholeAt wsX4_wholeAt ({ frames := 3, cells := 0, slots := 0, locals := 82 }) (roP [.ref (q 0), .int (nI c), .int (nI bl)] sz (dC, dI) [(cI, .int), (cZ, .boolean)] (wM cI cZ q n mb f Y)) (roQi (nI (sWholeB n A c bl)) sz) 0 0 (va_A [] sz) := by
  refine ro_met_i (by decide) rfl (Nat.le_of_ble_eq_true rfl) ?_
  intro pp ee ss mm aa bb me cd RR QQ Z hx hb hml hown hts hRf hRl hP hK hA hS hend ls hl
  have hown : ss.vm.findClass RX4 = some mm.cls := hown
  have hRf : 3 ≤ RR.frames := hRf
  have hRl : 82 ≤ RR.locals := hRl
  have hl : lv_has ls 5 [(0, .ref (q 0)), (1, .int (nI c)), (2, .int (nI bl))] := hl
  obtain ⟨w0, w1, w2, w3, w4, w5, w6, w7, w8, wA0, wA1, wA2⟩ := id hW
  have wC : n 0 * n 1 ≤ 42 := Nat.mul_le_mul w0 w1
  have hf89 := hts (.fieldLink RX4 89 "StatueSquareModel" "benches" "I") (List.mem_of_getElem? (i := 1) rfl)
  have hinX4 : ∀ w ∈ u_ws RX4 TX4 31, w ∈ wsX4_wholeAt := fun _ h => List.mem_cons_of_mem _ (List.mem_append_right _ h)
  refine lv_iconst (v := nI 0) hx hb dX4_wholeAt_0 rfl ?_
  refine lv_istore_n (lv' := [(3, .int (nI 0)), (0, .ref (q 0)), (1, .int (nI c)), (2, .int (nI bl))]) hx hb dX4_wholeAt_1 rfl hl (by decide) rfl (fun ls hl => ?_)
  refine lv_iconst (v := nI 0) hx hb dX4_wholeAt_2 rfl ?_
  refine lv_istore (lv' := [(4, .int (nI 0)), (3, .int (nI 0)), (0, .ref (q 0)), (1, .int (nI c)), (2, .int (nI bl))]) hx hb dX4_wholeAt_3 hl (by decide) rfl (fun ls hl => ?_)
  have L5 : ∀ (fuel : Nat) (k : Nat) (hk : k ≤ n 2) (hfu : n 2 - k < fuel) (H : Heap) (locs : List Loc), va_P (dC, dI) vwCl (wM cI cZ q n mb f Y) H → va_S Z ss.heap H locs → ∀ (ls : Array Slot), lv_has ls 5 [(0, .ref (q 0)), (1, .int (nI c)), (2, .int (nI bl)), (3, .int (nI (orB (fun b => decide (sWay n A b c (bl + 1) (n 4) = 0)) k))), (4, .int (nI k))] → W pp l ee RR ss mm aa bb me cd H locs 0 0 QQ (F0 mm 5 ls []) := by
    intro fuel
    induction fuel with
    | zero => intro k hk hfu; exact absurd hfu (Nat.not_lt_zero _)
    | succ fuel ih =>
      intro k hk hfu H locs hP hS ls hl
      refine lv_iload hx hb dX4_wholeAt_5 (lv_at hl 4 rfl) ?_
      refine lv_aload_n hx hb dX4_wholeAt_7 rfl (lv_at hl 0 rfl) ?_
      refine x_get (D := (dC, dI)) (ci := 4) (v := .int (nI (n 2))) (C := RX4) (T := TX4) (N := 31) hx hb hts hinX4 hown hK hP 0 rfl rfl 4 (Nat.le_of_ble_eq_true rfl) hf89 rfl rfl dX4_wholeAt_8 ?_
      refine x_icmp_ge (tgt := 44) hx hb (by omega) (by omega) dX4_wholeAt_11 (by decide) (fun c11 => ?_) (fun c11 => ?_)
      · skip
        refine lv_iload_n hx hb dX4_wholeAt_44 rfl (lv_at hl 3 rfl) ?_
        exact hend _ _ _ _ _ (congrArg nI (show orB (fun b => decide (sWay n A b c (bl + 1) (n 4) = 0)) k = orB (fun b => decide (sWay n A b c (bl + 1) (n 4) = 0)) (n 2) from by congr 1; omega)) hS dX4_wholeAt_45
      · skip
        refine lv_iload_n hx hb dX4_wholeAt_14 rfl (lv_at hl 3 rfl) ?_
        refine lv_aload_n hx hb dX4_wholeAt_15 rfl (lv_at hl 0 rfl) ?_
        refine lv_iload hx hb dX4_wholeAt_16 (lv_at hl 4 rfl) ?_
        refine lv_iload_n hx hb dX4_wholeAt_18 rfl (lv_at hl 1 rfl) ?_
        refine lv_iload_n hx hb dX4_wholeAt_19 rfl (lv_at hl 2 rfl) ?_
        refine roV_i (As := [.int (nI k), .int (nI c), .int (nI bl)]) (rest := [.int (nI (orB (fun b => decide (sWay n A b c (bl + 1) (n 4) = 0)) k))]) ⟨hx, hb, hml, hown, hts⟩ (kX4_seenAt l dC dI cI cZ q n mb f A Y hW hR hmb k c bl _ (by omega) (by omega) (by omega)) (cwV 3 hts gX4_wholeAt_X4_seenAt rfl rfl rfl hdX4_seenAt ⟨Nat.le_trans (Nat.le_of_ble_eq_true rfl) hRf, Nat.le_trans (Nat.le_of_ble_eq_true rfl) hRl⟩) (va_recv hK hP (ci := 4) (q0 := 0) rfl rfl) hK hP rfl hl.1 rfl (Nat.le_of_ble_eq_true rfl) dX4_wholeAt_20 ⟨Nat.zero_le _, Nat.zero_le _⟩ hP hS hA (fun H locs hP hS => ?_)
        refine lv_bipush (v := nI 15) hx hb dX4_wholeAt_23 rfl ?_
        refine x_icmp_ne (tgt := 35) hx hb (Nat.lt_trans (sSeenB_lt _ _ _ _ _) (by decide)) (by omega) dX4_wholeAt_25 (by decide) (fun c25 => ?_) (fun c25 => ?_)
        · skip
          have hz : (fun b => decide (sWay n A b c (bl + 1) (n 4) = 0)) k = false := decide_eq_false (fun q => c25 ((seen15 n A k c bl).mpr q))
          refine lv_iconst (v := nI 0) hx hb dX4_wholeAt_35 rfl ?_
          refine x_ior hx hb dX4_wholeAt_36 ?_
          refine lv_istore_n (lv' := [(3, .int (nI ((orB (fun b => decide (sWay n A b c (bl + 1) (n 4) = 0)) k) ||| 0))), (0, .ref (q 0)), (1, .int (nI c)), (2, .int (nI bl)), (4, .int (nI k))]) hx hb dX4_wholeAt_37 rfl hl (by decide) rfl (fun ls hl => ?_)
          refine lv_iinc (v := (nI (k + 1))) (lv' := [(4, .int (nI (k + 1))), (3, .int (nI ((orB (fun b => decide (sWay n A b c (bl + 1) (n 4) = 0)) k) ||| 0))), (0, .ref (q 0)), (1, .int (nI c)), (2, .int (nI bl))]) hx hb dX4_wholeAt_38 hl (k := 4) rfl (nI_add _ _) (by decide) rfl (fun ls hl => ?_)
          refine lv_goto (tgt := 5) hx hb dX4_wholeAt_41 (by decide) ?_
          exact ih (k + 1) (by omega) (by omega) _ _ hP hS _ (by rw [show orB (fun b => decide (sWay n A b c (bl + 1) (n 4) = 0)) (k + 1) = ((orB (fun b => decide (sWay n A b c (bl + 1) (n 4) = 0)) k) ||| 0) from (orB_f (k := k) hz).symm.trans (Nat.or_zero _).symm]; exact lv_sub hl [2, 3, 4, 1, 0] rfl)
        · skip
          have hz : (fun b => decide (sWay n A b c (bl + 1) (n 4) = 0)) k = true := decide_eq_true ((seen15 n A k c bl).mp c25)
          refine lv_iconst (v := nI 1) hx hb dX4_wholeAt_28 rfl ?_
          refine lv_iload hx hb dX4_wholeAt_29 (lv_at hl 4 rfl) ?_
          refine x_shl1 hx hb (by omega) dX4_wholeAt_31 ?_
          refine lv_goto (tgt := 36) hx hb dX4_wholeAt_32 (by decide) ?_
          refine x_ior hx hb dX4_wholeAt_36 ?_
          refine lv_istore_n (lv' := [(3, .int (nI ((orB (fun b => decide (sWay n A b c (bl + 1) (n 4) = 0)) k) ||| (2 ^ k)))), (0, .ref (q 0)), (1, .int (nI c)), (2, .int (nI bl)), (4, .int (nI k))]) hx hb dX4_wholeAt_37 rfl hl (by decide) rfl (fun ls hl => ?_)
          refine lv_iinc (v := (nI (k + 1))) (lv' := [(4, .int (nI (k + 1))), (3, .int (nI ((orB (fun b => decide (sWay n A b c (bl + 1) (n 4) = 0)) k) ||| (2 ^ k)))), (0, .ref (q 0)), (1, .int (nI c)), (2, .int (nI bl))]) hx hb dX4_wholeAt_38 hl (k := 4) rfl (nI_add _ _) (by decide) rfl (fun ls hl => ?_)
          refine lv_goto (tgt := 5) hx hb dX4_wholeAt_41 (by decide) ?_
          exact ih (k + 1) (by omega) (by omega) _ _ hP hS _ (by rw [show orB (fun b => decide (sWay n A b c (bl + 1) (n 4) = 0)) (k + 1) = ((orB (fun b => decide (sWay n A b c (bl + 1) (n 4) = 0)) k) ||| (2 ^ k)) from (orB_t (k := k) hz).symm]; exact lv_sub hl [2, 3, 4, 1, 0] rfl)
  exact L5 _ 0 (by omega) (Nat.lt_succ_self _) _ _ hP hS _ (lv_sub hl [2, 3, 4, 1, 0] rfl)
set_option maxHeartbeats 4000000 in
set_option maxRecDepth 100000 in
theorem kX4_bits (l : Launch) (dC : Nat → ClassId) (dI : Nat → Nat → Nat) (s : Nat) (sz : Nat) (hs0 : s < 2 ^ 16) : Met l yX4_bits wsX4_bits ({ frames := 0, cells := 0, slots := 0, locals := 0 }) (roP [.int (nI s)] sz (dC, dI) [] ([] : va_W)) (roQi (nI (popN s)) sz) 0 0 (va_A [] sz) := by
  refine ro_met_i (by decide) rfl (Nat.le_of_ble_eq_true rfl) ?_
  intro pp ee ss mm aa bb me cd RR QQ Z hx hb hml hown hts hRf hRl hP hK hA hS hend ls hl
  have hown : ss.vm.findClass RX4 = some mm.cls := hown
  have hRf : 0 ≤ RR.frames := hRf
  have hRl : 0 ≤ RR.locals := hRl
  have hl : lv_has ls 3 [(0, .int (nI s))] := hl
  refine lv_iconst (v := nI 0) hx hb dX4_bits_0 rfl ?_
  refine lv_istore_n (lv' := [(1, .int (nI 0)), (0, .int (nI s))]) hx hb dX4_bits_1 rfl hl (by decide) rfl (fun ls hl => ?_)
  refine lv_iload_n hx hb dX4_bits_2 rfl (lv_at hl 1 rfl) ?_
  refine lv_istore_n (lv' := [(2, .int (nI s)), (1, .int (nI 0)), (0, .int (nI s))]) hx hb dX4_bits_3 rfl hl (by decide) rfl (fun ls hl => ?_)
  have L4 : ∀ (fuel : Nat) (k : Nat) (hk : k ≤ 16) (hfu : 17 - k < fuel) (H : Heap) (locs : List Loc), va_P (dC, dI) vwCl ([] : va_W) H → va_S Z ss.heap H locs → ∀ (ls : Array Slot), lv_has ls 3 [(1, .int (nI (cntB (fun i => s.testBit i) k))), (2, .int (nI (s / 2 ^ k)))] → W pp l ee RR ss mm aa bb me cd H locs 0 0 QQ (F0 mm 4 ls []) := by
    intro fuel
    induction fuel with
    | zero => intro k hk hfu; exact absurd hfu (Nat.not_lt_zero _)
    | succ fuel ih =>
      intro k hk hfu H locs hP hS ls hl
      refine lv_iload_n hx hb dX4_bits_4 rfl (lv_at hl 1 rfl) ?_
      refine x_if_le (tgt := 21) hx hb (Nat.lt_of_le_of_lt (Nat.div_le_self _ _) (by omega)) dX4_bits_5 (by decide) (fun c5 => ?_) (fun c5 => ?_)
      · skip
        refine lv_iload_n hx hb dX4_bits_21 rfl (lv_at hl 0 rfl) ?_
        exact hend _ _ _ _ _ (congrArg nI (cnt_end hk c5)) hS dX4_bits_22
      · skip
        have hk16 : k + 1 ≤ 16 := by rcases Nat.lt_or_ge k 16 with q | q; exact q; exact absurd (Nat.div_eq_of_lt (Nat.lt_of_lt_of_le hs0 (Nat.pow_le_pow_right (by decide) q))) (by omega)
        refine lv_iload_n hx hb dX4_bits_8 rfl (lv_at hl 0 rfl) ?_
        refine lv_iload_n hx hb dX4_bits_9 rfl (lv_at hl 1 rfl) ?_
        refine lv_iconst (v := nI 1) hx hb dX4_bits_10 rfl ?_
        refine x_iand hx hb dX4_bits_11 ?_
        refine x_iadd hx hb dX4_bits_12 ?_
        refine lv_istore_n (lv' := [(1, .int (nI ((cntB (fun i => s.testBit i) k) + ((s / 2 ^ k) &&& 1)))), (2, .int (nI (s / 2 ^ k)))]) hx hb dX4_bits_13 rfl hl (by decide) rfl (fun ls hl => ?_)
        refine lv_iload_n hx hb dX4_bits_14 rfl (lv_at hl 1 rfl) ?_
        refine lv_iconst (v := nI 1) hx hb dX4_bits_15 rfl ?_
        refine x_ishr hx hb (Nat.lt_of_le_of_lt (Nat.div_le_self _ _) (by omega)) (by omega) dX4_bits_16 ?_
        refine lv_istore_n (lv' := [(2, .int (nI ((s / 2 ^ k) / 2 ^ 1))), (1, .int (nI ((cntB (fun i => s.testBit i) k) + ((s / 2 ^ k) &&& 1))))]) hx hb dX4_bits_17 rfl hl (by decide) rfl (fun ls hl => ?_)
        refine lv_goto (tgt := 4) hx hb dX4_bits_18 (by decide) ?_
        exact ih (k + 1) hk16 (by omega) _ _ hP hS _ (by rw [show cntB (fun i => s.testBit i) (k + 1) = cntB (fun i => s.testBit i) k + (s / 2 ^ k &&& 1) from by rw [bit_and1]; rfl, show s / 2 ^ (k + 1) = s / 2 ^ k / 2 ^ 1 from by rw [Nat.pow_succ, Nat.div_div_eq_div_mul]]; exact lv_sub hl [1, 0] rfl)
  exact L4 _ 0 (by omega) (Nat.lt_succ_self _) _ _ hP hS _ (by rw [show s / 2 ^ 0 = s from by simp]; exact lv_sub hl [1, 0] rfl)
set_option maxRecDepth 20000 in
theorem ggX4_seen_X4_noBench : GoodIn wsX4_seen wsX4_noBench := goodIn_r _ [7, 8, 9, 10, 6, 11, 38, 39, 40, 41, 42, 43, 44, 45, 46, 47, 48, 49, 50, 51, 52, 53, 54, 55, 56, 57, 58, 59, 60, 61, 62, 63, 64, 65, 66, 67, 68] (by decide +kernel) (by decide +kernel)
set_option maxRecDepth 20000 in
theorem gX4_seen_X4_noBench : GoodIn wsX4_seen (wsV RX4 156 RX4 yX4_noBench wsX4_noBench) := goodIn_app (goodIn_of _ (by decide +kernel)) ggX4_seen_X4_noBench
set_option maxRecDepth 20000 in
theorem ggX4_seen_X4_seenAt : GoodIn wsX4_seen wsX4_seenAt := goodIn_r _ [15, 16, 17, 18, 6, 19, 20, 21, 22, 23, 24, 25, 26, 27, 28, 29, 30, 31, 32, 33, 34, 35, 36, 37, 38, 39, 40, 41, 42, 43, 44, 45, 46, 47, 48, 49, 50, 51, 52, 53, 54, 55, 56, 57, 58, 59, 60, 61, 62, 63, 64, 65, 66, 67, 68] (by decide +kernel) (by decide +kernel)
set_option maxRecDepth 20000 in
theorem gX4_seen_X4_seenAt : GoodIn wsX4_seen (wsV RX4 175 RX4 yX4_seenAt wsX4_seenAt) := goodIn_app (goodIn_of _ (by decide +kernel)) ggX4_seen_X4_seenAt
set_option maxHeartbeats 4000000 in
set_option maxRecDepth 100000 in
theorem kX4_seen (l : Launch) (dC : Nat → ClassId) (dI : Nat → Nat → Nat) (cI cZ : ClassId) (q n : Nat → Nat) (mb : Int32) (f : Nat → Int32) (A : Nat → Nat → Nat) (Y : Nat → Nat → Int32) (hW : WF n A) (hR : RM n A Y) (hmb : 0 < n 6 → mb = nI (n 7)) (b : Int32) (sz : Nat) : Met l yX4_seen wsX4_seen ({ frames := 3, cells := 0, slots := 0, locals := 82 }) (roP [.ref (q 0), .int b] sz (dC, dI) [(cI, .int), (cZ, .boolean)] (wM cI cZ q n mb f Y)) (roQi (uSeen n A b) sz) 0 0 (va_A [] sz) := by
  refine ro_met_i (by decide) rfl (Nat.le_of_ble_eq_true rfl) ?_
  intro pp ee ss mm aa bb me cd RR QQ Z hx hb hml hown hts hRf hRl hP hK hA hS hend ls hl
  have hown : ss.vm.findClass RX4 = some mm.cls := hown
  have hRf : 3 ≤ RR.frames := hRf
  have hRl : 82 ≤ RR.locals := hRl
  have hl : lv_has ls 2 [(0, .ref (q 0)), (1, .int b)] := hl
  obtain ⟨w0, w1, w2, w3, w4, w5, w6, w7, w8, wA0, wA1, wA2⟩ := id hW
  have wC : n 0 * n 1 ≤ 42 := Nat.mul_le_mul w0 w1
  have hf47 := hts (.fieldLink RX4 47 "StatueSquareModel" "statueAt" "I") (List.mem_of_getElem? (i := 1) rfl)
  have hinX4 : ∀ w ∈ u_ws RX4 TX4 31, w ∈ wsX4_seen := fun _ h => List.mem_cons_of_mem _ (List.mem_append_right _ h)
  have hf163 := hts (.fieldLink RX4 163 "StatueSquareModel" "blockNow" "I") (List.mem_of_getElem? (i := 2) rfl)
  refine lv_aload_n hx hb dX4_seen_0 rfl (lv_at hl 0 rfl) ?_
  refine lv_iload_n hx hb dX4_seen_1 rfl (lv_at hl 1 rfl) ?_
  refine roV_i (As := [.int b]) (rest := []) ⟨hx, hb, hml, hown, hts⟩ (kX4_noBench l dC dI cI cZ q n mb f A Y hW hR hmb b _ ) (cwV 1 hts gX4_seen_X4_noBench rfl rfl rfl hdX4_noBench ⟨Nat.le_trans (Nat.le_of_ble_eq_true rfl) hRf, Nat.le_trans (Nat.le_of_ble_eq_true rfl) hRl⟩) (va_recv hK hP (ci := 4) (q0 := 0) rfl rfl) hK hP rfl hl.1 rfl (Nat.le_of_ble_eq_true rfl) dX4_seen_2 ⟨Nat.zero_le _, Nat.zero_le _⟩ hP hS hA (fun H locs hP hS => ?_)
  refine x_ifb_eq (tgt := 10) hx hb dX4_seen_5 (by decide) (fun c5 => ?_) (fun c5 => ?_)
  · skip
    have c5 : inB b (n 2) = true := by simpa using c5
    obtain ⟨j, hj, rfl⟩ := inB_t (by omega) c5
    have hxj : xn (nI j) = j := xn_nI (by omega)
    refine lv_aload_n hx hb dX4_seen_10 rfl (lv_at hl 0 rfl) ?_
    refine x_get (D := (dC, dI)) (ci := 4) (v := .int (stI (n 6))) (C := RX4) (T := TX4) (N := 31) hx hb hts hinX4 hown hK hP 0 rfl rfl 24 (Nat.le_of_ble_eq_true rfl) hf47 rfl rfl dX4_seen_11 ?_
    refine lv_if_ge (tgt := 22) hx hb dX4_seen_14 (by decide) (fun c14 => ?_) (fun c14 => ?_)
    · skip
      have hst : 0 < n 6 := st_ge (by omega) c14
      refine lv_aload_n hx hb dX4_seen_22 rfl (lv_at hl 0 rfl) ?_
      refine lv_iload_n hx hb dX4_seen_23 rfl (lv_at hl 1 rfl) ?_
      refine lv_aload_n hx hb dX4_seen_24 rfl (lv_at hl 0 rfl) ?_
      refine x_get (D := (dC, dI)) (ci := 4) (v := .int (stI (n 6))) (C := RX4) (T := TX4) (N := 31) hx hb hts hinX4 hown hK hP 0 rfl rfl 24 (Nat.le_of_ble_eq_true rfl) hf47 rfl rfl dX4_seen_25 ?_
      refine x_top (stI_pos hst) ?_
      refine lv_aload_n hx hb dX4_seen_28 rfl (lv_at hl 0 rfl) ?_
      refine x_get (D := (dC, dI)) (ci := 4) (v := .int mb) (C := RX4) (T := TX4) (N := 31) hx hb hts hinX4 hown hK hP 0 rfl rfl 25 (Nat.le_of_ble_eq_true rfl) hf163 rfl rfl dX4_seen_29 ?_
      refine x_top (hmb hst) ?_
      refine roV_i (As := [.int (nI j), .int (nI (n 6 - 1)), .int (nI (n 7))]) (rest := []) ⟨hx, hb, hml, hown, hts⟩ (kX4_seenAt l dC dI cI cZ q n mb f A Y hW hR hmb j (n 6 - 1) (n 7) _ (by omega) (by omega) (by omega)) (cwV 3 hts gX4_seen_X4_seenAt rfl rfl rfl hdX4_seenAt ⟨Nat.le_trans (Nat.le_of_ble_eq_true rfl) hRf, Nat.le_trans (Nat.le_of_ble_eq_true rfl) hRl⟩) (va_recv hK hP (ci := 4) (q0 := 0) rfl rfl) hK hP rfl hl.1 rfl (Nat.le_of_ble_eq_true rfl) dX4_seen_32 ⟨Nat.zero_le _, Nat.zero_le _⟩ hP hS hA (fun H locs hP hS => ?_)
      exact hend _ _ _ _ _ (by simp [uSeen, inB02, c5, hxj, hst, sSeenB_eq] <;> rfl) hS dX4_seen_35
    · skip
      have hst : ¬ 0 < n 6 := st_lt (by omega) c14
      refine lv_bipush (v := -3) hx hb dX4_seen_17 rfl ?_
      refine lv_goto (tgt := 35) hx hb dX4_seen_19 (by decide) ?_
      exact hend _ _ _ _ _ (by simp [uSeen, inB02, c5, hst] <;> rfl) hS dX4_seen_35
  · skip
    have c5 : inB b (n 2) = false := by simpa using c5
    refine lv_iconst (v := -1) hx hb dX4_seen_8 rfl ?_
    exact hend _ _ _ _ _ (by simp [uSeen, inB02, c5] <;> rfl) hS dX4_seen_9
theorem hdX4_wholeAt : yX4_wholeAt.cls = RX4 ∧ yX4_wholeAt.cls ≠ "java/lang/invoke/MethodHandle" ∧ yX4_wholeAt.cls ≠ "java/lang/invoke/VarHandle" ∧ (parseMethodDescriptor yX4_wholeAt.desc).map (fun d => d.parameters.length) = some 2 := by decide +kernel
set_option maxRecDepth 20000 in
theorem ggX4_whole_X4_wholeAt : GoodIn wsX4_whole wsX4_wholeAt := goodIn_r _ [7, 8, 9, 10, 11, 6, 12, 13, 14, 15, 16, 17, 18, 19, 20, 21, 22, 23, 24, 25, 26, 27, 28, 29, 30, 31, 32, 33, 34, 35, 36, 37, 38, 39, 40, 41, 42, 43, 44, 45, 46, 47, 48, 49, 50, 51, 52, 53, 54, 55, 56, 57, 58, 59, 60, 61, 62, 63, 64, 65] (by decide +kernel) (by decide +kernel)
set_option maxRecDepth 20000 in
theorem gX4_whole_X4_wholeAt : GoodIn wsX4_whole (wsV RX4 179 RX4 yX4_wholeAt wsX4_wholeAt) := goodIn_app (goodIn_of _ (by decide +kernel)) ggX4_whole_X4_wholeAt
set_option maxHeartbeats 4000000 in
set_option maxRecDepth 100000 in
theorem kX4_whole (l : Launch) (dC : Nat → ClassId) (dI : Nat → Nat → Nat) (cI cZ : ClassId) (q n : Nat → Nat) (mb : Int32) (f : Nat → Int32) (A : Nat → Nat → Nat) (Y : Nat → Nat → Int32) (hW : WF n A) (hR : RM n A Y) (hmb : 0 < n 6 → mb = nI (n 7)) (sz : Nat) : Met l yX4_whole wsX4_whole ({ frames := 4, cells := 0, slots := 0, locals := 106 }) (roP [.ref (q 0)] sz (dC, dI) [(cI, .int), (cZ, .boolean)] (wM cI cZ q n mb f Y)) (roQi (uWhole n A) sz) 0 0 (va_A [] sz) := by
  refine ro_met_i (by decide) rfl (Nat.le_of_ble_eq_true rfl) ?_
  intro pp ee ss mm aa bb me cd RR QQ Z hx hb hml hown hts hRf hRl hP hK hA hS hend ls hl
  have hown : ss.vm.findClass RX4 = some mm.cls := hown
  have hRf : 4 ≤ RR.frames := hRf
  have hRl : 106 ≤ RR.locals := hRl
  have hl : lv_has ls 1 [(0, .ref (q 0))] := hl
  obtain ⟨w0, w1, w2, w3, w4, w5, w6, w7, w8, wA0, wA1, wA2⟩ := id hW
  have wC : n 0 * n 1 ≤ 42 := Nat.mul_le_mul w0 w1
  have hf47 := hts (.fieldLink RX4 47 "StatueSquareModel" "statueAt" "I") (List.mem_of_getElem? (i := 1) rfl)
  have hinX4 : ∀ w ∈ u_ws RX4 TX4 31, w ∈ wsX4_whole := fun _ h => List.mem_cons_of_mem _ (List.mem_append_right _ h)
  have hf163 := hts (.fieldLink RX4 163 "StatueSquareModel" "blockNow" "I") (List.mem_of_getElem? (i := 2) rfl)
  refine lv_aload_n hx hb dX4_whole_0 rfl (lv_at hl 0 rfl) ?_
  refine x_get (D := (dC, dI)) (ci := 4) (v := .int (stI (n 6))) (C := RX4) (T := TX4) (N := 31) hx hb hts hinX4 hown hK hP 0 rfl rfl 24 (Nat.le_of_ble_eq_true rfl) hf47 rfl rfl dX4_whole_1 ?_
  refine lv_if_ge (tgt := 12) hx hb dX4_whole_4 (by decide) (fun c4 => ?_) (fun c4 => ?_)
  · skip
    have hst : 0 < n 6 := st_ge (by omega) c4
    refine lv_aload_n hx hb dX4_whole_12 rfl (lv_at hl 0 rfl) ?_
    refine lv_aload_n hx hb dX4_whole_13 rfl (lv_at hl 0 rfl) ?_
    refine x_get (D := (dC, dI)) (ci := 4) (v := .int (stI (n 6))) (C := RX4) (T := TX4) (N := 31) hx hb hts hinX4 hown hK hP 0 rfl rfl 24 (Nat.le_of_ble_eq_true rfl) hf47 rfl rfl dX4_whole_14 ?_
    refine x_top (stI_pos hst) ?_
    refine lv_aload_n hx hb dX4_whole_17 rfl (lv_at hl 0 rfl) ?_
    refine x_get (D := (dC, dI)) (ci := 4) (v := .int mb) (C := RX4) (T := TX4) (N := 31) hx hb hts hinX4 hown hK hP 0 rfl rfl 25 (Nat.le_of_ble_eq_true rfl) hf163 rfl rfl dX4_whole_18 ?_
    refine x_top (hmb hst) ?_
    refine roV_i (As := [.int (nI (n 6 - 1)), .int (nI (n 7))]) (rest := []) ⟨hx, hb, hml, hown, hts⟩ (kX4_wholeAt l dC dI cI cZ q n mb f A Y hW hR hmb (n 6 - 1) (n 7) _ (by omega) (by omega)) (cwV 2 hts gX4_whole_X4_wholeAt rfl rfl rfl hdX4_wholeAt ⟨Nat.le_trans (Nat.le_of_ble_eq_true rfl) hRf, Nat.le_trans (Nat.le_of_ble_eq_true rfl) hRl⟩) (va_recv hK hP (ci := 4) (q0 := 0) rfl rfl) hK hP rfl hl.1 rfl (Nat.le_of_ble_eq_true rfl) dX4_whole_21 ⟨Nat.zero_le _, Nat.zero_le _⟩ hP hS hA (fun H locs hP hS => ?_)
    exact hend _ _ _ _ _ (by simp [uWhole, hst]; rfl) hS dX4_whole_24
  · skip
    have hst : ¬ 0 < n 6 := st_lt (by omega) c4
    refine lv_bipush (v := -3) hx hb dX4_whole_7 rfl ?_
    refine lv_goto (tgt := 24) hx hb dX4_whole_9 (by decide) ?_
    exact hend _ _ _ _ _ (by simp [uWhole, inB02, hst] <;> rfl) hS dX4_whole_24
set_option maxRecDepth 20000 in
theorem ggX4_hiddenAt_X4_inTheWay : GoodIn wsX4_hiddenAt wsX4_inTheWay := goodIn_r _ [7, 8, 9, 10, 11, 12, 13, 6, 14, 15, 16, 17, 18, 19, 20, 21, 22, 23, 24, 25, 26, 27, 28, 29, 30, 31, 32, 33, 34, 35, 36, 37, 38, 39, 40, 41, 42, 43, 44, 45, 46, 47, 48, 49, 50, 51, 52, 53, 54, 55, 56] (by decide +kernel) (by decide +kernel)
set_option maxRecDepth 20000 in
theorem gX4_hiddenAt_X4_inTheWay : GoodIn wsX4_hiddenAt (wsV RX4 172 RX4 yX4_inTheWay wsX4_inTheWay) := goodIn_app (goodIn_of _ (by decide +kernel)) ggX4_hiddenAt_X4_inTheWay
set_option maxHeartbeats 4000000 in
set_option maxRecDepth 100000 in
theorem kX4_hiddenAt (l : Launch) (dC : Nat → ClassId) (dI : Nat → Nat → Nat) (cI cZ : ClassId) (q n : Nat → Nat) (mb : Int32) (f : Nat → Int32) (A : Nat → Nat → Nat) (Y : Nat → Nat → Int32) (hW : WF n A) (hR : RM n A Y) (hmb : 0 < n 6 → mb = nI (n 7)) (b : Nat) (sz : Nat) (hst : 0 < n 6) (hb0 : b < n 2) : Met l yX4_hiddenAt wsX4_hiddenAt ({ frames := 2, cells := 0, slots := 0, locals := 57 }) (roP [.ref (q 0), .int (nI b)] sz (dC, dI) [(cI, .int), (cZ, .boolean)] (wM cI cZ q n mb f Y)) (roQi (nI (sFoot n A b (n 4))) sz) 0 0 (va_A [] sz) := by
  refine ro_met_i (by decide) rfl (Nat.le_of_ble_eq_true rfl) ?_
  intro pp ee ss mm aa bb me cd RR QQ Z hx hb hml hown hts hRf hRl hP hK hA hS hend ls hl
  have hown : ss.vm.findClass RX4 = some mm.cls := hown
  have hRf : 2 ≤ RR.frames := hRf
  have hRl : 57 ≤ RR.locals := hRl
  have hl : lv_has ls 4 [(0, .ref (q 0)), (1, .int (nI b))] := hl
  obtain ⟨w0, w1, w2, w3, w4, w5, w6, w7, w8, wA0, wA1, wA2⟩ := id hW
  have wC : n 0 * n 1 ≤ 42 := Nat.mul_le_mul w0 w1
  have hf47 := hts (.fieldLink RX4 47 "StatueSquareModel" "statueAt" "I") (List.mem_of_getElem? (i := 1) rfl)
  have hinX4 : ∀ w ∈ u_ws RX4 TX4 31, w ∈ wsX4_hiddenAt := fun _ h => List.mem_cons_of_mem _ (List.mem_append_right _ h)
  have hf163 := hts (.fieldLink RX4 163 "StatueSquareModel" "blockNow" "I") (List.mem_of_getElem? (i := 2) rfl)
  refine lv_iconst (v := nI 0) hx hb dX4_hiddenAt_0 rfl ?_
  refine lv_istore_n (lv' := [(2, .int (nI 0)), (0, .ref (q 0)), (1, .int (nI b))]) hx hb dX4_hiddenAt_1 rfl hl (by decide) rfl (fun ls hl => ?_)
  refine lv_iconst (v := nI 0) hx hb dX4_hiddenAt_2 rfl ?_
  refine lv_istore_n (lv' := [(3, .int (nI 0)), (2, .int (nI 0)), (0, .ref (q 0)), (1, .int (nI b))]) hx hb dX4_hiddenAt_3 rfl hl (by decide) rfl (fun ls hl => ?_)
  have L4 : ∀ (fuel : Nat) (k : Nat) (hk : k ≤ 4) (hfu : 4 - k < fuel) (H : Heap) (locs : List Loc), va_P (dC, dI) vwCl (wM cI cZ q n mb f Y) H → va_S Z ss.heap H locs → ∀ (ls : Array Slot), lv_has ls 4 [(0, .ref (q 0)), (1, .int (nI b)), (2, .int (nI (orM (fun p => sWay n A b (n 6 - 1) (n 7 + 1 + 2 * p) (n 4)) k))), (3, .int (nI k))] → W pp l ee RR ss mm aa bb me cd H locs 0 0 QQ (F0 mm 4 ls []) := by
    intro fuel
    induction fuel with
    | zero => intro k hk hfu; exact absurd hfu (Nat.not_lt_zero _)
    | succ fuel ih =>
      intro k hk hfu H locs hP hS ls hl
      refine lv_iload_n hx hb dX4_hiddenAt_4 rfl (lv_at hl 3 rfl) ?_
      refine lv_iconst (v := nI 4) hx hb dX4_hiddenAt_5 rfl ?_
      refine x_icmp_ge (tgt := 32) hx hb (by omega) (by omega) dX4_hiddenAt_6 (by decide) (fun c6 => ?_) (fun c6 => ?_)
      · skip
        refine lv_iload_n hx hb dX4_hiddenAt_32 rfl (lv_at hl 2 rfl) ?_
        exact hend _ _ _ _ _ (congrArg nI (show orM (fun p => sWay n A b (n 6 - 1) (n 7 + 1 + 2 * p) (n 4)) k = sFoot n A b (n 4) from by rw [show k = 4 from by omega]; exact hid_eq n A b (n 6 - 1) (n 7) (n 4))) hS dX4_hiddenAt_33
      · skip
        refine lv_iload_n hx hb dX4_hiddenAt_9 rfl (lv_at hl 2 rfl) ?_
        refine lv_aload_n hx hb dX4_hiddenAt_10 rfl (lv_at hl 0 rfl) ?_
        refine lv_iload_n hx hb dX4_hiddenAt_11 rfl (lv_at hl 1 rfl) ?_
        refine lv_aload_n hx hb dX4_hiddenAt_12 rfl (lv_at hl 0 rfl) ?_
        refine x_get (D := (dC, dI)) (ci := 4) (v := .int (stI (n 6))) (C := RX4) (T := TX4) (N := 31) hx hb hts hinX4 hown hK hP 0 rfl rfl 24 (Nat.le_of_ble_eq_true rfl) hf47 rfl rfl dX4_hiddenAt_13 ?_
        refine x_top (stI_pos hst) ?_
        refine lv_aload_n hx hb dX4_hiddenAt_16 rfl (lv_at hl 0 rfl) ?_
        refine x_get (D := (dC, dI)) (ci := 4) (v := .int mb) (C := RX4) (T := TX4) (N := 31) hx hb hts hinX4 hown hK hP 0 rfl rfl 25 (Nat.le_of_ble_eq_true rfl) hf163 rfl rfl dX4_hiddenAt_17 ?_
        refine x_top (hmb hst) ?_
        refine lv_iload_n hx hb dX4_hiddenAt_20 rfl (lv_at hl 3 rfl) ?_
        refine roV_i (As := [.int (nI b), .int (nI (n 6 - 1)), .int (nI (n 7)), .int (nI k)]) (rest := [.int (nI (orM (fun p => sWay n A b (n 6 - 1) (n 7 + 1 + 2 * p) (n 4)) k))]) ⟨hx, hb, hml, hown, hts⟩ (kX4_inTheWay l dC dI cI cZ q n mb f A Y hW hR hmb b (n 6 - 1) (n 7) k _ (by omega) (by omega) (by omega) (by omega)) (cwV 4 hts gX4_hiddenAt_X4_inTheWay rfl rfl rfl hdX4_inTheWay ⟨Nat.le_trans (Nat.le_of_ble_eq_true rfl) hRf, Nat.le_trans (Nat.le_of_ble_eq_true rfl) hRl⟩) (va_recv hK hP (ci := 4) (q0 := 0) rfl rfl) hK hP rfl hl.1 rfl (Nat.le_of_ble_eq_true rfl) dX4_hiddenAt_21 ⟨Nat.zero_le _, Nat.zero_le _⟩ hP hS hA (fun H locs hP hS => ?_)
        refine x_ior hx hb dX4_hiddenAt_24 ?_
        refine lv_istore_n (lv' := [(2, .int (nI ((orM (fun p => sWay n A b (n 6 - 1) (n 7 + 1 + 2 * p) (n 4)) k) ||| (sWay n A b (n 6 - 1) ((n 7) + 1 + 2 * k) (n 4))))), (0, .ref (q 0)), (1, .int (nI b)), (3, .int (nI k))]) hx hb dX4_hiddenAt_25 rfl hl (by decide) rfl (fun ls hl => ?_)
        refine lv_iinc (v := (nI (k + 1))) (lv' := [(3, .int (nI (k + 1))), (2, .int (nI ((orM (fun p => sWay n A b (n 6 - 1) (n 7 + 1 + 2 * p) (n 4)) k) ||| (sWay n A b (n 6 - 1) ((n 7) + 1 + 2 * k) (n 4))))), (0, .ref (q 0)), (1, .int (nI b))]) hx hb dX4_hiddenAt_26 hl (k := 3) rfl (nI_add _ _) (by decide) rfl (fun ls hl => ?_)
        refine lv_goto (tgt := 4) hx hb dX4_hiddenAt_29 (by decide) ?_
        exact ih (k + 1) (by omega) (by omega) _ _ hP hS _ (by rw [show orM (fun p => sWay n A b (n 6 - 1) (n 7 + 1 + 2 * p) (n 4)) (k + 1) = ((orM (fun p => sWay n A b (n 6 - 1) (n 7 + 1 + 2 * p) (n 4)) k) ||| (sWay n A b (n 6 - 1) ((n 7) + 1 + 2 * k) (n 4))) from by rw [orM]; try rw [hz]]; exact lv_sub hl [2, 3, 1, 0] rfl)
  exact L4 _ 0 (by omega) (Nat.lt_succ_self _) _ _ hP hS _ (lv_sub hl [2, 3, 1, 0] rfl)
theorem hdX4_hiddenAt : yX4_hiddenAt.cls = RX4 ∧ yX4_hiddenAt.cls ≠ "java/lang/invoke/MethodHandle" ∧ yX4_hiddenAt.cls ≠ "java/lang/invoke/VarHandle" ∧ (parseMethodDescriptor yX4_hiddenAt.desc).map (fun d => d.parameters.length) = some 1 := by decide +kernel
set_option maxRecDepth 20000 in
theorem ggX4_hidden_X4_noBench : GoodIn wsX4_hidden wsX4_noBench := goodIn_r _ [6, 7, 8, 9, 5, 10, 38, 39, 40, 41, 42, 43, 44, 45, 46, 47, 48, 49, 50, 51, 52, 53, 54, 55, 56, 57, 58, 59, 60, 61, 62, 63, 64, 65, 66, 67, 68] (by decide +kernel) (by decide +kernel)
set_option maxRecDepth 20000 in
theorem gX4_hidden_X4_noBench : GoodIn wsX4_hidden (wsV RX4 156 RX4 yX4_noBench wsX4_noBench) := goodIn_app (goodIn_of _ (by decide +kernel)) ggX4_hidden_X4_noBench
set_option maxRecDepth 20000 in
theorem ggX4_hidden_X4_hiddenAt : GoodIn wsX4_hidden wsX4_hiddenAt := goodIn_r _ [14, 1, 15, 16, 17, 18, 5, 19, 20, 21, 22, 23, 24, 25, 26, 27, 28, 29, 30, 31, 32, 33, 34, 35, 36, 37, 38, 39, 40, 41, 42, 43, 44, 45, 46, 47, 48, 49, 50, 51, 52, 53, 54, 55, 56, 57, 58, 59, 60, 61, 62, 63, 64, 65, 66, 67, 68] (by decide +kernel) (by decide +kernel)
set_option maxRecDepth 20000 in
theorem gX4_hidden_X4_hiddenAt : GoodIn wsX4_hidden (wsV RX4 182 RX4 yX4_hiddenAt wsX4_hiddenAt) := goodIn_app (goodIn_of _ (by decide +kernel)) ggX4_hidden_X4_hiddenAt
set_option maxHeartbeats 4000000 in
set_option maxRecDepth 100000 in
theorem kX4_hidden (l : Launch) (dC : Nat → ClassId) (dI : Nat → Nat → Nat) (cI cZ : ClassId) (q n : Nat → Nat) (mb : Int32) (f : Nat → Int32) (A : Nat → Nat → Nat) (Y : Nat → Nat → Int32) (hW : WF n A) (hR : RM n A Y) (hmb : 0 < n 6 → mb = nI (n 7)) (b : Int32) (sz : Nat) : Met l yX4_hidden wsX4_hidden ({ frames := 3, cells := 0, slots := 0, locals := 80 }) (roP [.ref (q 0), .int b] sz (dC, dI) [(cI, .int), (cZ, .boolean)] (wM cI cZ q n mb f Y)) (roQi (uHidden n A b) sz) 0 0 (va_A [] sz) := by
  refine ro_met_i (by decide) rfl (Nat.le_of_ble_eq_true rfl) ?_
  intro pp ee ss mm aa bb me cd RR QQ Z hx hb hml hown hts hRf hRl hP hK hA hS hend ls hl
  have hown : ss.vm.findClass RX4 = some mm.cls := hown
  have hRf : 3 ≤ RR.frames := hRf
  have hRl : 80 ≤ RR.locals := hRl
  have hl : lv_has ls 2 [(0, .ref (q 0)), (1, .int b)] := hl
  obtain ⟨w0, w1, w2, w3, w4, w5, w6, w7, w8, wA0, wA1, wA2⟩ := id hW
  have wC : n 0 * n 1 ≤ 42 := Nat.mul_le_mul w0 w1
  have hf47 := hts (.fieldLink RX4 47 "StatueSquareModel" "statueAt" "I") (List.mem_of_getElem? (i := 1) rfl)
  have hinX4 : ∀ w ∈ u_ws RX4 TX4 31, w ∈ wsX4_hidden := fun _ h => List.mem_cons_of_mem _ (List.mem_append_right _ h)
  refine lv_aload_n hx hb dX4_hidden_0 rfl (lv_at hl 0 rfl) ?_
  refine lv_iload_n hx hb dX4_hidden_1 rfl (lv_at hl 1 rfl) ?_
  refine roV_i (As := [.int b]) (rest := []) ⟨hx, hb, hml, hown, hts⟩ (kX4_noBench l dC dI cI cZ q n mb f A Y hW hR hmb b _ ) (cwV 1 hts gX4_hidden_X4_noBench rfl rfl rfl hdX4_noBench ⟨Nat.le_trans (Nat.le_of_ble_eq_true rfl) hRf, Nat.le_trans (Nat.le_of_ble_eq_true rfl) hRl⟩) (va_recv hK hP (ci := 4) (q0 := 0) rfl rfl) hK hP rfl hl.1 rfl (Nat.le_of_ble_eq_true rfl) dX4_hidden_2 ⟨Nat.zero_le _, Nat.zero_le _⟩ hP hS hA (fun H locs hP hS => ?_)
  refine x_ifb_eq (tgt := 10) hx hb dX4_hidden_5 (by decide) (fun c5 => ?_) (fun c5 => ?_)
  · skip
    have c5 : inB b (n 2) = true := by simpa using c5
    obtain ⟨j, hj, rfl⟩ := inB_t (by omega) c5
    have hxj : xn (nI j) = j := xn_nI (by omega)
    refine lv_aload_n hx hb dX4_hidden_10 rfl (lv_at hl 0 rfl) ?_
    refine x_get (D := (dC, dI)) (ci := 4) (v := .int (stI (n 6))) (C := RX4) (T := TX4) (N := 31) hx hb hts hinX4 hown hK hP 0 rfl rfl 24 (Nat.le_of_ble_eq_true rfl) hf47 rfl rfl dX4_hidden_11 ?_
    refine lv_if_ge (tgt := 22) hx hb dX4_hidden_14 (by decide) (fun c14 => ?_) (fun c14 => ?_)
    · skip
      have hst : 0 < n 6 := st_ge (by omega) c14
      refine lv_aload_n hx hb dX4_hidden_22 rfl (lv_at hl 0 rfl) ?_
      refine lv_iload_n hx hb dX4_hidden_23 rfl (lv_at hl 1 rfl) ?_
      refine roV_i (As := [.int (nI j)]) (rest := []) ⟨hx, hb, hml, hown, hts⟩ (kX4_hiddenAt l dC dI cI cZ q n mb f A Y hW hR hmb j _ (by omega) (by omega)) (cwV 1 hts gX4_hidden_X4_hiddenAt rfl rfl rfl hdX4_hiddenAt ⟨Nat.le_trans (Nat.le_of_ble_eq_true rfl) hRf, Nat.le_trans (Nat.le_of_ble_eq_true rfl) hRl⟩) (va_recv hK hP (ci := 4) (q0 := 0) rfl rfl) hK hP rfl hl.1 rfl (Nat.le_of_ble_eq_true rfl) dX4_hidden_24 ⟨Nat.zero_le _, Nat.zero_le _⟩ hP hS hA (fun H locs hP hS => ?_)
      exact hend _ _ _ _ _ (by simp [uHidden, inB02, c5, hxj, hst] <;> rfl) hS dX4_hidden_27
    · skip
      have hst : ¬ 0 < n 6 := st_lt (by omega) c14
      refine lv_bipush (v := -3) hx hb dX4_hidden_17 rfl ?_
      refine lv_goto (tgt := 27) hx hb dX4_hidden_19 (by decide) ?_
      exact hend _ _ _ _ _ (by simp [uHidden, inB02, c5, hst] <;> rfl) hS dX4_hidden_27
  · skip
    have c5 : inB b (n 2) = false := by simpa using c5
    refine lv_iconst (v := -1) hx hb dX4_hidden_8 rfl ?_
    exact hend _ _ _ _ _ (by simp [uHidden, inB02, c5] <;> rfl) hS dX4_hidden_9
theorem hdX4_bits : yX4_bits.cls ≠ "java/lang/invoke/MethodHandle" ∧ yX4_bits.cls ≠ "java/lang/invoke/VarHandle" ∧ (parseMethodDescriptor yX4_bits.desc).map (fun d => d.parameters.length) = some 1 := by decide +kernel
theorem hdX4_lost : yX4_lost.cls ≠ "java/lang/invoke/MethodHandle" ∧ yX4_lost.cls ≠ "java/lang/invoke/VarHandle" ∧ (parseMethodDescriptor yX4_lost.desc).map (fun d => d.parameters.length) = some 0 := by decide +kernel
set_option maxRecDepth 20000 in
theorem ggX4_sight_X4_in : GoodIn wsX4_sight wsX4_in := goodIn_r _ [7] (by decide +kernel) (by decide +kernel)
set_option maxRecDepth 20000 in
theorem gX4_sight_X4_in : GoodIn wsX4_sight (va_wsS RX4 82 yX4_in wsX4_in) := goodIn_app (goodIn_of _ (by decide +kernel)) ggX4_sight_X4_in
set_option maxRecDepth 20000 in
theorem ggX4_sight_X4_lost : GoodIn wsX4_sight wsX4_lost := goodIn_r _ [10, 11] (by decide +kernel) (by decide +kernel)
set_option maxRecDepth 20000 in
theorem gX4_sight_X4_lost : GoodIn wsX4_sight (va_wsS RX4 68 yX4_lost wsX4_lost) := goodIn_app (goodIn_of _ (by decide +kernel)) ggX4_sight_X4_lost
set_option maxRecDepth 20000 in
theorem ggX4_sight_X4_common : GoodIn wsX4_sight wsX4_common := goodIn_r _ [29] (by decide +kernel) (by decide +kernel)
set_option maxRecDepth 20000 in
theorem gX4_sight_X4_common : GoodIn wsX4_sight (va_wsS RX4 169 yX4_common wsX4_common) := goodIn_app (goodIn_of _ (by decide +kernel)) ggX4_sight_X4_common
set_option maxRecDepth 20000 in
theorem ggX4_sight_X4_seenAt : GoodIn wsX4_sight wsX4_seenAt := goodIn_r _ [15, 16, 17, 18, 6, 19, 20, 21, 22, 23, 24, 25, 26, 27, 28, 29, 30, 31, 32, 33, 34, 35, 36, 37, 41, 42, 43, 44, 45, 46, 47, 48, 49, 50, 51, 52, 53, 54, 55, 56, 57, 58, 59, 60, 61, 62, 63, 64, 65, 66, 67, 68, 69, 70, 71] (by decide +kernel) (by decide +kernel)
set_option maxRecDepth 20000 in
theorem gX4_sight_X4_seenAt : GoodIn wsX4_sight (wsV RX4 175 RX4 yX4_seenAt wsX4_seenAt) := goodIn_app (goodIn_of _ (by decide +kernel)) ggX4_sight_X4_seenAt
set_option maxRecDepth 20000 in
theorem ggX4_sight_X4_bits : GoodIn wsX4_sight wsX4_bits := goodIn_r _ [40] (by decide +kernel) (by decide +kernel)
set_option maxRecDepth 20000 in
theorem gX4_sight_X4_bits : GoodIn wsX4_sight (va_wsS RX4 185 yX4_bits wsX4_bits) := goodIn_app (goodIn_of _ (by decide +kernel)) ggX4_sight_X4_bits
set_option maxHeartbeats 4000000 in
set_option maxRecDepth 100000 in
theorem kX4_sight (l : Launch) (dC : Nat → ClassId) (dI : Nat → Nat → Nat) (cI cZ : ClassId) (q n : Nat → Nat) (mb : Int32) (f : Nat → Int32) (A : Nat → Nat → Nat) (Y : Nat → Nat → Int32) (hW : WF n A) (hR : RM n A Y) (hmb : 0 < n 6 → mb = nI (n 7)) (w : Int32) (sz : Nat) : Met l yX4_sight wsX4_sight ({ frames := 3, cells := 0, slots := 0, locals := 82 }) (roP [.ref (q 0), .int w] sz (dC, dI) [(cI, .int), (cZ, .boolean)] (wM cI cZ q n mb f Y)) (roQl (uSight n A w) sz) 0 0 (va_A [] sz) := by
  refine ro_met_l (by decide) rfl (Nat.le_of_ble_eq_true rfl) ?_
  intro pp ee ss mm aa bb me cd RR QQ Z hx hb hml hown hts hRf hRl hP hK hA hS hend ls hl
  have hown : ss.vm.findClass RX4 = some mm.cls := hown
  have hRf : 3 ≤ RR.frames := hRf
  have hRl : 82 ≤ RR.locals := hRl
  have hl : lv_has ls 4 [(0, .ref (q 0)), (1, .int w)] := hl
  obtain ⟨w0, w1, w2, w3, w4, w5, w6, w7, w8, wA0, wA1, wA2⟩ := id hW
  have wC : n 0 * n 1 ≤ 42 := Nat.mul_le_mul w0 w1
  have hal := sAll_le (A := A) w2
  have hf47 := hts (.fieldLink RX4 47 "StatueSquareModel" "statueAt" "I") (List.mem_of_getElem? (i := 1) rfl)
  have hinX4 : ∀ w ∈ u_ws RX4 TX4 31, w ∈ wsX4_sight := fun _ h => List.mem_cons_of_mem _ (List.mem_append_right _ h)
  have hf89 := hts (.fieldLink RX4 89 "StatueSquareModel" "benches" "I") (List.mem_of_getElem? (i := 2) rfl)
  have hf163 := hts (.fieldLink RX4 163 "StatueSquareModel" "blockNow" "I") (List.mem_of_getElem? (i := 3) rfl)
  refine lv_iload_n hx hb dX4_sight_0 rfl (lv_at hl 1 rfl) ?_
  refine lv_i2l hx hb dX4_sight_1 rfl ?_
  refine lv_lconst (v := 0) hx hb dX4_sight_2 rfl ?_
  refine lv_lconst (v := 1) hx hb dX4_sight_3 rfl ?_
  refine roS_i (As := [.long w.toInt64, .long 0, .long 1]) (rest := []) ⟨hx, hb, hml, hown, hts⟩ (kX4_in l dC dI w.toInt64 0 1 _ ) (va_cwS 3 hts gX4_sight_X4_in rfl rfl rfl hdX4_in ⟨Nat.le_trans (Nat.le_of_ble_eq_true rfl) hRf, Nat.le_trans (Nat.le_of_ble_eq_true rfl) hRl⟩) (hK.sub [] rfl) (hP.sub [] rfl) rfl hl.1 rfl (Nat.le_of_ble_eq_true rfl) dX4_sight_4 ⟨Nat.zero_le _, Nat.zero_le _⟩ hP hS hA (fun H locs hP hS => ?_)
  refine x_top (y := bI (inB w 2)) (congrArg bI (inL_c (by omega) rfl)) ?_
  refine x_ifb_eq (tgt := 17) hx hb dX4_sight_7 (by decide) (fun c7 => ?_) (fun c7 => ?_)
  · skip
    refine roS_l (As := []) (rest := []) ⟨hx, hb, hml, hown, hts⟩ (kX4_lost l dC dI  _ ) (va_cwS 0 hts gX4_sight_X4_lost rfl rfl rfl hdX4_lost ⟨Nat.le_trans (Nat.le_of_ble_eq_true rfl) hRf, Nat.le_trans (Nat.le_of_ble_eq_true rfl) hRl⟩) (hK.sub [] rfl) (hP.sub [] rfl) rfl hl.1 rfl (Nat.le_of_ble_eq_true rfl) dX4_sight_17 ⟨Nat.zero_le _, Nat.zero_le _⟩ hP hS hA (fun H locs hP hS => ?_)
    exact hend _ _ _ _ _ (by first | (simp [uSight, c7, hst]; done) | (simp [uSight, c7]; done)) hS dX4_sight_20
  · skip
    refine lv_aload_n hx hb dX4_sight_10 rfl (lv_at hl 0 rfl) ?_
    refine x_get (D := (dC, dI)) (ci := 4) (v := .int (stI (n 6))) (C := RX4) (T := TX4) (N := 31) hx hb hts hinX4 hown hK hP 0 rfl rfl 24 (Nat.le_of_ble_eq_true rfl) hf47 rfl rfl dX4_sight_11 ?_
    refine lv_if_ge (tgt := 21) hx hb dX4_sight_14 (by decide) (fun c14 => ?_) (fun c14 => ?_)
    · skip
      have hst : 0 < n 6 := st_ge (by omega) c14
      refine lv_aload_n hx hb dX4_sight_21 rfl (lv_at hl 0 rfl) ?_
      refine x_get (D := (dC, dI)) (ci := 4) (v := .int (nI (n 2))) (C := RX4) (T := TX4) (N := 31) hx hb hts hinX4 hown hK hP 0 rfl rfl 4 (Nat.le_of_ble_eq_true rfl) hf89 rfl rfl dX4_sight_22 ?_
      refine x_if_ne (tgt := 31) hx hb (by omega) dX4_sight_25 (by decide) (fun c25 => ?_) (fun c25 => ?_)
      · skip
        have hlw : sLow n = 4 * n 2 := by unfold sLow; omega
        refine lv_iconst (v := nI 0) hx hb dX4_sight_31 rfl ?_
        refine lv_istore_n (lv' := [(2, .int (nI 0)), (0, .ref (q 0)), (1, .int w)]) hx hb dX4_sight_32 rfl hl (by decide) rfl (fun ls hl => ?_)
        refine lv_iconst (v := nI 0) hx hb dX4_sight_33 rfl ?_
        refine lv_istore_n (lv' := [(3, .int (nI 0)), (2, .int (nI 0)), (0, .ref (q 0)), (1, .int w)]) hx hb dX4_sight_34 rfl hl (by decide) rfl (fun ls hl => ?_)
        have L35 : ∀ (fuel : Nat) (k : Nat) (hk : k ≤ n 2) (hfu : n 2 - k < fuel) (H : Heap) (locs : List Loc), va_P (dC, dI) vwCl (wM cI cZ q n mb f Y) H → va_S Z ss.heap H locs → ∀ (ls : Array Slot), lv_has ls 4 [(0, .ref (q 0)), (1, .int w), (2, .int (nI (sumN (fun b => pop4 (sSeen n A b (n 6 - 1))) k))), (3, .int (nI k))] → W pp l ee RR ss mm aa bb me cd H locs 0 0 QQ (F0 mm 35 ls []) := by
          intro fuel
          induction fuel with
          | zero => intro k hk hfu; exact absurd hfu (Nat.not_lt_zero _)
          | succ fuel ih =>
            intro k hk hfu H locs hP hS ls hl
            refine lv_iload_n hx hb dX4_sight_35 rfl (lv_at hl 3 rfl) ?_
            refine lv_aload_n hx hb dX4_sight_36 rfl (lv_at hl 0 rfl) ?_
            refine x_get (D := (dC, dI)) (ci := 4) (v := .int (nI (n 2))) (C := RX4) (T := TX4) (N := 31) hx hb hts hinX4 hown hK hP 0 rfl rfl 4 (Nat.le_of_ble_eq_true rfl) hf89 rfl rfl dX4_sight_37 ?_
            refine x_icmp_ge (tgt := 68) hx hb (by omega) (by omega) dX4_sight_40 (by decide) (fun c40 => ?_) (fun c40 => ?_)
            · skip
              have hsA : sumN (fun b => pop4 (sSeen n A b (n 6 - 1))) k = sAll n A := by rw [show k = n 2 from by omega]; rfl
              rw [hsA] at hl
              refine lv_iload_n hx hb dX4_sight_68 rfl (lv_at hl 2 rfl) ?_
              refine lv_iconst (v := nI 4) hx hb dX4_sight_69 rfl ?_
              refine lv_aload_n hx hb dX4_sight_70 rfl (lv_at hl 0 rfl) ?_
              refine x_get (D := (dC, dI)) (ci := 4) (v := .int (nI (n 2))) (C := RX4) (T := TX4) (N := 31) hx hb hts hinX4 hown hK hP 0 rfl rfl 4 (Nat.le_of_ble_eq_true rfl) hf89 rfl rfl dX4_sight_71 ?_
              refine x_imul hx hb dX4_sight_74 ?_
              refine roS_i (As := [.int (nI (sAll n A)), .int (nI (4 * (n 2)))]) (rest := []) ⟨hx, hb, hml, hown, hts⟩ (kX4_common l dC dI (sAll n A) (4 * (n 2)) _ (by omega) (by omega)) (va_cwS 2 hts gX4_sight_X4_common rfl rfl rfl hdX4_common ⟨Nat.le_trans (Nat.le_of_ble_eq_true rfl) hRf, Nat.le_trans (Nat.le_of_ble_eq_true rfl) hRl⟩) (hK.sub [] rfl) (hP.sub [] rfl) rfl hl.1 rfl (Nat.le_of_ble_eq_true rfl) dX4_sight_75 ⟨Nat.zero_le _, Nat.zero_le _⟩ hP hS hA (fun H locs hP hS => ?_)
              refine lv_istore_n (lv' := [(3, .int (nI (Nat.gcd (sAll n A) (4 * (n 2))))), (0, .ref (q 0)), (1, .int w), (2, .int (nI (sAll n A)))]) hx hb dX4_sight_78 rfl hl (by decide) rfl (fun ls hl => ?_)
              refine lv_iload_n hx hb dX4_sight_79 rfl (lv_at hl 2 rfl) ?_
              refine lv_if_ne (tgt := 87) hx hb dX4_sight_80 (by decide) (fun c80 => ?_) (fun c80 => ?_)
              · skip
                refine lv_iconst (v := nI 4) hx hb dX4_sight_87 rfl ?_
                refine lv_aload_n hx hb dX4_sight_88 rfl (lv_at hl 1 rfl) ?_
                refine x_get (D := (dC, dI)) (ci := 4) (v := .int (nI (n 2))) (C := RX4) (T := TX4) (N := 31) hx hb hts hinX4 hown hK hP 0 rfl rfl 4 (Nat.le_of_ble_eq_true rfl) hf89 rfl rfl dX4_sight_89 ?_
                refine x_imul hx hb dX4_sight_92 ?_
                refine x_top (y := nI (if w = 0 then sAll n A else sLow n)) (by simp [c80, hlw]) ?_
                refine lv_iload_n hx hb dX4_sight_93 rfl (lv_at hl 0 rfl) ?_
                refine x_idiv hx hb (by split <;> omega) (Nat.gcd_pos_of_pos_right _ (by omega)) (Nat.lt_of_le_of_lt (Nat.gcd_le_right _ (by omega)) (by omega)) dX4_sight_94 ?_
                refine lv_i2l hx hb dX4_sight_95 rfl ?_
                exact hend _ _ _ _ _ (by simp [uSight, c7, hst, hlw]) hS dX4_sight_96
              · skip
                refine lv_iload_n hx hb dX4_sight_83 rfl (lv_at hl 3 rfl) ?_
                refine lv_goto (tgt := 93) hx hb dX4_sight_84 (by decide) ?_
                refine x_top (y := nI (if w = 0 then sAll n A else sLow n)) (by simp [c80, hlw]) ?_
                refine lv_iload_n hx hb dX4_sight_93 rfl (lv_at hl 0 rfl) ?_
                refine x_idiv hx hb (by split <;> omega) (Nat.gcd_pos_of_pos_right _ (by omega)) (Nat.lt_of_le_of_lt (Nat.gcd_le_right _ (by omega)) (by omega)) dX4_sight_94 ?_
                refine lv_i2l hx hb dX4_sight_95 rfl ?_
                exact hend _ _ _ _ _ (by simp [uSight, c7, hst, hlw]) hS dX4_sight_96
            · skip
              refine lv_iload_n hx hb dX4_sight_43 rfl (lv_at hl 2 rfl) ?_
              refine lv_aload_n hx hb dX4_sight_44 rfl (lv_at hl 0 rfl) ?_
              refine lv_iload_n hx hb dX4_sight_45 rfl (lv_at hl 3 rfl) ?_
              refine lv_aload_n hx hb dX4_sight_46 rfl (lv_at hl 0 rfl) ?_
              refine x_get (D := (dC, dI)) (ci := 4) (v := .int (stI (n 6))) (C := RX4) (T := TX4) (N := 31) hx hb hts hinX4 hown hK hP 0 rfl rfl 24 (Nat.le_of_ble_eq_true rfl) hf47 rfl rfl dX4_sight_47 ?_
              refine x_top (stI_pos hst) ?_
              refine lv_aload_n hx hb dX4_sight_50 rfl (lv_at hl 0 rfl) ?_
              refine x_get (D := (dC, dI)) (ci := 4) (v := .int mb) (C := RX4) (T := TX4) (N := 31) hx hb hts hinX4 hown hK hP 0 rfl rfl 25 (Nat.le_of_ble_eq_true rfl) hf163 rfl rfl dX4_sight_51 ?_
              refine x_top (hmb hst) ?_
              refine roV_i (As := [.int (nI k), .int (nI (n 6 - 1)), .int (nI (n 7))]) (rest := [.int (nI (sumN (fun b => pop4 (sSeen n A b (n 6 - 1))) k))]) ⟨hx, hb, hml, hown, hts⟩ (kX4_seenAt l dC dI cI cZ q n mb f A Y hW hR hmb k (n 6 - 1) (n 7) _ (by omega) (by omega) (by omega)) (cwV 3 hts gX4_sight_X4_seenAt rfl rfl rfl hdX4_seenAt ⟨Nat.le_trans (Nat.le_of_ble_eq_true rfl) hRf, Nat.le_trans (Nat.le_of_ble_eq_true rfl) hRl⟩) (va_recv hK hP (ci := 4) (q0 := 0) rfl rfl) hK hP rfl hl.1 rfl (Nat.le_of_ble_eq_true rfl) dX4_sight_54 ⟨Nat.zero_le _, Nat.zero_le _⟩ hP hS hA (fun H locs hP hS => ?_)
              refine roS_i (As := [.int (nI (sSeenB n A k (n 6 - 1) (n 7)))]) (rest := [.int (nI (sumN (fun b => pop4 (sSeen n A b (n 6 - 1))) k))]) ⟨hx, hb, hml, hown, hts⟩ (kX4_bits l dC dI (sSeenB n A k (n 6 - 1) (n 7)) _ (Nat.lt_trans (sSeenB_lt _ _ _ _ _) (by decide))) (va_cwS 1 hts gX4_sight_X4_bits rfl rfl rfl hdX4_bits ⟨Nat.le_trans (Nat.le_of_ble_eq_true rfl) hRf, Nat.le_trans (Nat.le_of_ble_eq_true rfl) hRl⟩) (hK.sub [] rfl) (hP.sub [] rfl) rfl hl.1 rfl (Nat.le_of_ble_eq_true rfl) dX4_sight_57 ⟨Nat.zero_le _, Nat.zero_le _⟩ hP hS hA (fun H locs hP hS => ?_)
              refine x_top (y := nI (pop4 (sSeen n A k (n 6 - 1)))) (congrArg nI (by rw [sSeenB_eq]; exact popN_16 (sSeen_lt _ _ _ _))) ?_
              refine x_iadd hx hb dX4_sight_60 ?_
              refine lv_istore_n (lv' := [(2, .int (nI ((sumN (fun b => pop4 (sSeen n A b (n 6 - 1))) k) + (pop4 (sSeen n A k (n 6 - 1)))))), (0, .ref (q 0)), (1, .int w), (3, .int (nI k))]) hx hb dX4_sight_61 rfl hl (by decide) rfl (fun ls hl => ?_)
              refine lv_iinc (v := (nI (k + 1))) (lv' := [(3, .int (nI (k + 1))), (2, .int (nI ((sumN (fun b => pop4 (sSeen n A b (n 6 - 1))) k) + (pop4 (sSeen n A k (n 6 - 1)))))), (0, .ref (q 0)), (1, .int w)]) hx hb dX4_sight_62 hl (k := 3) rfl (nI_add _ _) (by decide) rfl (fun ls hl => ?_)
              refine lv_goto (tgt := 35) hx hb dX4_sight_65 (by decide) ?_
              exact ih (k + 1) (by omega) (by omega) _ _ hP hS _ (lv_sub hl [2, 3, 1, 0] rfl)
        exact L35 _ 0 (by omega) (Nat.lt_succ_self _) _ _ hP hS _ (lv_sub hl [2, 3, 1, 0] rfl)
      · skip
        refine lv_iload_n hx hb dX4_sight_28 rfl (lv_at hl 1 rfl) ?_
        refine lv_i2l hx hb dX4_sight_29 rfl ?_
        exact hend _ _ _ _ _ (sight_0 c7 hst c25) hS dX4_sight_30
    · skip
      have hst : ¬ 0 < n 6 := st_lt (by omega) c14
      refine roS_l (As := []) (rest := []) ⟨hx, hb, hml, hown, hts⟩ (kX4_lost l dC dI  _ ) (va_cwS 0 hts gX4_sight_X4_lost rfl rfl rfl hdX4_lost ⟨Nat.le_trans (Nat.le_of_ble_eq_true rfl) hRf, Nat.le_trans (Nat.le_of_ble_eq_true rfl) hRl⟩) (hK.sub [] rfl) (hP.sub [] rfl) rfl hl.1 rfl (Nat.le_of_ble_eq_true rfl) dX4_sight_17 ⟨Nat.zero_le _, Nat.zero_le _⟩ hP hS hA (fun H locs hP hS => ?_)
      exact hend _ _ _ _ _ (by first | (simp [uSight, c7, hst]; done) | (simp [uSight, c7]; done)) hS dX4_sight_20
