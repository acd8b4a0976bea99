theorem hdX3_sheet : yX3_sheet.cls = RX3 ∧ yX3_sheet.cls ≠ "java/lang/invoke/MethodHandle" ∧ yX3_sheet.cls ≠ "java/lang/invoke/VarHandle" ∧ (parseMethodDescriptor yX3_sheet.desc).map (fun d => d.parameters.length) = some 3 := by decide +kernel
theorem hdX4_sheet : yX4_sheet.cls = RX4 ∧ yX4_sheet.cls ≠ "java/lang/invoke/MethodHandle" ∧ yX4_sheet.cls ≠ "java/lang/invoke/VarHandle" ∧ (parseMethodDescriptor yX4_sheet.desc).map (fun d => d.parameters.length) = some 3 := by decide +kernel
set_option maxHeartbeats 4000000 in
set_option maxRecDepth 100000 in
theorem lc_sheet {pp : Program} {l : Launch} {ee : Env} {RR : Room} {ss : State} {mm : MethodId} {bb : List Frame} {me : Method} {cd : Code} {QQ : State → Prop} {dC : Nat → ClassId} {dI : Nat → Nat → Nat} {cS cI cZ : ClassId} {a r0 : Nat} {qs qr t q qm : Nat → Nat} {tH b L i : Nat} {xs : Nat → Int32} {Z : Nat → Prop} {cells slots : Nat} {H : Heap} {locs : List Loc} {ls : Array Slot} (E : lw_E pp ss mm cd RR dC dI cS cI cZ tH b L xs Z cells slots) (hi : i + 6 ≤ L) (hJ : LJ dC dI cS cI cZ a r0 qs qr t q qm Z H) (hS : va_S Z ss.heap H locs) (hl : lv_has ls 4 [(3, .int (nI i)), (2, .ref (qm 0)), (1, .ref a), (0, .ref b)]) (kk : ∀ (H : Heap) (locs : List Loc), LJ dC dI cS cI cZ a r0 qs qr t q qm Z H → va_S Z ss.heap H locs → W pp l ee RR ss mm #[Value.ref b] bb me cd H locs cells slots QQ (F0 mm 1070 ls [])) : W pp l ee RR ss mm #[Value.ref b] bb me cd H locs cells slots QQ (F0 mm 726 ls []) := by
  obtain ⟨hx, hb, hml, hown, hts, hRf, hRl, hcc, hcs, hK, hA, hZT, hX, hbl, hbA, hL⟩ := E
  obtain ⟨hs, la, le, C, x, n, A, X, mb, f, Y, tr, fl, hI, hP, hD⟩ := hJ
  refine lv_aload_n hx hb dL_law_726 rfl (lv_at hl 2 rfl) ?_
  refine lv_aload_n hx hb dL_law_727 rfl (lv_at hl 3 rfl) ?_
  refine lv_iload_n hx hb dL_law_728 rfl (lv_at hl 0 rfl) ?_
  refine lv_iconst (v := nI 1) hx hb dL_law_729 rfl ?_
  refine x_iadd hx hb dL_law_730 ?_
  refine x_sld hx hb hX hbl hbA hS (by omega) (by omega) dL_law_731 ?_
  refine lv_aload_n hx hb dL_law_732 rfl (lv_at hl 3 rfl) ?_
  refine lv_iload_n hx hb dL_law_733 rfl (lv_at hl 0 rfl) ?_
  refine lv_iconst (v := nI 2) hx hb dL_law_734 rfl ?_
  refine x_iadd hx hb dL_law_735 ?_
  refine x_sld hx hb hX hbl hbA hS (by omega) (by omega) dL_law_736 ?_
  refine lv_aload_n hx hb dL_law_737 rfl (lv_at hl 3 rfl) ?_
  refine lv_iload_n hx hb dL_law_738 rfl (lv_at hl 0 rfl) ?_
  refine lv_iconst (v := nI 3) hx hb dL_law_739 rfl ?_
  refine x_iadd hx hb dL_law_740 ?_
  refine x_sld hx hb hX hbl hbA hS (by omega) (by omega) dL_law_741 ?_
  refine rwW_i (As := [.int (xs (i + 1)), .int (xs (i + 2)), .int (xs (i + 3))]) (rest := []) (wn := lwW cS cI cZ a r0 qs qr t q qm (if okSheet (xs (i + 1)) (xs (i + 2)) (xs (i + 3)) = true then uB hs (xn (xs (i + 1))) true else hs) (if okSheet (xs (i + 1)) (xs (i + 2)) (xs (i + 3)) = true then uN la (xn (xs (i + 1))) (xn (xs (i + 2))) else la) (if okSheet (xs (i + 1)) (xs (i + 2)) (xs (i + 3)) = true then uN le (xn (xs (i + 1))) (xn (xs (i + 3))) else le) (if okSheet (xs (i + 1)) (xs (i + 2)) (xs (i + 3)) = true then uC C (xn (xs (i + 1))) (fillz (C (xn (xs (i + 1)))) (xn (xs (i + 3)))) else C) x n X n mb f Y tr (fSheet (xs (i + 1)) (xs (i + 2)) (xs (i + 3)))) ⟨hx, hb, hml, hown, hts⟩ (kX3_sheet l dC dI a (t 0) (q 0) tr fl cS cI r0 qs qr hs la le C hI.2.2.2.1.hB (xs (i + 1)) (xs (i + 2)) (xs (i + 3)) _) (cwV 3 hts gL_law_X3_sheet rfl rfl rfl hdX3_sheet ⟨Nat.le_trans (Nat.le_of_ble_eq_true rfl) hRf, Nat.le_trans (Nat.le_of_ble_eq_true rfl) hRl⟩) (va_recv hK hP (ci := 3) (q0 := 0) rfl rfl) (hK.sub [0, 1] rfl) rfl hl.1 rfl (Nat.le_of_ble_eq_true rfl) dL_law_742 ⟨hcc, hcs⟩ hP hD hS hA [0, 1, 2, 3, 4, 5, 6, 7, 8, 9] [10, 11, 12, 13, 14, 15, 16, 17, 18, 19, 20, 21, 22, 23, 24, 25, 26, 27, 28, 29, 30, 31, 32, 33, 34, 35, 36, 37, 38, 39] [30, 31, 32, 33, 34, 35, 36, 37, 38, 39, 0, 1, 2, 3, 4, 5, 6, 7, 8, 9, 10, 11, 12, 13, 14, 15, 16, 17, 18, 19, 20, 21, 22, 23, 24, 25, 26, 27, 28, 29] rfl rfl (by decide) (by decide) (by decide) rfl rfl (fun H locs hP hS => ?_)
  have hD : va_D Z (lwW cS cI cZ a r0 qs qr t q qm (if okSheet (xs (i + 1)) (xs (i + 2)) (xs (i + 3)) = true then uB hs (xn (xs (i + 1))) true else hs) (if okSheet (xs (i + 1)) (xs (i + 2)) (xs (i + 3)) = true then uN la (xn (xs (i + 1))) (xn (xs (i + 2))) else la) (if okSheet (xs (i + 1)) (xs (i + 2)) (xs (i + 3)) = true then uN le (xn (xs (i + 1))) (xn (xs (i + 3))) else le) (if okSheet (xs (i + 1)) (xs (i + 2)) (xs (i + 3)) = true then uC C (xn (xs (i + 1))) (fillz (C (xn (xs (i + 1)))) (xn (xs (i + 3)))) else C) x n X n mb f Y tr (fSheet (xs (i + 1)) (xs (i + 2)) (xs (i + 3)))) := hD.same rfl
  refine lv_aload_n hx hb dL_law_745 rfl (lv_at hl 1 rfl) ?_
  refine lv_aload_n hx hb dL_law_746 rfl (lv_at hl 3 rfl) ?_
  refine lv_iload_n hx hb dL_law_747 rfl (lv_at hl 0 rfl) ?_
  refine lv_iconst (v := nI 1) hx hb dL_law_748 rfl ?_
  refine x_iadd hx hb dL_law_749 ?_
  refine x_sld hx hb hX hbl hbA hS (by omega) (by omega) dL_law_750 ?_
  refine lv_aload_n hx hb dL_law_751 rfl (lv_at hl 3 rfl) ?_
  refine lv_iload_n hx hb dL_law_752 rfl (lv_at hl 0 rfl) ?_
  refine lv_iconst (v := nI 2) hx hb dL_law_753 rfl ?_
  refine x_iadd hx hb dL_law_754 ?_
  refine x_sld hx hb hX hbl hbA hS (by omega) (by omega) dL_law_755 ?_
  refine lv_aload_n hx hb dL_law_756 rfl (lv_at hl 3 rfl) ?_
  refine lv_iload_n hx hb dL_law_757 rfl (lv_at hl 0 rfl) ?_
  refine lv_iconst (v := nI 3) hx hb dL_law_758 rfl ?_
  refine x_iadd hx hb dL_law_759 ?_
  refine x_sld hx hb hX hbl hbA hS (by omega) (by omega) dL_law_760 ?_
  refine rwW_i (As := [.int (xs (i + 1)), .int (xs (i + 2)), .int (xs (i + 3))]) (rest := [.int (uSheet (xs (i + 1)) (xs (i + 2)) (xs (i + 3)))]) (wn := lwW cS cI cZ a r0 qs qr t q qm (if okSheet (xs (i + 1)) (xs (i + 2)) (xs (i + 3)) = true then uB hs (xn (xs (i + 1))) true else hs) (if okSheet (xs (i + 1)) (xs (i + 2)) (xs (i + 3)) = true then uN la (xn (xs (i + 1))) (xn (xs (i + 2))) else la) (if okSheet (xs (i + 1)) (xs (i + 2)) (xs (i + 3)) = true then uN le (xn (xs (i + 1))) (xn (xs (i + 3))) else le) (if okSheet (xs (i + 1)) (xs (i + 2)) (xs (i + 3)) = true then uC C (xn (xs (i + 1))) (fillz (C (xn (xs (i + 1)))) (xn (xs (i + 3)))) else C) x n X n mb (uF f 0 (fSheet (xs (i + 1)) (xs (i + 2)) (xs (i + 3)))) (if okSheet (xs (i + 1)) (xs (i + 2)) (xs (i + 3)) = true then uY (uX (uX Y 12 (xn (xs (i + 1))) (nI (xn (xs (i + 3))))) 13 (xn (xs (i + 1))) (nI (xn (xs (i + 2))))) 14 (zf (Y 14) (100 * xn (xs (i + 1))) (xn (xs (i + 3)))) else Y) tr (fSheet (xs (i + 1)) (xs (i + 2)) (xs (i + 3)))) ⟨hx, hb, hml, hown, hts⟩ (kX4_sheet l dC dI cI cZ qm n mb f Y hs la le C hI.2.2.2.1 (xs (i + 1)) (xs (i + 2)) (xs (i + 3)) _) (cwV 3 hts gL_law_X4_sheet rfl rfl rfl hdX4_sheet ⟨Nat.le_trans (Nat.le_of_ble_eq_true rfl) hRf, Nat.le_trans (Nat.le_of_ble_eq_true rfl) hRl⟩) (va_recv hK hP (ci := 4) (q0 := 23) rfl rfl) (hK.sub [0, 2] rfl) rfl hl.1 rfl (Nat.le_of_ble_eq_true rfl) dL_law_761 ⟨hcc, hcs⟩ hP hD hS hA [23, 24, 25, 26, 27, 28, 29, 30, 31, 32, 33, 34, 35, 36, 37, 38, 39] [0, 1, 2, 3, 4, 5, 6, 7, 8, 9, 10, 11, 12, 13, 14, 15, 16, 17, 18, 19, 20, 21, 22] [0, 1, 2, 3, 4, 5, 6, 7, 8, 9, 10, 11, 12, 13, 14, 15, 16, 17, 18, 19, 20, 21, 22, 23, 24, 25, 26, 27, 28, 29, 30, 31, 32, 33, 34, 35, 36, 37, 38, 39] rfl rfl (by decide) (by decide) (by decide) rfl rfl (fun H locs hP hS => ?_)
  have hD : va_D Z (lwW cS cI cZ a r0 qs qr t q qm (if okSheet (xs (i + 1)) (xs (i + 2)) (xs (i + 3)) = true then uB hs (xn (xs (i + 1))) true else hs) (if okSheet (xs (i + 1)) (xs (i + 2)) (xs (i + 3)) = true then uN la (xn (xs (i + 1))) (xn (xs (i + 2))) else la) (if okSheet (xs (i + 1)) (xs (i + 2)) (xs (i + 3)) = true then uN le (xn (xs (i + 1))) (xn (xs (i + 3))) else le) (if okSheet (xs (i + 1)) (xs (i + 2)) (xs (i + 3)) = true then uC C (xn (xs (i + 1))) (fillz (C (xn (xs (i + 1)))) (xn (xs (i + 3)))) else C) x n X n mb (uF f 0 (fSheet (xs (i + 1)) (xs (i + 2)) (xs (i + 3)))) (if okSheet (xs (i + 1)) (xs (i + 2)) (xs (i + 3)) = true then uY (uX (uX Y 12 (xn (xs (i + 1))) (nI (xn (xs (i + 3))))) 13 (xn (xs (i + 1))) (nI (xn (xs (i + 2))))) 14 (zf (Y 14) (100 * xn (xs (i + 1))) (xn (xs (i + 3)))) else Y) tr (fSheet (xs (i + 1)) (xs (i + 2)) (xs (i + 3)))) := hD.same rfl
  refine lv_icmp_eq (tgt := 1070) hx hb dL_law_764 (by decide) (fun _ => ?_) (fun h => absurd rfl h)
  have hD : va_D Z (lwW cS cI cZ a r0 qs qr t q qm (if okSheet (xs (i + 1)) (xs (i + 2)) (xs (i + 3)) = true then uB hs (xn (xs (i + 1))) true else hs) (if okSheet (xs (i + 1)) (xs (i + 2)) (xs (i + 3)) = true then uN la (xn (xs (i + 1))) (xn (xs (i + 2))) else la) (if okSheet (xs (i + 1)) (xs (i + 2)) (xs (i + 3)) = true then uN le (xn (xs (i + 1))) (xn (xs (i + 3))) else le) (if okSheet (xs (i + 1)) (xs (i + 2)) (xs (i + 3)) = true then uC C (xn (xs (i + 1))) (fillz (C (xn (xs (i + 1)))) (xn (xs (i + 3)))) else C) x n X n mb (uF f 0 (fSheet (xs (i + 1)) (xs (i + 2)) (xs (i + 3)))) (if okSheet (xs (i + 1)) (xs (i + 2)) (xs (i + 3)) = true then uY (uX (uX Y 12 (xn (xs (i + 1))) (nI (xn (xs (i + 3))))) 13 (xn (xs (i + 1))) (nI (xn (xs (i + 2))))) 14 (zf (Y 14) (100 * xn (xs (i + 1))) (xn (xs (i + 3)))) else Y) tr (fSheet (xs (i + 1)) (xs (i + 2)) (xs (i + 3)))) := hD.same rfl
  exact kk _ _ ⟨_, _, _, _, _, _, _, _, _, _, _, _, _, (LI_sheet hI (xs (i + 1)) (xs (i + 2)) (xs (i + 3))), hP, hD⟩ hS
theorem hdX3_lose : yX3_lose.cls = RX3 ∧ yX3_lose.cls ≠ "java/lang/invoke/MethodHandle" ∧ yX3_lose.cls ≠ "java/lang/invoke/VarHandle" ∧ (parseMethodDescriptor yX3_lose.desc).map (fun d => d.parameters.length) = some 1 := by decide +kernel
theorem hdX4_lose : yX4_lose.cls = RX4 ∧ yX4_lose.cls ≠ "java/lang/invoke/MethodHandle" ∧ yX4_lose.cls ≠ "java/lang/invoke/VarHandle" ∧ (parseMethodDescriptor yX4_lose.desc).map (fun d => d.parameters.length) = some 1 := by decide +kernel
set_option maxHeartbeats 4000000 in
set_option maxRecDepth 100000 in
theorem lc_lose {pp : Program} {l : Launch} {ee : Env} {RR : Room} {ss : State} {mm : MethodId} {bb : List Frame} {me : Method} {cd : Code} {QQ : State → Prop} {dC : Nat → ClassId} {dI : Nat → Nat → Nat} {cS cI cZ : ClassId} {a r0 : Nat} {qs qr t q qm : Nat → Nat} {tH b L i : Nat} {xs : Nat → Int32} {Z : Nat → Prop} {cells slots : Nat} {H : Heap} {locs : List Loc} {ls : Array Slot} (E : lw_E pp ss mm cd RR dC dI cS cI cZ tH b L xs Z cells slots) (hi : i + 6 ≤ L) (hJ : LJ dC dI cS cI cZ a r0 qs qr t q qm Z H) (hS : va_S Z ss.heap H locs) (hl : lv_has ls 4 [(3, .int (nI i)), (2, .ref (qm 0)), (1, .ref a), (0, .ref b)]) (kk : ∀ (H : Heap) (locs : List Loc), LJ dC dI cS cI cZ a r0 qs qr t q qm Z H → va_S Z ss.heap H locs → W pp l ee RR ss mm #[Value.ref b] bb me cd H locs cells slots QQ (F0 mm 1070 ls [])) : W pp l ee RR ss mm #[Value.ref b] bb me cd H locs cells slots QQ (F0 mm 769 ls []) := by
  obtain ⟨hx, hb, hml, hown, hts, hRf, hRl, hcc, hcs, hK, hA, hZT, hX, hbl, hbA, hL⟩ := E
  obtain ⟨hs, la, le, C, x, n, A, X, mb, f, Y, tr, fl, hI, hP, hD⟩ := hJ
  refine lv_aload_n hx hb dL_law_769 rfl (lv_at hl 2 rfl) ?_
  refine lv_aload_n hx hb dL_law_770 rfl (lv_at hl 3 rfl) ?_
  refine lv_iload_n hx hb dL_law_771 rfl (lv_at hl 0 rfl) ?_
  refine lv_iconst (v := nI 1) hx hb dL_law_772 rfl ?_
  refine x_iadd hx hb dL_law_773 ?_
  refine x_sld hx hb hX hbl hbA hS (by omega) (by omega) dL_law_774 ?_
  refine rwW_i (As := [.int (xs (i + 1))]) (rest := []) (wn := lwW cS cI cZ a r0 qs qr t q qm (if inB (xs (i + 1)) 4 = true then uB hs (xn (xs (i + 1))) false else hs) la le C x n X n mb f Y tr fl) ⟨hx, hb, hml, hown, hts⟩ (kX3_lose l dC dI a (t 0) (q 0) tr fl cS cI r0 qs qr hs la le C hI.2.2.2.1.hB (xs (i + 1)) _) (cwV 1 hts gL_law_X3_lose rfl rfl rfl hdX3_lose ⟨Nat.le_trans (Nat.le_of_ble_eq_true rfl) hRf, Nat.le_trans (Nat.le_of_ble_eq_true rfl) hRl⟩) (va_recv hK hP (ci := 3) (q0 := 0) rfl rfl) (hK.sub [0, 1] rfl) rfl hl.1 rfl (Nat.le_of_ble_eq_true rfl) dL_law_775 ⟨hcc, hcs⟩ hP hD hS hA [0, 1, 2, 3, 4, 5, 6, 7, 8, 9] [10, 11, 12, 13, 14, 15, 16, 17, 18, 19, 20, 21, 22, 23, 24, 25, 26, 27, 28, 29, 30, 31, 32, 33, 34, 35, 36, 37, 38, 39] [30, 31, 32, 33, 34, 35, 36, 37, 38, 39, 0, 1, 2, 3, 4, 5, 6, 7, 8, 9, 10, 11, 12, 13, 14, 15, 16, 17, 18, 19, 20, 21, 22, 23, 24, 25, 26, 27, 28, 29] rfl rfl (by decide) (by decide) (by decide) rfl rfl (fun H locs hP hS => ?_)
  have hD : va_D Z (lwW cS cI cZ a r0 qs qr t q qm (if inB (xs (i + 1)) 4 = true then uB hs (xn (xs (i + 1))) false else hs) la le C x n X n mb f Y tr fl) := hD.same rfl
  refine lv_aload_n hx hb dL_law_778 rfl (lv_at hl 1 rfl) ?_
  refine lv_aload_n hx hb dL_law_779 rfl (lv_at hl 3 rfl) ?_
  refine lv_iload_n hx hb dL_law_780 rfl (lv_at hl 0 rfl) ?_
  refine lv_iconst (v := nI 1) hx hb dL_law_781 rfl ?_
  refine x_iadd hx hb dL_law_782 ?_
  refine x_sld hx hb hX hbl hbA hS (by omega) (by omega) dL_law_783 ?_
  refine rwW_i (As := [.int (xs (i + 1))]) (rest := [.int (uLose hs (xs (i + 1)))]) (wn := lwW cS cI cZ a r0 qs qr t q qm (if inB (xs (i + 1)) 4 = true then uB hs (xn (xs (i + 1))) false else hs) la le C x n X n mb f (if inB (xs (i + 1)) 4 = true then uX Y 12 (xn (xs (i + 1))) (-1) else Y) tr fl) ⟨hx, hb, hml, hown, hts⟩ (kX4_lose l dC dI cI cZ qm n mb f Y hs la le C hI.2.2.2.1 (xs (i + 1)) _) (cwV 1 hts gL_law_X4_lose rfl rfl rfl hdX4_lose ⟨Nat.le_trans (Nat.le_of_ble_eq_true rfl) hRf, Nat.le_trans (Nat.le_of_ble_eq_true rfl) hRl⟩) (va_recv hK hP (ci := 4) (q0 := 23) rfl rfl) (hK.sub [0, 2] rfl) rfl hl.1 rfl (Nat.le_of_ble_eq_true rfl) dL_law_784 ⟨hcc, hcs⟩ hP hD hS hA [23, 24, 25, 26, 27, 28, 29, 30, 31, 32, 33, 34, 35, 36, 37, 38, 39] [0, 1, 2, 3, 4, 5, 6, 7, 8, 9, 10, 11, 12, 13, 14, 15, 16, 17, 18, 19, 20, 21, 22] [0, 1, 2, 3, 4, 5, 6, 7, 8, 9, 10, 11, 12, 13, 14, 15, 16, 17, 18, 19, 20, 21, 22, 23, 24, 25, 26, 27, 28, 29, 30, 31, 32, 33, 34, 35, 36, 37, 38, 39] rfl rfl (by decide) (by decide) (by decide) rfl rfl (fun H locs hP hS => ?_)
  have hD : va_D Z (lwW cS cI cZ a r0 qs qr t q qm (if inB (xs (i + 1)) 4 = true then uB hs (xn (xs (i + 1))) false else hs) la le C x n X n mb f (if inB (xs (i + 1)) 4 = true then uX Y 12 (xn (xs (i + 1))) (-1) else Y) tr fl) := hD.same rfl
  refine lv_icmp_eq (tgt := 1070) hx hb dL_law_787 (by decide) (fun _ => ?_) (fun h => absurd rfl h)
  have hD : va_D Z (lwW cS cI cZ a r0 qs qr t q qm (if inB (xs (i + 1)) 4 = true then uB hs (xn (xs (i + 1))) false else hs) la le C x n X n mb f (if inB (xs (i + 1)) 4 = true then uX Y 12 (xn (xs (i + 1))) (-1) else Y) tr fl) := hD.same rfl
  exact kk _ _ ⟨_, _, _, _, _, _, _, _, _, _, _, _, _, (LI_lose hI (xs (i + 1))), hP, hD⟩ hS
theorem hdX3_put : yX3_put.cls = RX3 ∧ yX3_put.cls ≠ "java/lang/invoke/MethodHandle" ∧ yX3_put.cls ≠ "java/lang/invoke/VarHandle" ∧ (parseMethodDescriptor yX3_put.desc).map (fun d => d.parameters.length) = some 3 := by decide +kernel
theorem hdX4_put : yX4_put.cls = RX4 ∧ yX4_put.cls ≠ "java/lang/invoke/MethodHandle" ∧ yX4_put.cls ≠ "java/lang/invoke/VarHandle" ∧ (parseMethodDescriptor yX4_put.desc).map (fun d => d.parameters.length) = some 3 := by decide +kernel
set_option maxHeartbeats 4000000 in
set_option maxRecDepth 100000 in
theorem lc_put {pp : Program} {l : Launch} {ee : Env} {RR : Room} {ss : State} {mm : MethodId} {bb : List Frame} {me : Method} {cd : Code} {QQ : State → Prop} {dC : Nat → ClassId} {dI : Nat → Nat → Nat} {cS cI cZ : ClassId} {a r0 : Nat} {qs qr t q qm : Nat → Nat} {tH b L i : Nat} {xs : Nat → Int32} {Z : Nat → Prop} {cells slots : Nat} {H : Heap} {locs : List Loc} {ls : Array Slot} (E : lw_E pp ss mm cd RR dC dI cS cI cZ tH b L xs Z cells slots) (hi : i + 6 ≤ L) (hJ : LJ dC dI cS cI cZ a r0 qs qr t q qm Z H) (hS : va_S Z ss.heap H locs) (hl : lv_has ls 4 [(3, .int (nI i)), (2, .ref (qm 0)), (1, .ref a), (0, .ref b)]) (kk : ∀ (H : Heap) (locs : List Loc), LJ dC dI cS cI cZ a r0 qs qr t q qm Z H → va_S Z ss.heap H locs → W pp l ee RR ss mm #[Value.ref b] bb me cd H locs cells slots QQ (F0 mm 1070 ls [])) : W pp l ee RR ss mm #[Value.ref b] bb me cd H locs cells slots QQ (F0 mm 792 ls []) := by
  obtain ⟨hx, hb, hml, hown, hts, hRf, hRl, hcc, hcs, hK, hA, hZT, hX, hbl, hbA, hL⟩ := E
  obtain ⟨hs, la, le, C, x, n, A, X, mb, f, Y, tr, fl, hI, hP, hD⟩ := hJ
  refine lv_aload_n hx hb dL_law_792 rfl (lv_at hl 2 rfl) ?_
  refine lv_aload_n hx hb dL_law_793 rfl (lv_at hl 3 rfl) ?_
  refine lv_iload_n hx hb dL_law_794 rfl (lv_at hl 0 rfl) ?_
  refine lv_iconst (v := nI 1) hx hb dL_law_795 rfl ?_
  refine x_iadd hx hb dL_law_796 ?_
  refine x_sld hx hb hX hbl hbA hS (by omega) (by omega) dL_law_797 ?_
  refine lv_aload_n hx hb dL_law_798 rfl (lv_at hl 3 rfl) ?_
  refine lv_iload_n hx hb dL_law_799 rfl (lv_at hl 0 rfl) ?_
  refine lv_iconst (v := nI 2) hx hb dL_law_800 rfl ?_
  refine x_iadd hx hb dL_law_801 ?_
  refine x_sld hx hb hX hbl hbA hS (by omega) (by omega) dL_law_802 ?_
  refine lv_aload_n hx hb dL_law_803 rfl (lv_at hl 3 rfl) ?_
  refine lv_iload_n hx hb dL_law_804 rfl (lv_at hl 0 rfl) ?_
  refine lv_iconst (v := nI 3) hx hb dL_law_805 rfl ?_
  refine x_iadd hx hb dL_law_806 ?_
  refine x_sld hx hb hX hbl hbA hS (by omega) (by omega) dL_law_807 ?_
  refine rwW_i (As := [.int (xs (i + 1)), .int (xs (i + 2)), .int (xs (i + 3))]) (rest := []) (wn := lwW cS cI cZ a r0 qs qr t q qm hs la le (if okPut hs le (xs (i + 1)) (xs (i + 2)) = true then uC C (xn (xs (i + 1))) (upd (C (xn (xs (i + 1)))) (xn (xs (i + 2))) (cutL (la (xn (xs (i + 1)))) (xs (i + 3)))) else C) x n X n mb f Y tr (fPut hs le (xs (i + 1)) (xs (i + 2)))) ⟨hx, hb, hml, hown, hts⟩ (kX3_put l dC dI a (t 0) (q 0) tr fl cS cI r0 qs qr hs la le C hI.2.2.2.1.hB (xs (i + 1)) (xs (i + 2)) (xs (i + 3)) _) (cwV 3 hts gL_law_X3_put rfl rfl rfl hdX3_put ⟨Nat.le_trans (Nat.le_of_ble_eq_true rfl) hRf, Nat.le_trans (Nat.le_of_ble_eq_true rfl) hRl⟩) (va_recv hK hP (ci := 3) (q0 := 0) rfl rfl) (hK.sub [0, 1] rfl) rfl hl.1 rfl (Nat.le_of_ble_eq_true rfl) dL_law_808 ⟨hcc, hcs⟩ hP hD hS hA [0, 1, 2, 3, 4, 5, 6, 7, 8, 9] [10, 11, 12, 13, 14, 15, 16, 17, 18, 19, 20, 21, 22, 23, 24, 25, 26, 27, 28, 29, 30, 31, 32, 33, 34, 35, 36, 37, 38, 39] [30, 31, 32, 33, 34, 35, 36, 37, 38, 39, 0, 1, 2, 3, 4, 5, 6, 7, 8, 9, 10, 11, 12, 13, 14, 15, 16, 17, 18, 19, 20, 21, 22, 23, 24, 25, 26, 27, 28, 29] rfl rfl (by decide) (by decide) (by decide) rfl rfl (fun H locs hP hS => ?_)
  have hD : va_D Z (lwW cS cI cZ a r0 qs qr t q qm hs la le (if okPut hs le (xs (i + 1)) (xs (i + 2)) = true then uC C (xn (xs (i + 1))) (upd (C (xn (xs (i + 1)))) (xn (xs (i + 2))) (cutL (la (xn (xs (i + 1)))) (xs (i + 3)))) else C) x n X n mb f Y tr (fPut hs le (xs (i + 1)) (xs (i + 2)))) := hD.same rfl
  refine lv_aload_n hx hb dL_law_811 rfl (lv_at hl 1 rfl) ?_
  refine lv_aload_n hx hb dL_law_812 rfl (lv_at hl 3 rfl) ?_
  refine lv_iload_n hx hb dL_law_813 rfl (lv_at hl 0 rfl) ?_
  refine lv_iconst (v := nI 1) hx hb dL_law_814 rfl ?_
  refine x_iadd hx hb dL_law_815 ?_
  refine x_sld hx hb hX hbl hbA hS (by omega) (by omega) dL_law_816 ?_
  refine lv_aload_n hx hb dL_law_817 rfl (lv_at hl 3 rfl) ?_
  refine lv_iload_n hx hb dL_law_818 rfl (lv_at hl 0 rfl) ?_
  refine lv_iconst (v := nI 2) hx hb dL_law_819 rfl ?_
  refine x_iadd hx hb dL_law_820 ?_
  refine x_sld hx hb hX hbl hbA hS (by omega) (by omega) dL_law_821 ?_
  refine lv_aload_n hx hb dL_law_822 rfl (lv_at hl 3 rfl) ?_
  refine lv_iload_n hx hb dL_law_823 rfl (lv_at hl 0 rfl) ?_
  refine lv_iconst (v := nI 3) hx hb dL_law_824 rfl ?_
  refine x_iadd hx hb dL_law_825 ?_
  refine x_sld hx hb hX hbl hbA hS (by omega) (by omega) dL_law_826 ?_
  refine rwW_i (As := [.int (xs (i + 1)), .int (xs (i + 2)), .int (xs (i + 3))]) (rest := [.int (uPut hs le (xs (i + 1)) (xs (i + 2)))]) (wn := lwW cS cI cZ a r0 qs qr t q qm hs la le (if okPut hs le (xs (i + 1)) (xs (i + 2)) = true then uC C (xn (xs (i + 1))) (upd (C (xn (xs (i + 1)))) (xn (xs (i + 2))) (cutL (la (xn (xs (i + 1)))) (xs (i + 3)))) else C) x n X n mb (uF f 0 (fPut hs le (xs (i + 1)) (xs (i + 2)))) (if okPut hs le (xs (i + 1)) (xs (i + 2)) = true then uX Y 14 (100 * xn (xs (i + 1)) + xn (xs (i + 2))) (cutL (la (xn (xs (i + 1)))) (xs (i + 3))) else Y) tr (fPut hs le (xs (i + 1)) (xs (i + 2)))) ⟨hx, hb, hml, hown, hts⟩ (kX4_put l dC dI cI cZ qm n mb f Y hs la le C hI.2.2.2.1 (xs (i + 1)) (xs (i + 2)) (xs (i + 3)) _) (cwV 3 hts gL_law_X4_put rfl rfl rfl hdX4_put ⟨Nat.le_trans (Nat.le_of_ble_eq_true rfl) hRf, Nat.le_trans (Nat.le_of_ble_eq_true rfl) hRl⟩) (va_recv hK hP (ci := 4) (q0 := 23) rfl rfl) (hK.sub [0, 2] rfl) rfl hl.1 rfl (Nat.le_of_ble_eq_true rfl) dL_law_827 ⟨hcc, hcs⟩ hP hD hS hA [23, 24, 25, 26, 27, 28, 29, 30, 31, 32, 33, 34, 35, 36, 37, 38, 39] [0, 1, 2, 3, 4, 5, 6, 7, 8, 9, 10, 11, 12, 13, 14, 15, 16, 17, 18, 19, 20, 21, 22] [0, 1, 2, 3, 4, 5, 6, 7, 8, 9, 10, 11, 12, 13, 14, 15, 16, 17, 18, 19, 20, 21, 22, 23, 24, 25, 26, 27, 28, 29, 30, 31, 32, 33, 34, 35, 36, 37, 38, 39] rfl rfl (by decide) (by decide) (by decide) rfl rfl (fun H locs hP hS => ?_)
  have hD : va_D Z (lwW cS cI cZ a r0 qs qr t q qm hs la le (if okPut hs le (xs (i + 1)) (xs (i + 2)) = true then uC C (xn (xs (i + 1))) (upd (C (xn (xs (i + 1)))) (xn (xs (i + 2))) (cutL (la (xn (xs (i + 1)))) (xs (i + 3)))) else C) x n X n mb (uF f 0 (fPut hs le (xs (i + 1)) (xs (i + 2)))) (if okPut hs le (xs (i + 1)) (xs (i + 2)) = true then uX Y 14 (100 * xn (xs (i + 1)) + xn (xs (i + 2))) (cutL (la (xn (xs (i + 1)))) (xs (i + 3))) else Y) tr (fPut hs le (xs (i + 1)) (xs (i + 2)))) := hD.same rfl
  refine lv_icmp_eq (tgt := 1070) hx hb dL_law_830 (by decide) (fun _ => ?_) (fun h => absurd rfl h)
  have hD : va_D Z (lwW cS cI cZ a r0 qs qr t q qm hs la le (if okPut hs le (xs (i + 1)) (xs (i + 2)) = true then uC C (xn (xs (i + 1))) (upd (C (xn (xs (i + 1)))) (xn (xs (i + 2))) (cutL (la (xn (xs (i + 1)))) (xs (i + 3)))) else C) x n X n mb (uF f 0 (fPut hs le (xs (i + 1)) (xs (i + 2)))) (if okPut hs le (xs (i + 1)) (xs (i + 2)) = true then uX Y 14 (100 * xn (xs (i + 1)) + xn (xs (i + 2))) (cutL (la (xn (xs (i + 1)))) (xs (i + 3))) else Y) tr (fPut hs le (xs (i + 1)) (xs (i + 2)))) := hD.same rfl
  exact kk _ _ ⟨_, _, _, _, _, _, _, _, _, _, _, _, _, (LI_put hI (xs (i + 1)) (xs (i + 2)) (xs (i + 3))), hP, hD⟩ hS
theorem hdX3_cell : yX3_cell.cls = RX3 ∧ yX3_cell.cls ≠ "java/lang/invoke/MethodHandle" ∧ yX3_cell.cls ≠ "java/lang/invoke/VarHandle" ∧ (parseMethodDescriptor yX3_cell.desc).map (fun d => d.parameters.length) = some 3 := by decide +kernel
theorem hdX4_cell : yX4_cell.cls = RX4 ∧ yX4_cell.cls ≠ "java/lang/invoke/MethodHandle" ∧ yX4_cell.cls ≠ "java/lang/invoke/VarHandle" ∧ (parseMethodDescriptor yX4_cell.desc).map (fun d => d.parameters.length) = some 3 := by decide +kernel
set_option maxHeartbeats 4000000 in
set_option maxRecDepth 100000 in
theorem lc_cell {pp : Program} {l : Launch} {ee : Env} {RR : Room} {ss : State} {mm : MethodId} {bb : List Frame} {me : Method} {cd : Code} {QQ : State → Prop} {dC : Nat → ClassId} {dI : Nat → Nat → Nat} {cS cI cZ : ClassId} {a r0 : Nat} {qs qr t q qm : Nat → Nat} {tH b L i : Nat} {xs : Nat → Int32} {Z : Nat → Prop} {cells slots : Nat} {H : Heap} {locs : List Loc} {ls : Array Slot} (E : lw_E pp ss mm cd RR dC dI cS cI cZ tH b L xs Z cells slots) (hi : i + 6 ≤ L) (hJ : LJ dC dI cS cI cZ a r0 qs qr t q qm Z H) (hS : va_S Z ss.heap H locs) (hl : lv_has ls 4 [(3, .int (nI i)), (2, .ref (qm 0)), (1, .ref a), (0, .ref b)]) (kk : ∀ (H : Heap) (locs : List Loc), LJ dC dI cS cI cZ a r0 qs qr t q qm Z H → va_S Z ss.heap H locs → W pp l ee RR ss mm #[Value.ref b] bb me cd H locs cells slots QQ (F0 mm 1070 ls [])) : W pp l ee RR ss mm #[Value.ref b] bb me cd H locs cells slots QQ (F0 mm 835 ls []) := by
  obtain ⟨hx, hb, hml, hown, hts, hRf, hRl, hcc, hcs, hK, hA, hZT, hX, hbl, hbA, hL⟩ := E
  obtain ⟨hs, la, le, C, x, n, A, X, mb, f, Y, tr, fl, hI, hP, hD⟩ := hJ
  refine lv_aload_n hx hb dL_law_835 rfl (lv_at hl 2 rfl) ?_
  refine lv_aload_n hx hb dL_law_836 rfl (lv_at hl 3 rfl) ?_
  refine lv_iload_n hx hb dL_law_837 rfl (lv_at hl 0 rfl) ?_
  refine lv_iconst (v := nI 1) hx hb dL_law_838 rfl ?_
  refine x_iadd hx hb dL_law_839 ?_
  refine x_sld hx hb hX hbl hbA hS (by omega) (by omega) dL_law_840 ?_
  refine lv_aload_n hx hb dL_law_841 rfl (lv_at hl 3 rfl) ?_
  refine lv_iload_n hx hb dL_law_842 rfl (lv_at hl 0 rfl) ?_
  refine lv_iconst (v := nI 2) hx hb dL_law_843 rfl ?_
  refine x_iadd hx hb dL_law_844 ?_
  refine x_sld hx hb hX hbl hbA hS (by omega) (by omega) dL_law_845 ?_
  refine lv_aload_n hx hb dL_law_846 rfl (lv_at hl 3 rfl) ?_
  refine lv_iload_n hx hb dL_law_847 rfl (lv_at hl 0 rfl) ?_
  refine lv_iconst (v := nI 3) hx hb dL_law_848 rfl ?_
  refine x_iadd hx hb dL_law_849 ?_
  refine x_sld hx hb hX hbl hbA hS (by omega) (by omega) dL_law_850 ?_
  refine rwW_l (As := [.int (xs (i + 1)), .int (xs (i + 2)), .int (xs (i + 3))]) (rest := []) (wn := lwW cS cI cZ a r0 qs qr t q qm hs la le C x n X n mb f Y tr (fCell hs la le (xs (i + 1)) (xs (i + 2)) (xs (i + 3)))) ⟨hx, hb, hml, hown, hts⟩ (kX3_cell l dC dI a (t 0) (q 0) tr fl cS cI r0 qs qr hs la le C hI.2.2.2.1.hB (xs (i + 1)) (xs (i + 2)) (xs (i + 3)) _) (cwV 3 hts gL_law_X3_cell rfl rfl rfl hdX3_cell ⟨Nat.le_trans (Nat.le_of_ble_eq_true rfl) hRf, Nat.le_trans (Nat.le_of_ble_eq_true rfl) hRl⟩) (va_recv hK hP (ci := 3) (q0 := 0) rfl rfl) (hK.sub [0, 1] rfl) rfl hl.1 rfl (Nat.le_of_ble_eq_true rfl) dL_law_851 ⟨hcc, hcs⟩ hP hD hS hA [0, 1, 2, 3, 4, 5, 6, 7, 8, 9] [10, 11, 12, 13, 14, 15, 16, 17, 18, 19, 20, 21, 22, 23, 24, 25, 26, 27, 28, 29, 30, 31, 32, 33, 34, 35, 36, 37, 38, 39] [30, 31, 32, 33, 34, 35, 36, 37, 38, 39, 0, 1, 2, 3, 4, 5, 6, 7, 8, 9, 10, 11, 12, 13, 14, 15, 16, 17, 18, 19, 20, 21, 22, 23, 24, 25, 26, 27, 28, 29] rfl rfl (by decide) (by decide) (by decide) rfl rfl (fun H locs hP hS => ?_)
  have hD : va_D Z (lwW cS cI cZ a r0 qs qr t q qm hs la le C x n X n mb f Y tr (fCell hs la le (xs (i + 1)) (xs (i + 2)) (xs (i + 3)))) := hD.same rfl
  refine lv_aload_n hx hb dL_law_854 rfl (lv_at hl 1 rfl) ?_
  refine lv_aload_n hx hb dL_law_855 rfl (lv_at hl 3 rfl) ?_
  refine lv_iload_n hx hb dL_law_856 rfl (lv_at hl 0 rfl) ?_
  refine lv_iconst (v := nI 1) hx hb dL_law_857 rfl ?_
  refine x_iadd hx hb dL_law_858 ?_
  refine x_sld hx hb hX hbl hbA hS (by omega) (by omega) dL_law_859 ?_
  refine lv_aload_n hx hb dL_law_860 rfl (lv_at hl 3 rfl) ?_
  refine lv_iload_n hx hb dL_law_861 rfl (lv_at hl 0 rfl) ?_
  refine lv_iconst (v := nI 2) hx hb dL_law_862 rfl ?_
  refine x_iadd hx hb dL_law_863 ?_
  refine x_sld hx hb hX hbl hbA hS (by omega) (by omega) dL_law_864 ?_
  refine lv_aload_n hx hb dL_law_865 rfl (lv_at hl 3 rfl) ?_
  refine lv_iload_n hx hb dL_law_866 rfl (lv_at hl 0 rfl) ?_
  refine lv_iconst (v := nI 3) hx hb dL_law_867 rfl ?_
  refine x_iadd hx hb dL_law_868 ?_
  refine x_sld hx hb hX hbl hbA hS (by omega) (by omega) dL_law_869 ?_
  refine rwW_l (As := [.int (xs (i + 1)), .int (xs (i + 2)), .int (xs (i + 3))]) (rest := [.long (uCell hs la le C (xs (i + 1)) (xs (i + 2)) (xs (i + 3)))]) (wn := lwW cS cI cZ a r0 qs qr t q qm hs la le C x n X n mb (uF f 0 (fCell hs la le (xs (i + 1)) (xs (i + 2)) (xs (i + 3)))) Y tr (fCell hs la le (xs (i + 1)) (xs (i + 2)) (xs (i + 3)))) ⟨hx, hb, hml, hown, hts⟩ (kX4_cell l dC dI cI cZ qm n mb f Y hs la le C hI.2.2.2.1 (xs (i + 1)) (xs (i + 2)) (xs (i + 3)) _) (cwV 3 hts gL_law_X4_cell rfl rfl rfl hdX4_cell ⟨Nat.le_trans (Nat.le_of_ble_eq_true rfl) hRf, Nat.le_trans (Nat.le_of_ble_eq_true rfl) hRl⟩) (va_recv hK hP (ci := 4) (q0 := 23) rfl rfl) (hK.sub [0, 2] rfl) rfl hl.1 rfl (Nat.le_of_ble_eq_true rfl) dL_law_870 ⟨hcc, hcs⟩ hP hD hS hA [23, 24, 25, 26, 27, 28, 29, 30, 31, 32, 33, 34, 35, 36, 37, 38, 39] [0, 1, 2, 3, 4, 5, 6, 7, 8, 9, 10, 11, 12, 13, 14, 15, 16, 17, 18, 19, 20, 21, 22] [0, 1, 2, 3, 4, 5, 6, 7, 8, 9, 10, 11, 12, 13, 14, 15, 16, 17, 18, 19, 20, 21, 22, 23, 24, 25, 26, 27, 28, 29, 30, 31, 32, 33, 34, 35, 36, 37, 38, 39] rfl rfl (by decide) (by decide) (by decide) rfl rfl (fun H locs hP hS => ?_)
  have hD : va_D Z (lwW cS cI cZ a r0 qs qr t q qm hs la le C x n X n mb (uF f 0 (fCell hs la le (xs (i + 1)) (xs (i + 2)) (xs (i + 3)))) Y tr (fCell hs la le (xs (i + 1)) (xs (i + 2)) (xs (i + 3)))) := hD.same rfl
  refine W.lcmp hx hb dL_law_873 ?_
  refine lv_if_eq (tgt := 1070) hx hb dL_law_874 (by decide) (fun _ => ?_) (fun h => absurd (lgc_self _) h)
  have hD : va_D Z (lwW cS cI cZ a r0 qs qr t q qm hs la le C x n X n mb (uF f 0 (fCell hs la le (xs (i + 1)) (xs (i + 2)) (xs (i + 3)))) Y tr (fCell hs la le (xs (i + 1)) (xs (i + 2)) (xs (i + 3)))) := hD.same rfl
  exact kk _ _ ⟨_, _, _, _, _, _, _, _, _, _, _, _, _, (LI_fl hI (fCell hs la le (xs (i + 1)) (xs (i + 2)) (xs (i + 3)))), hP, hD⟩ hS
theorem hdX3_copy : yX3_copy.cls = RX3 ∧ yX3_copy.cls ≠ "java/lang/invoke/MethodHandle" ∧ yX3_copy.cls ≠ "java/lang/invoke/VarHandle" ∧ (parseMethodDescriptor yX3_copy.desc).map (fun d => d.parameters.length) = some 5 := by decide +kernel
theorem hdX4_copy : yX4_copy.cls = RX4 ∧ yX4_copy.cls ≠ "java/lang/invoke/MethodHandle" ∧ yX4_copy.cls ≠ "java/lang/invoke/VarHandle" ∧ (parseMethodDescriptor yX4_copy.desc).map (fun d => d.parameters.length) = some 5 := by decide +kernel
set_option maxHeartbeats 4000000 in
set_option maxRecDepth 100000 in
theorem lc_copy {pp : Program} {l : Launch} {ee : Env} {RR : Room} {ss : State} {mm : MethodId} {bb : List Frame} {me : Method} {cd : Code} {QQ : State → Prop} {dC : Nat → ClassId} {dI : Nat → Nat → Nat} {cS cI cZ : ClassId} {a r0 : Nat} {qs qr t q qm : Nat → Nat} {tH b L i : Nat} {xs : Nat → Int32} {Z : Nat → Prop} {cells slots : Nat} {H : Heap} {locs : List Loc} {ls : Array Slot} (E : lw_E pp ss mm cd RR dC dI cS cI cZ tH b L xs Z cells slots) (hi : i + 6 ≤ L) (hJ : LJ dC dI cS cI cZ a r0 qs qr t q qm Z H) (hS : va_S Z ss.heap H locs) (hl : lv_has ls 4 [(3, .int (nI i)), (2, .ref (qm 0)), (1, .ref a), (0, .ref b)]) (kk : ∀ (H : Heap) (locs : List Loc), LJ dC dI cS cI cZ a r0 qs qr t q qm Z H → va_S Z ss.heap H locs → W pp l ee RR ss mm #[Value.ref b] bb me cd H locs cells slots QQ (F0 mm 1070 ls [])) : W pp l ee RR ss mm #[Value.ref b] bb me cd H locs cells slots QQ (F0 mm 879 ls []) := by
  obtain ⟨hx, hb, hml, hown, hts, hRf, hRl, hcc, hcs, hK, hA, hZT, hX, hbl, hbA, hL⟩ := E
  obtain ⟨hs, la, le, C, x, n, A, X, mb, f, Y, tr, fl, hI, hP, hD⟩ := hJ
  refine lv_aload_n hx hb dL_law_879 rfl (lv_at hl 2 rfl) ?_
  refine lv_aload_n hx hb dL_law_880 rfl (lv_at hl 3 rfl) ?_
  refine lv_iload_n hx hb dL_law_881 rfl (lv_at hl 0 rfl) ?_
  refine lv_iconst (v := nI 1) hx hb dL_law_882 rfl ?_
  refine x_iadd hx hb dL_law_883 ?_
  refine x_sld hx hb hX hbl hbA hS (by omega) (by omega) dL_law_884 ?_
  refine lv_aload_n hx hb dL_law_885 rfl (lv_at hl 3 rfl) ?_
  refine lv_iload_n hx hb dL_law_886 rfl (lv_at hl 0 rfl) ?_
  refine lv_iconst (v := nI 2) hx hb dL_law_887 rfl ?_
  refine x_iadd hx hb dL_law_888 ?_
  refine x_sld hx hb hX hbl hbA hS (by omega) (by omega) dL_law_889 ?_
  refine lv_aload_n hx hb dL_law_890 rfl (lv_at hl 3 rfl) ?_
  refine lv_iload_n hx hb dL_law_891 rfl (lv_at hl 0 rfl) ?_
  refine lv_iconst (v := nI 3) hx hb dL_law_892 rfl ?_
  refine x_iadd hx hb dL_law_893 ?_
  refine x_sld hx hb hX hbl hbA hS (by omega) (by omega) dL_law_894 ?_
  refine lv_aload_n hx hb dL_law_895 rfl (lv_at hl 3 rfl) ?_
  refine lv_iload_n hx hb dL_law_896 rfl (lv_at hl 0 rfl) ?_
  refine lv_iconst (v := nI 4) hx hb dL_law_897 rfl ?_
  refine x_iadd hx hb dL_law_898 ?_
  refine x_sld hx hb hX hbl hbA hS (by omega) (by omega) dL_law_899 ?_
  refine lv_aload_n hx hb dL_law_900 rfl (lv_at hl 3 rfl) ?_
  refine lv_iload_n hx hb dL_law_901 rfl (lv_at hl 0 rfl) ?_
  refine lv_iconst (v := nI 5) hx hb dL_law_902 rfl ?_
  refine x_iadd hx hb dL_law_903 ?_
  refine x_sld hx hb hX hbl hbA hS (by omega) (by omega) dL_law_904 ?_
  refine rwW_i (As := [.int (xs (i + 1)), .int (xs (i + 2)), .int (xs (i + 3)), .int (xs (i + 4)), .int (xs (i + 5))]) (rest := []) (wn := lwW cS cI cZ a r0 qs qr t q qm hs la le (if okCopy hs la le (xs (i + 1)) (xs (i + 2)) (xs (i + 3)) (xs (i + 4)) (xs (i + 5)) = true then uC C (xn (xs (i + 3))) (va_cpy (C (xn (xs (i + 1)))) (C (xn (xs (i + 3)))) (xn (xs (i + 2))) (xn (xs (i + 4))) (xn (xs (i + 5)))) else C) x n X n mb f Y tr (fCopy hs la le (xs (i + 1)) (xs (i + 2)) (xs (i + 3)) (xs (i + 4)) (xs (i + 5)))) ⟨hx, hb, hml, hown, hts⟩ (kX3_copy l dC dI a (t 0) (q 0) tr fl cS cI r0 qs qr hs la le C hI.2.2.2.1.hB (xs (i + 1)) (xs (i + 2)) (xs (i + 3)) (xs (i + 4)) (xs (i + 5)) _) (cwV 5 hts gL_law_X3_copy rfl rfl rfl hdX3_copy ⟨Nat.le_trans (Nat.le_of_ble_eq_true rfl) hRf, Nat.le_trans (Nat.le_of_ble_eq_true rfl) hRl⟩) (va_recv hK hP (ci := 3) (q0 := 0) rfl rfl) (hK.sub [0, 1] rfl) rfl hl.1 rfl (Nat.le_of_ble_eq_true rfl) dL_law_905 ⟨hcc, hcs⟩ hP hD hS hA [0, 1, 2, 3, 4, 5, 6, 7, 8, 9] [10, 11, 12, 13, 14, 15, 16, 17, 18, 19, 20, 21, 22, 23, 24, 25, 26, 27, 28, 29, 30, 31, 32, 33, 34, 35, 36, 37, 38, 39] [30, 31, 32, 33, 34, 35, 36, 37, 38, 39, 0, 1, 2, 3, 4, 5, 6, 7, 8, 9, 10, 11, 12, 13, 14, 15, 16, 17, 18, 19, 20, 21, 22, 23, 24, 25, 26, 27, 28, 29] rfl rfl (by decide) (by decide) (by decide) rfl rfl (fun H locs hP hS => ?_)
  have hD : va_D Z (lwW cS cI cZ a r0 qs qr t q qm hs la le (if okCopy hs la le (xs (i + 1)) (xs (i + 2)) (xs (i + 3)) (xs (i + 4)) (xs (i + 5)) = true then uC C (xn (xs (i + 3))) (va_cpy (C (xn (xs (i + 1)))) (C (xn (xs (i + 3)))) (xn (xs (i + 2))) (xn (xs (i + 4))) (xn (xs (i + 5)))) else C) x n X n mb f Y tr (fCopy hs la le (xs (i + 1)) (xs (i + 2)) (xs (i + 3)) (xs (i + 4)) (xs (i + 5)))) := hD.same rfl
  refine lv_aload_n hx hb dL_law_908 rfl (lv_at hl 1 rfl) ?_
  refine lv_aload_n hx hb dL_law_909 rfl (lv_at hl 3 rfl) ?_
  refine lv_iload_n hx hb dL_law_910 rfl (lv_at hl 0 rfl) ?_
  refine lv_iconst (v := nI 1) hx hb dL_law_911 rfl ?_
  refine x_iadd hx hb dL_law_912 ?_
  refine x_sld hx hb hX hbl hbA hS (by omega) (by omega) dL_law_913 ?_
  refine lv_aload_n hx hb dL_law_914 rfl (lv_at hl 3 rfl) ?_
  refine lv_iload_n hx hb dL_law_915 rfl (lv_at hl 0 rfl) ?_
  refine lv_iconst (v := nI 2) hx hb dL_law_916 rfl ?_
  refine x_iadd hx hb dL_law_917 ?_
  refine x_sld hx hb hX hbl hbA hS (by omega) (by omega) dL_law_918 ?_
  refine lv_aload_n hx hb dL_law_919 rfl (lv_at hl 3 rfl) ?_
  refine lv_iload_n hx hb dL_law_920 rfl (lv_at hl 0 rfl) ?_
  refine lv_iconst (v := nI 3) hx hb dL_law_921 rfl ?_
  refine x_iadd hx hb dL_law_922 ?_
  refine x_sld hx hb hX hbl hbA hS (by omega) (by omega) dL_law_923 ?_
  refine lv_aload_n hx hb dL_law_924 rfl (lv_at hl 3 rfl) ?_
  refine lv_iload_n hx hb dL_law_925 rfl (lv_at hl 0 rfl) ?_
  refine lv_iconst (v := nI 4) hx hb dL_law_926 rfl ?_
  refine x_iadd hx hb dL_law_927 ?_
  refine x_sld hx hb hX hbl hbA hS (by omega) (by omega) dL_law_928 ?_
  refine lv_aload_n hx hb dL_law_929 rfl (lv_at hl 3 rfl) ?_
  refine lv_iload_n hx hb dL_law_930 rfl (lv_at hl 0 rfl) ?_
  refine lv_iconst (v := nI 5) hx hb dL_law_931 rfl ?_
  refine x_iadd hx hb dL_law_932 ?_
  refine x_sld hx hb hX hbl hbA hS (by omega) (by omega) dL_law_933 ?_
  refine rwW_i (As := [.int (xs (i + 1)), .int (xs (i + 2)), .int (xs (i + 3)), .int (xs (i + 4)), .int (xs (i + 5))]) (rest := [.int (uCopy hs la le (xs (i + 1)) (xs (i + 2)) (xs (i + 3)) (xs (i + 4)) (xs (i + 5)))]) (wn := lwW cS cI cZ a r0 qs qr t q qm hs la le (if okCopy hs la le (xs (i + 1)) (xs (i + 2)) (xs (i + 3)) (xs (i + 4)) (xs (i + 5)) = true then uC C (xn (xs (i + 3))) (va_cpy (C (xn (xs (i + 1)))) (C (xn (xs (i + 3)))) (xn (xs (i + 2))) (xn (xs (i + 4))) (xn (xs (i + 5)))) else C) x n X n mb (uF f 0 (fCopy hs la le (xs (i + 1)) (xs (i + 2)) (xs (i + 3)) (xs (i + 4)) (xs (i + 5)))) (if okCopy hs la le (xs (i + 1)) (xs (i + 2)) (xs (i + 3)) (xs (i + 4)) (xs (i + 5)) = true then uY (uY Y 15 (va_cpy (Y 14) (Y 15) (100 * xn (xs (i + 1)) + xn (xs (i + 2))) 0 (xn (xs (i + 5))))) 14 (va_cpy (va_cpy (Y 14) (Y 15) (100 * xn (xs (i + 1)) + xn (xs (i + 2))) 0 (xn (xs (i + 5)))) (Y 14) 0 (100 * xn (xs (i + 3)) + xn (xs (i + 4))) (xn (xs (i + 5)))) else Y) tr (fCopy hs la le (xs (i + 1)) (xs (i + 2)) (xs (i + 3)) (xs (i + 4)) (xs (i + 5)))) ⟨hx, hb, hml, hown, hts⟩ (kX4_copy l dC dI cI cZ qm n mb f Y hs la le C hI.2.2.2.1 (xs (i + 1)) (xs (i + 2)) (xs (i + 3)) (xs (i + 4)) (xs (i + 5)) _) (cwV 5 hts gL_law_X4_copy rfl rfl rfl hdX4_copy ⟨Nat.le_trans (Nat.le_of_ble_eq_true rfl) hRf, Nat.le_trans (Nat.le_of_ble_eq_true rfl) hRl⟩) (va_recv hK hP (ci := 4) (q0 := 23) rfl rfl) (hK.sub [0, 2] rfl) rfl hl.1 rfl (Nat.le_of_ble_eq_true rfl) dL_law_934 ⟨hcc, hcs⟩ hP hD hS hA [23, 24, 25, 26, 27, 28, 29, 30, 31, 32, 33, 34, 35, 36, 37, 38, 39] [0, 1, 2, 3, 4, 5, 6, 7, 8, 9, 10, 11, 12, 13, 14, 15, 16, 17, 18, 19, 20, 21, 22] [0, 1, 2, 3, 4, 5, 6, 7, 8, 9, 10, 11, 12, 13, 14, 15, 16, 17, 18, 19, 20, 21, 22, 23, 24, 25, 26, 27, 28, 29, 30, 31, 32, 33, 34, 35, 36, 37, 38, 39] rfl rfl (by decide) (by decide) (by decide) rfl rfl (fun H locs hP hS => ?_)
  have hD : va_D Z (lwW cS cI cZ a r0 qs qr t q qm hs la le (if okCopy hs la le (xs (i + 1)) (xs (i + 2)) (xs (i + 3)) (xs (i + 4)) (xs (i + 5)) = true then uC C (xn (xs (i + 3))) (va_cpy (C (xn (xs (i + 1)))) (C (xn (xs (i + 3)))) (xn (xs (i + 2))) (xn (xs (i + 4))) (xn (xs (i + 5)))) else C) x n X n mb (uF f 0 (fCopy hs la le (xs (i + 1)) (xs (i + 2)) (xs (i + 3)) (xs (i + 4)) (xs (i + 5)))) (if okCopy hs la le (xs (i + 1)) (xs (i + 2)) (xs (i + 3)) (xs (i + 4)) (xs (i + 5)) = true then uY (uY Y 15 (va_cpy (Y 14) (Y 15) (100 * xn (xs (i + 1)) + xn (xs (i + 2))) 0 (xn (xs (i + 5))))) 14 (va_cpy (va_cpy (Y 14) (Y 15) (100 * xn (xs (i + 1)) + xn (xs (i + 2))) 0 (xn (xs (i + 5)))) (Y 14) 0 (100 * xn (xs (i + 3)) + xn (xs (i + 4))) (xn (xs (i + 5)))) else Y) tr (fCopy hs la le (xs (i + 1)) (xs (i + 2)) (xs (i + 3)) (xs (i + 4)) (xs (i + 5)))) := hD.same rfl
  refine lv_icmp_eq (tgt := 1070) hx hb dL_law_937 (by decide) (fun _ => ?_) (fun h => absurd rfl h)
  have hD : va_D Z (lwW cS cI cZ a r0 qs qr t q qm hs la le (if okCopy hs la le (xs (i + 1)) (xs (i + 2)) (xs (i + 3)) (xs (i + 4)) (xs (i + 5)) = true then uC C (xn (xs (i + 3))) (va_cpy (C (xn (xs (i + 1)))) (C (xn (xs (i + 3)))) (xn (xs (i + 2))) (xn (xs (i + 4))) (xn (xs (i + 5)))) else C) x n X n mb (uF f 0 (fCopy hs la le (xs (i + 1)) (xs (i + 2)) (xs (i + 3)) (xs (i + 4)) (xs (i + 5)))) (if okCopy hs la le (xs (i + 1)) (xs (i + 2)) (xs (i + 3)) (xs (i + 4)) (xs (i + 5)) = true then uY (uY Y 15 (va_cpy (Y 14) (Y 15) (100 * xn (xs (i + 1)) + xn (xs (i + 2))) 0 (xn (xs (i + 5))))) 14 (va_cpy (va_cpy (Y 14) (Y 15) (100 * xn (xs (i + 1)) + xn (xs (i + 2))) 0 (xn (xs (i + 5)))) (Y 14) 0 (100 * xn (xs (i + 3)) + xn (xs (i + 4))) (xn (xs (i + 5)))) else Y) tr (fCopy hs la le (xs (i + 1)) (xs (i + 2)) (xs (i + 3)) (xs (i + 4)) (xs (i + 5)))) := hD.same rfl
  exact kk _ _ ⟨_, _, _, _, _, _, _, _, _, _, _, _, _, (LI_copy hI (xs (i + 1)) (xs (i + 2)) (xs (i + 3)) (xs (i + 4)) (xs (i + 5))), hP, hD⟩ hS
theorem hdX3_tell : yX3_tell.cls = RX3 ∧ yX3_tell.cls ≠ "java/lang/invoke/MethodHandle" ∧ yX3_tell.cls ≠ "java/lang/invoke/VarHandle" ∧ (parseMethodDescriptor yX3_tell.desc).map (fun d => d.parameters.length) = some 1 := by decide +kernel
theorem hdX4_tell : yX4_tell.cls = RX4 ∧ yX4_tell.cls ≠ "java/lang/invoke/MethodHandle" ∧ yX4_tell.cls ≠ "java/lang/invoke/VarHandle" ∧ (parseMethodDescriptor yX4_tell.desc).map (fun d => d.parameters.length) = some 1 := by decide +kernel
set_option maxHeartbeats 4000000 in
set_option maxRecDepth 100000 in
theorem lc_tell {pp : Program} {l : Launch} {ee : Env} {RR : Room} {ss : State} {mm : MethodId} {bb : List Frame} {me : Method} {cd : Code} {QQ : State → Prop} {dC : Nat → ClassId} {dI : Nat → Nat → Nat} {cS cI cZ : ClassId} {a r0 : Nat} {qs qr t q qm : Nat → Nat} {tH b L i : Nat} {xs : Nat → Int32} {Z : Nat → Prop} {cells slots : Nat} {H : Heap} {locs : List Loc} {ls : Array Slot} (E : lw_E pp ss mm cd RR dC dI cS cI cZ tH b L xs Z cells slots) (hi : i + 6 ≤ L) (hJ : LJ dC dI cS cI cZ a r0 qs qr t q qm Z H) (hS : va_S Z ss.heap H locs) (hl : lv_has ls 4 [(3, .int (nI i)), (2, .ref (qm 0)), (1, .ref a), (0, .ref b)]) (kk : ∀ (H : Heap) (locs : List Loc), LJ dC dI cS cI cZ a r0 qs qr t q qm Z H → va_S Z ss.heap H locs → W pp l ee RR ss mm #[Value.ref b] bb me cd H locs cells slots QQ (F0 mm 1070 ls [])) : W pp l ee RR ss mm #[Value.ref b] bb me cd H locs cells slots QQ (F0 mm 942 ls []) := by
  obtain ⟨hx, hb, hml, hown, hts, hRf, hRl, hcc, hcs, hK, hA, hZT, hX, hbl, hbA, hL⟩ := E
  obtain ⟨hs, la, le, C, x, n, A, X, mb, f, Y, tr, fl, hI, hP, hD⟩ := hJ
  refine lv_aload_n hx hb dL_law_942 rfl (lv_at hl 2 rfl) ?_
  refine lv_aload_n hx hb dL_law_943 rfl (lv_at hl 3 rfl) ?_
  refine lv_iload_n hx hb dL_law_944 rfl (lv_at hl 0 rfl) ?_
  refine lv_iconst (v := nI 1) hx hb dL_law_945 rfl ?_
  refine x_iadd hx hb dL_law_946 ?_
  refine x_sld hx hb hX hbl hbA hS (by omega) (by omega) dL_law_947 ?_
  refine rwW_i (As := [.int (xs (i + 1))]) (rest := []) (wn := lwW cS cI cZ a r0 qs qr t q qm hs la le C x n X n mb f Y (vTell n A (xs (i + 1)) tr) fl) ⟨hx, hb, hml, hown, hts⟩ (kX3_tell l dC dI a r0 (t 0) tr fl cI q n A X hI.1 hI.2.1 (xs (i + 1)) _) (cwV 1 hts gL_law_X3_tell rfl rfl rfl hdX3_tell ⟨Nat.le_trans (Nat.le_of_ble_eq_true rfl) hRf, Nat.le_trans (Nat.le_of_ble_eq_true rfl) hRl⟩) (va_recv hK hP (ci := 3) (q0 := 0) rfl rfl) (hK.sub [0] rfl) rfl hl.1 rfl (Nat.le_of_ble_eq_true rfl) dL_law_948 ⟨hcc, hcs⟩ hP hD hS hA [0, 14, 15, 16, 17, 18, 19, 20, 21, 22] [1, 2, 3, 4, 5, 6, 7, 8, 9, 10, 11, 12, 13, 23, 24, 25, 26, 27, 28, 29, 30, 31, 32, 33, 34, 35, 36, 37, 38, 39] [30, 0, 1, 2, 3, 4, 5, 6, 7, 8, 9, 10, 11, 12, 31, 32, 33, 34, 35, 36, 37, 38, 39, 13, 14, 15, 16, 17, 18, 19, 20, 21, 22, 23, 24, 25, 26, 27, 28, 29] rfl rfl (by decide) (by decide) (by decide) rfl rfl (fun H locs hP hS => ?_)
  have hD : va_D Z (lwW cS cI cZ a r0 qs qr t q qm hs la le C x n X n mb f Y (vTell n A (xs (i + 1)) tr) fl) := hD.same rfl
  refine lv_aload_n hx hb dL_law_951 rfl (lv_at hl 1 rfl) ?_
  refine lv_aload_n hx hb dL_law_952 rfl (lv_at hl 3 rfl) ?_
  refine lv_iload_n hx hb dL_law_953 rfl (lv_at hl 0 rfl) ?_
  refine lv_iconst (v := nI 1) hx hb dL_law_954 rfl ?_
  refine x_iadd hx hb dL_law_955 ?_
  refine x_sld hx hb hX hbl hbA hS (by omega) (by omega) dL_law_956 ?_
  refine rwW_i (As := [.int (xs (i + 1))]) (rest := [.int (uTell n A (xs (i + 1)))]) (wn := lwW cS cI cZ a r0 qs qr t q qm hs la le C x n X n mb (uF f 30 (vTell n A (xs (i + 1)) (f 30))) Y (vTell n A (xs (i + 1)) tr) fl) ⟨hx, hb, hml, hown, hts⟩ (kX4_tell l dC dI cI cZ qm n mb f A Y hI.1 hI.2.2.1 hI.2.2.2.2.1 (xs (i + 1)) _) (cwV 1 hts gL_law_X4_tell rfl rfl rfl hdX4_tell ⟨Nat.le_trans (Nat.le_of_ble_eq_true rfl) hRf, Nat.le_trans (Nat.le_of_ble_eq_true rfl) hRl⟩) (va_recv hK hP (ci := 4) (q0 := 23) rfl rfl) (hK.sub [0, 2] rfl) rfl hl.1 rfl (Nat.le_of_ble_eq_true rfl) dL_law_957 ⟨hcc, hcs⟩ hP hD hS hA [23, 24, 25, 26, 27, 28, 29, 30, 31, 32, 33, 34, 35, 36, 37, 38, 39] [0, 1, 2, 3, 4, 5, 6, 7, 8, 9, 10, 11, 12, 13, 14, 15, 16, 17, 18, 19, 20, 21, 22] [0, 1, 2, 3, 4, 5, 6, 7, 8, 9, 10, 11, 12, 13, 14, 15, 16, 17, 18, 19, 20, 21, 22, 23, 24, 25, 26, 27, 28, 29, 30, 31, 32, 33, 34, 35, 36, 37, 38, 39] rfl rfl (by decide) (by decide) (by decide) rfl rfl (fun H locs hP hS => ?_)
  have hD : va_D Z (lwW cS cI cZ a r0 qs qr t q qm hs la le C x n X n mb (uF f 30 (vTell n A (xs (i + 1)) (f 30))) Y (vTell n A (xs (i + 1)) tr) fl) := hD.same rfl
  refine lv_icmp_eq (tgt := 1070) hx hb dL_law_960 (by decide) (fun _ => ?_) (fun h => absurd rfl h)
  have hD : va_D Z (lwW cS cI cZ a r0 qs qr t q qm hs la le C x n X n mb (uF f 30 (vTell n A (xs (i + 1)) (f 30))) Y (vTell n A (xs (i + 1)) tr) fl) := hD.same rfl
  exact kk _ _ ⟨_, _, _, _, _, _, _, _, _, _, _, _, _, (LI_tr hI (v := vTell n A (xs (i + 1)) (f 30)) (v' := vTell n A (xs (i + 1)) tr) (by rw [hI.2.2.2.2.2.2.1])), hP, hD⟩ hS
theorem hdX3_tend : yX3_tend.cls = RX3 ∧ yX3_tend.cls ≠ "java/lang/invoke/MethodHandle" ∧ yX3_tend.cls ≠ "java/lang/invoke/VarHandle" ∧ (parseMethodDescriptor yX3_tend.desc).map (fun d => d.parameters.length) = some 1 := by decide +kernel
theorem hdX4_tend : yX4_tend.cls = RX4 ∧ yX4_tend.cls ≠ "java/lang/invoke/MethodHandle" ∧ yX4_tend.cls ≠ "java/lang/invoke/VarHandle" ∧ (parseMethodDescriptor yX4_tend.desc).map (fun d => d.parameters.length) = some 1 := by decide +kernel
set_option maxHeartbeats 4000000 in
set_option maxRecDepth 100000 in
theorem lc_tend {pp : Program} {l : Launch} {ee : Env} {RR : Room} {ss : State} {mm : MethodId} {bb : List Frame} {me : Method} {cd : Code} {QQ : State → Prop} {dC : Nat → ClassId} {dI : Nat → Nat → Nat} {cS cI cZ : ClassId} {a r0 : Nat} {qs qr t q qm : Nat → Nat} {tH b L i : Nat} {xs : Nat → Int32} {Z : Nat → Prop} {cells slots : Nat} {H : Heap} {locs : List Loc} {ls : Array Slot} (E : lw_E pp ss mm cd RR dC dI cS cI cZ tH b L xs Z cells slots) (hi : i + 6 ≤ L) (hJ : LJ dC dI cS cI cZ a r0 qs qr t q qm Z H) (hS : va_S Z ss.heap H locs) (hl : lv_has ls 4 [(3, .int (nI i)), (2, .ref (qm 0)), (1, .ref a), (0, .ref b)]) (kk : ∀ (H : Heap) (locs : List Loc), LJ dC dI cS cI cZ a r0 qs qr t q qm Z H → va_S Z ss.heap H locs → W pp l ee RR ss mm #[Value.ref b] bb me cd H locs cells slots QQ (F0 mm 1070 ls [])) : W pp l ee RR ss mm #[Value.ref b] bb me cd H locs cells slots QQ (F0 mm 965 ls []) := by
  obtain ⟨hx, hb, hml, hown, hts, hRf, hRl, hcc, hcs, hK, hA, hZT, hX, hbl, hbA, hL⟩ := E
  obtain ⟨hs, la, le, C, x, n, A, X, mb, f, Y, tr, fl, hI, hP, hD⟩ := hJ
  refine lv_aload_n hx hb dL_law_965 rfl (lv_at hl 2 rfl) ?_
  refine lv_aload_n hx hb dL_law_966 rfl (lv_at hl 3 rfl) ?_
  refine lv_iload_n hx hb dL_law_967 rfl (lv_at hl 0 rfl) ?_
  refine lv_iconst (v := nI 1) hx hb dL_law_968 rfl ?_
  refine x_iadd hx hb dL_law_969 ?_
  refine x_sld hx hb hX hbl hbA hS (by omega) (by omega) dL_law_970 ?_
  refine rwW_i (As := [.int (xs (i + 1))]) (rest := []) (wn := lwW cS cI cZ a r0 qs qr t q qm hs la le C x n X n mb f Y (vTend n A (xs (i + 1)) tr) fl) ⟨hx, hb, hml, hown, hts⟩ (kX3_tend l dC dI a r0 (t 0) tr fl cI q n A X hI.1 hI.2.1 (xs (i + 1)) _) (cwV 1 hts gL_law_X3_tend rfl rfl rfl hdX3_tend ⟨Nat.le_trans (Nat.le_of_ble_eq_true rfl) hRf, Nat.le_trans (Nat.le_of_ble_eq_true rfl) hRl⟩) (va_recv hK hP (ci := 3) (q0 := 0) rfl rfl) (hK.sub [0] rfl) rfl hl.1 rfl (Nat.le_of_ble_eq_true rfl) dL_law_971 ⟨hcc, hcs⟩ hP hD hS hA [0, 14, 15, 16, 17, 18, 19, 20, 21, 22] [1, 2, 3, 4, 5, 6, 7, 8, 9, 10, 11, 12, 13, 23, 24, 25, 26, 27, 28, 29, 30, 31, 32, 33, 34, 35, 36, 37, 38, 39] [30, 0, 1, 2, 3, 4, 5, 6, 7, 8, 9, 10, 11, 12, 31, 32, 33, 34, 35, 36, 37, 38, 39, 13, 14, 15, 16, 17, 18, 19, 20, 21, 22, 23, 24, 25, 26, 27, 28, 29] rfl rfl (by decide) (by decide) (by decide) rfl rfl (fun H locs hP hS => ?_)
  have hD : va_D Z (lwW cS cI cZ a r0 qs qr t q qm hs la le C x n X n mb f Y (vTend n A (xs (i + 1)) tr) fl) := hD.same rfl
  refine lv_aload_n hx hb dL_law_974 rfl (lv_at hl 1 rfl) ?_
  refine lv_aload_n hx hb dL_law_975 rfl (lv_at hl 3 rfl) ?_
  refine lv_iload_n hx hb dL_law_976 rfl (lv_at hl 0 rfl) ?_
  refine lv_iconst (v := nI 1) hx hb dL_law_977 rfl ?_
  refine x_iadd hx hb dL_law_978 ?_
  refine x_sld hx hb hX hbl hbA hS (by omega) (by omega) dL_law_979 ?_
  refine rwW_i (As := [.int (xs (i + 1))]) (rest := [.int (uTend n A (xs (i + 1)))]) (wn := lwW cS cI cZ a r0 qs qr t q qm hs la le C x n X n mb (uF f 30 (vTend n A (xs (i + 1)) (f 30))) Y (vTend n A (xs (i + 1)) tr) fl) ⟨hx, hb, hml, hown, hts⟩ (kX4_tend l dC dI cI cZ qm n mb f A Y hI.1 hI.2.2.1 hI.2.2.2.2.1 (xs (i + 1)) _) (cwV 1 hts gL_law_X4_tend rfl rfl rfl hdX4_tend ⟨Nat.le_trans (Nat.le_of_ble_eq_true rfl) hRf, Nat.le_trans (Nat.le_of_ble_eq_true rfl) hRl⟩) (va_recv hK hP (ci := 4) (q0 := 23) rfl rfl) (hK.sub [0, 2] rfl) rfl hl.1 rfl (Nat.le_of_ble_eq_true rfl) dL_law_980 ⟨hcc, hcs⟩ hP hD hS hA [23, 24, 25, 26, 27, 28, 29, 30, 31, 32, 33, 34, 35, 36, 37, 38, 39] [0, 1, 2, 3, 4, 5, 6, 7, 8, 9, 10, 11, 12, 13, 14, 15, 16, 17, 18, 19, 20, 21, 22] [0, 1, 2, 3, 4, 5, 6, 7, 8, 9, 10, 11, 12, 13, 14, 15, 16, 17, 18, 19, 20, 21, 22, 23, 24, 25, 26, 27, 28, 29, 30, 31, 32, 33, 34, 35, 36, 37, 38, 39] rfl rfl (by decide) (by decide) (by decide) rfl rfl (fun H locs hP hS => ?_)
  have hD : va_D Z (lwW cS cI cZ a r0 qs qr t q qm hs la le C x n X n mb (uF f 30 (vTend n A (xs (i + 1)) (f 30))) Y (vTend n A (xs (i + 1)) tr) fl) := hD.same rfl
  refine lv_icmp_eq (tgt := 1070) hx hb dL_law_983 (by decide) (fun _ => ?_) (fun h => absurd rfl h)
  have hD : va_D Z (lwW cS cI cZ a r0 qs qr t q qm hs la le C x n X n mb (uF f 30 (vTend n A (xs (i + 1)) (f 30))) Y (vTend n A (xs (i + 1)) tr) fl) := hD.same rfl
  exact kk _ _ ⟨_, _, _, _, _, _, _, _, _, _, _, _, _, (LI_tr hI (v := vTend n A (xs (i + 1)) (f 30)) (v' := vTend n A (xs (i + 1)) tr) (by rw [hI.2.2.2.2.2.2.1])), hP, hD⟩ hS
theorem hdX3_as : yX3_as.cls = RX3 ∧ yX3_as.cls ≠ "java/lang/invoke/MethodHandle" ∧ yX3_as.cls ≠ "java/lang/invoke/VarHandle" ∧ (parseMethodDescriptor yX3_as.desc).map (fun d => d.parameters.length) = some 2 := by decide +kernel
theorem hdX4_as : yX4_as.cls = RX4 ∧ yX4_as.cls ≠ "java/lang/invoke/MethodHandle" ∧ yX4_as.cls ≠ "java/lang/invoke/VarHandle" ∧ (parseMethodDescriptor yX4_as.desc).map (fun d => d.parameters.length) = some 2 := by decide +kernel
set_option maxHeartbeats 4000000 in
set_option maxRecDepth 100000 in
theorem lc_as {pp : Program} {l : Launch} {ee : Env} {RR : Room} {ss : State} {mm : MethodId} {bb : List Frame} {me : Method} {cd : Code} {QQ : State → Prop} {dC : Nat → ClassId} {dI : Nat → Nat → Nat} {cS cI cZ : ClassId} {a r0 : Nat} {qs qr t q qm : Nat → Nat} {tH b L i : Nat} {xs : Nat → Int32} {Z : Nat → Prop} {cells slots : Nat} {H : Heap} {locs : List Loc} {ls : Array Slot} (E : lw_E pp ss mm cd RR dC dI cS cI cZ tH b L xs Z cells slots) (hi : i + 6 ≤ L) (hJ : LJ dC dI cS cI cZ a r0 qs qr t q qm Z H) (hS : va_S Z ss.heap H locs) (hl : lv_has ls 4 [(3, .int (nI i)), (2, .ref (qm 0)), (1, .ref a), (0, .ref b)]) (kk : ∀ (H : Heap) (locs : List Loc), LJ dC dI cS cI cZ a r0 qs qr t q qm Z H → va_S Z ss.heap H locs → W pp l ee RR ss mm #[Value.ref b] bb me cd H locs cells slots QQ (F0 mm 1070 ls [])) : W pp l ee RR ss mm #[Value.ref b] bb me cd H locs cells slots QQ (F0 mm 988 ls []) := by
  obtain ⟨hx, hb, hml, hown, hts, hRf, hRl, hcc, hcs, hK, hA, hZT, hX, hbl, hbA, hL⟩ := E
  obtain ⟨hs, la, le, C, x, n, A, X, mb, f, Y, tr, fl, hI, hP, hD⟩ := hJ
  refine lv_aload_n hx hb dL_law_988 rfl (lv_at hl 2 rfl) ?_
  refine lv_aload_n hx hb dL_law_989 rfl (lv_at hl 3 rfl) ?_
  refine lv_iload_n hx hb dL_law_990 rfl (lv_at hl 0 rfl) ?_
  refine lv_iconst (v := nI 1) hx hb dL_law_991 rfl ?_
  refine x_iadd hx hb dL_law_992 ?_
  refine x_sld hx hb hX hbl hbA hS (by omega) (by omega) dL_law_993 ?_
  refine lv_aload_n hx hb dL_law_994 rfl (lv_at hl 3 rfl) ?_
  refine lv_iload_n hx hb dL_law_995 rfl (lv_at hl 0 rfl) ?_
  refine lv_iconst (v := nI 2) hx hb dL_law_996 rfl ?_
  refine x_iadd hx hb dL_law_997 ?_
  refine x_sld hx hb hX hbl hbA hS (by omega) (by omega) dL_law_998 ?_
  refine rwW_i (As := [.int (xs (i + 1)), .int (xs (i + 2))]) (rest := []) (wn := lwW cS cI cZ a r0 qs qr t q qm hs la le C x n X n mb f Y tr (vAs n A (xs (i + 1)) (xs (i + 2)))) ⟨hx, hb, hml, hown, hts⟩ (kX3_as l dC dI a r0 (t 0) tr fl cI q n A X hI.1 hI.2.1 (xs (i + 1)) (xs (i + 2)) _) (cwV 2 hts gL_law_X3_as rfl rfl rfl hdX3_as ⟨Nat.le_trans (Nat.le_of_ble_eq_true rfl) hRf, Nat.le_trans (Nat.le_of_ble_eq_true rfl) hRl⟩) (va_recv hK hP (ci := 3) (q0 := 0) rfl rfl) (hK.sub [0] rfl) rfl hl.1 rfl (Nat.le_of_ble_eq_true rfl) dL_law_999 ⟨hcc, hcs⟩ hP hD hS hA [0, 14, 15, 16, 17, 18, 19, 20, 21, 22] [1, 2, 3, 4, 5, 6, 7, 8, 9, 10, 11, 12, 13, 23, 24, 25, 26, 27, 28, 29, 30, 31, 32, 33, 34, 35, 36, 37, 38, 39] [30, 0, 1, 2, 3, 4, 5, 6, 7, 8, 9, 10, 11, 12, 31, 32, 33, 34, 35, 36, 37, 38, 39, 13, 14, 15, 16, 17, 18, 19, 20, 21, 22, 23, 24, 25, 26, 27, 28, 29] rfl rfl (by decide) (by decide) (by decide) rfl rfl (fun H locs hP hS => ?_)
  have hD : va_D Z (lwW cS cI cZ a r0 qs qr t q qm hs la le C x n X n mb f Y tr (vAs n A (xs (i + 1)) (xs (i + 2)))) := hD.same rfl
  refine lv_aload_n hx hb dL_law_1002 rfl (lv_at hl 1 rfl) ?_
  refine lv_aload_n hx hb dL_law_1003 rfl (lv_at hl 3 rfl) ?_
  refine lv_iload_n hx hb dL_law_1004 rfl (lv_at hl 0 rfl) ?_
  refine lv_iconst (v := nI 1) hx hb dL_law_1005 rfl ?_
  refine x_iadd hx hb dL_law_1006 ?_
  refine x_sld hx hb hX hbl hbA hS (by omega) (by omega) dL_law_1007 ?_
  refine lv_aload_n hx hb dL_law_1008 rfl (lv_at hl 3 rfl) ?_
  refine lv_iload_n hx hb dL_law_1009 rfl (lv_at hl 0 rfl) ?_
  refine lv_iconst (v := nI 2) hx hb dL_law_1010 rfl ?_
  refine x_iadd hx hb dL_law_1011 ?_
  refine x_sld hx hb hX hbl hbA hS (by omega) (by omega) dL_law_1012 ?_
  refine rwW_i (As := [.int (xs (i + 1)), .int (xs (i + 2))]) (rest := [.int (uAs n A (xs (i + 1)) (xs (i + 2)))]) (wn := lwW cS cI cZ a r0 qs qr t q qm hs la le C x n X n mb (uF f 0 (vAs n A (xs (i + 1)) (xs (i + 2)))) Y tr (vAs n A (xs (i + 1)) (xs (i + 2)))) ⟨hx, hb, hml, hown, hts⟩ (kX4_as l dC dI cI cZ qm n mb f A Y hI.1 hI.2.2.1 hI.2.2.2.2.1 (xs (i + 1)) (xs (i + 2)) _) (cwV 2 hts gL_law_X4_as rfl rfl rfl hdX4_as ⟨Nat.le_trans (Nat.le_of_ble_eq_true rfl) hRf, Nat.le_trans (Nat.le_of_ble_eq_true rfl) hRl⟩) (va_recv hK hP (ci := 4) (q0 := 23) rfl rfl) (hK.sub [0, 2] rfl) rfl hl.1 rfl (Nat.le_of_ble_eq_true rfl) dL_law_1013 ⟨hcc, hcs⟩ hP hD hS hA [23, 24, 25, 26, 27, 28, 29, 30, 31, 32, 33, 34, 35, 36, 37, 38, 39] [0, 1, 2, 3, 4, 5, 6, 7, 8, 9, 10, 11, 12, 13, 14, 15, 16, 17, 18, 19, 20, 21, 22] [0, 1, 2, 3, 4, 5, 6, 7, 8, 9, 10, 11, 12, 13, 14, 15, 16, 17, 18, 19, 20, 21, 22, 23, 24, 25, 26, 27, 28, 29, 30, 31, 32, 33, 34, 35, 36, 37, 38, 39] rfl rfl (by decide) (by decide) (by decide) rfl rfl (fun H locs hP hS => ?_)
  have hD : va_D Z (lwW cS cI cZ a r0 qs qr t q qm hs la le C x n X n mb (uF f 0 (vAs n A (xs (i + 1)) (xs (i + 2)))) Y tr (vAs n A (xs (i + 1)) (xs (i + 2)))) := hD.same rfl
  refine lv_icmp_eq (tgt := 1070) hx hb dL_law_1016 (by decide) (fun _ => ?_) (fun h => absurd rfl h)
  have hD : va_D Z (lwW cS cI cZ a r0 qs qr t q qm hs la le C x n X n mb (uF f 0 (vAs n A (xs (i + 1)) (xs (i + 2)))) Y tr (vAs n A (xs (i + 1)) (xs (i + 2)))) := hD.same rfl
  exact kk _ _ ⟨_, _, _, _, _, _, _, _, _, _, _, _, _, (LI_fl hI (vAs n A (xs (i + 1)) (xs (i + 2)))), hP, hD⟩ hS
theorem hdX3_trace : yX3_trace.cls = RX3 ∧ yX3_trace.cls ≠ "java/lang/invoke/MethodHandle" ∧ yX3_trace.cls ≠ "java/lang/invoke/VarHandle" ∧ (parseMethodDescriptor yX3_trace.desc).map (fun d => d.parameters.length) = some 0 := by decide +kernel
theorem hdX4_trace : yX4_trace.cls = RX4 ∧ yX4_trace.cls ≠ "java/lang/invoke/MethodHandle" ∧ yX4_trace.cls ≠ "java/lang/invoke/VarHandle" ∧ (parseMethodDescriptor yX4_trace.desc).map (fun d => d.parameters.length) = some 0 := by decide +kernel
set_option maxHeartbeats 4000000 in
set_option maxRecDepth 100000 in
theorem lc_trace {pp : Program} {l : Launch} {ee : Env} {RR : Room} {ss : State} {mm : MethodId} {bb : List Frame} {me : Method} {cd : Code} {QQ : State → Prop} {dC : Nat → ClassId} {dI : Nat → Nat → Nat} {cS cI cZ : ClassId} {a r0 : Nat} {qs qr t q qm : Nat → Nat} {tH b L i : Nat} {xs : Nat → Int32} {Z : Nat → Prop} {cells slots : Nat} {H : Heap} {locs : List Loc} {ls : Array Slot} (E : lw_E pp ss mm cd RR dC dI cS cI cZ tH b L xs Z cells slots) (hi : i + 6 ≤ L) (hJ : LJ dC dI cS cI cZ a r0 qs qr t q qm Z H) (hS : va_S Z ss.heap H locs) (hl : lv_has ls 4 [(3, .int (nI i)), (2, .ref (qm 0)), (1, .ref a), (0, .ref b)]) (kk : ∀ (H : Heap) (locs : List Loc), LJ dC dI cS cI cZ a r0 qs qr t q qm Z H → va_S Z ss.heap H locs → W pp l ee RR ss mm #[Value.ref b] bb me cd H locs cells slots QQ (F0 mm 1070 ls [])) : W pp l ee RR ss mm #[Value.ref b] bb me cd H locs cells slots QQ (F0 mm 1021 ls []) := by
  obtain ⟨hx, hb, hml, hown, hts, hRf, hRl, hcc, hcs, hK, hA, hZT, hX, hbl, hbA, hL⟩ := E
  obtain ⟨hs, la, le, C, x, n, A, X, mb, f, Y, tr, fl, hI, hP, hD⟩ := hJ
  refine lv_aload_n hx hb dL_law_1021 rfl (lv_at hl 2 rfl) ?_
  refine roV_i (As := []) (rest := []) ⟨hx, hb, hml, hown, hts⟩ (kX3_trace l dC dI a r0 (t 0) tr fl cI q n A X hI.1 hI.2.1  _) (cwV 0 hts gL_law_X3_trace rfl rfl rfl hdX3_trace ⟨Nat.le_trans (Nat.le_of_ble_eq_true rfl) hRf, Nat.le_trans (Nat.le_of_ble_eq_true rfl) hRl⟩) (va_recv hK hP (ci := 3) (q0 := 0) rfl rfl) (hK.sub [0] rfl) (hP.sub [0, 14, 15, 16, 17, 18, 19, 20, 21, 22] rfl) rfl hl.1 rfl (Nat.le_of_ble_eq_true rfl) dL_law_1022 ⟨hcc, hcs⟩ hP hS hA (fun H locs hP hS => ?_)
  refine lv_aload_n hx hb dL_law_1025 rfl (lv_at hl 1 rfl) ?_
  refine roV_i (As := []) (rest := [.int tr]) ⟨hx, hb, hml, hown, hts⟩ (kX4_trace l dC dI cI cZ qm n mb f A Y hI.1 hI.2.2.1 hI.2.2.2.2.1  _) (cwV 0 hts gL_law_X4_trace rfl rfl rfl hdX4_trace ⟨Nat.le_trans (Nat.le_of_ble_eq_true rfl) hRf, Nat.le_trans (Nat.le_of_ble_eq_true rfl) hRl⟩) (va_recv hK hP (ci := 4) (q0 := 23) rfl rfl) (hK.sub [0, 2] rfl) (hP.sub [23, 24, 25, 26, 27, 28, 29, 30, 31, 32, 33, 34, 35, 36, 37, 38, 39] rfl) rfl hl.1 rfl (Nat.le_of_ble_eq_true rfl) dL_law_1026 ⟨hcc, hcs⟩ hP hS hA (fun H locs hP hS => ?_)
  refine lv_icmp_eq (tgt := 1070) hx hb dL_law_1029 (by decide) (fun _ => ?_) (fun h => absurd hI.2.2.2.2.2.2.1.symm h)
  have hD : va_D Z (lwW cS cI cZ a r0 qs qr t q qm hs la le C x n X n mb f Y tr fl) := hD.same rfl
  exact kk _ _ ⟨_, _, _, _, _, _, _, _, _, _, _, _, _, hI, hP, hD⟩ hS
theorem hdX3_fault : yX3_fault.cls = RX3 ∧ yX3_fault.cls ≠ "java/lang/invoke/MethodHandle" ∧ yX3_fault.cls ≠ "java/lang/invoke/VarHandle" ∧ (parseMethodDescriptor yX3_fault.desc).map (fun d => d.parameters.length) = some 0 := by decide +kernel
theorem hdX4_fault : yX4_fault.cls = RX4 ∧ yX4_fault.cls ≠ "java/lang/invoke/MethodHandle" ∧ yX4_fault.cls ≠ "java/lang/invoke/VarHandle" ∧ (parseMethodDescriptor yX4_fault.desc).map (fun d => d.parameters.length) = some 0 := by decide +kernel
set_option maxHeartbeats 4000000 in
set_option maxRecDepth 100000 in
theorem lc_fault {pp : Program} {l : Launch} {ee : Env} {RR : Room} {ss : State} {mm : MethodId} {bb : List Frame} {me : Method} {cd : Code} {QQ : State → Prop} {dC : Nat → ClassId} {dI : Nat → Nat → Nat} {cS cI cZ : ClassId} {a r0 : Nat} {qs qr t q qm : Nat → Nat} {tH b L i : Nat} {xs : Nat → Int32} {Z : Nat → Prop} {cells slots : Nat} {H : Heap} {locs : List Loc} {ls : Array Slot} (E : lw_E pp ss mm cd RR dC dI cS cI cZ tH b L xs Z cells slots) (hi : i + 6 ≤ L) (hJ : LJ dC dI cS cI cZ a r0 qs qr t q qm Z H) (hS : va_S Z ss.heap H locs) (hl : lv_has ls 4 [(3, .int (nI i)), (2, .ref (qm 0)), (1, .ref a), (0, .ref b)]) (kk : ∀ (H : Heap) (locs : List Loc), LJ dC dI cS cI cZ a r0 qs qr t q qm Z H → va_S Z ss.heap H locs → W pp l ee RR ss mm #[Value.ref b] bb me cd H locs cells slots QQ (F0 mm 1070 ls [])) : W pp l ee RR ss mm #[Value.ref b] bb me cd H locs cells slots QQ (F0 mm 1034 ls []) := by
  obtain ⟨hx, hb, hml, hown, hts, hRf, hRl, hcc, hcs, hK, hA, hZT, hX, hbl, hbA, hL⟩ := E
  obtain ⟨hs, la, le, C, x, n, A, X, mb, f, Y, tr, fl, hI, hP, hD⟩ := hJ
  refine lv_aload_n hx hb dL_law_1034 rfl (lv_at hl 2 rfl) ?_
  refine roV_i (As := []) (rest := []) ⟨hx, hb, hml, hown, hts⟩ (kX3_fault l dC dI a r0 (t 0) tr fl cI q n A X hI.1 hI.2.1  _) (cwV 0 hts gL_law_X3_fault rfl rfl rfl hdX3_fault ⟨Nat.le_trans (Nat.le_of_ble_eq_true rfl) hRf, Nat.le_trans (Nat.le_of_ble_eq_true rfl) hRl⟩) (va_recv hK hP (ci := 3) (q0 := 0) rfl rfl) (hK.sub [0] rfl) (hP.sub [0, 14, 15, 16, 17, 18, 19, 20, 21, 22] rfl) rfl hl.1 rfl (Nat.le_of_ble_eq_true rfl) dL_law_1035 ⟨hcc, hcs⟩ hP hS hA (fun H locs hP hS => ?_)
  refine lv_aload_n hx hb dL_law_1038 rfl (lv_at hl 1 rfl) ?_
  refine roV_i (As := []) (rest := [.int fl]) ⟨hx, hb, hml, hown, hts⟩ (kX4_fault l dC dI cI cZ qm n mb f A Y hI.1 hI.2.2.1 hI.2.2.2.2.1  _) (cwV 0 hts gL_law_X4_fault rfl rfl rfl hdX4_fault ⟨Nat.le_trans (Nat.le_of_ble_eq_true rfl) hRf, Nat.le_trans (Nat.le_of_ble_eq_true rfl) hRl⟩) (va_recv hK hP (ci := 4) (q0 := 23) rfl rfl) (hK.sub [0, 2] rfl) (hP.sub [23, 24, 25, 26, 27, 28, 29, 30, 31, 32, 33, 34, 35, 36, 37, 38, 39] rfl) rfl hl.1 rfl (Nat.le_of_ble_eq_true rfl) dL_law_1039 ⟨hcc, hcs⟩ hP hS hA (fun H locs hP hS => ?_)
  refine lv_icmp_eq (tgt := 1070) hx hb dL_law_1042 (by decide) (fun _ => ?_) (fun h => absurd hI.2.2.2.2.2.2.2.symm h)
  have hD : va_D Z (lwW cS cI cZ a r0 qs qr t q qm hs la le C x n X n mb f Y tr fl) := hD.same rfl
  exact kk _ _ ⟨_, _, _, _, _, _, _, _, _, _, _, _, _, hI, hP, hD⟩ hS
theorem hdX3_many : yX3_many.cls = RX3 ∧ yX3_many.cls ≠ "java/lang/invoke/MethodHandle" ∧ yX3_many.cls ≠ "java/lang/invoke/VarHandle" ∧ (parseMethodDescriptor yX3_many.desc).map (fun d => d.parameters.length) = some 1 := by decide +kernel
theorem hdX4_many : yX4_many.cls = RX4 ∧ yX4_many.cls ≠ "java/lang/invoke/MethodHandle" ∧ yX4_many.cls ≠ "java/lang/invoke/VarHandle" ∧ (parseMethodDescriptor yX4_many.desc).map (fun d => d.parameters.length) = some 1 := by decide +kernel
set_option maxHeartbeats 4000000 in
set_option maxRecDepth 100000 in
theorem lc_many {pp : Program} {l : Launch} {ee : Env} {RR : Room} {ss : State} {mm : MethodId} {bb : List Frame} {me : Method} {cd : Code} {QQ : State → Prop} {dC : Nat → ClassId} {dI : Nat → Nat → Nat} {cS cI cZ : ClassId} {a r0 : Nat} {qs qr t q qm : Nat → Nat} {tH b L i : Nat} {xs : Nat → Int32} {Z : Nat → Prop} {cells slots : Nat} {H : Heap} {locs : List Loc} {ls : Array Slot} (E : lw_E pp ss mm cd RR dC dI cS cI cZ tH b L xs Z cells slots) (hi : i + 6 ≤ L) (hJ : LJ dC dI cS cI cZ a r0 qs qr t q qm Z H) (hS : va_S Z ss.heap H locs) (hl : lv_has ls 4 [(3, .int (nI i)), (2, .ref (qm 0)), (1, .ref a), (0, .ref b)]) (kk : ∀ (H : Heap) (locs : List Loc), LJ dC dI cS cI cZ a r0 qs qr t q qm Z H → va_S Z ss.heap H locs → W pp l ee RR ss mm #[Value.ref b] bb me cd H locs cells slots QQ (F0 mm 1070 ls [])) : W pp l ee RR ss mm #[Value.ref b] bb me cd H locs cells slots QQ (F0 mm 1047 ls []) := by
  obtain ⟨hx, hb, hml, hown, hts, hRf, hRl, hcc, hcs, hK, hA, hZT, hX, hbl, hbA, hL⟩ := E
  obtain ⟨hs, la, le, C, x, n, A, X, mb, f, Y, tr, fl, hI, hP, hD⟩ := hJ
  refine lv_aload_n hx hb dL_law_1047 rfl (lv_at hl 2 rfl) ?_
  refine lv_aload_n hx hb dL_law_1048 rfl (lv_at hl 3 rfl) ?_
  refine lv_iload_n hx hb dL_law_1049 rfl (lv_at hl 0 rfl) ?_
  refine lv_iconst (v := nI 1) hx hb dL_law_1050 rfl ?_
  refine x_iadd hx hb dL_law_1051 ?_
  refine x_sld hx hb hX hbl hbA hS (by omega) (by omega) dL_law_1052 ?_
  refine roV_i (As := [.int (xs (i + 1))]) (rest := []) ⟨hx, hb, hml, hown, hts⟩ (kX3_many l dC dI a r0 (t 0) tr fl cI q n A X hI.1 hI.2.1 (xs (i + 1)) _) (cwV 1 hts gL_law_X3_many rfl rfl rfl hdX3_many ⟨Nat.le_trans (Nat.le_of_ble_eq_true rfl) hRf, Nat.le_trans (Nat.le_of_ble_eq_true rfl) hRl⟩) (va_recv hK hP (ci := 3) (q0 := 0) rfl rfl) (hK.sub [0] rfl) (hP.sub [0, 14, 15, 16, 17, 18, 19, 20, 21, 22] rfl) rfl hl.1 rfl (Nat.le_of_ble_eq_true rfl) dL_law_1053 ⟨hcc, hcs⟩ hP hS hA (fun H locs hP hS => ?_)
  refine lv_aload_n hx hb dL_law_1056 rfl (lv_at hl 1 rfl) ?_
  refine lv_aload_n hx hb dL_law_1057 rfl (lv_at hl 3 rfl) ?_
  refine lv_iload_n hx hb dL_law_1058 rfl (lv_at hl 0 rfl) ?_
  refine lv_iconst (v := nI 1) hx hb dL_law_1059 rfl ?_
  refine x_iadd hx hb dL_law_1060 ?_
  refine x_sld hx hb hX hbl hbA hS (by omega) (by omega) dL_law_1061 ?_
  refine roV_i (As := [.int (xs (i + 1))]) (rest := [.int (uMany n (xs (i + 1)))]) ⟨hx, hb, hml, hown, hts⟩ (kX4_many l dC dI cI cZ qm n mb f A Y hI.1 hI.2.2.1 hI.2.2.2.2.1 (xs (i + 1)) _) (cwV 1 hts gL_law_X4_many rfl rfl rfl hdX4_many ⟨Nat.le_trans (Nat.le_of_ble_eq_true rfl) hRf, Nat.le_trans (Nat.le_of_ble_eq_true rfl) hRl⟩) (va_recv hK hP (ci := 4) (q0 := 23) rfl rfl) (hK.sub [0, 2] rfl) (hP.sub [23, 24, 25, 26, 27, 28, 29, 30, 31, 32, 33, 34, 35, 36, 37, 38, 39] rfl) rfl hl.1 rfl (Nat.le_of_ble_eq_true rfl) dL_law_1062 ⟨hcc, hcs⟩ hP hS hA (fun H locs hP hS => ?_)
  refine lv_icmp_eq (tgt := 1070) hx hb dL_law_1065 (by decide) (fun _ => ?_) (fun h => absurd rfl h)
  have hD : va_D Z (lwW cS cI cZ a r0 qs qr t q qm hs la le C x n X n mb f Y tr fl) := hD.same rfl
  exact kk _ _ ⟨_, _, _, _, _, _, _, _, _, _, _, _, _, hI, hP, hD⟩ hS
