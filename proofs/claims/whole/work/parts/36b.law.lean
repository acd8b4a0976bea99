theorem hdX3_best : yX3_best.cls = RX3 ∧ yX3_best.cls ≠ "java/lang/invoke/MethodHandle" ∧ yX3_best.cls ≠ "java/lang/invoke/VarHandle" ∧ (parseMethodDescriptor yX3_best.desc).map (fun d => d.parameters.length) = some 2 := by decide +kernel
theorem hdX4_best : yX4_best.cls = RX4 ∧ yX4_best.cls ≠ "java/lang/invoke/MethodHandle" ∧ yX4_best.cls ≠ "java/lang/invoke/VarHandle" ∧ (parseMethodDescriptor yX4_best.desc).map (fun d => d.parameters.length) = some 2 := by decide +kernel
set_option maxHeartbeats 4000000 in
set_option maxRecDepth 100000 in
theorem lc_best {pp : Program} {l : Launch} {ee : Env} {RR : Room} {ss : State} {mm : MethodId} {bb : List Frame} {me : Method} {cd : Code} {QQ : State → Prop} {dC : Nat → ClassId} {dI : Nat → Nat → Nat} {cS cI cZ : ClassId} {a r0 : Nat} {qs qr t q qm : Nat → Nat} {tH b L i : Nat} {xs : Nat → Int32} {Z : Nat → Prop} {cells slots : Nat} {H : Heap} {locs : List Loc} {ls : Array Slot} (E : lw_E pp ss mm cd RR dC dI cS cI cZ tH b L xs Z cells slots) (hi : i + 6 ≤ L) (hJ : LJ dC dI cS cI cZ a r0 qs qr t q qm Z H) (hS : va_S Z ss.heap H locs) (hl : lv_has ls 4 [(3, .int (nI i)), (2, .ref (qm 0)), (1, .ref a), (0, .ref b)]) (kk : ∀ (H : Heap) (locs : List Loc), LJ dC dI cS cI cZ a r0 qs qr t q qm Z H → va_S Z ss.heap H locs → W pp l ee RR ss mm #[Value.ref b] bb me cd H locs cells slots QQ (F0 mm 1070 ls [])) : W pp l ee RR ss mm #[Value.ref b] bb me cd H locs cells slots QQ (F0 mm 551 ls []) := by
  obtain ⟨hx, hb, hml, hown, hts, hRf, hRl, hcc, hcs, hK, hA, hZT, hX, hbl, hbA, hL⟩ := E
  obtain ⟨hs, la, le, C, x, n, A, X, mb, f, Y, tr, fl, hI, hP, hD⟩ := hJ
  refine lv_aload_n hx hb dL_law_551 rfl (lv_at hl 2 rfl) ?_
  refine lv_aload_n hx hb dL_law_552 rfl (lv_at hl 3 rfl) ?_
  refine lv_iload_n hx hb dL_law_553 rfl (lv_at hl 0 rfl) ?_
  refine lv_iconst (v := nI 1) hx hb dL_law_554 rfl ?_
  refine x_iadd hx hb dL_law_555 ?_
  refine x_sld hx hb hX hbl hbA hS (by omega) (by omega) dL_law_556 ?_
  refine lv_aload_n hx hb dL_law_557 rfl (lv_at hl 3 rfl) ?_
  refine lv_iload_n hx hb dL_law_558 rfl (lv_at hl 0 rfl) ?_
  refine lv_iconst (v := nI 2) hx hb dL_law_559 rfl ?_
  refine x_iadd hx hb dL_law_560 ?_
  refine x_sld hx hb hX hbl hbA hS (by omega) (by omega) dL_law_561 ?_
  refine roV_i (As := [.int (xs (i + 1)), .int (xs (i + 2))]) (rest := []) ⟨hx, hb, hml, hown, hts⟩ (kX3_best l dC dI a r0 (t 0) tr fl cI q n A X hI.1 hI.2.1 (xs (i + 1)) (xs (i + 2)) _) (cwV 2 hts gL_law_X3_best rfl rfl rfl hdX3_best ⟨Nat.le_trans (Nat.le_of_ble_eq_true rfl) hRf, Nat.le_trans (Nat.le_of_ble_eq_true rfl) hRl⟩) (va_recv hK hP (ci := 3) (q0 := 0) rfl rfl) (hK.sub [0] rfl) (hP.sub [0, 14, 15, 16, 17, 18, 19, 20, 21, 22] rfl) rfl hl.1 rfl (Nat.le_of_ble_eq_true rfl) dL_law_562 ⟨hcc, hcs⟩ hP hS hA (fun H locs hP hS => ?_)
  refine lv_aload_n hx hb dL_law_565 rfl (lv_at hl 1 rfl) ?_
  refine lv_aload_n hx hb dL_law_566 rfl (lv_at hl 3 rfl) ?_
  refine lv_iload_n hx hb dL_law_567 rfl (lv_at hl 0 rfl) ?_
  refine lv_iconst (v := nI 1) hx hb dL_law_568 rfl ?_
  refine x_iadd hx hb dL_law_569 ?_
  refine x_sld hx hb hX hbl hbA hS (by omega) (by omega) dL_law_570 ?_
  refine lv_aload_n hx hb dL_law_571 rfl (lv_at hl 3 rfl) ?_
  refine lv_iload_n hx hb dL_law_572 rfl (lv_at hl 0 rfl) ?_
  refine lv_iconst (v := nI 2) hx hb dL_law_573 rfl ?_
  refine x_iadd hx hb dL_law_574 ?_
  refine x_sld hx hb hX hbl hbA hS (by omega) (by omega) dL_law_575 ?_
  refine roV_i (As := [.int (xs (i + 1)), .int (xs (i + 2))]) (rest := [.int (uBest n A (xs (i + 1)) (xs (i + 2)))]) ⟨hx, hb, hml, hown, hts⟩ (kX4_best l dC dI cI cZ qm n mb f A Y hI.1 hI.2.2.1 hI.2.2.2.2.1 (xs (i + 1)) (xs (i + 2)) _ hI.2.2.2.2.2.1) (cwV 2 hts gL_law_X4_best rfl rfl rfl hdX4_best ⟨Nat.le_trans (Nat.le_of_ble_eq_true rfl) hRf, Nat.le_trans (Nat.le_of_ble_eq_true rfl) hRl⟩) (va_recv hK hP (ci := 4) (q0 := 23) rfl rfl) (hK.sub [0, 2] rfl) (hP.sub [23, 24, 25, 26, 27, 28, 29, 30, 31, 32, 33, 34, 35, 36, 37, 38, 39] rfl) rfl hl.1 rfl (Nat.le_of_ble_eq_true rfl) dL_law_576 ⟨hcc, hcs⟩ hP hS hA (fun H locs hP hS => ?_)
  refine lv_icmp_eq (tgt := 1070) hx hb dL_law_579 (by decide) (fun _ => ?_) (fun h => absurd rfl h)
  have hD : va_D Z (lwW cS cI cZ a r0 qs qr t q qm hs la le C x n X n mb f Y tr fl) := hD.same rfl
  exact kk _ _ ⟨_, _, _, _, _, _, _, _, _, _, _, _, _, hI, hP, hD⟩ hS
theorem hdX3_block : yX3_block.cls = RX3 ∧ yX3_block.cls ≠ "java/lang/invoke/MethodHandle" ∧ yX3_block.cls ≠ "java/lang/invoke/VarHandle" ∧ (parseMethodDescriptor yX3_block.desc).map (fun d => d.parameters.length) = some 2 := by decide +kernel
theorem hdX4_block : yX4_block.cls = RX4 ∧ yX4_block.cls ≠ "java/lang/invoke/MethodHandle" ∧ yX4_block.cls ≠ "java/lang/invoke/VarHandle" ∧ (parseMethodDescriptor yX4_block.desc).map (fun d => d.parameters.length) = some 2 := by decide +kernel
set_option maxHeartbeats 4000000 in
set_option maxRecDepth 100000 in
theorem lc_block {pp : Program} {l : Launch} {ee : Env} {RR : Room} {ss : State} {mm : MethodId} {bb : List Frame} {me : Method} {cd : Code} {QQ : State → Prop} {dC : Nat → ClassId} {dI : Nat → Nat → Nat} {cS cI cZ : ClassId} {a r0 : Nat} {qs qr t q qm : Nat → Nat} {tH b L i : Nat} {xs : Nat → Int32} {Z : Nat → Prop} {cells slots : Nat} {H : Heap} {locs : List Loc} {ls : Array Slot} (E : lw_E pp ss mm cd RR dC dI cS cI cZ tH b L xs Z cells slots) (hi : i + 6 ≤ L) (hJ : LJ dC dI cS cI cZ a r0 qs qr t q qm Z H) (hS : va_S Z ss.heap H locs) (hl : lv_has ls 4 [(3, .int (nI i)), (2, .ref (qm 0)), (1, .ref a), (0, .ref b)]) (kk : ∀ (H : Heap) (locs : List Loc), LJ dC dI cS cI cZ a r0 qs qr t q qm Z H → va_S Z ss.heap H locs → W pp l ee RR ss mm #[Value.ref b] bb me cd H locs cells slots QQ (F0 mm 1070 ls [])) : W pp l ee RR ss mm #[Value.ref b] bb me cd H locs cells slots QQ (F0 mm 584 ls []) := by
  obtain ⟨hx, hb, hml, hown, hts, hRf, hRl, hcc, hcs, hK, hA, hZT, hX, hbl, hbA, hL⟩ := E
  obtain ⟨hs, la, le, C, x, n, A, X, mb, f, Y, tr, fl, hI, hP, hD⟩ := hJ
  refine lv_aload_n hx hb dL_law_584 rfl (lv_at hl 2 rfl) ?_
  refine lv_aload_n hx hb dL_law_585 rfl (lv_at hl 3 rfl) ?_
  refine lv_iload_n hx hb dL_law_586 rfl (lv_at hl 0 rfl) ?_
  refine lv_iconst (v := nI 1) hx hb dL_law_587 rfl ?_
  refine x_iadd hx hb dL_law_588 ?_
  refine x_sld hx hb hX hbl hbA hS (by omega) (by omega) dL_law_589 ?_
  refine lv_aload_n hx hb dL_law_590 rfl (lv_at hl 3 rfl) ?_
  refine lv_iload_n hx hb dL_law_591 rfl (lv_at hl 0 rfl) ?_
  refine lv_iconst (v := nI 2) hx hb dL_law_592 rfl ?_
  refine x_iadd hx hb dL_law_593 ?_
  refine x_sld hx hb hX hbl hbA hS (by omega) (by omega) dL_law_594 ?_
  refine roV_i (As := [.int (xs (i + 1)), .int (xs (i + 2))]) (rest := []) ⟨hx, hb, hml, hown, hts⟩ (kX3_block l dC dI a r0 (t 0) tr fl cI q n A X hI.1 hI.2.1 (xs (i + 1)) (xs (i + 2)) _) (cwV 2 hts gL_law_X3_block rfl rfl rfl hdX3_block ⟨Nat.le_trans (Nat.le_of_ble_eq_true rfl) hRf, Nat.le_trans (Nat.le_of_ble_eq_true rfl) hRl⟩) (va_recv hK hP (ci := 3) (q0 := 0) rfl rfl) (hK.sub [0] rfl) (hP.sub [0, 14, 15, 16, 17, 18, 19, 20, 21, 22] rfl) rfl hl.1 rfl (Nat.le_of_ble_eq_true rfl) dL_law_595 ⟨hcc, hcs⟩ hP hS hA (fun H locs hP hS => ?_)
  refine lv_aload_n hx hb dL_law_598 rfl (lv_at hl 1 rfl) ?_
  refine lv_aload_n hx hb dL_law_599 rfl (lv_at hl 3 rfl) ?_
  refine lv_iload_n hx hb dL_law_600 rfl (lv_at hl 0 rfl) ?_
  refine lv_iconst (v := nI 1) hx hb dL_law_601 rfl ?_
  refine x_iadd hx hb dL_law_602 ?_
  refine x_sld hx hb hX hbl hbA hS (by omega) (by omega) dL_law_603 ?_
  refine lv_aload_n hx hb dL_law_604 rfl (lv_at hl 3 rfl) ?_
  refine lv_iload_n hx hb dL_law_605 rfl (lv_at hl 0 rfl) ?_
  refine lv_iconst (v := nI 2) hx hb dL_law_606 rfl ?_
  refine x_iadd hx hb dL_law_607 ?_
  refine x_sld hx hb hX hbl hbA hS (by omega) (by omega) dL_law_608 ?_
  refine roV_i (As := [.int (xs (i + 1)), .int (xs (i + 2))]) (rest := [.int (uBlock n A (xs (i + 1)) (xs (i + 2)))]) ⟨hx, hb, hml, hown, hts⟩ (kX4_block l dC dI cI cZ qm n mb f A Y hI.1 hI.2.2.1 hI.2.2.2.2.1 (xs (i + 1)) (xs (i + 2)) _) (cwV 2 hts gL_law_X4_block rfl rfl rfl hdX4_block ⟨Nat.le_trans (Nat.le_of_ble_eq_true rfl) hRf, Nat.le_trans (Nat.le_of_ble_eq_true rfl) hRl⟩) (va_recv hK hP (ci := 4) (q0 := 23) rfl rfl) (hK.sub [0, 2] rfl) (hP.sub [23, 24, 25, 26, 27, 28, 29, 30, 31, 32, 33, 34, 35, 36, 37, 38, 39] rfl) rfl hl.1 rfl (Nat.le_of_ble_eq_true rfl) dL_law_609 ⟨hcc, hcs⟩ hP hS hA (fun H locs hP hS => ?_)
  refine lv_icmp_eq (tgt := 1070) hx hb dL_law_612 (by decide) (fun _ => ?_) (fun h => absurd rfl h)
  have hD : va_D Z (lwW cS cI cZ a r0 qs qr t q qm hs la le C x n X n mb f Y tr fl) := hD.same rfl
  exact kk _ _ ⟨_, _, _, _, _, _, _, _, _, _, _, _, _, hI, hP, hD⟩ hS
theorem hdX3_cuts : yX3_cuts.cls = RX3 ∧ yX3_cuts.cls ≠ "java/lang/invoke/MethodHandle" ∧ yX3_cuts.cls ≠ "java/lang/invoke/VarHandle" ∧ (parseMethodDescriptor yX3_cuts.desc).map (fun d => d.parameters.length) = some 1 := by decide +kernel
theorem hdX4_cuts : yX4_cuts.cls = RX4 ∧ yX4_cuts.cls ≠ "java/lang/invoke/MethodHandle" ∧ yX4_cuts.cls ≠ "java/lang/invoke/VarHandle" ∧ (parseMethodDescriptor yX4_cuts.desc).map (fun d => d.parameters.length) = some 1 := by decide +kernel
set_option maxHeartbeats 4000000 in
set_option maxRecDepth 100000 in
theorem lc_cuts {pp : Program} {l : Launch} {ee : Env} {RR : Room} {ss : State} {mm : MethodId} {bb : List Frame} {me : Method} {cd : Code} {QQ : State → Prop} {dC : Nat → ClassId} {dI : Nat → Nat → Nat} {cS cI cZ : ClassId} {a r0 : Nat} {qs qr t q qm : Nat → Nat} {tH b L i : Nat} {xs : Nat → Int32} {Z : Nat → Prop} {cells slots : Nat} {H : Heap} {locs : List Loc} {ls : Array Slot} (E : lw_E pp ss mm cd RR dC dI cS cI cZ tH b L xs Z cells slots) (hi : i + 6 ≤ L) (hJ : LJ dC dI cS cI cZ a r0 qs qr t q qm Z H) (hS : va_S Z ss.heap H locs) (hl : lv_has ls 4 [(3, .int (nI i)), (2, .ref (qm 0)), (1, .ref a), (0, .ref b)]) (kk : ∀ (H : Heap) (locs : List Loc), LJ dC dI cS cI cZ a r0 qs qr t q qm Z H → va_S Z ss.heap H locs → W pp l ee RR ss mm #[Value.ref b] bb me cd H locs cells slots QQ (F0 mm 1070 ls [])) : W pp l ee RR ss mm #[Value.ref b] bb me cd H locs cells slots QQ (F0 mm 617 ls []) := by
  obtain ⟨hx, hb, hml, hown, hts, hRf, hRl, hcc, hcs, hK, hA, hZT, hX, hbl, hbA, hL⟩ := E
  obtain ⟨hs, la, le, C, x, n, A, X, mb, f, Y, tr, fl, hI, hP, hD⟩ := hJ
  refine lv_aload_n hx hb dL_law_617 rfl (lv_at hl 2 rfl) ?_
  refine lv_aload_n hx hb dL_law_618 rfl (lv_at hl 3 rfl) ?_
  refine lv_iload_n hx hb dL_law_619 rfl (lv_at hl 0 rfl) ?_
  refine lv_iconst (v := nI 1) hx hb dL_law_620 rfl ?_
  refine x_iadd hx hb dL_law_621 ?_
  refine x_sld hx hb hX hbl hbA hS (by omega) (by omega) dL_law_622 ?_
  refine roV_i (As := [.int (xs (i + 1))]) (rest := []) ⟨hx, hb, hml, hown, hts⟩ (kX3_cuts l dC dI a r0 (t 0) tr fl cI q n A X hI.1 hI.2.1 (xs (i + 1)) _) (cwV 1 hts gL_law_X3_cuts rfl rfl rfl hdX3_cuts ⟨Nat.le_trans (Nat.le_of_ble_eq_true rfl) hRf, Nat.le_trans (Nat.le_of_ble_eq_true rfl) hRl⟩) (va_recv hK hP (ci := 3) (q0 := 0) rfl rfl) (hK.sub [0] rfl) (hP.sub [0, 14, 15, 16, 17, 18, 19, 20, 21, 22] rfl) rfl hl.1 rfl (Nat.le_of_ble_eq_true rfl) dL_law_623 ⟨hcc, hcs⟩ hP hS hA (fun H locs hP hS => ?_)
  refine lv_aload_n hx hb dL_law_626 rfl (lv_at hl 1 rfl) ?_
  refine lv_aload_n hx hb dL_law_627 rfl (lv_at hl 3 rfl) ?_
  refine lv_iload_n hx hb dL_law_628 rfl (lv_at hl 0 rfl) ?_
  refine lv_iconst (v := nI 1) hx hb dL_law_629 rfl ?_
  refine x_iadd hx hb dL_law_630 ?_
  refine x_sld hx hb hX hbl hbA hS (by omega) (by omega) dL_law_631 ?_
  refine roV_i (As := [.int (xs (i + 1))]) (rest := [.int (uCuts n A (xs (i + 1)))]) ⟨hx, hb, hml, hown, hts⟩ (kX4_cuts l dC dI cI cZ qm n mb f A Y hI.1 hI.2.2.1 hI.2.2.2.2.1 (xs (i + 1)) _) (cwV 1 hts gL_law_X4_cuts rfl rfl rfl hdX4_cuts ⟨Nat.le_trans (Nat.le_of_ble_eq_true rfl) hRf, Nat.le_trans (Nat.le_of_ble_eq_true rfl) hRl⟩) (va_recv hK hP (ci := 4) (q0 := 23) rfl rfl) (hK.sub [0, 2] rfl) (hP.sub [23, 24, 25, 26, 27, 28, 29, 30, 31, 32, 33, 34, 35, 36, 37, 38, 39] rfl) rfl hl.1 rfl (Nat.le_of_ble_eq_true rfl) dL_law_632 ⟨hcc, hcs⟩ hP hS hA (fun H locs hP hS => ?_)
  refine lv_icmp_eq (tgt := 1070) hx hb dL_law_635 (by decide) (fun _ => ?_) (fun h => absurd rfl h)
  have hD : va_D Z (lwW cS cI cZ a r0 qs qr t q qm hs la le C x n X n mb f Y tr fl) := hD.same rfl
  exact kk _ _ ⟨_, _, _, _, _, _, _, _, _, _, _, _, _, hI, hP, hD⟩ hS
theorem hdX3_complaints : yX3_complaints.cls = RX3 ∧ yX3_complaints.cls ≠ "java/lang/invoke/MethodHandle" ∧ yX3_complaints.cls ≠ "java/lang/invoke/VarHandle" ∧ (parseMethodDescriptor yX3_complaints.desc).map (fun d => d.parameters.length) = some 0 := by decide +kernel
theorem hdX4_complaints : yX4_complaints.cls = RX4 ∧ yX4_complaints.cls ≠ "java/lang/invoke/MethodHandle" ∧ yX4_complaints.cls ≠ "java/lang/invoke/VarHandle" ∧ (parseMethodDescriptor yX4_complaints.desc).map (fun d => d.parameters.length) = some 0 := by decide +kernel
set_option maxHeartbeats 4000000 in
set_option maxRecDepth 100000 in
theorem lc_complaints {pp : Program} {l : Launch} {ee : Env} {RR : Room} {ss : State} {mm : MethodId} {bb : List Frame} {me : Method} {cd : Code} {QQ : State → Prop} {dC : Nat → ClassId} {dI : Nat → Nat → Nat} {cS cI cZ : ClassId} {a r0 : Nat} {qs qr t q qm : Nat → Nat} {tH b L i : Nat} {xs : Nat → Int32} {Z : Nat → Prop} {cells slots : Nat} {H : Heap} {locs : List Loc} {ls : Array Slot} (E : lw_E pp ss mm cd RR dC dI cS cI cZ tH b L xs Z cells slots) (hi : i + 6 ≤ L) (hJ : LJ dC dI cS cI cZ a r0 qs qr t q qm Z H) (hS : va_S Z ss.heap H locs) (hl : lv_has ls 4 [(3, .int (nI i)), (2, .ref (qm 0)), (1, .ref a), (0, .ref b)]) (kk : ∀ (H : Heap) (locs : List Loc), LJ dC dI cS cI cZ a r0 qs qr t q qm Z H → va_S Z ss.heap H locs → W pp l ee RR ss mm #[Value.ref b] bb me cd H locs cells slots QQ (F0 mm 1070 ls [])) : W pp l ee RR ss mm #[Value.ref b] bb me cd H locs cells slots QQ (F0 mm 640 ls []) := by
  obtain ⟨hx, hb, hml, hown, hts, hRf, hRl, hcc, hcs, hK, hA, hZT, hX, hbl, hbA, hL⟩ := E
  obtain ⟨hs, la, le, C, x, n, A, X, mb, f, Y, tr, fl, hI, hP, hD⟩ := hJ
  refine lv_aload_n hx hb dL_law_640 rfl (lv_at hl 2 rfl) ?_
  refine roV_i (As := []) (rest := []) ⟨hx, hb, hml, hown, hts⟩ (kX3_complaints l dC dI a r0 (t 0) tr fl cI q n A X hI.1 hI.2.1  _) (cwV 0 hts gL_law_X3_complaints rfl rfl rfl hdX3_complaints ⟨Nat.le_trans (Nat.le_of_ble_eq_true rfl) hRf, Nat.le_trans (Nat.le_of_ble_eq_true rfl) hRl⟩) (va_recv hK hP (ci := 3) (q0 := 0) rfl rfl) (hK.sub [0] rfl) (hP.sub [0, 14, 15, 16, 17, 18, 19, 20, 21, 22] rfl) rfl hl.1 rfl (Nat.le_of_ble_eq_true rfl) dL_law_641 ⟨hcc, hcs⟩ hP hS hA (fun H locs hP hS => ?_)
  refine lv_aload_n hx hb dL_law_644 rfl (lv_at hl 1 rfl) ?_
  refine roV_i (As := []) (rest := [.int (uComplaints n A)]) ⟨hx, hb, hml, hown, hts⟩ (kX4_complaints l dC dI cI cZ qm n mb f A Y hI.1 hI.2.2.1 hI.2.2.2.2.1  _) (cwV 0 hts gL_law_X4_complaints rfl rfl rfl hdX4_complaints ⟨Nat.le_trans (Nat.le_of_ble_eq_true rfl) hRf, Nat.le_trans (Nat.le_of_ble_eq_true rfl) hRl⟩) (va_recv hK hP (ci := 4) (q0 := 23) rfl rfl) (hK.sub [0, 2] rfl) (hP.sub [23, 24, 25, 26, 27, 28, 29, 30, 31, 32, 33, 34, 35, 36, 37, 38, 39] rfl) rfl hl.1 rfl (Nat.le_of_ble_eq_true rfl) dL_law_645 ⟨hcc, hcs⟩ hP hS hA (fun H locs hP hS => ?_)
  refine lv_icmp_eq (tgt := 1070) hx hb dL_law_648 (by decide) (fun _ => ?_) (fun h => absurd rfl h)
  have hD : va_D Z (lwW cS cI cZ a r0 qs qr t q qm hs la le C x n X n mb f Y tr fl) := hD.same rfl
  exact kk _ _ ⟨_, _, _, _, _, _, _, _, _, _, _, _, _, hI, hP, hD⟩ hS
theorem hdX3_moved : yX3_moved.cls = RX3 ∧ yX3_moved.cls ≠ "java/lang/invoke/MethodHandle" ∧ yX3_moved.cls ≠ "java/lang/invoke/VarHandle" ∧ (parseMethodDescriptor yX3_moved.desc).map (fun d => d.parameters.length) = some 1 := by decide +kernel
theorem hdX4_moved : yX4_moved.cls = RX4 ∧ yX4_moved.cls ≠ "java/lang/invoke/MethodHandle" ∧ yX4_moved.cls ≠ "java/lang/invoke/VarHandle" ∧ (parseMethodDescriptor yX4_moved.desc).map (fun d => d.parameters.length) = some 1 := by decide +kernel
set_option maxHeartbeats 4000000 in
set_option maxRecDepth 100000 in
theorem lc_moved {pp : Program} {l : Launch} {ee : Env} {RR : Room} {ss : State} {mm : MethodId} {bb : List Frame} {me : Method} {cd : Code} {QQ : State → Prop} {dC : Nat → ClassId} {dI : Nat → Nat → Nat} {cS cI cZ : ClassId} {a r0 : Nat} {qs qr t q qm : Nat → Nat} {tH b L i : Nat} {xs : Nat → Int32} {Z : Nat → Prop} {cells slots : Nat} {H : Heap} {locs : List Loc} {ls : Array Slot} (E : lw_E pp ss mm cd RR dC dI cS cI cZ tH b L xs Z cells slots) (hi : i + 6 ≤ L) (hJ : LJ dC dI cS cI cZ a r0 qs qr t q qm Z H) (hS : va_S Z ss.heap H locs) (hl : lv_has ls 4 [(3, .int (nI i)), (2, .ref (qm 0)), (1, .ref a), (0, .ref b)]) (kk : ∀ (H : Heap) (locs : List Loc), LJ dC dI cS cI cZ a r0 qs qr t q qm Z H → va_S Z ss.heap H locs → W pp l ee RR ss mm #[Value.ref b] bb me cd H locs cells slots QQ (F0 mm 1070 ls [])) : W pp l ee RR ss mm #[Value.ref b] bb me cd H locs cells slots QQ (F0 mm 653 ls []) := by
  obtain ⟨hx, hb, hml, hown, hts, hRf, hRl, hcc, hcs, hK, hA, hZT, hX, hbl, hbA, hL⟩ := E
  obtain ⟨hs, la, le, C, x, n, A, X, mb, f, Y, tr, fl, hI, hP, hD⟩ := hJ
  refine lv_aload_n hx hb dL_law_653 rfl (lv_at hl 2 rfl) ?_
  refine lv_aload_n hx hb dL_law_654 rfl (lv_at hl 3 rfl) ?_
  refine lv_iload_n hx hb dL_law_655 rfl (lv_at hl 0 rfl) ?_
  refine lv_iconst (v := nI 1) hx hb dL_law_656 rfl ?_
  refine x_iadd hx hb dL_law_657 ?_
  refine x_sld hx hb hX hbl hbA hS (by omega) (by omega) dL_law_658 ?_
  refine roV_i (As := [.int (xs (i + 1))]) (rest := []) ⟨hx, hb, hml, hown, hts⟩ (kX3_moved l dC dI a r0 (t 0) tr fl cI q n A X hI.1 hI.2.1 (xs (i + 1)) _) (cwV 1 hts gL_law_X3_moved rfl rfl rfl hdX3_moved ⟨Nat.le_trans (Nat.le_of_ble_eq_true rfl) hRf, Nat.le_trans (Nat.le_of_ble_eq_true rfl) hRl⟩) (va_recv hK hP (ci := 3) (q0 := 0) rfl rfl) (hK.sub [0] rfl) (hP.sub [0, 14, 15, 16, 17, 18, 19, 20, 21, 22] rfl) rfl hl.1 rfl (Nat.le_of_ble_eq_true rfl) dL_law_659 ⟨hcc, hcs⟩ hP hS hA (fun H locs hP hS => ?_)
  refine lv_aload_n hx hb dL_law_662 rfl (lv_at hl 1 rfl) ?_
  refine lv_aload_n hx hb dL_law_663 rfl (lv_at hl 3 rfl) ?_
  refine lv_iload_n hx hb dL_law_664 rfl (lv_at hl 0 rfl) ?_
  refine lv_iconst (v := nI 1) hx hb dL_law_665 rfl ?_
  refine x_iadd hx hb dL_law_666 ?_
  refine x_sld hx hb hX hbl hbA hS (by omega) (by omega) dL_law_667 ?_
  refine rwW_i (As := [.int (xs (i + 1))]) (rest := [.int (uMoved n A (xs (i + 1)))]) (wn := lwW cS cI cZ a r0 qs qr t q qm hs la le C x n X n mb f Y tr fl) ⟨hx, hb, hml, hown, hts⟩ (kX4_moved l dC dI cI cZ qm n mb f A Y hI.1 hI.2.2.1 hI.2.2.2.2.1 (xs (i + 1)) _) (cwV 1 hts gL_law_X4_moved rfl rfl rfl hdX4_moved ⟨Nat.le_trans (Nat.le_of_ble_eq_true rfl) hRf, Nat.le_trans (Nat.le_of_ble_eq_true rfl) hRl⟩) (va_recv hK hP (ci := 4) (q0 := 23) rfl rfl) (hK.sub [0, 2] rfl) rfl hl.1 rfl (Nat.le_of_ble_eq_true rfl) dL_law_668 ⟨hcc, hcs⟩ hP hD hS hA [23, 24, 25, 26, 27, 28, 29, 30, 31, 32, 33, 34, 35, 36, 37, 38, 39] [0, 1, 2, 3, 4, 5, 6, 7, 8, 9, 10, 11, 12, 13, 14, 15, 16, 17, 18, 19, 20, 21, 22] [0, 1, 2, 3, 4, 5, 6, 7, 8, 9, 10, 11, 12, 13, 14, 15, 16, 17, 18, 19, 20, 21, 22, 23, 24, 25, 26, 27, 28, 29, 30, 31, 32, 33, 34, 35, 36, 37, 38, 39] rfl rfl (by decide) (by decide) (by decide) rfl rfl (fun H locs hP hS => ?_)
  have hD : va_D Z (lwW cS cI cZ a r0 qs qr t q qm hs la le C x n X n mb f Y tr fl) := hD.same rfl
  refine lv_icmp_eq (tgt := 1070) hx hb dL_law_671 (by decide) (fun _ => ?_) (fun h => absurd rfl h)
  have hD : va_D Z (lwW cS cI cZ a r0 qs qr t q qm hs la le C x n X n mb f Y tr fl) := hD.same rfl
  exact kk _ _ ⟨_, _, _, _, _, _, _, _, _, _, _, _, _, hI, hP, hD⟩ hS
theorem hdX3_years : yX3_years.cls = RX3 ∧ yX3_years.cls ≠ "java/lang/invoke/MethodHandle" ∧ yX3_years.cls ≠ "java/lang/invoke/VarHandle" ∧ (parseMethodDescriptor yX3_years.desc).map (fun d => d.parameters.length) = some 0 := by decide +kernel
theorem hdX4_years : yX4_years.cls = RX4 ∧ yX4_years.cls ≠ "java/lang/invoke/MethodHandle" ∧ yX4_years.cls ≠ "java/lang/invoke/VarHandle" ∧ (parseMethodDescriptor yX4_years.desc).map (fun d => d.parameters.length) = some 0 := by decide +kernel
set_option maxHeartbeats 4000000 in
set_option maxRecDepth 100000 in
theorem lc_years {pp : Program} {l : Launch} {ee : Env} {RR : Room} {ss : State} {mm : MethodId} {bb : List Frame} {me : Method} {cd : Code} {QQ : State → Prop} {dC : Nat → ClassId} {dI : Nat → Nat → Nat} {cS cI cZ : ClassId} {a r0 : Nat} {qs qr t q qm : Nat → Nat} {tH b L i : Nat} {xs : Nat → Int32} {Z : Nat → Prop} {cells slots : Nat} {H : Heap} {locs : List Loc} {ls : Array Slot} (E : lw_E pp ss mm cd RR dC dI cS cI cZ tH b L xs Z cells slots) (hi : i + 6 ≤ L) (hJ : LJ dC dI cS cI cZ a r0 qs qr t q qm Z H) (hS : va_S Z ss.heap H locs) (hl : lv_has ls 4 [(3, .int (nI i)), (2, .ref (qm 0)), (1, .ref a), (0, .ref b)]) (kk : ∀ (H : Heap) (locs : List Loc), LJ dC dI cS cI cZ a r0 qs qr t q qm Z H → va_S Z ss.heap H locs → W pp l ee RR ss mm #[Value.ref b] bb me cd H locs cells slots QQ (F0 mm 1070 ls [])) : W pp l ee RR ss mm #[Value.ref b] bb me cd H locs cells slots QQ (F0 mm 676 ls []) := by
  obtain ⟨hx, hb, hml, hown, hts, hRf, hRl, hcc, hcs, hK, hA, hZT, hX, hbl, hbA, hL⟩ := E
  obtain ⟨hs, la, le, C, x, n, A, X, mb, f, Y, tr, fl, hI, hP, hD⟩ := hJ
  refine lv_aload_n hx hb dL_law_676 rfl (lv_at hl 2 rfl) ?_
  refine roV_i (As := []) (rest := []) ⟨hx, hb, hml, hown, hts⟩ (kX3_years l dC dI a r0 (t 0) tr fl cI q n A X hI.1 hI.2.1  _) (cwV 0 hts gL_law_X3_years rfl rfl rfl hdX3_years ⟨Nat.le_trans (Nat.le_of_ble_eq_true rfl) hRf, Nat.le_trans (Nat.le_of_ble_eq_true rfl) hRl⟩) (va_recv hK hP (ci := 3) (q0 := 0) rfl rfl) (hK.sub [0] rfl) (hP.sub [0, 14, 15, 16, 17, 18, 19, 20, 21, 22] rfl) rfl hl.1 rfl (Nat.le_of_ble_eq_true rfl) dL_law_677 ⟨hcc, hcs⟩ hP hS hA (fun H locs hP hS => ?_)
  refine lv_aload_n hx hb dL_law_680 rfl (lv_at hl 1 rfl) ?_
  refine rwW_i (As := []) (rest := [.int (uYears n A)]) (wn := lwW cS cI cZ a r0 qs qr t q qm hs la le C x n X n mb f Y tr fl) ⟨hx, hb, hml, hown, hts⟩ (kX4_years l dC dI cI cZ qm n mb f A Y hI.1 hI.2.2.1 hI.2.2.2.2.1  _) (cwV 0 hts gL_law_X4_years rfl rfl rfl hdX4_years ⟨Nat.le_trans (Nat.le_of_ble_eq_true rfl) hRf, Nat.le_trans (Nat.le_of_ble_eq_true rfl) hRl⟩) (va_recv hK hP (ci := 4) (q0 := 23) rfl rfl) (hK.sub [0, 2] rfl) rfl hl.1 rfl (Nat.le_of_ble_eq_true rfl) dL_law_681 ⟨hcc, hcs⟩ hP hD hS hA [23, 24, 25, 26, 27, 28, 29, 30, 31, 32, 33, 34, 35, 36, 37, 38, 39] [0, 1, 2, 3, 4, 5, 6, 7, 8, 9, 10, 11, 12, 13, 14, 15, 16, 17, 18, 19, 20, 21, 22] [0, 1, 2, 3, 4, 5, 6, 7, 8, 9, 10, 11, 12, 13, 14, 15, 16, 17, 18, 19, 20, 21, 22, 23, 24, 25, 26, 27, 28, 29, 30, 31, 32, 33, 34, 35, 36, 37, 38, 39] rfl rfl (by decide) (by decide) (by decide) rfl rfl (fun H locs hP hS => ?_)
  have hD : va_D Z (lwW cS cI cZ a r0 qs qr t q qm hs la le C x n X n mb f Y tr fl) := hD.same rfl
  refine lv_icmp_eq (tgt := 1070) hx hb dL_law_684 (by decide) (fun _ => ?_) (fun h => absurd rfl h)
  have hD : va_D Z (lwW cS cI cZ a r0 qs qr t q qm hs la le C x n X n mb f Y tr fl) := hD.same rfl
  exact kk _ _ ⟨_, _, _, _, _, _, _, _, _, _, _, _, _, hI, hP, hD⟩ hS
theorem hdX3_second : yX3_second.cls = RX3 ∧ yX3_second.cls ≠ "java/lang/invoke/MethodHandle" ∧ yX3_second.cls ≠ "java/lang/invoke/VarHandle" ∧ (parseMethodDescriptor yX3_second.desc).map (fun d => d.parameters.length) = some 0 := by decide +kernel
theorem hdX4_second : yX4_second.cls = RX4 ∧ yX4_second.cls ≠ "java/lang/invoke/MethodHandle" ∧ yX4_second.cls ≠ "java/lang/invoke/VarHandle" ∧ (parseMethodDescriptor yX4_second.desc).map (fun d => d.parameters.length) = some 0 := by decide +kernel
set_option maxHeartbeats 4000000 in
set_option maxRecDepth 100000 in
theorem lc_second {pp : Program} {l : Launch} {ee : Env} {RR : Room} {ss : State} {mm : MethodId} {bb : List Frame} {me : Method} {cd : Code} {QQ : State → Prop} {dC : Nat → ClassId} {dI : Nat → Nat → Nat} {cS cI cZ : ClassId} {a r0 : Nat} {qs qr t q qm : Nat → Nat} {tH b L i : Nat} {xs : Nat → Int32} {Z : Nat → Prop} {cells slots : Nat} {H : Heap} {locs : List Loc} {ls : Array Slot} (E : lw_E pp ss mm cd RR dC dI cS cI cZ tH b L xs Z cells slots) (hi : i + 6 ≤ L) (hJ : LJ dC dI cS cI cZ a r0 qs qr t q qm Z H) (hS : va_S Z ss.heap H locs) (hl : lv_has ls 4 [(3, .int (nI i)), (2, .ref (qm 0)), (1, .ref a), (0, .ref b)]) (kk : ∀ (H : Heap) (locs : List Loc), LJ dC dI cS cI cZ a r0 qs qr t q qm Z H → va_S Z ss.heap H locs → W pp l ee RR ss mm #[Value.ref b] bb me cd H locs cells slots QQ (F0 mm 1070 ls [])) : W pp l ee RR ss mm #[Value.ref b] bb me cd H locs cells slots QQ (F0 mm 689 ls []) := by
  obtain ⟨hx, hb, hml, hown, hts, hRf, hRl, hcc, hcs, hK, hA, hZT, hX, hbl, hbA, hL⟩ := E
  obtain ⟨hs, la, le, C, x, n, A, X, mb, f, Y, tr, fl, hI, hP, hD⟩ := hJ
  refine lv_aload_n hx hb dL_law_689 rfl (lv_at hl 2 rfl) ?_
  refine rsV_l (As := []) (rest := []) ⟨hx, hb, hml, hown, hts⟩ (kX3_second l dC dI a r0 (t 0) tr fl cI q n A X hI.1 hI.2.1 tH  _) (cwV 0 hts gL_law_X3_second rfl rfl rfl hdX3_second ⟨Nat.le_trans (Nat.le_of_ble_eq_true rfl) hRf, Nat.le_trans (Nat.le_of_ble_eq_true rfl) hRl⟩) (va_recv hK hP (ci := 3) (q0 := 0) rfl rfl) (hK.sub [0] rfl) (hP.sub [0, 14, 15, 16, 17, 18, 19, 20, 21, 22] rfl) rfl hl.1 rfl (Nat.le_of_ble_eq_true rfl) dL_law_690 ⟨hcc, hcs⟩ hP hS hA hZT (fun H locs hP hS => ?_)
  refine lv_aload_n hx hb dL_law_693 rfl (lv_at hl 1 rfl) ?_
  refine roV_l (As := []) (rest := [.long (uSecond n A)]) ⟨hx, hb, hml, hown, hts⟩ (kX4_second l dC dI cI cZ qm n mb f A Y hI.1 hI.2.2.1 hI.2.2.2.2.1  _) (cwV 0 hts gL_law_X4_second rfl rfl rfl hdX4_second ⟨Nat.le_trans (Nat.le_of_ble_eq_true rfl) hRf, Nat.le_trans (Nat.le_of_ble_eq_true rfl) hRl⟩) (va_recv hK hP (ci := 4) (q0 := 23) rfl rfl) (hK.sub [0, 2] rfl) (hP.sub [23, 24, 25, 26, 27, 28, 29, 30, 31, 32, 33, 34, 35, 36, 37, 38, 39] rfl) rfl hl.1 rfl (Nat.le_of_ble_eq_true rfl) dL_law_694 ⟨hcc, hcs⟩ hP hS hA (fun H locs hP hS => ?_)
  refine W.lcmp hx hb dL_law_697 ?_
  refine lv_if_eq (tgt := 1070) hx hb dL_law_698 (by decide) (fun _ => ?_) (fun h => absurd (lgc_self _) h)
  have hD : va_D Z (lwW cS cI cZ a r0 qs qr t q qm hs la le C x n X n mb f Y tr fl) := hD.same rfl
  exact kk _ _ ⟨_, _, _, _, _, _, _, _, _, _, _, _, _, hI, hP, hD⟩ hS
theorem hdX3_lit : yX3_lit.cls = RX3 ∧ yX3_lit.cls ≠ "java/lang/invoke/MethodHandle" ∧ yX3_lit.cls ≠ "java/lang/invoke/VarHandle" ∧ (parseMethodDescriptor yX3_lit.desc).map (fun d => d.parameters.length) = some 1 := by decide +kernel
theorem hdX4_lit : yX4_lit.cls = RX4 ∧ yX4_lit.cls ≠ "java/lang/invoke/MethodHandle" ∧ yX4_lit.cls ≠ "java/lang/invoke/VarHandle" ∧ (parseMethodDescriptor yX4_lit.desc).map (fun d => d.parameters.length) = some 1 := by decide +kernel
set_option maxHeartbeats 4000000 in
set_option maxRecDepth 100000 in
theorem lc_lit {pp : Program} {l : Launch} {ee : Env} {RR : Room} {ss : State} {mm : MethodId} {bb : List Frame} {me : Method} {cd : Code} {QQ : State → Prop} {dC : Nat → ClassId} {dI : Nat → Nat → Nat} {cS cI cZ : ClassId} {a r0 : Nat} {qs qr t q qm : Nat → Nat} {tH b L i : Nat} {xs : Nat → Int32} {Z : Nat → Prop} {cells slots : Nat} {H : Heap} {locs : List Loc} {ls : Array Slot} (E : lw_E pp ss mm cd RR dC dI cS cI cZ tH b L xs Z cells slots) (hi : i + 6 ≤ L) (hJ : LJ dC dI cS cI cZ a r0 qs qr t q qm Z H) (hS : va_S Z ss.heap H locs) (hl : lv_has ls 4 [(3, .int (nI i)), (2, .ref (qm 0)), (1, .ref a), (0, .ref b)]) (kk : ∀ (H : Heap) (locs : List Loc), LJ dC dI cS cI cZ a r0 qs qr t q qm Z H → va_S Z ss.heap H locs → W pp l ee RR ss mm #[Value.ref b] bb me cd H locs cells slots QQ (F0 mm 1070 ls [])) : W pp l ee RR ss mm #[Value.ref b] bb me cd H locs cells slots QQ (F0 mm 703 ls []) := by
  obtain ⟨hx, hb, hml, hown, hts, hRf, hRl, hcc, hcs, hK, hA, hZT, hX, hbl, hbA, hL⟩ := E
  obtain ⟨hs, la, le, C, x, n, A, X, mb, f, Y, tr, fl, hI, hP, hD⟩ := hJ
  refine lv_aload_n hx hb dL_law_703 rfl (lv_at hl 2 rfl) ?_
  refine lv_aload_n hx hb dL_law_704 rfl (lv_at hl 3 rfl) ?_
  refine lv_iload_n hx hb dL_law_705 rfl (lv_at hl 0 rfl) ?_
  refine lv_iconst (v := nI 1) hx hb dL_law_706 rfl ?_
  refine x_iadd hx hb dL_law_707 ?_
  refine x_sld hx hb hX hbl hbA hS (by omega) (by omega) dL_law_708 ?_
  refine rsV_i (As := [.int (xs (i + 1))]) (rest := []) ⟨hx, hb, hml, hown, hts⟩ (kX3_lit l dC dI a r0 (t 0) tr fl cI q n A X hI.1 hI.2.1 tH (xs (i + 1)) _) (cwV 1 hts gL_law_X3_lit rfl rfl rfl hdX3_lit ⟨Nat.le_trans (Nat.le_of_ble_eq_true rfl) hRf, Nat.le_trans (Nat.le_of_ble_eq_true rfl) hRl⟩) (va_recv hK hP (ci := 3) (q0 := 0) rfl rfl) (hK.sub [0] rfl) (hP.sub [0, 14, 15, 16, 17, 18, 19, 20, 21, 22] rfl) rfl hl.1 rfl (Nat.le_of_ble_eq_true rfl) dL_law_709 ⟨hcc, hcs⟩ hP hS hA hZT (fun H locs hP hS => ?_)
  refine lv_aload_n hx hb dL_law_712 rfl (lv_at hl 1 rfl) ?_
  refine lv_aload_n hx hb dL_law_713 rfl (lv_at hl 3 rfl) ?_
  refine lv_iload_n hx hb dL_law_714 rfl (lv_at hl 0 rfl) ?_
  refine lv_iconst (v := nI 1) hx hb dL_law_715 rfl ?_
  refine x_iadd hx hb dL_law_716 ?_
  refine x_sld hx hb hX hbl hbA hS (by omega) (by omega) dL_law_717 ?_
  refine roV_i (As := [.int (xs (i + 1))]) (rest := [.int (uLit n A (xs (i + 1)))]) ⟨hx, hb, hml, hown, hts⟩ (kX4_lit l dC dI cI cZ qm n mb f A Y hI.1 hI.2.2.1 hI.2.2.2.2.1 (xs (i + 1)) _) (cwV 1 hts gL_law_X4_lit rfl rfl rfl hdX4_lit ⟨Nat.le_trans (Nat.le_of_ble_eq_true rfl) hRf, Nat.le_trans (Nat.le_of_ble_eq_true rfl) hRl⟩) (va_recv hK hP (ci := 4) (q0 := 23) rfl rfl) (hK.sub [0, 2] rfl) (hP.sub [23, 24, 25, 26, 27, 28, 29, 30, 31, 32, 33, 34, 35, 36, 37, 38, 39] rfl) rfl hl.1 rfl (Nat.le_of_ble_eq_true rfl) dL_law_718 ⟨hcc, hcs⟩ hP hS hA (fun H locs hP hS => ?_)
  refine lv_icmp_eq (tgt := 1070) hx hb dL_law_721 (by decide) (fun _ => ?_) (fun h => absurd rfl h)
  have hD : va_D Z (lwW cS cI cZ a r0 qs qr t q qm hs la le C x n X n mb f Y tr fl) := hD.same rfl
  exact kk _ _ ⟨_, _, _, _, _, _, _, _, _, _, _, _, _, hI, hP, hD⟩ hS
