/-! the law: the world of both, what holds at its loop, a case a call -/
def lwW (cS cI cZ : ClassId) (a r0 : Nat) (qs qr t q qm : Nat → Nat) (hs : Nat → Bool) (la le : Nat → Nat) (C : Nat → Nat → Int32) (x : RD) (n : Nat → Nat) (X : Nat → Nat → Int32) (m : Nat → Nat) (mb : Int32) (f : Nat → Int32) (Y : Nat → Nat → Int32) (tr fl : Int32) : va_W := (a, .inr (3, [.ref r0, .ref (t 0), .ref (q 0), .int tr, .int fl])) :: (wSh cS cI r0 qs qr hs la le C ++ (wTd cI t x ++ (wG cI q n X ++ wM cI cZ qm m mb f Y)))
theorem lwW_m {cS cI cZ : ClassId} {a r0 : Nat} {qs qr t q qm : Nat → Nat} {hs : Nat → Bool} {la le : Nat → Nat} {C : Nat → Nat → Int32} {x : RD} {n : Nat → Nat} {X : Nat → Nat → Int32} {m m2 : Nat → Nat} {mb : Int32} {f : Nat → Int32} {Y : Nat → Nat → Int32} {tr fl : Int32} (h : wM cI cZ qm m mb f Y = wM cI cZ qm m2 mb f Y) : lwW cS cI cZ a r0 qs qr t q qm hs la le C x n X m mb f Y tr fl = lwW cS cI cZ a r0 qs qr t q qm hs la le C x n X m2 mb f Y tr fl := by
  unfold lwW; rw [h]
def LJ (dC : Nat → ClassId) (dI : Nat → Nat → Nat) (cS cI cZ : ClassId) (a r0 : Nat) (qs qr t q qm : Nat → Nat) (Z : Nat → Prop) (H : Heap) : Prop := ∃ (hs : Nat → Bool) (la le : Nat → Nat) (C : Nat → Nat → Int32) (x : RD) (n : Nat → Nat) (A : Nat → Nat → Nat) (X : Nat → Nat → Int32) (mb : Int32) (f : Nat → Int32) (Y : Nat → Nat → Int32) (tr fl : Int32), LI hs la le C n A X mb f Y tr fl ∧ va_P (dC, dI) vwCl (lwW cS cI cZ a r0 qs qr t q qm hs la le C x n X n mb f Y tr fl) H ∧ va_D Z (lwW cS cI cZ a r0 qs qr t q qm hs la le C x n X n mb f Y tr fl)
def lw_E (pp : Program) (ss : State) (mm : MethodId) (cd : Code) (RR : Room) (dC : Nat → ClassId) (dI : Nat → Nat → Nat) (cS cI cZ : ClassId) (tH b L : Nat) (xs : Nat → Int32) (Z : Nat → Prop) (cells slots : Nat) : Prop := pp.tables.exec = Jvm.exec ∧ cd.code = cL_law ∧ cd.maxLocals = 4 ∧ ss.vm.findClass RL = some mm.cls ∧ (∀ w ∈ wsL_law, w.before #[Value.ref b] ss = true) ∧ 9 ≤ RR.frames ∧ 338 ≤ RR.locals ∧ cells ≤ RR.cells ∧ slots ≤ RR.slots ∧ va_K (dC, dI) vwCl [(cI, .int), (cS, .object "StatueSquare$Sheet"), (cZ, .boolean)] ss ∧ (∀ q, ss.heap.size ≤ q → Z q) ∧ hpS tH Z ss ss.heap ∧ va_X b L xs ss ss.heap ∧ b < ss.heap.size ∧ ¬ Z b ∧ L ≤ 3072
theorem hdX3_cellHas : yX3_cellHas.cls = RX3 ∧ yX3_cellHas.cls ≠ "java/lang/invoke/MethodHandle" ∧ yX3_cellHas.cls ≠ "java/lang/invoke/VarHandle" ∧ (parseMethodDescriptor yX3_cellHas.desc).map (fun d => d.parameters.length) = some 1 := by decide +kernel
theorem hdX4_cellHas : yX4_cellHas.cls = RX4 ∧ yX4_cellHas.cls ≠ "java/lang/invoke/MethodHandle" ∧ yX4_cellHas.cls ≠ "java/lang/invoke/VarHandle" ∧ (parseMethodDescriptor yX4_cellHas.desc).map (fun d => d.parameters.length) = some 1 := by decide +kernel
set_option maxHeartbeats 4000000 in
set_option maxRecDepth 100000 in
theorem lc_cellHas {pp : Program} {l : Launch} {ee : Env} {RR : Room} {ss : State} {mm : MethodId} {bb : List Frame} {me : Method} {cd : Code} {QQ : State → Prop} {dC : Nat → ClassId} {dI : Nat → Nat → Nat} {cS cI cZ : ClassId} {a r0 : Nat} {qs qr t q qm : Nat → Nat} {tH b L i : Nat} {xs : Nat → Int32} {Z : Nat → Prop} {cells slots : Nat} {H : Heap} {locs : List Loc} {ls : Array Slot} (E : lw_E pp ss mm cd RR dC dI cS cI cZ tH b L xs Z cells slots) (hi : i + 6 ≤ L) (hJ : LJ dC dI cS cI cZ a r0 qs qr t q qm Z H) (hS : va_S Z ss.heap H locs) (hl : lv_has ls 4 [(3, .int (nI i)), (2, .ref (qm 0)), (1, .ref a), (0, .ref b)]) (kk : ∀ (H : Heap) (locs : List Loc), LJ dC dI cS cI cZ a r0 qs qr t q qm Z H → va_S Z ss.heap H locs → W pp l ee RR ss mm #[Value.ref b] bb me cd H locs cells slots QQ (F0 mm 1070 ls [])) : W pp l ee RR ss mm #[Value.ref b] bb me cd H locs cells slots QQ (F0 mm 225 ls []) := by
  obtain ⟨hx, hb, hml, hown, hts, hRf, hRl, hcc, hcs, hK, hA, hZT, hX, hbl, hbA, hL⟩ := E
  obtain ⟨hs, la, le, C, x, n, A, X, mb, f, Y, tr, fl, hI, hP, hD⟩ := hJ
  refine lv_aload_n hx hb dL_law_225 rfl (lv_at hl 2 rfl) ?_
  refine lv_aload_n hx hb dL_law_226 rfl (lv_at hl 3 rfl) ?_
  refine lv_iload_n hx hb dL_law_227 rfl (lv_at hl 0 rfl) ?_
  refine lv_iconst (v := nI 1) hx hb dL_law_228 rfl ?_
  refine x_iadd hx hb dL_law_229 ?_
  refine x_sld hx hb hX hbl hbA hS (by omega) (by omega) dL_law_230 ?_
  refine roV_i (As := [.int (xs (i + 1))]) (rest := []) ⟨hx, hb, hml, hown, hts⟩ (kX3_cellHas l dC dI a r0 (t 0) tr fl cI q n A X hI.1 hI.2.1 (xs (i + 1)) _) (cwV 1 hts gL_law_X3_cellHas rfl rfl rfl hdX3_cellHas ⟨Nat.le_trans (Nat.le_of_ble_eq_true rfl) hRf, Nat.le_trans (Nat.le_of_ble_eq_true rfl) hRl⟩) (va_recv hK hP (ci := 3) (q0 := 0) rfl rfl) (hK.sub [0] rfl) (hP.sub [0, 14, 15, 16, 17, 18, 19, 20, 21, 22] rfl) rfl hl.1 rfl (Nat.le_of_ble_eq_true rfl) dL_law_231 ⟨hcc, hcs⟩ hP hS hA (fun H locs hP hS => ?_)
  refine lv_aload_n hx hb dL_law_234 rfl (lv_at hl 1 rfl) ?_
  refine lv_aload_n hx hb dL_law_235 rfl (lv_at hl 3 rfl) ?_
  refine lv_iload_n hx hb dL_law_236 rfl (lv_at hl 0 rfl) ?_
  refine lv_iconst (v := nI 1) hx hb dL_law_237 rfl ?_
  refine x_iadd hx hb dL_law_238 ?_
  refine x_sld hx hb hX hbl hbA hS (by omega) (by omega) dL_law_239 ?_
  refine roV_i (As := [.int (xs (i + 1))]) (rest := [.int (uCellHas n A (xs (i + 1)))]) ⟨hx, hb, hml, hown, hts⟩ (kX4_cellHas l dC dI cI cZ qm n mb f A Y hI.1 hI.2.2.1 hI.2.2.2.2.1 (xs (i + 1)) _) (cwV 1 hts gL_law_X4_cellHas rfl rfl rfl hdX4_cellHas ⟨Nat.le_trans (Nat.le_of_ble_eq_true rfl) hRf, Nat.le_trans (Nat.le_of_ble_eq_true rfl) hRl⟩) (va_recv hK hP (ci := 4) (q0 := 23) rfl rfl) (hK.sub [0, 2] rfl) (hP.sub [23, 24, 25, 26, 27, 28, 29, 30, 31, 32, 33, 34, 35, 36, 37, 38, 39] rfl) rfl hl.1 rfl (Nat.le_of_ble_eq_true rfl) dL_law_240 ⟨hcc, hcs⟩ hP hS hA (fun H locs hP hS => ?_)
  refine lv_icmp_eq (tgt := 1070) hx hb dL_law_243 (by decide) (fun _ => ?_) (fun h => absurd rfl h)
  have hD : va_D Z (lwW cS cI cZ a r0 qs qr t q qm hs la le C x n X n mb f Y tr fl) := hD.same rfl
  exact kk _ _ ⟨_, _, _, _, _, _, _, _, _, _, _, _, _, hI, hP, hD⟩ hS
theorem hdX3_ofThing : yX3_ofThing.cls = RX3 ∧ yX3_ofThing.cls ≠ "java/lang/invoke/MethodHandle" ∧ yX3_ofThing.cls ≠ "java/lang/invoke/VarHandle" ∧ (parseMethodDescriptor yX3_ofThing.desc).map (fun d => d.parameters.length) = some 2 := by decide +kernel
theorem hdX4_ofThing : yX4_ofThing.cls = RX4 ∧ yX4_ofThing.cls ≠ "java/lang/invoke/MethodHandle" ∧ yX4_ofThing.cls ≠ "java/lang/invoke/VarHandle" ∧ (parseMethodDescriptor yX4_ofThing.desc).map (fun d => d.parameters.length) = some 2 := by decide +kernel
set_option maxHeartbeats 4000000 in
set_option maxRecDepth 100000 in
theorem lc_ofThing {pp : Program} {l : Launch} {ee : Env} {RR : Room} {ss : State} {mm : MethodId} {bb : List Frame} {me : Method} {cd : Code} {QQ : State → Prop} {dC : Nat → ClassId} {dI : Nat → Nat → Nat} {cS cI cZ : ClassId} {a r0 : Nat} {qs qr t q qm : Nat → Nat} {tH b L i : Nat} {xs : Nat → Int32} {Z : Nat → Prop} {cells slots : Nat} {H : Heap} {locs : List Loc} {ls : Array Slot} (E : lw_E pp ss mm cd RR dC dI cS cI cZ tH b L xs Z cells slots) (hi : i + 6 ≤ L) (hJ : LJ dC dI cS cI cZ a r0 qs qr t q qm Z H) (hS : va_S Z ss.heap H locs) (hl : lv_has ls 4 [(3, .int (nI i)), (2, .ref (qm 0)), (1, .ref a), (0, .ref b)]) (kk : ∀ (H : Heap) (locs : List Loc), LJ dC dI cS cI cZ a r0 qs qr t q qm Z H → va_S Z ss.heap H locs → W pp l ee RR ss mm #[Value.ref b] bb me cd H locs cells slots QQ (F0 mm 1070 ls [])) : W pp l ee RR ss mm #[Value.ref b] bb me cd H locs cells slots QQ (F0 mm 248 ls []) := by
  obtain ⟨hx, hb, hml, hown, hts, hRf, hRl, hcc, hcs, hK, hA, hZT, hX, hbl, hbA, hL⟩ := E
  obtain ⟨hs, la, le, C, x, n, A, X, mb, f, Y, tr, fl, hI, hP, hD⟩ := hJ
  refine lv_aload_n hx hb dL_law_248 rfl (lv_at hl 2 rfl) ?_
  refine lv_aload_n hx hb dL_law_249 rfl (lv_at hl 3 rfl) ?_
  refine lv_iload_n hx hb dL_law_250 rfl (lv_at hl 0 rfl) ?_
  refine lv_iconst (v := nI 1) hx hb dL_law_251 rfl ?_
  refine x_iadd hx hb dL_law_252 ?_
  refine x_sld hx hb hX hbl hbA hS (by omega) (by omega) dL_law_253 ?_
  refine lv_aload_n hx hb dL_law_254 rfl (lv_at hl 3 rfl) ?_
  refine lv_iload_n hx hb dL_law_255 rfl (lv_at hl 0 rfl) ?_
  refine lv_iconst (v := nI 2) hx hb dL_law_256 rfl ?_
  refine x_iadd hx hb dL_law_257 ?_
  refine x_sld hx hb hX hbl hbA hS (by omega) (by omega) dL_law_258 ?_
  refine roV_i (As := [.int (xs (i + 1)), .int (xs (i + 2))]) (rest := []) ⟨hx, hb, hml, hown, hts⟩ (kX3_ofThing l dC dI a r0 (t 0) tr fl cI q n A X hI.1 hI.2.1 (xs (i + 1)) (xs (i + 2)) _) (cwV 2 hts gL_law_X3_ofThing rfl rfl rfl hdX3_ofThing ⟨Nat.le_trans (Nat.le_of_ble_eq_true rfl) hRf, Nat.le_trans (Nat.le_of_ble_eq_true rfl) hRl⟩) (va_recv hK hP (ci := 3) (q0 := 0) rfl rfl) (hK.sub [0] rfl) (hP.sub [0, 14, 15, 16, 17, 18, 19, 20, 21, 22] rfl) rfl hl.1 rfl (Nat.le_of_ble_eq_true rfl) dL_law_259 ⟨hcc, hcs⟩ hP hS hA (fun H locs hP hS => ?_)
  refine lv_aload_n hx hb dL_law_262 rfl (lv_at hl 1 rfl) ?_
  refine lv_aload_n hx hb dL_law_263 rfl (lv_at hl 3 rfl) ?_
  refine lv_iload_n hx hb dL_law_264 rfl (lv_at hl 0 rfl) ?_
  refine lv_iconst (v := nI 1) hx hb dL_law_265 rfl ?_
  refine x_iadd hx hb dL_law_266 ?_
  refine x_sld hx hb hX hbl hbA hS (by omega) (by omega) dL_law_267 ?_
  refine lv_aload_n hx hb dL_law_268 rfl (lv_at hl 3 rfl) ?_
  refine lv_iload_n hx hb dL_law_269 rfl (lv_at hl 0 rfl) ?_
  refine lv_iconst (v := nI 2) hx hb dL_law_270 rfl ?_
  refine x_iadd hx hb dL_law_271 ?_
  refine x_sld hx hb hX hbl hbA hS (by omega) (by omega) dL_law_272 ?_
  refine roV_i (As := [.int (xs (i + 1)), .int (xs (i + 2))]) (rest := [.int (uOfThing n A (xs (i + 1)) (xs (i + 2)))]) ⟨hx, hb, hml, hown, hts⟩ (kX4_ofThing l dC dI cI cZ qm n mb f A Y hI.1 hI.2.2.1 hI.2.2.2.2.1 (xs (i + 1)) (xs (i + 2)) _) (cwV 2 hts gL_law_X4_ofThing rfl rfl rfl hdX4_ofThing ⟨Nat.le_trans (Nat.le_of_ble_eq_true rfl) hRf, Nat.le_trans (Nat.le_of_ble_eq_true rfl) hRl⟩) (va_recv hK hP (ci := 4) (q0 := 23) rfl rfl) (hK.sub [0, 2] rfl) (hP.sub [23, 24, 25, 26, 27, 28, 29, 30, 31, 32, 33, 34, 35, 36, 37, 38, 39] rfl) rfl hl.1 rfl (Nat.le_of_ble_eq_true rfl) dL_law_273 ⟨hcc, hcs⟩ hP hS hA (fun H locs hP hS => ?_)
  refine lv_icmp_eq (tgt := 1070) hx hb dL_law_276 (by decide) (fun _ => ?_) (fun h => absurd rfl h)
  have hD : va_D Z (lwW cS cI cZ a r0 qs qr t q qm hs la le C x n X n mb f Y tr fl) := hD.same rfl
  exact kk _ _ ⟨_, _, _, _, _, _, _, _, _, _, _, _, _, hI, hP, hD⟩ hS
theorem hdX3_bench : yX3_bench.cls = RX3 ∧ yX3_bench.cls ≠ "java/lang/invoke/MethodHandle" ∧ yX3_bench.cls ≠ "java/lang/invoke/VarHandle" ∧ (parseMethodDescriptor yX3_bench.desc).map (fun d => d.parameters.length) = some 1 := by decide +kernel
theorem hdX4_bench : yX4_bench.cls = RX4 ∧ yX4_bench.cls ≠ "java/lang/invoke/MethodHandle" ∧ yX4_bench.cls ≠ "java/lang/invoke/VarHandle" ∧ (parseMethodDescriptor yX4_bench.desc).map (fun d => d.parameters.length) = some 1 := by decide +kernel
set_option maxHeartbeats 4000000 in
set_option maxRecDepth 100000 in
theorem lc_bench {pp : Program} {l : Launch} {ee : Env} {RR : Room} {ss : State} {mm : MethodId} {bb : List Frame} {me : Method} {cd : Code} {QQ : State → Prop} {dC : Nat → ClassId} {dI : Nat → Nat → Nat} {cS cI cZ : ClassId} {a r0 : Nat} {qs qr t q qm : Nat → Nat} {tH b L i : Nat} {xs : Nat → Int32} {Z : Nat → Prop} {cells slots : Nat} {H : Heap} {locs : List Loc} {ls : Array Slot} (E : lw_E pp ss mm cd RR dC dI cS cI cZ tH b L xs Z cells slots) (hi : i + 6 ≤ L) (hJ : LJ dC dI cS cI cZ a r0 qs qr t q qm Z H) (hS : va_S Z ss.heap H locs) (hl : lv_has ls 4 [(3, .int (nI i)), (2, .ref (qm 0)), (1, .ref a), (0, .ref b)]) (kk : ∀ (H : Heap) (locs : List Loc), LJ dC dI cS cI cZ a r0 qs qr t q qm Z H → va_S Z ss.heap H locs → W pp l ee RR ss mm #[Value.ref b] bb me cd H locs cells slots QQ (F0 mm 1070 ls [])) : W pp l ee RR ss mm #[Value.ref b] bb me cd H locs cells slots QQ (F0 mm 281 ls []) := by
  obtain ⟨hx, hb, hml, hown, hts, hRf, hRl, hcc, hcs, hK, hA, hZT, hX, hbl, hbA, hL⟩ := E
  obtain ⟨hs, la, le, C, x, n, A, X, mb, f, Y, tr, fl, hI, hP, hD⟩ := hJ
  refine lv_aload_n hx hb dL_law_281 rfl (lv_at hl 2 rfl) ?_
  refine lv_aload_n hx hb dL_law_282 rfl (lv_at hl 3 rfl) ?_
  refine lv_iload_n hx hb dL_law_283 rfl (lv_at hl 0 rfl) ?_
  refine lv_iconst (v := nI 1) hx hb dL_law_284 rfl ?_
  refine x_iadd hx hb dL_law_285 ?_
  refine x_sld hx hb hX hbl hbA hS (by omega) (by omega) dL_law_286 ?_
  refine roV_i (As := [.int (xs (i + 1))]) (rest := []) ⟨hx, hb, hml, hown, hts⟩ (kX3_bench l dC dI a r0 (t 0) tr fl cI q n A X hI.1 hI.2.1 (xs (i + 1)) _) (cwV 1 hts gL_law_X3_bench rfl rfl rfl hdX3_bench ⟨Nat.le_trans (Nat.le_of_ble_eq_true rfl) hRf, Nat.le_trans (Nat.le_of_ble_eq_true rfl) hRl⟩) (va_recv hK hP (ci := 3) (q0 := 0) rfl rfl) (hK.sub [0] rfl) (hP.sub [0, 14, 15, 16, 17, 18, 19, 20, 21, 22] rfl) rfl hl.1 rfl (Nat.le_of_ble_eq_true rfl) dL_law_287 ⟨hcc, hcs⟩ hP hS hA (fun H locs hP hS => ?_)
  refine lv_aload_n hx hb dL_law_290 rfl (lv_at hl 1 rfl) ?_
  refine lv_aload_n hx hb dL_law_291 rfl (lv_at hl 3 rfl) ?_
  refine lv_iload_n hx hb dL_law_292 rfl (lv_at hl 0 rfl) ?_
  refine lv_iconst (v := nI 1) hx hb dL_law_293 rfl ?_
  refine x_iadd hx hb dL_law_294 ?_
  refine x_sld hx hb hX hbl hbA hS (by omega) (by omega) dL_law_295 ?_
  refine roV_i (As := [.int (xs (i + 1))]) (rest := [.int (uBench n A (xs (i + 1)))]) ⟨hx, hb, hml, hown, hts⟩ (kX4_bench l dC dI cI cZ qm n mb f A Y hI.1 hI.2.2.1 hI.2.2.2.2.1 (xs (i + 1)) _) (cwV 1 hts gL_law_X4_bench rfl rfl rfl hdX4_bench ⟨Nat.le_trans (Nat.le_of_ble_eq_true rfl) hRf, Nat.le_trans (Nat.le_of_ble_eq_true rfl) hRl⟩) (va_recv hK hP (ci := 4) (q0 := 23) rfl rfl) (hK.sub [0, 2] rfl) (hP.sub [23, 24, 25, 26, 27, 28, 29, 30, 31, 32, 33, 34, 35, 36, 37, 38, 39] rfl) rfl hl.1 rfl (Nat.le_of_ble_eq_true rfl) dL_law_296 ⟨hcc, hcs⟩ hP hS hA (fun H locs hP hS => ?_)
  refine lv_icmp_eq (tgt := 1070) hx hb dL_law_299 (by decide) (fun _ => ?_) (fun h => absurd rfl h)
  have hD : va_D Z (lwW cS cI cZ a r0 qs qr t q qm hs la le C x n X n mb f Y tr fl) := hD.same rfl
  exact kk _ _ ⟨_, _, _, _, _, _, _, _, _, _, _, _, _, hI, hP, hD⟩ hS
theorem hdX3_year : yX3_year.cls = RX3 ∧ yX3_year.cls ≠ "java/lang/invoke/MethodHandle" ∧ yX3_year.cls ≠ "java/lang/invoke/VarHandle" ∧ (parseMethodDescriptor yX3_year.desc).map (fun d => d.parameters.length) = some 2 := by decide +kernel
theorem hdX4_year : yX4_year.cls = RX4 ∧ yX4_year.cls ≠ "java/lang/invoke/MethodHandle" ∧ yX4_year.cls ≠ "java/lang/invoke/VarHandle" ∧ (parseMethodDescriptor yX4_year.desc).map (fun d => d.parameters.length) = some 2 := by decide +kernel
set_option maxHeartbeats 4000000 in
set_option maxRecDepth 100000 in
theorem lc_year {pp : Program} {l : Launch} {ee : Env} {RR : Room} {ss : State} {mm : MethodId} {bb : List Frame} {me : Method} {cd : Code} {QQ : State → Prop} {dC : Nat → ClassId} {dI : Nat → Nat → Nat} {cS cI cZ : ClassId} {a r0 : Nat} {qs qr t q qm : Nat → Nat} {tH b L i : Nat} {xs : Nat → Int32} {Z : Nat → Prop} {cells slots : Nat} {H : Heap} {locs : List Loc} {ls : Array Slot} (E : lw_E pp ss mm cd RR dC dI cS cI cZ tH b L xs Z cells slots) (hi : i + 6 ≤ L) (hJ : LJ dC dI cS cI cZ a r0 qs qr t q qm Z H) (hS : va_S Z ss.heap H locs) (hl : lv_has ls 4 [(3, .int (nI i)), (2, .ref (qm 0)), (1, .ref a), (0, .ref b)]) (kk : ∀ (H : Heap) (locs : List Loc), LJ dC dI cS cI cZ a r0 qs qr t q qm Z H → va_S Z ss.heap H locs → W pp l ee RR ss mm #[Value.ref b] bb me cd H locs cells slots QQ (F0 mm 1070 ls [])) : W pp l ee RR ss mm #[Value.ref b] bb me cd H locs cells slots QQ (F0 mm 304 ls []) := by
  obtain ⟨hx, hb, hml, hown, hts, hRf, hRl, hcc, hcs, hK, hA, hZT, hX, hbl, hbA, hL⟩ := E
  obtain ⟨hs, la, le, C, x, n, A, X, mb, f, Y, tr, fl, hI, hP, hD⟩ := hJ
  refine lv_aload_n hx hb dL_law_304 rfl (lv_at hl 2 rfl) ?_
  refine lv_aload_n hx hb dL_law_305 rfl (lv_at hl 3 rfl) ?_
  refine lv_iload_n hx hb dL_law_306 rfl (lv_at hl 0 rfl) ?_
  refine lv_iconst (v := nI 1) hx hb dL_law_307 rfl ?_
  refine x_iadd hx hb dL_law_308 ?_
  refine x_sld hx hb hX hbl hbA hS (by omega) (by omega) dL_law_309 ?_
  refine lv_aload_n hx hb dL_law_310 rfl (lv_at hl 3 rfl) ?_
  refine lv_iload_n hx hb dL_law_311 rfl (lv_at hl 0 rfl) ?_
  refine lv_iconst (v := nI 2) hx hb dL_law_312 rfl ?_
  refine x_iadd hx hb dL_law_313 ?_
  refine x_sld hx hb hX hbl hbA hS (by omega) (by omega) dL_law_314 ?_
  refine lv_if_eq (tgt := 322) hx hb dL_law_315 (by decide) (fun z0 => ?_) (fun z0 => ?_)
  · skip
    refine lv_iconst (v := nI 0) hx hb dL_law_322 rfl ?_
    refine rwW_i (As := [.int (xs (i + 1)), .int (bI false)]) (rest := []) (wn := lwW cS cI cZ a r0 qs qr t q qm hs la le C x (vYear n (xs (i + 1)) false) X n mb f Y tr fl) ⟨hx, hb, hml, hown, hts⟩ (kX3_year l dC dI a r0 (t 0) tr fl cI q n A X hI.1 hI.2.1 (xs (i + 1)) false _) (cwV 2 hts gL_law_X3_year rfl rfl rfl hdX3_year ⟨Nat.le_trans (Nat.le_of_ble_eq_true rfl) hRf, Nat.le_trans (Nat.le_of_ble_eq_true rfl) hRl⟩) (va_recv hK hP (ci := 3) (q0 := 0) rfl rfl) (hK.sub [0] rfl) rfl hl.1 rfl (Nat.le_of_ble_eq_true rfl) dL_law_323 ⟨hcc, hcs⟩ hP hD hS hA [0, 14, 15, 16, 17, 18, 19, 20, 21, 22] [1, 2, 3, 4, 5, 6, 7, 8, 9, 10, 11, 12, 13, 23, 24, 25, 26, 27, 28, 29, 30, 31, 32, 33, 34, 35, 36, 37, 38, 39] [30, 0, 1, 2, 3, 4, 5, 6, 7, 8, 9, 10, 11, 12, 31, 32, 33, 34, 35, 36, 37, 38, 39, 13, 14, 15, 16, 17, 18, 19, 20, 21, 22, 23, 24, 25, 26, 27, 28, 29] rfl rfl (by decide) (by decide) (by decide) rfl rfl (fun H locs hP hS => ?_)
    have hD : va_D Z (lwW cS cI cZ a r0 qs qr t q qm hs la le C x (vYear n (xs (i + 1)) false) X n mb f Y tr fl) := hD.same rfl
    refine lv_aload_n hx hb dL_law_326 rfl (lv_at hl 1 rfl) ?_
    refine lv_aload_n hx hb dL_law_327 rfl (lv_at hl 3 rfl) ?_
    refine lv_iload_n hx hb dL_law_328 rfl (lv_at hl 0 rfl) ?_
    refine lv_iconst (v := nI 1) hx hb dL_law_329 rfl ?_
    refine x_iadd hx hb dL_law_330 ?_
    refine x_sld hx hb hX hbl hbA hS (by omega) (by omega) dL_law_331 ?_
    refine lv_aload_n hx hb dL_law_332 rfl (lv_at hl 3 rfl) ?_
    refine lv_iload_n hx hb dL_law_333 rfl (lv_at hl 0 rfl) ?_
    refine lv_iconst (v := nI 2) hx hb dL_law_334 rfl ?_
    refine x_iadd hx hb dL_law_335 ?_
    refine x_sld hx hb hX hbl hbA hS (by omega) (by omega) dL_law_336 ?_
    refine lv_if_eq (tgt := 344) hx hb dL_law_337 (by decide) (fun z1 => ?_) (fun z1 => absurd z0 z1)
    refine lv_iconst (v := nI 0) hx hb dL_law_344 rfl ?_
    refine rwW_i (As := [.int (xs (i + 1)), .int (bI false)]) (rest := [.int (uYear n (xs (i + 1)))]) (wn := lwW cS cI cZ a r0 qs qr t q qm hs la le C x (vYear n (xs (i + 1)) false) X (vYear n (xs (i + 1)) false) mb f Y tr fl) ⟨hx, hb, hml, hown, hts⟩ (kX4_year l dC dI cI cZ qm n mb f A Y hI.1 hI.2.2.1 hI.2.2.2.2.1 (xs (i + 1)) false _ hI.2.2.2.2.2.1) (cwV 2 hts gL_law_X4_year rfl rfl rfl hdX4_year ⟨Nat.le_trans (Nat.le_of_ble_eq_true rfl) hRf, Nat.le_trans (Nat.le_of_ble_eq_true rfl) hRl⟩) (va_recv hK hP (ci := 4) (q0 := 23) rfl rfl) (hK.sub [0, 2] rfl) rfl hl.1 rfl (Nat.le_of_ble_eq_true rfl) dL_law_345 ⟨hcc, hcs⟩ hP hD hS hA [23, 24, 25, 26, 27, 28, 29, 30, 31, 32, 33, 34, 35, 36, 37, 38, 39] [0, 1, 2, 3, 4, 5, 6, 7, 8, 9, 10, 11, 12, 13, 14, 15, 16, 17, 18, 19, 20, 21, 22] [0, 1, 2, 3, 4, 5, 6, 7, 8, 9, 10, 11, 12, 13, 14, 15, 16, 17, 18, 19, 20, 21, 22, 23, 24, 25, 26, 27, 28, 29, 30, 31, 32, 33, 34, 35, 36, 37, 38, 39] rfl rfl (by decide) (by decide) (by decide) rfl rfl (fun H locs hP hS => ?_)
    have hD : va_D Z (lwW cS cI cZ a r0 qs qr t q qm hs la le C x (vYear n (xs (i + 1)) false) X (vYear n (xs (i + 1)) false) mb f Y tr fl) := hD.same rfl
    refine lv_icmp_eq (tgt := 1070) hx hb dL_law_348 (by decide) (fun _ => ?_) (fun h => absurd rfl h)
    have hD : va_D Z (lwW cS cI cZ a r0 qs qr t q qm hs la le C x (vYear n (xs (i + 1)) false) X (vYear n (xs (i + 1)) false) mb f Y tr fl) := hD.same rfl
    exact kk _ _ ⟨_, _, _, _, _, _, _, _, _, _, _, _, _, (LI_year hI (xs (i + 1)) false), hP, hD⟩ hS
  · skip
    refine lv_iconst (v := nI 1) hx hb dL_law_318 rfl ?_
    refine lv_goto (tgt := 323) hx hb dL_law_319 (by decide) ?_
    refine rwW_i (As := [.int (xs (i + 1)), .int (bI true)]) (rest := []) (wn := lwW cS cI cZ a r0 qs qr t q qm hs la le C x (vYear n (xs (i + 1)) true) X n mb f Y tr fl) ⟨hx, hb, hml, hown, hts⟩ (kX3_year l dC dI a r0 (t 0) tr fl cI q n A X hI.1 hI.2.1 (xs (i + 1)) true _) (cwV 2 hts gL_law_X3_year rfl rfl rfl hdX3_year ⟨Nat.le_trans (Nat.le_of_ble_eq_true rfl) hRf, Nat.le_trans (Nat.le_of_ble_eq_true rfl) hRl⟩) (va_recv hK hP (ci := 3) (q0 := 0) rfl rfl) (hK.sub [0] rfl) rfl hl.1 rfl (Nat.le_of_ble_eq_true rfl) dL_law_323 ⟨hcc, hcs⟩ hP hD hS hA [0, 14, 15, 16, 17, 18, 19, 20, 21, 22] [1, 2, 3, 4, 5, 6, 7, 8, 9, 10, 11, 12, 13, 23, 24, 25, 26, 27, 28, 29, 30, 31, 32, 33, 34, 35, 36, 37, 38, 39] [30, 0, 1, 2, 3, 4, 5, 6, 7, 8, 9, 10, 11, 12, 31, 32, 33, 34, 35, 36, 37, 38, 39, 13, 14, 15, 16, 17, 18, 19, 20, 21, 22, 23, 24, 25, 26, 27, 28, 29] rfl rfl (by decide) (by decide) (by decide) rfl rfl (fun H locs hP hS => ?_)
    have hD : va_D Z (lwW cS cI cZ a r0 qs qr t q qm hs la le C x (vYear n (xs (i + 1)) true) X n mb f Y tr fl) := hD.same rfl
    refine lv_aload_n hx hb dL_law_326 rfl (lv_at hl 1 rfl) ?_
    refine lv_aload_n hx hb dL_law_327 rfl (lv_at hl 3 rfl) ?_
    refine lv_iload_n hx hb dL_law_328 rfl (lv_at hl 0 rfl) ?_
    refine lv_iconst (v := nI 1) hx hb dL_law_329 rfl ?_
    refine x_iadd hx hb dL_law_330 ?_
    refine x_sld hx hb hX hbl hbA hS (by omega) (by omega) dL_law_331 ?_
    refine lv_aload_n hx hb dL_law_332 rfl (lv_at hl 3 rfl) ?_
    refine lv_iload_n hx hb dL_law_333 rfl (lv_at hl 0 rfl) ?_
    refine lv_iconst (v := nI 2) hx hb dL_law_334 rfl ?_
    refine x_iadd hx hb dL_law_335 ?_
    refine x_sld hx hb hX hbl hbA hS (by omega) (by omega) dL_law_336 ?_
    refine lv_if_eq (tgt := 344) hx hb dL_law_337 (by decide) (fun z1 => absurd z1 z0) (fun z1 => ?_)
    refine lv_iconst (v := nI 1) hx hb dL_law_340 rfl ?_
    refine lv_goto (tgt := 345) hx hb dL_law_341 (by decide) ?_
    refine rwW_i (As := [.int (xs (i + 1)), .int (bI true)]) (rest := [.int (uYear n (xs (i + 1)))]) (wn := lwW cS cI cZ a r0 qs qr t q qm hs la le C x (vYear n (xs (i + 1)) true) X (vYear n (xs (i + 1)) true) mb f Y tr fl) ⟨hx, hb, hml, hown, hts⟩ (kX4_year l dC dI cI cZ qm n mb f A Y hI.1 hI.2.2.1 hI.2.2.2.2.1 (xs (i + 1)) true _ hI.2.2.2.2.2.1) (cwV 2 hts gL_law_X4_year rfl rfl rfl hdX4_year ⟨Nat.le_trans (Nat.le_of_ble_eq_true rfl) hRf, Nat.le_trans (Nat.le_of_ble_eq_true rfl) hRl⟩) (va_recv hK hP (ci := 4) (q0 := 23) rfl rfl) (hK.sub [0, 2] rfl) rfl hl.1 rfl (Nat.le_of_ble_eq_true rfl) dL_law_345 ⟨hcc, hcs⟩ hP hD hS hA [23, 24, 25, 26, 27, 28, 29, 30, 31, 32, 33, 34, 35, 36, 37, 38, 39] [0, 1, 2, 3, 4, 5, 6, 7, 8, 9, 10, 11, 12, 13, 14, 15, 16, 17, 18, 19, 20, 21, 22] [0, 1, 2, 3, 4, 5, 6, 7, 8, 9, 10, 11, 12, 13, 14, 15, 16, 17, 18, 19, 20, 21, 22, 23, 24, 25, 26, 27, 28, 29, 30, 31, 32, 33, 34, 35, 36, 37, 38, 39] rfl rfl (by decide) (by decide) (by decide) rfl rfl (fun H locs hP hS => ?_)
    have hD : va_D Z (lwW cS cI cZ a r0 qs qr t q qm hs la le C x (vYear n (xs (i + 1)) true) X (vYear n (xs (i + 1)) true) mb f Y tr fl) := hD.same rfl
    refine lv_icmp_eq (tgt := 1070) hx hb dL_law_348 (by decide) (fun _ => ?_) (fun h => absurd rfl h)
    have hD : va_D Z (lwW cS cI cZ a r0 qs qr t q qm hs la le C x (vYear n (xs (i + 1)) true) X (vYear n (xs (i + 1)) true) mb f Y tr fl) := hD.same rfl
    exact kk _ _ ⟨_, _, _, _, _, _, _, _, _, _, _, _, _, (LI_year hI (xs (i + 1)) true), hP, hD⟩ hS
theorem hdX3_cut : yX3_cut.cls = RX3 ∧ yX3_cut.cls ≠ "java/lang/invoke/MethodHandle" ∧ yX3_cut.cls ≠ "java/lang/invoke/VarHandle" ∧ (parseMethodDescriptor yX3_cut.desc).map (fun d => d.parameters.length) = some 2 := by decide +kernel
theorem hdX4_cut : yX4_cut.cls = RX4 ∧ yX4_cut.cls ≠ "java/lang/invoke/MethodHandle" ∧ yX4_cut.cls ≠ "java/lang/invoke/VarHandle" ∧ (parseMethodDescriptor yX4_cut.desc).map (fun d => d.parameters.length) = some 2 := by decide +kernel
set_option maxHeartbeats 4000000 in
set_option maxRecDepth 100000 in
theorem lc_cut {pp : Program} {l : Launch} {ee : Env} {RR : Room} {ss : State} {mm : MethodId} {bb : List Frame} {me : Method} {cd : Code} {QQ : State → Prop} {dC : Nat → ClassId} {dI : Nat → Nat → Nat} {cS cI cZ : ClassId} {a r0 : Nat} {qs qr t q qm : Nat → Nat} {tH b L i : Nat} {xs : Nat → Int32} {Z : Nat → Prop} {cells slots : Nat} {H : Heap} {locs : List Loc} {ls : Array Slot} (E : lw_E pp ss mm cd RR dC dI cS cI cZ tH b L xs Z cells slots) (hi : i + 6 ≤ L) (hJ : LJ dC dI cS cI cZ a r0 qs qr t q qm Z H) (hS : va_S Z ss.heap H locs) (hl : lv_has ls 4 [(3, .int (nI i)), (2, .ref (qm 0)), (1, .ref a), (0, .ref b)]) (kk : ∀ (H : Heap) (locs : List Loc), LJ dC dI cS cI cZ a r0 qs qr t q qm Z H → va_S Z ss.heap H locs → W pp l ee RR ss mm #[Value.ref b] bb me cd H locs cells slots QQ (F0 mm 1070 ls [])) : W pp l ee RR ss mm #[Value.ref b] bb me cd H locs cells slots QQ (F0 mm 353 ls []) := by
  obtain ⟨hx, hb, hml, hown, hts, hRf, hRl, hcc, hcs, hK, hA, hZT, hX, hbl, hbA, hL⟩ := E
  obtain ⟨hs, la, le, C, x, n, A, X, mb, f, Y, tr, fl, hI, hP, hD⟩ := hJ
  refine lv_aload_n hx hb dL_law_353 rfl (lv_at hl 2 rfl) ?_
  refine lv_aload_n hx hb dL_law_354 rfl (lv_at hl 3 rfl) ?_
  refine lv_iload_n hx hb dL_law_355 rfl (lv_at hl 0 rfl) ?_
  refine lv_iconst (v := nI 1) hx hb dL_law_356 rfl ?_
  refine x_iadd hx hb dL_law_357 ?_
  refine x_sld hx hb hX hbl hbA hS (by omega) (by omega) dL_law_358 ?_
  refine lv_aload_n hx hb dL_law_359 rfl (lv_at hl 3 rfl) ?_
  refine lv_iload_n hx hb dL_law_360 rfl (lv_at hl 0 rfl) ?_
  refine lv_iconst (v := nI 2) hx hb dL_law_361 rfl ?_
  refine x_iadd hx hb dL_law_362 ?_
  refine x_sld hx hb hX hbl hbA hS (by omega) (by omega) dL_law_363 ?_
  refine lv_if_eq (tgt := 371) hx hb dL_law_364 (by decide) (fun z0 => ?_) (fun z0 => ?_)
  · skip
    refine lv_iconst (v := nI 0) hx hb dL_law_371 rfl ?_
    refine rwW_i (As := [.int (xs (i + 1)), .int (bI false)]) (rest := []) (wn := lwW cS cI cZ a r0 qs qr t q qm hs la le C x (vCut n (xs (i + 1)) false) X n mb f Y tr fl) ⟨hx, hb, hml, hown, hts⟩ (kX3_cut l dC dI a r0 (t 0) tr fl cI q n A X hI.1 hI.2.1 (xs (i + 1)) false _) (cwV 2 hts gL_law_X3_cut rfl rfl rfl hdX3_cut ⟨Nat.le_trans (Nat.le_of_ble_eq_true rfl) hRf, Nat.le_trans (Nat.le_of_ble_eq_true rfl) hRl⟩) (va_recv hK hP (ci := 3) (q0 := 0) rfl rfl) (hK.sub [0] rfl) rfl hl.1 rfl (Nat.le_of_ble_eq_true rfl) dL_law_372 ⟨hcc, hcs⟩ hP hD hS hA [0, 14, 15, 16, 17, 18, 19, 20, 21, 22] [1, 2, 3, 4, 5, 6, 7, 8, 9, 10, 11, 12, 13, 23, 24, 25, 26, 27, 28, 29, 30, 31, 32, 33, 34, 35, 36, 37, 38, 39] [30, 0, 1, 2, 3, 4, 5, 6, 7, 8, 9, 10, 11, 12, 31, 32, 33, 34, 35, 36, 37, 38, 39, 13, 14, 15, 16, 17, 18, 19, 20, 21, 22, 23, 24, 25, 26, 27, 28, 29] rfl rfl (by decide) (by decide) (by decide) rfl rfl (fun H locs hP hS => ?_)
    have hD : va_D Z (lwW cS cI cZ a r0 qs qr t q qm hs la le C x (vCut n (xs (i + 1)) false) X n mb f Y tr fl) := hD.same rfl
    refine lv_aload_n hx hb dL_law_375 rfl (lv_at hl 1 rfl) ?_
    refine lv_aload_n hx hb dL_law_376 rfl (lv_at hl 3 rfl) ?_
    refine lv_iload_n hx hb dL_law_377 rfl (lv_at hl 0 rfl) ?_
    refine lv_iconst (v := nI 1) hx hb dL_law_378 rfl ?_
    refine x_iadd hx hb dL_law_379 ?_
    refine x_sld hx hb hX hbl hbA hS (by omega) (by omega) dL_law_380 ?_
    refine lv_aload_n hx hb dL_law_381 rfl (lv_at hl 3 rfl) ?_
    refine lv_iload_n hx hb dL_law_382 rfl (lv_at hl 0 rfl) ?_
    refine lv_iconst (v := nI 2) hx hb dL_law_383 rfl ?_
    refine x_iadd hx hb dL_law_384 ?_
    refine x_sld hx hb hX hbl hbA hS (by omega) (by omega) dL_law_385 ?_
    refine lv_if_eq (tgt := 393) hx hb dL_law_386 (by decide) (fun z1 => ?_) (fun z1 => absurd z0 z1)
    refine lv_iconst (v := nI 0) hx hb dL_law_393 rfl ?_
    refine rwW_i (As := [.int (xs (i + 1)), .int (bI false)]) (rest := [.int (uCut n (xs (i + 1)) false)]) (wn := lwW cS cI cZ a r0 qs qr t q qm hs la le C x (vCut n (xs (i + 1)) false) X n mb f (if inB (xs (i + 1)) (n 3) = true then uX Y 5 (xn (xs (i + 1))) (bI false) else Y) tr fl) ⟨hx, hb, hml, hown, hts⟩ (kX4_cut l dC dI cI cZ qm n mb f A Y hI.1 hI.2.2.1 hI.2.2.2.2.1 (xs (i + 1)) false _) (cwV 2 hts gL_law_X4_cut rfl rfl rfl hdX4_cut ⟨Nat.le_trans (Nat.le_of_ble_eq_true rfl) hRf, Nat.le_trans (Nat.le_of_ble_eq_true rfl) hRl⟩) (va_recv hK hP (ci := 4) (q0 := 23) rfl rfl) (hK.sub [0, 2] rfl) rfl hl.1 rfl (Nat.le_of_ble_eq_true rfl) dL_law_394 ⟨hcc, hcs⟩ hP hD hS hA [23, 24, 25, 26, 27, 28, 29, 30, 31, 32, 33, 34, 35, 36, 37, 38, 39] [0, 1, 2, 3, 4, 5, 6, 7, 8, 9, 10, 11, 12, 13, 14, 15, 16, 17, 18, 19, 20, 21, 22] [0, 1, 2, 3, 4, 5, 6, 7, 8, 9, 10, 11, 12, 13, 14, 15, 16, 17, 18, 19, 20, 21, 22, 23, 24, 25, 26, 27, 28, 29, 30, 31, 32, 33, 34, 35, 36, 37, 38, 39] rfl rfl (by decide) (by decide) (by decide) rfl rfl (fun H locs hP hS => ?_)
    have hD : va_D Z (lwW cS cI cZ a r0 qs qr t q qm hs la le C x (vCut n (xs (i + 1)) false) X n mb f (if inB (xs (i + 1)) (n 3) = true then uX Y 5 (xn (xs (i + 1))) (bI false) else Y) tr fl) := hD.same rfl
    refine lv_icmp_eq (tgt := 1070) hx hb dL_law_397 (by decide) (fun _ => ?_) (fun h => absurd rfl h)
    rw [lwW_m (wM_cut (t := (xs (i + 1))) (is := false))] at hP
    have hD : va_D Z (lwW cS cI cZ a r0 qs qr t q qm hs la le C x (vCut n (xs (i + 1)) false) X (vCut n (xs (i + 1)) false) mb f (if inB (xs (i + 1)) (n 3) = true then uX Y 5 (xn (xs (i + 1))) (bI false) else Y) tr fl) := hD.same rfl
    exact kk _ _ ⟨_, _, _, _, _, _, _, _, _, _, _, _, _, (LI_cut hI (xs (i + 1)) false), hP, hD⟩ hS
  · skip
    refine lv_iconst (v := nI 1) hx hb dL_law_367 rfl ?_
    refine lv_goto (tgt := 372) hx hb dL_law_368 (by decide) ?_
    refine rwW_i (As := [.int (xs (i + 1)), .int (bI true)]) (rest := []) (wn := lwW cS cI cZ a r0 qs qr t q qm hs la le C x (vCut n (xs (i + 1)) true) X n mb f Y tr fl) ⟨hx, hb, hml, hown, hts⟩ (kX3_cut l dC dI a r0 (t 0) tr fl cI q n A X hI.1 hI.2.1 (xs (i + 1)) true _) (cwV 2 hts gL_law_X3_cut rfl rfl rfl hdX3_cut ⟨Nat.le_trans (Nat.le_of_ble_eq_true rfl) hRf, Nat.le_trans (Nat.le_of_ble_eq_true rfl) hRl⟩) (va_recv hK hP (ci := 3) (q0 := 0) rfl rfl) (hK.sub [0] rfl) rfl hl.1 rfl (Nat.le_of_ble_eq_true rfl) dL_law_372 ⟨hcc, hcs⟩ hP hD hS hA [0, 14, 15, 16, 17, 18, 19, 20, 21, 22] [1, 2, 3, 4, 5, 6, 7, 8, 9, 10, 11, 12, 13, 23, 24, 25, 26, 27, 28, 29, 30, 31, 32, 33, 34, 35, 36, 37, 38, 39] [30, 0, 1, 2, 3, 4, 5, 6, 7, 8, 9, 10, 11, 12, 31, 32, 33, 34, 35, 36, 37, 38, 39, 13, 14, 15, 16, 17, 18, 19, 20, 21, 22, 23, 24, 25, 26, 27, 28, 29] rfl rfl (by decide) (by decide) (by decide) rfl rfl (fun H locs hP hS => ?_)
    have hD : va_D Z (lwW cS cI cZ a r0 qs qr t q qm hs la le C x (vCut n (xs (i + 1)) true) X n mb f Y tr fl) := hD.same rfl
    refine lv_aload_n hx hb dL_law_375 rfl (lv_at hl 1 rfl) ?_
    refine lv_aload_n hx hb dL_law_376 rfl (lv_at hl 3 rfl) ?_
    refine lv_iload_n hx hb dL_law_377 rfl (lv_at hl 0 rfl) ?_
    refine lv_iconst (v := nI 1) hx hb dL_law_378 rfl ?_
    refine x_iadd hx hb dL_law_379 ?_
    refine x_sld hx hb hX hbl hbA hS (by omega) (by omega) dL_law_380 ?_
    refine lv_aload_n hx hb dL_law_381 rfl (lv_at hl 3 rfl) ?_
    refine lv_iload_n hx hb dL_law_382 rfl (lv_at hl 0 rfl) ?_
    refine lv_iconst (v := nI 2) hx hb dL_law_383 rfl ?_
    refine x_iadd hx hb dL_law_384 ?_
    refine x_sld hx hb hX hbl hbA hS (by omega) (by omega) dL_law_385 ?_
    refine lv_if_eq (tgt := 393) hx hb dL_law_386 (by decide) (fun z1 => absurd z1 z0) (fun z1 => ?_)
    refine lv_iconst (v := nI 1) hx hb dL_law_389 rfl ?_
    refine lv_goto (tgt := 394) hx hb dL_law_390 (by decide) ?_
    refine rwW_i (As := [.int (xs (i + 1)), .int (bI true)]) (rest := [.int (uCut n (xs (i + 1)) true)]) (wn := lwW cS cI cZ a r0 qs qr t q qm hs la le C x (vCut n (xs (i + 1)) true) X n mb f (if inB (xs (i + 1)) (n 3) = true then uX Y 5 (xn (xs (i + 1))) (bI true) else Y) tr fl) ⟨hx, hb, hml, hown, hts⟩ (kX4_cut l dC dI cI cZ qm n mb f A Y hI.1 hI.2.2.1 hI.2.2.2.2.1 (xs (i + 1)) true _) (cwV 2 hts gL_law_X4_cut rfl rfl rfl hdX4_cut ⟨Nat.le_trans (Nat.le_of_ble_eq_true rfl) hRf, Nat.le_trans (Nat.le_of_ble_eq_true rfl) hRl⟩) (va_recv hK hP (ci := 4) (q0 := 23) rfl rfl) (hK.sub [0, 2] rfl) rfl hl.1 rfl (Nat.le_of_ble_eq_true rfl) dL_law_394 ⟨hcc, hcs⟩ hP hD hS hA [23, 24, 25, 26, 27, 28, 29, 30, 31, 32, 33, 34, 35, 36, 37, 38, 39] [0, 1, 2, 3, 4, 5, 6, 7, 8, 9, 10, 11, 12, 13, 14, 15, 16, 17, 18, 19, 20, 21, 22] [0, 1, 2, 3, 4, 5, 6, 7, 8, 9, 10, 11, 12, 13, 14, 15, 16, 17, 18, 19, 20, 21, 22, 23, 24, 25, 26, 27, 28, 29, 30, 31, 32, 33, 34, 35, 36, 37, 38, 39] rfl rfl (by decide) (by decide) (by decide) rfl rfl (fun H locs hP hS => ?_)
    have hD : va_D Z (lwW cS cI cZ a r0 qs qr t q qm hs la le C x (vCut n (xs (i + 1)) true) X n mb f (if inB (xs (i + 1)) (n 3) = true then uX Y 5 (xn (xs (i + 1))) (bI true) else Y) tr fl) := hD.same rfl
    refine lv_icmp_eq (tgt := 1070) hx hb dL_law_397 (by decide) (fun _ => ?_) (fun h => absurd rfl h)
    rw [lwW_m (wM_cut (t := (xs (i + 1))) (is := true))] at hP
    have hD : va_D Z (lwW cS cI cZ a r0 qs qr t q qm hs la le C x (vCut n (xs (i + 1)) true) X (vCut n (xs (i + 1)) true) mb f (if inB (xs (i + 1)) (n 3) = true then uX Y 5 (xn (xs (i + 1))) (bI true) else Y) tr fl) := hD.same rfl
    exact kk _ _ ⟨_, _, _, _, _, _, _, _, _, _, _, _, _, (LI_cut hI (xs (i + 1)) true), hP, hD⟩ hS
theorem hdX3_price : yX3_price.cls = RX3 ∧ yX3_price.cls ≠ "java/lang/invoke/MethodHandle" ∧ yX3_price.cls ≠ "java/lang/invoke/VarHandle" ∧ (parseMethodDescriptor yX3_price.desc).map (fun d => d.parameters.length) = some 2 := by decide +kernel
theorem hdX4_price : yX4_price.cls = RX4 ∧ yX4_price.cls ≠ "java/lang/invoke/MethodHandle" ∧ yX4_price.cls ≠ "java/lang/invoke/VarHandle" ∧ (parseMethodDescriptor yX4_price.desc).map (fun d => d.parameters.length) = some 2 := by decide +kernel
set_option maxHeartbeats 4000000 in
set_option maxRecDepth 100000 in
theorem lc_price {pp : Program} {l : Launch} {ee : Env} {RR : Room} {ss : State} {mm : MethodId} {bb : List Frame} {me : Method} {cd : Code} {QQ : State → Prop} {dC : Nat → ClassId} {dI : Nat → Nat → Nat} {cS cI cZ : ClassId} {a r0 : Nat} {qs qr t q qm : Nat → Nat} {tH b L i : Nat} {xs : Nat → Int32} {Z : Nat → Prop} {cells slots : Nat} {H : Heap} {locs : List Loc} {ls : Array Slot} (E : lw_E pp ss mm cd RR dC dI cS cI cZ tH b L xs Z cells slots) (hi : i + 6 ≤ L) (hJ : LJ dC dI cS cI cZ a r0 qs qr t q qm Z H) (hS : va_S Z ss.heap H locs) (hl : lv_has ls 4 [(3, .int (nI i)), (2, .ref (qm 0)), (1, .ref a), (0, .ref b)]) (kk : ∀ (H : Heap) (locs : List Loc), LJ dC dI cS cI cZ a r0 qs qr t q qm Z H → va_S Z ss.heap H locs → W pp l ee RR ss mm #[Value.ref b] bb me cd H locs cells slots QQ (F0 mm 1070 ls [])) : W pp l ee RR ss mm #[Value.ref b] bb me cd H locs cells slots QQ (F0 mm 402 ls []) := by
  obtain ⟨hx, hb, hml, hown, hts, hRf, hRl, hcc, hcs, hK, hA, hZT, hX, hbl, hbA, hL⟩ := E
  obtain ⟨hs, la, le, C, x, n, A, X, mb, f, Y, tr, fl, hI, hP, hD⟩ := hJ
  refine lv_aload_n hx hb dL_law_402 rfl (lv_at hl 2 rfl) ?_
  refine lv_aload_n hx hb dL_law_403 rfl (lv_at hl 3 rfl) ?_
  refine lv_iload_n hx hb dL_law_404 rfl (lv_at hl 0 rfl) ?_
  refine lv_iconst (v := nI 1) hx hb dL_law_405 rfl ?_
  refine x_iadd hx hb dL_law_406 ?_
  refine x_sld hx hb hX hbl hbA hS (by omega) (by omega) dL_law_407 ?_
  refine lv_aload_n hx hb dL_law_408 rfl (lv_at hl 3 rfl) ?_
  refine lv_iload_n hx hb dL_law_409 rfl (lv_at hl 0 rfl) ?_
  refine lv_iconst (v := nI 2) hx hb dL_law_410 rfl ?_
  refine x_iadd hx hb dL_law_411 ?_
  refine x_sld hx hb hX hbl hbA hS (by omega) (by omega) dL_law_412 ?_
  refine rwW_i (As := [.int (xs (i + 1)), .int (xs (i + 2))]) (rest := []) (wn := lwW cS cI cZ a r0 qs qr t q qm hs la le C x n (if okPrice n (xs (i + 1)) (xs (i + 2)) = true then uX X 7 (xn (xs (i + 1))) (xs (i + 2)) else X) n mb f Y tr fl) ⟨hx, hb, hml, hown, hts⟩ (kX3_price l dC dI a r0 (t 0) tr fl cI q n A X hI.1 hI.2.1 (xs (i + 1)) (xs (i + 2)) _) (cwV 2 hts gL_law_X3_price rfl rfl rfl hdX3_price ⟨Nat.le_trans (Nat.le_of_ble_eq_true rfl) hRf, Nat.le_trans (Nat.le_of_ble_eq_true rfl) hRl⟩) (va_recv hK hP (ci := 3) (q0 := 0) rfl rfl) (hK.sub [0] rfl) rfl hl.1 rfl (Nat.le_of_ble_eq_true rfl) dL_law_413 ⟨hcc, hcs⟩ hP hD hS hA [0, 14, 15, 16, 17, 18, 19, 20, 21, 22] [1, 2, 3, 4, 5, 6, 7, 8, 9, 10, 11, 12, 13, 23, 24, 25, 26, 27, 28, 29, 30, 31, 32, 33, 34, 35, 36, 37, 38, 39] [30, 0, 1, 2, 3, 4, 5, 6, 7, 8, 9, 10, 11, 12, 31, 32, 33, 34, 35, 36, 37, 38, 39, 13, 14, 15, 16, 17, 18, 19, 20, 21, 22, 23, 24, 25, 26, 27, 28, 29] rfl rfl (by decide) (by decide) (by decide) rfl rfl (fun H locs hP hS => ?_)
  have hD : va_D Z (lwW cS cI cZ a r0 qs qr t q qm hs la le C x n (if okPrice n (xs (i + 1)) (xs (i + 2)) = true then uX X 7 (xn (xs (i + 1))) (xs (i + 2)) else X) n mb f Y tr fl) := hD.same rfl
  refine lv_aload_n hx hb dL_law_416 rfl (lv_at hl 1 rfl) ?_
  refine lv_aload_n hx hb dL_law_417 rfl (lv_at hl 3 rfl) ?_
  refine lv_iload_n hx hb dL_law_418 rfl (lv_at hl 0 rfl) ?_
  refine lv_iconst (v := nI 1) hx hb dL_law_419 rfl ?_
  refine x_iadd hx hb dL_law_420 ?_
  refine x_sld hx hb hX hbl hbA hS (by omega) (by omega) dL_law_421 ?_
  refine lv_aload_n hx hb dL_law_422 rfl (lv_at hl 3 rfl) ?_
  refine lv_iload_n hx hb dL_law_423 rfl (lv_at hl 0 rfl) ?_
  refine lv_iconst (v := nI 2) hx hb dL_law_424 rfl ?_
  refine x_iadd hx hb dL_law_425 ?_
  refine x_sld hx hb hX hbl hbA hS (by omega) (by omega) dL_law_426 ?_
  refine rwW_i (As := [.int (xs (i + 1)), .int (xs (i + 2))]) (rest := [.int (uPrice n A (xs (i + 1)) (xs (i + 2)))]) (wn := lwW cS cI cZ a r0 qs qr t q qm hs la le C x n (if okPrice n (xs (i + 1)) (xs (i + 2)) = true then uX X 7 (xn (xs (i + 1))) (xs (i + 2)) else X) n mb f (if okPrice n (xs (i + 1)) (xs (i + 2)) = true then uX Y 6 (xn (xs (i + 1))) (xs (i + 2)) else Y) tr fl) ⟨hx, hb, hml, hown, hts⟩ (kX4_price l dC dI cI cZ qm n mb f A Y hI.1 hI.2.2.1 hI.2.2.2.2.1 (xs (i + 1)) (xs (i + 2)) _) (cwV 2 hts gL_law_X4_price rfl rfl rfl hdX4_price ⟨Nat.le_trans (Nat.le_of_ble_eq_true rfl) hRf, Nat.le_trans (Nat.le_of_ble_eq_true rfl) hRl⟩) (va_recv hK hP (ci := 4) (q0 := 23) rfl rfl) (hK.sub [0, 2] rfl) rfl hl.1 rfl (Nat.le_of_ble_eq_true rfl) dL_law_427 ⟨hcc, hcs⟩ hP hD hS hA [23, 24, 25, 26, 27, 28, 29, 30, 31, 32, 33, 34, 35, 36, 37, 38, 39] [0, 1, 2, 3, 4, 5, 6, 7, 8, 9, 10, 11, 12, 13, 14, 15, 16, 17, 18, 19, 20, 21, 22] [0, 1, 2, 3, 4, 5, 6, 7, 8, 9, 10, 11, 12, 13, 14, 15, 16, 17, 18, 19, 20, 21, 22, 23, 24, 25, 26, 27, 28, 29, 30, 31, 32, 33, 34, 35, 36, 37, 38, 39] rfl rfl (by decide) (by decide) (by decide) rfl rfl (fun H locs hP hS => ?_)
  have hD : va_D Z (lwW cS cI cZ a r0 qs qr t q qm hs la le C x n (if okPrice n (xs (i + 1)) (xs (i + 2)) = true then uX X 7 (xn (xs (i + 1))) (xs (i + 2)) else X) n mb f (if okPrice n (xs (i + 1)) (xs (i + 2)) = true then uX Y 6 (xn (xs (i + 1))) (xs (i + 2)) else Y) tr fl) := hD.same rfl
  refine lv_icmp_eq (tgt := 1070) hx hb dL_law_430 (by decide) (fun _ => ?_) (fun h => absurd rfl h)
  obtain ⟨A', hI'⟩ := LI_price hI (xs (i + 1)) (xs (i + 2))
  have hD : va_D Z (lwW cS cI cZ a r0 qs qr t q qm hs la le C x n (if okPrice n (xs (i + 1)) (xs (i + 2)) = true then uX X 7 (xn (xs (i + 1))) (xs (i + 2)) else X) n mb f (if okPrice n (xs (i + 1)) (xs (i + 2)) = true then uX Y 6 (xn (xs (i + 1))) (xs (i + 2)) else Y) tr fl) := hD.same rfl
  exact kk _ _ ⟨_, _, _, _, _, _, _, _, _, _, _, _, _, hI', hP, hD⟩ hS
theorem hdX3_statue : yX3_statue.cls = RX3 ∧ yX3_statue.cls ≠ "java/lang/invoke/MethodHandle" ∧ yX3_statue.cls ≠ "java/lang/invoke/VarHandle" ∧ (parseMethodDescriptor yX3_statue.desc).map (fun d => d.parameters.length) = some 2 := by decide +kernel
theorem hdX4_statue : yX4_statue.cls = RX4 ∧ yX4_statue.cls ≠ "java/lang/invoke/MethodHandle" ∧ yX4_statue.cls ≠ "java/lang/invoke/VarHandle" ∧ (parseMethodDescriptor yX4_statue.desc).map (fun d => d.parameters.length) = some 2 := by decide +kernel
set_option maxHeartbeats 4000000 in
set_option maxRecDepth 100000 in
theorem lc_statue {pp : Program} {l : Launch} {ee : Env} {RR : Room} {ss : State} {mm : MethodId} {bb : List Frame} {me : Method} {cd : Code} {QQ : State → Prop} {dC : Nat → ClassId} {dI : Nat → Nat → Nat} {cS cI cZ : ClassId} {a r0 : Nat} {qs qr t q qm : Nat → Nat} {tH b L i : Nat} {xs : Nat → Int32} {Z : Nat → Prop} {cells slots : Nat} {H : Heap} {locs : List Loc} {ls : Array Slot} (E : lw_E pp ss mm cd RR dC dI cS cI cZ tH b L xs Z cells slots) (hi : i + 6 ≤ L) (hJ : LJ dC dI cS cI cZ a r0 qs qr t q qm Z H) (hS : va_S Z ss.heap H locs) (hl : lv_has ls 4 [(3, .int (nI i)), (2, .ref (qm 0)), (1, .ref a), (0, .ref b)]) (kk : ∀ (H : Heap) (locs : List Loc), LJ dC dI cS cI cZ a r0 qs qr t q qm Z H → va_S Z ss.heap H locs → W pp l ee RR ss mm #[Value.ref b] bb me cd H locs cells slots QQ (F0 mm 1070 ls [])) : W pp l ee RR ss mm #[Value.ref b] bb me cd H locs cells slots QQ (F0 mm 435 ls []) := by
  obtain ⟨hx, hb, hml, hown, hts, hRf, hRl, hcc, hcs, hK, hA, hZT, hX, hbl, hbA, hL⟩ := E
  obtain ⟨hs, la, le, C, x, n, A, X, mb, f, Y, tr, fl, hI, hP, hD⟩ := hJ
  refine lv_aload_n hx hb dL_law_435 rfl (lv_at hl 2 rfl) ?_
  refine lv_aload_n hx hb dL_law_436 rfl (lv_at hl 3 rfl) ?_
  refine lv_iload_n hx hb dL_law_437 rfl (lv_at hl 0 rfl) ?_
  refine lv_iconst (v := nI 1) hx hb dL_law_438 rfl ?_
  refine x_iadd hx hb dL_law_439 ?_
  refine x_sld hx hb hX hbl hbA hS (by omega) (by omega) dL_law_440 ?_
  refine lv_aload_n hx hb dL_law_441 rfl (lv_at hl 3 rfl) ?_
  refine lv_iload_n hx hb dL_law_442 rfl (lv_at hl 0 rfl) ?_
  refine lv_iconst (v := nI 2) hx hb dL_law_443 rfl ?_
  refine x_iadd hx hb dL_law_444 ?_
  refine x_sld hx hb hX hbl hbA hS (by omega) (by omega) dL_law_445 ?_
  refine rwW_i (As := [.int (xs (i + 1)), .int (xs (i + 2))]) (rest := []) (wn := lwW cS cI cZ a r0 qs qr t q qm hs la le C x (vStatue n A (xs (i + 1)) (xs (i + 2))) X n mb f Y tr fl) ⟨hx, hb, hml, hown, hts⟩ (kX3_statue l dC dI a r0 (t 0) tr fl cI q n A X hI.1 hI.2.1 (xs (i + 1)) (xs (i + 2)) _) (cwV 2 hts gL_law_X3_statue rfl rfl rfl hdX3_statue ⟨Nat.le_trans (Nat.le_of_ble_eq_true rfl) hRf, Nat.le_trans (Nat.le_of_ble_eq_true rfl) hRl⟩) (va_recv hK hP (ci := 3) (q0 := 0) rfl rfl) (hK.sub [0] rfl) rfl hl.1 rfl (Nat.le_of_ble_eq_true rfl) dL_law_446 ⟨hcc, hcs⟩ hP hD hS hA [0, 14, 15, 16, 17, 18, 19, 20, 21, 22] [1, 2, 3, 4, 5, 6, 7, 8, 9, 10, 11, 12, 13, 23, 24, 25, 26, 27, 28, 29, 30, 31, 32, 33, 34, 35, 36, 37, 38, 39] [30, 0, 1, 2, 3, 4, 5, 6, 7, 8, 9, 10, 11, 12, 31, 32, 33, 34, 35, 36, 37, 38, 39, 13, 14, 15, 16, 17, 18, 19, 20, 21, 22, 23, 24, 25, 26, 27, 28, 29] rfl rfl (by decide) (by decide) (by decide) rfl rfl (fun H locs hP hS => ?_)
  have hD : va_D Z (lwW cS cI cZ a r0 qs qr t q qm hs la le C x (vStatue n A (xs (i + 1)) (xs (i + 2))) X n mb f Y tr fl) := hD.same rfl
  refine lv_aload_n hx hb dL_law_449 rfl (lv_at hl 1 rfl) ?_
  refine lv_aload_n hx hb dL_law_450 rfl (lv_at hl 3 rfl) ?_
  refine lv_iload_n hx hb dL_law_451 rfl (lv_at hl 0 rfl) ?_
  refine lv_iconst (v := nI 1) hx hb dL_law_452 rfl ?_
  refine x_iadd hx hb dL_law_453 ?_
  refine x_sld hx hb hX hbl hbA hS (by omega) (by omega) dL_law_454 ?_
  refine lv_aload_n hx hb dL_law_455 rfl (lv_at hl 3 rfl) ?_
  refine lv_iload_n hx hb dL_law_456 rfl (lv_at hl 0 rfl) ?_
  refine lv_iconst (v := nI 2) hx hb dL_law_457 rfl ?_
  refine x_iadd hx hb dL_law_458 ?_
  refine x_sld hx hb hX hbl hbA hS (by omega) (by omega) dL_law_459 ?_
  refine rwW_i (As := [.int (xs (i + 1)), .int (xs (i + 2))]) (rest := [.int (uStatue n A (xs (i + 1)) (xs (i + 2)))]) (wn := lwW cS cI cZ a r0 qs qr t q qm hs la le C x (vStatue n A (xs (i + 1)) (xs (i + 2))) X (vStaM n A (xs (i + 1)) (xs (i + 2))) (if inB (xs (i + 1)) (n 0 * n 1) = true ∧ inB (xs (i + 2)) 10 = true ∧ A 0 (xn (xs (i + 1))) = 0 then (xs (i + 2)) else mb) f Y tr fl) ⟨hx, hb, hml, hown, hts⟩ (kX4_statue l dC dI cI cZ qm n mb f A Y hI.1 hI.2.2.1 hI.2.2.2.2.1 (xs (i + 1)) (xs (i + 2)) _) (cwV 2 hts gL_law_X4_statue rfl rfl rfl hdX4_statue ⟨Nat.le_trans (Nat.le_of_ble_eq_true rfl) hRf, Nat.le_trans (Nat.le_of_ble_eq_true rfl) hRl⟩) (va_recv hK hP (ci := 4) (q0 := 23) rfl rfl) (hK.sub [0, 2] rfl) rfl hl.1 rfl (Nat.le_of_ble_eq_true rfl) dL_law_460 ⟨hcc, hcs⟩ hP hD hS hA [23, 24, 25, 26, 27, 28, 29, 30, 31, 32, 33, 34, 35, 36, 37, 38, 39] [0, 1, 2, 3, 4, 5, 6, 7, 8, 9, 10, 11, 12, 13, 14, 15, 16, 17, 18, 19, 20, 21, 22] [0, 1, 2, 3, 4, 5, 6, 7, 8, 9, 10, 11, 12, 13, 14, 15, 16, 17, 18, 19, 20, 21, 22, 23, 24, 25, 26, 27, 28, 29, 30, 31, 32, 33, 34, 35, 36, 37, 38, 39] rfl rfl (by decide) (by decide) (by decide) rfl rfl (fun H locs hP hS => ?_)
  have hD : va_D Z (lwW cS cI cZ a r0 qs qr t q qm hs la le C x (vStatue n A (xs (i + 1)) (xs (i + 2))) X (vStaM n A (xs (i + 1)) (xs (i + 2))) (if inB (xs (i + 1)) (n 0 * n 1) = true ∧ inB (xs (i + 2)) 10 = true ∧ A 0 (xn (xs (i + 1))) = 0 then (xs (i + 2)) else mb) f Y tr fl) := hD.same rfl
  refine lv_icmp_eq (tgt := 1070) hx hb dL_law_463 (by decide) (fun _ => ?_) (fun h => absurd rfl h)
  rw [lwW_m wM_sta] at hP
  have hD : va_D Z (lwW cS cI cZ a r0 qs qr t q qm hs la le C x (vStatue n A (xs (i + 1)) (xs (i + 2))) X (vStatue n A (xs (i + 1)) (xs (i + 2))) (if inB (xs (i + 1)) (n 0 * n 1) = true ∧ inB (xs (i + 2)) 10 = true ∧ A 0 (xn (xs (i + 1))) = 0 then (xs (i + 2)) else mb) f Y tr fl) := hD.same rfl
  exact kk _ _ ⟨_, _, _, _, _, _, _, _, _, _, _, _, _, (LI_statue hI (xs (i + 1)) (xs (i + 2))), hP, hD⟩ hS
theorem hdX3_seen : yX3_seen.cls = RX3 ∧ yX3_seen.cls ≠ "java/lang/invoke/MethodHandle" ∧ yX3_seen.cls ≠ "java/lang/invoke/VarHandle" ∧ (parseMethodDescriptor yX3_seen.desc).map (fun d => d.parameters.length) = some 1 := by decide +kernel
theorem hdX4_seen : yX4_seen.cls = RX4 ∧ yX4_seen.cls ≠ "java/lang/invoke/MethodHandle" ∧ yX4_seen.cls ≠ "java/lang/invoke/VarHandle" ∧ (parseMethodDescriptor yX4_seen.desc).map (fun d => d.parameters.length) = some 1 := by decide +kernel
set_option maxHeartbeats 4000000 in
set_option maxRecDepth 100000 in
theorem lc_seen {pp : Program} {l : Launch} {ee : Env} {RR : Room} {ss : State} {mm : MethodId} {bb : List Frame} {me : Method} {cd : Code} {QQ : State → Prop} {dC : Nat → ClassId} {dI : Nat → Nat → Nat} {cS cI cZ : ClassId} {a r0 : Nat} {qs qr t q qm : Nat → Nat} {tH b L i : Nat} {xs : Nat → Int32} {Z : Nat → Prop} {cells slots : Nat} {H : Heap} {locs : List Loc} {ls : Array Slot} (E : lw_E pp ss mm cd RR dC dI cS cI cZ tH b L xs Z cells slots) (hi : i + 6 ≤ L) (hJ : LJ dC dI cS cI cZ a r0 qs qr t q qm Z H) (hS : va_S Z ss.heap H locs) (hl : lv_has ls 4 [(3, .int (nI i)), (2, .ref (qm 0)), (1, .ref a), (0, .ref b)]) (kk : ∀ (H : Heap) (locs : List Loc), LJ dC dI cS cI cZ a r0 qs qr t q qm Z H → va_S Z ss.heap H locs → W pp l ee RR ss mm #[Value.ref b] bb me cd H locs cells slots QQ (F0 mm 1070 ls [])) : W pp l ee RR ss mm #[Value.ref b] bb me cd H locs cells slots QQ (F0 mm 468 ls []) := by
  obtain ⟨hx, hb, hml, hown, hts, hRf, hRl, hcc, hcs, hK, hA, hZT, hX, hbl, hbA, hL⟩ := E
  obtain ⟨hs, la, le, C, x, n, A, X, mb, f, Y, tr, fl, hI, hP, hD⟩ := hJ
  refine lv_aload_n hx hb dL_law_468 rfl (lv_at hl 2 rfl) ?_
  refine lv_aload_n hx hb dL_law_469 rfl (lv_at hl 3 rfl) ?_
  refine lv_iload_n hx hb dL_law_470 rfl (lv_at hl 0 rfl) ?_
  refine lv_iconst (v := nI 1) hx hb dL_law_471 rfl ?_
  refine x_iadd hx hb dL_law_472 ?_
  refine x_sld hx hb hX hbl hbA hS (by omega) (by omega) dL_law_473 ?_
  refine rsV_i (As := [.int (xs (i + 1))]) (rest := []) ⟨hx, hb, hml, hown, hts⟩ (kX3_seen l dC dI a r0 (t 0) tr fl cI q n A X hI.1 hI.2.1 tH (xs (i + 1)) _) (cwV 1 hts gL_law_X3_seen rfl rfl rfl hdX3_seen ⟨Nat.le_trans (Nat.le_of_ble_eq_true rfl) hRf, Nat.le_trans (Nat.le_of_ble_eq_true rfl) hRl⟩) (va_recv hK hP (ci := 3) (q0 := 0) rfl rfl) (hK.sub [0] rfl) (hP.sub [0, 14, 15, 16, 17, 18, 19, 20, 21, 22] rfl) rfl hl.1 rfl (Nat.le_of_ble_eq_true rfl) dL_law_474 ⟨hcc, hcs⟩ hP hS hA hZT (fun H locs hP hS => ?_)
  refine lv_aload_n hx hb dL_law_477 rfl (lv_at hl 1 rfl) ?_
  refine lv_aload_n hx hb dL_law_478 rfl (lv_at hl 3 rfl) ?_
  refine lv_iload_n hx hb dL_law_479 rfl (lv_at hl 0 rfl) ?_
  refine lv_iconst (v := nI 1) hx hb dL_law_480 rfl ?_
  refine x_iadd hx hb dL_law_481 ?_
  refine x_sld hx hb hX hbl hbA hS (by omega) (by omega) dL_law_482 ?_
  refine roV_i (As := [.int (xs (i + 1))]) (rest := [.int (uSeen n A (xs (i + 1)))]) ⟨hx, hb, hml, hown, hts⟩ (kX4_seen l dC dI cI cZ qm n mb f A Y hI.1 hI.2.2.1 hI.2.2.2.2.1 (xs (i + 1)) _) (cwV 1 hts gL_law_X4_seen rfl rfl rfl hdX4_seen ⟨Nat.le_trans (Nat.le_of_ble_eq_true rfl) hRf, Nat.le_trans (Nat.le_of_ble_eq_true rfl) hRl⟩) (va_recv hK hP (ci := 4) (q0 := 23) rfl rfl) (hK.sub [0, 2] rfl) (hP.sub [23, 24, 25, 26, 27, 28, 29, 30, 31, 32, 33, 34, 35, 36, 37, 38, 39] rfl) rfl hl.1 rfl (Nat.le_of_ble_eq_true rfl) dL_law_483 ⟨hcc, hcs⟩ hP hS hA (fun H locs hP hS => ?_)
  refine lv_icmp_eq (tgt := 1070) hx hb dL_law_486 (by decide) (fun _ => ?_) (fun h => absurd rfl h)
  have hD : va_D Z (lwW cS cI cZ a r0 qs qr t q qm hs la le C x n X n mb f Y tr fl) := hD.same rfl
  exact kk _ _ ⟨_, _, _, _, _, _, _, _, _, _, _, _, _, hI, hP, hD⟩ hS
theorem hdX3_whole : yX3_whole.cls = RX3 ∧ yX3_whole.cls ≠ "java/lang/invoke/MethodHandle" ∧ yX3_whole.cls ≠ "java/lang/invoke/VarHandle" ∧ (parseMethodDescriptor yX3_whole.desc).map (fun d => d.parameters.length) = some 0 := by decide +kernel
theorem hdX4_whole : yX4_whole.cls = RX4 ∧ yX4_whole.cls ≠ "java/lang/invoke/MethodHandle" ∧ yX4_whole.cls ≠ "java/lang/invoke/VarHandle" ∧ (parseMethodDescriptor yX4_whole.desc).map (fun d => d.parameters.length) = some 0 := by decide +kernel
set_option maxHeartbeats 4000000 in
set_option maxRecDepth 100000 in
theorem lc_whole {pp : Program} {l : Launch} {ee : Env} {RR : Room} {ss : State} {mm : MethodId} {bb : List Frame} {me : Method} {cd : Code} {QQ : State → Prop} {dC : Nat → ClassId} {dI : Nat → Nat → Nat} {cS cI cZ : ClassId} {a r0 : Nat} {qs qr t q qm : Nat → Nat} {tH b L i : Nat} {xs : Nat → Int32} {Z : Nat → Prop} {cells slots : Nat} {H : Heap} {locs : List Loc} {ls : Array Slot} (E : lw_E pp ss mm cd RR dC dI cS cI cZ tH b L xs Z cells slots) (hi : i + 6 ≤ L) (hJ : LJ dC dI cS cI cZ a r0 qs qr t q qm Z H) (hS : va_S Z ss.heap H locs) (hl : lv_has ls 4 [(3, .int (nI i)), (2, .ref (qm 0)), (1, .ref a), (0, .ref b)]) (kk : ∀ (H : Heap) (locs : List Loc), LJ dC dI cS cI cZ a r0 qs qr t q qm Z H → va_S Z ss.heap H locs → W pp l ee RR ss mm #[Value.ref b] bb me cd H locs cells slots QQ (F0 mm 1070 ls [])) : W pp l ee RR ss mm #[Value.ref b] bb me cd H locs cells slots QQ (F0 mm 491 ls []) := by
  obtain ⟨hx, hb, hml, hown, hts, hRf, hRl, hcc, hcs, hK, hA, hZT, hX, hbl, hbA, hL⟩ := E
  obtain ⟨hs, la, le, C, x, n, A, X, mb, f, Y, tr, fl, hI, hP, hD⟩ := hJ
  refine lv_aload_n hx hb dL_law_491 rfl (lv_at hl 2 rfl) ?_
  refine roV_i (As := []) (rest := []) ⟨hx, hb, hml, hown, hts⟩ (kX3_whole l dC dI a r0 (t 0) tr fl cI q n A X hI.1 hI.2.1  _) (cwV 0 hts gL_law_X3_whole rfl rfl rfl hdX3_whole ⟨Nat.le_trans (Nat.le_of_ble_eq_true rfl) hRf, Nat.le_trans (Nat.le_of_ble_eq_true rfl) hRl⟩) (va_recv hK hP (ci := 3) (q0 := 0) rfl rfl) (hK.sub [0] rfl) (hP.sub [0, 14, 15, 16, 17, 18, 19, 20, 21, 22] rfl) rfl hl.1 rfl (Nat.le_of_ble_eq_true rfl) dL_law_492 ⟨hcc, hcs⟩ hP hS hA (fun H locs hP hS => ?_)
  refine lv_aload_n hx hb dL_law_495 rfl (lv_at hl 1 rfl) ?_
  refine roV_i (As := []) (rest := [.int (uWhole n A)]) ⟨hx, hb, hml, hown, hts⟩ (kX4_whole l dC dI cI cZ qm n mb f A Y hI.1 hI.2.2.1 hI.2.2.2.2.1  _) (cwV 0 hts gL_law_X4_whole rfl rfl rfl hdX4_whole ⟨Nat.le_trans (Nat.le_of_ble_eq_true rfl) hRf, Nat.le_trans (Nat.le_of_ble_eq_true rfl) hRl⟩) (va_recv hK hP (ci := 4) (q0 := 23) rfl rfl) (hK.sub [0, 2] rfl) (hP.sub [23, 24, 25, 26, 27, 28, 29, 30, 31, 32, 33, 34, 35, 36, 37, 38, 39] rfl) rfl hl.1 rfl (Nat.le_of_ble_eq_true rfl) dL_law_496 ⟨hcc, hcs⟩ hP hS hA (fun H locs hP hS => ?_)
  refine lv_icmp_eq (tgt := 1070) hx hb dL_law_499 (by decide) (fun _ => ?_) (fun h => absurd rfl h)
  have hD : va_D Z (lwW cS cI cZ a r0 qs qr t q qm hs la le C x n X n mb f Y tr fl) := hD.same rfl
  exact kk _ _ ⟨_, _, _, _, _, _, _, _, _, _, _, _, _, hI, hP, hD⟩ hS
theorem hdX3_hidden : yX3_hidden.cls = RX3 ∧ yX3_hidden.cls ≠ "java/lang/invoke/MethodHandle" ∧ yX3_hidden.cls ≠ "java/lang/invoke/VarHandle" ∧ (parseMethodDescriptor yX3_hidden.desc).map (fun d => d.parameters.length) = some 1 := by decide +kernel
theorem hdX4_hidden : yX4_hidden.cls = RX4 ∧ yX4_hidden.cls ≠ "java/lang/invoke/MethodHandle" ∧ yX4_hidden.cls ≠ "java/lang/invoke/VarHandle" ∧ (parseMethodDescriptor yX4_hidden.desc).map (fun d => d.parameters.length) = some 1 := by decide +kernel
set_option maxHeartbeats 4000000 in
set_option maxRecDepth 100000 in
theorem lc_hidden {pp : Program} {l : Launch} {ee : Env} {RR : Room} {ss : State} {mm : MethodId} {bb : List Frame} {me : Method} {cd : Code} {QQ : State → Prop} {dC : Nat → ClassId} {dI : Nat → Nat → Nat} {cS cI cZ : ClassId} {a r0 : Nat} {qs qr t q qm : Nat → Nat} {tH b L i : Nat} {xs : Nat → Int32} {Z : Nat → Prop} {cells slots : Nat} {H : Heap} {locs : List Loc} {ls : Array Slot} (E : lw_E pp ss mm cd RR dC dI cS cI cZ tH b L xs Z cells slots) (hi : i + 6 ≤ L) (hJ : LJ dC dI cS cI cZ a r0 qs qr t q qm Z H) (hS : va_S Z ss.heap H locs) (hl : lv_has ls 4 [(3, .int (nI i)), (2, .ref (qm 0)), (1, .ref a), (0, .ref b)]) (kk : ∀ (H : Heap) (locs : List Loc), LJ dC dI cS cI cZ a r0 qs qr t q qm Z H → va_S Z ss.heap H locs → W pp l ee RR ss mm #[Value.ref b] bb me cd H locs cells slots QQ (F0 mm 1070 ls [])) : W pp l ee RR ss mm #[Value.ref b] bb me cd H locs cells slots QQ (F0 mm 504 ls []) := by
  obtain ⟨hx, hb, hml, hown, hts, hRf, hRl, hcc, hcs, hK, hA, hZT, hX, hbl, hbA, hL⟩ := E
  obtain ⟨hs, la, le, C, x, n, A, X, mb, f, Y, tr, fl, hI, hP, hD⟩ := hJ
  refine lv_aload_n hx hb dL_law_504 rfl (lv_at hl 2 rfl) ?_
  refine lv_aload_n hx hb dL_law_505 rfl (lv_at hl 3 rfl) ?_
  refine lv_iload_n hx hb dL_law_506 rfl (lv_at hl 0 rfl) ?_
  refine lv_iconst (v := nI 1) hx hb dL_law_507 rfl ?_
  refine x_iadd hx hb dL_law_508 ?_
  refine x_sld hx hb hX hbl hbA hS (by omega) (by omega) dL_law_509 ?_
  refine roV_i (As := [.int (xs (i + 1))]) (rest := []) ⟨hx, hb, hml, hown, hts⟩ (kX3_hidden l dC dI a r0 (t 0) tr fl cI q n A X hI.1 hI.2.1 (xs (i + 1)) _) (cwV 1 hts gL_law_X3_hidden rfl rfl rfl hdX3_hidden ⟨Nat.le_trans (Nat.le_of_ble_eq_true rfl) hRf, Nat.le_trans (Nat.le_of_ble_eq_true rfl) hRl⟩) (va_recv hK hP (ci := 3) (q0 := 0) rfl rfl) (hK.sub [0] rfl) (hP.sub [0, 14, 15, 16, 17, 18, 19, 20, 21, 22] rfl) rfl hl.1 rfl (Nat.le_of_ble_eq_true rfl) dL_law_510 ⟨hcc, hcs⟩ hP hS hA (fun H locs hP hS => ?_)
  refine lv_aload_n hx hb dL_law_513 rfl (lv_at hl 1 rfl) ?_
  refine lv_aload_n hx hb dL_law_514 rfl (lv_at hl 3 rfl) ?_
  refine lv_iload_n hx hb dL_law_515 rfl (lv_at hl 0 rfl) ?_
  refine lv_iconst (v := nI 1) hx hb dL_law_516 rfl ?_
  refine x_iadd hx hb dL_law_517 ?_
  refine x_sld hx hb hX hbl hbA hS (by omega) (by omega) dL_law_518 ?_
  refine roV_i (As := [.int (xs (i + 1))]) (rest := [.int (uHidden n A (xs (i + 1)))]) ⟨hx, hb, hml, hown, hts⟩ (kX4_hidden l dC dI cI cZ qm n mb f A Y hI.1 hI.2.2.1 hI.2.2.2.2.1 (xs (i + 1)) _) (cwV 1 hts gL_law_X4_hidden rfl rfl rfl hdX4_hidden ⟨Nat.le_trans (Nat.le_of_ble_eq_true rfl) hRf, Nat.le_trans (Nat.le_of_ble_eq_true rfl) hRl⟩) (va_recv hK hP (ci := 4) (q0 := 23) rfl rfl) (hK.sub [0, 2] rfl) (hP.sub [23, 24, 25, 26, 27, 28, 29, 30, 31, 32, 33, 34, 35, 36, 37, 38, 39] rfl) rfl hl.1 rfl (Nat.le_of_ble_eq_true rfl) dL_law_519 ⟨hcc, hcs⟩ hP hS hA (fun H locs hP hS => ?_)
  refine lv_icmp_eq (tgt := 1070) hx hb dL_law_522 (by decide) (fun _ => ?_) (fun h => absurd rfl h)
  have hD : va_D Z (lwW cS cI cZ a r0 qs qr t q qm hs la le C x n X n mb f Y tr fl) := hD.same rfl
  exact kk _ _ ⟨_, _, _, _, _, _, _, _, _, _, _, _, _, hI, hP, hD⟩ hS
theorem hdX3_sight : yX3_sight.cls = RX3 ∧ yX3_sight.cls ≠ "java/lang/invoke/MethodHandle" ∧ yX3_sight.cls ≠ "java/lang/invoke/VarHandle" ∧ (parseMethodDescriptor yX3_sight.desc).map (fun d => d.parameters.length) = some 1 := by decide +kernel
theorem hdX4_sight : yX4_sight.cls = RX4 ∧ yX4_sight.cls ≠ "java/lang/invoke/MethodHandle" ∧ yX4_sight.cls ≠ "java/lang/invoke/VarHandle" ∧ (parseMethodDescriptor yX4_sight.desc).map (fun d => d.parameters.length) = some 1 := by decide +kernel
set_option maxHeartbeats 4000000 in
set_option maxRecDepth 100000 in
theorem lc_sight {pp : Program} {l : Launch} {ee : Env} {RR : Room} {ss : State} {mm : MethodId} {bb : List Frame} {me : Method} {cd : Code} {QQ : State → Prop} {dC : Nat → ClassId} {dI : Nat → Nat → Nat} {cS cI cZ : ClassId} {a r0 : Nat} {qs qr t q qm : Nat → Nat} {tH b L i : Nat} {xs : Nat → Int32} {Z : Nat → Prop} {cells slots : Nat} {H : Heap} {locs : List Loc} {ls : Array Slot} (E : lw_E pp ss mm cd RR dC dI cS cI cZ tH b L xs Z cells slots) (hi : i + 6 ≤ L) (hJ : LJ dC dI cS cI cZ a r0 qs qr t q qm Z H) (hS : va_S Z ss.heap H locs) (hl : lv_has ls 4 [(3, .int (nI i)), (2, .ref (qm 0)), (1, .ref a), (0, .ref b)]) (kk : ∀ (H : Heap) (locs : List Loc), LJ dC dI cS cI cZ a r0 qs qr t q qm Z H → va_S Z ss.heap H locs → W pp l ee RR ss mm #[Value.ref b] bb me cd H locs cells slots QQ (F0 mm 1070 ls [])) : W pp l ee RR ss mm #[Value.ref b] bb me cd H locs cells slots QQ (F0 mm 527 ls []) := by
  obtain ⟨hx, hb, hml, hown, hts, hRf, hRl, hcc, hcs, hK, hA, hZT, hX, hbl, hbA, hL⟩ := E
  obtain ⟨hs, la, le, C, x, n, A, X, mb, f, Y, tr, fl, hI, hP, hD⟩ := hJ
  refine lv_aload_n hx hb dL_law_527 rfl (lv_at hl 2 rfl) ?_
  refine lv_aload_n hx hb dL_law_528 rfl (lv_at hl 3 rfl) ?_
  refine lv_iload_n hx hb dL_law_529 rfl (lv_at hl 0 rfl) ?_
  refine lv_iconst (v := nI 1) hx hb dL_law_530 rfl ?_
  refine x_iadd hx hb dL_law_531 ?_
  refine x_sld hx hb hX hbl hbA hS (by omega) (by omega) dL_law_532 ?_
  refine rsV_l (As := [.int (xs (i + 1))]) (rest := []) ⟨hx, hb, hml, hown, hts⟩ (kX3_sight l dC dI a r0 (t 0) tr fl cI q n A X hI.1 hI.2.1 tH (xs (i + 1)) _) (cwV 1 hts gL_law_X3_sight rfl rfl rfl hdX3_sight ⟨Nat.le_trans (Nat.le_of_ble_eq_true rfl) hRf, Nat.le_trans (Nat.le_of_ble_eq_true rfl) hRl⟩) (va_recv hK hP (ci := 3) (q0 := 0) rfl rfl) (hK.sub [0] rfl) (hP.sub [0, 14, 15, 16, 17, 18, 19, 20, 21, 22] rfl) rfl hl.1 rfl (Nat.le_of_ble_eq_true rfl) dL_law_533 ⟨hcc, hcs⟩ hP hS hA hZT (fun H locs hP hS => ?_)
  refine lv_aload_n hx hb dL_law_536 rfl (lv_at hl 1 rfl) ?_
  refine lv_aload_n hx hb dL_law_537 rfl (lv_at hl 3 rfl) ?_
  refine lv_iload_n hx hb dL_law_538 rfl (lv_at hl 0 rfl) ?_
  refine lv_iconst (v := nI 1) hx hb dL_law_539 rfl ?_
  refine x_iadd hx hb dL_law_540 ?_
  refine x_sld hx hb hX hbl hbA hS (by omega) (by omega) dL_law_541 ?_
  refine roV_l (As := [.int (xs (i + 1))]) (rest := [.long (uSight n A (xs (i + 1)))]) ⟨hx, hb, hml, hown, hts⟩ (kX4_sight l dC dI cI cZ qm n mb f A Y hI.1 hI.2.2.1 hI.2.2.2.2.1 (xs (i + 1)) _) (cwV 1 hts gL_law_X4_sight rfl rfl rfl hdX4_sight ⟨Nat.le_trans (Nat.le_of_ble_eq_true rfl) hRf, Nat.le_trans (Nat.le_of_ble_eq_true rfl) hRl⟩) (va_recv hK hP (ci := 4) (q0 := 23) rfl rfl) (hK.sub [0, 2] rfl) (hP.sub [23, 24, 25, 26, 27, 28, 29, 30, 31, 32, 33, 34, 35, 36, 37, 38, 39] rfl) rfl hl.1 rfl (Nat.le_of_ble_eq_true rfl) dL_law_542 ⟨hcc, hcs⟩ hP hS hA (fun H locs hP hS => ?_)
  refine W.lcmp hx hb dL_law_545 ?_
  refine lv_if_eq (tgt := 1070) hx hb dL_law_546 (by decide) (fun _ => ?_) (fun h => absurd (lgc_self _) h)
  have hD : va_D Z (lwW cS cI cZ a r0 qs qr t q qm hs la le C x n X n mb f Y tr fl) := hD.same rfl
  exact kk _ _ ⟨_, _, _, _, _, _, _, _, _, _, _, _, _, hI, hP, hD⟩ hS
