theorem hdX3_tellUrn : yX3_tellUrn.cls = RX3 ∧ yX3_tellUrn.cls ≠ "java/lang/invoke/MethodHandle" ∧ yX3_tellUrn.cls ≠ "java/lang/invoke/VarHandle" ∧ (parseMethodDescriptor yX3_tellUrn.desc).map (fun d => d.parameters.length) = some 1 := by decide +kernel
set_option maxRecDepth 20000 in
theorem ggX3_tellTree_X3_leaveInTrace : GoodIn wsX3_tellTree wsX3_leaveInTrace := goodIn_r _ [5, 6, 17, 18, 19, 20, 21] (by decide +kernel) (by decide +kernel)
set_option maxRecDepth 20000 in
theorem gX3_tellTree_X3_leaveInTrace : GoodIn wsX3_tellTree (wsV RX3 223 RX3 yX3_leaveInTrace wsX3_leaveInTrace) := goodIn_app (goodIn_of _ (by decide +kernel)) ggX3_tellTree_X3_leaveInTrace
set_option maxRecDepth 20000 in
theorem ggX3_tellTree_X3_tellUrn : GoodIn wsX3_tellTree wsX3_tellUrn := goodIn_r _ [10, 1, 2, 3, 4, 5, 6, 11, 12, 13, 14, 15, 16, 17, 18, 19, 20, 21, 22, 23, 24, 25, 26, 27, 28, 29, 30, 31, 32, 33, 34, 35, 36, 37, 38] (by decide +kernel) (by decide +kernel)
set_option maxRecDepth 20000 in
theorem gX3_tellTree_X3_tellUrn : GoodIn wsX3_tellTree (wsV RX3 208 RX3 yX3_tellUrn wsX3_tellUrn) := goodIn_app (goodIn_of _ (by decide +kernel)) ggX3_tellTree_X3_tellUrn
set_option maxRecDepth 20000 in
theorem ggX3_tellTree_X3_tellLamp : GoodIn wsX3_tellTree wsX3_tellLamp := goodIn_r _ [14, 15, 16, 1, 2, 3, 4, 5, 6, 17, 18, 19, 20, 21, 22, 23, 24, 25, 26, 27, 28, 29, 30, 31, 32, 33, 34, 35, 36, 37, 38] (by decide +kernel) (by decide +kernel)
set_option maxRecDepth 20000 in
theorem gX3_tellTree_X3_tellLamp : GoodIn wsX3_tellTree (wsV RX3 211 RX3 yX3_tellLamp wsX3_tellLamp) := goodIn_app (goodIn_of _ (by decide +kernel)) ggX3_tellTree_X3_tellLamp
set_option maxHeartbeats 4000000 in
set_option maxRecDepth 100000 in
theorem kX3_tellTree (l : Launch) (dC : Nat → ClassId) (dI : Nat → Nat → Nat) (a r0 r1 : Nat) (tr fl : Int32) (cI : ClassId) (q n : Nat → Nat) (A : Nat → Nat → Nat) (X : Nat → Nat → Int32) (hW : WF n A) (hR : RG n A X) (t : Nat) (sz : Nat) (ht : t < n 3) : Met l yX3_tellTree wsX3_tellTree ({ frames := 3, cells := 0, slots := 0, locals := 63 }) (rwP [.ref a, .int (nI t)] sz (dC, dI) [(cI, .int)] ((a, .inr (3, [.ref r0, .ref r1, .ref (q 0), .int tr, .int fl])) :: wG cI q n X)) (rwQi (nI (A 4 t + 100 + A 4 t)) (dC, dI) ((a, .inr (3, [.ref r0, .ref r1, .ref (q 0), .int tr, .int fl])) :: wG cI q n X) ((a, .inr (3, [.ref r0, .ref r1, .ref (q 0), .int (trc (trc (trc (trc tr 3) 2) 1) 1), .int fl])) :: wG cI q n X) sz) 0 0 (va_A ((a, .inr (3, [.ref r0, .ref r1, .ref (q 0), .int tr, .int fl])) :: wG cI q n X) sz) := by
  refine rw_met_i (by decide) rfl (Nat.le_of_ble_eq_true rfl) ?_
  intro pp ee ss mm aa bb me cd RR QQ Z hx hb hml hown hts hRf hRl hP hK hD hA hS hend ls hl
  have hown : ss.vm.findClass RX3 = some mm.cls := hown
  have hRf : 3 ≤ RR.frames := hRf
  have hRl : 63 ≤ RR.locals := hRl
  have hl : lv_has ls 3 [(0, .ref a), (1, .int (nI t))] := hl
  obtain ⟨w0, w1, w2, w3, w4, w5, w6, w7, w8, wA0, wA1, wA2⟩ := id hW
  have wC : n 0 * n 1 ≤ 42 := Nat.mul_le_mul w0 w1
  refine lv_aload_n hx hb dX3_tellTree_0 rfl (lv_at hl 0 rfl) ?_
  refine lv_iconst (v := nI 3) hx hb dX3_tellTree_1 rfl ?_
  refine rwW_v (As := [.int (nI 3)]) (rest := []) (wn := (a, .inr (3, [.ref r0, .ref r1, .ref (q 0), .int (trc tr 3), .int fl])) :: wG cI q n X) ⟨hx, hb, hml, hown, hts⟩ (kX3_leaveInTrace l dC dI a r0 r1 (q 0) tr fl 3 _) (cwV 1 hts gX3_tellTree_X3_leaveInTrace rfl rfl rfl hdX3_leaveInTrace ⟨Nat.le_trans (Nat.le_of_ble_eq_true rfl) hRf, Nat.le_trans (Nat.le_of_ble_eq_true rfl) hRl⟩) (va_recv hK hP (ci := 3) (q0 := 0) rfl rfl) (hK.sub [] rfl) rfl hl.1 rfl (Nat.le_of_ble_eq_true rfl) dX3_tellTree_2 ⟨Nat.zero_le _, Nat.zero_le _⟩ hP hD hS hA [0] [1, 2, 3, 4, 5, 6, 7, 8, 9] [9, 0, 1, 2, 3, 4, 5, 6, 7, 8] rfl rfl (by decide) (by decide) (by decide) rfl rfl (fun H locs hP hS => ?_)
  have hD : va_D Z ((a, .inr (3, [.ref r0, .ref r1, .ref (q 0), .int (trc tr 3), .int fl])) :: wG cI q n X) := hD.same rfl
  refine lv_aload_n hx hb dX3_tellTree_5 rfl (lv_at hl 0 rfl) ?_
  refine lv_iload_n hx hb dX3_tellTree_6 rfl (lv_at hl 1 rfl) ?_
  refine rwW_i (As := [.int (nI t)]) (rest := []) (wn := (a, .inr (3, [.ref r0, .ref r1, .ref (q 0), .int (trc (trc (trc tr 3) 2) 1), .int fl])) :: wG cI q n X) ⟨hx, hb, hml, hown, hts⟩ (kX3_tellUrn l dC dI a r0 r1 (trc tr 3) fl cI q n A X hW hR t _ (by omega)) (cwV 1 hts gX3_tellTree_X3_tellUrn rfl rfl rfl hdX3_tellUrn ⟨Nat.le_trans (Nat.le_of_ble_eq_true rfl) hRf, Nat.le_trans (Nat.le_of_ble_eq_true rfl) hRl⟩) (va_recv hK hP (ci := 3) (q0 := 0) rfl rfl) hK rfl hl.1 rfl (Nat.le_of_ble_eq_true rfl) dX3_tellTree_7 ⟨Nat.zero_le _, Nat.zero_le _⟩ hP hD hS hA [0, 1, 2, 3, 4, 5, 6, 7, 8, 9] [] [0, 1, 2, 3, 4, 5, 6, 7, 8, 9] rfl rfl (by decide) (by decide) (by decide) rfl rfl (fun H locs hP hS => ?_)
  have hD : va_D Z ((a, .inr (3, [.ref r0, .ref r1, .ref (q 0), .int (trc (trc (trc tr 3) 2) 1), .int fl])) :: wG cI q n X) := hD.same rfl
  refine lv_istore_n (lv' := [(2, .int (nI (A 4 t + 100))), (0, .ref a), (1, .int (nI t))]) hx hb dX3_tellTree_10 rfl hl (by decide) rfl (fun ls hl => ?_)
  refine lv_iload_n hx hb dX3_tellTree_11 rfl (lv_at hl 0 rfl) ?_
  refine lv_aload_n hx hb dX3_tellTree_12 rfl (lv_at hl 1 rfl) ?_
  refine lv_iload_n hx hb dX3_tellTree_13 rfl (lv_at hl 2 rfl) ?_
  refine rwW_i (As := [.int (nI t)]) (rest := [.int (nI (A 4 t + 100))]) (wn := (a, .inr (3, [.ref r0, .ref r1, .ref (q 0), .int (trc (trc (trc (trc tr 3) 2) 1) 1), .int fl])) :: wG cI q n X) ⟨hx, hb, hml, hown, hts⟩ (kX3_tellLamp l dC dI a r0 r1 (trc (trc (trc tr 3) 2) 1) fl cI q n A X hW hR t _ (by omega)) (cwV 1 hts gX3_tellTree_X3_tellLamp rfl rfl rfl hdX3_tellLamp ⟨Nat.le_trans (Nat.le_of_ble_eq_true rfl) hRf, Nat.le_trans (Nat.le_of_ble_eq_true rfl) hRl⟩) (va_recv hK hP (ci := 3) (q0 := 0) rfl rfl) hK rfl hl.1 rfl (Nat.le_of_ble_eq_true rfl) dX3_tellTree_14 ⟨Nat.zero_le _, Nat.zero_le _⟩ hP hD hS hA [0, 1, 2, 3, 4, 5, 6, 7, 8, 9] [] [0, 1, 2, 3, 4, 5, 6, 7, 8, 9] rfl rfl (by decide) (by decide) (by decide) rfl rfl (fun H locs hP hS => ?_)
  have hD : va_D Z ((a, .inr (3, [.ref r0, .ref r1, .ref (q 0), .int (trc (trc (trc (trc tr 3) 2) 1) 1), .int fl])) :: wG cI q n X) := hD.same rfl
  refine x_iadd hx hb dX3_tellTree_17 ?_
  exact hend _ _ _ _ _ _ rfl rfl hP hS dX3_tellTree_18
