set_option maxRecDepth 20000 in
theorem ggX3_tendLent_X3_leaveInTrace : GoodIn wsX3_tendLent wsX3_leaveInTrace := goodIn_r _ [5, 6, 7, 8, 9, 10, 11] (by decide +kernel) (by decide +kernel)
set_option maxRecDepth 20000 in
theorem gX3_tendLent_X3_leaveInTrace : GoodIn wsX3_tendLent (wsV RX3 223 RX3 yX3_leaveInTrace wsX3_leaveInTrace) := goodIn_app (goodIn_of _ (by decide +kernel)) ggX3_tendLent_X3_leaveInTrace
set_option maxHeartbeats 4000000 in
set_option maxRecDepth 100000 in
theorem kX3_tendLent (l : Launch) (dC : Nat → ClassId) (dI : Nat → Nat → Nat) (a r0 r1 : Nat) (tr fl : Int32) (cI : ClassId) (q n : Nat → Nat) (A : Nat → Nat → Nat) (X : Nat → Nat → Int32) (hW : WF n A) (hR : RG n A X) (t : Nat) (sz : Nat) (ht : t < n 3) : Met l yX3_tendLent wsX3_tendLent ({ frames := 1, cells := 0, slots := 0, locals := 21 }) (rwP [.ref a, .int (nI t)] sz (dC, dI) [(cI, .int)] ((a, .inr (3, [.ref r0, .ref r1, .ref (q 0), .int tr, .int fl])) :: wG cI q n X)) (rwQi (nI t) (dC, dI) ((a, .inr (3, [.ref r0, .ref r1, .ref (q 0), .int tr, .int fl])) :: wG cI q n X) ((a, .inr (3, [.ref r0, .ref r1, .ref (q 0), .int (trc tr 4), .int fl])) :: wG cI q n X) sz) 0 0 (va_A ((a, .inr (3, [.ref r0, .ref r1, .ref (q 0), .int tr, .int fl])) :: wG cI q n X) sz) := by
  refine rw_met_i (by decide) rfl (Nat.le_of_ble_eq_true rfl) ?_
  intro pp ee ss mm aa bb me cd RR QQ Z hx hb hml hown hts hRf hRl hP hK hD hA hS hend ls hl
  have hown : ss.vm.findClass RX3 = some mm.cls := hown
  have hRf : 1 ≤ RR.frames := hRf
  have hRl : 21 ≤ RR.locals := hRl
  have hl : lv_has ls 2 [(0, .ref a), (1, .int (nI t))] := hl
  obtain ⟨w0, w1, w2, w3, w4, w5, w6, w7, w8, wA0, wA1, wA2⟩ := id hW
  have wC : n 0 * n 1 ≤ 42 := Nat.mul_le_mul w0 w1
  refine lv_aload_n hx hb dX3_tendLent_0 rfl (lv_at hl 0 rfl) ?_
  refine lv_iconst (v := nI 4) hx hb dX3_tendLent_1 rfl ?_
  refine rwW_v (As := [.int (nI 4)]) (rest := []) (wn := (a, .inr (3, [.ref r0, .ref r1, .ref (q 0), .int (trc tr 4), .int fl])) :: wG cI q n X) ⟨hx, hb, hml, hown, hts⟩ (kX3_leaveInTrace l dC dI a r0 r1 (q 0) tr fl 4 _) (cwV 1 hts gX3_tendLent_X3_leaveInTrace rfl rfl rfl hdX3_leaveInTrace ⟨Nat.le_trans (Nat.le_of_ble_eq_true rfl) hRf, Nat.le_trans (Nat.le_of_ble_eq_true rfl) hRl⟩) (va_recv hK hP (ci := 3) (q0 := 0) rfl rfl) (hK.sub [] rfl) rfl hl.1 rfl (Nat.le_of_ble_eq_true rfl) dX3_tendLent_2 ⟨Nat.zero_le _, Nat.zero_le _⟩ hP hD hS hA [0] [1, 2, 3, 4, 5, 6, 7, 8, 9] [9, 0, 1, 2, 3, 4, 5, 6, 7, 8] rfl rfl (by decide) (by decide) (by decide) rfl rfl (fun H locs hP hS => ?_)
  have hD : va_D Z ((a, .inr (3, [.ref r0, .ref r1, .ref (q 0), .int (trc tr 4), .int fl])) :: wG cI q n X) := hD.same rfl
  refine lv_iload_n hx hb dX3_tendLent_5 rfl (lv_at hl 1 rfl) ?_
  exact hend _ _ _ _ _ _ rfl rfl hP hS dX3_tendLent_6
set_option maxRecDepth 20000 in
theorem ggX3_tendTree_X3_leaveInTrace : GoodIn wsX3_tendTree wsX3_leaveInTrace := goodIn_r _ [5, 6, 7, 8, 9, 10, 11] (by decide +kernel) (by decide +kernel)
set_option maxRecDepth 20000 in
theorem gX3_tendTree_X3_leaveInTrace : GoodIn wsX3_tendTree (wsV RX3 223 RX3 yX3_leaveInTrace wsX3_leaveInTrace) := goodIn_app (goodIn_of _ (by decide +kernel)) ggX3_tendTree_X3_leaveInTrace
set_option maxHeartbeats 4000000 in
set_option maxRecDepth 100000 in
theorem kX3_tendTree (l : Launch) (dC : Nat → ClassId) (dI : Nat → Nat → Nat) (a r0 r1 : Nat) (tr fl : Int32) (cI : ClassId) (q n : Nat → Nat) (A : Nat → Nat → Nat) (X : Nat → Nat → Int32) (hW : WF n A) (hR : RG n A X) (sz : Nat) : Met l yX3_tendTree wsX3_tendTree ({ frames := 1, cells := 0, slots := 0, locals := 21 }) (rwP [.ref a] sz (dC, dI) [(cI, .int)] ((a, .inr (3, [.ref r0, .ref r1, .ref (q 0), .int tr, .int fl])) :: wG cI q n X)) (rwQi (nI 40) (dC, dI) ((a, .inr (3, [.ref r0, .ref r1, .ref (q 0), .int tr, .int fl])) :: wG cI q n X) ((a, .inr (3, [.ref r0, .ref r1, .ref (q 0), .int (trc tr 5), .int fl])) :: wG cI q n X) sz) 0 0 (va_A ((a, .inr (3, [.ref r0, .ref r1, .ref (q 0), .int tr, .int fl])) :: wG cI q n X) sz) := by
  refine rw_met_i (by decide) rfl (Nat.le_of_ble_eq_true rfl) ?_
  intro pp ee ss mm aa bb me cd RR QQ Z hx hb hml hown hts hRf hRl hP hK hD hA hS hend ls hl
  have hown : ss.vm.findClass RX3 = some mm.cls := hown
  have hRf : 1 ≤ RR.frames := hRf
  have hRl : 21 ≤ RR.locals := hRl
  have hl : lv_has ls 1 [(0, .ref a)] := hl
  obtain ⟨w0, w1, w2, w3, w4, w5, w6, w7, w8, wA0, wA1, wA2⟩ := id hW
  have wC : n 0 * n 1 ≤ 42 := Nat.mul_le_mul w0 w1
  refine lv_aload_n hx hb dX3_tendTree_0 rfl (lv_at hl 0 rfl) ?_
  refine lv_iconst (v := nI 5) hx hb dX3_tendTree_1 rfl ?_
  refine rwW_v (As := [.int (nI 5)]) (rest := []) (wn := (a, .inr (3, [.ref r0, .ref r1, .ref (q 0), .int (trc tr 5), .int fl])) :: wG cI q n X) ⟨hx, hb, hml, hown, hts⟩ (kX3_leaveInTrace l dC dI a r0 r1 (q 0) tr fl 5 _) (cwV 1 hts gX3_tendTree_X3_leaveInTrace rfl rfl rfl hdX3_leaveInTrace ⟨Nat.le_trans (Nat.le_of_ble_eq_true rfl) hRf, Nat.le_trans (Nat.le_of_ble_eq_true rfl) hRl⟩) (va_recv hK hP (ci := 3) (q0 := 0) rfl rfl) (hK.sub [] rfl) rfl hl.1 rfl (Nat.le_of_ble_eq_true rfl) dX3_tendTree_2 ⟨Nat.zero_le _, Nat.zero_le _⟩ hP hD hS hA [0] [1, 2, 3, 4, 5, 6, 7, 8, 9] [9, 0, 1, 2, 3, 4, 5, 6, 7, 8] rfl rfl (by decide) (by decide) (by decide) rfl rfl (fun H locs hP hS => ?_)
  have hD : va_D Z ((a, .inr (3, [.ref r0, .ref r1, .ref (q 0), .int (trc tr 5), .int fl])) :: wG cI q n X) := hD.same rfl
  refine lv_bipush (v := nI 40) hx hb dX3_tendTree_5 rfl ?_
  exact hend _ _ _ _ _ _ rfl rfl hP hS dX3_tendTree_7
theorem hdX3_tellTree : yX3_tellTree.cls = RX3 ∧ yX3_tellTree.cls ≠ "java/lang/invoke/MethodHandle" ∧ yX3_tellTree.cls ≠ "java/lang/invoke/VarHandle" ∧ (parseMethodDescriptor yX3_tellTree.desc).map (fun d => d.parameters.length) = some 1 := by decide +kernel
set_option maxRecDepth 20000 in
theorem ggX3_tell_X3_isBelow : GoodIn wsX3_tell wsX3_isBelow := goodIn_r _ [7] (by decide +kernel) (by decide +kernel)
set_option maxRecDepth 20000 in
theorem gX3_tell_X3_isBelow : GoodIn wsX3_tell (va_wsS RX3 39 yX3_isBelow wsX3_isBelow) := goodIn_app (goodIn_of _ (by decide +kernel)) ggX3_tell_X3_isBelow
set_option maxRecDepth 20000 in
theorem ggX3_tell_X3_tellLamp : GoodIn wsX3_tell wsX3_tellLamp := goodIn_r _ [24, 1, 25, 12, 13, 14, 6, 15, 16, 26, 27, 28, 29, 30, 31, 32, 33, 34, 35, 36, 37, 38, 39, 40, 41, 42, 43, 44, 45, 46, 47] (by decide +kernel) (by decide +kernel)
set_option maxRecDepth 20000 in
theorem gX3_tell_X3_tellLamp : GoodIn wsX3_tell (wsV RX3 211 RX3 yX3_tellLamp wsX3_tellLamp) := goodIn_app (goodIn_of _ (by decide +kernel)) ggX3_tell_X3_tellLamp
set_option maxRecDepth 20000 in
theorem ggX3_tell_X3_tellUrn : GoodIn wsX3_tell wsX3_tellUrn := goodIn_r _ [20, 12, 13, 14, 6, 15, 16, 21, 22, 23, 24, 1, 25, 26, 27, 28, 29, 30, 31, 32, 33, 34, 35, 36, 37, 38, 39, 40, 41, 42, 43, 44, 45, 46, 47] (by decide +kernel) (by decide +kernel)
set_option maxRecDepth 20000 in
theorem gX3_tell_X3_tellUrn : GoodIn wsX3_tell (wsV RX3 208 RX3 yX3_tellUrn wsX3_tellUrn) := goodIn_app (goodIn_of _ (by decide +kernel)) ggX3_tell_X3_tellUrn
set_option maxRecDepth 20000 in
theorem ggX3_tell_X3_tellTree : GoodIn wsX3_tell wsX3_tellTree := goodIn_r _ [11, 12, 13, 14, 6, 15, 16, 17, 18, 19, 20, 21, 22, 23, 24, 1, 25, 26, 27, 28, 29, 30, 31, 32, 33, 34, 35, 36, 37, 38, 39, 40, 41, 42, 43, 44, 45, 46, 47] (by decide +kernel) (by decide +kernel)
set_option maxRecDepth 20000 in
theorem gX3_tell_X3_tellTree : GoodIn wsX3_tell (wsV RX3 205 RX3 yX3_tellTree wsX3_tellTree) := goodIn_app (goodIn_of _ (by decide +kernel)) ggX3_tell_X3_tellTree
set_option maxHeartbeats 4000000 in
set_option maxRecDepth 100000 in
theorem kX3_tell (l : Launch) (dC : Nat → ClassId) (dI : Nat → Nat → Nat) (a r0 r1 : Nat) (tr fl : Int32) (cI : ClassId) (q n : Nat → Nat) (A : Nat → Nat → Nat) (X : Nat → Nat → Int32) (hW : WF n A) (hR : RG n A X) (t : Int32) (sz : Nat) : Met l yX3_tell wsX3_tell ({ frames := 4, cells := 0, slots := 0, locals := 85 }) (rwP [.ref a, .int t] sz (dC, dI) [(cI, .int)] ((a, .inr (3, [.ref r0, .ref r1, .ref (q 0), .int tr, .int fl])) :: wG cI q n X)) (rwQi (uTell n A t) (dC, dI) ((a, .inr (3, [.ref r0, .ref r1, .ref (q 0), .int tr, .int fl])) :: wG cI q n X) ((a, .inr (3, [.ref r0, .ref r1, .ref (q 0), .int (vTell n A t tr), .int fl])) :: wG cI q n X) sz) 0 0 (va_A ((a, .inr (3, [.ref r0, .ref r1, .ref (q 0), .int tr, .int fl])) :: wG cI q n X) sz) := by
  refine rw_met_i (by decide) rfl (Nat.le_of_ble_eq_true rfl) ?_
  intro pp ee ss mm aa bb me cd RR QQ Z hx hb hml hown hts hRf hRl hP hK hD hA hS hend ls hl
  have hown : ss.vm.findClass RX3 = some mm.cls := hown
  have hRf : 4 ≤ RR.frames := hRf
  have hRl : 85 ≤ RR.locals := hRl
  have hl : lv_has ls 2 [(0, .ref a), (1, .int t)] := hl
  obtain ⟨w0, w1, w2, w3, w4, w5, w6, w7, w8, wA0, wA1, wA2⟩ := id hW
  have wC : n 0 * n 1 ≤ 42 := Nat.mul_le_mul w0 w1
  have hf28 := hts (.fieldLink RX3 28 "StatueSquare" "ground" "LStatueSquare$Ground;") (List.mem_of_getElem? (i := 1) rfl)
  have hinX3 : ∀ w ∈ u_ws RX3 TX3 5, w ∈ wsX3_tell := fun _ h => List.mem_cons_of_mem _ (List.mem_append_left _ (List.mem_append_right _ h))
  have hf68 := hts (.fieldLink RX3 68 "StatueSquare$Ground" "thingCount" "I") (List.mem_of_getElem? (i := 2) rfl)
  have hinX0 : ∀ w ∈ u_ws RX0 TX0 17, w ∈ wsX3_tell := fun _ h => List.mem_cons_of_mem _ (List.mem_append_right _ h)
  have hf71 := hts (.fieldLink RX3 71 "StatueSquare$Ground" "kind" "[I") (List.mem_of_getElem? (i := 3) rfl)
  refine lv_iload_n hx hb dX3_tell_0 rfl (lv_at hl 1 rfl) ?_
  refine lv_aload_n hx hb dX3_tell_1 rfl (lv_at hl 0 rfl) ?_
  refine x_get (D := (dC, dI)) (ci := 3) (v := .ref (q 0)) (C := RX3) (T := TX3) (N := 5) hx hb hts hinX3 hown hK hP 0 rfl rfl 2 (Nat.le_of_ble_eq_true rfl) hf28 rfl rfl dX3_tell_2 ?_
  refine x_get (D := (dC, dI)) (ci := 0) (v := .int (nI (n 3))) (C := RX0) (T := TX0) (N := 17) hx hb hts hinX0 hown hK hP 1 rfl rfl 3 (Nat.le_of_ble_eq_true rfl) hf68 rfl rfl dX3_tell_5 ?_
  refine roS_i (As := [.int t, .int (nI (n 3))]) (rest := []) ⟨hx, hb, hml, hown, hts⟩ (kX3_isBelow l dC dI t (n 3) _ ) (va_cwS 2 hts gX3_tell_X3_isBelow rfl rfl rfl hdX3_isBelow ⟨Nat.le_trans (Nat.le_of_ble_eq_true rfl) hRf, Nat.le_trans (Nat.le_of_ble_eq_true rfl) hRl⟩) (hK.sub [] rfl) (hP.sub [] rfl) rfl hl.1 rfl (Nat.le_of_ble_eq_true rfl) dX3_tell_8 ⟨Nat.zero_le _, Nat.zero_le _⟩ hP hS hA (fun H locs hP hS => ?_)
  refine x_ifb_ne (tgt := 16) hx hb dX3_tell_11 (by decide) (fun c11 => ?_) (fun c11 => ?_)
  · skip
    obtain ⟨j, hj, rfl⟩ := inB_t (by omega) c11
    have hxj : xn (nI j) = j := xn_nI (by omega)
    refine lv_aload_n hx hb dX3_tell_16 rfl (lv_at hl 0 rfl) ?_
    refine x_get (D := (dC, dI)) (ci := 3) (v := .ref (q 0)) (C := RX3) (T := TX3) (N := 5) hx hb hts hinX3 hown hK hP 0 rfl rfl 2 (Nat.le_of_ble_eq_true rfl) hf28 rfl rfl dX3_tell_17 ?_
    refine x_get (D := (dC, dI)) (ci := 0) (v := .ref (q 5)) (C := RX0) (T := TX0) (N := 17) hx hb hts hinX0 hown hK hP 1 rfl rfl 8 (Nat.le_of_ble_eq_true rfl) hf71 rfl rfl dX3_tell_20 ?_
    refine lv_iload_n hx hb dX3_tell_23 rfl (lv_at hl 1 rfl) ?_
    refine x_iald (v := (nI (A 2 j))) hx hb hK hP 6 0 rfl rfl (by omega) (by decide) (hR.2.2 _ (by omega)).1 dX3_tell_24 ?_
    have wk : A 2 j = 0 ∨ A 2 j = 1 ∨ A 2 j = 2 := by have := (wA2 j hj).1; omega
    rcases wk with hk | hk | hk
    · skip
      refine lv_lookup (tgt := 64) hx hb dX3_tell_25 (by decide) (by rw [hk] <;> rfl) (by decide) ?_
      refine lv_aload_n hx hb dX3_tell_64 rfl (lv_at hl 0 rfl) ?_
      refine lv_iload_n hx hb dX3_tell_65 rfl (lv_at hl 1 rfl) ?_
      refine rwW_i (As := [.int (nI j)]) (rest := []) (wn := (a, .inr (3, [.ref r0, .ref r1, .ref (q 0), .int (trc tr 1), .int fl])) :: wG cI q n X) ⟨hx, hb, hml, hown, hts⟩ (kX3_tellLamp l dC dI a r0 r1 tr fl cI q n A X hW hR j _ (by omega)) (cwV 1 hts gX3_tell_X3_tellLamp rfl rfl rfl hdX3_tellLamp ⟨Nat.le_trans (Nat.le_of_ble_eq_true rfl) hRf, Nat.le_trans (Nat.le_of_ble_eq_true rfl) hRl⟩) (va_recv hK hP (ci := 3) (q0 := 0) rfl rfl) hK rfl hl.1 rfl (Nat.le_of_ble_eq_true rfl) dX3_tell_66 ⟨Nat.zero_le _, Nat.zero_le _⟩ hP hD hS hA [0, 1, 2, 3, 4, 5, 6, 7, 8, 9] [] [0, 1, 2, 3, 4, 5, 6, 7, 8, 9] rfl rfl (by decide) (by decide) (by decide) rfl rfl (fun H locs hP hS => ?_)
      have hD : va_D Z ((a, .inr (3, [.ref r0, .ref r1, .ref (q 0), .int (trc tr 1), .int fl])) :: wG cI q n X) := hD.same rfl
      exact hend _ _ _ _ _ _ (by simp [uTell, inB02, c11, hxj, hk] <;> rfl) (by simp [vTell, inB02, c11, hxj, hk] <;> rfl) hP hS dX3_tell_69
    · skip
      refine lv_lookup (tgt := 58) hx hb dX3_tell_25 (by decide) (by rw [hk] <;> rfl) (by decide) ?_
      refine lv_aload_n hx hb dX3_tell_58 rfl (lv_at hl 0 rfl) ?_
      refine lv_iload_n hx hb dX3_tell_59 rfl (lv_at hl 1 rfl) ?_
      refine rwW_i (As := [.int (nI j)]) (rest := []) (wn := (a, .inr (3, [.ref r0, .ref r1, .ref (q 0), .int (trc (trc tr 2) 1), .int fl])) :: wG cI q n X) ⟨hx, hb, hml, hown, hts⟩ (kX3_tellUrn l dC dI a r0 r1 tr fl cI q n A X hW hR j _ (by omega)) (cwV 1 hts gX3_tell_X3_tellUrn rfl rfl rfl hdX3_tellUrn ⟨Nat.le_trans (Nat.le_of_ble_eq_true rfl) hRf, Nat.le_trans (Nat.le_of_ble_eq_true rfl) hRl⟩) (va_recv hK hP (ci := 3) (q0 := 0) rfl rfl) hK rfl hl.1 rfl (Nat.le_of_ble_eq_true rfl) dX3_tell_60 ⟨Nat.zero_le _, Nat.zero_le _⟩ hP hD hS hA [0, 1, 2, 3, 4, 5, 6, 7, 8, 9] [] [0, 1, 2, 3, 4, 5, 6, 7, 8, 9] rfl rfl (by decide) (by decide) (by decide) rfl rfl (fun H locs hP hS => ?_)
      have hD : va_D Z ((a, .inr (3, [.ref r0, .ref r1, .ref (q 0), .int (trc (trc tr 2) 1), .int fl])) :: wG cI q n X) := hD.same rfl
      exact hend _ _ _ _ _ _ (by simp [uTell, inB02, c11, hxj, hk] <;> rfl) (by simp [vTell, inB02, c11, hxj, hk] <;> rfl) hP hS dX3_tell_63
    · skip
      refine lv_lookup (tgt := 52) hx hb dX3_tell_25 (by decide) (by rw [hk] <;> rfl) (by decide) ?_
      refine lv_aload_n hx hb dX3_tell_52 rfl (lv_at hl 0 rfl) ?_
      refine lv_iload_n hx hb dX3_tell_53 rfl (lv_at hl 1 rfl) ?_
      refine rwW_i (As := [.int (nI j)]) (rest := []) (wn := (a, .inr (3, [.ref r0, .ref r1, .ref (q 0), .int (trc (trc (trc (trc tr 3) 2) 1) 1), .int fl])) :: wG cI q n X) ⟨hx, hb, hml, hown, hts⟩ (kX3_tellTree l dC dI a r0 r1 tr fl cI q n A X hW hR j _ (by omega)) (cwV 1 hts gX3_tell_X3_tellTree rfl rfl rfl hdX3_tellTree ⟨Nat.le_trans (Nat.le_of_ble_eq_true rfl) hRf, Nat.le_trans (Nat.le_of_ble_eq_true rfl) hRl⟩) (va_recv hK hP (ci := 3) (q0 := 0) rfl rfl) hK rfl hl.1 rfl (Nat.le_of_ble_eq_true rfl) dX3_tell_54 ⟨Nat.zero_le _, Nat.zero_le _⟩ hP hD hS hA [0, 1, 2, 3, 4, 5, 6, 7, 8, 9] [] [0, 1, 2, 3, 4, 5, 6, 7, 8, 9] rfl rfl (by decide) (by decide) (by decide) rfl rfl (fun H locs hP hS => ?_)
      have hD : va_D Z ((a, .inr (3, [.ref r0, .ref r1, .ref (q 0), .int (trc (trc (trc (trc tr 3) 2) 1) 1), .int fl])) :: wG cI q n X) := hD.same rfl
      exact hend _ _ _ _ _ _ (by simp [uTell, c11, hxj, hk] <;> (congr 1; omega)) (by simp [vTell, inB02, c11, hxj, hk] <;> rfl) hP hS dX3_tell_57
  · skip
    refine lv_iconst (v := -1) hx hb dX3_tell_14 rfl ?_
    exact hend _ _ _ _ _ _ (by simp [uTell, inB02, c11] <;> rfl) (by simp [vTell, inB02, c11] <;> rfl) hP hS dX3_tell_15
theorem hdX3_tendLent : yX3_tendLent.cls = RX3 ∧ yX3_tendLent.cls ≠ "java/lang/invoke/MethodHandle" ∧ yX3_tendLent.cls ≠ "java/lang/invoke/VarHandle" ∧ (parseMethodDescriptor yX3_tendLent.desc).map (fun d => d.parameters.length) = some 1 := by decide +kernel
theorem hdX3_tendTree : yX3_tendTree.cls = RX3 ∧ yX3_tendTree.cls ≠ "java/lang/invoke/MethodHandle" ∧ yX3_tendTree.cls ≠ "java/lang/invoke/VarHandle" ∧ (parseMethodDescriptor yX3_tendTree.desc).map (fun d => d.parameters.length) = some 0 := by decide +kernel
set_option maxRecDepth 20000 in
theorem ggX3_tend_X3_isBelow : GoodIn wsX3_tend wsX3_isBelow := goodIn_r _ [7] (by decide +kernel) (by decide +kernel)
set_option maxRecDepth 20000 in
theorem gX3_tend_X3_isBelow : GoodIn wsX3_tend (va_wsS RX3 39 yX3_isBelow wsX3_isBelow) := goodIn_app (goodIn_of _ (by decide +kernel)) ggX3_tend_X3_isBelow
set_option maxRecDepth 20000 in
theorem ggX3_tend_X3_tendLent : GoodIn wsX3_tend wsX3_tendLent := goodIn_r _ [20, 12, 13, 14, 6, 15, 16, 21, 22, 23, 24, 25] (by decide +kernel) (by decide +kernel)
set_option maxRecDepth 20000 in
theorem gX3_tend_X3_tendLent : GoodIn wsX3_tend (wsV RX3 217 RX3 yX3_tendLent wsX3_tendLent) := goodIn_app (goodIn_of _ (by decide +kernel)) ggX3_tend_X3_tendLent
set_option maxRecDepth 20000 in
theorem ggX3_tend_X3_tendTree : GoodIn wsX3_tend wsX3_tendTree := goodIn_r _ [11, 12, 13, 14, 6, 15, 16, 21, 22, 23, 24, 25] (by decide +kernel) (by decide +kernel)
set_option maxRecDepth 20000 in
theorem gX3_tend_X3_tendTree : GoodIn wsX3_tend (wsV RX3 214 RX3 yX3_tendTree wsX3_tendTree) := goodIn_app (goodIn_of _ (by decide +kernel)) ggX3_tend_X3_tendTree
set_option maxHeartbeats 4000000 in
set_option maxRecDepth 100000 in
theorem kX3_tend (l : Launch) (dC : Nat → ClassId) (dI : Nat → Nat → Nat) (a r0 r1 : Nat) (tr fl : Int32) (cI : ClassId) (q n : Nat → Nat) (A : Nat → Nat → Nat) (X : Nat → Nat → Int32) (hW : WF n A) (hR : RG n A X) (t : Int32) (sz : Nat) : Met l yX3_tend wsX3_tend ({ frames := 2, cells := 0, slots := 0, locals := 42 }) (rwP [.ref a, .int t] sz (dC, dI) [(cI, .int)] ((a, .inr (3, [.ref r0, .ref r1, .ref (q 0), .int tr, .int fl])) :: wG cI q n X)) (rwQi (uTend n A t) (dC, dI) ((a, .inr (3, [.ref r0, .ref r1, .ref (q 0), .int tr, .int fl])) :: wG cI q n X) ((a, .inr (3, [.ref r0, .ref r1, .ref (q 0), .int (vTend n A t tr), .int fl])) :: wG cI q n X) sz) 0 0 (va_A ((a, .inr (3, [.ref r0, .ref r1, .ref (q 0), .int tr, .int fl])) :: wG cI q n X) sz) := by
  refine rw_met_i (by decide) rfl (Nat.le_of_ble_eq_true rfl) ?_
  intro pp ee ss mm aa bb me cd RR QQ Z hx hb hml hown hts hRf hRl hP hK hD hA hS hend ls hl
  have hown : ss.vm.findClass RX3 = some mm.cls := hown
  have hRf : 2 ≤ RR.frames := hRf
  have hRl : 42 ≤ RR.locals := hRl
  have hl : lv_has ls 2 [(0, .ref a), (1, .int t)] := hl
  obtain ⟨w0, w1, w2, w3, w4, w5, w6, w7, w8, wA0, wA1, wA2⟩ := id hW
  have wC : n 0 * n 1 ≤ 42 := Nat.mul_le_mul w0 w1
  have hf28 := hts (.fieldLink RX3 28 "StatueSquare" "ground" "LStatueSquare$Ground;") (List.mem_of_getElem? (i := 1) rfl)
  have hinX3 : ∀ w ∈ u_ws RX3 TX3 5, w ∈ wsX3_tend := fun _ h => List.mem_cons_of_mem _ (List.mem_append_left _ (List.mem_append_right _ h))
  have hf68 := hts (.fieldLink RX3 68 "StatueSquare$Ground" "thingCount" "I") (List.mem_of_getElem? (i := 2) rfl)
  have hinX0 : ∀ w ∈ u_ws RX0 TX0 17, w ∈ wsX3_tend := fun _ h => List.mem_cons_of_mem _ (List.mem_append_right _ h)
  have hf71 := hts (.fieldLink RX3 71 "StatueSquare$Ground" "kind" "[I") (List.mem_of_getElem? (i := 3) rfl)
  refine lv_iload_n hx hb dX3_tend_0 rfl (lv_at hl 1 rfl) ?_
  refine lv_aload_n hx hb dX3_tend_1 rfl (lv_at hl 0 rfl) ?_
  refine x_get (D := (dC, dI)) (ci := 3) (v := .ref (q 0)) (C := RX3) (T := TX3) (N := 5) hx hb hts hinX3 hown hK hP 0 rfl rfl 2 (Nat.le_of_ble_eq_true rfl) hf28 rfl rfl dX3_tend_2 ?_
  refine x_get (D := (dC, dI)) (ci := 0) (v := .int (nI (n 3))) (C := RX0) (T := TX0) (N := 17) hx hb hts hinX0 hown hK hP 1 rfl rfl 3 (Nat.le_of_ble_eq_true rfl) hf68 rfl rfl dX3_tend_5 ?_
  refine roS_i (As := [.int t, .int (nI (n 3))]) (rest := []) ⟨hx, hb, hml, hown, hts⟩ (kX3_isBelow l dC dI t (n 3) _ ) (va_cwS 2 hts gX3_tend_X3_isBelow rfl rfl rfl hdX3_isBelow ⟨Nat.le_trans (Nat.le_of_ble_eq_true rfl) hRf, Nat.le_trans (Nat.le_of_ble_eq_true rfl) hRl⟩) (hK.sub [] rfl) (hP.sub [] rfl) rfl hl.1 rfl (Nat.le_of_ble_eq_true rfl) dX3_tend_8 ⟨Nat.zero_le _, Nat.zero_le _⟩ hP hS hA (fun H locs hP hS => ?_)
  refine x_ifb_ne (tgt := 16) hx hb dX3_tend_11 (by decide) (fun c11 => ?_) (fun c11 => ?_)
  · skip
    obtain ⟨j, hj, rfl⟩ := inB_t (by omega) c11
    have hxj : xn (nI j) = j := xn_nI (by omega)
    have wt := wA2 j hj
    refine lv_aload_n hx hb dX3_tend_16 rfl (lv_at hl 0 rfl) ?_
    refine x_get (D := (dC, dI)) (ci := 3) (v := .ref (q 0)) (C := RX3) (T := TX3) (N := 5) hx hb hts hinX3 hown hK hP 0 rfl rfl 2 (Nat.le_of_ble_eq_true rfl) hf28 rfl rfl dX3_tend_17 ?_
    refine x_get (D := (dC, dI)) (ci := 0) (v := .ref (q 5)) (C := RX0) (T := TX0) (N := 17) hx hb hts hinX0 hown hK hP 1 rfl rfl 8 (Nat.le_of_ble_eq_true rfl) hf71 rfl rfl dX3_tend_20 ?_
    refine lv_iload_n hx hb dX3_tend_23 rfl (lv_at hl 1 rfl) ?_
    refine x_iald (v := (nI (A 2 j))) hx hb hK hP 6 0 rfl rfl (by omega) (by decide) (hR.2.2 _ (by omega)).1 dX3_tend_24 ?_
    refine lv_iconst (v := nI 2) hx hb dX3_tend_25 rfl ?_
    refine x_icmp_ne (tgt := 36) hx hb (by omega) (by omega) dX3_tend_26 (by decide) (fun c26 => ?_) (fun c26 => ?_)
    · skip
      refine lv_aload_n hx hb dX3_tend_36 rfl (lv_at hl 0 rfl) ?_
      refine lv_iload_n hx hb dX3_tend_37 rfl (lv_at hl 1 rfl) ?_
      refine rwW_i (As := [.int (nI j)]) (rest := []) (wn := (a, .inr (3, [.ref r0, .ref r1, .ref (q 0), .int (trc tr 4), .int fl])) :: wG cI q n X) ⟨hx, hb, hml, hown, hts⟩ (kX3_tendLent l dC dI a r0 r1 tr fl cI q n A X hW hR j _ (by omega)) (cwV 1 hts gX3_tend_X3_tendLent rfl rfl rfl hdX3_tendLent ⟨Nat.le_trans (Nat.le_of_ble_eq_true rfl) hRf, Nat.le_trans (Nat.le_of_ble_eq_true rfl) hRl⟩) (va_recv hK hP (ci := 3) (q0 := 0) rfl rfl) hK rfl hl.1 rfl (Nat.le_of_ble_eq_true rfl) dX3_tend_38 ⟨Nat.zero_le _, Nat.zero_le _⟩ hP hD hS hA [0, 1, 2, 3, 4, 5, 6, 7, 8, 9] [] [0, 1, 2, 3, 4, 5, 6, 7, 8, 9] rfl rfl (by decide) (by decide) (by decide) rfl rfl (fun H locs hP hS => ?_)
      have hD : va_D Z ((a, .inr (3, [.ref r0, .ref r1, .ref (q 0), .int (trc tr 4), .int fl])) :: wG cI q n X) := hD.same rfl
      exact hend _ _ _ _ _ _ (by simp [uTend, inB02, c11, hxj, c26] <;> rfl) (by simp [vTend, inB02, c11, hxj, c26] <;> rfl) hP hS dX3_tend_41
    · skip
      refine lv_aload_n hx hb dX3_tend_29 rfl (lv_at hl 0 rfl) ?_
      refine rwW_i (As := []) (rest := []) (wn := (a, .inr (3, [.ref r0, .ref r1, .ref (q 0), .int (trc tr 5), .int fl])) :: wG cI q n X) ⟨hx, hb, hml, hown, hts⟩ (kX3_tendTree l dC dI a r0 r1 tr fl cI q n A X hW hR  _) (cwV 0 hts gX3_tend_X3_tendTree rfl rfl rfl hdX3_tendTree ⟨Nat.le_trans (Nat.le_of_ble_eq_true rfl) hRf, Nat.le_trans (Nat.le_of_ble_eq_true rfl) hRl⟩) (va_recv hK hP (ci := 3) (q0 := 0) rfl rfl) hK rfl hl.1 rfl (Nat.le_of_ble_eq_true rfl) dX3_tend_30 ⟨Nat.zero_le _, Nat.zero_le _⟩ hP hD hS hA [0, 1, 2, 3, 4, 5, 6, 7, 8, 9] [] [0, 1, 2, 3, 4, 5, 6, 7, 8, 9] rfl rfl (by decide) (by decide) (by decide) rfl rfl (fun H locs hP hS => ?_)
      have hD : va_D Z ((a, .inr (3, [.ref r0, .ref r1, .ref (q 0), .int (trc tr 5), .int fl])) :: wG cI q n X) := hD.same rfl
      refine lv_goto (tgt := 41) hx hb dX3_tend_33 (by decide) ?_
      exact hend _ _ _ _ _ _ (by simp [uTend, inB02, c11, hxj, c26] <;> rfl) (by simp [vTend, inB02, c11, hxj, c26] <;> rfl) hP hS dX3_tend_41
  · skip
    refine lv_iconst (v := -1) hx hb dX3_tend_14 rfl ?_
    exact hend _ _ _ _ _ _ (by simp [uTend, inB02, c11] <;> rfl) (by simp [vTend, inB02, c11] <;> rfl) hP hS dX3_tend_15
theorem hdX3_failed : yX3_failed.cls = RX3 ∧ yX3_failed.cls ≠ "java/lang/invoke/MethodHandle" ∧ yX3_failed.cls ≠ "java/lang/invoke/VarHandle" ∧ (parseMethodDescriptor yX3_failed.desc).map (fun d => d.parameters.length) = some 1 := by decide +kernel
set_option maxRecDepth 20000 in
theorem ggX3_as_X3_isBelow : GoodIn wsX3_as wsX3_isBelow := goodIn_r _ [8] (by decide +kernel) (by decide +kernel)
set_option maxRecDepth 20000 in
theorem gX3_as_X3_isBelow : GoodIn wsX3_as (va_wsS RX3 39 yX3_isBelow wsX3_isBelow) := goodIn_app (goodIn_of _ (by decide +kernel)) ggX3_as_X3_isBelow
set_option maxRecDepth 20000 in
theorem ggX3_as_X3_failed : GoodIn wsX3_as wsX3_failed := goodIn_r _ [12, 1, 13, 14, 15, 16, 17] (by decide +kernel) (by decide +kernel)
set_option maxRecDepth 20000 in
theorem gX3_as_X3_failed : GoodIn wsX3_as (wsV RX3 50 RX3 yX3_failed wsX3_failed) := goodIn_app (goodIn_of _ (by decide +kernel)) ggX3_as_X3_failed
set_option maxHeartbeats 4000000 in
set_option maxRecDepth 100000 in
theorem kX3_as (l : Launch) (dC : Nat → ClassId) (dI : Nat → Nat → Nat) (a r0 r1 : Nat) (tr fl : Int32) (cI : ClassId) (q n : Nat → Nat) (A : Nat → Nat → Nat) (X : Nat → Nat → Int32) (hW : WF n A) (hR : RG n A X) (t : Int32) (k : Int32) (sz : Nat) : Met l yX3_as wsX3_as ({ frames := 1, cells := 0, slots := 0, locals := 21 }) (rwP [.ref a, .int t, .int k] sz (dC, dI) [(cI, .int)] ((a, .inr (3, [.ref r0, .ref r1, .ref (q 0), .int tr, .int fl])) :: wG cI q n X)) (rwQi (uAs n A t k) (dC, dI) ((a, .inr (3, [.ref r0, .ref r1, .ref (q 0), .int tr, .int fl])) :: wG cI q n X) ((a, .inr (3, [.ref r0, .ref r1, .ref (q 0), .int tr, .int (vAs n A t k)])) :: wG cI q n X) sz) 0 0 (va_A ((a, .inr (3, [.ref r0, .ref r1, .ref (q 0), .int tr, .int fl])) :: wG cI q n X) sz) := by
  refine rw_met_i (by decide) rfl (Nat.le_of_ble_eq_true rfl) ?_
  intro pp ee ss mm aa bb me cd RR QQ Z hx hb hml hown hts hRf hRl hP hK hD hA hS hend ls hl
  have hown : ss.vm.findClass RX3 = some mm.cls := hown
  have hRf : 1 ≤ RR.frames := hRf
  have hRl : 21 ≤ RR.locals := hRl
  have hl : lv_has ls 3 [(0, .ref a), (1, .int t), (2, .int k)] := hl
  obtain ⟨w0, w1, w2, w3, w4, w5, w6, w7, w8, wA0, wA1, wA2⟩ := id hW
  have wC : n 0 * n 1 ≤ 42 := Nat.mul_le_mul w0 w1
  have hf36 := hts (.fieldLink RX3 36 "StatueSquare" "latestFault" "I") (List.mem_of_getElem? (i := 1) rfl)
  have hinX3 : ∀ w ∈ u_ws RX3 TX3 5, w ∈ wsX3_as := fun _ h => List.mem_cons_of_mem _ (List.mem_append_left _ (List.mem_append_right _ h))
  have hf28 := hts (.fieldLink RX3 28 "StatueSquare" "ground" "LStatueSquare$Ground;") (List.mem_of_getElem? (i := 2) rfl)
  have hf68 := hts (.fieldLink RX3 68 "StatueSquare$Ground" "thingCount" "I") (List.mem_of_getElem? (i := 3) rfl)
  have hinX0 : ∀ w ∈ u_ws RX0 TX0 17, w ∈ wsX3_as := fun _ h => List.mem_cons_of_mem _ (List.mem_append_right _ h)
  have hf71 := hts (.fieldLink RX3 71 "StatueSquare$Ground" "kind" "[I") (List.mem_of_getElem? (i := 4) rfl)
  refine lv_aload_n hx hb dX3_as_0 rfl (lv_at hl 0 rfl) ?_
  refine lv_iconst (v := nI 0) hx hb dX3_as_1 rfl ?_
  refine x_put (D := (dC, dI)) (ci := 3) (v := .int (nI 0)) (C := RX3) (T := TX3) (N := 5) (wn := (a, .inr (3, [.ref r0, .ref r1, .ref (q 0), .int tr, .int (nI 0)])) :: wG cI q n X) hx hb hts hinX3 tyX3 tyX3_ok nmX3 hown hK hP hD hS 0 rfl rfl 4 (Nat.le_of_ble_eq_true rfl) hf36 rfl rfl rfl rfl (Nat.le_of_ble_eq_true rfl) rfl dX3_as_2 (fun H locs hP hS => ?_)
  have hD : va_D Z ((a, .inr (3, [.ref r0, .ref r1, .ref (q 0), .int tr, .int (nI 0)])) :: wG cI q n X) := hD.same rfl
  refine lv_iload_n hx hb dX3_as_5 rfl (lv_at hl 1 rfl) ?_
  refine lv_aload_n hx hb dX3_as_6 rfl (lv_at hl 0 rfl) ?_
  refine x_get (D := (dC, dI)) (ci := 3) (v := .ref (q 0)) (C := RX3) (T := TX3) (N := 5) hx hb hts hinX3 hown hK hP 0 rfl rfl 2 (Nat.le_of_ble_eq_true rfl) hf28 rfl rfl dX3_as_7 ?_
  refine x_get (D := (dC, dI)) (ci := 0) (v := .int (nI (n 3))) (C := RX0) (T := TX0) (N := 17) hx hb hts hinX0 hown hK hP 1 rfl rfl 3 (Nat.le_of_ble_eq_true rfl) hf68 rfl rfl dX3_as_10 ?_
  refine roS_i (As := [.int t, .int (nI (n 3))]) (rest := []) ⟨hx, hb, hml, hown, hts⟩ (kX3_isBelow l dC dI t (n 3) _ ) (va_cwS 2 hts gX3_as_X3_isBelow rfl rfl rfl hdX3_isBelow ⟨Nat.le_trans (Nat.le_of_ble_eq_true rfl) hRf, Nat.le_trans (Nat.le_of_ble_eq_true rfl) hRl⟩) (hK.sub [] rfl) (hP.sub [] rfl) rfl hl.1 rfl (Nat.le_of_ble_eq_true rfl) dX3_as_13 ⟨Nat.zero_le _, Nat.zero_le _⟩ hP hS hA (fun H locs hP hS => ?_)
  refine x_ifb_ne (tgt := 21) hx hb dX3_as_16 (by decide) (fun c16 => ?_) (fun c16 => ?_)
  · skip
    obtain ⟨j, hj, rfl⟩ := inB_t (by omega) c16
    have hxj : xn (nI j) = j := xn_nI (by omega)
    have wt := wA2 j hj
    refine lv_iload_n hx hb dX3_as_21 rfl (lv_at hl 2 rfl) ?_
    refine lv_iconst (v := nI 3) hx hb dX3_as_22 rfl ?_
    refine roS_i (As := [.int k, .int (nI 3)]) (rest := []) ⟨hx, hb, hml, hown, hts⟩ (kX3_isBelow l dC dI k 3 _ ) (va_cwS 2 hts gX3_as_X3_isBelow rfl rfl rfl hdX3_isBelow ⟨Nat.le_trans (Nat.le_of_ble_eq_true rfl) hRf, Nat.le_trans (Nat.le_of_ble_eq_true rfl) hRl⟩) (hK.sub [] rfl) (hP.sub [] rfl) rfl hl.1 rfl (Nat.le_of_ble_eq_true rfl) dX3_as_23 ⟨Nat.zero_le _, Nat.zero_le _⟩ hP hS hA (fun H locs hP hS => ?_)
    refine x_ifb_ne (tgt := 32) hx hb dX3_as_26 (by decide) (fun c26 => ?_) (fun c26 => ?_)
    · skip
      obtain ⟨i, hi, rfl⟩ := inB_t (by omega) c26
      have hxi : xn (nI i) = i := xn_nI (by omega)
      refine lv_aload_n hx hb dX3_as_32 rfl (lv_at hl 0 rfl) ?_
      refine x_get (D := (dC, dI)) (ci := 3) (v := .ref (q 0)) (C := RX3) (T := TX3) (N := 5) hx hb hts hinX3 hown hK hP 0 rfl rfl 2 (Nat.le_of_ble_eq_true rfl) hf28 rfl rfl dX3_as_33 ?_
      refine x_get (D := (dC, dI)) (ci := 0) (v := .ref (q 5)) (C := RX0) (T := TX0) (N := 17) hx hb hts hinX0 hown hK hP 1 rfl rfl 8 (Nat.le_of_ble_eq_true rfl) hf71 rfl rfl dX3_as_36 ?_
      refine lv_iload_n hx hb dX3_as_39 rfl (lv_at hl 1 rfl) ?_
      refine x_iald (v := (nI (A 2 j))) hx hb hK hP 6 0 rfl rfl (by omega) (by decide) (hR.2.2 _ (by omega)).1 dX3_as_40 ?_
      refine lv_iload_n hx hb dX3_as_41 rfl (lv_at hl 2 rfl) ?_
      refine x_icmp_ge (tgt := 53) hx hb (by omega) (by omega) dX3_as_42 (by decide) (fun c42 => ?_) (fun c42 => ?_)
      · skip
        refine lv_iconst (v := nI 1) hx hb dX3_as_53 rfl ?_
        exact hend _ _ _ _ _ _ (by simp [uAs, c16, c26, hxj, hxi, show ¬ A 2 j < i from by omega] <;> rfl) (by simp [vAs, c16, c26, hxj, hxi, show ¬ A 2 j < i from by omega] <;> rfl) hP hS dX3_as_54
      · skip
        refine lv_aload_n hx hb dX3_as_45 rfl (lv_at hl 0 rfl) ?_
        refine lv_iconst (v := nI 2) hx hb dX3_as_46 rfl ?_
        refine rwW_i (As := [.int (nI 2)]) (rest := []) (wn := (a, .inr (3, [.ref r0, .ref r1, .ref (q 0), .int tr, .int (nI 2)])) :: wG cI q n X) ⟨hx, hb, hml, hown, hts⟩ (kX3_failed l dC dI a r0 r1 (q 0) tr (nI 0) 2 _) (cwV 1 hts gX3_as_X3_failed rfl rfl rfl hdX3_failed ⟨Nat.le_trans (Nat.le_of_ble_eq_true rfl) hRf, Nat.le_trans (Nat.le_of_ble_eq_true rfl) hRl⟩) (va_recv hK hP (ci := 3) (q0 := 0) rfl rfl) (hK.sub [] rfl) rfl hl.1 rfl (Nat.le_of_ble_eq_true rfl) dX3_as_47 ⟨Nat.zero_le _, Nat.zero_le _⟩ hP hD hS hA [0] [1, 2, 3, 4, 5, 6, 7, 8, 9] [9, 0, 1, 2, 3, 4, 5, 6, 7, 8] rfl rfl (by decide) (by decide) (by decide) rfl rfl (fun H locs hP hS => ?_)
        have hD : va_D Z ((a, .inr (3, [.ref r0, .ref r1, .ref (q 0), .int tr, .int (nI 2)])) :: wG cI q n X) := hD.same rfl
        refine lv_goto (tgt := 54) hx hb dX3_as_50 (by decide) ?_
        exact hend _ _ _ _ _ _ (by simp [uAs, c16, c26, hxj, hxi, show A 2 j < i from by omega] <;> rfl) (by simp [vAs, c16, c26, hxj, hxi, show A 2 j < i from by omega] <;> rfl) hP hS dX3_as_54
    · skip
      refine lv_bipush (v := -2) hx hb dX3_as_29 rfl ?_
      exact hend _ _ _ _ _ _ (by simp [uAs, inB02, c16, c26] <;> rfl) (by simp [vAs, c16, c26] <;> rfl) hP hS dX3_as_31
  · skip
    refine lv_iconst (v := -1) hx hb dX3_as_19 rfl ?_
    exact hend _ _ _ _ _ _ (by simp [uAs, inB02, c16] <;> rfl) (by simp [vAs, c16] <;> rfl) hP hS dX3_as_20
