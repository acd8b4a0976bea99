set_option maxRecDepth 20000 in
theorem ggX3_year_X3_isBelow : GoodIn wsX3_year wsX3_isBelow := goodIn_r _ [7] (by decide +kernel) (by decide +kernel)
set_option maxRecDepth 20000 in
theorem gX3_year_X3_isBelow : GoodIn wsX3_year (va_wsS RX3 39 yX3_isBelow wsX3_isBelow) := goodIn_app (goodIn_of _ (by decide +kernel)) ggX3_year_X3_isBelow
set_option maxRecDepth 20000 in
theorem ggX3_year_X0_isLaid : GoodIn wsX3_year wsX0_isLaid := goodIn_r _ [12, 13, 19, 20, 21, 22, 23, 24, 25, 26, 27, 28, 29, 30, 31, 32, 33, 34, 35] (by decide +kernel) (by decide +kernel)
set_option maxRecDepth 20000 in
theorem gX3_year_X0_isLaid : GoodIn wsX3_year (wsV RX3 100 RX0 yX0_isLaid wsX0_isLaid) := goodIn_app (goodIn_of _ (by decide +kernel)) ggX3_year_X0_isLaid
set_option maxHeartbeats 4000000 in
set_option maxRecDepth 100000 in
theorem kX3_year (l : Launch) (dC : Nat → ClassId) (dI : Nat → Nat → Nat) (a r0 r1 : Nat) (tr fl : Int32) (cI : ClassId) (q n : Nat → Nat) (A : Nat → Nat → Nat) (X : Nat → Nat → Int32) (hW : WF n A) (hR : RG n A X) (y : Int32) (w : Bool) (sz : Nat) : Met l yX3_year wsX3_year ({ frames := 1, cells := 0, slots := 0, locals := 21 }) (rwP [.ref a, .int y, .int (bI w)] sz (dC, dI) [(cI, .int)] ((a, .inr (3, [.ref r0, .ref r1, .ref (q 0), .int tr, .int fl])) :: wG cI q n X)) (rwQi (uYear n y) (dC, dI) ((a, .inr (3, [.ref r0, .ref r1, .ref (q 0), .int tr, .int fl])) :: wG cI q n X) ((a, .inr (3, [.ref r0, .ref r1, .ref (q 0), .int tr, .int fl])) :: wG cI q (vYear n y w) X) sz) 0 0 (va_A ((a, .inr (3, [.ref r0, .ref r1, .ref (q 0), .int tr, .int fl])) :: wG cI q n X) sz) := by
  refine rw_met_i (by decide) rfl (Nat.le_of_ble_eq_true rfl) ?_
  intro pp ee ss mm aa bb me cd RR QQ Z hx hb hml hown hts hRf hRl hP hK hD hA hS hend ls hl
  have hown : ss.vm.findClass RX3 = some mm.cls := hown
  have hRf : 1 ≤ RR.frames := hRf
  have hRl : 21 ≤ RR.locals := hRl
  have hl : lv_has ls 4 [(0, .ref a), (1, .int y), (2, .int (bI w))] := hl
  obtain ⟨w0, w1, w2, w3, w4, w5, w6, w7, w8, wA0, wA1, wA2⟩ := id hW
  have wC : n 0 * n 1 ≤ 42 := Nat.mul_le_mul w0 w1
  have hf28 := hts (.fieldLink RX3 28 "StatueSquare" "ground" "LStatueSquare$Ground;") (List.mem_of_getElem? (i := 1) rfl)
  have hinX3 : ∀ w ∈ u_ws RX3 TX3 5, w ∈ wsX3_year := fun _ h => List.mem_cons_of_mem _ (List.mem_append_left _ (List.mem_append_right _ h))
  have hf80 := hts (.fieldLink RX3 80 "StatueSquare$Ground" "yearNow" "I") (List.mem_of_getElem? (i := 2) rfl)
  have hinX0 : ∀ w ∈ u_ws RX0 TX0 17, w ∈ wsX3_year := fun _ h => List.mem_cons_of_mem _ (List.mem_append_right _ h)
  have hf104 := hts (.fieldLink RX3 104 "StatueSquare$Ground" "isWinter" "Z") (List.mem_of_getElem? (i := 3) rfl)
  refine lv_iload_n hx hb dX3_year_0 rfl (lv_at hl 1 rfl) ?_
  refine lv_bipush (v := nI 31) hx hb dX3_year_1 rfl ?_
  refine roS_i (As := [.int y, .int (nI 31)]) (rest := []) ⟨hx, hb, hml, hown, hts⟩ (kX3_isBelow l dC dI y 31 _ ) (va_cwS 2 hts gX3_year_X3_isBelow rfl rfl rfl hdX3_isBelow ⟨Nat.le_trans (Nat.le_of_ble_eq_true rfl) hRf, Nat.le_trans (Nat.le_of_ble_eq_true rfl) hRl⟩) (hK.sub [] rfl) (hP.sub [] rfl) rfl hl.1 rfl (Nat.le_of_ble_eq_true rfl) dX3_year_3 ⟨Nat.zero_le _, Nat.zero_le _⟩ hP hS hA (fun H locs hP hS => ?_)
  refine x_ifb_ne (tgt := 12) hx hb dX3_year_6 (by decide) (fun c6 => ?_) (fun c6 => ?_)
  · skip
    obtain ⟨j, hj, rfl⟩ := inB_t (by omega) c6
    have hxj : xn (nI j) = j := xn_nI (by omega)
    refine lv_aload_n hx hb dX3_year_12 rfl (lv_at hl 0 rfl) ?_
    refine x_get (D := (dC, dI)) (ci := 3) (v := .ref (q 0)) (C := RX3) (T := TX3) (N := 5) hx hb hts hinX3 hown hK hP 0 rfl rfl 2 (Nat.le_of_ble_eq_true rfl) hf28 rfl rfl dX3_year_13 ?_
    refine roV_i (As := []) (rest := []) ⟨hx, hb, hml, hown, hts⟩ (kX0_isLaid l dC dI cI q n A X hW hR  _ ) (cwV 0 hts gX3_year_X0_isLaid rfl rfl rfl hdX0_isLaid ⟨Nat.le_trans (Nat.le_of_ble_eq_true rfl) hRf, Nat.le_trans (Nat.le_of_ble_eq_true rfl) hRl⟩) (va_recv hK hP (ci := 0) (q0 := 1) rfl rfl) hK (hP.sub [1, 2, 3, 4, 5, 6, 7, 8, 9] rfl) rfl hl.1 rfl (Nat.le_of_ble_eq_true rfl) dX3_year_16 ⟨Nat.zero_le _, Nat.zero_le _⟩ hP hS hA (fun H locs hP hS => ?_)
    refine x_ifb_ne (tgt := 25) hx hb dX3_year_19 (by decide) (fun c19 => ?_) (fun c19 => ?_)
    · skip
      have hla : 0 < n 0 * n 1 := of_decide_eq_true c19
      refine lv_aload_n hx hb dX3_year_25 rfl (lv_at hl 0 rfl) ?_
      refine x_get (D := (dC, dI)) (ci := 3) (v := .ref (q 0)) (C := RX3) (T := TX3) (N := 5) hx hb hts hinX3 hown hK hP 0 rfl rfl 2 (Nat.le_of_ble_eq_true rfl) hf28 rfl rfl dX3_year_26 ?_
      refine x_get (D := (dC, dI)) (ci := 0) (v := .int (nI (n 4))) (C := RX0) (T := TX0) (N := 17) hx hb hts hinX0 hown hK hP 1 rfl rfl 13 (Nat.le_of_ble_eq_true rfl) hf80 rfl rfl dX3_year_29 ?_
      refine lv_istore_n (lv' := [(3, .int (nI (n 4))), (0, .ref a), (1, .int (nI j)), (2, .int (bI w))]) hx hb dX3_year_32 rfl hl (by decide) rfl (fun ls hl => ?_)
      refine lv_aload_n hx hb dX3_year_33 rfl (lv_at hl 1 rfl) ?_
      refine x_get (D := (dC, dI)) (ci := 3) (v := .ref (q 0)) (C := RX3) (T := TX3) (N := 5) hx hb hts hinX3 hown hK hP 0 rfl rfl 2 (Nat.le_of_ble_eq_true rfl) hf28 rfl rfl dX3_year_34 ?_
      refine lv_iload_n hx hb dX3_year_37 rfl (lv_at hl 2 rfl) ?_
      refine x_put (D := (dC, dI)) (ci := 0) (v := .int (nI j)) (C := RX0) (T := TX0) (N := 17) (wn := (a, .inr (3, [.ref r0, .ref r1, .ref (q 0), .int tr, .int fl])) :: wG cI q (uN n 4 j) X) hx hb hts hinX0 tyX0 tyX0_ok nmX0 hown hK hP hD hS 1 rfl rfl 13 (Nat.le_of_ble_eq_true rfl) hf80 rfl rfl rfl rfl (Nat.le_of_ble_eq_true rfl) rfl dX3_year_38 (fun H locs hP hS => ?_)
      have hD : va_D Z ((a, .inr (3, [.ref r0, .ref r1, .ref (q 0), .int tr, .int fl])) :: wG cI q (uN n 4 j) X) := hD.same rfl
      refine lv_aload_n hx hb dX3_year_41 rfl (lv_at hl 1 rfl) ?_
      refine x_get (D := (dC, dI)) (ci := 3) (v := .ref (q 0)) (C := RX3) (T := TX3) (N := 5) hx hb hts hinX3 hown hK hP 0 rfl rfl 2 (Nat.le_of_ble_eq_true rfl) hf28 rfl rfl dX3_year_42 ?_
      refine lv_iload_n hx hb dX3_year_45 rfl (lv_at hl 3 rfl) ?_
      refine x_top (y := nI (bN w)) (bI_bN _) ?_
      refine x_put (D := (dC, dI)) (ci := 0) (v := .int (nI (bN w))) (C := RX0) (T := TX0) (N := 17) (wn := (a, .inr (3, [.ref r0, .ref r1, .ref (q 0), .int tr, .int fl])) :: wG cI q (uN (uN n 4 j) 5 (bN w)) X) hx hb hts hinX0 tyX0 tyX0_ok nmX0 hown hK hP hD hS 1 rfl rfl 14 (Nat.le_of_ble_eq_true rfl) hf104 rfl rfl (bN_nar _) (bN_fit _) (Nat.le_of_ble_eq_true rfl) rfl dX3_year_46 (fun H locs hP hS => ?_)
      have hD : va_D Z ((a, .inr (3, [.ref r0, .ref r1, .ref (q 0), .int tr, .int fl])) :: wG cI q (uN (uN n 4 j) 5 (bN w)) X) := hD.same rfl
      refine lv_iload_n hx hb dX3_year_49 rfl (lv_at hl 0 rfl) ?_
      exact hend _ _ _ _ _ _ (by simp [uYear, inB02, c6, hla] <;> rfl) (by rw [vYear, if_pos ⟨c6, hla⟩, hxj]) hP hS dX3_year_50
    · skip
      have hla : ¬ 0 < n 0 * n 1 := of_decide_eq_false c19
      refine lv_bipush (v := -3) hx hb dX3_year_22 rfl ?_
      exact hend _ _ _ _ _ _ (by simp [uYear, inB02, c6, hla] <;> rfl) (by simp [vYear, inB02, c6, hla] <;> rfl) hP hS dX3_year_24
  · skip
    refine lv_bipush (v := -2) hx hb dX3_year_9 rfl ?_
    exact hend _ _ _ _ _ _ (by simp [uYear, inB02, c6] <;> rfl) (by simp [vYear, inB02, c6] <;> rfl) hP hS dX3_year_11
set_option maxRecDepth 20000 in
theorem ggX3_cut_X3_isBelow : GoodIn wsX3_cut wsX3_isBelow := goodIn_r _ [7] (by decide +kernel) (by decide +kernel)
set_option maxRecDepth 20000 in
theorem gX3_cut_X3_isBelow : GoodIn wsX3_cut (va_wsS RX3 39 yX3_isBelow wsX3_isBelow) := goodIn_app (goodIn_of _ (by decide +kernel)) ggX3_cut_X3_isBelow
set_option maxRecDepth 20000 in
theorem ggX3_cut_X0_isThere : GoodIn wsX3_cut wsX0_isThere := goodIn_r _ [12, 13, 19, 20, 21, 22, 23, 24, 25, 26, 27, 28, 29, 30, 31, 32, 33, 34, 35] (by decide +kernel) (by decide +kernel)
set_option maxRecDepth 20000 in
theorem gX3_cut_X0_isThere : GoodIn wsX3_cut (wsV RX3 87 RX0 yX0_isThere wsX0_isThere) := goodIn_app (goodIn_of _ (by decide +kernel)) ggX3_cut_X0_isThere
set_option maxHeartbeats 4000000 in
set_option maxRecDepth 100000 in
theorem kX3_cut (l : Launch) (dC : Nat → ClassId) (dI : Nat → Nat → Nat) (a r0 r1 : Nat) (tr fl : Int32) (cI : ClassId) (q n : Nat → Nat) (A : Nat → Nat → Nat) (X : Nat → Nat → Int32) (hW : WF n A) (hR : RG n A X) (t : Int32) (is : Bool) (sz : Nat) : Met l yX3_cut wsX3_cut ({ frames := 1, cells := 0, slots := 0, locals := 21 }) (rwP [.ref a, .int t, .int (bI is)] sz (dC, dI) [(cI, .int)] ((a, .inr (3, [.ref r0, .ref r1, .ref (q 0), .int tr, .int fl])) :: wG cI q n X)) (rwQi (uCut n t is) (dC, dI) ((a, .inr (3, [.ref r0, .ref r1, .ref (q 0), .int tr, .int fl])) :: wG cI q n X) ((a, .inr (3, [.ref r0, .ref r1, .ref (q 0), .int tr, .int fl])) :: wG cI q (vCut n t is) X) sz) 0 0 (va_A ((a, .inr (3, [.ref r0, .ref r1, .ref (q 0), .int tr, .int fl])) :: wG cI q n X) sz) := by
  refine rw_met_i (by decide) rfl (Nat.le_of_ble_eq_true rfl) ?_
  intro pp ee ss mm aa bb me cd RR QQ Z hx hb hml hown hts hRf hRl hP hK hD hA hS hend ls hl
  have hown : ss.vm.findClass RX3 = some mm.cls := hown
  have hRf : 1 ≤ RR.frames := hRf
  have hRl : 21 ≤ RR.locals := hRl
  have hl : lv_has ls 3 [(0, .ref a), (1, .int t), (2, .int (bI is))] := hl
  obtain ⟨w0, w1, w2, w3, w4, w5, w6, w7, w8, wA0, wA1, wA2⟩ := id hW
  have wC : n 0 * n 1 ≤ 42 := Nat.mul_le_mul w0 w1
  have hf28 := hts (.fieldLink RX3 28 "StatueSquare" "ground" "LStatueSquare$Ground;") (List.mem_of_getElem? (i := 1) rfl)
  have hinX3 : ∀ w ∈ u_ws RX3 TX3 5, w ∈ wsX3_cut := fun _ h => List.mem_cons_of_mem _ (List.mem_append_left _ (List.mem_append_right _ h))
  have hf68 := hts (.fieldLink RX3 68 "StatueSquare$Ground" "thingCount" "I") (List.mem_of_getElem? (i := 2) rfl)
  have hinX0 : ∀ w ∈ u_ws RX0 TX0 17, w ∈ wsX3_cut := fun _ h => List.mem_cons_of_mem _ (List.mem_append_right _ h)
  have hf108 := hts (.fieldLink RX3 108 "StatueSquare$Ground" "cutThings" "I") (List.mem_of_getElem? (i := 3) rfl)
  refine lv_iload_n hx hb dX3_cut_0 rfl (lv_at hl 1 rfl) ?_
  refine lv_aload_n hx hb dX3_cut_1 rfl (lv_at hl 0 rfl) ?_
  refine x_get (D := (dC, dI)) (ci := 3) (v := .ref (q 0)) (C := RX3) (T := TX3) (N := 5) hx hb hts hinX3 hown hK hP 0 rfl rfl 2 (Nat.le_of_ble_eq_true rfl) hf28 rfl rfl dX3_cut_2 ?_
  refine x_get (D := (dC, dI)) (ci := 0) (v := .int (nI (n 3))) (C := RX0) (T := TX0) (N := 17) hx hb hts hinX0 hown hK hP 1 rfl rfl 3 (Nat.le_of_ble_eq_true rfl) hf68 rfl rfl dX3_cut_5 ?_
  refine roS_i (As := [.int t, .int (nI (n 3))]) (rest := []) ⟨hx, hb, hml, hown, hts⟩ (kX3_isBelow l dC dI t (n 3) _ ) (va_cwS 2 hts gX3_cut_X3_isBelow rfl rfl rfl hdX3_isBelow ⟨Nat.le_trans (Nat.le_of_ble_eq_true rfl) hRf, Nat.le_trans (Nat.le_of_ble_eq_true rfl) hRl⟩) (hK.sub [] rfl) (hP.sub [] rfl) rfl hl.1 rfl (Nat.le_of_ble_eq_true rfl) dX3_cut_8 ⟨Nat.zero_le _, Nat.zero_le _⟩ hP hS hA (fun H locs hP hS => ?_)
  refine x_ifb_ne (tgt := 16) hx hb dX3_cut_11 (by decide) (fun c11 => ?_) (fun c11 => ?_)
  · skip
    obtain ⟨j, hj, rfl⟩ := inB_t (by omega) c11
    have hxj : xn (nI j) = j := xn_nI (by omega)
    refine lv_aload_n hx hb dX3_cut_16 rfl (lv_at hl 0 rfl) ?_
    refine x_get (D := (dC, dI)) (ci := 3) (v := .ref (q 0)) (C := RX3) (T := TX3) (N := 5) hx hb hts hinX3 hown hK hP 0 rfl rfl 2 (Nat.le_of_ble_eq_true rfl) hf28 rfl rfl dX3_cut_17 ?_
    refine lv_iload_n hx hb dX3_cut_20 rfl (lv_at hl 1 rfl) ?_
    refine roV_i (As := [.int (nI j)]) (rest := []) ⟨hx, hb, hml, hown, hts⟩ (kX0_isThere l dC dI cI q n A X hW hR j _ (by omega)) (cwV 1 hts gX3_cut_X0_isThere rfl rfl rfl hdX0_isThere ⟨Nat.le_trans (Nat.le_of_ble_eq_true rfl) hRf, Nat.le_trans (Nat.le_of_ble_eq_true rfl) hRl⟩) (va_recv hK hP (ci := 0) (q0 := 1) rfl rfl) hK (hP.sub [1, 2, 3, 4, 5, 6, 7, 8, 9] rfl) rfl hl.1 rfl (Nat.le_of_ble_eq_true rfl) dX3_cut_21 ⟨Nat.zero_le _, Nat.zero_le _⟩ hP hS hA (fun H locs hP hS => ?_)
    refine lv_iload_n hx hb dX3_cut_24 rfl (lv_at hl 2 rfl) ?_
    refine lv_icmp_eq (tgt := 30) hx hb dX3_cut_25 (by decide) (fun c25 => ?_) (fun c25 => ?_)
    · skip
      have hbq := bI_inj c25
      have hnb : ¬ (n 8).testBit j = is := by rw [← hbq, sThere]; cases (n 8).testBit j <;> decide
      refine lv_aload_n hx hb dX3_cut_30 rfl (lv_at hl 0 rfl) ?_
      refine x_get (D := (dC, dI)) (ci := 3) (v := .ref (q 0)) (C := RX3) (T := TX3) (N := 5) hx hb hts hinX3 hown hK hP 0 rfl rfl 2 (Nat.le_of_ble_eq_true rfl) hf28 rfl rfl dX3_cut_31 ?_
      refine lv_dup hx hb dX3_cut_34 rfl ?_
      refine x_get (D := (dC, dI)) (ci := 0) (v := .int (nI (n 8))) (C := RX0) (T := TX0) (N := 17) hx hb hts hinX0 hown hK hP 1 rfl rfl 12 (Nat.le_of_ble_eq_true rfl) hf108 rfl rfl dX3_cut_35 ?_
      refine lv_iconst (v := nI 1) hx hb dX3_cut_38 rfl ?_
      refine lv_iload_n hx hb dX3_cut_39 rfl (lv_at hl 1 rfl) ?_
      refine x_shl1 hx hb (by omega) dX3_cut_40 ?_
      refine lv_ixor hx hb dX3_cut_41 ?_
      refine x_top (y := (nI (n 8 ^^^ 2 ^ j))) (nI_xor _ _) ?_
      refine x_put (D := (dC, dI)) (ci := 0) (v := .int (nI (n 8 ^^^ 2 ^ j))) (C := RX0) (T := TX0) (N := 17) (wn := (a, .inr (3, [.ref r0, .ref r1, .ref (q 0), .int tr, .int fl])) :: wG cI q (uN n 8 (n 8 ^^^ 2 ^ j)) X) hx hb hts hinX0 tyX0 tyX0_ok nmX0 hown hK hP hD hS 1 rfl rfl 12 (Nat.le_of_ble_eq_true rfl) hf108 rfl rfl rfl rfl (Nat.le_of_ble_eq_true rfl) rfl dX3_cut_42 (fun H locs hP hS => ?_)
      have hD : va_D Z ((a, .inr (3, [.ref r0, .ref r1, .ref (q 0), .int tr, .int fl])) :: wG cI q (uN n 8 (n 8 ^^^ 2 ^ j)) X) := hD.same rfl
      refine lv_iconst (v := nI 1) hx hb dX3_cut_45 rfl ?_
      exact hend _ _ _ _ _ _ (by simp [uCut, inB02, c11, hxj, hnb] <;> rfl) (by rw [vCut, if_pos ⟨c11, by rw [hxj]; exact hnb⟩, hxj]) hP hS dX3_cut_46
    · skip
      have hbq : ¬ sThere n j = is := fun q => c25 (by rw [q])
      have hnb : (n 8).testBit j = is := by rw [sThere] at hbq; cases is <;> cases hq : (n 8).testBit j <;> simp_all
      refine lv_iconst (v := nI 0) hx hb dX3_cut_28 rfl ?_
      exact hend _ _ _ _ _ _ (by simp [uCut, inB02, c11, hxj, hnb] <;> rfl) (by simp [vCut, inB02, c11, hxj, hnb] <;> rfl) hP hS dX3_cut_29
  · skip
    refine lv_iconst (v := -1) hx hb dX3_cut_14 rfl ?_
    exact hend _ _ _ _ _ _ (by simp [uCut, inB02, c11] <;> rfl) (by simp [vCut, inB02, c11] <;> rfl) hP hS dX3_cut_15
set_option maxRecDepth 20000 in
theorem ggX3_price_X3_isBelow : GoodIn wsX3_price wsX3_isBelow := goodIn_r _ [7] (by decide +kernel) (by decide +kernel)
set_option maxRecDepth 20000 in
theorem gX3_price_X3_isBelow : GoodIn wsX3_price (va_wsS RX3 39 yX3_isBelow wsX3_isBelow) := goodIn_app (goodIn_of _ (by decide +kernel)) ggX3_price_X3_isBelow
set_option maxHeartbeats 4000000 in
set_option maxRecDepth 100000 in
theorem kX3_price (l : Launch) (dC : Nat → ClassId) (dI : Nat → Nat → Nat) (a r0 r1 : Nat) (tr fl : Int32) (cI : ClassId) (q n : Nat → Nat) (A : Nat → Nat → Nat) (X : Nat → Nat → Int32) (hW : WF n A) (hR : RG n A X) (t : Int32) (v : Int32) (sz : Nat) : Met l yX3_price wsX3_price ({ frames := 1, cells := 0, slots := 0, locals := 21 }) (rwP [.ref a, .int t, .int v] sz (dC, dI) [(cI, .int)] ((a, .inr (3, [.ref r0, .ref r1, .ref (q 0), .int tr, .int fl])) :: wG cI q n X)) (rwQi (uPrice n A t v) (dC, dI) ((a, .inr (3, [.ref r0, .ref r1, .ref (q 0), .int tr, .int fl])) :: wG cI q n X) ((a, .inr (3, [.ref r0, .ref r1, .ref (q 0), .int tr, .int fl])) :: wG cI q n (if okPrice n t v = true then uX X 7 (xn t) v else X)) sz) 0 0 (va_A ((a, .inr (3, [.ref r0, .ref r1, .ref (q 0), .int tr, .int fl])) :: wG cI q n X) sz) := by
  refine rw_met_i (by decide) rfl (Nat.le_of_ble_eq_true rfl) ?_
  intro pp ee ss mm aa bb me cd RR QQ Z hx hb hml hown hts hRf hRl hP hK hD hA hS hend ls hl
  have hown : ss.vm.findClass RX3 = some mm.cls := hown
  have hRf : 1 ≤ RR.frames := hRf
  have hRl : 21 ≤ RR.locals := hRl
  have hl : lv_has ls 4 [(0, .ref a), (1, .int t), (2, .int v)] := hl
  obtain ⟨w0, w1, w2, w3, w4, w5, w6, w7, w8, wA0, wA1, wA2⟩ := id hW
  have wC : n 0 * n 1 ≤ 42 := Nat.mul_le_mul w0 w1
  have hf28 := hts (.fieldLink RX3 28 "StatueSquare" "ground" "LStatueSquare$Ground;") (List.mem_of_getElem? (i := 1) rfl)
  have hinX3 : ∀ w ∈ u_ws RX3 TX3 5, w ∈ wsX3_price := fun _ h => List.mem_cons_of_mem _ (List.mem_append_left _ (List.mem_append_right _ h))
  have hf68 := hts (.fieldLink RX3 68 "StatueSquare$Ground" "thingCount" "I") (List.mem_of_getElem? (i := 2) rfl)
  have hinX0 : ∀ w ∈ u_ws RX0 TX0 17, w ∈ wsX3_price := fun _ h => List.mem_cons_of_mem _ (List.mem_append_right _ h)
  have hf91 := hts (.fieldLink RX3 91 "StatueSquare$Ground" "cost" "[I") (List.mem_of_getElem? (i := 3) rfl)
  refine lv_iload_n hx hb dX3_price_0 rfl (lv_at hl 1 rfl) ?_
  refine lv_aload_n hx hb dX3_price_1 rfl (lv_at hl 0 rfl) ?_
  refine x_get (D := (dC, dI)) (ci := 3) (v := .ref (q 0)) (C := RX3) (T := TX3) (N := 5) hx hb hts hinX3 hown hK hP 0 rfl rfl 2 (Nat.le_of_ble_eq_true rfl) hf28 rfl rfl dX3_price_2 ?_
  refine x_get (D := (dC, dI)) (ci := 0) (v := .int (nI (n 3))) (C := RX0) (T := TX0) (N := 17) hx hb hts hinX0 hown hK hP 1 rfl rfl 3 (Nat.le_of_ble_eq_true rfl) hf68 rfl rfl dX3_price_5 ?_
  refine roS_i (As := [.int t, .int (nI (n 3))]) (rest := []) ⟨hx, hb, hml, hown, hts⟩ (kX3_isBelow l dC dI t (n 3) _ ) (va_cwS 2 hts gX3_price_X3_isBelow rfl rfl rfl hdX3_isBelow ⟨Nat.le_trans (Nat.le_of_ble_eq_true rfl) hRf, Nat.le_trans (Nat.le_of_ble_eq_true rfl) hRl⟩) (hK.sub [] rfl) (hP.sub [] rfl) rfl hl.1 rfl (Nat.le_of_ble_eq_true rfl) dX3_price_8 ⟨Nat.zero_le _, Nat.zero_le _⟩ hP hS hA (fun H locs hP hS => ?_)
  refine x_ifb_ne (tgt := 16) hx hb dX3_price_11 (by decide) (fun c11 => ?_) (fun c11 => ?_)
  · skip
    obtain ⟨j, hj, rfl⟩ := inB_t (by omega) c11
    have hxj : xn (nI j) = j := xn_nI (by omega)
    refine lv_iload_n hx hb dX3_price_16 rfl (lv_at hl 2 rfl) ?_
    refine lv_iconst (v := nI 1) hx hb dX3_price_17 rfl ?_
    refine lv_icmp_lt (tgt := 27) hx hb dX3_price_18 (by decide) (fun c18 => ?_) (fun c18 => ?_)
    · skip
      have h19 : in19 v = false := decide_eq_false (fun q => absurd c18 (Int32.not_lt.mpr q.1))
      refine lv_bipush (v := -2) hx hb dX3_price_27 rfl ?_
      exact hend _ _ _ _ _ _ (by simp [uPrice, inB02, c11, h19] <;> rfl) (by simp [okPrice, inB02, c11, h19] <;> rfl) hP hS dX3_price_29
    · skip
      refine lv_iload_n hx hb dX3_price_21 rfl (lv_at hl 2 rfl) ?_
      refine lv_bipush (v := nI 9) hx hb dX3_price_22 rfl ?_
      refine lv_icmp_le (tgt := 30) hx hb dX3_price_24 (by decide) (fun c24 => ?_) (fun c24 => ?_)
      · skip
        have h19 : in19 v = true := decide_eq_true ⟨Int32.not_lt.mp c18, c24⟩
        refine lv_aload_n hx hb dX3_price_30 rfl (lv_at hl 0 rfl) ?_
        refine x_get (D := (dC, dI)) (ci := 3) (v := .ref (q 0)) (C := RX3) (T := TX3) (N := 5) hx hb hts hinX3 hown hK hP 0 rfl rfl 2 (Nat.le_of_ble_eq_true rfl) hf28 rfl rfl dX3_price_31 ?_
        refine x_get (D := (dC, dI)) (ci := 0) (v := .ref (q 8)) (C := RX0) (T := TX0) (N := 17) hx hb hts hinX0 hown hK hP 1 rfl rfl 11 (Nat.le_of_ble_eq_true rfl) hf91 rfl rfl dX3_price_34 ?_
        refine lv_iload_n hx hb dX3_price_37 rfl (lv_at hl 1 rfl) ?_
        refine x_iald (v := (nI (A 5 j))) hx hb hK hP 9 0 rfl rfl (by omega) (by decide) (hR.2.2 _ (by omega)).2.2.2 dX3_price_38 ?_
        refine lv_istore_n (lv' := [(3, .int (nI (A 5 j))), (0, .ref a), (1, .int (nI j)), (2, .int v)]) hx hb dX3_price_39 rfl hl (by decide) rfl (fun ls hl => ?_)
        refine lv_aload_n hx hb dX3_price_40 rfl (lv_at hl 1 rfl) ?_
        refine x_get (D := (dC, dI)) (ci := 3) (v := .ref (q 0)) (C := RX3) (T := TX3) (N := 5) hx hb hts hinX3 hown hK hP 0 rfl rfl 2 (Nat.le_of_ble_eq_true rfl) hf28 rfl rfl dX3_price_41 ?_
        refine x_get (D := (dC, dI)) (ci := 0) (v := .ref (q 8)) (C := RX0) (T := TX0) (N := 17) hx hb hts hinX0 hown hK hP 1 rfl rfl 11 (Nat.le_of_ble_eq_true rfl) hf91 rfl rfl dX3_price_44 ?_
        refine lv_iload_n hx hb dX3_price_47 rfl (lv_at hl 2 rfl) ?_
        refine lv_iload_n hx hb dX3_price_48 rfl (lv_at hl 3 rfl) ?_
        refine x_iast (wn := (a, .inr (3, [.ref r0, .ref r1, .ref (q 0), .int tr, .int fl])) :: wG cI q n (uX X 7 j v)) hx hb hK hP hD hS 9 0 rfl rfl (by omega) (by decide) rfl dX3_price_49 (fun H locs hP hS => ?_)
        have hD : va_D Z ((a, .inr (3, [.ref r0, .ref r1, .ref (q 0), .int tr, .int fl])) :: wG cI q n (uX X 7 j v)) := hD.same rfl
        refine lv_iload_n hx hb dX3_price_50 rfl (lv_at hl 0 rfl) ?_
        exact hend _ _ _ _ _ _ (by simp [uPrice, inB02, c11, h19, hxj] <;> rfl) (by rw [if_pos (show okPrice n (nI j) v = true from by rw [okPrice, c11, h19]; rfl), hxj]) hP hS dX3_price_51
      · skip
        have h19 : in19 v = false := decide_eq_false (fun q => c24 q.2)
        refine lv_bipush (v := -2) hx hb dX3_price_27 rfl ?_
        exact hend _ _ _ _ _ _ (by simp [uPrice, inB02, c11, h19] <;> rfl) (by simp [okPrice, inB02, c11, h19] <;> rfl) hP hS dX3_price_29
  · skip
    refine lv_iconst (v := -1) hx hb dX3_price_14 rfl ?_
    exact hend _ _ _ _ _ _ (by simp [uPrice, inB02, c11] <;> rfl) (by simp [okPrice, inB02, c11] <;> rfl) hP hS dX3_price_15
set_option maxRecDepth 20000 in
theorem ggX3_statue_X3_isBelow : GoodIn wsX3_statue wsX3_isBelow := goodIn_r _ [8] (by decide +kernel) (by decide +kernel)
set_option maxRecDepth 20000 in
theorem gX3_statue_X3_isBelow : GoodIn wsX3_statue (va_wsS RX3 39 yX3_isBelow wsX3_isBelow) := goodIn_app (goodIn_of _ (by decide +kernel)) ggX3_statue_X3_isBelow
set_option maxRecDepth 20000 in
theorem ggX3_statue_X0_isFree : GoodIn wsX3_statue wsX0_isFree := goodIn_r _ [13, 14, 20, 21, 22, 23, 24, 25, 26, 27, 28, 29, 30, 31, 32, 33, 34, 35, 36] (by decide +kernel) (by decide +kernel)
set_option maxRecDepth 20000 in
theorem gX3_statue_X0_isFree : GoodIn wsX3_statue (wsV RX3 111 RX0 yX0_isFree wsX0_isFree) := goodIn_app (goodIn_of _ (by decide +kernel)) ggX3_statue_X0_isFree
set_option maxHeartbeats 4000000 in
set_option maxRecDepth 100000 in
theorem kX3_statue (l : Launch) (dC : Nat → ClassId) (dI : Nat → Nat → Nat) (a r0 r1 : Nat) (tr fl : Int32) (cI : ClassId) (q n : Nat → Nat) (A : Nat → Nat → Nat) (X : Nat → Nat → Int32) (hW : WF n A) (hR : RG n A X) (c : Int32) (b : Int32) (sz : Nat) : Met l yX3_statue wsX3_statue ({ frames := 1, cells := 0, slots := 0, locals := 21 }) (rwP [.ref a, .int c, .int b] sz (dC, dI) [(cI, .int)] ((a, .inr (3, [.ref r0, .ref r1, .ref (q 0), .int tr, .int fl])) :: wG cI q n X)) (rwQi (uStatue n A c b) (dC, dI) ((a, .inr (3, [.ref r0, .ref r1, .ref (q 0), .int tr, .int fl])) :: wG cI q n X) ((a, .inr (3, [.ref r0, .ref r1, .ref (q 0), .int tr, .int fl])) :: wG cI q (vStatue n A c b) X) sz) 0 0 (va_A ((a, .inr (3, [.ref r0, .ref r1, .ref (q 0), .int tr, .int fl])) :: wG cI q n X) sz) := by
  refine rw_met_i (by decide) rfl (Nat.le_of_ble_eq_true rfl) ?_
  intro pp ee ss mm aa bb me cd RR QQ Z hx hb hml hown hts hRf hRl hP hK hD hA hS hend ls hl
  have hown : ss.vm.findClass RX3 = some mm.cls := hown
  have hRf : 1 ≤ RR.frames := hRf
  have hRl : 21 ≤ RR.locals := hRl
  have hl : lv_has ls 4 [(0, .ref a), (1, .int c), (2, .int b)] := hl
  obtain ⟨w0, w1, w2, w3, w4, w5, w6, w7, w8, wA0, wA1, wA2⟩ := id hW
  have wC : n 0 * n 1 ≤ 42 := Nat.mul_le_mul w0 w1
  have hf28 := hts (.fieldLink RX3 28 "StatueSquare" "ground" "LStatueSquare$Ground;") (List.mem_of_getElem? (i := 1) rfl)
  have hinX3 : ∀ w ∈ u_ws RX3 TX3 5, w ∈ wsX3_statue := fun _ h => List.mem_cons_of_mem _ (List.mem_append_left _ (List.mem_append_right _ h))
  have hf61 := hts (.fieldLink RX3 61 "StatueSquare$Ground" "cellCount" "I") (List.mem_of_getElem? (i := 2) rfl)
  have hinX0 : ∀ w ∈ u_ws RX0 TX0 17, w ∈ wsX3_statue := fun _ h => List.mem_cons_of_mem _ (List.mem_append_right _ h)
  have hf114 := hts (.fieldLink RX3 114 "StatueSquare$Ground" "statueCell" "I") (List.mem_of_getElem? (i := 3) rfl)
  have hf117 := hts (.fieldLink RX3 117 "StatueSquare$Ground" "statueBlock" "I") (List.mem_of_getElem? (i := 4) rfl)
  refine lv_iload_n hx hb dX3_statue_0 rfl (lv_at hl 1 rfl) ?_
  refine lv_aload_n hx hb dX3_statue_1 rfl (lv_at hl 0 rfl) ?_
  refine x_get (D := (dC, dI)) (ci := 3) (v := .ref (q 0)) (C := RX3) (T := TX3) (N := 5) hx hb hts hinX3 hown hK hP 0 rfl rfl 2 (Nat.le_of_ble_eq_true rfl) hf28 rfl rfl dX3_statue_2 ?_
  refine x_get (D := (dC, dI)) (ci := 0) (v := .int (nI (n 0 * n 1))) (C := RX0) (T := TX0) (N := 17) hx hb hts hinX0 hown hK hP 1 rfl rfl 1 (Nat.le_of_ble_eq_true rfl) hf61 rfl rfl dX3_statue_5 ?_
  refine roS_i (As := [.int c, .int (nI (n 0 * n 1))]) (rest := []) ⟨hx, hb, hml, hown, hts⟩ (kX3_isBelow l dC dI c (n 0 * n 1) _ ) (va_cwS 2 hts gX3_statue_X3_isBelow rfl rfl rfl hdX3_isBelow ⟨Nat.le_trans (Nat.le_of_ble_eq_true rfl) hRf, Nat.le_trans (Nat.le_of_ble_eq_true rfl) hRl⟩) (hK.sub [] rfl) (hP.sub [] rfl) rfl hl.1 rfl (Nat.le_of_ble_eq_true rfl) dX3_statue_8 ⟨Nat.zero_le _, Nat.zero_le _⟩ hP hS hA (fun H locs hP hS => ?_)
  refine x_ifb_ne (tgt := 16) hx hb dX3_statue_11 (by decide) (fun c11 => ?_) (fun c11 => ?_)
  · skip
    obtain ⟨j, hj, rfl⟩ := inB_t (by omega) c11
    have hxj : xn (nI j) = j := xn_nI (by omega)
    refine lv_iload_n hx hb dX3_statue_16 rfl (lv_at hl 2 rfl) ?_
    refine lv_bipush (v := nI 10) hx hb dX3_statue_17 rfl ?_
    refine roS_i (As := [.int b, .int (nI 10)]) (rest := []) ⟨hx, hb, hml, hown, hts⟩ (kX3_isBelow l dC dI b 10 _ ) (va_cwS 2 hts gX3_statue_X3_isBelow rfl rfl rfl hdX3_isBelow ⟨Nat.le_trans (Nat.le_of_ble_eq_true rfl) hRf, Nat.le_trans (Nat.le_of_ble_eq_true rfl) hRl⟩) (hK.sub [] rfl) (hP.sub [] rfl) rfl hl.1 rfl (Nat.le_of_ble_eq_true rfl) dX3_statue_19 ⟨Nat.zero_le _, Nat.zero_le _⟩ hP hS hA (fun H locs hP hS => ?_)
    refine x_ifb_ne (tgt := 28) hx hb dX3_statue_22 (by decide) (fun c22 => ?_) (fun c22 => ?_)
    · skip
      obtain ⟨i, hi, rfl⟩ := inB_t (by omega) c22
      have hxi : xn (nI i) = i := xn_nI (by omega)
      refine lv_aload_n hx hb dX3_statue_28 rfl (lv_at hl 0 rfl) ?_
      refine x_get (D := (dC, dI)) (ci := 3) (v := .ref (q 0)) (C := RX3) (T := TX3) (N := 5) hx hb hts hinX3 hown hK hP 0 rfl rfl 2 (Nat.le_of_ble_eq_true rfl) hf28 rfl rfl dX3_statue_29 ?_
      refine lv_iload_n hx hb dX3_statue_32 rfl (lv_at hl 1 rfl) ?_
      refine roV_i (As := [.int (nI j)]) (rest := []) ⟨hx, hb, hml, hown, hts⟩ (kX0_isFree l dC dI cI q n A X hW hR j _ (by omega)) (cwV 1 hts gX3_statue_X0_isFree rfl rfl rfl hdX0_isFree ⟨Nat.le_trans (Nat.le_of_ble_eq_true rfl) hRf, Nat.le_trans (Nat.le_of_ble_eq_true rfl) hRl⟩) (va_recv hK hP (ci := 0) (q0 := 1) rfl rfl) hK (hP.sub [1, 2, 3, 4, 5, 6, 7, 8, 9] rfl) rfl hl.1 rfl (Nat.le_of_ble_eq_true rfl) dX3_statue_33 ⟨Nat.zero_le _, Nat.zero_le _⟩ hP hS hA (fun H locs hP hS => ?_)
      refine x_ifb_ne (tgt := 42) hx hb dX3_statue_36 (by decide) (fun c36 => ?_) (fun c36 => ?_)
      · skip
        have hfr : A 0 j = 0 := of_decide_eq_true c36
        refine lv_aload_n hx hb dX3_statue_42 rfl (lv_at hl 0 rfl) ?_
        refine x_get (D := (dC, dI)) (ci := 3) (v := .ref (q 0)) (C := RX3) (T := TX3) (N := 5) hx hb hts hinX3 hown hK hP 0 rfl rfl 2 (Nat.le_of_ble_eq_true rfl) hf28 rfl rfl dX3_statue_43 ?_
        refine x_get (D := (dC, dI)) (ci := 0) (v := .int (stI (n 6))) (C := RX0) (T := TX0) (N := 17) hx hb hts hinX0 hown hK hP 1 rfl rfl 15 (Nat.le_of_ble_eq_true rfl) hf114 rfl rfl dX3_statue_46 ?_
        refine lv_istore_n (lv' := [(3, .int (stI (n 6))), (0, .ref a), (1, .int (nI j)), (2, .int (nI i))]) hx hb dX3_statue_49 rfl hl (by decide) rfl (fun ls hl => ?_)
        refine lv_aload_n hx hb dX3_statue_50 rfl (lv_at hl 1 rfl) ?_
        refine x_get (D := (dC, dI)) (ci := 3) (v := .ref (q 0)) (C := RX3) (T := TX3) (N := 5) hx hb hts hinX3 hown hK hP 0 rfl rfl 2 (Nat.le_of_ble_eq_true rfl) hf28 rfl rfl dX3_statue_51 ?_
        refine lv_iload_n hx hb dX3_statue_54 rfl (lv_at hl 2 rfl) ?_
        refine x_put (D := (dC, dI)) (ci := 0) (v := .int (nI j)) (C := RX0) (T := TX0) (N := 17) (wn := (a, .inr (3, [.ref r0, .ref r1, .ref (q 0), .int tr, .int fl])) :: wG cI q (uN n 6 (j + 1)) X) hx hb hts hinX0 tyX0 tyX0_ok nmX0 hown hK hP hD hS 1 rfl rfl 15 (Nat.le_of_ble_eq_true rfl) hf114 rfl rfl rfl rfl (Nat.le_of_ble_eq_true rfl) rfl dX3_statue_55 (fun H locs hP hS => ?_)
        have hD : va_D Z ((a, .inr (3, [.ref r0, .ref r1, .ref (q 0), .int tr, .int fl])) :: wG cI q (uN n 6 (j + 1)) X) := hD.same rfl
        refine lv_aload_n hx hb dX3_statue_58 rfl (lv_at hl 1 rfl) ?_
        refine x_get (D := (dC, dI)) (ci := 3) (v := .ref (q 0)) (C := RX3) (T := TX3) (N := 5) hx hb hts hinX3 hown hK hP 0 rfl rfl 2 (Nat.le_of_ble_eq_true rfl) hf28 rfl rfl dX3_statue_59 ?_
        refine lv_iload_n hx hb dX3_statue_62 rfl (lv_at hl 3 rfl) ?_
        refine x_put (D := (dC, dI)) (ci := 0) (v := .int (nI i)) (C := RX0) (T := TX0) (N := 17) (wn := (a, .inr (3, [.ref r0, .ref r1, .ref (q 0), .int tr, .int fl])) :: wG cI q (uN (uN n 6 (j + 1)) 7 i) X) hx hb hts hinX0 tyX0 tyX0_ok nmX0 hown hK hP hD hS 1 rfl rfl 16 (Nat.le_of_ble_eq_true rfl) hf117 rfl rfl rfl rfl (Nat.le_of_ble_eq_true rfl) rfl dX3_statue_63 (fun H locs hP hS => ?_)
        have hD : va_D Z ((a, .inr (3, [.ref r0, .ref r1, .ref (q 0), .int tr, .int fl])) :: wG cI q (uN (uN n 6 (j + 1)) 7 i) X) := hD.same rfl
        refine lv_iload_n hx hb dX3_statue_66 rfl (lv_at hl 0 rfl) ?_
        exact hend _ _ _ _ _ _ (by simp [uStatue, inB02, c11, c22, hxj, hfr] <;> rfl) (by rw [vStatue, if_pos ⟨c11, c22, by rw [hxj]; exact hfr⟩, hxj, hxi]) hP hS dX3_statue_67
      · skip
        have hfr : ¬ A 0 j = 0 := of_decide_eq_false c36
        refine lv_bipush (v := -3) hx hb dX3_statue_39 rfl ?_
        exact hend _ _ _ _ _ _ (by simp [uStatue, inB02, c11, c22, hxj, hfr] <;> rfl) (by simp [vStatue, inB02, c11, c22, hxj, hfr] <;> rfl) hP hS dX3_statue_41
    · skip
      refine lv_bipush (v := -2) hx hb dX3_statue_25 rfl ?_
      exact hend _ _ _ _ _ _ (by simp [uStatue, inB02, c11, c22] <;> rfl) (by simp [vStatue, inB02, c11, c22] <;> rfl) hP hS dX3_statue_27
  · skip
    refine lv_iconst (v := -1) hx hb dX3_statue_14 rfl ?_
    exact hend _ _ _ _ _ _ (by simp [uStatue, inB02, c11] <;> rfl) (by simp [vStatue, inB02, c11] <;> rfl) hP hS dX3_statue_15
set_option maxHeartbeats 4000000 in
set_option maxRecDepth 100000 in
theorem kX3_failed (l : Launch) (dC : Nat → ClassId) (dI : Nat → Nat → Nat) (a r0 r1 g : Nat) (tr fl : Int32) (w : Nat) (sz : Nat) : Met l yX3_failed wsX3_failed ({ frames := 0, cells := 0, slots := 0, locals := 0 }) (rwP [.ref a, .int (nI w)] sz (dC, dI) [] ([(a, .inr (3, [.ref r0, .ref r1, .ref g, .int tr, .int fl]))])) (rwQi (-10 - nI w) (dC, dI) ([(a, .inr (3, [.ref r0, .ref r1, .ref g, .int tr, .int fl]))]) ([(a, .inr (3, [.ref r0, .ref r1, .ref g, .int tr, .int (nI w)]))]) sz) 0 0 (va_A ([(a, .inr (3, [.ref r0, .ref r1, .ref g, .int tr, .int fl]))]) sz) := by
  refine rw_met_i (by decide) rfl (Nat.le_of_ble_eq_true rfl) ?_
  intro pp ee ss mm aa bb me cd RR QQ Z hx hb hml hown hts hRf hRl hP hK hD hA hS hend ls hl
  have hown : ss.vm.findClass RX3 = some mm.cls := hown
  have hRf : 0 ≤ RR.frames := hRf
  have hRl : 0 ≤ RR.locals := hRl
  have hl : lv_has ls 2 [(0, .ref a), (1, .int (nI w))] := hl
  have hf36 := hts (.fieldLink RX3 36 "StatueSquare" "latestFault" "I") (List.mem_of_getElem? (i := 1) rfl)
  have hinX3 : ∀ w ∈ u_ws RX3 TX3 5, w ∈ wsX3_failed := fun _ h => List.mem_cons_of_mem _ (List.mem_append_right _ h)
  refine lv_aload_n hx hb dX3_failed_0 rfl (lv_at hl 0 rfl) ?_
  refine lv_iload_n hx hb dX3_failed_1 rfl (lv_at hl 1 rfl) ?_
  refine x_put (D := (dC, dI)) (ci := 3) (v := .int (nI w)) (C := RX3) (T := TX3) (N := 5) (wn := [(a, .inr (3, [.ref r0, .ref r1, .ref g, .int tr, .int (nI w)]))]) hx hb hts hinX3 tyX3 tyX3_ok nmX3 hown hK hP hD hS 0 rfl rfl 4 (Nat.le_of_ble_eq_true rfl) hf36 rfl rfl rfl rfl (Nat.le_of_ble_eq_true rfl) rfl dX3_failed_2 (fun H locs hP hS => ?_)
  have hD : va_D Z ([(a, .inr (3, [.ref r0, .ref r1, .ref g, .int tr, .int (nI w)]))]) := hD.same rfl
  refine lv_bipush (v := -10) hx hb dX3_failed_5 rfl ?_
  refine lv_iload_n hx hb dX3_failed_7 rfl (lv_at hl 1 rfl) ?_
  refine lv_isub hx hb dX3_failed_8 ?_
  exact hend _ _ _ _ _ _ rfl rfl hP hS dX3_failed_9
set_option maxHeartbeats 4000000 in
set_option maxRecDepth 100000 in
theorem kX3_leaveInTrace (l : Launch) (dC : Nat → ClassId) (dI : Nat → Nat → Nat) (a r0 r1 g : Nat) (tr fl : Int32) (w : Nat) (sz : Nat) : Met l yX3_leaveInTrace wsX3_leaveInTrace ({ frames := 0, cells := 0, slots := 0, locals := 0 }) (rwP [.ref a, .int (nI w)] sz (dC, dI) [] ([(a, .inr (3, [.ref r0, .ref r1, .ref g, .int tr, .int fl]))])) (rwQv (dC, dI) ([(a, .inr (3, [.ref r0, .ref r1, .ref g, .int tr, .int fl]))]) ([(a, .inr (3, [.ref r0, .ref r1, .ref g, .int (trc tr w), .int fl]))]) sz) 0 0 (va_A ([(a, .inr (3, [.ref r0, .ref r1, .ref g, .int tr, .int fl]))]) sz) := by
  refine rw_met_v (by decide) rfl (Nat.le_of_ble_eq_true rfl) ?_
  intro pp ee ss mm aa bb me cd RR QQ Z hx hb hml hown hts hRf hRl hP hK hD hA hS hend ls hl
  have hown : ss.vm.findClass RX3 = some mm.cls := hown
  have hRf : 0 ≤ RR.frames := hRf
  have hRl : 0 ≤ RR.locals := hRl
  have hl : lv_has ls 2 [(0, .ref a), (1, .int (nI w))] := hl
  have hf32 := hts (.fieldLink RX3 32 "StatueSquare" "traced" "I") (List.mem_of_getElem? (i := 1) rfl)
  have hinX3 : ∀ w ∈ u_ws RX3 TX3 5, w ∈ wsX3_leaveInTrace := fun _ h => List.mem_cons_of_mem _ (List.mem_append_right _ h)
  refine lv_aload_n hx hb dX3_leaveInTrace_0 rfl (lv_at hl 0 rfl) ?_
  refine lv_bipush (v := nI 31) hx hb dX3_leaveInTrace_1 rfl ?_
  refine lv_aload_n hx hb dX3_leaveInTrace_3 rfl (lv_at hl 0 rfl) ?_
  refine x_get (D := (dC, dI)) (ci := 3) (v := .int tr) (C := RX3) (T := TX3) (N := 5) hx hb hts hinX3 hown hK hP 0 rfl rfl 3 (Nat.le_of_ble_eq_true rfl) hf32 rfl rfl dX3_leaveInTrace_4 ?_
  refine lv_imul hx hb dX3_leaveInTrace_7 ?_
  refine lv_iload_n hx hb dX3_leaveInTrace_8 rfl (lv_at hl 1 rfl) ?_
  refine lv_iadd hx hb dX3_leaveInTrace_9 ?_
  refine x_put (D := (dC, dI)) (ci := 3) (v := .int (((nI 31) * tr) + (nI w))) (C := RX3) (T := TX3) (N := 5) (wn := [(a, .inr (3, [.ref r0, .ref r1, .ref g, .int (((nI 31) * tr) + (nI w)), .int fl]))]) hx hb hts hinX3 tyX3 tyX3_ok nmX3 hown hK hP hD hS 0 rfl rfl 3 (Nat.le_of_ble_eq_true rfl) hf32 rfl rfl rfl rfl (Nat.le_of_ble_eq_true rfl) rfl dX3_leaveInTrace_10 (fun H locs hP hS => ?_)
  have hD : va_D Z ([(a, .inr (3, [.ref r0, .ref r1, .ref g, .int (((nI 31) * tr) + (nI w)), .int fl]))]) := hD.same rfl
  exact hend _ _ _ _ _ (by rw [trc_eq]) hP hS dX3_leaveInTrace_13
theorem hdX3_leaveInTrace : yX3_leaveInTrace.cls = RX3 ∧ yX3_leaveInTrace.cls ≠ "java/lang/invoke/MethodHandle" ∧ yX3_leaveInTrace.cls ≠ "java/lang/invoke/VarHandle" ∧ (parseMethodDescriptor yX3_leaveInTrace.desc).map (fun d => d.parameters.length) = some 1 := by decide +kernel
set_option maxRecDepth 20000 in
theorem ggX3_tellLamp_X3_leaveInTrace : GoodIn wsX3_tellLamp wsX3_leaveInTrace := goodIn_r _ [7, 8, 9, 10, 11, 12, 13] (by decide +kernel) (by decide +kernel)
set_option maxRecDepth 20000 in
theorem gX3_tellLamp_X3_leaveInTrace : GoodIn wsX3_tellLamp (wsV RX3 223 RX3 yX3_leaveInTrace wsX3_leaveInTrace) := goodIn_app (goodIn_of _ (by decide +kernel)) ggX3_tellLamp_X3_leaveInTrace
set_option maxHeartbeats 4000000 in
set_option maxRecDepth 100000 in
theorem kX3_tellLamp (l : Launch) (dC : Nat → ClassId) (dI : Nat → Nat → Nat) (a r0 r1 : Nat) (tr fl : Int32) (cI : ClassId) (q n : Nat → Nat) (A : Nat → Nat → Nat) (X : Nat → Nat → Int32) (hW : WF n A) (hR : RG n A X) (t : Nat) (sz : Nat) (ht : t < n 3) : Met l yX3_tellLamp wsX3_tellLamp ({ frames := 1, cells := 0, slots := 0, locals := 21 }) (rwP [.ref a, .int (nI t)] sz (dC, dI) [(cI, .int)] ((a, .inr (3, [.ref r0, .ref r1, .ref (q 0), .int tr, .int fl])) :: wG cI q n X)) (rwQi (nI (A 4 t)) (dC, dI) ((a, .inr (3, [.ref r0, .ref r1, .ref (q 0), .int tr, .int fl])) :: wG cI q n X) ((a, .inr (3, [.ref r0, .ref r1, .ref (q 0), .int (trc tr 1), .int fl])) :: wG cI q n X) sz) 0 0 (va_A ((a, .inr (3, [.ref r0, .ref r1, .ref (q 0), .int tr, .int fl])) :: wG cI q n X) sz) := by
  refine rw_met_i (by decide) rfl (Nat.le_of_ble_eq_true rfl) ?_
  intro pp ee ss mm aa bb me cd RR QQ Z hx hb hml hown hts hRf hRl hP hK hD hA hS hend ls hl
  have hown : ss.vm.findClass RX3 = some mm.cls := hown
  have hRf : 1 ≤ RR.frames := hRf
  have hRl : 21 ≤ RR.locals := hRl
  have hl : lv_has ls 2 [(0, .ref a), (1, .int (nI t))] := hl
  obtain ⟨w0, w1, w2, w3, w4, w5, w6, w7, w8, wA0, wA1, wA2⟩ := id hW
  have wC : n 0 * n 1 ≤ 42 := Nat.mul_le_mul w0 w1
  have wt := wA2 t ht
  have hf28 := hts (.fieldLink RX3 28 "StatueSquare" "ground" "LStatueSquare$Ground;") (List.mem_of_getElem? (i := 1) rfl)
  have hinX3 : ∀ w ∈ u_ws RX3 TX3 5, w ∈ wsX3_tellLamp := fun _ h => List.mem_cons_of_mem _ (List.mem_append_left _ (List.mem_append_right _ h))
  have hf77 := hts (.fieldLink RX3 77 "StatueSquare$Ground" "tallAtFirst" "[I") (List.mem_of_getElem? (i := 2) rfl)
  have hinX0 : ∀ w ∈ u_ws RX0 TX0 17, w ∈ wsX3_tellLamp := fun _ h => List.mem_cons_of_mem _ (List.mem_append_right _ h)
  refine lv_aload_n hx hb dX3_tellLamp_0 rfl (lv_at hl 0 rfl) ?_
  refine lv_iconst (v := nI 1) hx hb dX3_tellLamp_1 rfl ?_
  refine rwW_v (As := [.int (nI 1)]) (rest := []) (wn := (a, .inr (3, [.ref r0, .ref r1, .ref (q 0), .int (trc tr 1), .int fl])) :: wG cI q n X) ⟨hx, hb, hml, hown, hts⟩ (kX3_leaveInTrace l dC dI a r0 r1 (q 0) tr fl 1 _) (cwV 1 hts gX3_tellLamp_X3_leaveInTrace rfl rfl rfl hdX3_leaveInTrace ⟨Nat.le_trans (Nat.le_of_ble_eq_true rfl) hRf, Nat.le_trans (Nat.le_of_ble_eq_true rfl) hRl⟩) (va_recv hK hP (ci := 3) (q0 := 0) rfl rfl) (hK.sub [] rfl) rfl hl.1 rfl (Nat.le_of_ble_eq_true rfl) dX3_tellLamp_2 ⟨Nat.zero_le _, Nat.zero_le _⟩ hP hD hS hA [0] [1, 2, 3, 4, 5, 6, 7, 8, 9] [9, 0, 1, 2, 3, 4, 5, 6, 7, 8] rfl rfl (by decide) (by decide) (by decide) rfl rfl (fun H locs hP hS => ?_)
  have hD : va_D Z ((a, .inr (3, [.ref r0, .ref r1, .ref (q 0), .int (trc tr 1), .int fl])) :: wG cI q n X) := hD.same rfl
  refine lv_aload_n hx hb dX3_tellLamp_5 rfl (lv_at hl 0 rfl) ?_
  refine x_get (D := (dC, dI)) (ci := 3) (v := .ref (q 0)) (C := RX3) (T := TX3) (N := 5) hx hb hts hinX3 hown hK hP 0 rfl rfl 2 (Nat.le_of_ble_eq_true rfl) hf28 rfl rfl dX3_tellLamp_6 ?_
  refine x_get (D := (dC, dI)) (ci := 0) (v := .ref (q 7)) (C := RX0) (T := TX0) (N := 17) hx hb hts hinX0 hown hK hP 1 rfl rfl 10 (Nat.le_of_ble_eq_true rfl) hf77 rfl rfl dX3_tellLamp_9 ?_
  refine lv_iload_n hx hb dX3_tellLamp_12 rfl (lv_at hl 1 rfl) ?_
  refine x_iald (v := (nI (A 4 t))) hx hb hK hP 8 0 rfl rfl (by omega) (by decide) (hR.2.2 _ (by omega)).2.2.1 dX3_tellLamp_13 ?_
  exact hend _ _ _ _ _ _ rfl rfl hP hS dX3_tellLamp_14
theorem hdX3_tellLamp : yX3_tellLamp.cls = RX3 ∧ yX3_tellLamp.cls ≠ "java/lang/invoke/MethodHandle" ∧ yX3_tellLamp.cls ≠ "java/lang/invoke/VarHandle" ∧ (parseMethodDescriptor yX3_tellLamp.desc).map (fun d => d.parameters.length) = some 1 := by decide +kernel
set_option maxRecDepth 20000 in
theorem ggX3_tellUrn_X3_leaveInTrace : GoodIn wsX3_tellUrn wsX3_leaveInTrace := goodIn_r _ [5, 6, 13, 14, 15, 16, 17] (by decide +kernel) (by decide +kernel)
set_option maxRecDepth 20000 in
theorem gX3_tellUrn_X3_leaveInTrace : GoodIn wsX3_tellUrn (wsV RX3 223 RX3 yX3_leaveInTrace wsX3_leaveInTrace) := goodIn_app (goodIn_of _ (by decide +kernel)) ggX3_tellUrn_X3_leaveInTrace
set_option maxRecDepth 20000 in
theorem ggX3_tellUrn_X3_tellLamp : GoodIn wsX3_tellUrn wsX3_tellLamp := goodIn_r _ [10, 11, 12, 1, 2, 3, 4, 5, 6, 13, 14, 15, 16, 17, 18, 19, 20, 21, 22, 23, 24, 25, 26, 27, 28, 29, 30, 31, 32, 33, 34] (by decide +kernel) (by decide +kernel)
set_option maxRecDepth 20000 in
theorem gX3_tellUrn_X3_tellLamp : GoodIn wsX3_tellUrn (wsV RX3 211 RX3 yX3_tellLamp wsX3_tellLamp) := goodIn_app (goodIn_of _ (by decide +kernel)) ggX3_tellUrn_X3_tellLamp
set_option maxHeartbeats 4000000 in
set_option maxRecDepth 100000 in
theorem kX3_tellUrn (l : Launch) (dC : Nat → ClassId) (dI : Nat → Nat → Nat) (a r0 r1 : Nat) (tr fl : Int32) (cI : ClassId) (q n : Nat → Nat) (A : Nat → Nat → Nat) (X : Nat → Nat → Int32) (hW : WF n A) (hR : RG n A X) (t : Nat) (sz : Nat) (ht : t < n 3) : Met l yX3_tellUrn wsX3_tellUrn ({ frames := 2, cells := 0, slots := 0, locals := 42 }) (rwP [.ref a, .int (nI t)] sz (dC, dI) [(cI, .int)] ((a, .inr (3, [.ref r0, .ref r1, .ref (q 0), .int tr, .int fl])) :: wG cI q n X)) (rwQi (nI (A 4 t + 100)) (dC, dI) ((a, .inr (3, [.ref r0, .ref r1, .ref (q 0), .int tr, .int fl])) :: wG cI q n X) ((a, .inr (3, [.ref r0, .ref r1, .ref (q 0), .int (trc (trc tr 2) 1), .int fl])) :: wG cI q n X) sz) 0 0 (va_A ((a, .inr (3, [.ref r0, .ref r1, .ref (q 0), .int tr, .int fl])) :: wG cI q n X) sz) := by
  refine rw_met_i (by decide) rfl (Nat.le_of_ble_eq_true rfl) ?_
  intro pp ee ss mm aa bb me cd RR QQ Z hx hb hml hown hts hRf hRl hP hK hD hA hS hend ls hl
  have hown : ss.vm.findClass RX3 = some mm.cls := hown
  have hRf : 2 ≤ RR.frames := hRf
  have hRl : 42 ≤ RR.locals := hRl
  have hl : lv_has ls 2 [(0, .ref a), (1, .int (nI t))] := hl
  obtain ⟨w0, w1, w2, w3, w4, w5, w6, w7, w8, wA0, wA1, wA2⟩ := id hW
  have wC : n 0 * n 1 ≤ 42 := Nat.mul_le_mul w0 w1
  refine lv_aload_n hx hb dX3_tellUrn_0 rfl (lv_at hl 0 rfl) ?_
  refine lv_iconst (v := nI 2) hx hb dX3_tellUrn_1 rfl ?_
  refine rwW_v (As := [.int (nI 2)]) (rest := []) (wn := (a, .inr (3, [.ref r0, .ref r1, .ref (q 0), .int (trc tr 2), .int fl])) :: wG cI q n X) ⟨hx, hb, hml, hown, hts⟩ (kX3_leaveInTrace l dC dI a r0 r1 (q 0) tr fl 2 _) (cwV 1 hts gX3_tellUrn_X3_leaveInTrace rfl rfl rfl hdX3_leaveInTrace ⟨Nat.le_trans (Nat.le_of_ble_eq_true rfl) hRf, Nat.le_trans (Nat.le_of_ble_eq_true rfl) hRl⟩) (va_recv hK hP (ci := 3) (q0 := 0) rfl rfl) (hK.sub [] rfl) rfl hl.1 rfl (Nat.le_of_ble_eq_true rfl) dX3_tellUrn_2 ⟨Nat.zero_le _, Nat.zero_le _⟩ hP hD hS hA [0] [1, 2, 3, 4, 5, 6, 7, 8, 9] [9, 0, 1, 2, 3, 4, 5, 6, 7, 8] rfl rfl (by decide) (by decide) (by decide) rfl rfl (fun H locs hP hS => ?_)
  have hD : va_D Z ((a, .inr (3, [.ref r0, .ref r1, .ref (q 0), .int (trc tr 2), .int fl])) :: wG cI q n X) := hD.same rfl
  refine lv_aload_n hx hb dX3_tellUrn_5 rfl (lv_at hl 0 rfl) ?_
  refine lv_iload_n hx hb dX3_tellUrn_6 rfl (lv_at hl 1 rfl) ?_
  refine rwW_i (As := [.int (nI t)]) (rest := []) (wn := (a, .inr (3, [.ref r0, .ref r1, .ref (q 0), .int (trc (trc tr 2) 1), .int fl])) :: wG cI q n X) ⟨hx, hb, hml, hown, hts⟩ (kX3_tellLamp l dC dI a r0 r1 (trc tr 2) fl cI q n A X hW hR t _ (by omega)) (cwV 1 hts gX3_tellUrn_X3_tellLamp rfl rfl rfl hdX3_tellLamp ⟨Nat.le_trans (Nat.le_of_ble_eq_true rfl) hRf, Nat.le_trans (Nat.le_of_ble_eq_true rfl) hRl⟩) (va_recv hK hP (ci := 3) (q0 := 0) rfl rfl) hK rfl hl.1 rfl (Nat.le_of_ble_eq_true rfl) dX3_tellUrn_7 ⟨Nat.zero_le _, Nat.zero_le _⟩ hP hD hS hA [0, 1, 2, 3, 4, 5, 6, 7, 8, 9] [] [0, 1, 2, 3, 4, 5, 6, 7, 8, 9] rfl rfl (by decide) (by decide) (by decide) rfl rfl (fun H locs hP hS => ?_)
  have hD : va_D Z ((a, .inr (3, [.ref r0, .ref r1, .ref (q 0), .int (trc (trc tr 2) 1), .int fl])) :: wG cI q n X) := hD.same rfl
  refine lv_bipush (v := nI 100) hx hb dX3_tellUrn_10 rfl ?_
  refine x_iadd hx hb dX3_tellUrn_12 ?_
  exact hend _ _ _ _ _ _ rfl rfl hP hS dX3_tellUrn_13
