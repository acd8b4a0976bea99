set_option maxHeartbeats 4000000 in
set_option maxRecDepth 100000 in
theorem kX4_refused (l : Launch) (dC : Nat → ClassId) (dI : Nat → Nat → Nat) (cI cZ : ClassId) (q n : Nat → Nat) (mb : Int32) (f : Nat → Int32) (Y : Nat → Nat → Int32) (w : Int32) (sz : Nat) : Met l yX4_refused wsX4_refused ({ frames := 0, cells := 0, slots := 0, locals := 0 }) (rwP [.ref (q 0), .int w] sz (dC, dI) [(cI, .int), (cZ, .boolean)] (wM cI cZ q n mb f Y)) (rwQi w (dC, dI) (wM cI cZ q n mb f Y) (wM cI cZ q n mb (uF f 0 0) Y) sz) 0 0 (va_A (wM cI cZ q n mb f Y) sz) := by
  refine rw_met_i (by decide) rfl (Nat.le_of_ble_eq_true rfl) ?_
  intro pp ee ss mm aa bb me cd RR QQ Z hx hb hml hown hts hRf hRl hP hK hD hA hS hend ls hl
  have hown : ss.vm.findClass RX4 = some mm.cls := hown
  have hRf : 0 ≤ RR.frames := hRf
  have hRl : 0 ≤ RR.locals := hRl
  have hl : lv_has ls 2 [(0, .ref (q 0)), (1, .int w)] := hl
  have hf65 := hts (.fieldLink RX4 65 "StatueSquareModel" "fault" "I") (List.mem_of_getElem? (i := 1) rfl)
  have hinX4 : ∀ w ∈ u_ws RX4 TX4 31, w ∈ wsX4_refused := fun _ h => List.mem_cons_of_mem _ (List.mem_append_right _ h)
  refine lv_aload_n hx hb dX4_refused_0 rfl (lv_at hl 0 rfl) ?_
  refine lv_iconst (v := nI 0) hx hb dX4_refused_1 rfl ?_
  refine x_put (D := (dC, dI)) (ci := 4) (v := .int (nI 0)) (C := RX4) (T := TX4) (N := 31) (wn := wM cI cZ q n mb (uF f 0 (nI 0)) Y) hx hb hts hinX4 tyX4 tyX4_ok nmX4 hown hK hP hD hS 0 rfl rfl 0 (Nat.le_of_ble_eq_true rfl) hf65 rfl rfl rfl rfl (Nat.le_of_ble_eq_true rfl) rfl dX4_refused_2 (fun H locs hP hS => ?_)
  have hD : va_D Z (wM cI cZ q n mb (uF f 0 (nI 0)) Y) := hD.same rfl
  refine lv_iload_n hx hb dX4_refused_5 rfl (lv_at hl 1 rfl) ?_
  exact hend _ _ _ _ _ _ rfl rfl hP hS dX4_refused_6
set_option maxHeartbeats 4000000 in
set_option maxRecDepth 100000 in
theorem kX4_failed (l : Launch) (dC : Nat → ClassId) (dI : Nat → Nat → Nat) (cI cZ : ClassId) (q n : Nat → Nat) (mb : Int32) (f : Nat → Int32) (Y : Nat → Nat → Int32) (w : Nat) (sz : Nat) : Met l yX4_failed wsX4_failed ({ frames := 0, cells := 0, slots := 0, locals := 0 }) (rwP [.ref (q 0), .int (nI w)] sz (dC, dI) [(cI, .int), (cZ, .boolean)] (wM cI cZ q n mb f Y)) (rwQi (-10 - nI w) (dC, dI) (wM cI cZ q n mb f Y) (wM cI cZ q n mb (uF f 0 (nI w)) Y) sz) 0 0 (va_A (wM cI cZ q n mb f Y) sz) := by
  refine rw_met_i (by decide) rfl (Nat.le_of_ble_eq_true rfl) ?_
  intro pp ee ss mm aa bb me cd RR QQ Z hx hb hml hown hts hRf hRl hP hK hD hA hS hend ls hl
  have hown : ss.vm.findClass RX4 = some mm.cls := hown
  have hRf : 0 ≤ RR.frames := hRf
  have hRl : 0 ≤ RR.locals := hRl
  have hl : lv_has ls 2 [(0, .ref (q 0)), (1, .int (nI w))] := hl
  have hf65 := hts (.fieldLink RX4 65 "StatueSquareModel" "fault" "I") (List.mem_of_getElem? (i := 1) rfl)
  have hinX4 : ∀ w ∈ u_ws RX4 TX4 31, w ∈ wsX4_failed := fun _ h => List.mem_cons_of_mem _ (List.mem_append_right _ h)
  refine lv_aload_n hx hb dX4_failed_0 rfl (lv_at hl 0 rfl) ?_
  refine lv_iload_n hx hb dX4_failed_1 rfl (lv_at hl 1 rfl) ?_
  refine x_put (D := (dC, dI)) (ci := 4) (v := .int (nI w)) (C := RX4) (T := TX4) (N := 31) (wn := wM cI cZ q n mb (uF f 0 (nI w)) Y) hx hb hts hinX4 tyX4 tyX4_ok nmX4 hown hK hP hD hS 0 rfl rfl 0 (Nat.le_of_ble_eq_true rfl) hf65 rfl rfl rfl rfl (Nat.le_of_ble_eq_true rfl) rfl dX4_failed_2 (fun H locs hP hS => ?_)
  have hD : va_D Z (wM cI cZ q n mb (uF f 0 (nI w)) Y) := hD.same rfl
  refine lv_bipush (v := -10) hx hb dX4_failed_5 rfl ?_
  refine lv_iload_n hx hb dX4_failed_7 rfl (lv_at hl 1 rfl) ?_
  refine lv_isub hx hb dX4_failed_8 ?_
  exact hend _ _ _ _ _ _ rfl rfl hP hS dX4_failed_9
set_option maxRecDepth 20000 in
theorem ggX4_failedLong_X4_lost : GoodIn wsX4_failedLong wsX4_lost := goodIn_r _ [5, 6] (by decide +kernel) (by decide +kernel)
set_option maxRecDepth 20000 in
theorem gX4_failedLong_X4_lost : GoodIn wsX4_failedLong (va_wsS RX4 68 yX4_lost wsX4_lost) := goodIn_app (goodIn_of _ (by decide +kernel)) ggX4_failedLong_X4_lost
set_option maxHeartbeats 4000000 in
set_option maxRecDepth 100000 in
theorem kX4_failedLong (l : Launch) (dC : Nat → ClassId) (dI : Nat → Nat → Nat) (cI cZ : ClassId) (q n : Nat → Nat) (mb : Int32) (f : Nat → Int32) (Y : Nat → Nat → Int32) (w : Nat) (sz : Nat) : Met l yX4_failedLong wsX4_failedLong ({ frames := 1, cells := 0, slots := 0, locals := 19 }) (rwP [.ref (q 0), .int (nI w)] sz (dC, dI) [(cI, .int), (cZ, .boolean)] (wM cI cZ q n mb f Y)) (rwQl LOSTv (dC, dI) (wM cI cZ q n mb f Y) (wM cI cZ q n mb (uF f 0 (nI w)) Y) sz) 0 0 (va_A (wM cI cZ q n mb f Y) sz) := by
  refine rw_met_l (by decide) rfl (Nat.le_of_ble_eq_true rfl) ?_
  intro pp ee ss mm aa bb me cd RR QQ Z hx hb hml hown hts hRf hRl hP hK hD hA hS hend ls hl
  have hown : ss.vm.findClass RX4 = some mm.cls := hown
  have hRf : 1 ≤ RR.frames := hRf
  have hRl : 19 ≤ RR.locals := hRl
  have hl : lv_has ls 2 [(0, .ref (q 0)), (1, .int (nI w))] := hl
  have hf65 := hts (.fieldLink RX4 65 "StatueSquareModel" "fault" "I") (List.mem_of_getElem? (i := 1) rfl)
  have hinX4 : ∀ w ∈ u_ws RX4 TX4 31, w ∈ wsX4_failedLong := fun _ h => List.mem_cons_of_mem _ (List.mem_append_right _ h)
  refine lv_aload_n hx hb dX4_failedLong_0 rfl (lv_at hl 0 rfl) ?_
  refine lv_iload_n hx hb dX4_failedLong_1 rfl (lv_at hl 1 rfl) ?_
  refine x_put (D := (dC, dI)) (ci := 4) (v := .int (nI w)) (C := RX4) (T := TX4) (N := 31) (wn := wM cI cZ q n mb (uF f 0 (nI w)) Y) hx hb hts hinX4 tyX4 tyX4_ok nmX4 hown hK hP hD hS 0 rfl rfl 0 (Nat.le_of_ble_eq_true rfl) hf65 rfl rfl rfl rfl (Nat.le_of_ble_eq_true rfl) rfl dX4_failedLong_2 (fun H locs hP hS => ?_)
  have hD : va_D Z (wM cI cZ q n mb (uF f 0 (nI w)) Y) := hD.same rfl
  refine roS_l (As := []) (rest := []) ⟨hx, hb, hml, hown, hts⟩ (kX4_lost l dC dI  _ ) (va_cwS 0 hts gX4_failedLong_X4_lost rfl rfl rfl hdX4_lost ⟨Nat.le_trans (Nat.le_of_ble_eq_true rfl) hRf, Nat.le_trans (Nat.le_of_ble_eq_true rfl) hRl⟩) (hK.sub [] rfl) (hP.sub [] rfl) rfl hl.1 rfl (Nat.le_of_ble_eq_true rfl) dX4_failedLong_5 ⟨Nat.zero_le _, Nat.zero_le _⟩ hP hS hA (fun H locs hP hS => ?_)
  exact hend _ _ _ _ _ _ rfl rfl hP hS dX4_failedLong_8
set_option maxHeartbeats 4000000 in
set_option maxRecDepth 100000 in
theorem kX4_traced (l : Launch) (dC : Nat → ClassId) (dI : Nat → Nat → Nat) (cI cZ : ClassId) (q n : Nat → Nat) (mb : Int32) (f : Nat → Int32) (Y : Nat → Nat → Int32) (w : Nat) (sz : Nat) : Met l yX4_traced wsX4_traced ({ frames := 0, cells := 0, slots := 0, locals := 0 }) (rwP [.ref (q 0), .int (nI w)] sz (dC, dI) [(cI, .int), (cZ, .boolean)] (wM cI cZ q n mb f Y)) (rwQv (dC, dI) (wM cI cZ q n mb f Y) (wM cI cZ q n mb (uF f 30 (trc (f 30) w)) Y) sz) 0 0 (va_A (wM cI cZ q n mb f Y) sz) := by
  refine rw_met_v (by decide) rfl (Nat.le_of_ble_eq_true rfl) ?_
  intro pp ee ss mm aa bb me cd RR QQ Z hx hb hml hown hts hRf hRl hP hK hD hA hS hend ls hl
  have hown : ss.vm.findClass RX4 = some mm.cls := hown
  have hRf : 0 ≤ RR.frames := hRf
  have hRl : 0 ≤ RR.locals := hRl
  have hl : lv_has ls 2 [(0, .ref (q 0)), (1, .int (nI w))] := hl
  have hf208 := hts (.fieldLink RX4 208 "StatueSquareModel" "traceNow" "I") (List.mem_of_getElem? (i := 1) rfl)
  have hinX4 : ∀ w ∈ u_ws RX4 TX4 31, w ∈ wsX4_traced := fun _ h => List.mem_cons_of_mem _ (List.mem_append_right _ h)
  refine lv_aload_n hx hb dX4_traced_0 rfl (lv_at hl 0 rfl) ?_
  refine lv_bipush (v := nI 31) hx hb dX4_traced_1 rfl ?_
  refine lv_aload_n hx hb dX4_traced_3 rfl (lv_at hl 0 rfl) ?_
  refine x_get (D := (dC, dI)) (ci := 4) (v := .int (f 30)) (C := RX4) (T := TX4) (N := 31) hx hb hts hinX4 hown hK hP 0 rfl rfl 30 (Nat.le_of_ble_eq_true rfl) hf208 rfl rfl dX4_traced_4 ?_
  refine lv_imul hx hb dX4_traced_7 ?_
  refine lv_iload_n hx hb dX4_traced_8 rfl (lv_at hl 1 rfl) ?_
  refine lv_iadd hx hb dX4_traced_9 ?_
  refine x_put (D := (dC, dI)) (ci := 4) (v := .int (((nI 31) * (f 30)) + (nI w))) (C := RX4) (T := TX4) (N := 31) (wn := wM cI cZ q n mb (uF f 30 (((nI 31) * (f 30)) + (nI w))) Y) hx hb hts hinX4 tyX4 tyX4_ok nmX4 hown hK hP hD hS 0 rfl rfl 30 (Nat.le_of_ble_eq_true rfl) hf208 rfl rfl rfl rfl (Nat.le_of_ble_eq_true rfl) rfl dX4_traced_10 (fun H locs hP hS => ?_)
  have hD : va_D Z (wM cI cZ q n mb (uF f 30 (((nI 31) * (f 30)) + (nI w))) Y) := hD.same rfl
  exact hend _ _ _ _ _ (by rw [trc_eq]) hP hS dX4_traced_13
set_option maxRecDepth 20000 in
theorem ggX4_year_X4_in : GoodIn wsX4_year wsX4_in := goodIn_r _ [8] (by decide +kernel) (by decide +kernel)
set_option maxRecDepth 20000 in
theorem gX4_year_X4_in : GoodIn wsX4_year (va_wsS RX4 82 yX4_in wsX4_in) := goodIn_app (goodIn_of _ (by decide +kernel)) ggX4_year_X4_in
set_option maxHeartbeats 4000000 in
set_option maxRecDepth 100000 in
theorem kX4_year (l : Launch) (dC : Nat → ClassId) (dI : Nat → Nat → Nat) (cI cZ : ClassId) (q n : Nat → Nat) (mb : Int32) (f : Nat → Int32) (A : Nat → Nat → Nat) (Y : Nat → Nat → Int32) (hW : WF n A) (hR : RM n A Y) (hmb : 0 < n 6 → mb = nI (n 7)) (y : Int32) (w : Bool) (sz : Nat) (hn01 : 0 < n 0 → 0 < n 1) : Met l yX4_year wsX4_year ({ frames := 1, cells := 0, slots := 0, locals := 25 }) (rwP [.ref (q 0), .int y, .int (bI w)] sz (dC, dI) [(cI, .int), (cZ, .boolean)] (wM cI cZ q n mb f Y)) (rwQi (uYear n y) (dC, dI) (wM cI cZ q n mb f Y) (wM cI cZ q (vYear n y w) mb f Y) sz) 0 0 (va_A (wM cI cZ q n mb f Y) sz) := by
  refine rw_met_i (by decide) rfl (Nat.le_of_ble_eq_true rfl) ?_
  intro pp ee ss mm aa bb me cd RR QQ Z hx hb hml hown hts hRf hRl hP hK hD hA hS hend ls hl
  have hown : ss.vm.findClass RX4 = some mm.cls := hown
  have hRf : 1 ≤ RR.frames := hRf
  have hRl : 25 ≤ RR.locals := hRl
  have hl : lv_has ls 4 [(0, .ref (q 0)), (1, .int y), (2, .int (bI w))] := hl
  obtain ⟨w0, w1, w2, w3, w4, w5, w6, w7, w8, wA0, wA1, wA2⟩ := id hW
  have wC : n 0 * n 1 ≤ 42 := Nat.mul_le_mul w0 w1
  have hk159 := hts (.constantLong RX4 159 (30)) (List.mem_of_getElem? (i := 1) rfl)
  have hf72 := hts (.fieldLink RX4 72 "StatueSquareModel" "high" "I") (List.mem_of_getElem? (i := 2) rfl)
  have hinX4 : ∀ w ∈ u_ws RX4 TX4 31, w ∈ wsX4_year := fun _ h => List.mem_cons_of_mem _ (List.mem_append_right _ h)
  have hf140 := hts (.fieldLink RX4 140 "StatueSquareModel" "yearNow" "I") (List.mem_of_getElem? (i := 3) rfl)
  have hf143 := hts (.fieldLink RX4 143 "StatueSquareModel" "isWinter" "Z") (List.mem_of_getElem? (i := 4) rfl)
  refine lv_iload_n hx hb dX4_year_0 rfl (lv_at hl 1 rfl) ?_
  refine lv_i2l hx hb dX4_year_1 rfl ?_
  refine lv_lconst (v := 0) hx hb dX4_year_2 rfl ?_
  refine lv_ldc2 hx hb hown hk159 dX4_year_3 ?_
  refine roS_i (As := [.long y.toInt64, .long 0, .long 30]) (rest := []) ⟨hx, hb, hml, hown, hts⟩ (kX4_in l dC dI y.toInt64 0 30 _ ) (va_cwS 3 hts gX4_year_X4_in rfl rfl rfl hdX4_in ⟨Nat.le_trans (Nat.le_of_ble_eq_true rfl) hRf, Nat.le_trans (Nat.le_of_ble_eq_true rfl) hRl⟩) (hK.sub [] rfl) (hP.sub [] rfl) rfl hl.1 rfl (Nat.le_of_ble_eq_true rfl) dX4_year_6 ⟨Nat.zero_le _, Nat.zero_le _⟩ hP hS hA (fun H locs hP hS => ?_)
  refine x_top (y := bI (inB y 31)) (congrArg bI (inL_c (by omega) rfl)) ?_
  refine x_ifb_ne (tgt := 15) hx hb dX4_year_9 (by decide) (fun c9 => ?_) (fun c9 => ?_)
  · skip
    obtain ⟨j, hj, rfl⟩ := inB_t (by omega) c9
    have hxj : xn (nI j) = j := xn_nI (by omega)
    refine lv_aload_n hx hb dX4_year_15 rfl (lv_at hl 0 rfl) ?_
    refine x_get (D := (dC, dI)) (ci := 4) (v := .int (nI (n 0))) (C := RX4) (T := TX4) (N := 31) hx hb hts hinX4 hown hK hP 0 rfl rfl 1 (Nat.le_of_ble_eq_true rfl) hf72 rfl rfl dX4_year_16 ?_
    refine x_if_ne (tgt := 25) hx hb (by omega) dX4_year_19 (by decide) (fun c19 => ?_) (fun c19 => ?_)
    · skip
      have hla : 0 < n 0 * n 1 := Nat.mul_pos (by omega) (hn01 (by omega))
      refine lv_aload_n hx hb dX4_year_25 rfl (lv_at hl 0 rfl) ?_
      refine x_get (D := (dC, dI)) (ci := 4) (v := .int (nI (n 4))) (C := RX4) (T := TX4) (N := 31) hx hb hts hinX4 hown hK hP 0 rfl rfl 12 (Nat.le_of_ble_eq_true rfl) hf140 rfl rfl dX4_year_26 ?_
      refine lv_istore_n (lv' := [(3, .int (nI (n 4))), (0, .ref (q 0)), (1, .int (nI j)), (2, .int (bI w))]) hx hb dX4_year_29 rfl hl (by decide) rfl (fun ls hl => ?_)
      refine lv_aload_n hx hb dX4_year_30 rfl (lv_at hl 1 rfl) ?_
      refine lv_iload_n hx hb dX4_year_31 rfl (lv_at hl 2 rfl) ?_
      refine x_put (D := (dC, dI)) (ci := 4) (v := .int (nI j)) (C := RX4) (T := TX4) (N := 31) (wn := wM cI cZ q (uN n 4 j) mb f Y) hx hb hts hinX4 tyX4 tyX4_ok nmX4 hown hK hP hD hS 0 rfl rfl 12 (Nat.le_of_ble_eq_true rfl) hf140 rfl rfl rfl rfl (Nat.le_of_ble_eq_true rfl) rfl dX4_year_32 (fun H locs hP hS => ?_)
      have hD : va_D Z (wM cI cZ q (uN n 4 j) mb f Y) := hD.same rfl
      refine lv_aload_n hx hb dX4_year_35 rfl (lv_at hl 1 rfl) ?_
      refine lv_iload_n hx hb dX4_year_36 rfl (lv_at hl 3 rfl) ?_
      refine x_top (y := nI (bN w)) (bI_bN _) ?_
      refine x_put (D := (dC, dI)) (ci := 4) (v := .int (nI (bN w))) (C := RX4) (T := TX4) (N := 31) (wn := wM cI cZ q (uN (uN n 4 j) 5 (bN w)) mb f Y) hx hb hts hinX4 tyX4 tyX4_ok nmX4 hown hK hP hD hS 0 rfl rfl 13 (Nat.le_of_ble_eq_true rfl) hf143 rfl rfl (bN_nar _) (bN_fit _) (Nat.le_of_ble_eq_true rfl) rfl dX4_year_37 (fun H locs hP hS => ?_)
      have hD : va_D Z (wM cI cZ q (uN (uN n 4 j) 5 (bN w)) mb f Y) := hD.same rfl
      refine lv_iload_n hx hb dX4_year_40 rfl (lv_at hl 0 rfl) ?_
      exact hend _ _ _ _ _ _ (by simp [uYear, inB02, c9, hla] <;> rfl) (by rw [vYear, if_pos ⟨c9, hla⟩, hxj]) hP hS dX4_year_41
    · skip
      have hla : ¬ 0 < n 0 * n 1 := by rw [c19]; omega
      refine lv_bipush (v := -3) hx hb dX4_year_22 rfl ?_
      exact hend _ _ _ _ _ _ (by simp [uYear, inB02, c9, hla] <;> rfl) (by simp [vYear, inB02, c9, hla] <;> rfl) hP hS dX4_year_24
  · skip
    refine lv_bipush (v := -2) hx hb dX4_year_12 rfl ?_
    exact hend _ _ _ _ _ _ (by simp [uYear, inB02, c9] <;> rfl) (by simp [vYear, inB02, c9] <;> rfl) hP hS dX4_year_14
set_option maxRecDepth 20000 in
theorem ggX4_cut_X4_noThing : GoodIn wsX4_cut wsX4_noThing := goodIn_r _ [6, 7, 8, 9, 5, 10, 11, 12, 13, 14, 15, 16, 17, 18, 19, 20, 21, 22, 23, 24, 25, 26, 27, 28, 29, 30, 31, 32, 33, 34, 35, 36, 37, 38, 39, 40, 41] (by decide +kernel) (by decide +kernel)
set_option maxRecDepth 20000 in
theorem gX4_cut_X4_noThing : GoodIn wsX4_cut (wsV RX4 150 RX4 yX4_noThing wsX4_noThing) := goodIn_app (goodIn_of _ (by decide +kernel)) ggX4_cut_X4_noThing
set_option maxHeartbeats 4000000 in
set_option maxRecDepth 100000 in
theorem kX4_cut (l : Launch) (dC : Nat → ClassId) (dI : Nat → Nat → Nat) (cI cZ : ClassId) (q n : Nat → Nat) (mb : Int32) (f : Nat → Int32) (A : Nat → Nat → Nat) (Y : Nat → Nat → Int32) (hW : WF n A) (hR : RM n A Y) (hmb : 0 < n 6 → mb = nI (n 7)) (t : Int32) (is : Bool) (sz : Nat) : Met l yX4_cut wsX4_cut ({ frames := 2, cells := 0, slots := 0, locals := 46 }) (rwP [.ref (q 0), .int t, .int (bI is)] sz (dC, dI) [(cI, .int), (cZ, .boolean)] (wM cI cZ q n mb f Y)) (rwQi (uCut n t is) (dC, dI) (wM cI cZ q n mb f Y) (wM cI cZ q n mb f (if inB t (n 3) = true then uX Y 5 (xn t) (bI is) else Y)) sz) 0 0 (va_A (wM cI cZ q n mb f Y) sz) := by
  refine rw_met_i (by decide) rfl (Nat.le_of_ble_eq_true rfl) ?_
  intro pp ee ss mm aa bb me cd RR QQ Z hx hb hml hown hts hRf hRl hP hK hD hA hS hend ls hl
  have hown : ss.vm.findClass RX4 = some mm.cls := hown
  have hRf : 2 ≤ RR.frames := hRf
  have hRl : 46 ≤ RR.locals := hRl
  have hl : lv_has ls 4 [(0, .ref (q 0)), (1, .int t), (2, .int (bI is))] := hl
  obtain ⟨w0, w1, w2, w3, w4, w5, w6, w7, w8, wA0, wA1, wA2⟩ := id hW
  have wC : n 0 * n 1 ≤ 42 := Nat.mul_le_mul w0 w1
  have hf25 := hts (.fieldLink RX4 25 "StatueSquareModel" "isCut" "[Z") (List.mem_of_getElem? (i := 1) rfl)
  have hinX4 : ∀ w ∈ u_ws RX4 TX4 31, w ∈ wsX4_cut := fun _ h => List.mem_cons_of_mem _ (List.mem_append_right _ h)
  refine lv_aload_n hx hb dX4_cut_0 rfl (lv_at hl 0 rfl) ?_
  refine lv_iload_n hx hb dX4_cut_1 rfl (lv_at hl 1 rfl) ?_
  refine roV_i (As := [.int t]) (rest := []) ⟨hx, hb, hml, hown, hts⟩ (kX4_noThing l dC dI cI cZ q n mb f A Y hW hR hmb t _ ) (cwV 1 hts gX4_cut_X4_noThing rfl rfl rfl hdX4_noThing ⟨Nat.le_trans (Nat.le_of_ble_eq_true rfl) hRf, Nat.le_trans (Nat.le_of_ble_eq_true rfl) hRl⟩) (va_recv hK hP (ci := 4) (q0 := 0) rfl rfl) hK hP rfl hl.1 rfl (Nat.le_of_ble_eq_true rfl) dX4_cut_2 ⟨Nat.zero_le _, Nat.zero_le _⟩ hP hS hA (fun H locs hP hS => ?_)
  refine x_ifb_eq (tgt := 10) hx hb dX4_cut_5 (by decide) (fun c5 => ?_) (fun c5 => ?_)
  · skip
    have c5 : inB t (n 3) = true := by simpa using c5
    obtain ⟨j, hj, rfl⟩ := inB_t (by omega) c5
    have hxj : xn (nI j) = j := xn_nI (by omega)
    refine lv_aload_n hx hb dX4_cut_10 rfl (lv_at hl 0 rfl) ?_
    refine x_get (D := (dC, dI)) (ci := 4) (v := .ref (q 6)) (C := RX4) (T := TX4) (N := 31) hx hb hts hinX4 hown hK hP 0 rfl rfl 10 (Nat.le_of_ble_eq_true rfl) hf25 rfl rfl dX4_cut_11 ?_
    refine lv_iload_n hx hb dX4_cut_14 rfl (lv_at hl 1 rfl) ?_
    refine x_zald (v := (bI ((n 8).testBit j))) hx hb hK hP 6 1 rfl rfl (by omega) (by decide) (hR.2.2 _ (by omega)).2.2.2.1 dX4_cut_15 ?_
    refine lv_istore_n (lv' := [(3, .int (bI ((n 8).testBit j))), (0, .ref (q 0)), (1, .int (nI j)), (2, .int (bI is))]) hx hb dX4_cut_16 rfl hl (by decide) rfl (fun ls hl => ?_)
    refine lv_aload_n hx hb dX4_cut_17 rfl (lv_at hl 1 rfl) ?_
    refine x_get (D := (dC, dI)) (ci := 4) (v := .ref (q 6)) (C := RX4) (T := TX4) (N := 31) hx hb hts hinX4 hown hK hP 0 rfl rfl 10 (Nat.le_of_ble_eq_true rfl) hf25 rfl rfl dX4_cut_18 ?_
    refine lv_iload_n hx hb dX4_cut_21 rfl (lv_at hl 2 rfl) ?_
    refine lv_iload_n hx hb dX4_cut_22 rfl (lv_at hl 3 rfl) ?_
    refine x_zast (wn := wM cI cZ q n mb f (uX Y 5 j (bI is))) hx hb hK hP hD hS 6 1 rfl rfl (bI_vpnar _) (by omega) (by decide) rfl dX4_cut_23 (fun H locs hP hS => ?_)
    have hD : va_D Z (wM cI cZ q n mb f (uX Y 5 j (bI is))) := hD.same rfl
    refine lv_iload_n hx hb dX4_cut_24 rfl (lv_at hl 0 rfl) ?_
    refine lv_iload_n hx hb dX4_cut_25 rfl (lv_at hl 3 rfl) ?_
    refine lv_icmp_ne (tgt := 33) hx hb dX4_cut_26 (by decide) (fun c26 => ?_) (fun c26 => ?_)
    · skip
      have hbq : ¬ (n 8).testBit j = is := fun q => c26 (by rw [q])
      refine lv_iconst (v := nI 1) hx hb dX4_cut_33 rfl ?_
      exact hend _ _ _ _ _ _ (by simp [uCut, inB02, c5, hxj, hbq] <;> rfl) (by rw [if_pos c5, hxj]) hP hS dX4_cut_34
    · skip
      have hbq := bI_inj c26
      refine lv_iconst (v := nI 0) hx hb dX4_cut_29 rfl ?_
      refine lv_goto (tgt := 34) hx hb dX4_cut_30 (by decide) ?_
      exact hend _ _ _ _ _ _ (by simp [uCut, inB02, c5, hxj, hbq] <;> rfl) (by rw [if_pos c5, hxj]) hP hS dX4_cut_34
  · skip
    have c5 : inB t (n 3) = false := by simpa using c5
    refine lv_iconst (v := -1) hx hb dX4_cut_8 rfl ?_
    exact hend _ _ _ _ _ _ (by simp [uCut, inB02, c5] <;> rfl) (by simp [c5, inB02, ] <;> rfl) hP hS dX4_cut_9
set_option maxRecDepth 20000 in
theorem ggX4_price_X4_noThing : GoodIn wsX4_price wsX4_noThing := goodIn_r _ [7, 8, 9, 10, 6, 11, 12, 13, 14, 15, 16, 17, 18, 19, 20, 21, 22, 23, 24, 25, 26, 27, 28, 29, 30, 31, 32, 33, 34, 35, 36, 37, 38, 39, 40, 41, 42] (by decide +kernel) (by decide +kernel)
set_option maxRecDepth 20000 in
theorem gX4_price_X4_noThing : GoodIn wsX4_price (wsV RX4 150 RX4 yX4_noThing wsX4_noThing) := goodIn_app (goodIn_of _ (by decide +kernel)) ggX4_price_X4_noThing
set_option maxRecDepth 20000 in
theorem ggX4_price_X4_in : GoodIn wsX4_price wsX4_in := goodIn_r _ [11] (by decide +kernel) (by decide +kernel)
set_option maxRecDepth 20000 in
theorem gX4_price_X4_in : GoodIn wsX4_price (va_wsS RX4 82 yX4_in wsX4_in) := goodIn_app (goodIn_of _ (by decide +kernel)) ggX4_price_X4_in
set_option maxHeartbeats 4000000 in
set_option maxRecDepth 100000 in
theorem kX4_price (l : Launch) (dC : Nat → ClassId) (dI : Nat → Nat → Nat) (cI cZ : ClassId) (q n : Nat → Nat) (mb : Int32) (f : Nat → Int32) (A : Nat → Nat → Nat) (Y : Nat → Nat → Int32) (hW : WF n A) (hR : RM n A Y) (hmb : 0 < n 6 → mb = nI (n 7)) (t : Int32) (v : Int32) (sz : Nat) : Met l yX4_price wsX4_price ({ frames := 2, cells := 0, slots := 0, locals := 46 }) (rwP [.ref (q 0), .int t, .int v] sz (dC, dI) [(cI, .int), (cZ, .boolean)] (wM cI cZ q n mb f Y)) (rwQi (uPrice n A t v) (dC, dI) (wM cI cZ q n mb f Y) (wM cI cZ q n mb f (if okPrice n t v = true then uX Y 6 (xn t) v else Y)) sz) 0 0 (va_A (wM cI cZ q n mb f Y) sz) := by
  refine rw_met_i (by decide) rfl (Nat.le_of_ble_eq_true rfl) ?_
  intro pp ee ss mm aa bb me cd RR QQ Z hx hb hml hown hts hRf hRl hP hK hD hA hS hend ls hl
  have hown : ss.vm.findClass RX4 = some mm.cls := hown
  have hRf : 2 ≤ RR.frames := hRf
  have hRl : 46 ≤ RR.locals := hRl
  have hl : lv_has ls 4 [(0, .ref (q 0)), (1, .int t), (2, .int v)] := hl
  obtain ⟨w0, w1, w2, w3, w4, w5, w6, w7, w8, wA0, wA1, wA2⟩ := id hW
  have wC : n 0 * n 1 ≤ 42 := Nat.mul_le_mul w0 w1
  have hk161 := hts (.constantLong RX4 161 (9)) (List.mem_of_getElem? (i := 1) rfl)
  have hf29 := hts (.fieldLink RX4 29 "StatueSquareModel" "priceOf" "[I") (List.mem_of_getElem? (i := 2) rfl)
  have hinX4 : ∀ w ∈ u_ws RX4 TX4 31, w ∈ wsX4_price := fun _ h => List.mem_cons_of_mem _ (List.mem_append_right _ h)
  refine lv_aload_n hx hb dX4_price_0 rfl (lv_at hl 0 rfl) ?_
  refine lv_iload_n hx hb dX4_price_1 rfl (lv_at hl 1 rfl) ?_
  refine roV_i (As := [.int t]) (rest := []) ⟨hx, hb, hml, hown, hts⟩ (kX4_noThing l dC dI cI cZ q n mb f A Y hW hR hmb t _ ) (cwV 1 hts gX4_price_X4_noThing rfl rfl rfl hdX4_noThing ⟨Nat.le_trans (Nat.le_of_ble_eq_true rfl) hRf, Nat.le_trans (Nat.le_of_ble_eq_true rfl) hRl⟩) (va_recv hK hP (ci := 4) (q0 := 0) rfl rfl) hK hP rfl hl.1 rfl (Nat.le_of_ble_eq_true rfl) dX4_price_2 ⟨Nat.zero_le _, Nat.zero_le _⟩ hP hS hA (fun H locs hP hS => ?_)
  refine x_ifb_eq (tgt := 10) hx hb dX4_price_5 (by decide) (fun c5 => ?_) (fun c5 => ?_)
  · skip
    have c5 : inB t (n 3) = true := by simpa using c5
    obtain ⟨j, hj, rfl⟩ := inB_t (by omega) c5
    have hxj : xn (nI j) = j := xn_nI (by omega)
    refine lv_iload_n hx hb dX4_price_10 rfl (lv_at hl 2 rfl) ?_
    refine lv_i2l hx hb dX4_price_11 rfl ?_
    refine lv_lconst (v := 1) hx hb dX4_price_12 rfl ?_
    refine lv_ldc2 hx hb hown hk161 dX4_price_13 ?_
    refine roS_i (As := [.long v.toInt64, .long 1, .long 9]) (rest := []) ⟨hx, hb, hml, hown, hts⟩ (kX4_in l dC dI v.toInt64 1 9 _ ) (va_cwS 3 hts gX4_price_X4_in rfl rfl rfl hdX4_in ⟨Nat.le_trans (Nat.le_of_ble_eq_true rfl) hRf, Nat.le_trans (Nat.le_of_ble_eq_true rfl) hRl⟩) (hK.sub [] rfl) (hP.sub [] rfl) rfl hl.1 rfl (Nat.le_of_ble_eq_true rfl) dX4_price_16 ⟨Nat.zero_le _, Nat.zero_le _⟩ hP hS hA (fun H locs hP hS => ?_)
    refine x_top (y := bI (in19 v)) (congrArg bI (inL_19 v)) ?_
    refine x_ifb_ne (tgt := 25) hx hb dX4_price_19 (by decide) (fun c19 => ?_) (fun c19 => ?_)
    · skip
      refine lv_aload_n hx hb dX4_price_25 rfl (lv_at hl 0 rfl) ?_
      refine x_get (D := (dC, dI)) (ci := 4) (v := .ref (q 7)) (C := RX4) (T := TX4) (N := 31) hx hb hts hinX4 hown hK hP 0 rfl rfl 11 (Nat.le_of_ble_eq_true rfl) hf29 rfl rfl dX4_price_26 ?_
      refine lv_iload_n hx hb dX4_price_29 rfl (lv_at hl 1 rfl) ?_
      refine x_iald (v := (nI (A 5 j))) hx hb hK hP 7 0 rfl rfl (by omega) (by decide) (hR.2.2 _ (by omega)).2.2.2.2 dX4_price_30 ?_
      refine lv_istore_n (lv' := [(3, .int (nI (A 5 j))), (0, .ref (q 0)), (1, .int (nI j)), (2, .int v)]) hx hb dX4_price_31 rfl hl (by decide) rfl (fun ls hl => ?_)
      refine lv_aload_n hx hb dX4_price_32 rfl (lv_at hl 1 rfl) ?_
      refine x_get (D := (dC, dI)) (ci := 4) (v := .ref (q 7)) (C := RX4) (T := TX4) (N := 31) hx hb hts hinX4 hown hK hP 0 rfl rfl 11 (Nat.le_of_ble_eq_true rfl) hf29 rfl rfl dX4_price_33 ?_
      refine lv_iload_n hx hb dX4_price_36 rfl (lv_at hl 2 rfl) ?_
      refine lv_iload_n hx hb dX4_price_37 rfl (lv_at hl 3 rfl) ?_
      refine x_iast (wn := wM cI cZ q n mb f (uX Y 6 j v)) hx hb hK hP hD hS 7 0 rfl rfl (by omega) (by decide) rfl dX4_price_38 (fun H locs hP hS => ?_)
      have hD : va_D Z (wM cI cZ q n mb f (uX Y 6 j v)) := hD.same rfl
      refine lv_iload_n hx hb dX4_price_39 rfl (lv_at hl 0 rfl) ?_
      exact hend _ _ _ _ _ _ (by simp [uPrice, inB02, c5, c19, hxj] <;> rfl) (by rw [if_pos (show okPrice n (nI j) v = true from by rw [okPrice, c5, c19]; rfl), hxj]) hP hS dX4_price_40
    · skip
      refine lv_bipush (v := -2) hx hb dX4_price_22 rfl ?_
      exact hend _ _ _ _ _ _ (by simp [uPrice, inB02, c5, c19] <;> rfl) (by simp [okPrice, inB02, c5, c19] <;> rfl) hP hS dX4_price_24
  · skip
    have c5 : inB t (n 3) = false := by simpa using c5
    refine lv_iconst (v := -1) hx hb dX4_price_8 rfl ?_
    exact hend _ _ _ _ _ _ (by simp [uPrice, inB02, c5] <;> rfl) (by simp [okPrice, inB02, c5] <;> rfl) hP hS dX4_price_9
set_option maxRecDepth 20000 in
theorem ggX4_statue_X4_noCell : GoodIn wsX4_statue wsX4_noCell := goodIn_r _ [9, 10, 11, 12, 8, 13, 14, 15, 16, 17, 18, 19, 20, 21, 22, 23, 24, 25, 26, 27, 28, 29, 30, 31, 32, 33, 34, 35, 36, 37, 38, 39, 40, 41, 42, 43, 44, 45, 46, 47, 48, 49] (by decide +kernel) (by decide +kernel)
set_option maxRecDepth 20000 in
theorem gX4_statue_X4_noCell : GoodIn wsX4_statue (wsV RX4 147 RX4 yX4_noCell wsX4_noCell) := goodIn_app (goodIn_of _ (by decide +kernel)) ggX4_statue_X4_noCell
set_option maxRecDepth 20000 in
theorem ggX4_statue_X4_in : GoodIn wsX4_statue wsX4_in := goodIn_r _ [18] (by decide +kernel) (by decide +kernel)
set_option maxRecDepth 20000 in
theorem gX4_statue_X4_in : GoodIn wsX4_statue (va_wsS RX4 82 yX4_in wsX4_in) := goodIn_app (goodIn_of _ (by decide +kernel)) ggX4_statue_X4_in
set_option maxHeartbeats 4000000 in
set_option maxRecDepth 100000 in
theorem kX4_statue (l : Launch) (dC : Nat → ClassId) (dI : Nat → Nat → Nat) (cI cZ : ClassId) (q n : Nat → Nat) (mb : Int32) (f : Nat → Int32) (A : Nat → Nat → Nat) (Y : Nat → Nat → Int32) (hW : WF n A) (hR : RM n A Y) (hmb : 0 < n 6 → mb = nI (n 7)) (c : Int32) (b : Int32) (sz : Nat) : Met l yX4_statue wsX4_statue ({ frames := 2, cells := 0, slots := 0, locals := 46 }) (rwP [.ref (q 0), .int c, .int b] sz (dC, dI) [(cI, .int), (cZ, .boolean)] (wM cI cZ q n mb f Y)) (rwQi (uStatue n A c b) (dC, dI) (wM cI cZ q n mb f Y) (wM cI cZ q (vStaM n A c b) (if inB c (n 0 * n 1) = true ∧ inB b 10 = true ∧ A 0 (xn c) = 0 then b else mb) f Y) sz) 0 0 (va_A (wM cI cZ q n mb f Y) sz) := by
  refine rw_met_i (by decide) rfl (Nat.le_of_ble_eq_true rfl) ?_
  intro pp ee ss mm aa bb me cd RR QQ Z hx hb hml hown hts hRf hRl hP hK hD hA hS hend ls hl
  have hown : ss.vm.findClass RX4 = some mm.cls := hown
  have hRf : 2 ≤ RR.frames := hRf
  have hRl : 46 ≤ RR.locals := hRl
  have hl : lv_has ls 4 [(0, .ref (q 0)), (1, .int c), (2, .int b)] := hl
  obtain ⟨w0, w1, w2, w3, w4, w5, w6, w7, w8, wA0, wA1, wA2⟩ := id hW
  have wC : n 0 * n 1 ≤ 42 := Nat.mul_le_mul w0 w1
  have hk161 := hts (.constantLong RX4 161 (9)) (List.mem_of_getElem? (i := 1) rfl)
  have hf7 := hts (.fieldLink RX4 7 "StatueSquareModel" "has" "[I") (List.mem_of_getElem? (i := 2) rfl)
  have hinX4 : ∀ w ∈ u_ws RX4 TX4 31, w ∈ wsX4_statue := fun _ h => List.mem_cons_of_mem _ (List.mem_append_right _ h)
  have hf47 := hts (.fieldLink RX4 47 "StatueSquareModel" "statueAt" "I") (List.mem_of_getElem? (i := 3) rfl)
  have hf163 := hts (.fieldLink RX4 163 "StatueSquareModel" "blockNow" "I") (List.mem_of_getElem? (i := 4) rfl)
  refine lv_aload_n hx hb dX4_statue_0 rfl (lv_at hl 0 rfl) ?_
  refine lv_iload_n hx hb dX4_statue_1 rfl (lv_at hl 1 rfl) ?_
  refine roV_i (As := [.int c]) (rest := []) ⟨hx, hb, hml, hown, hts⟩ (kX4_noCell l dC dI cI cZ q n mb f A Y hW hR hmb c _ ) (cwV 1 hts gX4_statue_X4_noCell rfl rfl rfl hdX4_noCell ⟨Nat.le_trans (Nat.le_of_ble_eq_true rfl) hRf, Nat.le_trans (Nat.le_of_ble_eq_true rfl) hRl⟩) (va_recv hK hP (ci := 4) (q0 := 0) rfl rfl) hK hP rfl hl.1 rfl (Nat.le_of_ble_eq_true rfl) dX4_statue_2 ⟨Nat.zero_le _, Nat.zero_le _⟩ hP hS hA (fun H locs hP hS => ?_)
  refine x_ifb_eq (tgt := 10) hx hb dX4_statue_5 (by decide) (fun c5 => ?_) (fun c5 => ?_)
  · skip
    have c5 : inB c (n 0 * n 1) = true := by simpa using c5
    obtain ⟨j, hj, rfl⟩ := inB_t (by omega) c5
    have hxj : xn (nI j) = j := xn_nI (by omega)
    refine lv_iload_n hx hb dX4_statue_10 rfl (lv_at hl 2 rfl) ?_
    refine lv_i2l hx hb dX4_statue_11 rfl ?_
    refine lv_lconst (v := 0) hx hb dX4_statue_12 rfl ?_
    refine lv_ldc2 hx hb hown hk161 dX4_statue_13 ?_
    refine roS_i (As := [.long b.toInt64, .long 0, .long 9]) (rest := []) ⟨hx, hb, hml, hown, hts⟩ (kX4_in l dC dI b.toInt64 0 9 _ ) (va_cwS 3 hts gX4_statue_X4_in rfl rfl rfl hdX4_in ⟨Nat.le_trans (Nat.le_of_ble_eq_true rfl) hRf, Nat.le_trans (Nat.le_of_ble_eq_true rfl) hRl⟩) (hK.sub [] rfl) (hP.sub [] rfl) rfl hl.1 rfl (Nat.le_of_ble_eq_true rfl) dX4_statue_16 ⟨Nat.zero_le _, Nat.zero_le _⟩ hP hS hA (fun H locs hP hS => ?_)
    refine x_top (y := bI (inB b 10)) (congrArg bI (inL_c (by omega) rfl)) ?_
    refine x_ifb_ne (tgt := 25) hx hb dX4_statue_19 (by decide) (fun c19 => ?_) (fun c19 => ?_)
    · skip
      obtain ⟨i, hi, rfl⟩ := inB_t (by omega) c19
      have hxi : xn (nI i) = i := xn_nI (by omega)
      refine lv_aload_n hx hb dX4_statue_25 rfl (lv_at hl 0 rfl) ?_
      refine x_get (D := (dC, dI)) (ci := 4) (v := .ref (q 1)) (C := RX4) (T := TX4) (N := 31) hx hb hts hinX4 hown hK hP 0 rfl rfl 3 (Nat.le_of_ble_eq_true rfl) hf7 rfl rfl dX4_statue_26 ?_
      refine lv_iload_n hx hb dX4_statue_29 rfl (lv_at hl 1 rfl) ?_
      refine x_iald (v := (nI (A 0 j))) hx hb hK hP 1 0 rfl rfl (by omega) (by decide) (hR.1 _ (by omega)) dX4_statue_30 ?_
      refine x_if_le (tgt := 37) hx hb (by have := wA0 j hj; omega) dX4_statue_31 (by decide) (fun c31 => ?_) (fun c31 => ?_)
      · skip
        refine lv_aload_n hx hb dX4_statue_37 rfl (lv_at hl 0 rfl) ?_
        refine x_get (D := (dC, dI)) (ci := 4) (v := .int (stI (n 6))) (C := RX4) (T := TX4) (N := 31) hx hb hts hinX4 hown hK hP 0 rfl rfl 24 (Nat.le_of_ble_eq_true rfl) hf47 rfl rfl dX4_statue_38 ?_
        refine lv_istore_n (lv' := [(3, .int (stI (n 6))), (0, .ref (q 0)), (1, .int (nI j)), (2, .int (nI i))]) hx hb dX4_statue_41 rfl hl (by decide) rfl (fun ls hl => ?_)
        refine lv_aload_n hx hb dX4_statue_42 rfl (lv_at hl 1 rfl) ?_
        refine lv_iload_n hx hb dX4_statue_43 rfl (lv_at hl 2 rfl) ?_
        refine x_put (D := (dC, dI)) (ci := 4) (v := .int (nI j)) (C := RX4) (T := TX4) (N := 31) (wn := wM cI cZ q (uN n 6 (j + 1)) mb f Y) hx hb hts hinX4 tyX4 tyX4_ok nmX4 hown hK hP hD hS 0 rfl rfl 24 (Nat.le_of_ble_eq_true rfl) hf47 rfl rfl rfl rfl (Nat.le_of_ble_eq_true rfl) rfl dX4_statue_44 (fun H locs hP hS => ?_)
        have hD : va_D Z (wM cI cZ q (uN n 6 (j + 1)) mb f Y) := hD.same rfl
        refine lv_aload_n hx hb dX4_statue_47 rfl (lv_at hl 1 rfl) ?_
        refine lv_iload_n hx hb dX4_statue_48 rfl (lv_at hl 3 rfl) ?_
        refine x_put (D := (dC, dI)) (ci := 4) (v := .int (nI i)) (C := RX4) (T := TX4) (N := 31) (wn := wM cI cZ q (uN n 6 (j + 1)) (nI i) f Y) hx hb hts hinX4 tyX4 tyX4_ok nmX4 hown hK hP hD hS 0 rfl rfl 25 (Nat.le_of_ble_eq_true rfl) hf163 rfl rfl rfl rfl (Nat.le_of_ble_eq_true rfl) rfl dX4_statue_49 (fun H locs hP hS => ?_)
        have hD : va_D Z (wM cI cZ q (uN n 6 (j + 1)) (nI i) f Y) := hD.same rfl
        refine lv_iload_n hx hb dX4_statue_52 rfl (lv_at hl 0 rfl) ?_
        exact hend _ _ _ _ _ _ (by simp [uStatue, inB02, c5, c19, hxj, c31] <;> rfl) (by rw [vStaM, if_pos ⟨c5, c19, by rw [hxj]; exact c31⟩, if_pos ⟨c5, c19, by rw [hxj]; exact c31⟩, hxj]) hP hS dX4_statue_53
      · skip
        refine lv_bipush (v := -3) hx hb dX4_statue_34 rfl ?_
        exact hend _ _ _ _ _ _ (by simp [uStatue, c5, c19, hxj, show ¬ A 0 j = 0 from by omega] <;> rfl) (by simp [vStaM, c5, c19, hxj, show ¬ A 0 j = 0 from by omega] <;> rfl) hP hS dX4_statue_36
    · skip
      refine lv_bipush (v := -2) hx hb dX4_statue_22 rfl ?_
      exact hend _ _ _ _ _ _ (by simp [uStatue, inB02, c5, c19] <;> rfl) (by simp [vStaM, inB02, c5, c19] <;> rfl) hP hS dX4_statue_24
  · skip
    have c5 : inB c (n 0 * n 1) = false := by simpa using c5
    refine lv_iconst (v := -1) hx hb dX4_statue_8 rfl ?_
    exact hend _ _ _ _ _ _ (by simp [uStatue, inB02, c5] <;> rfl) (by simp [vStaM, inB02, c5] <;> rfl) hP hS dX4_statue_9
theorem hdX4_traced : yX4_traced.cls = RX4 ∧ yX4_traced.cls ≠ "java/lang/invoke/MethodHandle" ∧ yX4_traced.cls ≠ "java/lang/invoke/VarHandle" ∧ (parseMethodDescriptor yX4_traced.desc).map (fun d => d.parameters.length) = some 1 := by decide +kernel
set_option maxRecDepth 20000 in
theorem ggX4_tell_X4_noThing : GoodIn wsX4_tell wsX4_noThing := goodIn_r _ [7, 8, 9, 10, 6, 11, 17, 18, 19, 20, 21, 22, 23, 24, 25, 26, 27, 28, 29, 30, 31, 32, 33, 34, 35, 36, 37, 38, 39, 40, 41, 42, 43, 44, 45, 46, 47] (by decide +kernel) (by decide +kernel)
set_option maxRecDepth 20000 in
theorem gX4_tell_X4_noThing : GoodIn wsX4_tell (wsV RX4 150 RX4 yX4_noThing wsX4_noThing) := goodIn_app (goodIn_of _ (by decide +kernel)) ggX4_tell_X4_noThing
set_option maxRecDepth 20000 in
theorem ggX4_tell_X4_traced : GoodIn wsX4_tell wsX4_traced := goodIn_r _ [15, 16, 17, 18, 19, 20, 21, 22, 23, 24, 25, 26, 27, 28, 29, 30, 31, 32, 33, 34, 35, 36, 37, 38, 39, 40, 41, 42, 43, 44, 45, 46, 47] (by decide +kernel) (by decide +kernel)
set_option maxRecDepth 20000 in
theorem gX4_tell_X4_traced : GoodIn wsX4_tell (wsV RX4 211 RX4 yX4_traced wsX4_traced) := goodIn_app (goodIn_of _ (by decide +kernel)) ggX4_tell_X4_traced
set_option maxHeartbeats 4000000 in
set_option maxRecDepth 100000 in
theorem kX4_tell (l : Launch) (dC : Nat → ClassId) (dI : Nat → Nat → Nat) (cI cZ : ClassId) (q n : Nat → Nat) (mb : Int32) (f : Nat → Int32) (A : Nat → Nat → Nat) (Y : Nat → Nat → Int32) (hW : WF n A) (hR : RM n A Y) (hmb : 0 < n 6 → mb = nI (n 7)) (t : Int32) (sz : Nat) : Met l yX4_tell wsX4_tell ({ frames := 2, cells := 0, slots := 0, locals := 46 }) (rwP [.ref (q 0), .int t] sz (dC, dI) [(cI, .int), (cZ, .boolean)] (wM cI cZ q n mb f Y)) (rwQi (uTell n A t) (dC, dI) (wM cI cZ q n mb f Y) (wM cI cZ q n mb (uF f 30 (vTell n A t (f 30))) Y) sz) 0 0 (va_A (wM cI cZ q n mb f Y) sz) := by
  refine rw_met_i (by decide) rfl (Nat.le_of_ble_eq_true rfl) ?_
  intro pp ee ss mm aa bb me cd RR QQ Z hx hb hml hown hts hRf hRl hP hK hD hA hS hend ls hl
  have hown : ss.vm.findClass RX4 = some mm.cls := hown
  have hRf : 2 ≤ RR.frames := hRf
  have hRl : 46 ≤ RR.locals := hRl
  have hl : lv_has ls 4 [(0, .ref (q 0)), (1, .int t)] := hl
  obtain ⟨w0, w1, w2, w3, w4, w5, w6, w7, w8, wA0, wA1, wA2⟩ := id hW
  have wC : n 0 * n 1 ≤ 42 := Nat.mul_le_mul w0 w1
  have hf16 := hts (.fieldLink RX4 16 "StatueSquareModel" "kindOf" "[I") (List.mem_of_getElem? (i := 1) rfl)
  have hinX4 : ∀ w ∈ u_ws RX4 TX4 31, w ∈ wsX4_tell := fun _ h => List.mem_cons_of_mem _ (List.mem_append_right _ h)
  have hf22 := hts (.fieldLink RX4 22 "StatueSquareModel" "tallOf" "[I") (List.mem_of_getElem? (i := 2) rfl)
  refine lv_aload_n hx hb dX4_tell_0 rfl (lv_at hl 0 rfl) ?_
  refine lv_iload_n hx hb dX4_tell_1 rfl (lv_at hl 1 rfl) ?_
  refine roV_i (As := [.int t]) (rest := []) ⟨hx, hb, hml, hown, hts⟩ (kX4_noThing l dC dI cI cZ q n mb f A Y hW hR hmb t _ ) (cwV 1 hts gX4_tell_X4_noThing rfl rfl rfl hdX4_noThing ⟨Nat.le_trans (Nat.le_of_ble_eq_true rfl) hRf, Nat.le_trans (Nat.le_of_ble_eq_true rfl) hRl⟩) (va_recv hK hP (ci := 4) (q0 := 0) rfl rfl) hK hP rfl hl.1 rfl (Nat.le_of_ble_eq_true rfl) dX4_tell_2 ⟨Nat.zero_le _, Nat.zero_le _⟩ hP hS hA (fun H locs hP hS => ?_)
  refine x_ifb_eq (tgt := 10) hx hb dX4_tell_5 (by decide) (fun c5 => ?_) (fun c5 => ?_)
  · skip
    have c5 : inB t (n 3) = true := by simpa using c5
    obtain ⟨j, hj, rfl⟩ := inB_t (by omega) c5
    have hxj : xn (nI j) = j := xn_nI (by omega)
    refine lv_aload_n hx hb dX4_tell_10 rfl (lv_at hl 0 rfl) ?_
    refine x_get (D := (dC, dI)) (ci := 4) (v := .ref (q 3)) (C := RX4) (T := TX4) (N := 31) hx hb hts hinX4 hown hK hP 0 rfl rfl 7 (Nat.le_of_ble_eq_true rfl) hf16 rfl rfl dX4_tell_11 ?_
    refine lv_iload_n hx hb dX4_tell_14 rfl (lv_at hl 1 rfl) ?_
    refine x_iald (v := (nI (A 2 j))) hx hb hK hP 3 0 rfl rfl (by omega) (by decide) (hR.2.2 _ (by omega)).1 dX4_tell_15 ?_
    refine lv_istore_n (lv' := [(2, .int (nI (A 2 j))), (0, .ref (q 0)), (1, .int (nI j))]) hx hb dX4_tell_16 rfl hl (by decide) rfl (fun ls hl => ?_)
    have wk : A 2 j = 0 ∨ A 2 j = 1 ∨ A 2 j = 2 := by have := (wA2 j hj).1; omega
    rcases wk with hk | hk | hk
    · skip
      rw [hk] at hl
      refine lv_iload_n hx hb dX4_tell_17 rfl (lv_at hl 0 rfl) ?_
      refine lv_iconst (v := nI 2) hx hb dX4_tell_18 rfl ?_
      refine x_icmp_ne (tgt := 27) hx hb (by omega) (by omega) dX4_tell_19 (by decide) (fun c19 => ?_) (fun c19 => absurd c19 (by decide))
      refine lv_iload_n hx hb dX4_tell_27 rfl (lv_at hl 0 rfl) ?_
      refine x_if_le (tgt := 36) hx hb (by omega) dX4_tell_28 (by decide) (fun c28 => ?_) (fun c28 => absurd c28 (by decide))
      refine lv_aload_n hx hb dX4_tell_36 rfl (lv_at hl 1 rfl) ?_
      refine lv_iconst (v := nI 1) hx hb dX4_tell_37 rfl ?_
      refine rwW_v (As := [.int (nI 1)]) (rest := []) (wn := wM cI cZ q n mb (uF f 30 (trc (f 30) 1)) Y) ⟨hx, hb, hml, hown, hts⟩ (kX4_traced l dC dI cI cZ q n mb f Y 1 _) (cwV 1 hts gX4_tell_X4_traced rfl rfl rfl hdX4_traced ⟨Nat.le_trans (Nat.le_of_ble_eq_true rfl) hRf, Nat.le_trans (Nat.le_of_ble_eq_true rfl) hRl⟩) (va_recv hK hP (ci := 4) (q0 := 0) rfl rfl) hK rfl hl.1 rfl (Nat.le_of_ble_eq_true rfl) dX4_tell_38 ⟨Nat.zero_le _, Nat.zero_le _⟩ hP hD hS hA [0, 1, 2, 3, 4, 5, 6, 7, 8, 9, 10, 11, 12, 13, 14, 15, 16] [] [0, 1, 2, 3, 4, 5, 6, 7, 8, 9, 10, 11, 12, 13, 14, 15, 16] rfl rfl (by decide) (by decide) (by decide) rfl rfl (fun H locs hP hS => ?_)
      have hD : va_D Z (wM cI cZ q n mb (uF f 30 (trc (f 30) 1)) Y) := hD.same rfl
      refine lv_iload_n hx hb dX4_tell_41 rfl (lv_at hl 0 rfl) ?_
      refine lv_iconst (v := nI 2) hx hb dX4_tell_42 rfl ?_
      refine x_icmp_ne (tgt := 51) hx hb (by omega) (by omega) dX4_tell_43 (by decide) (fun c43 => ?_) (fun c43 => absurd c43 (by decide))
      refine lv_aload_n hx hb dX4_tell_51 rfl (lv_at hl 1 rfl) ?_
      refine x_get (D := (dC, dI)) (ci := 4) (v := .ref (q 5)) (C := RX4) (T := TX4) (N := 31) hx hb hts hinX4 hown hK hP 0 rfl rfl 9 (Nat.le_of_ble_eq_true rfl) hf22 rfl rfl dX4_tell_52 ?_
      refine lv_iload_n hx hb dX4_tell_55 rfl (lv_at hl 2 rfl) ?_
      refine x_iald (v := (nI (A 4 j))) hx hb hK hP 5 0 rfl rfl (by omega) (by decide) (hR.2.2 _ (by omega)).2.2.1 dX4_tell_56 ?_
      refine lv_istore_n (lv' := [(3, .int (nI (A 4 j))), (2, .int (nI 0)), (0, .ref (q 0)), (1, .int (nI j))]) hx hb dX4_tell_57 rfl hl (by decide) rfl (fun ls hl => ?_)
      refine lv_iload_n hx hb dX4_tell_58 rfl (lv_at hl 1 rfl) ?_
      refine x_if_ne (tgt := 66) hx hb (by omega) dX4_tell_59 (by decide) (fun c59 => absurd c59 (by decide)) (fun c59 => ?_)
      refine lv_iload_n hx hb dX4_tell_62 rfl (lv_at hl 0 rfl) ?_
      refine lv_goto (tgt := 84) hx hb dX4_tell_63 (by decide) ?_
      exact hend _ _ _ _ _ _ (by simp [uTell, inB02, c5, hxj, hk] <;> rfl) (by simp only [vTell, c5, hxj, hk, uF_uF]; rfl) hP hS dX4_tell_84
    · skip
      rw [hk] at hl
      refine lv_iload_n hx hb dX4_tell_17 rfl (lv_at hl 0 rfl) ?_
      refine lv_iconst (v := nI 2) hx hb dX4_tell_18 rfl ?_
      refine x_icmp_ne (tgt := 27) hx hb (by omega) (by omega) dX4_tell_19 (by decide) (fun c19 => ?_) (fun c19 => absurd c19 (by decide))
      refine lv_iload_n hx hb dX4_tell_27 rfl (lv_at hl 0 rfl) ?_
      refine x_if_le (tgt := 36) hx hb (by omega) dX4_tell_28 (by decide) (fun c28 => absurd c28 (by decide)) (fun c28 => ?_)
      refine lv_aload_n hx hb dX4_tell_31 rfl (lv_at hl 1 rfl) ?_
      refine lv_iconst (v := nI 2) hx hb dX4_tell_32 rfl ?_
      refine rwW_v (As := [.int (nI 2)]) (rest := []) (wn := wM cI cZ q n mb (uF f 30 (trc (f 30) 2)) Y) ⟨hx, hb, hml, hown, hts⟩ (kX4_traced l dC dI cI cZ q n mb f Y 2 _) (cwV 1 hts gX4_tell_X4_traced rfl rfl rfl hdX4_traced ⟨Nat.le_trans (Nat.le_of_ble_eq_true rfl) hRf, Nat.le_trans (Nat.le_of_ble_eq_true rfl) hRl⟩) (va_recv hK hP (ci := 4) (q0 := 0) rfl rfl) hK rfl hl.1 rfl (Nat.le_of_ble_eq_true rfl) dX4_tell_33 ⟨Nat.zero_le _, Nat.zero_le _⟩ hP hD hS hA [0, 1, 2, 3, 4, 5, 6, 7, 8, 9, 10, 11, 12, 13, 14, 15, 16] [] [0, 1, 2, 3, 4, 5, 6, 7, 8, 9, 10, 11, 12, 13, 14, 15, 16] rfl rfl (by decide) (by decide) (by decide) rfl rfl (fun H locs hP hS => ?_)
      have hD : va_D Z (wM cI cZ q n mb (uF f 30 (trc (f 30) 2)) Y) := hD.same rfl
      refine lv_aload_n hx hb dX4_tell_36 rfl (lv_at hl 1 rfl) ?_
      refine lv_iconst (v := nI 1) hx hb dX4_tell_37 rfl ?_
      refine rwW_v (As := [.int (nI 1)]) (rest := []) (wn := wM cI cZ q n mb (uF (uF f 30 (trc (f 30) 2)) 30 (trc (trc (f 30) 2) 1)) Y) ⟨hx, hb, hml, hown, hts⟩ (kX4_traced l dC dI cI cZ q n mb (uF f 30 (trc (f 30) 2)) Y 1 _) (cwV 1 hts gX4_tell_X4_traced rfl rfl rfl hdX4_traced ⟨Nat.le_trans (Nat.le_of_ble_eq_true rfl) hRf, Nat.le_trans (Nat.le_of_ble_eq_true rfl) hRl⟩) (va_recv hK hP (ci := 4) (q0 := 0) rfl rfl) hK rfl hl.1 rfl (Nat.le_of_ble_eq_true rfl) dX4_tell_38 ⟨Nat.zero_le _, Nat.zero_le _⟩ hP hD hS hA [0, 1, 2, 3, 4, 5, 6, 7, 8, 9, 10, 11, 12, 13, 14, 15, 16] [] [0, 1, 2, 3, 4, 5, 6, 7, 8, 9, 10, 11, 12, 13, 14, 15, 16] rfl rfl (by decide) (by decide) (by decide) rfl rfl (fun H locs hP hS => ?_)
      have hD : va_D Z (wM cI cZ q n mb (uF (uF f 30 (trc (f 30) 2)) 30 (trc (trc (f 30) 2) 1)) Y) := hD.same rfl
      refine lv_iload_n hx hb dX4_tell_41 rfl (lv_at hl 0 rfl) ?_
      refine lv_iconst (v := nI 2) hx hb dX4_tell_42 rfl ?_
      refine x_icmp_ne (tgt := 51) hx hb (by omega) (by omega) dX4_tell_43 (by decide) (fun c43 => ?_) (fun c43 => absurd c43 (by decide))
      refine lv_aload_n hx hb dX4_tell_51 rfl (lv_at hl 1 rfl) ?_
      refine x_get (D := (dC, dI)) (ci := 4) (v := .ref (q 5)) (C := RX4) (T := TX4) (N := 31) hx hb hts hinX4 hown hK hP 0 rfl rfl 9 (Nat.le_of_ble_eq_true rfl) hf22 rfl rfl dX4_tell_52 ?_
      refine lv_iload_n hx hb dX4_tell_55 rfl (lv_at hl 2 rfl) ?_
      refine x_iald (v := (nI (A 4 j))) hx hb hK hP 5 0 rfl rfl (by omega) (by decide) (hR.2.2 _ (by omega)).2.2.1 dX4_tell_56 ?_
      refine lv_istore_n (lv' := [(3, .int (nI (A 4 j))), (2, .int (nI 1)), (0, .ref (q 0)), (1, .int (nI j))]) hx hb dX4_tell_57 rfl hl (by decide) rfl (fun ls hl => ?_)
      refine lv_iload_n hx hb dX4_tell_58 rfl (lv_at hl 1 rfl) ?_
      refine x_if_ne (tgt := 66) hx hb (by omega) dX4_tell_59 (by decide) (fun c59 => ?_) (fun c59 => absurd c59 (by decide))
      refine lv_iload_n hx hb dX4_tell_66 rfl (lv_at hl 1 rfl) ?_
      refine lv_iconst (v := nI 1) hx hb dX4_tell_67 rfl ?_
      refine x_icmp_ne (tgt := 78) hx hb (by omega) (by omega) dX4_tell_68 (by decide) (fun c68 => absurd c68 (by decide)) (fun c68 => ?_)
      refine lv_iload_n hx hb dX4_tell_71 rfl (lv_at hl 0 rfl) ?_
      refine lv_bipush (v := nI 100) hx hb dX4_tell_72 rfl ?_
      refine x_iadd hx hb dX4_tell_74 ?_
      refine lv_goto (tgt := 84) hx hb dX4_tell_75 (by decide) ?_
      exact hend _ _ _ _ _ _ (by simp [uTell, inB02, c5, hxj, hk] <;> rfl) (by simp only [vTell, c5, hxj, hk, uF_uF]; rfl) hP hS dX4_tell_84
    · skip
      rw [hk] at hl
      refine lv_iload_n hx hb dX4_tell_17 rfl (lv_at hl 0 rfl) ?_
      refine lv_iconst (v := nI 2) hx hb dX4_tell_18 rfl ?_
      refine x_icmp_ne (tgt := 27) hx hb (by omega) (by omega) dX4_tell_19 (by decide) (fun c19 => absurd c19 (by decide)) (fun c19 => ?_)
      refine lv_aload_n hx hb dX4_tell_22 rfl (lv_at hl 1 rfl) ?_
      refine lv_iconst (v := nI 3) hx hb dX4_tell_23 rfl ?_
      refine rwW_v (As := [.int (nI 3)]) (rest := []) (wn := wM cI cZ q n mb (uF f 30 (trc (f 30) 3)) Y) ⟨hx, hb, hml, hown, hts⟩ (kX4_traced l dC dI cI cZ q n mb f Y 3 _) (cwV 1 hts gX4_tell_X4_traced rfl rfl rfl hdX4_traced ⟨Nat.le_trans (Nat.le_of_ble_eq_true rfl) hRf, Nat.le_trans (Nat.le_of_ble_eq_true rfl) hRl⟩) (va_recv hK hP (ci := 4) (q0 := 0) rfl rfl) hK rfl hl.1 rfl (Nat.le_of_ble_eq_true rfl) dX4_tell_24 ⟨Nat.zero_le _, Nat.zero_le _⟩ hP hD hS hA [0, 1, 2, 3, 4, 5, 6, 7, 8, 9, 10, 11, 12, 13, 14, 15, 16] [] [0, 1, 2, 3, 4, 5, 6, 7, 8, 9, 10, 11, 12, 13, 14, 15, 16] rfl rfl (by decide) (by decide) (by decide) rfl rfl (fun H locs hP hS => ?_)
      have hD : va_D Z (wM cI cZ q n mb (uF f 30 (trc (f 30) 3)) Y) := hD.same rfl
      refine lv_iload_n hx hb dX4_tell_27 rfl (lv_at hl 0 rfl) ?_
      refine x_if_le (tgt := 36) hx hb (by omega) dX4_tell_28 (by decide) (fun c28 => absurd c28 (by decide)) (fun c28 => ?_)
      refine lv_aload_n hx hb dX4_tell_31 rfl (lv_at hl 1 rfl) ?_
      refine lv_iconst (v := nI 2) hx hb dX4_tell_32 rfl ?_
      refine rwW_v (As := [.int (nI 2)]) (rest := []) (wn := wM cI cZ q n mb (uF (uF f 30 (trc (f 30) 3)) 30 (trc (trc (f 30) 3) 2)) Y) ⟨hx, hb, hml, hown, hts⟩ (kX4_traced l dC dI cI cZ q n mb (uF f 30 (trc (f 30) 3)) Y 2 _) (cwV 1 hts gX4_tell_X4_traced rfl rfl rfl hdX4_traced ⟨Nat.le_trans (Nat.le_of_ble_eq_true rfl) hRf, Nat.le_trans (Nat.le_of_ble_eq_true rfl) hRl⟩) (va_recv hK hP (ci := 4) (q0 := 0) rfl rfl) hK rfl hl.1 rfl (Nat.le_of_ble_eq_true rfl) dX4_tell_33 ⟨Nat.zero_le _, Nat.zero_le _⟩ hP hD hS hA [0, 1, 2, 3, 4, 5, 6, 7, 8, 9, 10, 11, 12, 13, 14, 15, 16] [] [0, 1, 2, 3, 4, 5, 6, 7, 8, 9, 10, 11, 12, 13, 14, 15, 16] rfl rfl (by decide) (by decide) (by decide) rfl rfl (fun H locs hP hS => ?_)
      have hD : va_D Z (wM cI cZ q n mb (uF (uF f 30 (trc (f 30) 3)) 30 (trc (trc (f 30) 3) 2)) Y) := hD.same rfl
      refine lv_aload_n hx hb dX4_tell_36 rfl (lv_at hl 1 rfl) ?_
      refine lv_iconst (v := nI 1) hx hb dX4_tell_37 rfl ?_
      refine rwW_v (As := [.int (nI 1)]) (rest := []) (wn := wM cI cZ q n mb (uF (uF (uF f 30 (trc (f 30) 3)) 30 (trc (trc (f 30) 3) 2)) 30 (trc (trc (trc (f 30) 3) 2) 1)) Y) ⟨hx, hb, hml, hown, hts⟩ (kX4_traced l dC dI cI cZ q n mb (uF (uF f 30 (trc (f 30) 3)) 30 (trc (trc (f 30) 3) 2)) Y 1 _) (cwV 1 hts gX4_tell_X4_traced rfl rfl rfl hdX4_traced ⟨Nat.le_trans (Nat.le_of_ble_eq_true rfl) hRf, Nat.le_trans (Nat.le_of_ble_eq_true rfl) hRl⟩) (va_recv hK hP (ci := 4) (q0 := 0) rfl rfl) hK rfl hl.1 rfl (Nat.le_of_ble_eq_true rfl) dX4_tell_38 ⟨Nat.zero_le _, Nat.zero_le _⟩ hP hD hS hA [0, 1, 2, 3, 4, 5, 6, 7, 8, 9, 10, 11, 12, 13, 14, 15, 16] [] [0, 1, 2, 3, 4, 5, 6, 7, 8, 9, 10, 11, 12, 13, 14, 15, 16] rfl rfl (by decide) (by decide) (by decide) rfl rfl (fun H locs hP hS => ?_)
      have hD : va_D Z (wM cI cZ q n mb (uF (uF (uF f 30 (trc (f 30) 3)) 30 (trc (trc (f 30) 3) 2)) 30 (trc (trc (trc (f 30) 3) 2) 1)) Y) := hD.same rfl
      refine lv_iload_n hx hb dX4_tell_41 rfl (lv_at hl 0 rfl) ?_
      refine lv_iconst (v := nI 2) hx hb dX4_tell_42 rfl ?_
      refine x_icmp_ne (tgt := 51) hx hb (by omega) (by omega) dX4_tell_43 (by decide) (fun c43 => absurd c43 (by decide)) (fun c43 => ?_)
      refine lv_aload_n hx hb dX4_tell_46 rfl (lv_at hl 1 rfl) ?_
      refine lv_iconst (v := nI 1) hx hb dX4_tell_47 rfl ?_
      refine rwW_v (As := [.int (nI 1)]) (rest := []) (wn := wM cI cZ q n mb (uF (uF (uF (uF f 30 (trc (f 30) 3)) 30 (trc (trc (f 30) 3) 2)) 30 (trc (trc (trc (f 30) 3) 2) 1)) 30 (trc (trc (trc (trc (f 30) 3) 2) 1) 1)) Y) ⟨hx, hb, hml, hown, hts⟩ (kX4_traced l dC dI cI cZ q n mb (uF (uF (uF f 30 (trc (f 30) 3)) 30 (trc (trc (f 30) 3) 2)) 30 (trc (trc (trc (f 30) 3) 2) 1)) Y 1 _) (cwV 1 hts gX4_tell_X4_traced rfl rfl rfl hdX4_traced ⟨Nat.le_trans (Nat.le_of_ble_eq_true rfl) hRf, Nat.le_trans (Nat.le_of_ble_eq_true rfl) hRl⟩) (va_recv hK hP (ci := 4) (q0 := 0) rfl rfl) hK rfl hl.1 rfl (Nat.le_of_ble_eq_true rfl) dX4_tell_48 ⟨Nat.zero_le _, Nat.zero_le _⟩ hP hD hS hA [0, 1, 2, 3, 4, 5, 6, 7, 8, 9, 10, 11, 12, 13, 14, 15, 16] [] [0, 1, 2, 3, 4, 5, 6, 7, 8, 9, 10, 11, 12, 13, 14, 15, 16] rfl rfl (by decide) (by decide) (by decide) rfl rfl (fun H locs hP hS => ?_)
      have hD : va_D Z (wM cI cZ q n mb (uF (uF (uF (uF f 30 (trc (f 30) 3)) 30 (trc (trc (f 30) 3) 2)) 30 (trc (trc (trc (f 30) 3) 2) 1)) 30 (trc (trc (trc (trc (f 30) 3) 2) 1) 1)) Y) := hD.same rfl
      refine lv_aload_n hx hb dX4_tell_51 rfl (lv_at hl 1 rfl) ?_
      refine x_get (D := (dC, dI)) (ci := 4) (v := .ref (q 5)) (C := RX4) (T := TX4) (N := 31) hx hb hts hinX4 hown hK hP 0 rfl rfl 9 (Nat.le_of_ble_eq_true rfl) hf22 rfl rfl dX4_tell_52 ?_
      refine lv_iload_n hx hb dX4_tell_55 rfl (lv_at hl 2 rfl) ?_
      refine x_iald (v := (nI (A 4 j))) hx hb hK hP 5 0 rfl rfl (by omega) (by decide) (hR.2.2 _ (by omega)).2.2.1 dX4_tell_56 ?_
      refine lv_istore_n (lv' := [(3, .int (nI (A 4 j))), (2, .int (nI 2)), (0, .ref (q 0)), (1, .int (nI j))]) hx hb dX4_tell_57 rfl hl (by decide) rfl (fun ls hl => ?_)
      refine lv_iload_n hx hb dX4_tell_58 rfl (lv_at hl 1 rfl) ?_
      refine x_if_ne (tgt := 66) hx hb (by omega) dX4_tell_59 (by decide) (fun c59 => ?_) (fun c59 => absurd c59 (by decide))
      refine lv_iload_n hx hb dX4_tell_66 rfl (lv_at hl 1 rfl) ?_
      refine lv_iconst (v := nI 1) hx hb dX4_tell_67 rfl ?_
      refine x_icmp_ne (tgt := 78) hx hb (by omega) (by omega) dX4_tell_68 (by decide) (fun c68 => ?_) (fun c68 => absurd c68 (by decide))
      refine lv_iconst (v := nI 2) hx hb dX4_tell_78 rfl ?_
      refine lv_iload_n hx hb dX4_tell_79 rfl (lv_at hl 0 rfl) ?_
      refine x_imul hx hb dX4_tell_80 ?_
      refine lv_bipush (v := nI 100) hx hb dX4_tell_81 rfl ?_
      refine x_iadd hx hb dX4_tell_83 ?_
      exact hend _ _ _ _ _ _ (by simp [uTell, inB02, c5, hxj, hk] <;> rfl) (by simp only [vTell, c5, hxj, hk, uF_uF]; rfl) hP hS dX4_tell_84
  · skip
    have c5 : inB t (n 3) = false := by simpa using c5
    refine lv_iconst (v := -1) hx hb dX4_tell_8 rfl ?_
    exact hend _ _ _ _ _ _ (by simp [uTell, inB02, c5] <;> rfl) (by rw [vTell, if_neg (by rw [c5]; decide), uF_self]) hP hS dX4_tell_9
set_option maxRecDepth 20000 in
theorem ggX4_tend_X4_noThing : GoodIn wsX4_tend wsX4_noThing := goodIn_r _ [6, 7, 8, 9, 5, 10, 16, 17, 18, 19, 20, 21, 22, 23, 24, 25, 26, 27, 28, 29, 30, 31, 32, 33, 34, 35, 36, 37, 38, 39, 40, 41, 42, 43, 44, 45, 46] (by decide +kernel) (by decide +kernel)
set_option maxRecDepth 20000 in
theorem gX4_tend_X4_noThing : GoodIn wsX4_tend (wsV RX4 150 RX4 yX4_noThing wsX4_noThing) := goodIn_app (goodIn_of _ (by decide +kernel)) ggX4_tend_X4_noThing
set_option maxRecDepth 20000 in
theorem ggX4_tend_X4_traced : GoodIn wsX4_tend wsX4_traced := goodIn_r _ [14, 15, 16, 17, 18, 19, 20, 21, 22, 23, 24, 25, 26, 27, 28, 29, 30, 31, 32, 33, 34, 35, 36, 37, 38, 39, 40, 41, 42, 43, 44, 45, 46] (by decide +kernel) (by decide +kernel)
set_option maxRecDepth 20000 in
theorem gX4_tend_X4_traced : GoodIn wsX4_tend (wsV RX4 211 RX4 yX4_traced wsX4_traced) := goodIn_app (goodIn_of _ (by decide +kernel)) ggX4_tend_X4_traced
set_option maxHeartbeats 4000000 in
set_option maxRecDepth 100000 in
theorem kX4_tend (l : Launch) (dC : Nat → ClassId) (dI : Nat → Nat → Nat) (cI cZ : ClassId) (q n : Nat → Nat) (mb : Int32) (f : Nat → Int32) (A : Nat → Nat → Nat) (Y : Nat → Nat → Int32) (hW : WF n A) (hR : RM n A Y) (hmb : 0 < n 6 → mb = nI (n 7)) (t : Int32) (sz : Nat) : Met l yX4_tend wsX4_tend ({ frames := 2, cells := 0, slots := 0, locals := 46 }) (rwP [.ref (q 0), .int t] sz (dC, dI) [(cI, .int), (cZ, .boolean)] (wM cI cZ q n mb f Y)) (rwQi (uTend n A t) (dC, dI) (wM cI cZ q n mb f Y) (wM cI cZ q n mb (uF f 30 (vTend n A t (f 30))) Y) sz) 0 0 (va_A (wM cI cZ q n mb f Y) sz) := by
  refine rw_met_i (by decide) rfl (Nat.le_of_ble_eq_true rfl) ?_
  intro pp ee ss mm aa bb me cd RR QQ Z hx hb hml hown hts hRf hRl hP hK hD hA hS hend ls hl
  have hown : ss.vm.findClass RX4 = some mm.cls := hown
  have hRf : 2 ≤ RR.frames := hRf
  have hRl : 46 ≤ RR.locals := hRl
  have hl : lv_has ls 2 [(0, .ref (q 0)), (1, .int t)] := hl
  obtain ⟨w0, w1, w2, w3, w4, w5, w6, w7, w8, wA0, wA1, wA2⟩ := id hW
  have wC : n 0 * n 1 ≤ 42 := Nat.mul_le_mul w0 w1
  have hf16 := hts (.fieldLink RX4 16 "StatueSquareModel" "kindOf" "[I") (List.mem_of_getElem? (i := 1) rfl)
  have hinX4 : ∀ w ∈ u_ws RX4 TX4 31, w ∈ wsX4_tend := fun _ h => List.mem_cons_of_mem _ (List.mem_append_right _ h)
  refine lv_aload_n hx hb dX4_tend_0 rfl (lv_at hl 0 rfl) ?_
  refine lv_iload_n hx hb dX4_tend_1 rfl (lv_at hl 1 rfl) ?_
  refine roV_i (As := [.int t]) (rest := []) ⟨hx, hb, hml, hown, hts⟩ (kX4_noThing l dC dI cI cZ q n mb f A Y hW hR hmb t _ ) (cwV 1 hts gX4_tend_X4_noThing rfl rfl rfl hdX4_noThing ⟨Nat.le_trans (Nat.le_of_ble_eq_true rfl) hRf, Nat.le_trans (Nat.le_of_ble_eq_true rfl) hRl⟩) (va_recv hK hP (ci := 4) (q0 := 0) rfl rfl) hK hP rfl hl.1 rfl (Nat.le_of_ble_eq_true rfl) dX4_tend_2 ⟨Nat.zero_le _, Nat.zero_le _⟩ hP hS hA (fun H locs hP hS => ?_)
  refine x_ifb_eq (tgt := 10) hx hb dX4_tend_5 (by decide) (fun c5 => ?_) (fun c5 => ?_)
  · skip
    have c5 : inB t (n 3) = true := by simpa using c5
    obtain ⟨j, hj, rfl⟩ := inB_t (by omega) c5
    have hxj : xn (nI j) = j := xn_nI (by omega)
    have wt := wA2 j hj
    refine lv_aload_n hx hb dX4_tend_10 rfl (lv_at hl 0 rfl) ?_
    refine lv_aload_n hx hb dX4_tend_11 rfl (lv_at hl 0 rfl) ?_
    refine x_get (D := (dC, dI)) (ci := 4) (v := .ref (q 3)) (C := RX4) (T := TX4) (N := 31) hx hb hts hinX4 hown hK hP 0 rfl rfl 7 (Nat.le_of_ble_eq_true rfl) hf16 rfl rfl dX4_tend_12 ?_
    refine lv_iload_n hx hb dX4_tend_15 rfl (lv_at hl 1 rfl) ?_
    refine x_iald (v := (nI (A 2 j))) hx hb hK hP 3 0 rfl rfl (by omega) (by decide) (hR.2.2 _ (by omega)).1 dX4_tend_16 ?_
    refine lv_iconst (v := nI 2) hx hb dX4_tend_17 rfl ?_
    refine x_icmp_ne (tgt := 25) hx hb (by omega) (by omega) dX4_tend_18 (by decide) (fun c18 => ?_) (fun c18 => ?_)
    · skip
      refine lv_iconst (v := nI 4) hx hb dX4_tend_25 rfl ?_
      refine rwW_v (As := [.int (nI 4)]) (rest := []) (wn := wM cI cZ q n mb (uF f 30 (trc (f 30) 4)) Y) ⟨hx, hb, hml, hown, hts⟩ (kX4_traced l dC dI cI cZ q n mb f Y 4 _) (cwV 1 hts gX4_tend_X4_traced rfl rfl rfl hdX4_traced ⟨Nat.le_trans (Nat.le_of_ble_eq_true rfl) hRf, Nat.le_trans (Nat.le_of_ble_eq_true rfl) hRl⟩) (va_recv hK hP (ci := 4) (q0 := 0) rfl rfl) hK rfl hl.1 rfl (Nat.le_of_ble_eq_true rfl) dX4_tend_26 ⟨Nat.zero_le _, Nat.zero_le _⟩ hP hD hS hA [0, 1, 2, 3, 4, 5, 6, 7, 8, 9, 10, 11, 12, 13, 14, 15, 16] [] [0, 1, 2, 3, 4, 5, 6, 7, 8, 9, 10, 11, 12, 13, 14, 15, 16] rfl rfl (by decide) (by decide) (by decide) rfl rfl (fun H locs hP hS => ?_)
      have hD : va_D Z (wM cI cZ q n mb (uF f 30 (trc (f 30) 4)) Y) := hD.same rfl
      refine lv_aload_n hx hb dX4_tend_29 rfl (lv_at hl 0 rfl) ?_
      refine x_get (D := (dC, dI)) (ci := 4) (v := .ref (q 3)) (C := RX4) (T := TX4) (N := 31) hx hb hts hinX4 hown hK hP 0 rfl rfl 7 (Nat.le_of_ble_eq_true rfl) hf16 rfl rfl dX4_tend_30 ?_
      refine lv_iload_n hx hb dX4_tend_33 rfl (lv_at hl 1 rfl) ?_
      refine x_iald (v := (nI (A 2 j))) hx hb hK hP 3 0 rfl rfl (by omega) (by decide) (hR.2.2 _ (by omega)).1 dX4_tend_34 ?_
      refine lv_iconst (v := nI 2) hx hb dX4_tend_35 rfl ?_
      refine x_icmp_ne (tgt := 44) hx hb (by omega) (by omega) dX4_tend_36 (by decide) (fun c36 => ?_) (fun c36 => ?_)
      · skip
        refine lv_iload_n hx hb dX4_tend_44 rfl (lv_at hl 1 rfl) ?_
        exact hend _ _ _ _ _ _ (by first | (simp [uTend, c5, hxj, c18] <;> rfl) | exact absurd c18 c36 | exact absurd c36 c18) (by rw [vTend, if_pos c5, hxj]; first | rw [if_pos c18] | rw [if_neg c18]) hP hS dX4_tend_45
      · skip
        refine lv_bipush (v := nI 40) hx hb dX4_tend_39 rfl ?_
        refine lv_goto (tgt := 45) hx hb dX4_tend_41 (by decide) ?_
        exact hend _ _ _ _ _ _ (by first | (simp [uTend, c5, hxj, c18] <;> rfl) | exact absurd c18 c36 | exact absurd c36 c18) (by rw [vTend, if_pos c5, hxj]; first | rw [if_pos c18] | rw [if_neg c18]) hP hS dX4_tend_45
    · skip
      refine lv_iconst (v := nI 5) hx hb dX4_tend_21 rfl ?_
      refine lv_goto (tgt := 26) hx hb dX4_tend_22 (by decide) ?_
      refine rwW_v (As := [.int (nI 5)]) (rest := []) (wn := wM cI cZ q n mb (uF f 30 (trc (f 30) 5)) Y) ⟨hx, hb, hml, hown, hts⟩ (kX4_traced l dC dI cI cZ q n mb f Y 5 _) (cwV 1 hts gX4_tend_X4_traced rfl rfl rfl hdX4_traced ⟨Nat.le_trans (Nat.le_of_ble_eq_true rfl) hRf, Nat.le_trans (Nat.le_of_ble_eq_true rfl) hRl⟩) (va_recv hK hP (ci := 4) (q0 := 0) rfl rfl) hK rfl hl.1 rfl (Nat.le_of_ble_eq_true rfl) dX4_tend_26 ⟨Nat.zero_le _, Nat.zero_le _⟩ hP hD hS hA [0, 1, 2, 3, 4, 5, 6, 7, 8, 9, 10, 11, 12, 13, 14, 15, 16] [] [0, 1, 2, 3, 4, 5, 6, 7, 8, 9, 10, 11, 12, 13, 14, 15, 16] rfl rfl (by decide) (by decide) (by decide) rfl rfl (fun H locs hP hS => ?_)
      have hD : va_D Z (wM cI cZ q n mb (uF f 30 (trc (f 30) 5)) Y) := hD.same rfl
      refine lv_aload_n hx hb dX4_tend_29 rfl (lv_at hl 0 rfl) ?_
      refine x_get (D := (dC, dI)) (ci := 4) (v := .ref (q 3)) (C := RX4) (T := TX4) (N := 31) hx hb hts hinX4 hown hK hP 0 rfl rfl 7 (Nat.le_of_ble_eq_true rfl) hf16 rfl rfl dX4_tend_30 ?_
      refine lv_iload_n hx hb dX4_tend_33 rfl (lv_at hl 1 rfl) ?_
      refine x_iald (v := (nI (A 2 j))) hx hb hK hP 3 0 rfl rfl (by omega) (by decide) (hR.2.2 _ (by omega)).1 dX4_tend_34 ?_
      refine lv_iconst (v := nI 2) hx hb dX4_tend_35 rfl ?_
      refine x_icmp_ne (tgt := 44) hx hb (by omega) (by omega) dX4_tend_36 (by decide) (fun c36 => ?_) (fun c36 => ?_)
      · skip
        refine lv_iload_n hx hb dX4_tend_44 rfl (lv_at hl 1 rfl) ?_
        exact hend _ _ _ _ _ _ (by first | (simp [uTend, c5, hxj, c18] <;> rfl) | exact absurd c18 c36 | exact absurd c36 c18) (by rw [vTend, if_pos c5, hxj]; first | rw [if_pos c18] | rw [if_neg c18]) hP hS dX4_tend_45
      · skip
        refine lv_bipush (v := nI 40) hx hb dX4_tend_39 rfl ?_
        refine lv_goto (tgt := 45) hx hb dX4_tend_41 (by decide) ?_
        exact hend _ _ _ _ _ _ (by first | (simp [uTend, c5, hxj, c18] <;> rfl) | exact absurd c18 c36 | exact absurd c36 c18) (by rw [vTend, if_pos c5, hxj]; first | rw [if_pos c18] | rw [if_neg c18]) hP hS dX4_tend_45
  · skip
    have c5 : inB t (n 3) = false := by simpa using c5
    refine lv_iconst (v := -1) hx hb dX4_tend_8 rfl ?_
    exact hend _ _ _ _ _ _ (by simp [uTend, inB02, c5] <;> rfl) (by rw [vTend, if_neg (by rw [c5]; decide), uF_self]) hP hS dX4_tend_9
theorem hdX4_failed : yX4_failed.cls = RX4 ∧ yX4_failed.cls ≠ "java/lang/invoke/MethodHandle" ∧ yX4_failed.cls ≠ "java/lang/invoke/VarHandle" ∧ (parseMethodDescriptor yX4_failed.desc).map (fun d => d.parameters.length) = some 1 := by decide +kernel
theorem hdX4_refused : yX4_refused.cls = RX4 ∧ yX4_refused.cls ≠ "java/lang/invoke/MethodHandle" ∧ yX4_refused.cls ≠ "java/lang/invoke/VarHandle" ∧ (parseMethodDescriptor yX4_refused.desc).map (fun d => d.parameters.length) = some 1 := by decide +kernel
set_option maxRecDepth 20000 in
theorem ggX4_as_X4_noThing : GoodIn wsX4_as wsX4_noThing := goodIn_r _ [7, 8, 9, 10, 6, 11, 21, 22, 23, 24, 25, 26, 27, 28, 29, 30, 31, 32, 33, 34, 35, 36, 37, 38, 39, 40, 41, 42, 43, 44, 45, 46, 47, 48, 49, 50, 51] (by decide +kernel) (by decide +kernel)
set_option maxRecDepth 20000 in
theorem gX4_as_X4_noThing : GoodIn wsX4_as (wsV RX4 150 RX4 yX4_noThing wsX4_noThing) := goodIn_app (goodIn_of _ (by decide +kernel)) ggX4_as_X4_noThing
set_option maxRecDepth 20000 in
theorem ggX4_as_X4_in : GoodIn wsX4_as wsX4_in := goodIn_r _ [11] (by decide +kernel) (by decide +kernel)
set_option maxRecDepth 20000 in
theorem gX4_as_X4_in : GoodIn wsX4_as (va_wsS RX4 82 yX4_in wsX4_in) := goodIn_app (goodIn_of _ (by decide +kernel)) ggX4_as_X4_in
set_option maxRecDepth 20000 in
theorem ggX4_as_X4_failed : GoodIn wsX4_as wsX4_failed := goodIn_r _ [20, 16, 21, 22, 23, 24, 25, 26, 27, 28, 29, 30, 31, 32, 33, 34, 35, 36, 37, 38, 39, 40, 41, 42, 43, 44, 45, 46, 47, 48, 49, 50, 51] (by decide +kernel) (by decide +kernel)
set_option maxRecDepth 20000 in
theorem gX4_as_X4_failed : GoodIn wsX4_as (wsV RX4 129 RX4 yX4_failed wsX4_failed) := goodIn_app (goodIn_of _ (by decide +kernel)) ggX4_as_X4_failed
set_option maxRecDepth 20000 in
theorem ggX4_as_X4_refused : GoodIn wsX4_as wsX4_refused := goodIn_r _ [15, 16, 21, 22, 23, 24, 25, 26, 27, 28, 29, 30, 31, 32, 33, 34, 35, 36, 37, 38, 39, 40, 41, 42, 43, 44, 45, 46, 47, 48, 49, 50, 51] (by decide +kernel) (by decide +kernel)
set_option maxRecDepth 20000 in
theorem gX4_as_X4_refused : GoodIn wsX4_as (wsV RX4 123 RX4 yX4_refused wsX4_refused) := goodIn_app (goodIn_of _ (by decide +kernel)) ggX4_as_X4_refused
set_option maxHeartbeats 4000000 in
set_option maxRecDepth 100000 in
theorem kX4_as (l : Launch) (dC : Nat → ClassId) (dI : Nat → Nat → Nat) (cI cZ : ClassId) (q n : Nat → Nat) (mb : Int32) (f : Nat → Int32) (A : Nat → Nat → Nat) (Y : Nat → Nat → Int32) (hW : WF n A) (hR : RM n A Y) (hmb : 0 < n 6 → mb = nI (n 7)) (t : Int32) (k : Int32) (sz : Nat) : Met l yX4_as wsX4_as ({ frames := 2, cells := 0, slots := 0, locals := 46 }) (rwP [.ref (q 0), .int t, .int k] sz (dC, dI) [(cI, .int), (cZ, .boolean)] (wM cI cZ q n mb f Y)) (rwQi (uAs n A t k) (dC, dI) (wM cI cZ q n mb f Y) (wM cI cZ q n mb (uF f 0 (vAs n A t k)) Y) sz) 0 0 (va_A (wM cI cZ q n mb f Y) sz) := by
  refine rw_met_i (by decide) rfl (Nat.le_of_ble_eq_true rfl) ?_
  intro pp ee ss mm aa bb me cd RR QQ Z hx hb hml hown hts hRf hRl hP hK hD hA hS hend ls hl
  have hown : ss.vm.findClass RX4 = some mm.cls := hown
  have hRf : 2 ≤ RR.frames := hRf
  have hRl : 46 ≤ RR.locals := hRl
  have hl : lv_has ls 3 [(0, .ref (q 0)), (1, .int t), (2, .int k)] := hl
  obtain ⟨w0, w1, w2, w3, w4, w5, w6, w7, w8, wA0, wA1, wA2⟩ := id hW
  have wC : n 0 * n 1 ≤ 42 := Nat.mul_le_mul w0 w1
  have hk127 := hts (.constantLong RX4 127 (2)) (List.mem_of_getElem? (i := 1) rfl)
  have hf16 := hts (.fieldLink RX4 16 "StatueSquareModel" "kindOf" "[I") (List.mem_of_getElem? (i := 2) rfl)
  have hinX4 : ∀ w ∈ u_ws RX4 TX4 31, w ∈ wsX4_as := fun _ h => List.mem_cons_of_mem _ (List.mem_append_right _ h)
  refine lv_aload_n hx hb dX4_as_0 rfl (lv_at hl 0 rfl) ?_
  refine lv_iload_n hx hb dX4_as_1 rfl (lv_at hl 1 rfl) ?_
  refine roV_i (As := [.int t]) (rest := []) ⟨hx, hb, hml, hown, hts⟩ (kX4_noThing l dC dI cI cZ q n mb f A Y hW hR hmb t _ ) (cwV 1 hts gX4_as_X4_noThing rfl rfl rfl hdX4_noThing ⟨Nat.le_trans (Nat.le_of_ble_eq_true rfl) hRf, Nat.le_trans (Nat.le_of_ble_eq_true rfl) hRl⟩) (va_recv hK hP (ci := 4) (q0 := 0) rfl rfl) hK hP rfl hl.1 rfl (Nat.le_of_ble_eq_true rfl) dX4_as_2 ⟨Nat.zero_le _, Nat.zero_le _⟩ hP hS hA (fun H locs hP hS => ?_)
  refine x_ifb_eq (tgt := 14) hx hb dX4_as_5 (by decide) (fun c5 => ?_) (fun c5 => ?_)
  · skip
    have c5 : inB t (n 3) = true := by simpa using c5
    obtain ⟨j, hj, rfl⟩ := inB_t (by omega) c5
    have hxj : xn (nI j) = j := xn_nI (by omega)
    refine lv_iload_n hx hb dX4_as_14 rfl (lv_at hl 2 rfl) ?_
    refine lv_i2l hx hb dX4_as_15 rfl ?_
    refine lv_lconst (v := 0) hx hb dX4_as_16 rfl ?_
    refine lv_ldc2 hx hb hown hk127 dX4_as_17 ?_
    refine roS_i (As := [.long k.toInt64, .long 0, .long 2]) (rest := []) ⟨hx, hb, hml, hown, hts⟩ (kX4_in l dC dI k.toInt64 0 2 _ ) (va_cwS 3 hts gX4_as_X4_in rfl rfl rfl hdX4_in ⟨Nat.le_trans (Nat.le_of_ble_eq_true rfl) hRf, Nat.le_trans (Nat.le_of_ble_eq_true rfl) hRl⟩) (hK.sub [] rfl) (hP.sub [] rfl) rfl hl.1 rfl (Nat.le_of_ble_eq_true rfl) dX4_as_20 ⟨Nat.zero_le _, Nat.zero_le _⟩ hP hS hA (fun H locs hP hS => ?_)
    refine x_top (y := bI (inB k 3)) (congrArg bI (inL_c (by omega) rfl)) ?_
    refine x_ifb_ne (tgt := 33) hx hb dX4_as_23 (by decide) (fun c23 => ?_) (fun c23 => ?_)
    · skip
      obtain ⟨i, hi, rfl⟩ := inB_t (by omega) c23
      have hxi : xn (nI i) = i := xn_nI (by omega)
      have wt := wA2 j hj
      refine lv_aload_n hx hb dX4_as_33 rfl (lv_at hl 0 rfl) ?_
      refine x_get (D := (dC, dI)) (ci := 4) (v := .ref (q 3)) (C := RX4) (T := TX4) (N := 31) hx hb hts hinX4 hown hK hP 0 rfl rfl 7 (Nat.le_of_ble_eq_true rfl) hf16 rfl rfl dX4_as_34 ?_
      refine lv_iload_n hx hb dX4_as_37 rfl (lv_at hl 1 rfl) ?_
      refine x_iald (v := (nI (A 2 j))) hx hb hK hP 3 0 rfl rfl (by omega) (by decide) (hR.2.2 _ (by omega)).1 dX4_as_38 ?_
      refine lv_iload_n hx hb dX4_as_39 rfl (lv_at hl 2 rfl) ?_
      refine x_icmp_lt (tgt := 51) hx hb (by omega) (by omega) dX4_as_40 (by decide) (fun c40 => ?_) (fun c40 => ?_)
      · skip
        refine lv_aload_n hx hb dX4_as_51 rfl (lv_at hl 0 rfl) ?_
        refine lv_iconst (v := nI 2) hx hb dX4_as_52 rfl ?_
        refine rwW_i (As := [.int (nI 2)]) (rest := []) (wn := wM cI cZ q n mb (uF f 0 (nI 2)) Y) ⟨hx, hb, hml, hown, hts⟩ (kX4_failed l dC dI cI cZ q n mb f Y 2 _) (cwV 1 hts gX4_as_X4_failed rfl rfl rfl hdX4_failed ⟨Nat.le_trans (Nat.le_of_ble_eq_true rfl) hRf, Nat.le_trans (Nat.le_of_ble_eq_true rfl) hRl⟩) (va_recv hK hP (ci := 4) (q0 := 0) rfl rfl) hK rfl hl.1 rfl (Nat.le_of_ble_eq_true rfl) dX4_as_53 ⟨Nat.zero_le _, Nat.zero_le _⟩ hP hD hS hA [0, 1, 2, 3, 4, 5, 6, 7, 8, 9, 10, 11, 12, 13, 14, 15, 16] [] [0, 1, 2, 3, 4, 5, 6, 7, 8, 9, 10, 11, 12, 13, 14, 15, 16] rfl rfl (by decide) (by decide) (by decide) rfl rfl (fun H locs hP hS => ?_)
        have hD : va_D Z (wM cI cZ q n mb (uF f 0 (nI 2)) Y) := hD.same rfl
        exact hend _ _ _ _ _ _ (by simp [uAs, c5, c23, hxj, hxi, show A 2 j < i from by omega] <;> rfl) (by simp [vAs, c5, c23, hxj, hxi, show A 2 j < i from by omega] <;> rfl) hP hS dX4_as_56
      · skip
        refine lv_aload_n hx hb dX4_as_43 rfl (lv_at hl 0 rfl) ?_
        refine lv_iconst (v := nI 1) hx hb dX4_as_44 rfl ?_
        refine rwW_i (As := [.int (nI 1)]) (rest := []) (wn := wM cI cZ q n mb (uF f 0 0) Y) ⟨hx, hb, hml, hown, hts⟩ (kX4_refused l dC dI cI cZ q n mb f Y (nI 1) _) (cwV 1 hts gX4_as_X4_refused rfl rfl rfl hdX4_refused ⟨Nat.le_trans (Nat.le_of_ble_eq_true rfl) hRf, Nat.le_trans (Nat.le_of_ble_eq_true rfl) hRl⟩) (va_recv hK hP (ci := 4) (q0 := 0) rfl rfl) hK rfl hl.1 rfl (Nat.le_of_ble_eq_true rfl) dX4_as_45 ⟨Nat.zero_le _, Nat.zero_le _⟩ hP hD hS hA [0, 1, 2, 3, 4, 5, 6, 7, 8, 9, 10, 11, 12, 13, 14, 15, 16] [] [0, 1, 2, 3, 4, 5, 6, 7, 8, 9, 10, 11, 12, 13, 14, 15, 16] rfl rfl (by decide) (by decide) (by decide) rfl rfl (fun H locs hP hS => ?_)
        have hD : va_D Z (wM cI cZ q n mb (uF f 0 0) Y) := hD.same rfl
        refine lv_goto (tgt := 56) hx hb dX4_as_48 (by decide) ?_
        exact hend _ _ _ _ _ _ (by simp [uAs, c5, c23, hxj, hxi, show ¬ A 2 j < i from by omega] <;> rfl) (by simp [vAs, c5, c23, hxj, hxi, show ¬ A 2 j < i from by omega] <;> rfl) hP hS dX4_as_56
    · skip
      refine lv_aload_n hx hb dX4_as_26 rfl (lv_at hl 0 rfl) ?_
      refine lv_bipush (v := -2) hx hb dX4_as_27 rfl ?_
      refine rwW_i (As := [.int (-2)]) (rest := []) (wn := wM cI cZ q n mb (uF f 0 0) Y) ⟨hx, hb, hml, hown, hts⟩ (kX4_refused l dC dI cI cZ q n mb f Y (-2) _) (cwV 1 hts gX4_as_X4_refused rfl rfl rfl hdX4_refused ⟨Nat.le_trans (Nat.le_of_ble_eq_true rfl) hRf, Nat.le_trans (Nat.le_of_ble_eq_true rfl) hRl⟩) (va_recv hK hP (ci := 4) (q0 := 0) rfl rfl) hK rfl hl.1 rfl (Nat.le_of_ble_eq_true rfl) dX4_as_29 ⟨Nat.zero_le _, Nat.zero_le _⟩ hP hD hS hA [0, 1, 2, 3, 4, 5, 6, 7, 8, 9, 10, 11, 12, 13, 14, 15, 16] [] [0, 1, 2, 3, 4, 5, 6, 7, 8, 9, 10, 11, 12, 13, 14, 15, 16] rfl rfl (by decide) (by decide) (by decide) rfl rfl (fun H locs hP hS => ?_)
      have hD : va_D Z (wM cI cZ q n mb (uF f 0 0) Y) := hD.same rfl
      exact hend _ _ _ _ _ _ (by simp [uAs, inB02, c5, c23] <;> rfl) (by simp [vAs, inB02, c5, c23] <;> rfl) hP hS dX4_as_32
  · skip
    have c5 : inB t (n 3) = false := by simpa using c5
    refine lv_aload_n hx hb dX4_as_8 rfl (lv_at hl 0 rfl) ?_
    refine lv_iconst (v := -1) hx hb dX4_as_9 rfl ?_
    refine rwW_i (As := [.int (-1)]) (rest := []) (wn := wM cI cZ q n mb (uF f 0 0) Y) ⟨hx, hb, hml, hown, hts⟩ (kX4_refused l dC dI cI cZ q n mb f Y (-1) _) (cwV 1 hts gX4_as_X4_refused rfl rfl rfl hdX4_refused ⟨Nat.le_trans (Nat.le_of_ble_eq_true rfl) hRf, Nat.le_trans (Nat.le_of_ble_eq_true rfl) hRl⟩) (va_recv hK hP (ci := 4) (q0 := 0) rfl rfl) hK rfl hl.1 rfl (Nat.le_of_ble_eq_true rfl) dX4_as_10 ⟨Nat.zero_le _, Nat.zero_le _⟩ hP hD hS hA [0, 1, 2, 3, 4, 5, 6, 7, 8, 9, 10, 11, 12, 13, 14, 15, 16] [] [0, 1, 2, 3, 4, 5, 6, 7, 8, 9, 10, 11, 12, 13, 14, 15, 16] rfl rfl (by decide) (by decide) (by decide) rfl rfl (fun H locs hP hS => ?_)
    have hD : va_D Z (wM cI cZ q n mb (uF f 0 0) Y) := hD.same rfl
    exact hend _ _ _ _ _ _ (by simp [uAs, inB02, c5] <;> rfl) (by simp [vAs, inB02, c5] <;> rfl) hP hS dX4_as_13
