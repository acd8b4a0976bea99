theorem hdX4_failedLong : yX4_failedLong.cls = RX4 ∧ yX4_failedLong.cls ≠ "java/lang/invoke/MethodHandle" ∧ yX4_failedLong.cls ≠ "java/lang/invoke/VarHandle" ∧ (parseMethodDescriptor yX4_failedLong.desc).map (fun d => d.parameters.length) = some 1 := by decide +kernel
set_option maxRecDepth 20000 in
theorem ggX4_cell_X4_noSheet : GoodIn wsX4_cell wsX4_noSheet := goodIn_r _ [9, 10, 11, 12, 8, 13] (by decide +kernel) (by decide +kernel)
set_option maxRecDepth 20000 in
theorem gX4_cell_X4_noSheet : GoodIn wsX4_cell (va_wsS RX4 119 yX4_noSheet wsX4_noSheet) := goodIn_app (goodIn_of _ (by decide +kernel)) ggX4_cell_X4_noSheet
set_option maxRecDepth 20000 in
theorem ggX4_cell_X4_lost : GoodIn wsX4_cell wsX4_lost := goodIn_r _ [16, 17] (by decide +kernel) (by decide +kernel)
set_option maxRecDepth 20000 in
theorem gX4_cell_X4_lost : GoodIn wsX4_cell (va_wsS RX4 68 yX4_lost wsX4_lost) := goodIn_app (goodIn_of _ (by decide +kernel)) ggX4_cell_X4_lost
set_option maxRecDepth 20000 in
theorem ggX4_cell_X4_in : GoodIn wsX4_cell wsX4_in := goodIn_r _ [13] (by decide +kernel) (by decide +kernel)
set_option maxRecDepth 20000 in
theorem gX4_cell_X4_in : GoodIn wsX4_cell (va_wsS RX4 82 yX4_in wsX4_in) := goodIn_app (goodIn_of _ (by decide +kernel)) ggX4_cell_X4_in
set_option maxRecDepth 20000 in
theorem ggX4_cell_X4_noCell_ : GoodIn wsX4_cell wsX4_noCell_ := goodIn_r _ [25, 3, 11, 12, 8, 13, 26, 27, 28, 29, 30, 31, 32, 33, 34, 35, 36, 37, 38, 39, 40, 41, 42, 43, 44, 45, 46, 47, 48, 49, 50, 51, 52, 53, 54, 55, 56] (by decide +kernel) (by decide +kernel)
set_option maxRecDepth 20000 in
theorem gX4_cell_X4_noCell_ : GoodIn wsX4_cell (wsV RX4 202 RX4 yX4_noCell_ wsX4_noCell_) := goodIn_app (goodIn_of _ (by decide +kernel)) ggX4_cell_X4_noCell_
set_option maxRecDepth 20000 in
theorem ggX4_cell_X4_failedLong : GoodIn wsX4_cell wsX4_failedLong := goodIn_r _ [21, 1, 14, 15, 8, 16, 17, 26, 27, 28, 29, 30, 31, 32, 33, 34, 35, 36, 37, 38, 39, 40, 41, 42, 43, 44, 45, 46, 47, 48, 49, 50, 51, 52, 53, 54, 55, 56] (by decide +kernel) (by decide +kernel)
set_option maxRecDepth 20000 in
theorem gX4_cell_X4_failedLong : GoodIn wsX4_cell (wsV RX4 204 RX4 yX4_failedLong wsX4_failedLong) := goodIn_app (goodIn_of _ (by decide +kernel)) ggX4_cell_X4_failedLong
set_option maxHeartbeats 4000000 in
set_option maxRecDepth 100000 in
theorem kX4_cell (l : Launch) (dC : Nat → ClassId) (dI : Nat → Nat → Nat) (cI cZ : ClassId) (q n : Nat → Nat) (mb : Int32) (f : Nat → Int32) (Y : Nat → Nat → Int32) (hs : Nat → Bool) (la le : Nat → Nat) (C : Nat → Nat → Int32) (hRS : RS hs la le C Y) (k : Int32) (i : Int32) (lane : Int32) (sz : Nat) : Met l yX4_cell wsX4_cell ({ frames := 2, cells := 0, slots := 0, locals := 47 }) (rwP [.ref (q 0), .int k, .int i, .int lane] sz (dC, dI) [(cI, .int), (cZ, .boolean)] (wM cI cZ q n mb f Y)) (rwQl (uCell hs la le C k i lane) (dC, dI) (wM cI cZ q n mb f Y) (wM cI cZ q n mb (uF f 0 (fCell hs la le k i lane)) Y) sz) 0 0 (va_A (wM cI cZ q n mb f Y) sz) := by
  refine rw_met_l (by decide) rfl (Nat.le_of_ble_eq_true rfl) ?_
  intro pp ee ss mm aa bb me cd RR QQ Z hx hb hml hown hts hRf hRl hP hK hD hA hS hend ls hl
  have hown : ss.vm.findClass RX4 = some mm.cls := hown
  have hRf : 2 ≤ RR.frames := hRf
  have hRl : 47 ≤ RR.locals := hRl
  have hl : lv_has ls 4 [(0, .ref (q 0)), (1, .int k), (2, .int i), (3, .int lane)] := hl
  have hf65 := hts (.fieldLink RX4 65 "StatueSquareModel" "fault" "I") (List.mem_of_getElem? (i := 1) rfl)
  have hinX4 : ∀ w ∈ u_ws RX4 TX4 31, w ∈ wsX4_cell := fun _ h => List.mem_cons_of_mem _ (List.mem_append_right _ h)
  have hk127 := hts (.constantLong RX4 127 (2)) (List.mem_of_getElem? (i := 2) rfl)
  have hf51 := hts (.fieldLink RX4 51 "StatueSquareModel" "sheetSize" "[I") (List.mem_of_getElem? (i := 3) rfl)
  have hf57 := hts (.fieldLink RX4 57 "StatueSquareModel" "sheet" "[I") (List.mem_of_getElem? (i := 5) rfl)
  have hf54 := hts (.fieldLink RX4 54 "StatueSquareModel" "sheetLane" "[I") (List.mem_of_getElem? (i := 4) rfl)
  refine lv_aload_n hx hb dX4_cell_0 rfl (lv_at hl 0 rfl) ?_
  refine lv_iconst (v := nI 0) hx hb dX4_cell_1 rfl ?_
  refine x_put (D := (dC, dI)) (ci := 4) (v := .int (nI 0)) (C := RX4) (T := TX4) (N := 31) (wn := wM cI cZ q n mb (uF f 0 (nI 0)) Y) hx hb hts hinX4 tyX4 tyX4_ok nmX4 hown hK hP hD hS 0 rfl rfl 0 (Nat.le_of_ble_eq_true rfl) hf65 rfl rfl rfl rfl (Nat.le_of_ble_eq_true rfl) rfl dX4_cell_2 (fun H locs hP hS => ?_)
  have hD : va_D Z (wM cI cZ q n mb (uF f 0 (nI 0)) Y) := hD.same rfl
  refine lv_iload_n hx hb dX4_cell_5 rfl (lv_at hl 1 rfl) ?_
  refine roS_i (As := [.int k]) (rest := []) ⟨hx, hb, hml, hown, hts⟩ (kX4_noSheet l dC dI k _ ) (va_cwS 1 hts gX4_cell_X4_noSheet rfl rfl rfl hdX4_noSheet ⟨Nat.le_trans (Nat.le_of_ble_eq_true rfl) hRf, Nat.le_trans (Nat.le_of_ble_eq_true rfl) hRl⟩) (hK.sub [] rfl) (hP.sub [] rfl) rfl hl.1 rfl (Nat.le_of_ble_eq_true rfl) dX4_cell_6 ⟨Nat.zero_le _, Nat.zero_le _⟩ hP hS hA (fun H locs hP hS => ?_)
  refine x_ifb_ne (tgt := 24) hx hb dX4_cell_9 (by decide) (fun c9 => ?_) (fun c9 => ?_)
  · skip
    have c9 : inB k 4 = false := by simpa using c9
    refine roS_l (As := []) (rest := []) ⟨hx, hb, hml, hown, hts⟩ (kX4_lost l dC dI  _ ) (va_cwS 0 hts gX4_cell_X4_lost rfl rfl rfl hdX4_lost ⟨Nat.le_trans (Nat.le_of_ble_eq_true rfl) hRf, Nat.le_trans (Nat.le_of_ble_eq_true rfl) hRl⟩) (hK.sub [] rfl) (hP.sub [] rfl) rfl hl.1 rfl (Nat.le_of_ble_eq_true rfl) dX4_cell_24 ⟨Nat.zero_le _, Nat.zero_le _⟩ hP hS hA (fun H locs hP hS => ?_)
    exact hend _ _ _ _ _ _ (by rw [uCell, if_neg (fun q => absurd q.1 (by rw [c9]; decide))]) (by rw [fCell, if_neg (fun q => absurd q.1 (by rw [c9]; decide))] <;> rfl) hP hS dX4_cell_27
  · skip
    have c9 : inB k 4 = true := by simpa using c9
    obtain ⟨j, hj, rfl⟩ := inB_t (by omega) c9
    have hxj : xn (nI j) = j := xn_nI (by omega)
    have hBj := (hRS j hj).2.2.2
    refine lv_iload_n hx hb dX4_cell_12 rfl (lv_at hl 3 rfl) ?_
    refine lv_i2l hx hb dX4_cell_13 rfl ?_
    refine lv_lconst (v := 0) hx hb dX4_cell_14 rfl ?_
    refine lv_ldc2 hx hb hown hk127 dX4_cell_15 ?_
    refine roS_i (As := [.long lane.toInt64, .long 0, .long 2]) (rest := []) ⟨hx, hb, hml, hown, hts⟩ (kX4_in l dC dI lane.toInt64 0 2 _ ) (va_cwS 3 hts gX4_cell_X4_in rfl rfl rfl hdX4_in ⟨Nat.le_trans (Nat.le_of_ble_eq_true rfl) hRf, Nat.le_trans (Nat.le_of_ble_eq_true rfl) hRl⟩) (hK.sub [] rfl) (hP.sub [] rfl) rfl hl.1 rfl (Nat.le_of_ble_eq_true rfl) dX4_cell_18 ⟨Nat.zero_le _, Nat.zero_le _⟩ hP hS hA (fun H locs hP hS => ?_)
    refine x_top (y := bI (inB lane 3)) (congrArg bI (inL_c (by omega) rfl)) ?_
    refine x_ifb_ne (tgt := 28) hx hb dX4_cell_21 (by decide) (fun c21 => ?_) (fun c21 => ?_)
    · skip
      obtain ⟨l0, hl0, rfl⟩ := inB_t (by omega) c21
      have hxl0 : xn (nI l0) = l0 := xn_nI (by omega)
      refine lv_aload_n hx hb dX4_cell_28 rfl (lv_at hl 0 rfl) ?_
      refine x_get (D := (dC, dI)) (ci := 4) (v := .ref (q 13)) (C := RX4) (T := TX4) (N := 31) hx hb hts hinX4 hown hK hP 0 rfl rfl 26 (Nat.le_of_ble_eq_true rfl) hf51 rfl rfl dX4_cell_29 ?_
      refine lv_iload_n hx hb dX4_cell_32 rfl (lv_at hl 1 rfl) ?_
      refine x_iald (v := (szI (hs j) (le j))) hx hb hK hP 13 0 rfl rfl (by omega) (by decide) (hRS _ (by omega)).1 dX4_cell_33 ?_
      refine lv_if_lt (tgt := 53) hx hb dX4_cell_34 (by decide) (fun c34 => ?_) (fun c34 => ?_)
      · skip
        have hh0 := szI_lt (by omega) c34
        have hcs : hs j = true → la j = l0 := fun q => absurd q (by rw [hh0]; decide)
        refine lv_aload_n hx hb dX4_cell_53 rfl (lv_at hl 0 rfl) ?_
        refine lv_iload_n hx hb dX4_cell_54 rfl (lv_at hl 1 rfl) ?_
        refine lv_iload_n hx hb dX4_cell_55 rfl (lv_at hl 2 rfl) ?_
        refine roV_i (As := [.int (nI j), .int i]) (rest := []) ⟨hx, hb, hml, hown, hts⟩ (kX4_noCell_ l dC dI cI cZ q n mb (uF f 0 (nI 0)) Y hs la le C hRS j i _ (by omega)) (cwV 2 hts gX4_cell_X4_noCell_ rfl rfl rfl hdX4_noCell_ ⟨Nat.le_trans (Nat.le_of_ble_eq_true rfl) hRf, Nat.le_trans (Nat.le_of_ble_eq_true rfl) hRl⟩) (va_recv hK hP (ci := 4) (q0 := 0) rfl rfl) hK hP rfl hl.1 rfl (Nat.le_of_ble_eq_true rfl) dX4_cell_56 ⟨Nat.zero_le _, Nat.zero_le _⟩ hP hS hA (fun H locs hP hS => ?_)
        refine x_if_le (tgt := 75) hx hb (ncN_lt _ _ _ _) dX4_cell_59 (by decide) (fun c59 => ?_) (fun c59 => ?_)
        · skip
          have hnc := ncN_0 c59
          have hh1 := hnc.1
          have hin := hnc.2
          have hla := hcs hh1
          obtain ⟨ii, hii, rfl⟩ := inB_t (by omega) hin
          have hxii : xn (nI ii) = ii := xn_nI (by omega)
          refine lv_aload_n hx hb dX4_cell_75 rfl (lv_at hl 0 rfl) ?_
          refine x_get (D := (dC, dI)) (ci := 4) (v := .ref (q 15)) (C := RX4) (T := TX4) (N := 31) hx hb hts hinX4 hown hK hP 0 rfl rfl 28 (Nat.le_of_ble_eq_true rfl) hf57 rfl rfl dX4_cell_76 ?_
          refine lv_bipush (v := nI 100) hx hb dX4_cell_79 rfl ?_
          refine lv_iload_n hx hb dX4_cell_81 rfl (lv_at hl 1 rfl) ?_
          refine x_imul hx hb dX4_cell_82 ?_
          refine lv_iload_n hx hb dX4_cell_83 rfl (lv_at hl 2 rfl) ?_
          refine x_iadd hx hb dX4_cell_84 ?_
          refine x_iald (v := (C j ii)) hx hb hK hP 15 0 rfl rfl (by omega) (by decide) ((hRS j hj).2.2.1 hh1 ii hii) dX4_cell_85 ?_
          refine lv_i2l hx hb dX4_cell_86 rfl ?_
          exact hend _ _ _ _ _ _ (by rw [uCell, if_pos ⟨c9, c21⟩, hxj, hxl0, if_pos ⟨by simp [faR, hh1, hla], hin⟩, hxii]) (by rw [fCell, if_pos ⟨c9, c21⟩, hxj, hxl0, if_pos (show faR (hs j) (la j) l0 = 0 from by simp [faR, hh1, hla]), if_pos hin] <;> rfl) hP hS dX4_cell_87
        · skip
          have hh1 := c59
          refine lv_aload_n hx hb dX4_cell_62 rfl (lv_at hl 0 rfl) ?_
          refine lv_aload_n hx hb dX4_cell_63 rfl (lv_at hl 0 rfl) ?_
          refine lv_iload_n hx hb dX4_cell_64 rfl (lv_at hl 1 rfl) ?_
          refine lv_iload_n hx hb dX4_cell_65 rfl (lv_at hl 2 rfl) ?_
          refine roV_i (As := [.int (nI j), .int i]) (rest := [.ref (q 0)]) ⟨hx, hb, hml, hown, hts⟩ (kX4_noCell_ l dC dI cI cZ q n mb (uF f 0 (nI 0)) Y hs la le C hRS j i _ (by omega)) (cwV 2 hts gX4_cell_X4_noCell_ rfl rfl rfl hdX4_noCell_ ⟨Nat.le_trans (Nat.le_of_ble_eq_true rfl) hRf, Nat.le_trans (Nat.le_of_ble_eq_true rfl) hRl⟩) (va_recv hK hP (ci := 4) (q0 := 0) rfl rfl) hK hP rfl hl.1 rfl (Nat.le_of_ble_eq_true rfl) dX4_cell_66 ⟨Nat.zero_le _, Nat.zero_le _⟩ hP hS hA (fun H locs hP hS => ?_)
          refine rwW_l (As := [.int (nI (ncN hs le j i))]) (rest := []) (wn := wM cI cZ q n mb (uF (uF f 0 (nI 0)) 0 (nI (ncN hs le j i))) Y) ⟨hx, hb, hml, hown, hts⟩ (kX4_failedLong l dC dI cI cZ q n mb (uF f 0 (nI 0)) Y (ncN hs le j i) _) (cwV 1 hts gX4_cell_X4_failedLong rfl rfl rfl hdX4_failedLong ⟨Nat.le_trans (Nat.le_of_ble_eq_true rfl) hRf, Nat.le_trans (Nat.le_of_ble_eq_true rfl) hRl⟩) (va_recv hK hP (ci := 4) (q0 := 0) rfl rfl) hK rfl hl.1 rfl (Nat.le_of_ble_eq_true rfl) dX4_cell_69 ⟨Nat.zero_le _, Nat.zero_le _⟩ hP hD hS hA [0, 1, 2, 3, 4, 5, 6, 7, 8, 9, 10, 11, 12, 13, 14, 15, 16] [] [0, 1, 2, 3, 4, 5, 6, 7, 8, 9, 10, 11, 12, 13, 14, 15, 16] rfl rfl (by decide) (by decide) (by decide) rfl rfl (fun H locs hP hS => ?_)
          have hD : va_D Z (wM cI cZ q n mb (uF (uF f 0 (nI 0)) 0 (nI (ncN hs le j i))) Y) := hD.same rfl
          refine lv_goto (tgt := 87) hx hb dX4_cell_72 (by decide) ?_
          exact hend _ _ _ _ _ _ (by rw [uCell, if_pos ⟨c9, c21⟩, hxj, hxl0, if_neg (fun q => mcell_no hh1 q.2 q.1)]) (by rw [fCell, if_pos ⟨c9, c21⟩, hxj, hxl0, uF_uF, mcell_fv hh1 hcs]) hP hS dX4_cell_87
      · skip
        have hh := szI_nlt c34
        refine lv_aload_n hx hb dX4_cell_37 rfl (lv_at hl 0 rfl) ?_
        refine x_get (D := (dC, dI)) (ci := 4) (v := .ref (q 14)) (C := RX4) (T := TX4) (N := 31) hx hb hts hinX4 hown hK hP 0 rfl rfl 27 (Nat.le_of_ble_eq_true rfl) hf54 rfl rfl dX4_cell_38 ?_
        refine lv_iload_n hx hb dX4_cell_41 rfl (lv_at hl 1 rfl) ?_
        refine x_iald (v := (nI (la j))) hx hb hK hP 14 0 rfl rfl (by omega) (by decide) ((hRS _ (by omega)).2.1 hh) dX4_cell_42 ?_
        refine lv_iload_n hx hb dX4_cell_43 rfl (lv_at hl 3 rfl) ?_
        refine x_icmp_eq (tgt := 53) hx hb (by omega) (by omega) dX4_cell_44 (by decide) (fun c44 => ?_) (fun c44 => ?_)
        · skip
          have hcs : hs j = true → la j = l0 := fun _ => c44
          refine lv_aload_n hx hb dX4_cell_53 rfl (lv_at hl 0 rfl) ?_
          refine lv_iload_n hx hb dX4_cell_54 rfl (lv_at hl 1 rfl) ?_
          refine lv_iload_n hx hb dX4_cell_55 rfl (lv_at hl 2 rfl) ?_
          refine roV_i (As := [.int (nI j), .int i]) (rest := []) ⟨hx, hb, hml, hown, hts⟩ (kX4_noCell_ l dC dI cI cZ q n mb (uF f 0 (nI 0)) Y hs la le C hRS j i _ (by omega)) (cwV 2 hts gX4_cell_X4_noCell_ rfl rfl rfl hdX4_noCell_ ⟨Nat.le_trans (Nat.le_of_ble_eq_true rfl) hRf, Nat.le_trans (Nat.le_of_ble_eq_true rfl) hRl⟩) (va_recv hK hP (ci := 4) (q0 := 0) rfl rfl) hK hP rfl hl.1 rfl (Nat.le_of_ble_eq_true rfl) dX4_cell_56 ⟨Nat.zero_le _, Nat.zero_le _⟩ hP hS hA (fun H locs hP hS => ?_)
          refine x_if_le (tgt := 75) hx hb (ncN_lt _ _ _ _) dX4_cell_59 (by decide) (fun c59 => ?_) (fun c59 => ?_)
          · skip
            have hnc := ncN_0 c59
            have hh1 := hnc.1
            have hin := hnc.2
            have hla := hcs hh1
            obtain ⟨ii, hii, rfl⟩ := inB_t (by omega) hin
            have hxii : xn (nI ii) = ii := xn_nI (by omega)
            refine lv_aload_n hx hb dX4_cell_75 rfl (lv_at hl 0 rfl) ?_
            refine x_get (D := (dC, dI)) (ci := 4) (v := .ref (q 15)) (C := RX4) (T := TX4) (N := 31) hx hb hts hinX4 hown hK hP 0 rfl rfl 28 (Nat.le_of_ble_eq_true rfl) hf57 rfl rfl dX4_cell_76 ?_
            refine lv_bipush (v := nI 100) hx hb dX4_cell_79 rfl ?_
            refine lv_iload_n hx hb dX4_cell_81 rfl (lv_at hl 1 rfl) ?_
            refine x_imul hx hb dX4_cell_82 ?_
            refine lv_iload_n hx hb dX4_cell_83 rfl (lv_at hl 2 rfl) ?_
            refine x_iadd hx hb dX4_cell_84 ?_
            refine x_iald (v := (C j ii)) hx hb hK hP 15 0 rfl rfl (by omega) (by decide) ((hRS j hj).2.2.1 hh1 ii hii) dX4_cell_85 ?_
            refine lv_i2l hx hb dX4_cell_86 rfl ?_
            exact hend _ _ _ _ _ _ (by rw [uCell, if_pos ⟨c9, c21⟩, hxj, hxl0, if_pos ⟨by simp [faR, hh1, hla], hin⟩, hxii]) (by rw [fCell, if_pos ⟨c9, c21⟩, hxj, hxl0, if_pos (show faR (hs j) (la j) l0 = 0 from by simp [faR, hh1, hla]), if_pos hin] <;> rfl) hP hS dX4_cell_87
          · skip
            have hh1 := c59
            refine lv_aload_n hx hb dX4_cell_62 rfl (lv_at hl 0 rfl) ?_
            refine lv_aload_n hx hb dX4_cell_63 rfl (lv_at hl 0 rfl) ?_
            refine lv_iload_n hx hb dX4_cell_64 rfl (lv_at hl 1 rfl) ?_
            refine lv_iload_n hx hb dX4_cell_65 rfl (lv_at hl 2 rfl) ?_
            refine roV_i (As := [.int (nI j), .int i]) (rest := [.ref (q 0)]) ⟨hx, hb, hml, hown, hts⟩ (kX4_noCell_ l dC dI cI cZ q n mb (uF f 0 (nI 0)) Y hs la le C hRS j i _ (by omega)) (cwV 2 hts gX4_cell_X4_noCell_ rfl rfl rfl hdX4_noCell_ ⟨Nat.le_trans (Nat.le_of_ble_eq_true rfl) hRf, Nat.le_trans (Nat.le_of_ble_eq_true rfl) hRl⟩) (va_recv hK hP (ci := 4) (q0 := 0) rfl rfl) hK hP rfl hl.1 rfl (Nat.le_of_ble_eq_true rfl) dX4_cell_66 ⟨Nat.zero_le _, Nat.zero_le _⟩ hP hS hA (fun H locs hP hS => ?_)
            refine rwW_l (As := [.int (nI (ncN hs le j i))]) (rest := []) (wn := wM cI cZ q n mb (uF (uF f 0 (nI 0)) 0 (nI (ncN hs le j i))) Y) ⟨hx, hb, hml, hown, hts⟩ (kX4_failedLong l dC dI cI cZ q n mb (uF f 0 (nI 0)) Y (ncN hs le j i) _) (cwV 1 hts gX4_cell_X4_failedLong rfl rfl rfl hdX4_failedLong ⟨Nat.le_trans (Nat.le_of_ble_eq_true rfl) hRf, Nat.le_trans (Nat.le_of_ble_eq_true rfl) hRl⟩) (va_recv hK hP (ci := 4) (q0 := 0) rfl rfl) hK rfl hl.1 rfl (Nat.le_of_ble_eq_true rfl) dX4_cell_69 ⟨Nat.zero_le _, Nat.zero_le _⟩ hP hD hS hA [0, 1, 2, 3, 4, 5, 6, 7, 8, 9, 10, 11, 12, 13, 14, 15, 16] [] [0, 1, 2, 3, 4, 5, 6, 7, 8, 9, 10, 11, 12, 13, 14, 15, 16] rfl rfl (by decide) (by decide) (by decide) rfl rfl (fun H locs hP hS => ?_)
            have hD : va_D Z (wM cI cZ q n mb (uF (uF f 0 (nI 0)) 0 (nI (ncN hs le j i))) Y) := hD.same rfl
            refine lv_goto (tgt := 87) hx hb dX4_cell_72 (by decide) ?_
            exact hend _ _ _ _ _ _ (by rw [uCell, if_pos ⟨c9, c21⟩, hxj, hxl0, if_neg (fun q => mcell_no hh1 q.2 q.1)]) (by rw [fCell, if_pos ⟨c9, c21⟩, hxj, hxl0, uF_uF, mcell_fv hh1 hcs]) hP hS dX4_cell_87
        · skip
          refine lv_aload_n hx hb dX4_cell_47 rfl (lv_at hl 0 rfl) ?_
          refine lv_iconst (v := nI 2) hx hb dX4_cell_48 rfl ?_
          refine rwW_l (As := [.int (nI 2)]) (rest := []) (wn := wM cI cZ q n mb (uF (uF f 0 (nI 0)) 0 (nI 2)) Y) ⟨hx, hb, hml, hown, hts⟩ (kX4_failedLong l dC dI cI cZ q n mb (uF f 0 (nI 0)) Y 2 _) (cwV 1 hts gX4_cell_X4_failedLong rfl rfl rfl hdX4_failedLong ⟨Nat.le_trans (Nat.le_of_ble_eq_true rfl) hRf, Nat.le_trans (Nat.le_of_ble_eq_true rfl) hRl⟩) (va_recv hK hP (ci := 4) (q0 := 0) rfl rfl) hK rfl hl.1 rfl (Nat.le_of_ble_eq_true rfl) dX4_cell_49 ⟨Nat.zero_le _, Nat.zero_le _⟩ hP hD hS hA [0, 1, 2, 3, 4, 5, 6, 7, 8, 9, 10, 11, 12, 13, 14, 15, 16] [] [0, 1, 2, 3, 4, 5, 6, 7, 8, 9, 10, 11, 12, 13, 14, 15, 16] rfl rfl (by decide) (by decide) (by decide) rfl rfl (fun H locs hP hS => ?_)
          have hD : va_D Z (wM cI cZ q n mb (uF (uF f 0 (nI 0)) 0 (nI 2)) Y) := hD.same rfl
          exact hend _ _ _ _ _ _ (by rw [uCell, if_pos ⟨c9, c21⟩, hxj, hxl0, if_neg (fun q => absurd q.1 (by simp [faR, hh, c44]))]) (by rw [fCell, if_pos ⟨c9, c21⟩, hxj, hxl0, if_neg (by simp [faR, hh, c44]), uF_uF, faR, if_pos hh, if_neg c44]) hP hS dX4_cell_52
    · skip
      refine roS_l (As := []) (rest := []) ⟨hx, hb, hml, hown, hts⟩ (kX4_lost l dC dI  _ ) (va_cwS 0 hts gX4_cell_X4_lost rfl rfl rfl hdX4_lost ⟨Nat.le_trans (Nat.le_of_ble_eq_true rfl) hRf, Nat.le_trans (Nat.le_of_ble_eq_true rfl) hRl⟩) (hK.sub [] rfl) (hP.sub [] rfl) rfl hl.1 rfl (Nat.le_of_ble_eq_true rfl) dX4_cell_24 ⟨Nat.zero_le _, Nat.zero_le _⟩ hP hS hA (fun H locs hP hS => ?_)
      exact hend _ _ _ _ _ _ (by rw [uCell, if_neg (fun q => absurd q.2 (by rw [c21]; decide))]) (by rw [fCell, if_neg (fun q => absurd q.2 (by rw [c21]; decide))] <;> rfl) hP hS dX4_cell_27
set_option maxRecDepth 20000 in
theorem ggX4_sheet_X4_noSheet : GoodIn wsX4_sheet wsX4_noSheet := goodIn_r _ [8, 9, 10, 11, 7, 12] (by decide +kernel) (by decide +kernel)
set_option maxRecDepth 20000 in
theorem gX4_sheet_X4_noSheet : GoodIn wsX4_sheet (va_wsS RX4 119 yX4_noSheet wsX4_noSheet) := goodIn_app (goodIn_of _ (by decide +kernel)) ggX4_sheet_X4_noSheet
set_option maxRecDepth 20000 in
theorem ggX4_sheet_X4_in : GoodIn wsX4_sheet wsX4_in := goodIn_r _ [12] (by decide +kernel) (by decide +kernel)
set_option maxRecDepth 20000 in
theorem gX4_sheet_X4_in : GoodIn wsX4_sheet (va_wsS RX4 82 yX4_in wsX4_in) := goodIn_app (goodIn_of _ (by decide +kernel)) ggX4_sheet_X4_in
set_option maxRecDepth 20000 in
theorem ggX4_sheet_X4_refused : GoodIn wsX4_sheet wsX4_refused := goodIn_r _ [16, 17, 22, 23, 24, 25, 26, 27, 28, 29, 30, 31, 32, 33, 34, 35, 36, 37, 38, 39, 40, 41, 42, 43, 44, 45, 46, 47, 48, 49, 50, 51, 52] (by decide +kernel) (by decide +kernel)
set_option maxRecDepth 20000 in
theorem gX4_sheet_X4_refused : GoodIn wsX4_sheet (wsV RX4 123 RX4 yX4_refused wsX4_refused) := goodIn_app (goodIn_of _ (by decide +kernel)) ggX4_sheet_X4_refused
set_option maxRecDepth 20000 in
theorem ggX4_sheet_X4_failed : GoodIn wsX4_sheet wsX4_failed := goodIn_r _ [21, 17, 22, 23, 24, 25, 26, 27, 28, 29, 30, 31, 32, 33, 34, 35, 36, 37, 38, 39, 40, 41, 42, 43, 44, 45, 46, 47, 48, 49, 50, 51, 52] (by decide +kernel) (by decide +kernel)
set_option maxRecDepth 20000 in
theorem gX4_sheet_X4_failed : GoodIn wsX4_sheet (wsV RX4 129 RX4 yX4_failed wsX4_failed) := goodIn_app (goodIn_of _ (by decide +kernel)) ggX4_sheet_X4_failed
set_option maxHeartbeats 4000000 in
set_option maxRecDepth 100000 in
theorem kX4_sheet (l : Launch) (dC : Nat → ClassId) (dI : Nat → Nat → Nat) (cI cZ : ClassId) (q n : Nat → Nat) (mb : Int32) (f : Nat → Int32) (Y : Nat → Nat → Int32) (hs : Nat → Bool) (la le : Nat → Nat) (C : Nat → Nat → Int32) (hRS : RS hs la le C Y) (k : Int32) (lane : Int32) (n0 : Int32) (sz : Nat) : Met l yX4_sheet wsX4_sheet ({ frames := 2, cells := 0, slots := 0, locals := 45 }) (rwP [.ref (q 0), .int k, .int lane, .int n0] sz (dC, dI) [(cI, .int), (cZ, .boolean)] (wM cI cZ q n mb f Y)) (rwQi (uSheet k lane n0) (dC, dI) (wM cI cZ q n mb f Y) (wM cI cZ q n mb (uF f 0 (fSheet k lane n0)) (if okSheet k lane n0 = true then uY (uX (uX Y 12 (xn k) (nI (xn n0))) 13 (xn k) (nI (xn lane))) 14 (zf (Y 14) (100 * xn k) (xn n0)) else Y)) sz) 0 0 (va_A (wM cI cZ q n mb f Y) sz) := by
  refine rw_met_i (by decide) rfl (Nat.le_of_ble_eq_true rfl) ?_
  intro pp ee ss mm aa bb me cd RR QQ Z hx hb hml hown hts hRf hRl hP hK hD hA hS hend ls hl
  have hown : ss.vm.findClass RX4 = some mm.cls := hown
  have hRf : 2 ≤ RR.frames := hRf
  have hRl : 45 ≤ RR.locals := hRl
  have hl : lv_has ls 5 [(0, .ref (q 0)), (1, .int k), (2, .int lane), (3, .int n0)] := hl
  have hk127 := hts (.constantLong RX4 127 (2)) (List.mem_of_getElem? (i := 1) rfl)
  have hf51 := hts (.fieldLink RX4 51 "StatueSquareModel" "sheetSize" "[I") (List.mem_of_getElem? (i := 2) rfl)
  have hinX4 : ∀ w ∈ u_ws RX4 TX4 31, w ∈ wsX4_sheet := fun _ h => List.mem_cons_of_mem _ (List.mem_append_right _ h)
  have hf54 := hts (.fieldLink RX4 54 "StatueSquareModel" "sheetLane" "[I") (List.mem_of_getElem? (i := 3) rfl)
  have hf57 := hts (.fieldLink RX4 57 "StatueSquareModel" "sheet" "[I") (List.mem_of_getElem? (i := 4) rfl)
  refine lv_iload_n hx hb dX4_sheet_0 rfl (lv_at hl 1 rfl) ?_
  refine roS_i (As := [.int k]) (rest := []) ⟨hx, hb, hml, hown, hts⟩ (kX4_noSheet l dC dI k _ ) (va_cwS 1 hts gX4_sheet_X4_noSheet rfl rfl rfl hdX4_noSheet ⟨Nat.le_trans (Nat.le_of_ble_eq_true rfl) hRf, Nat.le_trans (Nat.le_of_ble_eq_true rfl) hRl⟩) (hK.sub [] rfl) (hP.sub [] rfl) rfl hl.1 rfl (Nat.le_of_ble_eq_true rfl) dX4_sheet_1 ⟨Nat.zero_le _, Nat.zero_le _⟩ hP hS hA (fun H locs hP hS => ?_)
  refine x_ifb_eq (tgt := 13) hx hb dX4_sheet_4 (by decide) (fun c4 => ?_) (fun c4 => ?_)
  · skip
    have c4 : inB k 4 = true := by simpa using c4
    obtain ⟨j, hj, rfl⟩ := inB_t (by omega) c4
    have hxj : xn (nI j) = j := xn_nI (by omega)
    have hBj := (hRS j hj).2.2.2
    refine lv_iload_n hx hb dX4_sheet_13 rfl (lv_at hl 2 rfl) ?_
    refine lv_i2l hx hb dX4_sheet_14 rfl ?_
    refine lv_lconst (v := 0) hx hb dX4_sheet_15 rfl ?_
    refine lv_ldc2 hx hb hown hk127 dX4_sheet_16 ?_
    refine roS_i (As := [.long lane.toInt64, .long 0, .long 2]) (rest := []) ⟨hx, hb, hml, hown, hts⟩ (kX4_in l dC dI lane.toInt64 0 2 _ ) (va_cwS 3 hts gX4_sheet_X4_in rfl rfl rfl hdX4_in ⟨Nat.le_trans (Nat.le_of_ble_eq_true rfl) hRf, Nat.le_trans (Nat.le_of_ble_eq_true rfl) hRl⟩) (hK.sub [] rfl) (hP.sub [] rfl) rfl hl.1 rfl (Nat.le_of_ble_eq_true rfl) dX4_sheet_19 ⟨Nat.zero_le _, Nat.zero_le _⟩ hP hS hA (fun H locs hP hS => ?_)
    refine x_top (y := bI (inB lane 3)) (congrArg bI (inL_c (by omega) rfl)) ?_
    refine x_ifb_eq (tgt := 31) hx hb dX4_sheet_22 (by decide) (fun c22 => ?_) (fun c22 => ?_)
    · skip
      refine lv_aload_n hx hb dX4_sheet_31 rfl (lv_at hl 0 rfl) ?_
      refine lv_bipush (v := -2) hx hb dX4_sheet_32 rfl ?_
      refine rwW_i (As := [.int (-2)]) (rest := []) (wn := wM cI cZ q n mb (uF f 0 0) Y) ⟨hx, hb, hml, hown, hts⟩ (kX4_refused l dC dI cI cZ q n mb f Y (-2) _) (cwV 1 hts gX4_sheet_X4_refused rfl rfl rfl hdX4_refused ⟨Nat.le_trans (Nat.le_of_ble_eq_true rfl) hRf, Nat.le_trans (Nat.le_of_ble_eq_true rfl) hRl⟩) (va_recv hK hP (ci := 4) (q0 := 0) rfl rfl) hK rfl hl.1 rfl (Nat.le_of_ble_eq_true rfl) dX4_sheet_34 ⟨Nat.zero_le _, Nat.zero_le _⟩ hP hD hS hA [0, 1, 2, 3, 4, 5, 6, 7, 8, 9, 10, 11, 12, 13, 14, 15, 16] [] [0, 1, 2, 3, 4, 5, 6, 7, 8, 9, 10, 11, 12, 13, 14, 15, 16] rfl rfl (by decide) (by decide) (by decide) rfl rfl (fun H locs hP hS => ?_)
      have hD : va_D Z (wM cI cZ q n mb (uF f 0 0) Y) := hD.same rfl
      exact hend _ _ _ _ _ _ (by rw [uSheet, if_pos c4, if_neg (fun q => absurd q.1 (by rw [c22]; decide))]) (by have hno : ¬ okSheet (nI j) lane n0 = true := fun q => (by simp only [okSheet, Bool.and_eq_true] at q; exact absurd q.2.1 (by rw [c22]; decide)); rw [if_neg hno, fSheet, if_neg (fun q => absurd q.2.1 (by rw [c22]; decide))] <;> rfl) hP hS dX4_sheet_37
    · skip
      obtain ⟨i, hi, rfl⟩ := inB_t (by omega) c22
      have hxi : xn (nI i) = i := xn_nI (by omega)
      refine lv_iload_n hx hb dX4_sheet_25 rfl (lv_at hl 3 rfl) ?_
      refine lv_bipush (v := nI 100) hx hb dX4_sheet_26 rfl ?_
      refine lv_icmp_le (tgt := 38) hx hb dX4_sheet_28 (by decide) (fun c28 => ?_) (fun c28 => ?_)
      · skip
        refine lv_iload_n hx hb dX4_sheet_38 rfl (lv_at hl 3 rfl) ?_
        refine lv_if_ge (tgt := 48) hx hb dX4_sheet_39 (by decide) (fun c39 => ?_) (fun c39 => ?_)
        · skip
          obtain ⟨nn, hnn, rfl⟩ := nI_of2 (M := nI 100) (n := 100) rfl (Int32.not_lt.mpr c39) c28
          have hxnn : xn (nI nn) = nn := xn_nI (by omega)
          have hok : okSheet (nI j) (nI i) (nI nn) = true := by rw [okSheet, c4, c22, inB_nI (by omega) (show nn < 101 by omega)]; rfl
          refine lv_aload_n hx hb dX4_sheet_48 rfl (lv_at hl 0 rfl) ?_
          refine x_get (D := (dC, dI)) (ci := 4) (v := .ref (q 13)) (C := RX4) (T := TX4) (N := 31) hx hb hts hinX4 hown hK hP 0 rfl rfl 26 (Nat.le_of_ble_eq_true rfl) hf51 rfl rfl dX4_sheet_49 ?_
          refine lv_iload_n hx hb dX4_sheet_52 rfl (lv_at hl 1 rfl) ?_
          refine lv_iload_n hx hb dX4_sheet_53 rfl (lv_at hl 3 rfl) ?_
          refine x_iast (wn := wM cI cZ q n mb f (uX Y 12 j (nI nn))) hx hb hK hP hD hS 13 0 rfl rfl (by omega) (by decide) rfl dX4_sheet_54 (fun H locs hP hS => ?_)
          have hD : va_D Z (wM cI cZ q n mb f (uX Y 12 j (nI nn))) := hD.same rfl
          refine lv_aload_n hx hb dX4_sheet_55 rfl (lv_at hl 0 rfl) ?_
          refine x_get (D := (dC, dI)) (ci := 4) (v := .ref (q 14)) (C := RX4) (T := TX4) (N := 31) hx hb hts hinX4 hown hK hP 0 rfl rfl 27 (Nat.le_of_ble_eq_true rfl) hf54 rfl rfl dX4_sheet_56 ?_
          refine lv_iload_n hx hb dX4_sheet_59 rfl (lv_at hl 1 rfl) ?_
          refine lv_iload_n hx hb dX4_sheet_60 rfl (lv_at hl 2 rfl) ?_
          refine x_iast (wn := wM cI cZ q n mb f (uX (uX Y 12 j (nI nn)) 13 j (nI i))) hx hb hK hP hD hS 14 0 rfl rfl (by omega) (by decide) rfl dX4_sheet_61 (fun H locs hP hS => ?_)
          have hD : va_D Z (wM cI cZ q n mb f (uX (uX Y 12 j (nI nn)) 13 j (nI i))) := hD.same rfl
          have hYe : uX (uX Y 12 j (nI nn)) 13 j (nI i) = uY (uX (uX Y 12 j (nI nn)) 13 j (nI i)) 14 (zf (Y 14) (100 * j) 0) := by rw [zf_0]; exact (uY_self _ 14 rfl).symm
          have hP : va_P (dC, dI) vwCl (wM cI cZ q n mb f (uY (uX (uX Y 12 j (nI nn)) 13 j (nI i)) 14 (zf (Y 14) (100 * j) 0))) H := hYe ▸ hP
          have hD : va_D Z (wM cI cZ q n mb f (uY (uX (uX Y 12 j (nI nn)) 13 j (nI i)) 14 (zf (Y 14) (100 * j) 0))) := hD.same rfl
          refine lv_iconst (v := nI 0) hx hb dX4_sheet_62 rfl ?_
          refine lv_istore (lv' := [(4, .int (nI 0)), (0, .ref (q 0)), (1, .int (nI j)), (2, .int (nI i)), (3, .int (nI nn))]) hx hb dX4_sheet_63 hl (by decide) rfl (fun ls hl => ?_)
          have L65 : ∀ (fuel : Nat) (k0 : Nat) (hk : k0 ≤ nn) (hfu : nn - k0 < fuel) (H : Heap) (locs : List Loc), va_P (dC, dI) vwCl (wM cI cZ q n mb f (uY (uX (uX Y 12 j (nI nn)) 13 j (nI i)) 14 (zf (Y 14) (100 * j) k0))) H → va_S Z ss.heap H locs → ∀ (ls : Array Slot), lv_has ls 5 [(0, .ref (q 0)), (1, .int (nI j)), (3, .int (nI nn)), (4, .int (nI k0))] → W pp l ee RR ss mm aa bb me cd H locs 0 0 QQ (F0 mm 65 ls []) := by
            intro fuel
            induction fuel with
            | zero => intro k0 hk hfu; exact absurd hfu (Nat.not_lt_zero _)
            | succ fuel ih =>
              intro k0 hk hfu H locs hP hS ls hl
              have hD : va_D Z (wM cI cZ q n mb f (uY (uX (uX Y 12 j (nI nn)) 13 j (nI i)) 14 (zf (Y 14) (100 * j) k0))) := hD.same rfl
              refine lv_iload hx hb dX4_sheet_65 (lv_at hl 3 rfl) ?_
              refine lv_iload_n hx hb dX4_sheet_67 rfl (lv_at hl 2 rfl) ?_
              refine x_icmp_ge (tgt := 90) hx hb (by omega) (by omega) dX4_sheet_68 (by decide) (fun c68 => ?_) (fun c68 => ?_)
              · skip
                refine lv_aload_n hx hb dX4_sheet_90 rfl (lv_at hl 0 rfl) ?_
                refine lv_iconst (v := nI 1) hx hb dX4_sheet_91 rfl ?_
                refine rwW_i (As := [.int (nI 1)]) (rest := []) (wn := wM cI cZ q n mb (uF f 0 0) (uY (uX (uX Y 12 j (nI nn)) 13 j (nI i)) 14 (zf (Y 14) (100 * j) k0))) ⟨hx, hb, hml, hown, hts⟩ (kX4_refused l dC dI cI cZ q n mb f (uY (uX (uX Y 12 j (nI nn)) 13 j (nI i)) 14 (zf (Y 14) (100 * j) k0)) (nI 1) _) (cwV 1 hts gX4_sheet_X4_refused rfl rfl rfl hdX4_refused ⟨Nat.le_trans (Nat.le_of_ble_eq_true rfl) hRf, Nat.le_trans (Nat.le_of_ble_eq_true rfl) hRl⟩) (va_recv hK hP (ci := 4) (q0 := 0) rfl rfl) hK rfl hl.1 rfl (Nat.le_of_ble_eq_true rfl) dX4_sheet_92 ⟨Nat.zero_le _, Nat.zero_le _⟩ hP hD hS hA [0, 1, 2, 3, 4, 5, 6, 7, 8, 9, 10, 11, 12, 13, 14, 15, 16] [] [0, 1, 2, 3, 4, 5, 6, 7, 8, 9, 10, 11, 12, 13, 14, 15, 16] rfl rfl (by decide) (by decide) (by decide) rfl rfl (fun H locs hP hS => ?_)
                have hD : va_D Z (wM cI cZ q n mb (uF f 0 0) (uY (uX (uX Y 12 j (nI nn)) 13 j (nI i)) 14 (zf (Y 14) (100 * j) k0))) := hD.same rfl
                exact hend _ _ _ _ _ _ (by rw [uSheet, if_pos c4, if_pos ⟨c22, c28⟩, if_neg (nI_pos (by omega))] <;> rfl) (by rw [if_pos hok, fSheet, if_neg (fun q => absurd q.2.2 (nI_pos (by omega))), hxj, hxi, hxnn, show k0 = nn from by omega] <;> rfl) hP hS dX4_sheet_95
              · skip
                refine lv_aload_n hx hb dX4_sheet_71 rfl (lv_at hl 0 rfl) ?_
                refine x_get (D := (dC, dI)) (ci := 4) (v := .ref (q 15)) (C := RX4) (T := TX4) (N := 31) hx hb hts hinX4 hown hK hP 0 rfl rfl 28 (Nat.le_of_ble_eq_true rfl) hf57 rfl rfl dX4_sheet_72 ?_
                refine lv_bipush (v := nI 100) hx hb dX4_sheet_75 rfl ?_
                refine lv_iload_n hx hb dX4_sheet_77 rfl (lv_at hl 1 rfl) ?_
                refine x_imul hx hb dX4_sheet_78 ?_
                refine lv_iload hx hb dX4_sheet_79 (lv_at hl 3 rfl) ?_
                refine x_iadd hx hb dX4_sheet_81 ?_
                refine lv_iconst (v := nI 0) hx hb dX4_sheet_82 rfl ?_
                refine x_iast (wn := wM cI cZ q n mb f (uX (uY (uX (uX Y 12 j (nI nn)) 13 j (nI i)) 14 (zf (Y 14) (100 * j) k0)) 14 ((100 * j) + k0) (nI 0))) hx hb hK hP hD hS 15 0 rfl rfl (by omega) (by decide) rfl dX4_sheet_83 (fun H locs hP hS => ?_)
                have hD : va_D Z (wM cI cZ q n mb f (uX (uY (uX (uX Y 12 j (nI nn)) 13 j (nI i)) 14 (zf (Y 14) (100 * j) k0)) 14 ((100 * j) + k0) (nI 0))) := hD.same rfl
                have hYe : uX (uY (uX (uX Y 12 j (nI nn)) 13 j (nI i)) 14 (zf (Y 14) (100 * j) k0)) 14 (100 * j + k0) (nI 0) = uY (uX (uX Y 12 j (nI nn)) 13 j (nI i)) 14 (zf (Y 14) (100 * j) (k0 + 1)) := by rw [uX_uY, zf_s]
                have hP : va_P (dC, dI) vwCl (wM cI cZ q n mb f (uY (uX (uX Y 12 j (nI nn)) 13 j (nI i)) 14 (zf (Y 14) (100 * j) (k0 + 1)))) H := hYe ▸ hP
                have hD : va_D Z (wM cI cZ q n mb f (uY (uX (uX Y 12 j (nI nn)) 13 j (nI i)) 14 (zf (Y 14) (100 * j) (k0 + 1)))) := hD.same rfl
                refine lv_iinc (v := (nI (k0 + 1))) (lv' := [(4, .int (nI (k0 + 1))), (0, .ref (q 0)), (1, .int (nI j)), (3, .int (nI nn))]) hx hb dX4_sheet_84 hl (k := 3) rfl (nI_add _ _) (by decide) rfl (fun ls hl => ?_)
                refine lv_goto (tgt := 65) hx hb dX4_sheet_87 (by decide) ?_
                exact ih (k0 + 1) (by omega) (by omega) _ _ hP hS _ (lv_sub hl [1, 2, 3, 0] rfl)
          exact L65 _ 0 (by omega) (Nat.lt_succ_self _) _ _ hP hS _ (lv_sub hl [1, 2, 4, 0] rfl)
        · skip
          refine lv_aload_n hx hb dX4_sheet_42 rfl (lv_at hl 0 rfl) ?_
          refine lv_iconst (v := nI 4) hx hb dX4_sheet_43 rfl ?_
          refine rwW_i (As := [.int (nI 4)]) (rest := []) (wn := wM cI cZ q n mb (uF f 0 (nI 4)) Y) ⟨hx, hb, hml, hown, hts⟩ (kX4_failed l dC dI cI cZ q n mb f Y 4 _) (cwV 1 hts gX4_sheet_X4_failed rfl rfl rfl hdX4_failed ⟨Nat.le_trans (Nat.le_of_ble_eq_true rfl) hRf, Nat.le_trans (Nat.le_of_ble_eq_true rfl) hRl⟩) (va_recv hK hP (ci := 4) (q0 := 0) rfl rfl) hK rfl hl.1 rfl (Nat.le_of_ble_eq_true rfl) dX4_sheet_44 ⟨Nat.zero_le _, Nat.zero_le _⟩ hP hD hS hA [0, 1, 2, 3, 4, 5, 6, 7, 8, 9, 10, 11, 12, 13, 14, 15, 16] [] [0, 1, 2, 3, 4, 5, 6, 7, 8, 9, 10, 11, 12, 13, 14, 15, 16] rfl rfl (by decide) (by decide) (by decide) rfl rfl (fun H locs hP hS => ?_)
          have hD : va_D Z (wM cI cZ q n mb (uF f 0 (nI 4)) Y) := hD.same rfl
          exact hend _ _ _ _ _ _ (by rw [uSheet, if_pos c4, if_pos ⟨c22, c28⟩, if_pos (Int32.not_le.mp c39)] <;> rfl) (by have hno : ¬ okSheet (nI j) (nI i) n0 = true := fun q => (by simp only [okSheet, Bool.and_eq_true] at q; exact c39 (of_decide_eq_true q.2.2).1); rw [if_neg hno, fSheet, if_pos ⟨c4, c22, Int32.not_le.mp c39⟩] <;> rfl) hP hS dX4_sheet_47
      · skip
        refine lv_aload_n hx hb dX4_sheet_31 rfl (lv_at hl 0 rfl) ?_
        refine lv_bipush (v := -2) hx hb dX4_sheet_32 rfl ?_
        refine rwW_i (As := [.int (-2)]) (rest := []) (wn := wM cI cZ q n mb (uF f 0 0) Y) ⟨hx, hb, hml, hown, hts⟩ (kX4_refused l dC dI cI cZ q n mb f Y (-2) _) (cwV 1 hts gX4_sheet_X4_refused rfl rfl rfl hdX4_refused ⟨Nat.le_trans (Nat.le_of_ble_eq_true rfl) hRf, Nat.le_trans (Nat.le_of_ble_eq_true rfl) hRl⟩) (va_recv hK hP (ci := 4) (q0 := 0) rfl rfl) hK rfl hl.1 rfl (Nat.le_of_ble_eq_true rfl) dX4_sheet_34 ⟨Nat.zero_le _, Nat.zero_le _⟩ hP hD hS hA [0, 1, 2, 3, 4, 5, 6, 7, 8, 9, 10, 11, 12, 13, 14, 15, 16] [] [0, 1, 2, 3, 4, 5, 6, 7, 8, 9, 10, 11, 12, 13, 14, 15, 16] rfl rfl (by decide) (by decide) (by decide) rfl rfl (fun H locs hP hS => ?_)
        have hD : va_D Z (wM cI cZ q n mb (uF f 0 0) Y) := hD.same rfl
        exact hend _ _ _ _ _ _ (by rw [uSheet, if_pos c4, if_neg (fun q => c28 q.2)]) (by have hno : ¬ okSheet (nI j) (nI i) n0 = true := fun q => (by simp only [okSheet, Bool.and_eq_true] at q; exact c28 (n_le100 q.2.2)); rw [if_neg hno, fSheet, if_neg (fun q => c28 (n_le100n q.2.2))] <;> rfl) hP hS dX4_sheet_37
  · skip
    have c4 : inB k 4 = false := by simpa using c4
    refine lv_aload_n hx hb dX4_sheet_7 rfl (lv_at hl 0 rfl) ?_
    refine lv_iconst (v := -1) hx hb dX4_sheet_8 rfl ?_
    refine rwW_i (As := [.int (-1)]) (rest := []) (wn := wM cI cZ q n mb (uF f 0 0) Y) ⟨hx, hb, hml, hown, hts⟩ (kX4_refused l dC dI cI cZ q n mb f Y (-1) _) (cwV 1 hts gX4_sheet_X4_refused rfl rfl rfl hdX4_refused ⟨Nat.le_trans (Nat.le_of_ble_eq_true rfl) hRf, Nat.le_trans (Nat.le_of_ble_eq_true rfl) hRl⟩) (va_recv hK hP (ci := 4) (q0 := 0) rfl rfl) hK rfl hl.1 rfl (Nat.le_of_ble_eq_true rfl) dX4_sheet_9 ⟨Nat.zero_le _, Nat.zero_le _⟩ hP hD hS hA [0, 1, 2, 3, 4, 5, 6, 7, 8, 9, 10, 11, 12, 13, 14, 15, 16] [] [0, 1, 2, 3, 4, 5, 6, 7, 8, 9, 10, 11, 12, 13, 14, 15, 16] rfl rfl (by decide) (by decide) (by decide) rfl rfl (fun H locs hP hS => ?_)
    have hD : va_D Z (wM cI cZ q n mb (uF f 0 0) Y) := hD.same rfl
    exact hend _ _ _ _ _ _ (by rw [uSheet, if_neg (by rw [c4]; decide)]) (by have hno : ¬ okSheet k lane n0 = true := fun q => (by simp only [okSheet, Bool.and_eq_true] at q; exact absurd q.1 (by rw [c4]; decide)); rw [if_neg hno, fSheet, if_neg (fun q => absurd q.1 (by rw [c4]; decide))] <;> rfl) hP hS dX4_sheet_12
