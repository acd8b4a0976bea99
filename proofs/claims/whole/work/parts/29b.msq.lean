set_option maxHeartbeats 4000000 in
set_option maxRecDepth 100000 in
theorem kX4_cellsR (l : Launch) (dC : Nat → ClassId) (dI : Nat → Nat → Nat) (cI cZ : ClassId) (q n : Nat → Nat) (mb : Int32) (f : Nat → Int32) (Y : Nat → Nat → Int32) (sz : Nat) : Met l yX4_cells wsX4_cells ({ frames := 0, cells := 0, slots := 0, locals := 0 }) (roP [.ref (q 0)] sz (dC, dI) [(cI, .int), (cZ, .boolean)] (wM cI cZ q n mb f Y)) (roQi (nI (n 0 * n 1)) sz) 0 0 (va_A [] sz) := by
  refine ro_met_i (by decide) rfl (Nat.le_of_ble_eq_true rfl) ?_
  intro pp ee ss mm aa bb me cd RR QQ Z hx hb hml hown hts hRf hRl hP hK hA hS hend ls hl
  have hown : ss.vm.findClass RX4 = some mm.cls := hown
  have hRf : 0 ≤ RR.frames := hRf
  have hRl : 0 ≤ RR.locals := hRl
  have hl : lv_has ls 1 [(0, .ref (q 0))] := hl
  have hf72 := hts (.fieldLink RX4 72 "StatueSquareModel" "high" "I") (List.mem_of_getElem? (i := 1) rfl)
  have hinX4 : ∀ w ∈ u_ws RX4 TX4 31, w ∈ wsX4_cells := fun _ h => List.mem_cons_of_mem _ (List.mem_append_right _ h)
  have hf75 := hts (.fieldLink RX4 75 "StatueSquareModel" "wide" "I") (List.mem_of_getElem? (i := 2) rfl)
  refine lv_aload_n hx hb dX4_cells_0 rfl (lv_at hl 0 rfl) ?_
  refine x_get (D := (dC, dI)) (ci := 4) (v := .int (nI (n 0))) (C := RX4) (T := TX4) (N := 31) hx hb hts hinX4 hown hK hP 0 rfl rfl 1 (Nat.le_of_ble_eq_true rfl) hf72 rfl rfl dX4_cells_1 ?_
  refine lv_aload_n hx hb dX4_cells_4 rfl (lv_at hl 0 rfl) ?_
  refine x_get (D := (dC, dI)) (ci := 4) (v := .int (nI (n 1))) (C := RX4) (T := TX4) (N := 31) hx hb hts hinX4 hown hK hP 0 rfl rfl 2 (Nat.le_of_ble_eq_true rfl) hf75 rfl rfl dX4_cells_5 ?_
  refine x_imul hx hb dX4_cells_8 ?_
  exact hend _ _ _ _ _ rfl hS dX4_cells_9
theorem hdX4_readsSquare : yX4_readsSquare.cls = RX4 ∧ yX4_readsSquare.cls ≠ "java/lang/invoke/MethodHandle" ∧ yX4_readsSquare.cls ≠ "java/lang/invoke/VarHandle" ∧ (parseMethodDescriptor yX4_readsSquare.desc).map (fun d => d.parameters.length) = some 2 := by decide +kernel
set_option maxRecDepth 20000 in
theorem ggX4_square_X4_noSheet : GoodIn wsX4_square wsX4_noSheet := goodIn_r _ [31, 32, 33, 34, 30, 35] (by decide +kernel) (by decide +kernel)
set_option maxRecDepth 20000 in
theorem gX4_square_X4_noSheet : GoodIn wsX4_square (va_wsS RX4 119 yX4_noSheet wsX4_noSheet) := goodIn_app (goodIn_of _ (by decide +kernel)) ggX4_square_X4_noSheet
set_option maxRecDepth 20000 in
theorem ggX4_square_X4_in : GoodIn wsX4_square wsX4_in := goodIn_r _ [35] (by decide +kernel) (by decide +kernel)
set_option maxRecDepth 20000 in
theorem gX4_square_X4_in : GoodIn wsX4_square (va_wsS RX4 82 yX4_in wsX4_in) := goodIn_app (goodIn_of _ (by decide +kernel)) ggX4_square_X4_in
set_option maxRecDepth 20000 in
theorem ggX4_square_X4_failed : GoodIn wsX4_square wsX4_failed := goodIn_r _ [44, 40, 69, 70, 71, 72, 73, 74, 75, 76, 77, 78, 79, 80, 81, 82, 83, 84, 85, 86, 87, 88, 89, 90, 91, 92, 93, 94, 95, 96, 97, 98, 99] (by decide +kernel) (by decide +kernel)
set_option maxRecDepth 20000 in
theorem gX4_square_X4_failed : GoodIn wsX4_square (wsV RX4 129 RX4 yX4_failed wsX4_failed) := goodIn_app (goodIn_of _ (by decide +kernel)) ggX4_square_X4_failed
set_option maxRecDepth 20000 in
theorem ggX4_square_X4_isBeyond : GoodIn wsX4_square wsX4_isBeyond := goodIn_r _ [47] (by decide +kernel) (by decide +kernel)
set_option maxRecDepth 20000 in
theorem gX4_square_X4_isBeyond : GoodIn wsX4_square (va_wsS RX4 132 yX4_isBeyond wsX4_isBeyond) := goodIn_app (goodIn_of _ (by decide +kernel)) ggX4_square_X4_isBeyond
set_option maxRecDepth 20000 in
theorem ggX4_square_X4_readsSquare : GoodIn wsX4_square wsX4_readsSquare := goodIn_r _ [51, 4, 9, 11, 5, 7, 52, 53, 54, 30, 55, 56, 57, 58, 59, 60, 33, 34, 35, 61, 62, 63, 64, 14, 16, 18, 20, 22, 69, 70, 71, 72, 73, 74, 75, 76, 77, 78, 79, 80, 81, 82, 83, 84, 85, 86, 87, 88, 89, 90, 91, 92, 93, 94, 95, 96, 97, 98, 99] (by decide +kernel) (by decide +kernel)
set_option maxRecDepth 20000 in
theorem gX4_square_X4_readsSquare : GoodIn wsX4_square (wsV RX4 136 RX4 yX4_readsSquare wsX4_readsSquare) := goodIn_app (goodIn_of _ (by decide +kernel)) ggX4_square_X4_readsSquare
set_option maxRecDepth 20000 in
theorem ggX4_square_X4_cells : GoodIn wsX4_square wsX4_cells := goodIn_r _ [68, 6, 8, 69, 70, 71, 72, 73, 74, 75, 76, 77, 78, 79, 80, 81, 82, 83, 84, 85, 86, 87, 88, 89, 90, 91, 92, 93, 94, 95, 96, 97, 98, 99] (by decide +kernel) (by decide +kernel)
set_option maxRecDepth 20000 in
theorem gX4_square_X4_cells : GoodIn wsX4_square (wsV RX4 78 RX4 yX4_cells wsX4_cells) := goodIn_app (goodIn_of _ (by decide +kernel)) ggX4_square_X4_cells
set_option maxRecDepth 20000 in
theorem ggX4_square_X4_refused : GoodIn wsX4_square wsX4_refused := goodIn_r _ [39, 40, 69, 70, 71, 72, 73, 74, 75, 76, 77, 78, 79, 80, 81, 82, 83, 84, 85, 86, 87, 88, 89, 90, 91, 92, 93, 94, 95, 96, 97, 98, 99] (by decide +kernel) (by decide +kernel)
set_option maxRecDepth 20000 in
theorem gX4_square_X4_refused : GoodIn wsX4_square (wsV RX4 123 RX4 yX4_refused wsX4_refused) := goodIn_app (goodIn_of _ (by decide +kernel)) ggX4_square_X4_refused
set_option maxHeartbeats 4000000 in
set_option maxRecDepth 100000 in
theorem kX4_square (l : Launch) (dC : Nat → ClassId) (dI : Nat → Nat → Nat) (cI cZ : ClassId) (q n : Nat → Nat) (mb : Int32) (f : Nat → Int32) (Y : Nat → Nat → Int32) (hs : Nat → Bool) (la le : Nat → Nat) (C : Nat → Nat → Int32) (hRS : RS hs la le C Y) (k : Int32) (lane : Int32) (i : Int32) (n0 : Int32) (E : Nat → Int32) (sz : Nat) (hEq : ∀ j ia na, k = nI j → j < 4 → i = nI ia → n0 = nI na → ia + na ≤ le j → hs j = true → ∀ x, x < na → Y 14 (100 * j + ia + x) = E x) : Met l yX4_square wsX4_square ({ frames := 4, cells := 0, slots := 0, locals := 100 }) (rwP [.ref (q 0), .int k, .int lane, .int i, .int n0] sz (dC, dI) [(cI, .int), (cZ, .boolean)] (wM cI cZ q n mb f Y)) (rwQi (uSqM hs la le k lane i n0 E Y f) (dC, dI) (wM cI cZ q n mb f Y) (wM cI cZ q (nSqM (okSq hs la le k lane i n0) E (xn n0) Y n) mb (uF (fSqM (okSq hs la le k lane i n0) E (xn n0) Y f) 0 (fSq hs la le k lane i n0)) (ySqM (okSq hs la le k lane i n0) E (xn n0) Y)) sz) 0 0 (va_A (wM cI cZ q n mb f Y) sz) := by
  refine rw_met_i (by decide) rfl (Nat.le_of_ble_eq_true rfl) ?_
  intro pp ee ss mm aa bb me cd RR QQ Z hx hb hml hown hts hRf hRl hP hK hD hA hS hend ls hl
  have hown : ss.vm.findClass RX4 = some mm.cls := hown
  have hRf : 4 ≤ RR.frames := hRf
  have hRl : 100 ≤ RR.locals := hRl
  have hl : lv_has ls 6 [(0, .ref (q 0)), (1, .int k), (2, .int lane), (3, .int i), (4, .int n0)] := hl
  have hk127 := hts (.constantLong RX4 127 (2)) (List.mem_of_getElem? (i := 1) rfl)
  have hf51 := hts (.fieldLink RX4 51 "StatueSquareModel" "sheetSize" "[I") (List.mem_of_getElem? (i := 2) rfl)
  have hinX4 : ∀ w ∈ u_ws RX4 TX4 31, w ∈ wsX4_square := fun _ h => List.mem_cons_of_mem _ (List.mem_append_right _ h)
  have hf54 := hts (.fieldLink RX4 54 "StatueSquareModel" "sheetLane" "[I") (List.mem_of_getElem? (i := 3) rfl)
  have hf109 := hts (.fieldLink RX4 109 "StatueSquareModel" "readHigh" "I") (List.mem_of_getElem? (i := 5) rfl)
  have hf72 := hts (.fieldLink RX4 72 "StatueSquareModel" "high" "I") (List.mem_of_getElem? (i := 6) rfl)
  have hf112 := hts (.fieldLink RX4 112 "StatueSquareModel" "readWide" "I") (List.mem_of_getElem? (i := 7) rfl)
  have hf75 := hts (.fieldLink RX4 75 "StatueSquareModel" "wide" "I") (List.mem_of_getElem? (i := 8) rfl)
  have hf99 := hts (.fieldLink RX4 99 "StatueSquareModel" "readBenches" "I") (List.mem_of_getElem? (i := 9) rfl)
  have hf89 := hts (.fieldLink RX4 89 "StatueSquareModel" "benches" "I") (List.mem_of_getElem? (i := 10) rfl)
  have hf102 := hts (.fieldLink RX4 102 "StatueSquareModel" "readThings" "I") (List.mem_of_getElem? (i := 11) rfl)
  have hf86 := hts (.fieldLink RX4 86 "StatueSquareModel" "things" "I") (List.mem_of_getElem? (i := 12) rfl)
  have hf140 := hts (.fieldLink RX4 140 "StatueSquareModel" "yearNow" "I") (List.mem_of_getElem? (i := 25) rfl)
  have hf143 := hts (.fieldLink RX4 143 "StatueSquareModel" "isWinter" "Z") (List.mem_of_getElem? (i := 26) rfl)
  have hf47 := hts (.fieldLink RX4 47 "StatueSquareModel" "statueAt" "I") (List.mem_of_getElem? (i := 27) rfl)
  have hf16 := hts (.fieldLink RX4 16 "StatueSquareModel" "kindOf" "[I") (List.mem_of_getElem? (i := 17) rfl)
  have hf38 := hts (.fieldLink RX4 38 "StatueSquareModel" "readKind" "[I") (List.mem_of_getElem? (i := 18) rfl)
  have hf19 := hts (.fieldLink RX4 19 "StatueSquareModel" "thingAt" "[I") (List.mem_of_getElem? (i := 19) rfl)
  have hf41 := hts (.fieldLink RX4 41 "StatueSquareModel" "readThing" "[I") (List.mem_of_getElem? (i := 20) rfl)
  have hf22 := hts (.fieldLink RX4 22 "StatueSquareModel" "tallOf" "[I") (List.mem_of_getElem? (i := 21) rfl)
  have hf44 := hts (.fieldLink RX4 44 "StatueSquareModel" "readTall" "[I") (List.mem_of_getElem? (i := 22) rfl)
  have hf25 := hts (.fieldLink RX4 25 "StatueSquareModel" "isCut" "[Z") (List.mem_of_getElem? (i := 23) rfl)
  have hf29 := hts (.fieldLink RX4 29 "StatueSquareModel" "priceOf" "[I") (List.mem_of_getElem? (i := 24) rfl)
  have hf13 := hts (.fieldLink RX4 13 "StatueSquareModel" "benchAt" "[I") (List.mem_of_getElem? (i := 15) rfl)
  have hf35 := hts (.fieldLink RX4 35 "StatueSquareModel" "readBench" "[I") (List.mem_of_getElem? (i := 16) rfl)
  have hf7 := hts (.fieldLink RX4 7 "StatueSquareModel" "has" "[I") (List.mem_of_getElem? (i := 13) rfl)
  have hf32 := hts (.fieldLink RX4 32 "StatueSquareModel" "readHas" "[I") (List.mem_of_getElem? (i := 14) rfl)
  have hf92 := hts (.fieldLink RX4 92 "StatueSquareModel" "readAt" "I") (List.mem_of_getElem? (i := 4) rfl)
  refine lv_iload_n hx hb dX4_square_0 rfl (lv_at hl 1 rfl) ?_
  refine roS_i (As := [.int k]) (rest := []) ⟨hx, hb, hml, hown, hts⟩ (kX4_noSheet l dC dI k _ ) (va_cwS 1 hts gX4_square_X4_noSheet rfl rfl rfl hdX4_noSheet ⟨Nat.le_trans (Nat.le_of_ble_eq_true rfl) hRf, Nat.le_trans (Nat.le_of_ble_eq_true rfl) hRl⟩) (hK.sub [] rfl) (hP.sub [] rfl) rfl hl.1 rfl (Nat.le_of_ble_eq_true rfl) dX4_square_1 ⟨Nat.zero_le _, Nat.zero_le _⟩ hP hS hA (fun H locs hP hS => ?_)
  refine x_ifb_eq (tgt := 13) hx hb dX4_square_4 (by decide) (fun c4 => ?_) (fun c4 => ?_)
  · skip
    have c4 : inB k 4 = true := by simpa using c4
    obtain ⟨j, hj, rfl⟩ := inB_t (by omega) c4
    have hxj : xn (nI j) = j := xn_nI (by omega)
    have hBj := (hRS j hj).2.2.2
    refine lv_iload_n hx hb dX4_square_13 rfl (lv_at hl 2 rfl) ?_
    refine lv_i2l hx hb dX4_square_14 rfl ?_
    refine lv_lconst (v := 0) hx hb dX4_square_15 rfl ?_
    refine lv_ldc2 hx hb hown hk127 dX4_square_16 ?_
    refine roS_i (As := [.long lane.toInt64, .long 0, .long 2]) (rest := []) ⟨hx, hb, hml, hown, hts⟩ (kX4_in l dC dI lane.toInt64 0 2 _ ) (va_cwS 3 hts gX4_square_X4_in rfl rfl rfl hdX4_in ⟨Nat.le_trans (Nat.le_of_ble_eq_true rfl) hRf, Nat.le_trans (Nat.le_of_ble_eq_true rfl) hRl⟩) (hK.sub [] rfl) (hP.sub [] rfl) rfl hl.1 rfl (Nat.le_of_ble_eq_true rfl) dX4_square_19 ⟨Nat.zero_le _, Nat.zero_le _⟩ hP hS hA (fun H locs hP hS => ?_)
    refine x_top (y := bI (inB lane 3)) (congrArg bI (inL_c (by omega) rfl)) ?_
    refine x_ifb_ne (tgt := 32) hx hb dX4_square_22 (by decide) (fun c22 => ?_) (fun c22 => ?_)
    · skip
      obtain ⟨l0, hl0, rfl⟩ := inB_t (by omega) c22
      have hxl0 : xn (nI l0) = l0 := xn_nI (by omega)
      refine lv_aload_n hx hb dX4_square_32 rfl (lv_at hl 0 rfl) ?_
      refine x_get (D := (dC, dI)) (ci := 4) (v := .ref (q 13)) (C := RX4) (T := TX4) (N := 31) hx hb hts hinX4 hown hK hP 0 rfl rfl 26 (Nat.le_of_ble_eq_true rfl) hf51 rfl rfl dX4_square_33 ?_
      refine lv_iload_n hx hb dX4_square_36 rfl (lv_at hl 1 rfl) ?_
      refine x_iald (v := (szI (hs j) (le j))) hx hb hK hP 13 0 rfl rfl (by omega) (by decide) (hRS _ (by omega)).1 dX4_square_37 ?_
      refine lv_if_lt (tgt := 57) hx hb dX4_square_38 (by decide) (fun c38 => ?_) (fun c38 => ?_)
      · skip
        have hh := szI_lt (by omega) c38
        refine lv_aload_n hx hb dX4_square_57 rfl (lv_at hl 0 rfl) ?_
        refine x_get (D := (dC, dI)) (ci := 4) (v := .ref (q 13)) (C := RX4) (T := TX4) (N := 31) hx hb hts hinX4 hown hK hP 0 rfl rfl 26 (Nat.le_of_ble_eq_true rfl) hf51 rfl rfl dX4_square_58 ?_
        refine lv_iload_n hx hb dX4_square_61 rfl (lv_at hl 1 rfl) ?_
        refine x_iald (v := (szI (hs j) (le j))) hx hb hK hP 13 0 rfl rfl (by omega) (by decide) (hRS _ (by omega)).1 dX4_square_62 ?_
        refine lv_if_ge (tgt := 72) hx hb dX4_square_63 (by decide) (fun c63 => ?_) (fun c63 => ?_)
        · skip
          exact absurd (szI_ge c63) (by rw [hh]; decide)
        · skip
          refine lv_aload_n hx hb dX4_square_66 rfl (lv_at hl 0 rfl) ?_
          refine lv_iconst (v := nI 1) hx hb dX4_square_67 rfl ?_
          refine rwW_i (As := [.int (nI 1)]) (rest := []) (wn := wM cI cZ q n mb (uF f 0 (nI 1)) Y) ⟨hx, hb, hml, hown, hts⟩ (kX4_failed l dC dI cI cZ q n mb f Y 1 _) (cwV 1 hts gX4_square_X4_failed rfl rfl rfl hdX4_failed ⟨Nat.le_trans (Nat.le_of_ble_eq_true rfl) hRf, Nat.le_trans (Nat.le_of_ble_eq_true rfl) hRl⟩) (va_recv hK hP (ci := 4) (q0 := 0) rfl rfl) hK rfl hl.1 rfl (Nat.le_of_ble_eq_true rfl) dX4_square_68 ⟨Nat.zero_le _, Nat.zero_le _⟩ hP hD hS hA [0, 1, 2, 3, 4, 5, 6, 7, 8, 9, 10, 11, 12, 13, 14, 15, 16] [] [0, 1, 2, 3, 4, 5, 6, 7, 8, 9, 10, 11, 12, 13, 14, 15, 16] rfl rfl (by decide) (by decide) (by decide) rfl rfl (fun H locs hP hS => ?_)
          have hD : va_D Z (wM cI cZ q n mb (uF f 0 (nI 1)) Y) := hD.same rfl
          exact hend _ _ _ _ _ _ (by rw [uSqM, if_pos c4, if_pos c22, hxj, hxl0, show sqN hs la le j l0 i n0 = 1 from by rw [sqN, if_neg (by rw [hh]; decide)], if_neg (by decide)]) (by have hz : sqN hs la le j l0 i n0 = 1 := (by rw [sqN, if_neg (by rw [hh]; decide)]); rw [show okSq hs la le (nI j) (nI l0) i n0 = false from by rw [okSq, c22, c4, hxj, hxl0, hz]; rfl, fSq, if_pos ⟨c4, c22⟩, hxj, hxl0, hz] <;> rfl) hP hS dX4_square_71
      · skip
        have hh := szI_nlt c38
        refine lv_aload_n hx hb dX4_square_41 rfl (lv_at hl 0 rfl) ?_
        refine x_get (D := (dC, dI)) (ci := 4) (v := .ref (q 14)) (C := RX4) (T := TX4) (N := 31) hx hb hts hinX4 hown hK hP 0 rfl rfl 27 (Nat.le_of_ble_eq_true rfl) hf54 rfl rfl dX4_square_42 ?_
        refine lv_iload_n hx hb dX4_square_45 rfl (lv_at hl 1 rfl) ?_
        refine x_iald (v := (nI (la j))) hx hb hK hP 14 0 rfl rfl (by omega) (by decide) ((hRS _ (by omega)).2.1 hh) dX4_square_46 ?_
        refine lv_iload_n hx hb dX4_square_47 rfl (lv_at hl 2 rfl) ?_
        refine x_icmp_eq (tgt := 57) hx hb (by omega) (by omega) dX4_square_48 (by decide) (fun c48 => ?_) (fun c48 => ?_)
        · skip
          refine lv_aload_n hx hb dX4_square_57 rfl (lv_at hl 0 rfl) ?_
          refine x_get (D := (dC, dI)) (ci := 4) (v := .ref (q 13)) (C := RX4) (T := TX4) (N := 31) hx hb hts hinX4 hown hK hP 0 rfl rfl 26 (Nat.le_of_ble_eq_true rfl) hf51 rfl rfl dX4_square_58 ?_
          refine lv_iload_n hx hb dX4_square_61 rfl (lv_at hl 1 rfl) ?_
          refine x_iald (v := (szI (hs j) (le j))) hx hb hK hP 13 0 rfl rfl (by omega) (by decide) (hRS _ (by omega)).1 dX4_square_62 ?_
          refine lv_if_ge (tgt := 72) hx hb dX4_square_63 (by decide) (fun c63 => ?_) (fun c63 => ?_)
          · skip
            refine lv_iload hx hb dX4_square_72 (lv_at hl 4 rfl) ?_
            refine lv_if_ge (tgt := 83) hx hb dX4_square_74 (by decide) (fun c74 => ?_) (fun c74 => ?_)
            · skip
              refine lv_iload_n hx hb dX4_square_83 rfl (lv_at hl 3 rfl) ?_
              refine lv_iload hx hb dX4_square_84 (lv_at hl 4 rfl) ?_
              refine lv_i2l hx hb dX4_square_86 rfl ?_
              refine lv_aload_n hx hb dX4_square_87 rfl (lv_at hl 0 rfl) ?_
              refine x_get (D := (dC, dI)) (ci := 4) (v := .ref (q 13)) (C := RX4) (T := TX4) (N := 31) hx hb hts hinX4 hown hK hP 0 rfl rfl 26 (Nat.le_of_ble_eq_true rfl) hf51 rfl rfl dX4_square_88 ?_
              refine lv_iload_n hx hb dX4_square_91 rfl (lv_at hl 1 rfl) ?_
              refine x_iald (v := (szI (hs j) (le j))) hx hb hK hP 13 0 rfl rfl (by omega) (by decide) (hRS _ (by omega)).1 dX4_square_92 ?_
              refine x_top (y := (nI (le j))) (szI_t hh) ?_
              refine roS_i (As := [.int i, .long n0.toInt64, .int (nI (le j))]) (rest := []) ⟨hx, hb, hml, hown, hts⟩ (kX4_isBeyond l dC dI i n0.toInt64 (le j) _ ) (va_cwS 3 hts gX4_square_X4_isBeyond rfl rfl rfl hdX4_isBeyond ⟨Nat.le_trans (Nat.le_of_ble_eq_true rfl) hRf, Nat.le_trans (Nat.le_of_ble_eq_true rfl) hRl⟩) (hK.sub [] rfl) (hP.sub [] rfl) rfl hl.1 rfl (Nat.le_of_ble_eq_true rfl) dX4_square_93 ⟨Nat.zero_le _, Nat.zero_le _⟩ hP hS hA (fun H locs hP hS => ?_)
              refine x_top (y := bI (!spanB i n0 (le j))) (by rw [bey (by omega)]) ?_
              refine x_ifb_eq (tgt := 105) hx hb dX4_square_96 (by decide) (fun c96 => ?_) (fun c96 => ?_)
              · skip
                have hsp : spanB i n0 (le j) = true := by simpa using c96
                obtain ⟨ia, na, hia, rfl, rfl⟩ := span_t (le := le j) (by omega) hsp
                have hxia : xn (nI ia) = ia := xn_nI (by omega)
                have hxna : xn (nI na) = na := xn_nI (by omega)
                have hE1 := hEq j ia na rfl hj rfl rfl hia hh
                have hz : sqN hs la le j l0 (nI ia) (nI na) = 0 := by rw [sqN, if_pos hh, if_pos c48, if_neg (Int32.not_lt.mpr c74), if_pos hsp]
                refine lv_aload_n hx hb dX4_square_105 rfl (lv_at hl 0 rfl) ?_
                refine lv_bipush (v := nI 100) hx hb dX4_square_106 rfl ?_
                refine lv_iload_n hx hb dX4_square_108 rfl (lv_at hl 1 rfl) ?_
                refine x_imul hx hb dX4_square_109 ?_
                refine lv_iload_n hx hb dX4_square_110 rfl (lv_at hl 3 rfl) ?_
                refine x_iadd hx hb dX4_square_111 ?_
                refine lv_iload hx hb dX4_square_112 (lv_at hl 4 rfl) ?_
                refine rwW_i (As := [.int (nI ((100 * j) + ia)), .int (nI na)]) (rest := []) (wn := wM cI cZ q n mb (mrF E na Y f) (mrY E na Y)) ⟨hx, hb, hml, hown, hts⟩ (kX4_readsSquare l dC dI cI cZ q n mb f Y E ((100 * j) + ia) na _ (by omega) (by omega) hE1) (cwV 2 hts gX4_square_X4_readsSquare rfl rfl rfl hdX4_readsSquare ⟨Nat.le_trans (Nat.le_of_ble_eq_true rfl) hRf, Nat.le_trans (Nat.le_of_ble_eq_true rfl) hRl⟩) (va_recv hK hP (ci := 4) (q0 := 0) rfl rfl) hK rfl hl.1 rfl (Nat.le_of_ble_eq_true rfl) dX4_square_114 ⟨Nat.zero_le _, Nat.zero_le _⟩ hP hD hS hA [0, 1, 2, 3, 4, 5, 6, 7, 8, 9, 10, 11, 12, 13, 14, 15, 16] [] [0, 1, 2, 3, 4, 5, 6, 7, 8, 9, 10, 11, 12, 13, 14, 15, 16] rfl rfl (by decide) (by decide) (by decide) rfl rfl (fun H locs hP hS => ?_)
                have hD : va_D Z (wM cI cZ q n mb (mrF E na Y f) (mrY E na Y)) := hD.same rfl
                refine x_ifb_ne (tgt := 132) hx hb dX4_square_117 (by decide) (fun c117 => ?_) (fun c117 => ?_)
                · skip
                  obtain ⟨hv1, hv2, hv3, hv4, hv5⟩ := mrV_t c117
                  obtain ⟨d1, hd1⟩ : ∃ x, dgN E na 1 1 6 = x := ⟨_, rfl⟩
                  obtain ⟨d2, hd2⟩ : ∃ x, dgN E na 2 2 7 = x := ⟨_, rfl⟩
                  obtain ⟨MM, hM⟩ : ∃ x, mR E na d2 Y (d1 * d2) = x := ⟨_, rfl⟩
                  obtain ⟨okm, ⟨pl2, be2, th2⟩, YR⟩ := MM
                  have hd1l : d1 ≤ 6 := hd1 ▸ dgN_le (by decide)
                  have hd2l : d2 ≤ 7 := hd2 ▸ dgN_le (by decide)
                  have h42 : d1 * d2 ≤ 42 := Nat.mul_le_mul hd1l hd2l
                  have hcn : be2 ≤ 12 ∧ th2 ≤ 10 ∧ pl2 ≤ 3 * (d1 * d2) + 3 := by have hq := mR_cnt E na d2 Y (d1 * d2); rw [hM] at hq; exact hq
                  have hP : va_P (dC, dI) vwCl (wM cI cZ q n mb (fR f pl2 (nI (d1)) (nI (d2)) be2 th2) YR) H := by rw [mrF_t hv1 hv2 hv3, mrY_t hv1 hv2 hv3, hd1, hd2, hM] at hP; exact hP
                  have hD : va_D Z (wM cI cZ q n mb (fR f pl2 (nI (d1)) (nI (d2)) be2 th2) YR) := hD.same rfl
                  refine lv_aload_n hx hb dX4_square_132 rfl (lv_at hl 0 rfl) ?_
                  refine lv_aload_n hx hb dX4_square_133 rfl (lv_at hl 0 rfl) ?_
                  refine x_get (D := (dC, dI)) (ci := 4) (v := .int (nI d1)) (C := RX4) (T := TX4) (N := 31) hx hb hts hinX4 hown hK hP 0 rfl rfl 15 (Nat.le_of_ble_eq_true rfl) hf109 rfl rfl dX4_square_134 ?_
                  refine x_put (D := (dC, dI)) (ci := 4) (v := .int (nI d1)) (C := RX4) (T := TX4) (N := 31) (wn := wM cI cZ q (uN n 0 d1) mb (fR f pl2 (nI (d1)) (nI (d2)) be2 th2) YR) hx hb hts hinX4 tyX4 tyX4_ok nmX4 hown hK hP hD hS 0 rfl rfl 1 (Nat.le_of_ble_eq_true rfl) hf72 rfl rfl rfl rfl (Nat.le_of_ble_eq_true rfl) rfl dX4_square_137 (fun H locs hP hS => ?_)
                  have hD : va_D Z (wM cI cZ q (uN n 0 d1) mb (fR f pl2 (nI (d1)) (nI (d2)) be2 th2) YR) := hD.same rfl
                  refine lv_aload_n hx hb dX4_square_140 rfl (lv_at hl 0 rfl) ?_
                  refine lv_aload_n hx hb dX4_square_141 rfl (lv_at hl 0 rfl) ?_
                  refine x_get (D := (dC, dI)) (ci := 4) (v := .int (nI d2)) (C := RX4) (T := TX4) (N := 31) hx hb hts hinX4 hown hK hP 0 rfl rfl 16 (Nat.le_of_ble_eq_true rfl) hf112 rfl rfl dX4_square_142 ?_
                  refine x_put (D := (dC, dI)) (ci := 4) (v := .int (nI d2)) (C := RX4) (T := TX4) (N := 31) (wn := wM cI cZ q (uN (uN n 0 d1) 1 d2) mb (fR f pl2 (nI (d1)) (nI (d2)) be2 th2) YR) hx hb hts hinX4 tyX4 tyX4_ok nmX4 hown hK hP hD hS 0 rfl rfl 2 (Nat.le_of_ble_eq_true rfl) hf75 rfl rfl rfl rfl (Nat.le_of_ble_eq_true rfl) rfl dX4_square_145 (fun H locs hP hS => ?_)
                  have hD : va_D Z (wM cI cZ q (uN (uN n 0 d1) 1 d2) mb (fR f pl2 (nI (d1)) (nI (d2)) be2 th2) YR) := hD.same rfl
                  refine lv_aload_n hx hb dX4_square_148 rfl (lv_at hl 0 rfl) ?_
                  refine lv_aload_n hx hb dX4_square_149 rfl (lv_at hl 0 rfl) ?_
                  refine x_get (D := (dC, dI)) (ci := 4) (v := .int (nI be2)) (C := RX4) (T := TX4) (N := 31) hx hb hts hinX4 hown hK hP 0 rfl rfl 17 (Nat.le_of_ble_eq_true rfl) hf99 rfl rfl dX4_square_150 ?_
                  refine x_put (D := (dC, dI)) (ci := 4) (v := .int (nI be2)) (C := RX4) (T := TX4) (N := 31) (wn := wM cI cZ q (uN (uN (uN n 0 d1) 1 d2) 2 be2) mb (fR f pl2 (nI (d1)) (nI (d2)) be2 th2) YR) hx hb hts hinX4 tyX4 tyX4_ok nmX4 hown hK hP hD hS 0 rfl rfl 4 (Nat.le_of_ble_eq_true rfl) hf89 rfl rfl rfl rfl (Nat.le_of_ble_eq_true rfl) rfl dX4_square_153 (fun H locs hP hS => ?_)
                  have hD : va_D Z (wM cI cZ q (uN (uN (uN n 0 d1) 1 d2) 2 be2) mb (fR f pl2 (nI (d1)) (nI (d2)) be2 th2) YR) := hD.same rfl
                  refine lv_aload_n hx hb dX4_square_156 rfl (lv_at hl 0 rfl) ?_
                  refine lv_aload_n hx hb dX4_square_157 rfl (lv_at hl 0 rfl) ?_
                  refine x_get (D := (dC, dI)) (ci := 4) (v := .int (nI th2)) (C := RX4) (T := TX4) (N := 31) hx hb hts hinX4 hown hK hP 0 rfl rfl 18 (Nat.le_of_ble_eq_true rfl) hf102 rfl rfl dX4_square_158 ?_
                  refine x_put (D := (dC, dI)) (ci := 4) (v := .int (nI th2)) (C := RX4) (T := TX4) (N := 31) (wn := wM cI cZ q (uN (uN (uN (uN n 0 d1) 1 d2) 2 be2) 3 th2) mb (fR f pl2 (nI (d1)) (nI (d2)) be2 th2) YR) hx hb hts hinX4 tyX4 tyX4_ok nmX4 hown hK hP hD hS 0 rfl rfl 6 (Nat.le_of_ble_eq_true rfl) hf86 rfl rfl rfl rfl (Nat.le_of_ble_eq_true rfl) rfl dX4_square_161 (fun H locs hP hS => ?_)
                  have hD : va_D Z (wM cI cZ q (uN (uN (uN (uN n 0 d1) 1 d2) 2 be2) 3 th2) mb (fR f pl2 (nI (d1)) (nI (d2)) be2 th2) YR) := hD.same rfl
                  have hYe : YR = (uY YR 0 (va_cpy (YR 7) (YR 0) 0 0 0)) := by rw [cpy_0]; exact (uY_self _ 0 rfl).symm
                  have hP : va_P (dC, dI) vwCl (wM cI cZ q (uN (uN (uN (uN n 0 (d1)) 1 (d2)) 2 (be2)) 3 (th2)) mb (fR f pl2 (nI (d1)) (nI (d2)) be2 th2) (uY YR 0 (va_cpy (YR 7) (YR 0) 0 0 0))) H := hYe ▸ hP
                  have hD : va_D Z (wM cI cZ q (uN (uN (uN (uN n 0 (d1)) 1 (d2)) 2 (be2)) 3 (th2)) mb (fR f pl2 (nI (d1)) (nI (d2)) be2 th2) (uY YR 0 (va_cpy (YR 7) (YR 0) 0 0 0))) := hD.same rfl
                  refine lv_iconst (v := nI 0) hx hb dX4_square_164 rfl ?_
                  refine lv_istore (lv' := [(5, .int (nI 0)), (0, .ref (q 0)), (1, .int (nI j)), (2, .int (nI l0)), (3, .int (nI ia)), (4, .int (nI na))]) hx hb dX4_square_165 hl (by decide) rfl (fun ls hl => ?_)
                  have L167 : ∀ (fuel : Nat) (c : Nat) (hc : c ≤ d1 * d2) (hfu : d1 * d2 - c < fuel) (H : Heap) (locs : List Loc), va_P (dC, dI) vwCl (wM cI cZ q (uN (uN (uN (uN n 0 (d1)) 1 (d2)) 2 (be2)) 3 (th2)) mb (fR f pl2 (nI (d1)) (nI (d2)) be2 th2) (uY YR 0 (va_cpy (YR 7) (YR 0) 0 0 c))) H → va_S Z ss.heap H locs → ∀ (ls : Array Slot), lv_has ls 6 [(0, .ref (q 0)), (5, .int (nI c))] → W pp l ee RR ss mm aa bb me cd H locs 0 0 QQ (F0 mm 167 ls []) := by
                    intro fuel
                    induction fuel with
                    | zero => intro c hc hfu; exact absurd hfu (Nat.not_lt_zero _)
                    | succ fuel ih =>
                      intro c hc hfu H locs hP hS ls hl
                      have hD : va_D Z (wM cI cZ q (uN (uN (uN (uN n 0 (d1)) 1 (d2)) 2 (be2)) 3 (th2)) mb (fR f pl2 (nI (d1)) (nI (d2)) be2 th2) (uY YR 0 (va_cpy (YR 7) (YR 0) 0 0 c))) := hD.same rfl
                      refine lv_iload hx hb dX4_square_167 (lv_at hl 1 rfl) ?_
                      refine lv_aload_n hx hb dX4_square_169 rfl (lv_at hl 0 rfl) ?_
                      refine roV_i (As := []) (rest := [.int (nI c)]) ⟨hx, hb, hml, hown, hts⟩ (kX4_cellsR l dC dI cI cZ q (uN (uN (uN (uN n 0 (d1)) 1 (d2)) 2 (be2)) 3 (th2)) mb (fR f pl2 (nI (d1)) (nI (d2)) be2 th2) (uY YR 0 (va_cpy (YR 7) (YR 0) 0 0 c)) _) (cwV 0 hts gX4_square_X4_cells rfl rfl rfl hdX4_cells ⟨Nat.le_trans (Nat.le_of_ble_eq_true rfl) hRf, Nat.le_trans (Nat.le_of_ble_eq_true rfl) hRl⟩) (va_recv hK hP (ci := 4) (q0 := 0) rfl rfl) hK hP rfl hl.1 rfl (Nat.le_of_ble_eq_true rfl) dX4_square_170 ⟨Nat.zero_le _, Nat.zero_le _⟩ hP hS hA (fun H locs hP hS => ?_)
                      refine x_top (y := nI (d1 * d2)) rfl ?_
                      refine x_icmp_ge (tgt := 196) hx hb (by omega) (by omega) dX4_square_173 (by decide) (fun c173 => ?_) (fun c173 => ?_)
                      · skip
                        have hce : c = d1 * d2 := by omega
                        rw [hce] at hP
                        have hYe : (uY YR 0 (va_cpy (YR 7) (YR 0) 0 0 (d1 * d2))) = (uY (uY YR 0 (va_cpy (YR 7) (YR 0) 0 0 (d1 * d2))) 1 (va_cpy (YR 8) (YR 1) 0 0 0)) := by rw [cpy_0]; exact (uY_self _ 1 rfl).symm
                        have hP : va_P (dC, dI) vwCl (wM cI cZ q (uN (uN (uN (uN n 0 (d1)) 1 (d2)) 2 (be2)) 3 (th2)) mb (fR f pl2 (nI (d1)) (nI (d2)) be2 th2) (uY (uY YR 0 (va_cpy (YR 7) (YR 0) 0 0 (d1 * d2))) 1 (va_cpy (YR 8) (YR 1) 0 0 0))) H := hYe ▸ hP
                        have hD : va_D Z (wM cI cZ q (uN (uN (uN (uN n 0 (d1)) 1 (d2)) 2 (be2)) 3 (th2)) mb (fR f pl2 (nI (d1)) (nI (d2)) be2 th2) (uY (uY YR 0 (va_cpy (YR 7) (YR 0) 0 0 (d1 * d2))) 1 (va_cpy (YR 8) (YR 1) 0 0 0))) := hD.same rfl
                        refine lv_iconst (v := nI 0) hx hb dX4_square_196 rfl ?_
                        refine lv_istore (lv' := [(5, .int (nI 0)), (0, .ref (q 0))]) hx hb dX4_square_197 hl (by decide) rfl (fun ls hl => ?_)
                        have L199 : ∀ (fuel : Nat) (b : Nat) (hb9 : b ≤ be2) (hfu : be2 - b < fuel) (H : Heap) (locs : List Loc), va_P (dC, dI) vwCl (wM cI cZ q (uN (uN (uN (uN n 0 (d1)) 1 (d2)) 2 (be2)) 3 (th2)) mb (fR f pl2 (nI (d1)) (nI (d2)) be2 th2) (uY (uY YR 0 (va_cpy (YR 7) (YR 0) 0 0 (d1 * d2))) 1 (va_cpy (YR 8) (YR 1) 0 0 b))) H → va_S Z ss.heap H locs → ∀ (ls : Array Slot), lv_has ls 6 [(0, .ref (q 0)), (5, .int (nI b))] → W pp l ee RR ss mm aa bb me cd H locs 0 0 QQ (F0 mm 199 ls []) := by
                          intro fuel199
                          induction fuel199 with
                          | zero => intro b hb9 hfu; exact absurd hfu (Nat.not_lt_zero _)
                          | succ fuel199 ih199 =>
                            intro b hb9 hfu H locs hP hS ls hl
                            have hD : va_D Z (wM cI cZ q (uN (uN (uN (uN n 0 (d1)) 1 (d2)) 2 (be2)) 3 (th2)) mb (fR f pl2 (nI (d1)) (nI (d2)) be2 th2) (uY (uY YR 0 (va_cpy (YR 7) (YR 0) 0 0 (d1 * d2))) 1 (va_cpy (YR 8) (YR 1) 0 0 b))) := hD.same rfl
                            refine lv_iload hx hb dX4_square_199 (lv_at hl 1 rfl) ?_
                            refine lv_aload_n hx hb dX4_square_201 rfl (lv_at hl 0 rfl) ?_
                            refine x_get (D := (dC, dI)) (ci := 4) (v := .int (nI be2)) (C := RX4) (T := TX4) (N := 31) hx hb hts hinX4 hown hK hP 0 rfl rfl 4 (Nat.le_of_ble_eq_true rfl) hf89 rfl rfl dX4_square_202 ?_
                            refine x_icmp_ge (tgt := 228) hx hb (by omega) (by omega) dX4_square_205 (by decide) (fun c205 => ?_) (fun c205 => ?_)
                            · skip
                              have hbe : b = be2 := by omega
                              rw [hbe] at hP
                              have hP : va_P (dC, dI) vwCl (wM cI cZ q (uN (uN (uN (uN n 0 (d1)) 1 (d2)) 2 (be2)) 3 (th2)) mb (fR f pl2 (nI (d1)) (nI (d2)) be2 th2) (thY (uY (uY YR 0 (va_cpy (YR 7) (YR 0) 0 0 (d1 * d2))) 1 (va_cpy (YR 8) (YR 1) 0 0 be2)) 0)) H := (thY_0 (uY (uY YR 0 (va_cpy (YR 7) (YR 0) 0 0 (d1 * d2))) 1 (va_cpy (YR 8) (YR 1) 0 0 be2))).symm ▸ hP
                              have hD : va_D Z (wM cI cZ q (uN (uN (uN (uN n 0 (d1)) 1 (d2)) 2 (be2)) 3 (th2)) mb (fR f pl2 (nI (d1)) (nI (d2)) be2 th2) (thY (uY (uY YR 0 (va_cpy (YR 7) (YR 0) 0 0 (d1 * d2))) 1 (va_cpy (YR 8) (YR 1) 0 0 be2)) 0)) := hD.same rfl
                              refine lv_iconst (v := nI 0) hx hb dX4_square_228 rfl ?_
                              refine lv_istore (lv' := [(5, .int (nI 0)), (0, .ref (q 0))]) hx hb dX4_square_229 hl (by decide) rfl (fun ls hl => ?_)
                              have L231 : ∀ (fuel : Nat) (t0 : Nat) (ht9 : t0 ≤ th2) (hfu : th2 - t0 < fuel) (H : Heap) (locs : List Loc), va_P (dC, dI) vwCl (wM cI cZ q (uN (uN (uN (uN n 0 (d1)) 1 (d2)) 2 (be2)) 3 (th2)) mb (fR f pl2 (nI (d1)) (nI (d2)) be2 th2) (thY (uY (uY YR 0 (va_cpy (YR 7) (YR 0) 0 0 (d1 * d2))) 1 (va_cpy (YR 8) (YR 1) 0 0 be2)) t0)) H → va_S Z ss.heap H locs → ∀ (ls : Array Slot), lv_has ls 6 [(0, .ref (q 0)), (5, .int (nI t0))] → W pp l ee RR ss mm aa bb me cd H locs 0 0 QQ (F0 mm 231 ls []) := by
                                intro fuel231
                                induction fuel231 with
                                | zero => intro t0 ht9 hfu; exact absurd hfu (Nat.not_lt_zero _)
                                | succ fuel231 ih231 =>
                                  intro t0 ht9 hfu H locs hP hS ls hl
                                  have hD : va_D Z (wM cI cZ q (uN (uN (uN (uN n 0 (d1)) 1 (d2)) 2 (be2)) 3 (th2)) mb (fR f pl2 (nI (d1)) (nI (d2)) be2 th2) (thY (uY (uY YR 0 (va_cpy (YR 7) (YR 0) 0 0 (d1 * d2))) 1 (va_cpy (YR 8) (YR 1) 0 0 be2)) t0)) := hD.same rfl
                                  refine lv_iload hx hb dX4_square_231 (lv_at hl 1 rfl) ?_
                                  refine lv_aload_n hx hb dX4_square_233 rfl (lv_at hl 0 rfl) ?_
                                  refine x_get (D := (dC, dI)) (ci := 4) (v := .int (nI th2)) (C := RX4) (T := TX4) (N := 31) hx hb hts hinX4 hown hK hP 0 rfl rfl 6 (Nat.le_of_ble_eq_true rfl) hf86 rfl rfl dX4_square_234 ?_
                                  refine x_icmp_ge (tgt := 304) hx hb (by omega) (by omega) dX4_square_237 (by decide) (fun c237 => ?_) (fun c237 => ?_)
                                  · skip
                                    refine lv_aload_n hx hb dX4_square_304 rfl (lv_at hl 0 rfl) ?_
                                    refine lv_iconst (v := nI 0) hx hb dX4_square_305 rfl ?_
                                    refine x_put (D := (dC, dI)) (ci := 4) (v := .int (nI 0)) (C := RX4) (T := TX4) (N := 31) (wn := wM cI cZ q (uN (uN (uN (uN (uN n 0 (d1)) 1 (d2)) 2 (be2)) 3 (th2)) 4 0) mb (fR f pl2 (nI (d1)) (nI (d2)) be2 th2) (thY (uY (uY YR 0 (va_cpy (YR 7) (YR 0) 0 0 (d1 * d2))) 1 (va_cpy (YR 8) (YR 1) 0 0 be2)) t0)) hx hb hts hinX4 tyX4 tyX4_ok nmX4 hown hK hP hD hS 0 rfl rfl 12 (Nat.le_of_ble_eq_true rfl) hf140 rfl rfl rfl rfl (Nat.le_of_ble_eq_true rfl) rfl dX4_square_306 (fun H locs hP hS => ?_)
                                    have hD : va_D Z (wM cI cZ q (uN (uN (uN (uN (uN n 0 (d1)) 1 (d2)) 2 (be2)) 3 (th2)) 4 0) mb (fR f pl2 (nI (d1)) (nI (d2)) be2 th2) (thY (uY (uY YR 0 (va_cpy (YR 7) (YR 0) 0 0 (d1 * d2))) 1 (va_cpy (YR 8) (YR 1) 0 0 be2)) t0)) := hD.same rfl
                                    refine lv_aload_n hx hb dX4_square_309 rfl (lv_at hl 0 rfl) ?_
                                    refine lv_iconst (v := nI 0) hx hb dX4_square_310 rfl ?_
                                    refine x_put (D := (dC, dI)) (ci := 4) (v := .int (nI 0)) (C := RX4) (T := TX4) (N := 31) (wn := wM cI cZ q (uN (uN (uN (uN (uN (uN n 0 (d1)) 1 (d2)) 2 (be2)) 3 (th2)) 4 0) 5 0) mb (fR f pl2 (nI (d1)) (nI (d2)) be2 th2) (thY (uY (uY YR 0 (va_cpy (YR 7) (YR 0) 0 0 (d1 * d2))) 1 (va_cpy (YR 8) (YR 1) 0 0 be2)) t0)) hx hb hts hinX4 tyX4 tyX4_ok nmX4 hown hK hP hD hS 0 rfl rfl 13 (Nat.le_of_ble_eq_true rfl) hf143 rfl rfl (by decide) (by decide) (Nat.le_of_ble_eq_true rfl) rfl dX4_square_311 (fun H locs hP hS => ?_)
                                    have hD : va_D Z (wM cI cZ q (uN (uN (uN (uN (uN (uN n 0 (d1)) 1 (d2)) 2 (be2)) 3 (th2)) 4 0) 5 0) mb (fR f pl2 (nI (d1)) (nI (d2)) be2 th2) (thY (uY (uY YR 0 (va_cpy (YR 7) (YR 0) 0 0 (d1 * d2))) 1 (va_cpy (YR 8) (YR 1) 0 0 be2)) t0)) := hD.same rfl
                                    refine lv_aload_n hx hb dX4_square_314 rfl (lv_at hl 0 rfl) ?_
                                    refine lv_bipush (v := -9) hx hb dX4_square_315 rfl ?_
                                    refine x_put (D := (dC, dI)) (ci := 4) (v := .int (-9)) (C := RX4) (T := TX4) (N := 31) (wn := wM cI cZ q (uN (uN (uN (uN (uN (uN (uN n 0 (d1)) 1 (d2)) 2 (be2)) 3 (th2)) 4 0) 5 0) 6 0) mb (fR f pl2 (nI (d1)) (nI (d2)) be2 th2) (thY (uY (uY YR 0 (va_cpy (YR 7) (YR 0) 0 0 (d1 * d2))) 1 (va_cpy (YR 8) (YR 1) 0 0 be2)) t0)) hx hb hts hinX4 tyX4 tyX4_ok nmX4 hown hK hP hD hS 0 rfl rfl 24 (Nat.le_of_ble_eq_true rfl) hf47 rfl rfl rfl rfl (Nat.le_of_ble_eq_true rfl) rfl dX4_square_317 (fun H locs hP hS => ?_)
                                    have hD : va_D Z (wM cI cZ q (uN (uN (uN (uN (uN (uN (uN n 0 (d1)) 1 (d2)) 2 (be2)) 3 (th2)) 4 0) 5 0) 6 0) mb (fR f pl2 (nI (d1)) (nI (d2)) be2 th2) (thY (uY (uY YR 0 (va_cpy (YR 7) (YR 0) 0 0 (d1 * d2))) 1 (va_cpy (YR 8) (YR 1) 0 0 be2)) t0)) := hD.same rfl
                                    refine lv_aload_n hx hb dX4_square_320 rfl (lv_at hl 0 rfl) ?_
                                    refine lv_aload_n hx hb dX4_square_321 rfl (lv_at hl 0 rfl) ?_
                                    refine roV_i (As := []) (rest := [.ref (q 0)]) ⟨hx, hb, hml, hown, hts⟩ (kX4_cellsR l dC dI cI cZ q (uN (uN (uN (uN (uN (uN (uN n 0 (d1)) 1 (d2)) 2 (be2)) 3 (th2)) 4 0) 5 0) 6 0) mb (fR f pl2 (nI (d1)) (nI (d2)) be2 th2) (thY (uY (uY YR 0 (va_cpy (YR 7) (YR 0) 0 0 (d1 * d2))) 1 (va_cpy (YR 8) (YR 1) 0 0 be2)) t0) _) (cwV 0 hts gX4_square_X4_cells rfl rfl rfl hdX4_cells ⟨Nat.le_trans (Nat.le_of_ble_eq_true rfl) hRf, Nat.le_trans (Nat.le_of_ble_eq_true rfl) hRl⟩) (va_recv hK hP (ci := 4) (q0 := 0) rfl rfl) hK hP rfl hl.1 rfl (Nat.le_of_ble_eq_true rfl) dX4_square_322 ⟨Nat.zero_le _, Nat.zero_le _⟩ hP hS hA (fun H locs hP hS => ?_)
                                    refine x_top (y := nI (d1 * d2)) rfl ?_
                                    refine rwW_i (As := [.int (nI (d1 * d2))]) (rest := []) (wn := wM cI cZ q (uN (uN (uN (uN (uN (uN (uN n 0 (d1)) 1 (d2)) 2 (be2)) 3 (th2)) 4 0) 5 0) 6 0) mb (uF (fR f pl2 (nI (d1)) (nI (d2)) be2 th2) 0 0) (thY (uY (uY YR 0 (va_cpy (YR 7) (YR 0) 0 0 (d1 * d2))) 1 (va_cpy (YR 8) (YR 1) 0 0 be2)) t0)) ⟨hx, hb, hml, hown, hts⟩ (kX4_refused l dC dI cI cZ q (uN (uN (uN (uN (uN (uN (uN n 0 (d1)) 1 (d2)) 2 (be2)) 3 (th2)) 4 0) 5 0) 6 0) mb (fR f pl2 (nI (d1)) (nI (d2)) be2 th2) (thY (uY (uY YR 0 (va_cpy (YR 7) (YR 0) 0 0 (d1 * d2))) 1 (va_cpy (YR 8) (YR 1) 0 0 be2)) t0) (nI (d1 * d2)) _) (cwV 1 hts gX4_square_X4_refused rfl rfl rfl hdX4_refused ⟨Nat.le_trans (Nat.le_of_ble_eq_true rfl) hRf, Nat.le_trans (Nat.le_of_ble_eq_true rfl) hRl⟩) (va_recv hK hP (ci := 4) (q0 := 0) rfl rfl) hK rfl hl.1 rfl (Nat.le_of_ble_eq_true rfl) dX4_square_325 ⟨Nat.zero_le _, Nat.zero_le _⟩ hP hD hS hA [0, 1, 2, 3, 4, 5, 6, 7, 8, 9, 10, 11, 12, 13, 14, 15, 16] [] [0, 1, 2, 3, 4, 5, 6, 7, 8, 9, 10, 11, 12, 13, 14, 15, 16] rfl rfl (by decide) (by decide) (by decide) rfl rfl (fun H locs hP hS => ?_)
                                    have hD : va_D Z (wM cI cZ q (uN (uN (uN (uN (uN (uN (uN n 0 (d1)) 1 (d2)) 2 (be2)) 3 (th2)) 4 0) 5 0) 6 0) mb (uF (fR f pl2 (nI (d1)) (nI (d2)) be2 th2) 0 0) (thY (uY (uY YR 0 (va_cpy (YR 7) (YR 0) 0 0 (d1 * d2))) 1 (va_cpy (YR 8) (YR 1) 0 0 be2)) t0)) := hD.same rfl
                                    exact hend _ _ _ _ _ _ (by rw [uSqM, if_pos c4, if_pos c22, hxj, hxl0, if_pos hz, hxna, if_pos c117, hd1, hd2]) (by rw [show okSq hs la le (nI j) (nI l0) (nI ia) (nI na) = true from by rw [okSq, c22, c4, hxj, hxl0, hz]; rfl, fSq, if_pos ⟨c4, c22⟩, hxj, hxl0, hz, hxna, nSqM, ySqM, fSqM, if_pos ⟨rfl, c117⟩, if_pos rfl, if_pos rfl, if_pos c117, mrF_t hv1 hv2 hv3, hd1, hd2, hM, show t0 = th2 from by omega] <;> rfl) hP hS dX4_square_328
                                  · skip
                                    refine lv_aload_n hx hb dX4_square_240 rfl (lv_at hl 0 rfl) ?_
                                    refine x_get (D := (dC, dI)) (ci := 4) (v := .ref (q 3)) (C := RX4) (T := TX4) (N := 31) hx hb hts hinX4 hown hK hP 0 rfl rfl 7 (Nat.le_of_ble_eq_true rfl) hf16 rfl rfl dX4_square_241 ?_
                                    refine lv_iload hx hb dX4_square_244 (lv_at hl 1 rfl) ?_
                                    refine lv_aload_n hx hb dX4_square_246 rfl (lv_at hl 0 rfl) ?_
                                    refine x_get (D := (dC, dI)) (ci := 4) (v := .ref (q 10)) (C := RX4) (T := TX4) (N := 31) hx hb hts hinX4 hown hK hP 0 rfl rfl 21 (Nat.le_of_ble_eq_true rfl) hf38 rfl rfl dX4_square_247 ?_
                                    refine lv_iload hx hb dX4_square_250 (lv_at hl 1 rfl) ?_
                                    refine x_iald (v := (YR 9 t0)) hx hb hK hP 10 0 rfl rfl (by omega) (by decide) rfl dX4_square_252 ?_
                                    refine x_iast (wn := wM cI cZ q (uN (uN (uN (uN n 0 (d1)) 1 (d2)) 2 (be2)) 3 (th2)) mb (fR f pl2 (nI (d1)) (nI (d2)) be2 th2) (uX (thY (uY (uY YR 0 (va_cpy (YR 7) (YR 0) 0 0 (d1 * d2))) 1 (va_cpy (YR 8) (YR 1) 0 0 be2)) t0) 2 t0 (YR 9 t0))) hx hb hK hP hD hS 3 0 rfl rfl (by omega) (by decide) rfl dX4_square_253 (fun H locs hP hS => ?_)
                                    have hD : va_D Z (wM cI cZ q (uN (uN (uN (uN n 0 (d1)) 1 (d2)) 2 (be2)) 3 (th2)) mb (fR f pl2 (nI (d1)) (nI (d2)) be2 th2) (uX (thY (uY (uY YR 0 (va_cpy (YR 7) (YR 0) 0 0 (d1 * d2))) 1 (va_cpy (YR 8) (YR 1) 0 0 be2)) t0) 2 t0 (YR 9 t0))) := hD.same rfl
                                    refine lv_aload_n hx hb dX4_square_254 rfl (lv_at hl 0 rfl) ?_
                                    refine x_get (D := (dC, dI)) (ci := 4) (v := .ref (q 4)) (C := RX4) (T := TX4) (N := 31) hx hb hts hinX4 hown hK hP 0 rfl rfl 8 (Nat.le_of_ble_eq_true rfl) hf19 rfl rfl dX4_square_255 ?_
                                    refine lv_iload hx hb dX4_square_258 (lv_at hl 1 rfl) ?_
                                    refine lv_aload_n hx hb dX4_square_260 rfl (lv_at hl 0 rfl) ?_
                                    refine x_get (D := (dC, dI)) (ci := 4) (v := .ref (q 11)) (C := RX4) (T := TX4) (N := 31) hx hb hts hinX4 hown hK hP 0 rfl rfl 22 (Nat.le_of_ble_eq_true rfl) hf41 rfl rfl dX4_square_261 ?_
                                    refine lv_iload hx hb dX4_square_264 (lv_at hl 1 rfl) ?_
                                    refine x_iald (v := (YR 10 t0)) hx hb hK hP 11 0 rfl rfl (by omega) (by decide) rfl dX4_square_266 ?_
                                    refine x_iast (wn := wM cI cZ q (uN (uN (uN (uN n 0 (d1)) 1 (d2)) 2 (be2)) 3 (th2)) mb (fR f pl2 (nI (d1)) (nI (d2)) be2 th2) (uX (uX (thY (uY (uY YR 0 (va_cpy (YR 7) (YR 0) 0 0 (d1 * d2))) 1 (va_cpy (YR 8) (YR 1) 0 0 be2)) t0) 2 t0 (YR 9 t0)) 3 t0 (YR 10 t0))) hx hb hK hP hD hS 4 0 rfl rfl (by omega) (by decide) rfl dX4_square_267 (fun H locs hP hS => ?_)
                                    have hD : va_D Z (wM cI cZ q (uN (uN (uN (uN n 0 (d1)) 1 (d2)) 2 (be2)) 3 (th2)) mb (fR f pl2 (nI (d1)) (nI (d2)) be2 th2) (uX (uX (thY (uY (uY YR 0 (va_cpy (YR 7) (YR 0) 0 0 (d1 * d2))) 1 (va_cpy (YR 8) (YR 1) 0 0 be2)) t0) 2 t0 (YR 9 t0)) 3 t0 (YR 10 t0))) := hD.same rfl
                                    refine lv_aload_n hx hb dX4_square_268 rfl (lv_at hl 0 rfl) ?_
                                    refine x_get (D := (dC, dI)) (ci := 4) (v := .ref (q 5)) (C := RX4) (T := TX4) (N := 31) hx hb hts hinX4 hown hK hP 0 rfl rfl 9 (Nat.le_of_ble_eq_true rfl) hf22 rfl rfl dX4_square_269 ?_
                                    refine lv_iload hx hb dX4_square_272 (lv_at hl 1 rfl) ?_
                                    refine lv_aload_n hx hb dX4_square_274 rfl (lv_at hl 0 rfl) ?_
                                    refine x_get (D := (dC, dI)) (ci := 4) (v := .ref (q 12)) (C := RX4) (T := TX4) (N := 31) hx hb hts hinX4 hown hK hP 0 rfl rfl 23 (Nat.le_of_ble_eq_true rfl) hf44 rfl rfl dX4_square_275 ?_
                                    refine lv_iload hx hb dX4_square_278 (lv_at hl 1 rfl) ?_
                                    refine x_iald (v := (YR 11 t0)) hx hb hK hP 12 0 rfl rfl (by omega) (by decide) rfl dX4_square_280 ?_
                                    refine x_iast (wn := wM cI cZ q (uN (uN (uN (uN n 0 (d1)) 1 (d2)) 2 (be2)) 3 (th2)) mb (fR f pl2 (nI (d1)) (nI (d2)) be2 th2) (uX (uX (uX (thY (uY (uY YR 0 (va_cpy (YR 7) (YR 0) 0 0 (d1 * d2))) 1 (va_cpy (YR 8) (YR 1) 0 0 be2)) t0) 2 t0 (YR 9 t0)) 3 t0 (YR 10 t0)) 4 t0 (YR 11 t0))) hx hb hK hP hD hS 5 0 rfl rfl (by omega) (by decide) rfl dX4_square_281 (fun H locs hP hS => ?_)
                                    have hD : va_D Z (wM cI cZ q (uN (uN (uN (uN n 0 (d1)) 1 (d2)) 2 (be2)) 3 (th2)) mb (fR f pl2 (nI (d1)) (nI (d2)) be2 th2) (uX (uX (uX (thY (uY (uY YR 0 (va_cpy (YR 7) (YR 0) 0 0 (d1 * d2))) 1 (va_cpy (YR 8) (YR 1) 0 0 be2)) t0) 2 t0 (YR 9 t0)) 3 t0 (YR 10 t0)) 4 t0 (YR 11 t0))) := hD.same rfl
                                    refine lv_aload_n hx hb dX4_square_282 rfl (lv_at hl 0 rfl) ?_
                                    refine x_get (D := (dC, dI)) (ci := 4) (v := .ref (q 6)) (C := RX4) (T := TX4) (N := 31) hx hb hts hinX4 hown hK hP 0 rfl rfl 10 (Nat.le_of_ble_eq_true rfl) hf25 rfl rfl dX4_square_283 ?_
                                    refine lv_iload hx hb dX4_square_286 (lv_at hl 1 rfl) ?_
                                    refine lv_iconst (v := nI 0) hx hb dX4_square_288 rfl ?_
                                    refine x_zast (wn := wM cI cZ q (uN (uN (uN (uN n 0 (d1)) 1 (d2)) 2 (be2)) 3 (th2)) mb (fR f pl2 (nI (d1)) (nI (d2)) be2 th2) (uX (uX (uX (uX (thY (uY (uY YR 0 (va_cpy (YR 7) (YR 0) 0 0 (d1 * d2))) 1 (va_cpy (YR 8) (YR 1) 0 0 be2)) t0) 2 t0 (YR 9 t0)) 3 t0 (YR 10 t0)) 4 t0 (YR 11 t0)) 5 t0 (nI 0))) hx hb hK hP hD hS 6 1 rfl rfl rfl (by omega) (by decide) rfl dX4_square_289 (fun H locs hP hS => ?_)
                                    have hD : va_D Z (wM cI cZ q (uN (uN (uN (uN n 0 (d1)) 1 (d2)) 2 (be2)) 3 (th2)) mb (fR f pl2 (nI (d1)) (nI (d2)) be2 th2) (uX (uX (uX (uX (thY (uY (uY YR 0 (va_cpy (YR 7) (YR 0) 0 0 (d1 * d2))) 1 (va_cpy (YR 8) (YR 1) 0 0 be2)) t0) 2 t0 (YR 9 t0)) 3 t0 (YR 10 t0)) 4 t0 (YR 11 t0)) 5 t0 (nI 0))) := hD.same rfl
                                    refine lv_aload_n hx hb dX4_square_290 rfl (lv_at hl 0 rfl) ?_
                                    refine x_get (D := (dC, dI)) (ci := 4) (v := .ref (q 7)) (C := RX4) (T := TX4) (N := 31) hx hb hts hinX4 hown hK hP 0 rfl rfl 11 (Nat.le_of_ble_eq_true rfl) hf29 rfl rfl dX4_square_291 ?_
                                    refine lv_iload hx hb dX4_square_294 (lv_at hl 1 rfl) ?_
                                    refine lv_iconst (v := nI 1) hx hb dX4_square_296 rfl ?_
                                    refine x_iast (wn := wM cI cZ q (uN (uN (uN (uN n 0 (d1)) 1 (d2)) 2 (be2)) 3 (th2)) mb (fR f pl2 (nI (d1)) (nI (d2)) be2 th2) (uX (uX (uX (uX (uX (thY (uY (uY YR 0 (va_cpy (YR 7) (YR 0) 0 0 (d1 * d2))) 1 (va_cpy (YR 8) (YR 1) 0 0 be2)) t0) 2 t0 (YR 9 t0)) 3 t0 (YR 10 t0)) 4 t0 (YR 11 t0)) 5 t0 (nI 0)) 6 t0 (nI 1))) hx hb hK hP hD hS 7 0 rfl rfl (by omega) (by decide) rfl dX4_square_297 (fun H locs hP hS => ?_)
                                    have hD : va_D Z (wM cI cZ q (uN (uN (uN (uN n 0 (d1)) 1 (d2)) 2 (be2)) 3 (th2)) mb (fR f pl2 (nI (d1)) (nI (d2)) be2 th2) (uX (uX (uX (uX (uX (thY (uY (uY YR 0 (va_cpy (YR 7) (YR 0) 0 0 (d1 * d2))) 1 (va_cpy (YR 8) (YR 1) 0 0 be2)) t0) 2 t0 (YR 9 t0)) 3 t0 (YR 10 t0)) 4 t0 (YR 11 t0)) 5 t0 (nI 0)) 6 t0 (nI 1))) := hD.same rfl
                                    have hYe : uX (uX (uX (uX (uX (thY (uY (uY YR 0 (va_cpy (YR 7) (YR 0) 0 0 (d1 * d2))) 1 (va_cpy (YR 8) (YR 1) 0 0 be2)) t0) 2 t0 (YR 9 t0)) 3 t0 (YR 10 t0)) 4 t0 (YR 11 t0)) 5 t0 (nI 0)) 6 t0 (nI 1) = (thY (uY (uY YR 0 (va_cpy (YR 7) (YR 0) 0 0 (d1 * d2))) 1 (va_cpy (YR 8) (YR 1) 0 0 be2)) (t0 + 1)) := thY_s (uY (uY YR 0 (va_cpy (YR 7) (YR 0) 0 0 (d1 * d2))) 1 (va_cpy (YR 8) (YR 1) 0 0 be2)) t0
                                    have hP : va_P (dC, dI) vwCl (wM cI cZ q (uN (uN (uN (uN n 0 (d1)) 1 (d2)) 2 (be2)) 3 (th2)) mb (fR f pl2 (nI (d1)) (nI (d2)) be2 th2) (thY (uY (uY YR 0 (va_cpy (YR 7) (YR 0) 0 0 (d1 * d2))) 1 (va_cpy (YR 8) (YR 1) 0 0 be2)) (t0 + 1))) H := hYe ▸ hP
                                    have hD : va_D Z (wM cI cZ q (uN (uN (uN (uN n 0 (d1)) 1 (d2)) 2 (be2)) 3 (th2)) mb (fR f pl2 (nI (d1)) (nI (d2)) be2 th2) (thY (uY (uY YR 0 (va_cpy (YR 7) (YR 0) 0 0 (d1 * d2))) 1 (va_cpy (YR 8) (YR 1) 0 0 be2)) (t0 + 1))) := hD.same rfl
                                    refine lv_iinc (v := (nI (t0 + 1))) (lv' := [(5, .int (nI (t0 + 1))), (0, .ref (q 0))]) hx hb dX4_square_298 hl (k := 1) rfl (nI_add _ _) (by decide) rfl (fun ls hl => ?_)
                                    refine lv_goto (tgt := 231) hx hb dX4_square_301 (by decide) ?_
                                    exact ih231 (t0 + 1) (by omega) (by omega) _ _ hP hS _ (lv_sub hl [1, 0] rfl)
                              exact L231 _ 0 (by omega) (Nat.lt_succ_self _) _ _ hP hS _ (lv_sub hl [1, 0] rfl)
                            · skip
                              refine lv_aload_n hx hb dX4_square_208 rfl (lv_at hl 0 rfl) ?_
                              refine x_get (D := (dC, dI)) (ci := 4) (v := .ref (q 2)) (C := RX4) (T := TX4) (N := 31) hx hb hts hinX4 hown hK hP 0 rfl rfl 5 (Nat.le_of_ble_eq_true rfl) hf13 rfl rfl dX4_square_209 ?_
                              refine lv_iload hx hb dX4_square_212 (lv_at hl 1 rfl) ?_
                              refine lv_aload_n hx hb dX4_square_214 rfl (lv_at hl 0 rfl) ?_
                              refine x_get (D := (dC, dI)) (ci := 4) (v := .ref (q 9)) (C := RX4) (T := TX4) (N := 31) hx hb hts hinX4 hown hK hP 0 rfl rfl 20 (Nat.le_of_ble_eq_true rfl) hf35 rfl rfl dX4_square_215 ?_
                              refine lv_iload hx hb dX4_square_218 (lv_at hl 1 rfl) ?_
                              refine x_iald (v := (YR 8 b)) hx hb hK hP 9 0 rfl rfl (by omega) (by decide) rfl dX4_square_220 ?_
                              refine x_iast (wn := wM cI cZ q (uN (uN (uN (uN n 0 (d1)) 1 (d2)) 2 (be2)) 3 (th2)) mb (fR f pl2 (nI (d1)) (nI (d2)) be2 th2) (uX (uY (uY YR 0 (va_cpy (YR 7) (YR 0) 0 0 (d1 * d2))) 1 (va_cpy (YR 8) (YR 1) 0 0 b)) 1 b (YR 8 b))) hx hb hK hP hD hS 2 0 rfl rfl (by omega) (by decide) rfl dX4_square_221 (fun H locs hP hS => ?_)
                              have hD : va_D Z (wM cI cZ q (uN (uN (uN (uN n 0 (d1)) 1 (d2)) 2 (be2)) 3 (th2)) mb (fR f pl2 (nI (d1)) (nI (d2)) be2 th2) (uX (uY (uY YR 0 (va_cpy (YR 7) (YR 0) 0 0 (d1 * d2))) 1 (va_cpy (YR 8) (YR 1) 0 0 b)) 1 b (YR 8 b))) := hD.same rfl
                              have hYe : uX (uY (uY YR 0 (va_cpy (YR 7) (YR 0) 0 0 (d1 * d2))) 1 (va_cpy (YR 8) (YR 1) 0 0 b)) 1 b (YR 8 b) = (uY (uY YR 0 (va_cpy (YR 7) (YR 0) 0 0 (d1 * d2))) 1 (va_cpy (YR 8) (YR 1) 0 0 (b + 1))) := by rw [uX_uY, cpy_s0]
                              have hP : va_P (dC, dI) vwCl (wM cI cZ q (uN (uN (uN (uN n 0 (d1)) 1 (d2)) 2 (be2)) 3 (th2)) mb (fR f pl2 (nI (d1)) (nI (d2)) be2 th2) (uY (uY YR 0 (va_cpy (YR 7) (YR 0) 0 0 (d1 * d2))) 1 (va_cpy (YR 8) (YR 1) 0 0 (b + 1)))) H := hYe ▸ hP
                              have hD : va_D Z (wM cI cZ q (uN (uN (uN (uN n 0 (d1)) 1 (d2)) 2 (be2)) 3 (th2)) mb (fR f pl2 (nI (d1)) (nI (d2)) be2 th2) (uY (uY YR 0 (va_cpy (YR 7) (YR 0) 0 0 (d1 * d2))) 1 (va_cpy (YR 8) (YR 1) 0 0 (b + 1)))) := hD.same rfl
                              refine lv_iinc (v := (nI (b + 1))) (lv' := [(5, .int (nI (b + 1))), (0, .ref (q 0))]) hx hb dX4_square_222 hl (k := 1) rfl (nI_add _ _) (by decide) rfl (fun ls hl => ?_)
                              refine lv_goto (tgt := 199) hx hb dX4_square_225 (by decide) ?_
                              exact ih199 (b + 1) (by omega) (by omega) _ _ hP hS _ (lv_sub hl [1, 0] rfl)
                        exact L199 _ 0 (by omega) (Nat.lt_succ_self _) _ _ hP hS _ (lv_sub hl [1, 0] rfl)
                      · skip
                        refine lv_aload_n hx hb dX4_square_176 rfl (lv_at hl 0 rfl) ?_
                        refine x_get (D := (dC, dI)) (ci := 4) (v := .ref (q 1)) (C := RX4) (T := TX4) (N := 31) hx hb hts hinX4 hown hK hP 0 rfl rfl 3 (Nat.le_of_ble_eq_true rfl) hf7 rfl rfl dX4_square_177 ?_
                        refine lv_iload hx hb dX4_square_180 (lv_at hl 1 rfl) ?_
                        refine lv_aload_n hx hb dX4_square_182 rfl (lv_at hl 0 rfl) ?_
                        refine x_get (D := (dC, dI)) (ci := 4) (v := .ref (q 8)) (C := RX4) (T := TX4) (N := 31) hx hb hts hinX4 hown hK hP 0 rfl rfl 19 (Nat.le_of_ble_eq_true rfl) hf32 rfl rfl dX4_square_183 ?_
                        refine lv_iload hx hb dX4_square_186 (lv_at hl 1 rfl) ?_
                        refine x_iald (v := (YR 7 c)) hx hb hK hP 8 0 rfl rfl (by omega) (by decide) rfl dX4_square_188 ?_
                        refine x_iast (wn := wM cI cZ q (uN (uN (uN (uN n 0 (d1)) 1 (d2)) 2 (be2)) 3 (th2)) mb (fR f pl2 (nI (d1)) (nI (d2)) be2 th2) (uX (uY YR 0 (va_cpy (YR 7) (YR 0) 0 0 c)) 0 c (YR 7 c))) hx hb hK hP hD hS 1 0 rfl rfl (by omega) (by decide) rfl dX4_square_189 (fun H locs hP hS => ?_)
                        have hD : va_D Z (wM cI cZ q (uN (uN (uN (uN n 0 (d1)) 1 (d2)) 2 (be2)) 3 (th2)) mb (fR f pl2 (nI (d1)) (nI (d2)) be2 th2) (uX (uY YR 0 (va_cpy (YR 7) (YR 0) 0 0 c)) 0 c (YR 7 c))) := hD.same rfl
                        have hYe : uX (uY YR 0 (va_cpy (YR 7) (YR 0) 0 0 c)) 0 c (YR 7 c) = (uY YR 0 (va_cpy (YR 7) (YR 0) 0 0 (c + 1))) := by rw [uX_uY, cpy_s0]
                        have hP : va_P (dC, dI) vwCl (wM cI cZ q (uN (uN (uN (uN n 0 (d1)) 1 (d2)) 2 (be2)) 3 (th2)) mb (fR f pl2 (nI (d1)) (nI (d2)) be2 th2) (uY YR 0 (va_cpy (YR 7) (YR 0) 0 0 (c + 1)))) H := hYe ▸ hP
                        have hD : va_D Z (wM cI cZ q (uN (uN (uN (uN n 0 (d1)) 1 (d2)) 2 (be2)) 3 (th2)) mb (fR f pl2 (nI (d1)) (nI (d2)) be2 th2) (uY YR 0 (va_cpy (YR 7) (YR 0) 0 0 (c + 1)))) := hD.same rfl
                        refine lv_iinc (v := (nI (c + 1))) (lv' := [(5, .int (nI (c + 1))), (0, .ref (q 0))]) hx hb dX4_square_190 hl (k := 1) rfl (nI_add _ _) (by decide) rfl (fun ls hl => ?_)
                        refine lv_goto (tgt := 167) hx hb dX4_square_193 (by decide) ?_
                        exact ih (c + 1) (by omega) (by omega) _ _ hP hS _ (lv_sub hl [1, 0] rfl)
                  exact L167 _ 0 (by omega) (Nat.lt_succ_self _) _ _ hP hS _ (lv_sub hl [1, 0] rfl)
                · skip
                  refine lv_aload_n hx hb dX4_square_120 rfl (lv_at hl 0 rfl) ?_
                  refine lv_bipush (v := -100) hx hb dX4_square_121 rfl ?_
                  refine lv_aload_n hx hb dX4_square_123 rfl (lv_at hl 0 rfl) ?_
                  refine x_get (D := (dC, dI)) (ci := 4) (v := .int (mrF E na Y f 14)) (C := RX4) (T := TX4) (N := 31) hx hb hts hinX4 hown hK hP 0 rfl rfl 14 (Nat.le_of_ble_eq_true rfl) hf92 rfl rfl dX4_square_124 ?_
                  refine lv_isub hx hb dX4_square_127 ?_
                  refine rwW_i (As := [.int ((-100) - (mrF E na Y f 14))]) (rest := []) (wn := wM cI cZ q n mb (uF (mrF E na Y f) 0 0) (mrY E na Y)) ⟨hx, hb, hml, hown, hts⟩ (kX4_refused l dC dI cI cZ q n mb (mrF E na Y f) (mrY E na Y) ((-100) - (mrF E na Y f 14)) _) (cwV 1 hts gX4_square_X4_refused rfl rfl rfl hdX4_refused ⟨Nat.le_trans (Nat.le_of_ble_eq_true rfl) hRf, Nat.le_trans (Nat.le_of_ble_eq_true rfl) hRl⟩) (va_recv hK hP (ci := 4) (q0 := 0) rfl rfl) hK rfl hl.1 rfl (Nat.le_of_ble_eq_true rfl) dX4_square_128 ⟨Nat.zero_le _, Nat.zero_le _⟩ hP hD hS hA [0, 1, 2, 3, 4, 5, 6, 7, 8, 9, 10, 11, 12, 13, 14, 15, 16] [] [0, 1, 2, 3, 4, 5, 6, 7, 8, 9, 10, 11, 12, 13, 14, 15, 16] rfl rfl (by decide) (by decide) (by decide) rfl rfl (fun H locs hP hS => ?_)
                  have hD : va_D Z (wM cI cZ q n mb (uF (mrF E na Y f) 0 0) (mrY E na Y)) := hD.same rfl
                  exact hend _ _ _ _ _ _ (by rw [uSqM, if_pos c4, if_pos c22, hxj, hxl0, if_pos hz, hxna, if_neg (by rw [c117]; decide)]) (by rw [show okSq hs la le (nI j) (nI l0) (nI ia) (nI na) = true from by rw [okSq, c22, c4, hxj, hxl0, hz]; rfl, fSq, if_pos ⟨c4, c22⟩, hxj, hxl0, hz, hxna, nSqM, ySqM, fSqM, if_neg (fun q => absurd q.2 (by rw [c117]; decide)), if_pos rfl, if_pos rfl, if_neg (by rw [c117]; decide)] <;> rfl) hP hS dX4_square_131
              · skip
                have hsp : spanB i n0 (le j) = false := by simpa using c96
                refine lv_aload_n hx hb dX4_square_99 rfl (lv_at hl 0 rfl) ?_
                refine lv_iconst (v := nI 3) hx hb dX4_square_100 rfl ?_
                refine rwW_i (As := [.int (nI 3)]) (rest := []) (wn := wM cI cZ q n mb (uF f 0 (nI 3)) Y) ⟨hx, hb, hml, hown, hts⟩ (kX4_failed l dC dI cI cZ q n mb f Y 3 _) (cwV 1 hts gX4_square_X4_failed rfl rfl rfl hdX4_failed ⟨Nat.le_trans (Nat.le_of_ble_eq_true rfl) hRf, Nat.le_trans (Nat.le_of_ble_eq_true rfl) hRl⟩) (va_recv hK hP (ci := 4) (q0 := 0) rfl rfl) hK rfl hl.1 rfl (Nat.le_of_ble_eq_true rfl) dX4_square_101 ⟨Nat.zero_le _, Nat.zero_le _⟩ hP hD hS hA [0, 1, 2, 3, 4, 5, 6, 7, 8, 9, 10, 11, 12, 13, 14, 15, 16] [] [0, 1, 2, 3, 4, 5, 6, 7, 8, 9, 10, 11, 12, 13, 14, 15, 16] rfl rfl (by decide) (by decide) (by decide) rfl rfl (fun H locs hP hS => ?_)
                have hD : va_D Z (wM cI cZ q n mb (uF f 0 (nI 3)) Y) := hD.same rfl
                exact hend _ _ _ _ _ _ (by rw [uSqM, if_pos c4, if_pos c22, hxj, hxl0, show sqN hs la le j l0 i n0 = 3 from by rw [sqN, if_pos hh, if_pos c48, if_neg (Int32.not_lt.mpr c74), if_neg (by rw [hsp]; decide)], if_neg (by decide)]) (by have hz : sqN hs la le j l0 i n0 = 3 := (by rw [sqN, if_pos hh, if_pos c48, if_neg (Int32.not_lt.mpr c74), if_neg (by rw [hsp]; decide)]); rw [show okSq hs la le (nI j) (nI l0) i n0 = false from by rw [okSq, c22, c4, hxj, hxl0, hz]; rfl, fSq, if_pos ⟨c4, c22⟩, hxj, hxl0, hz] <;> rfl) hP hS dX4_square_104
            · skip
              refine lv_aload_n hx hb dX4_square_77 rfl (lv_at hl 0 rfl) ?_
              refine lv_iconst (v := nI 4) hx hb dX4_square_78 rfl ?_
              refine rwW_i (As := [.int (nI 4)]) (rest := []) (wn := wM cI cZ q n mb (uF f 0 (nI 4)) Y) ⟨hx, hb, hml, hown, hts⟩ (kX4_failed l dC dI cI cZ q n mb f Y 4 _) (cwV 1 hts gX4_square_X4_failed rfl rfl rfl hdX4_failed ⟨Nat.le_trans (Nat.le_of_ble_eq_true rfl) hRf, Nat.le_trans (Nat.le_of_ble_eq_true rfl) hRl⟩) (va_recv hK hP (ci := 4) (q0 := 0) rfl rfl) hK rfl hl.1 rfl (Nat.le_of_ble_eq_true rfl) dX4_square_79 ⟨Nat.zero_le _, Nat.zero_le _⟩ hP hD hS hA [0, 1, 2, 3, 4, 5, 6, 7, 8, 9, 10, 11, 12, 13, 14, 15, 16] [] [0, 1, 2, 3, 4, 5, 6, 7, 8, 9, 10, 11, 12, 13, 14, 15, 16] rfl rfl (by decide) (by decide) (by decide) rfl rfl (fun H locs hP hS => ?_)
              have hD : va_D Z (wM cI cZ q n mb (uF f 0 (nI 4)) Y) := hD.same rfl
              exact hend _ _ _ _ _ _ (by rw [uSqM, if_pos c4, if_pos c22, hxj, hxl0, show sqN hs la le j l0 i n0 = 4 from by rw [sqN, if_pos hh, if_pos c48, if_pos (Int32.not_le.mp c74)], if_neg (by decide)]) (by have hz : sqN hs la le j l0 i n0 = 4 := (by rw [sqN, if_pos hh, if_pos c48, if_pos (Int32.not_le.mp c74)]); rw [show okSq hs la le (nI j) (nI l0) i n0 = false from by rw [okSq, c22, c4, hxj, hxl0, hz]; rfl, fSq, if_pos ⟨c4, c22⟩, hxj, hxl0, hz] <;> rfl) hP hS dX4_square_82
          · skip
            exact absurd (szI_nge (by omega) c63) (by rw [hh]; decide)
        · skip
          refine lv_aload_n hx hb dX4_square_51 rfl (lv_at hl 0 rfl) ?_
          refine lv_iconst (v := nI 2) hx hb dX4_square_52 rfl ?_
          refine rwW_i (As := [.int (nI 2)]) (rest := []) (wn := wM cI cZ q n mb (uF f 0 (nI 2)) Y) ⟨hx, hb, hml, hown, hts⟩ (kX4_failed l dC dI cI cZ q n mb f Y 2 _) (cwV 1 hts gX4_square_X4_failed rfl rfl rfl hdX4_failed ⟨Nat.le_trans (Nat.le_of_ble_eq_true rfl) hRf, Nat.le_trans (Nat.le_of_ble_eq_true rfl) hRl⟩) (va_recv hK hP (ci := 4) (q0 := 0) rfl rfl) hK rfl hl.1 rfl (Nat.le_of_ble_eq_true rfl) dX4_square_53 ⟨Nat.zero_le _, Nat.zero_le _⟩ hP hD hS hA [0, 1, 2, 3, 4, 5, 6, 7, 8, 9, 10, 11, 12, 13, 14, 15, 16] [] [0, 1, 2, 3, 4, 5, 6, 7, 8, 9, 10, 11, 12, 13, 14, 15, 16] rfl rfl (by decide) (by decide) (by decide) rfl rfl (fun H locs hP hS => ?_)
          have hD : va_D Z (wM cI cZ q n mb (uF f 0 (nI 2)) Y) := hD.same rfl
          exact hend _ _ _ _ _ _ (by rw [uSqM, if_pos c4, if_pos c22, hxj, hxl0, show sqN hs la le j l0 i n0 = 2 from by rw [sqN, if_pos hh, if_neg c48], if_neg (by decide)]) (by have hz : sqN hs la le j l0 i n0 = 2 := (by rw [sqN, if_pos hh, if_neg c48]); rw [show okSq hs la le (nI j) (nI l0) i n0 = false from by rw [okSq, c22, c4, hxj, hxl0, hz]; rfl, fSq, if_pos ⟨c4, c22⟩, hxj, hxl0, hz] <;> rfl) hP hS dX4_square_56
    · skip
      refine lv_aload_n hx hb dX4_square_25 rfl (lv_at hl 0 rfl) ?_
      refine lv_bipush (v := -2) hx hb dX4_square_26 rfl ?_
      refine rwW_i (As := [.int (-2)]) (rest := []) (wn := wM cI cZ q n mb (uF f 0 0) Y) ⟨hx, hb, hml, hown, hts⟩ (kX4_refused l dC dI cI cZ q n mb f Y (-2) _) (cwV 1 hts gX4_square_X4_refused rfl rfl rfl hdX4_refused ⟨Nat.le_trans (Nat.le_of_ble_eq_true rfl) hRf, Nat.le_trans (Nat.le_of_ble_eq_true rfl) hRl⟩) (va_recv hK hP (ci := 4) (q0 := 0) rfl rfl) hK rfl hl.1 rfl (Nat.le_of_ble_eq_true rfl) dX4_square_28 ⟨Nat.zero_le _, Nat.zero_le _⟩ hP hD hS hA [0, 1, 2, 3, 4, 5, 6, 7, 8, 9, 10, 11, 12, 13, 14, 15, 16] [] [0, 1, 2, 3, 4, 5, 6, 7, 8, 9, 10, 11, 12, 13, 14, 15, 16] rfl rfl (by decide) (by decide) (by decide) rfl rfl (fun H locs hP hS => ?_)
      have hD : va_D Z (wM cI cZ q n mb (uF f 0 0) Y) := hD.same rfl
      exact hend _ _ _ _ _ _ (by rw [uSqM, if_pos c4, if_neg (by rw [c22]; decide)] <;> rfl) (by rw [show okSq hs la le (nI j) lane i n0 = false from by rw [okSq, c22, c4]; rfl, fSq, if_neg (fun q => absurd q.2 (by rw [c22]; decide))] <;> rfl) hP hS dX4_square_31
  · skip
    have c4 : inB k 4 = false := by simpa using c4
    refine lv_aload_n hx hb dX4_square_7 rfl (lv_at hl 0 rfl) ?_
    refine lv_iconst (v := -1) hx hb dX4_square_8 rfl ?_
    refine rwW_i (As := [.int (-1)]) (rest := []) (wn := wM cI cZ q n mb (uF f 0 0) Y) ⟨hx, hb, hml, hown, hts⟩ (kX4_refused l dC dI cI cZ q n mb f Y (-1) _) (cwV 1 hts gX4_square_X4_refused rfl rfl rfl hdX4_refused ⟨Nat.le_trans (Nat.le_of_ble_eq_true rfl) hRf, Nat.le_trans (Nat.le_of_ble_eq_true rfl) hRl⟩) (va_recv hK hP (ci := 4) (q0 := 0) rfl rfl) hK rfl hl.1 rfl (Nat.le_of_ble_eq_true rfl) dX4_square_9 ⟨Nat.zero_le _, Nat.zero_le _⟩ hP hD hS hA [0, 1, 2, 3, 4, 5, 6, 7, 8, 9, 10, 11, 12, 13, 14, 15, 16] [] [0, 1, 2, 3, 4, 5, 6, 7, 8, 9, 10, 11, 12, 13, 14, 15, 16] rfl rfl (by decide) (by decide) (by decide) rfl rfl (fun H locs hP hS => ?_)
    have hD : va_D Z (wM cI cZ q n mb (uF f 0 0) Y) := hD.same rfl
    exact hend _ _ _ _ _ _ (by rw [uSqM, if_neg (by rw [c4]; decide)] <;> rfl) (by rw [show okSq hs la le k lane i n0 = false from by rw [okSq, c4]; rfl, fSq, if_neg (fun q => absurd q.1 (by rw [c4]; decide))] <;> rfl) hP hS dX4_square_12
