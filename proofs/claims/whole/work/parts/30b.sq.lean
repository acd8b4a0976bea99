theorem hdX0_layOut : yX0_layOut.cls = RX0 ∧ yX0_layOut.cls ≠ "java/lang/invoke/MethodHandle" ∧ yX0_layOut.cls ≠ "java/lang/invoke/VarHandle" ∧ (parseMethodDescriptor yX0_layOut.desc).map (fun d => d.parameters.length) = some 1 := by decide +kernel
theorem hdX2_read : yX2_read.cls = RX2 ∧ yX2_read.cls ≠ "java/lang/invoke/MethodHandle" ∧ yX2_read.cls ≠ "java/lang/invoke/VarHandle" ∧ (parseMethodDescriptor yX2_read.desc).map (fun d => d.parameters.length) = some 3 := by decide +kernel
set_option maxRecDepth 20000 in
theorem ggX3_square_X3_isBelow : GoodIn wsX3_square wsX3_isBelow := goodIn_r _ [9] (by decide +kernel) (by decide +kernel)
set_option maxRecDepth 20000 in
theorem gX3_square_X3_isBelow : GoodIn wsX3_square (va_wsS RX3 39 yX3_isBelow wsX3_isBelow) := goodIn_app (goodIn_of _ (by decide +kernel)) ggX3_square_X3_isBelow
set_option maxRecDepth 20000 in
theorem ggX3_square_X1_faultAsRow : GoodIn wsX3_square wsX1_faultAsRow := goodIn_r _ [14, 15, 16, 133, 134, 135, 136] (by decide +kernel) (by decide +kernel)
set_option maxRecDepth 20000 in
theorem gX3_square_X1_faultAsRow : GoodIn wsX3_square (wsV RX3 43 RX1 yX1_faultAsRow wsX1_faultAsRow) := goodIn_app (goodIn_of _ (by decide +kernel)) ggX3_square_X1_faultAsRow
set_option maxRecDepth 20000 in
theorem ggX3_square_X3_failed : GoodIn wsX3_square wsX3_failed := goodIn_r _ [25, 1, 111, 112, 113, 114, 115] (by decide +kernel) (by decide +kernel)
set_option maxRecDepth 20000 in
theorem gX3_square_X3_failed : GoodIn wsX3_square (wsV RX3 50 RX3 yX3_failed wsX3_failed) := goodIn_app (goodIn_of _ (by decide +kernel)) ggX3_square_X3_failed
set_option maxRecDepth 20000 in
theorem ggX3_square_X1_hasSpan : GoodIn wsX3_square wsX1_hasSpan := goodIn_r _ [20, 21, 133, 134, 135, 136] (by decide +kernel) (by decide +kernel)
set_option maxRecDepth 20000 in
theorem gX3_square_X1_hasSpan : GoodIn wsX3_square (wsV RX3 47 RX1 yX1_hasSpan wsX1_hasSpan) := goodIn_app (goodIn_of _ (by decide +kernel)) ggX3_square_X1_hasSpan
set_option maxRecDepth 20000 in
theorem ggX3_square_X2_read : GoodIn wsX3_square wsX2_read := goodIn_r _ [30, 31, 32, 33, 34, 35, 36, 37, 38, 39, 40, 41, 42, 43, 44, 45, 29, 46, 47, 48, 49, 50, 51, 52, 53, 54, 55, 56, 57, 58, 59, 60, 61, 62, 63, 64, 65, 66, 67, 68, 69, 70, 71, 72, 133, 134, 135, 136, 137, 138, 139, 140, 141, 142, 143, 144, 145] (by decide +kernel) (by decide +kernel)
set_option maxRecDepth 20000 in
theorem gX3_square_X2_read : GoodIn wsX3_square (wsV RX3 53 RX2 yX2_read wsX2_read) := goodIn_app (goodIn_of _ (by decide +kernel)) ggX3_square_X2_read
set_option maxRecDepth 20000 in
theorem ggX3_square_X0_layOut : GoodIn wsX3_square wsX0_layOut := goodIn_r _ [77, 78, 79, 80, 81, 82, 83, 84, 85, 86, 87, 88, 89, 90, 91, 92, 93, 94, 95, 76, 96, 97, 98, 99, 100, 101, 102, 103, 104, 105, 106, 107, 108, 109, 110, 137, 138, 139, 140, 141, 142, 143, 144, 145, 116, 117, 118, 119, 120, 121, 122, 123, 124, 125, 126, 127, 128, 129, 130, 131, 132] (by decide +kernel) (by decide +kernel)
set_option maxRecDepth 20000 in
theorem gX3_square_X0_layOut : GoodIn wsX3_square (wsV RX3 57 RX0 yX0_layOut wsX0_layOut) := goodIn_app (goodIn_of _ (by decide +kernel)) ggX3_square_X0_layOut
set_option maxHeartbeats 4000000 in
set_option maxRecDepth 100000 in
theorem kX3_square (l : Launch) (dC : Nat → ClassId) (dI : Nat → Nat → Nat) (a : Nat) (tr fl : Int32) (cS cI : ClassId) (r0 : Nat) (qs qr : Nat → Nat) (hs : Nat → Bool) (la le : Nat → Nat) (C : Nat → Nat → Int32) (t : Nat → Nat) (x : RD) (q n : Nat → Nat) (X : Nat → Nat → Int32) (hB : ∀ k, k < 4 → la k ≤ 2 ∧ le k ≤ 100) (k : Int32) (lane : Int32) (i : Int32) (n0 : Int32) (sz : Nat) : Met l yX3_square wsX3_square ({ frames := 6, cells := 0, slots := 0, locals := 132 }) (rwP [.ref a, .int k, .int lane, .int i, .int n0] sz (dC, dI) [(cI, .int), (cS, .object "StatueSquare$Sheet")] ((a, .inr (3, [.ref r0, .ref (t 0), .ref (q 0), .int tr, .int fl])) :: (wSh cS cI r0 qs qr hs la le C ++ (wTd cI t x ++ wG cI q n X)))) (rwQi (uSqC hs la le k lane i n0 (va_cpy (C (xn k)) x.2.2.2.2 (xn i) 0 (xn n0)) x.2.2.1 x.2.2.2.1) (dC, dI) ((a, .inr (3, [.ref r0, .ref (t 0), .ref (q 0), .int tr, .int fl])) :: (wSh cS cI r0 qs qr hs la le C ++ (wTd cI t x ++ wG cI q n X))) ((a, .inr (3, [.ref r0, .ref (t 0), .ref (q 0), .int tr, .int (fSq hs la le k lane i n0)])) :: (wSh cS cI r0 qs qr hs la le C ++ (wTd cI t (rSqC (okSq hs la le k lane i n0) (va_cpy (C (xn k)) x.2.2.2.2 (xn i) 0 (xn n0)) (xn n0) x) ++ wG cI q (nSqC (okSq hs la le k lane i n0) (va_cpy (C (xn k)) x.2.2.2.2 (xn i) 0 (xn n0)) (xn n0) x.2.2.1 x.2.2.2.1 n X) (xSqC (okSq hs la le k lane i n0) (va_cpy (C (xn k)) x.2.2.2.2 (xn i) 0 (xn n0)) (xn n0) x.2.2.1 x.2.2.2.1 X)))) sz) 0 0 (va_A ((a, .inr (3, [.ref r0, .ref (t 0), .ref (q 0), .int tr, .int fl])) :: (wSh cS cI r0 qs qr hs la le C ++ (wTd cI t x ++ wG cI q n X))) sz) := by
  refine rw_met_i (by decide) rfl (Nat.le_of_ble_eq_true rfl) ?_
  intro pp ee ss mm aa bb me cd RR QQ Z hx hb hml hown hts hRf hRl hP hK hD hA hS hend ls hl
  have hown : ss.vm.findClass RX3 = some mm.cls := hown
  have hRf : 6 ≤ RR.frames := hRf
  have hRl : 132 ≤ RR.locals := hRl
  have hl : lv_has ls 8 [(0, .ref a), (1, .int k), (2, .int lane), (3, .int i), (4, .int n0)] := hl
  have hB0 := hB 0 (by decide)
  have hB1 := hB 1 (by decide)
  have hB2 := hB 2 (by decide)
  have hB3 := hB 3 (by decide)
  have hf36 := hts (.fieldLink RX3 36 "StatueSquare" "latestFault" "I") (List.mem_of_getElem? (i := 1) rfl)
  have hinX3 : ∀ w ∈ u_ws RX3 TX3 5, w ∈ wsX3_square := fun _ h => List.mem_cons_of_mem _ (List.mem_append_left _ (List.mem_append_left _ (List.mem_append_left _ (List.mem_append_right _ h))))
  have hf13 := hts (.fieldLink RX3 13 "StatueSquare" "sheets" "[LStatueSquare$Sheet;") (List.mem_of_getElem? (i := 2) rfl)
  have hf21 := hts (.fieldLink RX3 21 "StatueSquare" "reader" "LStatueSquare$TextReader;") (List.mem_of_getElem? (i := 3) rfl)
  have hf28 := hts (.fieldLink RX3 28 "StatueSquare" "ground" "LStatueSquare$Ground;") (List.mem_of_getElem? (i := 4) rfl)
  have hf61 := hts (.fieldLink RX3 61 "StatueSquare$Ground" "cellCount" "I") (List.mem_of_getElem? (i := 5) rfl)
  have hinX0 : ∀ w ∈ u_ws RX0 TX0 17, w ∈ wsX3_square := fun _ h => List.mem_cons_of_mem _ (List.mem_append_left _ (List.mem_append_left _ (List.mem_append_right _ h)))
  refine lv_aload_n hx hb dX3_square_0 rfl (lv_at hl 0 rfl) ?_
  refine lv_iconst (v := nI 0) hx hb dX3_square_1 rfl ?_
  refine x_put (D := (dC, dI)) (ci := 3) (v := .int (nI 0)) (C := RX3) (T := TX3) (N := 5) (wn := (a, .inr (3, [.ref r0, .ref (t 0), .ref (q 0), .int tr, .int (nI 0)])) :: (wSh cS cI r0 qs qr hs la le C ++ (wTd cI t x ++ wG cI q n X))) hx hb hts hinX3 tyX3 tyX3_ok nmX3 hown hK hP hD hS 0 rfl rfl 4 (Nat.le_of_ble_eq_true rfl) hf36 rfl rfl rfl rfl (Nat.le_of_ble_eq_true rfl) rfl dX3_square_2 (fun H locs hP hS => ?_)
  have hD : va_D Z ((a, .inr (3, [.ref r0, .ref (t 0), .ref (q 0), .int tr, .int (nI 0)])) :: (wSh cS cI r0 qs qr hs la le C ++ (wTd cI t x ++ wG cI q n X))) := hD.same rfl
  refine lv_iload_n hx hb dX3_square_5 rfl (lv_at hl 1 rfl) ?_
  refine lv_iconst (v := nI 4) hx hb dX3_square_6 rfl ?_
  refine roS_i (As := [.int k, .int (nI 4)]) (rest := []) ⟨hx, hb, hml, hown, hts⟩ (kX3_isBelow l dC dI k 4 _ ) (va_cwS 2 hts gX3_square_X3_isBelow rfl rfl rfl hdX3_isBelow ⟨Nat.le_trans (Nat.le_of_ble_eq_true rfl) hRf, Nat.le_trans (Nat.le_of_ble_eq_true rfl) hRl⟩) (hK.sub [] rfl) (hP.sub [] rfl) rfl hl.1 rfl (Nat.le_of_ble_eq_true rfl) dX3_square_7 ⟨Nat.zero_le _, Nat.zero_le _⟩ hP hS hA (fun H locs hP hS => ?_)
  refine x_ifb_ne (tgt := 15) hx hb dX3_square_10 (by decide) (fun c10 => ?_) (fun c10 => ?_)
  · skip
    obtain ⟨j, hj, rfl⟩ := inB_t (by omega) c10
    have hxj : xn (nI j) = j := xn_nI (by omega)
    refine lv_iload_n hx hb dX3_square_15 rfl (lv_at hl 2 rfl) ?_
    refine lv_iconst (v := nI 3) hx hb dX3_square_16 rfl ?_
    refine roS_i (As := [.int lane, .int (nI 3)]) (rest := []) ⟨hx, hb, hml, hown, hts⟩ (kX3_isBelow l dC dI lane 3 _ ) (va_cwS 2 hts gX3_square_X3_isBelow rfl rfl rfl hdX3_isBelow ⟨Nat.le_trans (Nat.le_of_ble_eq_true rfl) hRf, Nat.le_trans (Nat.le_of_ble_eq_true rfl) hRl⟩) (hK.sub [] rfl) (hP.sub [] rfl) rfl hl.1 rfl (Nat.le_of_ble_eq_true rfl) dX3_square_17 ⟨Nat.zero_le _, Nat.zero_le _⟩ hP hS hA (fun H locs hP hS => ?_)
    refine x_ifb_ne (tgt := 26) hx hb dX3_square_20 (by decide) (fun c20 => ?_) (fun c20 => ?_)
    · skip
      obtain ⟨l0, hl0, rfl⟩ := inB_t (by omega) c20
      have hxl0 : xn (nI l0) = l0 := xn_nI (by omega)
      refine lv_aload_n hx hb dX3_square_26 rfl (lv_at hl 0 rfl) ?_
      refine x_get (D := (dC, dI)) (ci := 3) (v := .ref r0) (C := RX3) (T := TX3) (N := 5) hx hb hts hinX3 hown hK hP 0 rfl rfl 0 (Nat.le_of_ble_eq_true rfl) hf13 rfl rfl dX3_square_27 ?_
      refine lv_iload_n hx hb dX3_square_30 rfl (lv_at hl 1 rfl) ?_
      rcases (show j = 0 ∨ j = 1 ∨ j = 2 ∨ j = 3 by omega) with rfl | rfl | rfl | rfl
      · skip
        refine x_aald (v := qs 0) hx hb hK hP 1 1 rfl rfl (by decide) (by decide) rfl dX3_square_31 ?_
        refine lv_astore (lv' := [(5, .ref (qs 0)), (0, .ref a), (1, .int (nI 0)), (2, .int (nI l0)), (3, .int i), (4, .int n0)]) hx hb dX3_square_32 hl (by decide) rfl (fun ls hl => ?_)
        refine lv_aload hx hb dX3_square_34 (lv_at hl 0 rfl) ?_
        refine lv_iload_n hx hb dX3_square_36 rfl (lv_at hl 3 rfl) ?_
        refine roV_i (As := [.int (nI l0)]) (rest := []) ⟨hx, hb, hml, hown, hts⟩ (kX1_faultAsRow l dC dI cI (qs 0) (qr 0) (hs 0) (la 0) (le 0) (C 0) l0 _ (by omega) (by omega)) (cwV 1 hts gX3_square_X1_faultAsRow rfl rfl rfl hdX1_faultAsRow ⟨Nat.le_trans (Nat.le_of_ble_eq_true rfl) hRf, Nat.le_trans (Nat.le_of_ble_eq_true rfl) hRl⟩) (va_recv hK hP (ci := 1) (q0 := 2) rfl rfl) (hK.sub [0] rfl) (hP.sub [2, 3] rfl) rfl hl.1 rfl (Nat.le_of_ble_eq_true rfl) dX3_square_37 ⟨Nat.zero_le _, Nat.zero_le _⟩ hP hS hA (fun H locs hP hS => ?_)
        refine lv_istore (lv' := [(6, .int (nI (faR (hs 0) (la 0) l0))), (5, .ref (qs 0)), (0, .ref a), (1, .int (nI 0)), (2, .int (nI l0)), (3, .int i), (4, .int n0)]) hx hb dX3_square_40 hl (by decide) rfl (fun ls hl => ?_)
        refine lv_iload hx hb dX3_square_42 (lv_at hl 0 rfl) ?_
        refine x_if_ne (tgt := 55) hx hb (faR_lt _ _ _) dX3_square_44 (by decide) (fun c44 => ?_) (fun c44 => ?_)
        · skip
          refine lv_iload hx hb dX3_square_55 (lv_at hl 0 rfl) ?_
          refine x_if_ne (tgt := 74) hx hb (faR_lt _ _ _) dX3_square_57 (by decide) (fun c57 => ?_) (fun c57 => ?_)
          · skip
            refine lv_iload hx hb dX3_square_74 (lv_at hl 0 rfl) ?_
            refine x_if_eq (tgt := 86) hx hb (faR_lt _ _ _) dX3_square_76 (by decide) (fun c76 => ?_) (fun c76 => ?_)
            · skip
              exact absurd c76 c44
            · skip
              refine lv_aload_n hx hb dX3_square_79 rfl (lv_at hl 2 rfl) ?_
              refine lv_iload hx hb dX3_square_80 (lv_at hl 0 rfl) ?_
              refine rwW_i (As := [.int (nI (faR (hs 0) (la 0) l0))]) (rest := []) (wn := (a, .inr (3, [.ref r0, .ref (t 0), .ref (q 0), .int tr, .int (nI (faR (hs 0) (la 0) l0))])) :: (wSh cS cI r0 qs qr hs la le C ++ (wTd cI t x ++ wG cI q n X))) ⟨hx, hb, hml, hown, hts⟩ (kX3_failed l dC dI a r0 (t 0) (q 0) tr (nI 0) (faR (hs 0) (la 0) l0) _) (cwV 1 hts gX3_square_X3_failed rfl rfl rfl hdX3_failed ⟨Nat.le_trans (Nat.le_of_ble_eq_true rfl) hRf, Nat.le_trans (Nat.le_of_ble_eq_true rfl) hRl⟩) (va_recv hK hP (ci := 3) (q0 := 0) rfl rfl) (hK.sub [] rfl) rfl hl.1 rfl (Nat.le_of_ble_eq_true rfl) dX3_square_82 ⟨Nat.zero_le _, Nat.zero_le _⟩ hP hD hS hA [0] [1, 2, 3, 4, 5, 6, 7, 8, 9, 10, 11, 12, 13, 14, 15, 16, 17, 18, 19, 20, 21, 22] [22, 0, 1, 2, 3, 4, 5, 6, 7, 8, 9, 10, 11, 12, 13, 14, 15, 16, 17, 18, 19, 20, 21] rfl rfl (by decide) (by decide) (by decide) rfl rfl (fun H locs hP hS => ?_)
              have hD : va_D Z ((a, .inr (3, [.ref r0, .ref (t 0), .ref (q 0), .int tr, .int (nI (faR (hs 0) (la 0) l0))])) :: (wSh cS cI r0 qs qr hs la le C ++ (wTd cI t x ++ wG cI q n X))) := hD.same rfl
              exact hend _ _ _ _ _ _ (by have hz : sqN hs la le 0 l0 i n0 = (faR (hs 0) (la 0) l0) := (by rw [sqN_fa, if_neg c44]); rw [uSqC, if_pos c10, if_pos c20, hxj, hxl0, hz, if_neg c44]) (by have hz : sqN hs la le 0 l0 i n0 = (faR (hs 0) (la 0) l0) := (by rw [sqN_fa, if_neg c44]); rw [show okSq hs la le (nI 0) (nI l0) i n0 = false from by rw [okSq, c20, c10, hxj, hxl0, hz, decide_eq_false c44]; rfl, fSq, if_pos ⟨c10, c20⟩, hxj, hxl0, hz] <;> rfl) hP hS dX3_square_85
          · skip
            exact absurd c57 c44
        · skip
          refine lv_iload hx hb dX3_square_47 (lv_at hl 6 rfl) ?_
          refine lv_if_ge (tgt := 55) hx hb dX3_square_49 (by decide) (fun c49 => ?_) (fun c49 => ?_)
          · skip
            refine lv_iload hx hb dX3_square_55 (lv_at hl 0 rfl) ?_
            refine x_if_ne (tgt := 74) hx hb (faR_lt _ _ _) dX3_square_57 (by decide) (fun c57 => ?_) (fun c57 => ?_)
            · skip
              exact absurd c44 c57
            · skip
              refine lv_aload hx hb dX3_square_60 (lv_at hl 1 rfl) ?_
              refine lv_iload_n hx hb dX3_square_62 rfl (lv_at hl 5 rfl) ?_
              refine lv_iload hx hb dX3_square_63 (lv_at hl 6 rfl) ?_
              refine roV_i (As := [.int i, .int n0]) (rest := []) ⟨hx, hb, hml, hown, hts⟩ (kX1_hasSpan l dC dI cI (qs 0) (qr 0) (hs 0) (la 0) (le 0) (C 0) i n0 _ (by omega)) (cwV 2 hts gX3_square_X1_hasSpan rfl rfl rfl hdX1_hasSpan ⟨Nat.le_trans (Nat.le_of_ble_eq_true rfl) hRf, Nat.le_trans (Nat.le_of_ble_eq_true rfl) hRl⟩) (va_recv hK hP (ci := 1) (q0 := 2) rfl rfl) (hK.sub [0] rfl) (hP.sub [2, 3] rfl) rfl hl.1 rfl (Nat.le_of_ble_eq_true rfl) dX3_square_65 ⟨Nat.zero_le _, Nat.zero_le _⟩ hP hS hA (fun H locs hP hS => ?_)
              refine x_ifb_ne (tgt := 74) hx hb dX3_square_68 (by decide) (fun c68 => ?_) (fun c68 => ?_)
              · skip
                refine lv_iload hx hb dX3_square_74 (lv_at hl 0 rfl) ?_
                refine x_if_eq (tgt := 86) hx hb (faR_lt _ _ _) dX3_square_76 (by decide) (fun c76 => ?_) (fun c76 => ?_)
                · skip
                  obtain ⟨ia, na, hia, rfl, rfl⟩ := span_t (le := le 0) (by omega) c68
                  have hxia : xn (nI ia) = ia := xn_nI (by omega)
                  have hxna : xn (nI na) = na := xn_nI (by omega)
                  have hz : sqN hs la le 0 l0 (nI ia) (nI na) = 0 := by rw [sqN_fa, if_pos c44, if_neg (Int32.not_lt.mpr c49), if_pos c68]
                  obtain ⟨EE, hEE⟩ : ∃ y, va_cpy (C 0) x.2.2.2.2 ia 0 na = y := ⟨_, rfl⟩
                  refine lv_aload_n hx hb dX3_square_86 rfl (lv_at hl 2 rfl) ?_
                  refine x_get (D := (dC, dI)) (ci := 3) (v := .ref (t 0)) (C := RX3) (T := TX3) (N := 5) hx hb hts hinX3 hown hK hP 0 rfl rfl 1 (Nat.le_of_ble_eq_true rfl) hf21 rfl rfl dX3_square_87 ?_
                  refine lv_aload hx hb dX3_square_90 (lv_at hl 1 rfl) ?_
                  refine lv_iload_n hx hb dX3_square_92 rfl (lv_at hl 5 rfl) ?_
                  refine lv_iload hx hb dX3_square_93 (lv_at hl 6 rfl) ?_
                  refine rwW_i (As := [.ref (qs 0), .int (nI ia), .int (nI na)]) (rest := []) (wn := (a, .inr (3, [.ref r0, .ref (t 0), .ref (q 0), .int tr, .int (nI 0)])) :: (wSh cS cI r0 qs qr hs la le C ++ (wTd cI t (rdX EE na x.2.2.1 x.2.2.2.1 x.1.1 x.1.2) ++ wG cI q n X))) ⟨hx, hb, hml, hown, hts⟩ (kX2_read l dC dI cI t x.1.1 x.1.2 x.2.1.1 x.2.1.2.1 x.2.1.2.2.1 x.2.1.2.2.2 x.2.2.1 x.2.2.2.1 x.2.2.2.2 (qs 0) (qr 0) (hs 0) (la 0) (le 0) (C 0) EE ia na _ (by omega) hEE) (cwV 3 hts gX3_square_X2_read rfl rfl rfl hdX2_read ⟨Nat.le_trans (Nat.le_of_ble_eq_true rfl) hRf, Nat.le_trans (Nat.le_of_ble_eq_true rfl) hRl⟩) (va_recv hK hP (ci := 2) (q0 := 10) rfl rfl) (hK.sub [0] rfl) rfl hl.1 rfl (Nat.le_of_ble_eq_true rfl) dX3_square_95 ⟨Nat.zero_le _, Nat.zero_le _⟩ hP hD hS hA [10, 11, 12, 13, 2, 3] [0, 1, 4, 5, 6, 7, 8, 9, 14, 15, 16, 17, 18, 19, 20, 21, 22] [0, 1, 21, 22, 2, 3, 4, 5, 6, 7, 17, 18, 19, 20, 8, 9, 10, 11, 12, 13, 14, 15, 16] rfl rfl (by decide) (by decide) (by decide) rfl rfl (fun H locs hP hS => ?_)
                  have hD : va_D Z ((a, .inr (3, [.ref r0, .ref (t 0), .ref (q 0), .int tr, .int (nI 0)])) :: (wSh cS cI r0 qs qr hs la le C ++ (wTd cI t (rdX EE na x.2.2.1 x.2.2.2.1 x.1.1 x.1.2) ++ wG cI q n X))) := hD.same rfl
                  refine lv_istore (lv' := [(7, .int (rdV EE na x.2.2.1 x.2.2.2.1)), (6, .int (nI (faR (hs 0) (la 0) l0))), (5, .ref (qs 0)), (0, .ref a), (1, .int (nI 0)), (2, .int (nI l0)), (3, .int (nI ia)), (4, .int (nI na))]) hx hb dX3_square_98 hl (by decide) rfl (fun ls hl => ?_)
                  refine lv_iload hx hb dX3_square_100 (lv_at hl 0 rfl) ?_
                  refine lv_iconst (v := -1) hx hb dX3_square_102 rfl ?_
                  refine lv_icmp_eq (tgt := 112) hx hb dX3_square_103 (by decide) (fun c103 => ?_) (fun c103 => ?_)
                  · skip
                    obtain ⟨hv1, hv2, hv3, hv4, hv5⟩ := rdV_t c103
                    obtain ⟨d1, hd1⟩ : ∃ y, dgN EE na 1 1 6 = y := ⟨_, rfl⟩
                    obtain ⟨d2, hd2⟩ : ∃ y, dgN EE na 2 2 7 = y := ⟨_, rfl⟩
                    obtain ⟨MM, hM⟩ : ∃ y, tR EE na d2 x.2.2.1 x.2.2.2.1 (d1 * d2) = y := ⟨_, rfl⟩
                    obtain ⟨okm, ⟨pl2, be2, th2⟩, S2, D2⟩ := MM
                    have hd1l : d1 ≤ 6 := hd1 ▸ dgN_le (by decide)
                    have hd2l : d2 ≤ 7 := hd2 ▸ dgN_le (by decide)
                    have h42 : d1 * d2 ≤ 42 := Nat.mul_le_mul hd1l hd2l
                    have hly := lay_ok (E := EE) (len := na) (wi := d2) (S := x.2.2.1) (D := x.2.2.2.1) (M := d1 * d2) (D' := D2) (X := X) (by rw [hd1, hd2] at hv4; exact hv4)
                    rw [hM] at hly
                    have hP : va_P (dC, dI) vwCl ((a, .inr (3, [.ref r0, .ref (t 0), .ref (q 0), .int tr, .int (nI 0)])) :: (wSh cS cI r0 qs qr hs la le C ++ (wT cI t (nI d1) (nI d2) na pl2 be2 th2 S2 D2 EE ++ wG cI q n X))) H := by rw [rdX_t hv1 hv2 hv3, hd1, hd2, hM] at hP; exact hP
                    have hD : va_D Z ((a, .inr (3, [.ref r0, .ref (t 0), .ref (q 0), .int tr, .int (nI 0)])) :: (wSh cS cI r0 qs qr hs la le C ++ (wT cI t (nI d1) (nI d2) na pl2 be2 th2 S2 D2 EE ++ wG cI q n X))) := hD.same rfl
                    refine lv_aload_n hx hb dX3_square_112 rfl (lv_at hl 3 rfl) ?_
                    refine x_get (D := (dC, dI)) (ci := 3) (v := .ref (q 0)) (C := RX3) (T := TX3) (N := 5) hx hb hts hinX3 hown hK hP 0 rfl rfl 2 (Nat.le_of_ble_eq_true rfl) hf28 rfl rfl dX3_square_113 ?_
                    refine lv_aload_n hx hb dX3_square_116 rfl (lv_at hl 3 rfl) ?_
                    refine x_get (D := (dC, dI)) (ci := 3) (v := .ref (t 0)) (C := RX3) (T := TX3) (N := 5) hx hb hts hinX3 hown hK hP 0 rfl rfl 1 (Nat.le_of_ble_eq_true rfl) hf21 rfl rfl dX3_square_117 ?_
                    refine rwW_v (As := [.ref (t 0)]) (rest := []) (wn := (a, .inr (3, [.ref r0, .ref (t 0), .ref (q 0), .int tr, .int (nI 0)])) :: (wSh cS cI r0 qs qr hs la le C ++ (wT cI t (nI d1) (nI d2) na pl2 be2 th2 S2 D2 EE ++ wG cI q (nNew d1 d2 (lR (kAt EE na d2 x.2.2.1 x.2.2.2.1) D2 d2 X (d1 * d2)).1.1 (lR (kAt EE na d2 x.2.2.1 x.2.2.2.1) D2 d2 X (d1 * d2)).1.2) ((lR (kAt EE na d2 x.2.2.1 x.2.2.2.1) D2 d2 X (d1 * d2)).2)))) ⟨hx, hb, hml, hown, hts⟩ (kX0_layOut l dC dI cI q n X t d1 d2 na pl2 be2 th2 S2 D2 EE (kAt EE na d2 x.2.2.1 x.2.2.2.1) _ h42 hd1l hd2l hly.1 hly.2) (cwV 1 hts gX3_square_X0_layOut rfl rfl rfl hdX0_layOut ⟨Nat.le_trans (Nat.le_of_ble_eq_true rfl) hRf, Nat.le_trans (Nat.le_of_ble_eq_true rfl) hRl⟩) (va_recv hK hP (ci := 0) (q0 := 14) rfl rfl) (hK.sub [0] rfl) rfl hl.1 rfl (Nat.le_of_ble_eq_true rfl) dX3_square_120 ⟨Nat.zero_le _, Nat.zero_le _⟩ hP hD hS hA [14, 15, 16, 17, 18, 19, 20, 21, 22, 10, 11, 12, 13] [0, 1, 2, 3, 4, 5, 6, 7, 8, 9] [0, 1, 2, 3, 4, 5, 6, 7, 8, 9, 19, 20, 21, 22, 10, 11, 12, 13, 14, 15, 16, 17, 18] rfl rfl (by decide) (by decide) (by decide) rfl rfl (fun H locs hP hS => ?_)
                    have hD : va_D Z ((a, .inr (3, [.ref r0, .ref (t 0), .ref (q 0), .int tr, .int (nI 0)])) :: (wSh cS cI r0 qs qr hs la le C ++ (wT cI t (nI d1) (nI d2) na pl2 be2 th2 S2 D2 EE ++ wG cI q (nNew d1 d2 (lR (kAt EE na d2 x.2.2.1 x.2.2.2.1) D2 d2 X (d1 * d2)).1.1 (lR (kAt EE na d2 x.2.2.1 x.2.2.2.1) D2 d2 X (d1 * d2)).1.2) ((lR (kAt EE na d2 x.2.2.1 x.2.2.2.1) D2 d2 X (d1 * d2)).2)))) := hD.same rfl
                    refine lv_aload_n hx hb dX3_square_123 rfl (lv_at hl 3 rfl) ?_
                    refine x_get (D := (dC, dI)) (ci := 3) (v := .ref (q 0)) (C := RX3) (T := TX3) (N := 5) hx hb hts hinX3 hown hK hP 0 rfl rfl 2 (Nat.le_of_ble_eq_true rfl) hf28 rfl rfl dX3_square_124 ?_
                    refine x_get (D := (dC, dI)) (ci := 0) (v := .int (nI (d1 * d2))) (C := RX0) (T := TX0) (N := 17) hx hb hts hinX0 hown hK hP 14 rfl rfl 1 (Nat.le_of_ble_eq_true rfl) hf61 rfl rfl dX3_square_127 ?_
                    exact hend _ _ _ _ _ _ (by rw [uSqC, if_pos c10, if_pos c20, hxj, hxl0, if_pos hz, hxna, hxia, hEE, if_pos c103, hd1, hd2]) (by rw [show okSq hs la le (nI 0) (nI l0) (nI ia) (nI na) = true from by rw [okSq, c20, c10, hxj, hxl0, hz]; rfl, fSq, if_pos ⟨c10, c20⟩, hxj, hxl0, hz, hxna, hxia, hEE, nSqC, xSqC, rSqC, if_pos (⟨rfl, c103⟩ : true = true ∧ rdV EE na x.2.2.1 x.2.2.2.1 = -1), if_pos (⟨rfl, c103⟩ : true = true ∧ rdV EE na x.2.2.1 x.2.2.2.1 = -1), if_pos (rfl : true = true), rdX_t hv1 hv2 hv3, lSqC, hd1, hd2, hM] <;> rfl) hP hS dX3_square_130
                  · skip
                    refine lv_bipush (v := -100) hx hb dX3_square_106 rfl ?_
                    refine lv_iload hx hb dX3_square_108 (lv_at hl 0 rfl) ?_
                    refine lv_isub hx hb dX3_square_110 ?_
                    exact hend _ _ _ _ _ _ (by rw [uSqC, if_pos c10, if_pos c20, hxj, hxl0, if_pos hz, hxna, hxia, hEE, if_neg c103]) (by rw [show okSq hs la le (nI 0) (nI l0) (nI ia) (nI na) = true from by rw [okSq, c20, c10, hxj, hxl0, hz]; rfl, fSq, if_pos ⟨c10, c20⟩, hxj, hxl0, hz, hxna, hxia, hEE, nSqC, xSqC, rSqC, if_neg (fun (q : true = true ∧ rdV EE na x.2.2.1 x.2.2.2.1 = -1) => c103 q.2), if_neg (fun (q : true = true ∧ rdV EE na x.2.2.1 x.2.2.2.1 = -1) => c103 q.2), if_pos (rfl : true = true)] <;> rfl) hP hS dX3_square_111
                · skip
                  exact absurd c44 c76
              · skip
                refine lv_iconst (v := nI 3) hx hb dX3_square_71 rfl ?_
                refine lv_istore (lv' := [(6, .int (nI 3)), (5, .ref (qs 0)), (0, .ref a), (1, .int (nI 0)), (2, .int (nI l0)), (3, .int i), (4, .int n0)]) hx hb dX3_square_72 hl (by decide) rfl (fun ls hl => ?_)
                refine lv_iload hx hb dX3_square_74 (lv_at hl 0 rfl) ?_
                refine x_if_eq (tgt := 86) hx hb (by omega) dX3_square_76 (by decide) (fun c76 => absurd c76 (by decide)) (fun c76 => ?_)
                refine lv_aload_n hx hb dX3_square_79 rfl (lv_at hl 2 rfl) ?_
                refine lv_iload hx hb dX3_square_80 (lv_at hl 0 rfl) ?_
                refine rwW_i (As := [.int (nI 3)]) (rest := []) (wn := (a, .inr (3, [.ref r0, .ref (t 0), .ref (q 0), .int tr, .int (nI 3)])) :: (wSh cS cI r0 qs qr hs la le C ++ (wTd cI t x ++ wG cI q n X))) ⟨hx, hb, hml, hown, hts⟩ (kX3_failed l dC dI a r0 (t 0) (q 0) tr (nI 0) 3 _) (cwV 1 hts gX3_square_X3_failed rfl rfl rfl hdX3_failed ⟨Nat.le_trans (Nat.le_of_ble_eq_true rfl) hRf, Nat.le_trans (Nat.le_of_ble_eq_true rfl) hRl⟩) (va_recv hK hP (ci := 3) (q0 := 0) rfl rfl) (hK.sub [] rfl) rfl hl.1 rfl (Nat.le_of_ble_eq_true rfl) dX3_square_82 ⟨Nat.zero_le _, Nat.zero_le _⟩ hP hD hS hA [0] [1, 2, 3, 4, 5, 6, 7, 8, 9, 10, 11, 12, 13, 14, 15, 16, 17, 18, 19, 20, 21, 22] [22, 0, 1, 2, 3, 4, 5, 6, 7, 8, 9, 10, 11, 12, 13, 14, 15, 16, 17, 18, 19, 20, 21] rfl rfl (by decide) (by decide) (by decide) rfl rfl (fun H locs hP hS => ?_)
                have hD : va_D Z ((a, .inr (3, [.ref r0, .ref (t 0), .ref (q 0), .int tr, .int (nI 3)])) :: (wSh cS cI r0 qs qr hs la le C ++ (wTd cI t x ++ wG cI q n X))) := hD.same rfl
                exact hend _ _ _ _ _ _ (by have hz : sqN hs la le 0 l0 i n0 = 3 := (by rw [sqN_fa, if_pos c44, if_neg (Int32.not_lt.mpr c49), if_neg (by rw [c68]; decide)]); rw [uSqC, if_pos c10, if_pos c20, hxj, hxl0, hz, if_neg (by decide)]) (by have hz : sqN hs la le 0 l0 i n0 = 3 := (by rw [sqN_fa, if_pos c44, if_neg (Int32.not_lt.mpr c49), if_neg (by rw [c68]; decide)]); rw [show okSq hs la le (nI 0) (nI l0) i n0 = false from by rw [okSq, c20, c10, hxj, hxl0, hz, decide_eq_false (by decide)]; rfl, fSq, if_pos ⟨c10, c20⟩, hxj, hxl0, hz] <;> rfl) hP hS dX3_square_85
          · skip
            refine lv_iconst (v := nI 4) hx hb dX3_square_52 rfl ?_
            refine lv_istore (lv' := [(6, .int (nI 4)), (5, .ref (qs 0)), (0, .ref a), (1, .int (nI 0)), (2, .int (nI l0)), (3, .int i), (4, .int n0)]) hx hb dX3_square_53 hl (by decide) rfl (fun ls hl => ?_)
            refine lv_iload hx hb dX3_square_55 (lv_at hl 0 rfl) ?_
            refine x_if_ne (tgt := 74) hx hb (by omega) dX3_square_57 (by decide) (fun c57 => ?_) (fun c57 => absurd c57 (by decide))
            refine lv_iload hx hb dX3_square_74 (lv_at hl 0 rfl) ?_
            refine x_if_eq (tgt := 86) hx hb (by omega) dX3_square_76 (by decide) (fun c76 => absurd c76 (by decide)) (fun c76 => ?_)
            refine lv_aload_n hx hb dX3_square_79 rfl (lv_at hl 2 rfl) ?_
            refine lv_iload hx hb dX3_square_80 (lv_at hl 0 rfl) ?_
            refine rwW_i (As := [.int (nI 4)]) (rest := []) (wn := (a, .inr (3, [.ref r0, .ref (t 0), .ref (q 0), .int tr, .int (nI 4)])) :: (wSh cS cI r0 qs qr hs la le C ++ (wTd cI t x ++ wG cI q n X))) ⟨hx, hb, hml, hown, hts⟩ (kX3_failed l dC dI a r0 (t 0) (q 0) tr (nI 0) 4 _) (cwV 1 hts gX3_square_X3_failed rfl rfl rfl hdX3_failed ⟨Nat.le_trans (Nat.le_of_ble_eq_true rfl) hRf, Nat.le_trans (Nat.le_of_ble_eq_true rfl) hRl⟩) (va_recv hK hP (ci := 3) (q0 := 0) rfl rfl) (hK.sub [] rfl) rfl hl.1 rfl (Nat.le_of_ble_eq_true rfl) dX3_square_82 ⟨Nat.zero_le _, Nat.zero_le _⟩ hP hD hS hA [0] [1, 2, 3, 4, 5, 6, 7, 8, 9, 10, 11, 12, 13, 14, 15, 16, 17, 18, 19, 20, 21, 22] [22, 0, 1, 2, 3, 4, 5, 6, 7, 8, 9, 10, 11, 12, 13, 14, 15, 16, 17, 18, 19, 20, 21] rfl rfl (by decide) (by decide) (by decide) rfl rfl (fun H locs hP hS => ?_)
            have hD : va_D Z ((a, .inr (3, [.ref r0, .ref (t 0), .ref (q 0), .int tr, .int (nI 4)])) :: (wSh cS cI r0 qs qr hs la le C ++ (wTd cI t x ++ wG cI q n X))) := hD.same rfl
            exact hend _ _ _ _ _ _ (by have hz : sqN hs la le 0 l0 i n0 = 4 := (by rw [sqN_fa, if_pos c44, if_pos (Int32.not_le.mp c49)]); rw [uSqC, if_pos c10, if_pos c20, hxj, hxl0, hz, if_neg (by decide)]) (by have hz : sqN hs la le 0 l0 i n0 = 4 := (by rw [sqN_fa, if_pos c44, if_pos (Int32.not_le.mp c49)]); rw [show okSq hs la le (nI 0) (nI l0) i n0 = false from by rw [okSq, c20, c10, hxj, hxl0, hz, decide_eq_false (by decide)]; rfl, fSq, if_pos ⟨c10, c20⟩, hxj, hxl0, hz] <;> rfl) hP hS dX3_square_85
      · skip
        refine x_aald (v := qs 1) hx hb hK hP 1 1 rfl rfl (by decide) (by decide) rfl dX3_square_31 ?_
        refine lv_astore (lv' := [(5, .ref (qs 1)), (0, .ref a), (1, .int (nI 1)), (2, .int (nI l0)), (3, .int i), (4, .int n0)]) hx hb dX3_square_32 hl (by decide) rfl (fun ls hl => ?_)
        refine lv_aload hx hb dX3_square_34 (lv_at hl 0 rfl) ?_
        refine lv_iload_n hx hb dX3_square_36 rfl (lv_at hl 3 rfl) ?_
        refine roV_i (As := [.int (nI l0)]) (rest := []) ⟨hx, hb, hml, hown, hts⟩ (kX1_faultAsRow l dC dI cI (qs 1) (qr 1) (hs 1) (la 1) (le 1) (C 1) l0 _ (by omega) (by omega)) (cwV 1 hts gX3_square_X1_faultAsRow rfl rfl rfl hdX1_faultAsRow ⟨Nat.le_trans (Nat.le_of_ble_eq_true rfl) hRf, Nat.le_trans (Nat.le_of_ble_eq_true rfl) hRl⟩) (va_recv hK hP (ci := 1) (q0 := 4) rfl rfl) (hK.sub [0] rfl) (hP.sub [4, 5] rfl) rfl hl.1 rfl (Nat.le_of_ble_eq_true rfl) dX3_square_37 ⟨Nat.zero_le _, Nat.zero_le _⟩ hP hS hA (fun H locs hP hS => ?_)
        refine lv_istore (lv' := [(6, .int (nI (faR (hs 1) (la 1) l0))), (5, .ref (qs 1)), (0, .ref a), (1, .int (nI 1)), (2, .int (nI l0)), (3, .int i), (4, .int n0)]) hx hb dX3_square_40 hl (by decide) rfl (fun ls hl => ?_)
        refine lv_iload hx hb dX3_square_42 (lv_at hl 0 rfl) ?_
        refine x_if_ne (tgt := 55) hx hb (faR_lt _ _ _) dX3_square_44 (by decide) (fun c44 => ?_) (fun c44 => ?_)
        · skip
          refine lv_iload hx hb dX3_square_55 (lv_at hl 0 rfl) ?_
          refine x_if_ne (tgt := 74) hx hb (faR_lt _ _ _) dX3_square_57 (by decide) (fun c57 => ?_) (fun c57 => ?_)
          · skip
            refine lv_iload hx hb dX3_square_74 (lv_at hl 0 rfl) ?_
            refine x_if_eq (tgt := 86) hx hb (faR_lt _ _ _) dX3_square_76 (by decide) (fun c76 => ?_) (fun c76 => ?_)
            · skip
              exact absurd c76 c44
            · skip
              refine lv_aload_n hx hb dX3_square_79 rfl (lv_at hl 2 rfl) ?_
              refine lv_iload hx hb dX3_square_80 (lv_at hl 0 rfl) ?_
              refine rwW_i (As := [.int (nI (faR (hs 1) (la 1) l0))]) (rest := []) (wn := (a, .inr (3, [.ref r0, .ref (t 0), .ref (q 0), .int tr, .int (nI (faR (hs 1) (la 1) l0))])) :: (wSh cS cI r0 qs qr hs la le C ++ (wTd cI t x ++ wG cI q n X))) ⟨hx, hb, hml, hown, hts⟩ (kX3_failed l dC dI a r0 (t 0) (q 0) tr (nI 0) (faR (hs 1) (la 1) l0) _) (cwV 1 hts gX3_square_X3_failed rfl rfl rfl hdX3_failed ⟨Nat.le_trans (Nat.le_of_ble_eq_true rfl) hRf, Nat.le_trans (Nat.le_of_ble_eq_true rfl) hRl⟩) (va_recv hK hP (ci := 3) (q0 := 0) rfl rfl) (hK.sub [] rfl) rfl hl.1 rfl (Nat.le_of_ble_eq_true rfl) dX3_square_82 ⟨Nat.zero_le _, Nat.zero_le _⟩ hP hD hS hA [0] [1, 2, 3, 4, 5, 6, 7, 8, 9, 10, 11, 12, 13, 14, 15, 16, 17, 18, 19, 20, 21, 22] [22, 0, 1, 2, 3, 4, 5, 6, 7, 8, 9, 10, 11, 12, 13, 14, 15, 16, 17, 18, 19, 20, 21] rfl rfl (by decide) (by decide) (by decide) rfl rfl (fun H locs hP hS => ?_)
              have hD : va_D Z ((a, .inr (3, [.ref r0, .ref (t 0), .ref (q 0), .int tr, .int (nI (faR (hs 1) (la 1) l0))])) :: (wSh cS cI r0 qs qr hs la le C ++ (wTd cI t x ++ wG cI q n X))) := hD.same rfl
              exact hend _ _ _ _ _ _ (by have hz : sqN hs la le 1 l0 i n0 = (faR (hs 1) (la 1) l0) := (by rw [sqN_fa, if_neg c44]); rw [uSqC, if_pos c10, if_pos c20, hxj, hxl0, hz, if_neg c44]) (by have hz : sqN hs la le 1 l0 i n0 = (faR (hs 1) (la 1) l0) := (by rw [sqN_fa, if_neg c44]); rw [show okSq hs la le (nI 1) (nI l0) i n0 = false from by rw [okSq, c20, c10, hxj, hxl0, hz, decide_eq_false c44]; rfl, fSq, if_pos ⟨c10, c20⟩, hxj, hxl0, hz] <;> rfl) hP hS dX3_square_85
          · skip
            exact absurd c57 c44
        · skip
          refine lv_iload hx hb dX3_square_47 (lv_at hl 6 rfl) ?_
          refine lv_if_ge (tgt := 55) hx hb dX3_square_49 (by decide) (fun c49 => ?_) (fun c49 => ?_)
          · skip
            refine lv_iload hx hb dX3_square_55 (lv_at hl 0 rfl) ?_
            refine x_if_ne (tgt := 74) hx hb (faR_lt _ _ _) dX3_square_57 (by decide) (fun c57 => ?_) (fun c57 => ?_)
            · skip
              exact absurd c44 c57
            · skip
              refine lv_aload hx hb dX3_square_60 (lv_at hl 1 rfl) ?_
              refine lv_iload_n hx hb dX3_square_62 rfl (lv_at hl 5 rfl) ?_
              refine lv_iload hx hb dX3_square_63 (lv_at hl 6 rfl) ?_
              refine roV_i (As := [.int i, .int n0]) (rest := []) ⟨hx, hb, hml, hown, hts⟩ (kX1_hasSpan l dC dI cI (qs 1) (qr 1) (hs 1) (la 1) (le 1) (C 1) i n0 _ (by omega)) (cwV 2 hts gX3_square_X1_hasSpan rfl rfl rfl hdX1_hasSpan ⟨Nat.le_trans (Nat.le_of_ble_eq_true rfl) hRf, Nat.le_trans (Nat.le_of_ble_eq_true rfl) hRl⟩) (va_recv hK hP (ci := 1) (q0 := 4) rfl rfl) (hK.sub [0] rfl) (hP.sub [4, 5] rfl) rfl hl.1 rfl (Nat.le_of_ble_eq_true rfl) dX3_square_65 ⟨Nat.zero_le _, Nat.zero_le _⟩ hP hS hA (fun H locs hP hS => ?_)
              refine x_ifb_ne (tgt := 74) hx hb dX3_square_68 (by decide) (fun c68 => ?_) (fun c68 => ?_)
              · skip
                refine lv_iload hx hb dX3_square_74 (lv_at hl 0 rfl) ?_
                refine x_if_eq (tgt := 86) hx hb (faR_lt _ _ _) dX3_square_76 (by decide) (fun c76 => ?_) (fun c76 => ?_)
                · skip
                  obtain ⟨ia, na, hia, rfl, rfl⟩ := span_t (le := le 1) (by omega) c68
                  have hxia : xn (nI ia) = ia := xn_nI (by omega)
                  have hxna : xn (nI na) = na := xn_nI (by omega)
                  have hz : sqN hs la le 1 l0 (nI ia) (nI na) = 0 := by rw [sqN_fa, if_pos c44, if_neg (Int32.not_lt.mpr c49), if_pos c68]
                  obtain ⟨EE, hEE⟩ : ∃ y, va_cpy (C 1) x.2.2.2.2 ia 0 na = y := ⟨_, rfl⟩
                  refine lv_aload_n hx hb dX3_square_86 rfl (lv_at hl 2 rfl) ?_
                  refine x_get (D := (dC, dI)) (ci := 3) (v := .ref (t 0)) (C := RX3) (T := TX3) (N := 5) hx hb hts hinX3 hown hK hP 0 rfl rfl 1 (Nat.le_of_ble_eq_true rfl) hf21 rfl rfl dX3_square_87 ?_
                  refine lv_aload hx hb dX3_square_90 (lv_at hl 1 rfl) ?_
                  refine lv_iload_n hx hb dX3_square_92 rfl (lv_at hl 5 rfl) ?_
                  refine lv_iload hx hb dX3_square_93 (lv_at hl 6 rfl) ?_
                  refine rwW_i (As := [.ref (qs 1), .int (nI ia), .int (nI na)]) (rest := []) (wn := (a, .inr (3, [.ref r0, .ref (t 0), .ref (q 0), .int tr, .int (nI 0)])) :: (wSh cS cI r0 qs qr hs la le C ++ (wTd cI t (rdX EE na x.2.2.1 x.2.2.2.1 x.1.1 x.1.2) ++ wG cI q n X))) ⟨hx, hb, hml, hown, hts⟩ (kX2_read l dC dI cI t x.1.1 x.1.2 x.2.1.1 x.2.1.2.1 x.2.1.2.2.1 x.2.1.2.2.2 x.2.2.1 x.2.2.2.1 x.2.2.2.2 (qs 1) (qr 1) (hs 1) (la 1) (le 1) (C 1) EE ia na _ (by omega) hEE) (cwV 3 hts gX3_square_X2_read rfl rfl rfl hdX2_read ⟨Nat.le_trans (Nat.le_of_ble_eq_true rfl) hRf, Nat.le_trans (Nat.le_of_ble_eq_true rfl) hRl⟩) (va_recv hK hP (ci := 2) (q0 := 10) rfl rfl) (hK.sub [0] rfl) rfl hl.1 rfl (Nat.le_of_ble_eq_true rfl) dX3_square_95 ⟨Nat.zero_le _, Nat.zero_le _⟩ hP hD hS hA [10, 11, 12, 13, 4, 5] [0, 1, 2, 3, 6, 7, 8, 9, 14, 15, 16, 17, 18, 19, 20, 21, 22] [0, 1, 2, 3, 21, 22, 4, 5, 6, 7, 17, 18, 19, 20, 8, 9, 10, 11, 12, 13, 14, 15, 16] rfl rfl (by decide) (by decide) (by decide) rfl rfl (fun H locs hP hS => ?_)
                  have hD : va_D Z ((a, .inr (3, [.ref r0, .ref (t 0), .ref (q 0), .int tr, .int (nI 0)])) :: (wSh cS cI r0 qs qr hs la le C ++ (wTd cI t (rdX EE na x.2.2.1 x.2.2.2.1 x.1.1 x.1.2) ++ wG cI q n X))) := hD.same rfl
                  refine lv_istore (lv' := [(7, .int (rdV EE na x.2.2.1 x.2.2.2.1)), (6, .int (nI (faR (hs 1) (la 1) l0))), (5, .ref (qs 1)), (0, .ref a), (1, .int (nI 1)), (2, .int (nI l0)), (3, .int (nI ia)), (4, .int (nI na))]) hx hb dX3_square_98 hl (by decide) rfl (fun ls hl => ?_)
                  refine lv_iload hx hb dX3_square_100 (lv_at hl 0 rfl) ?_
                  refine lv_iconst (v := -1) hx hb dX3_square_102 rfl ?_
                  refine lv_icmp_eq (tgt := 112) hx hb dX3_square_103 (by decide) (fun c103 => ?_) (fun c103 => ?_)
                  · skip
                    obtain ⟨hv1, hv2, hv3, hv4, hv5⟩ := rdV_t c103
                    obtain ⟨d1, hd1⟩ : ∃ y, dgN EE na 1 1 6 = y := ⟨_, rfl⟩
                    obtain ⟨d2, hd2⟩ : ∃ y, dgN EE na 2 2 7 = y := ⟨_, rfl⟩
                    obtain ⟨MM, hM⟩ : ∃ y, tR EE na d2 x.2.2.1 x.2.2.2.1 (d1 * d2) = y := ⟨_, rfl⟩
                    obtain ⟨okm, ⟨pl2, be2, th2⟩, S2, D2⟩ := MM
                    have hd1l : d1 ≤ 6 := hd1 ▸ dgN_le (by decide)
                    have hd2l : d2 ≤ 7 := hd2 ▸ dgN_le (by decide)
                    have h42 : d1 * d2 ≤ 42 := Nat.mul_le_mul hd1l hd2l
                    have hly := lay_ok (E := EE) (len := na) (wi := d2) (S := x.2.2.1) (D := x.2.2.2.1) (M := d1 * d2) (D' := D2) (X := X) (by rw [hd1, hd2] at hv4; exact hv4)
                    rw [hM] at hly
                    have hP : va_P (dC, dI) vwCl ((a, .inr (3, [.ref r0, .ref (t 0), .ref (q 0), .int tr, .int (nI 0)])) :: (wSh cS cI r0 qs qr hs la le C ++ (wT cI t (nI d1) (nI d2) na pl2 be2 th2 S2 D2 EE ++ wG cI q n X))) H := by rw [rdX_t hv1 hv2 hv3, hd1, hd2, hM] at hP; exact hP
                    have hD : va_D Z ((a, .inr (3, [.ref r0, .ref (t 0), .ref (q 0), .int tr, .int (nI 0)])) :: (wSh cS cI r0 qs qr hs la le C ++ (wT cI t (nI d1) (nI d2) na pl2 be2 th2 S2 D2 EE ++ wG cI q n X))) := hD.same rfl
                    refine lv_aload_n hx hb dX3_square_112 rfl (lv_at hl 3 rfl) ?_
                    refine x_get (D := (dC, dI)) (ci := 3) (v := .ref (q 0)) (C := RX3) (T := TX3) (N := 5) hx hb hts hinX3 hown hK hP 0 rfl rfl 2 (Nat.le_of_ble_eq_true rfl) hf28 rfl rfl dX3_square_113 ?_
                    refine lv_aload_n hx hb dX3_square_116 rfl (lv_at hl 3 rfl) ?_
                    refine x_get (D := (dC, dI)) (ci := 3) (v := .ref (t 0)) (C := RX3) (T := TX3) (N := 5) hx hb hts hinX3 hown hK hP 0 rfl rfl 1 (Nat.le_of_ble_eq_true rfl) hf21 rfl rfl dX3_square_117 ?_
                    refine rwW_v (As := [.ref (t 0)]) (rest := []) (wn := (a, .inr (3, [.ref r0, .ref (t 0), .ref (q 0), .int tr, .int (nI 0)])) :: (wSh cS cI r0 qs qr hs la le C ++ (wT cI t (nI d1) (nI d2) na pl2 be2 th2 S2 D2 EE ++ wG cI q (nNew d1 d2 (lR (kAt EE na d2 x.2.2.1 x.2.2.2.1) D2 d2 X (d1 * d2)).1.1 (lR (kAt EE na d2 x.2.2.1 x.2.2.2.1) D2 d2 X (d1 * d2)).1.2) ((lR (kAt EE na d2 x.2.2.1 x.2.2.2.1) D2 d2 X (d1 * d2)).2)))) ⟨hx, hb, hml, hown, hts⟩ (kX0_layOut l dC dI cI q n X t d1 d2 na pl2 be2 th2 S2 D2 EE (kAt EE na d2 x.2.2.1 x.2.2.2.1) _ h42 hd1l hd2l hly.1 hly.2) (cwV 1 hts gX3_square_X0_layOut rfl rfl rfl hdX0_layOut ⟨Nat.le_trans (Nat.le_of_ble_eq_true rfl) hRf, Nat.le_trans (Nat.le_of_ble_eq_true rfl) hRl⟩) (va_recv hK hP (ci := 0) (q0 := 14) rfl rfl) (hK.sub [0] rfl) rfl hl.1 rfl (Nat.le_of_ble_eq_true rfl) dX3_square_120 ⟨Nat.zero_le _, Nat.zero_le _⟩ hP hD hS hA [14, 15, 16, 17, 18, 19, 20, 21, 22, 10, 11, 12, 13] [0, 1, 2, 3, 4, 5, 6, 7, 8, 9] [0, 1, 2, 3, 4, 5, 6, 7, 8, 9, 19, 20, 21, 22, 10, 11, 12, 13, 14, 15, 16, 17, 18] rfl rfl (by decide) (by decide) (by decide) rfl rfl (fun H locs hP hS => ?_)
                    have hD : va_D Z ((a, .inr (3, [.ref r0, .ref (t 0), .ref (q 0), .int tr, .int (nI 0)])) :: (wSh cS cI r0 qs qr hs la le C ++ (wT cI t (nI d1) (nI d2) na pl2 be2 th2 S2 D2 EE ++ wG cI q (nNew d1 d2 (lR (kAt EE na d2 x.2.2.1 x.2.2.2.1) D2 d2 X (d1 * d2)).1.1 (lR (kAt EE na d2 x.2.2.1 x.2.2.2.1) D2 d2 X (d1 * d2)).1.2) ((lR (kAt EE na d2 x.2.2.1 x.2.2.2.1) D2 d2 X (d1 * d2)).2)))) := hD.same rfl
                    refine lv_aload_n hx hb dX3_square_123 rfl (lv_at hl 3 rfl) ?_
                    refine x_get (D := (dC, dI)) (ci := 3) (v := .ref (q 0)) (C := RX3) (T := TX3) (N := 5) hx hb hts hinX3 hown hK hP 0 rfl rfl 2 (Nat.le_of_ble_eq_true rfl) hf28 rfl rfl dX3_square_124 ?_
                    refine x_get (D := (dC, dI)) (ci := 0) (v := .int (nI (d1 * d2))) (C := RX0) (T := TX0) (N := 17) hx hb hts hinX0 hown hK hP 14 rfl rfl 1 (Nat.le_of_ble_eq_true rfl) hf61 rfl rfl dX3_square_127 ?_
                    exact hend _ _ _ _ _ _ (by rw [uSqC, if_pos c10, if_pos c20, hxj, hxl0, if_pos hz, hxna, hxia, hEE, if_pos c103, hd1, hd2]) (by rw [show okSq hs la le (nI 1) (nI l0) (nI ia) (nI na) = true from by rw [okSq, c20, c10, hxj, hxl0, hz]; rfl, fSq, if_pos ⟨c10, c20⟩, hxj, hxl0, hz, hxna, hxia, hEE, nSqC, xSqC, rSqC, if_pos (⟨rfl, c103⟩ : true = true ∧ rdV EE na x.2.2.1 x.2.2.2.1 = -1), if_pos (⟨rfl, c103⟩ : true = true ∧ rdV EE na x.2.2.1 x.2.2.2.1 = -1), if_pos (rfl : true = true), rdX_t hv1 hv2 hv3, lSqC, hd1, hd2, hM] <;> rfl) hP hS dX3_square_130
                  · skip
                    refine lv_bipush (v := -100) hx hb dX3_square_106 rfl ?_
                    refine lv_iload hx hb dX3_square_108 (lv_at hl 0 rfl) ?_
                    refine lv_isub hx hb dX3_square_110 ?_
                    exact hend _ _ _ _ _ _ (by rw [uSqC, if_pos c10, if_pos c20, hxj, hxl0, if_pos hz, hxna, hxia, hEE, if_neg c103]) (by rw [show okSq hs la le (nI 1) (nI l0) (nI ia) (nI na) = true from by rw [okSq, c20, c10, hxj, hxl0, hz]; rfl, fSq, if_pos ⟨c10, c20⟩, hxj, hxl0, hz, hxna, hxia, hEE, nSqC, xSqC, rSqC, if_neg (fun (q : true = true ∧ rdV EE na x.2.2.1 x.2.2.2.1 = -1) => c103 q.2), if_neg (fun (q : true = true ∧ rdV EE na x.2.2.1 x.2.2.2.1 = -1) => c103 q.2), if_pos (rfl : true = true)] <;> rfl) hP hS dX3_square_111
                · skip
                  exact absurd c44 c76
              · skip
                refine lv_iconst (v := nI 3) hx hb dX3_square_71 rfl ?_
                refine lv_istore (lv' := [(6, .int (nI 3)), (5, .ref (qs 1)), (0, .ref a), (1, .int (nI 1)), (2, .int (nI l0)), (3, .int i), (4, .int n0)]) hx hb dX3_square_72 hl (by decide) rfl (fun ls hl => ?_)
                refine lv_iload hx hb dX3_square_74 (lv_at hl 0 rfl) ?_
                refine x_if_eq (tgt := 86) hx hb (by omega) dX3_square_76 (by decide) (fun c76 => absurd c76 (by decide)) (fun c76 => ?_)
                refine lv_aload_n hx hb dX3_square_79 rfl (lv_at hl 2 rfl) ?_
                refine lv_iload hx hb dX3_square_80 (lv_at hl 0 rfl) ?_
                refine rwW_i (As := [.int (nI 3)]) (rest := []) (wn := (a, .inr (3, [.ref r0, .ref (t 0), .ref (q 0), .int tr, .int (nI 3)])) :: (wSh cS cI r0 qs qr hs la le C ++ (wTd cI t x ++ wG cI q n X))) ⟨hx, hb, hml, hown, hts⟩ (kX3_failed l dC dI a r0 (t 0) (q 0) tr (nI 0) 3 _) (cwV 1 hts gX3_square_X3_failed rfl rfl rfl hdX3_failed ⟨Nat.le_trans (Nat.le_of_ble_eq_true rfl) hRf, Nat.le_trans (Nat.le_of_ble_eq_true rfl) hRl⟩) (va_recv hK hP (ci := 3) (q0 := 0) rfl rfl) (hK.sub [] rfl) rfl hl.1 rfl (Nat.le_of_ble_eq_true rfl) dX3_square_82 ⟨Nat.zero_le _, Nat.zero_le _⟩ hP hD hS hA [0] [1, 2, 3, 4, 5, 6, 7, 8, 9, 10, 11, 12, 13, 14, 15, 16, 17, 18, 19, 20, 21, 22] [22, 0, 1, 2, 3, 4, 5, 6, 7, 8, 9, 10, 11, 12, 13, 14, 15, 16, 17, 18, 19, 20, 21] rfl rfl (by decide) (by decide) (by decide) rfl rfl (fun H locs hP hS => ?_)
                have hD : va_D Z ((a, .inr (3, [.ref r0, .ref (t 0), .ref (q 0), .int tr, .int (nI 3)])) :: (wSh cS cI r0 qs qr hs la le C ++ (wTd cI t x ++ wG cI q n X))) := hD.same rfl
                exact hend _ _ _ _ _ _ (by have hz : sqN hs la le 1 l0 i n0 = 3 := (by rw [sqN_fa, if_pos c44, if_neg (Int32.not_lt.mpr c49), if_neg (by rw [c68]; decide)]); rw [uSqC, if_pos c10, if_pos c20, hxj, hxl0, hz, if_neg (by decide)]) (by have hz : sqN hs la le 1 l0 i n0 = 3 := (by rw [sqN_fa, if_pos c44, if_neg (Int32.not_lt.mpr c49), if_neg (by rw [c68]; decide)]); rw [show okSq hs la le (nI 1) (nI l0) i n0 = false from by rw [okSq, c20, c10, hxj, hxl0, hz, decide_eq_false (by decide)]; rfl, fSq, if_pos ⟨c10, c20⟩, hxj, hxl0, hz] <;> rfl) hP hS dX3_square_85
          · skip
            refine lv_iconst (v := nI 4) hx hb dX3_square_52 rfl ?_
            refine lv_istore (lv' := [(6, .int (nI 4)), (5, .ref (qs 1)), (0, .ref a), (1, .int (nI 1)), (2, .int (nI l0)), (3, .int i), (4, .int n0)]) hx hb dX3_square_53 hl (by decide) rfl (fun ls hl => ?_)
            refine lv_iload hx hb dX3_square_55 (lv_at hl 0 rfl) ?_
            refine x_if_ne (tgt := 74) hx hb (by omega) dX3_square_57 (by decide) (fun c57 => ?_) (fun c57 => absurd c57 (by decide))
            refine lv_iload hx hb dX3_square_74 (lv_at hl 0 rfl) ?_
            refine x_if_eq (tgt := 86) hx hb (by omega) dX3_square_76 (by decide) (fun c76 => absurd c76 (by decide)) (fun c76 => ?_)
            refine lv_aload_n hx hb dX3_square_79 rfl (lv_at hl 2 rfl) ?_
            refine lv_iload hx hb dX3_square_80 (lv_at hl 0 rfl) ?_
            refine rwW_i (As := [.int (nI 4)]) (rest := []) (wn := (a, .inr (3, [.ref r0, .ref (t 0), .ref (q 0), .int tr, .int (nI 4)])) :: (wSh cS cI r0 qs qr hs la le C ++ (wTd cI t x ++ wG cI q n X))) ⟨hx, hb, hml, hown, hts⟩ (kX3_failed l dC dI a r0 (t 0) (q 0) tr (nI 0) 4 _) (cwV 1 hts gX3_square_X3_failed rfl rfl rfl hdX3_failed ⟨Nat.le_trans (Nat.le_of_ble_eq_true rfl) hRf, Nat.le_trans (Nat.le_of_ble_eq_true rfl) hRl⟩) (va_recv hK hP (ci := 3) (q0 := 0) rfl rfl) (hK.sub [] rfl) rfl hl.1 rfl (Nat.le_of_ble_eq_true rfl) dX3_square_82 ⟨Nat.zero_le _, Nat.zero_le _⟩ hP hD hS hA [0] [1, 2, 3, 4, 5, 6, 7, 8, 9, 10, 11, 12, 13, 14, 15, 16, 17, 18, 19, 20, 21, 22] [22, 0, 1, 2, 3, 4, 5, 6, 7, 8, 9, 10, 11, 12, 13, 14, 15, 16, 17, 18, 19, 20, 21] rfl rfl (by decide) (by decide) (by decide) rfl rfl (fun H locs hP hS => ?_)
            have hD : va_D Z ((a, .inr (3, [.ref r0, .ref (t 0), .ref (q 0), .int tr, .int (nI 4)])) :: (wSh cS cI r0 qs qr hs la le C ++ (wTd cI t x ++ wG cI q n X))) := hD.same rfl
            exact hend _ _ _ _ _ _ (by have hz : sqN hs la le 1 l0 i n0 = 4 := (by rw [sqN_fa, if_pos c44, if_pos (Int32.not_le.mp c49)]); rw [uSqC, if_pos c10, if_pos c20, hxj, hxl0, hz, if_neg (by decide)]) (by have hz : sqN hs la le 1 l0 i n0 = 4 := (by rw [sqN_fa, if_pos c44, if_pos (Int32.not_le.mp c49)]); rw [show okSq hs la le (nI 1) (nI l0) i n0 = false from by rw [okSq, c20, c10, hxj, hxl0, hz, decide_eq_false (by decide)]; rfl, fSq, if_pos ⟨c10, c20⟩, hxj, hxl0, hz] <;> rfl) hP hS dX3_square_85
      · skip
        refine x_aald (v := qs 2) hx hb hK hP 1 1 rfl rfl (by decide) (by decide) rfl dX3_square_31 ?_
        refine lv_astore (lv' := [(5, .ref (qs 2)), (0, .ref a), (1, .int (nI 2)), (2, .int (nI l0)), (3, .int i), (4, .int n0)]) hx hb dX3_square_32 hl (by decide) rfl (fun ls hl => ?_)
        refine lv_aload hx hb dX3_square_34 (lv_at hl 0 rfl) ?_
        refine lv_iload_n hx hb dX3_square_36 rfl (lv_at hl 3 rfl) ?_
        refine roV_i (As := [.int (nI l0)]) (rest := []) ⟨hx, hb, hml, hown, hts⟩ (kX1_faultAsRow l dC dI cI (qs 2) (qr 2) (hs 2) (la 2) (le 2) (C 2) l0 _ (by omega) (by omega)) (cwV 1 hts gX3_square_X1_faultAsRow rfl rfl rfl hdX1_faultAsRow ⟨Nat.le_trans (Nat.le_of_ble_eq_true rfl) hRf, Nat.le_trans (Nat.le_of_ble_eq_true rfl) hRl⟩) (va_recv hK hP (ci := 1) (q0 := 6) rfl rfl) (hK.sub [0] rfl) (hP.sub [6, 7] rfl) rfl hl.1 rfl (Nat.le_of_ble_eq_true rfl) dX3_square_37 ⟨Nat.zero_le _, Nat.zero_le _⟩ hP hS hA (fun H locs hP hS => ?_)
        refine lv_istore (lv' := [(6, .int (nI (faR (hs 2) (la 2) l0))), (5, .ref (qs 2)), (0, .ref a), (1, .int (nI 2)), (2, .int (nI l0)), (3, .int i), (4, .int n0)]) hx hb dX3_square_40 hl (by decide) rfl (fun ls hl => ?_)
        refine lv_iload hx hb dX3_square_42 (lv_at hl 0 rfl) ?_
        refine x_if_ne (tgt := 55) hx hb (faR_lt _ _ _) dX3_square_44 (by decide) (fun c44 => ?_) (fun c44 => ?_)
        · skip
          refine lv_iload hx hb dX3_square_55 (lv_at hl 0 rfl) ?_
          refine x_if_ne (tgt := 74) hx hb (faR_lt _ _ _) dX3_square_57 (by decide) (fun c57 => ?_) (fun c57 => ?_)
          · skip
            refine lv_iload hx hb dX3_square_74 (lv_at hl 0 rfl) ?_
            refine x_if_eq (tgt := 86) hx hb (faR_lt _ _ _) dX3_square_76 (by decide) (fun c76 => ?_) (fun c76 => ?_)
            · skip
              exact absurd c76 c44
            · skip
              refine lv_aload_n hx hb dX3_square_79 rfl (lv_at hl 2 rfl) ?_
              refine lv_iload hx hb dX3_square_80 (lv_at hl 0 rfl) ?_
              refine rwW_i (As := [.int (nI (faR (hs 2) (la 2) l0))]) (rest := []) (wn := (a, .inr (3, [.ref r0, .ref (t 0), .ref (q 0), .int tr, .int (nI (faR (hs 2) (la 2) l0))])) :: (wSh cS cI r0 qs qr hs la le C ++ (wTd cI t x ++ wG cI q n X))) ⟨hx, hb, hml, hown, hts⟩ (kX3_failed l dC dI a r0 (t 0) (q 0) tr (nI 0) (faR (hs 2) (la 2) l0) _) (cwV 1 hts gX3_square_X3_failed rfl rfl rfl hdX3_failed ⟨Nat.le_trans (Nat.le_of_ble_eq_true rfl) hRf, Nat.le_trans (Nat.le_of_ble_eq_true rfl) hRl⟩) (va_recv hK hP (ci := 3) (q0 := 0) rfl rfl) (hK.sub [] rfl) rfl hl.1 rfl (Nat.le_of_ble_eq_true rfl) dX3_square_82 ⟨Nat.zero_le _, Nat.zero_le _⟩ hP hD hS hA [0] [1, 2, 3, 4, 5, 6, 7, 8, 9, 10, 11, 12, 13, 14, 15, 16, 17, 18, 19, 20, 21, 22] [22, 0, 1, 2, 3, 4, 5, 6, 7, 8, 9, 10, 11, 12, 13, 14, 15, 16, 17, 18, 19, 20, 21] rfl rfl (by decide) (by decide) (by decide) rfl rfl (fun H locs hP hS => ?_)
              have hD : va_D Z ((a, .inr (3, [.ref r0, .ref (t 0), .ref (q 0), .int tr, .int (nI (faR (hs 2) (la 2) l0))])) :: (wSh cS cI r0 qs qr hs la le C ++ (wTd cI t x ++ wG cI q n X))) := hD.same rfl
              exact hend _ _ _ _ _ _ (by have hz : sqN hs la le 2 l0 i n0 = (faR (hs 2) (la 2) l0) := (by rw [sqN_fa, if_neg c44]); rw [uSqC, if_pos c10, if_pos c20, hxj, hxl0, hz, if_neg c44]) (by have hz : sqN hs la le 2 l0 i n0 = (faR (hs 2) (la 2) l0) := (by rw [sqN_fa, if_neg c44]); rw [show okSq hs la le (nI 2) (nI l0) i n0 = false from by rw [okSq, c20, c10, hxj, hxl0, hz, decide_eq_false c44]; rfl, fSq, if_pos ⟨c10, c20⟩, hxj, hxl0, hz] <;> rfl) hP hS dX3_square_85
          · skip
            exact absurd c57 c44
        · skip
          refine lv_iload hx hb dX3_square_47 (lv_at hl 6 rfl) ?_
          refine lv_if_ge (tgt := 55) hx hb dX3_square_49 (by decide) (fun c49 => ?_) (fun c49 => ?_)
          · skip
            refine lv_iload hx hb dX3_square_55 (lv_at hl 0 rfl) ?_
            refine x_if_ne (tgt := 74) hx hb (faR_lt _ _ _) dX3_square_57 (by decide) (fun c57 => ?_) (fun c57 => ?_)
            · skip
              exact absurd c44 c57
            · skip
              refine lv_aload hx hb dX3_square_60 (lv_at hl 1 rfl) ?_
              refine lv_iload_n hx hb dX3_square_62 rfl (lv_at hl 5 rfl) ?_
              refine lv_iload hx hb dX3_square_63 (lv_at hl 6 rfl) ?_
              refine roV_i (As := [.int i, .int n0]) (rest := []) ⟨hx, hb, hml, hown, hts⟩ (kX1_hasSpan l dC dI cI (qs 2) (qr 2) (hs 2) (la 2) (le 2) (C 2) i n0 _ (by omega)) (cwV 2 hts gX3_square_X1_hasSpan rfl rfl rfl hdX1_hasSpan ⟨Nat.le_trans (Nat.le_of_ble_eq_true rfl) hRf, Nat.le_trans (Nat.le_of_ble_eq_true rfl) hRl⟩) (va_recv hK hP (ci := 1) (q0 := 6) rfl rfl) (hK.sub [0] rfl) (hP.sub [6, 7] rfl) rfl hl.1 rfl (Nat.le_of_ble_eq_true rfl) dX3_square_65 ⟨Nat.zero_le _, Nat.zero_le _⟩ hP hS hA (fun H locs hP hS => ?_)
              refine x_ifb_ne (tgt := 74) hx hb dX3_square_68 (by decide) (fun c68 => ?_) (fun c68 => ?_)
              · skip
                refine lv_iload hx hb dX3_square_74 (lv_at hl 0 rfl) ?_
                refine x_if_eq (tgt := 86) hx hb (faR_lt _ _ _) dX3_square_76 (by decide) (fun c76 => ?_) (fun c76 => ?_)
                · skip
                  obtain ⟨ia, na, hia, rfl, rfl⟩ := span_t (le := le 2) (by omega) c68
                  have hxia : xn (nI ia) = ia := xn_nI (by omega)
                  have hxna : xn (nI na) = na := xn_nI (by omega)
                  have hz : sqN hs la le 2 l0 (nI ia) (nI na) = 0 := by rw [sqN_fa, if_pos c44, if_neg (Int32.not_lt.mpr c49), if_pos c68]
                  obtain ⟨EE, hEE⟩ : ∃ y, va_cpy (C 2) x.2.2.2.2 ia 0 na = y := ⟨_, rfl⟩
                  refine lv_aload_n hx hb dX3_square_86 rfl (lv_at hl 2 rfl) ?_
                  refine x_get (D := (dC, dI)) (ci := 3) (v := .ref (t 0)) (C := RX3) (T := TX3) (N := 5) hx hb hts hinX3 hown hK hP 0 rfl rfl 1 (Nat.le_of_ble_eq_true rfl) hf21 rfl rfl dX3_square_87 ?_
                  refine lv_aload hx hb dX3_square_90 (lv_at hl 1 rfl) ?_
                  refine lv_iload_n hx hb dX3_square_92 rfl (lv_at hl 5 rfl) ?_
                  refine lv_iload hx hb dX3_square_93 (lv_at hl 6 rfl) ?_
                  refine rwW_i (As := [.ref (qs 2), .int (nI ia), .int (nI na)]) (rest := []) (wn := (a, .inr (3, [.ref r0, .ref (t 0), .ref (q 0), .int tr, .int (nI 0)])) :: (wSh cS cI r0 qs qr hs la le C ++ (wTd cI t (rdX EE na x.2.2.1 x.2.2.2.1 x.1.1 x.1.2) ++ wG cI q n X))) ⟨hx, hb, hml, hown, hts⟩ (kX2_read l dC dI cI t x.1.1 x.1.2 x.2.1.1 x.2.1.2.1 x.2.1.2.2.1 x.2.1.2.2.2 x.2.2.1 x.2.2.2.1 x.2.2.2.2 (qs 2) (qr 2) (hs 2) (la 2) (le 2) (C 2) EE ia na _ (by omega) hEE) (cwV 3 hts gX3_square_X2_read rfl rfl rfl hdX2_read ⟨Nat.le_trans (Nat.le_of_ble_eq_true rfl) hRf, Nat.le_trans (Nat.le_of_ble_eq_true rfl) hRl⟩) (va_recv hK hP (ci := 2) (q0 := 10) rfl rfl) (hK.sub [0] rfl) rfl hl.1 rfl (Nat.le_of_ble_eq_true rfl) dX3_square_95 ⟨Nat.zero_le _, Nat.zero_le _⟩ hP hD hS hA [10, 11, 12, 13, 6, 7] [0, 1, 2, 3, 4, 5, 8, 9, 14, 15, 16, 17, 18, 19, 20, 21, 22] [0, 1, 2, 3, 4, 5, 21, 22, 6, 7, 17, 18, 19, 20, 8, 9, 10, 11, 12, 13, 14, 15, 16] rfl rfl (by decide) (by decide) (by decide) rfl rfl (fun H locs hP hS => ?_)
                  have hD : va_D Z ((a, .inr (3, [.ref r0, .ref (t 0), .ref (q 0), .int tr, .int (nI 0)])) :: (wSh cS cI r0 qs qr hs la le C ++ (wTd cI t (rdX EE na x.2.2.1 x.2.2.2.1 x.1.1 x.1.2) ++ wG cI q n X))) := hD.same rfl
                  refine lv_istore (lv' := [(7, .int (rdV EE na x.2.2.1 x.2.2.2.1)), (6, .int (nI (faR (hs 2) (la 2) l0))), (5, .ref (qs 2)), (0, .ref a), (1, .int (nI 2)), (2, .int (nI l0)), (3, .int (nI ia)), (4, .int (nI na))]) hx hb dX3_square_98 hl (by decide) rfl (fun ls hl => ?_)
                  refine lv_iload hx hb dX3_square_100 (lv_at hl 0 rfl) ?_
                  refine lv_iconst (v := -1) hx hb dX3_square_102 rfl ?_
                  refine lv_icmp_eq (tgt := 112) hx hb dX3_square_103 (by decide) (fun c103 => ?_) (fun c103 => ?_)
                  · skip
                    obtain ⟨hv1, hv2, hv3, hv4, hv5⟩ := rdV_t c103
                    obtain ⟨d1, hd1⟩ : ∃ y, dgN EE na 1 1 6 = y := ⟨_, rfl⟩
                    obtain ⟨d2, hd2⟩ : ∃ y, dgN EE na 2 2 7 = y := ⟨_, rfl⟩
                    obtain ⟨MM, hM⟩ : ∃ y, tR EE na d2 x.2.2.1 x.2.2.2.1 (d1 * d2) = y := ⟨_, rfl⟩
                    obtain ⟨okm, ⟨pl2, be2, th2⟩, S2, D2⟩ := MM
                    have hd1l : d1 ≤ 6 := hd1 ▸ dgN_le (by decide)
                    have hd2l : d2 ≤ 7 := hd2 ▸ dgN_le (by decide)
                    have h42 : d1 * d2 ≤ 42 := Nat.mul_le_mul hd1l hd2l
                    have hly := lay_ok (E := EE) (len := na) (wi := d2) (S := x.2.2.1) (D := x.2.2.2.1) (M := d1 * d2) (D' := D2) (X := X) (by rw [hd1, hd2] at hv4; exact hv4)
                    rw [hM] at hly
                    have hP : va_P (dC, dI) vwCl ((a, .inr (3, [.ref r0, .ref (t 0), .ref (q 0), .int tr, .int (nI 0)])) :: (wSh cS cI r0 qs qr hs la le C ++ (wT cI t (nI d1) (nI d2) na pl2 be2 th2 S2 D2 EE ++ wG cI q n X))) H := by rw [rdX_t hv1 hv2 hv3, hd1, hd2, hM] at hP; exact hP
                    have hD : va_D Z ((a, .inr (3, [.ref r0, .ref (t 0), .ref (q 0), .int tr, .int (nI 0)])) :: (wSh cS cI r0 qs qr hs la le C ++ (wT cI t (nI d1) (nI d2) na pl2 be2 th2 S2 D2 EE ++ wG cI q n X))) := hD.same rfl
                    refine lv_aload_n hx hb dX3_square_112 rfl (lv_at hl 3 rfl) ?_
                    refine x_get (D := (dC, dI)) (ci := 3) (v := .ref (q 0)) (C := RX3) (T := TX3) (N := 5) hx hb hts hinX3 hown hK hP 0 rfl rfl 2 (Nat.le_of_ble_eq_true rfl) hf28 rfl rfl dX3_square_113 ?_
                    refine lv_aload_n hx hb dX3_square_116 rfl (lv_at hl 3 rfl) ?_
                    refine x_get (D := (dC, dI)) (ci := 3) (v := .ref (t 0)) (C := RX3) (T := TX3) (N := 5) hx hb hts hinX3 hown hK hP 0 rfl rfl 1 (Nat.le_of_ble_eq_true rfl) hf21 rfl rfl dX3_square_117 ?_
                    refine rwW_v (As := [.ref (t 0)]) (rest := []) (wn := (a, .inr (3, [.ref r0, .ref (t 0), .ref (q 0), .int tr, .int (nI 0)])) :: (wSh cS cI r0 qs qr hs la le C ++ (wT cI t (nI d1) (nI d2) na pl2 be2 th2 S2 D2 EE ++ wG cI q (nNew d1 d2 (lR (kAt EE na d2 x.2.2.1 x.2.2.2.1) D2 d2 X (d1 * d2)).1.1 (lR (kAt EE na d2 x.2.2.1 x.2.2.2.1) D2 d2 X (d1 * d2)).1.2) ((lR (kAt EE na d2 x.2.2.1 x.2.2.2.1) D2 d2 X (d1 * d2)).2)))) ⟨hx, hb, hml, hown, hts⟩ (kX0_layOut l dC dI cI q n X t d1 d2 na pl2 be2 th2 S2 D2 EE (kAt EE na d2 x.2.2.1 x.2.2.2.1) _ h42 hd1l hd2l hly.1 hly.2) (cwV 1 hts gX3_square_X0_layOut rfl rfl rfl hdX0_layOut ⟨Nat.le_trans (Nat.le_of_ble_eq_true rfl) hRf, Nat.le_trans (Nat.le_of_ble_eq_true rfl) hRl⟩) (va_recv hK hP (ci := 0) (q0 := 14) rfl rfl) (hK.sub [0] rfl) rfl hl.1 rfl (Nat.le_of_ble_eq_true rfl) dX3_square_120 ⟨Nat.zero_le _, Nat.zero_le _⟩ hP hD hS hA [14, 15, 16, 17, 18, 19, 20, 21, 22, 10, 11, 12, 13] [0, 1, 2, 3, 4, 5, 6, 7, 8, 9] [0, 1, 2, 3, 4, 5, 6, 7, 8, 9, 19, 20, 21, 22, 10, 11, 12, 13, 14, 15, 16, 17, 18] rfl rfl (by decide) (by decide) (by decide) rfl rfl (fun H locs hP hS => ?_)
                    have hD : va_D Z ((a, .inr (3, [.ref r0, .ref (t 0), .ref (q 0), .int tr, .int (nI 0)])) :: (wSh cS cI r0 qs qr hs la le C ++ (wT cI t (nI d1) (nI d2) na pl2 be2 th2 S2 D2 EE ++ wG cI q (nNew d1 d2 (lR (kAt EE na d2 x.2.2.1 x.2.2.2.1) D2 d2 X (d1 * d2)).1.1 (lR (kAt EE na d2 x.2.2.1 x.2.2.2.1) D2 d2 X (d1 * d2)).1.2) ((lR (kAt EE na d2 x.2.2.1 x.2.2.2.1) D2 d2 X (d1 * d2)).2)))) := hD.same rfl
                    refine lv_aload_n hx hb dX3_square_123 rfl (lv_at hl 3 rfl) ?_
                    refine x_get (D := (dC, dI)) (ci := 3) (v := .ref (q 0)) (C := RX3) (T := TX3) (N := 5) hx hb hts hinX3 hown hK hP 0 rfl rfl 2 (Nat.le_of_ble_eq_true rfl) hf28 rfl rfl dX3_square_124 ?_
                    refine x_get (D := (dC, dI)) (ci := 0) (v := .int (nI (d1 * d2))) (C := RX0) (T := TX0) (N := 17) hx hb hts hinX0 hown hK hP 14 rfl rfl 1 (Nat.le_of_ble_eq_true rfl) hf61 rfl rfl dX3_square_127 ?_
                    exact hend _ _ _ _ _ _ (by rw [uSqC, if_pos c10, if_pos c20, hxj, hxl0, if_pos hz, hxna, hxia, hEE, if_pos c103, hd1, hd2]) (by rw [show okSq hs la le (nI 2) (nI l0) (nI ia) (nI na) = true from by rw [okSq, c20, c10, hxj, hxl0, hz]; rfl, fSq, if_pos ⟨c10, c20⟩, hxj, hxl0, hz, hxna, hxia, hEE, nSqC, xSqC, rSqC, if_pos (⟨rfl, c103⟩ : true = true ∧ rdV EE na x.2.2.1 x.2.2.2.1 = -1), if_pos (⟨rfl, c103⟩ : true = true ∧ rdV EE na x.2.2.1 x.2.2.2.1 = -1), if_pos (rfl : true = true), rdX_t hv1 hv2 hv3, lSqC, hd1, hd2, hM] <;> rfl) hP hS dX3_square_130
                  · skip
                    refine lv_bipush (v := -100) hx hb dX3_square_106 rfl ?_
                    refine lv_iload hx hb dX3_square_108 (lv_at hl 0 rfl) ?_
                    refine lv_isub hx hb dX3_square_110 ?_
                    exact hend _ _ _ _ _ _ (by rw [uSqC, if_pos c10, if_pos c20, hxj, hxl0, if_pos hz, hxna, hxia, hEE, if_neg c103]) (by rw [show okSq hs la le (nI 2) (nI l0) (nI ia) (nI na) = true from by rw [okSq, c20, c10, hxj, hxl0, hz]; rfl, fSq, if_pos ⟨c10, c20⟩, hxj, hxl0, hz, hxna, hxia, hEE, nSqC, xSqC, rSqC, if_neg (fun (q : true = true ∧ rdV EE na x.2.2.1 x.2.2.2.1 = -1) => c103 q.2), if_neg (fun (q : true = true ∧ rdV EE na x.2.2.1 x.2.2.2.1 = -1) => c103 q.2), if_pos (rfl : true = true)] <;> rfl) hP hS dX3_square_111
                · skip
                  exact absurd c44 c76
              · skip
                refine lv_iconst (v := nI 3) hx hb dX3_square_71 rfl ?_
                refine lv_istore (lv' := [(6, .int (nI 3)), (5, .ref (qs 2)), (0, .ref a), (1, .int (nI 2)), (2, .int (nI l0)), (3, .int i), (4, .int n0)]) hx hb dX3_square_72 hl (by decide) rfl (fun ls hl => ?_)
                refine lv_iload hx hb dX3_square_74 (lv_at hl 0 rfl) ?_
                refine x_if_eq (tgt := 86) hx hb (by omega) dX3_square_76 (by decide) (fun c76 => absurd c76 (by decide)) (fun c76 => ?_)
                refine lv_aload_n hx hb dX3_square_79 rfl (lv_at hl 2 rfl) ?_
                refine lv_iload hx hb dX3_square_80 (lv_at hl 0 rfl) ?_
                refine rwW_i (As := [.int (nI 3)]) (rest := []) (wn := (a, .inr (3, [.ref r0, .ref (t 0), .ref (q 0), .int tr, .int (nI 3)])) :: (wSh cS cI r0 qs qr hs la le C ++ (wTd cI t x ++ wG cI q n X))) ⟨hx, hb, hml, hown, hts⟩ (kX3_failed l dC dI a r0 (t 0) (q 0) tr (nI 0) 3 _) (cwV 1 hts gX3_square_X3_failed rfl rfl rfl hdX3_failed ⟨Nat.le_trans (Nat.le_of_ble_eq_true rfl) hRf, Nat.le_trans (Nat.le_of_ble_eq_true rfl) hRl⟩) (va_recv hK hP (ci := 3) (q0 := 0) rfl rfl) (hK.sub [] rfl) rfl hl.1 rfl (Nat.le_of_ble_eq_true rfl) dX3_square_82 ⟨Nat.zero_le _, Nat.zero_le _⟩ hP hD hS hA [0] [1, 2, 3, 4, 5, 6, 7, 8, 9, 10, 11, 12, 13, 14, 15, 16, 17, 18, 19, 20, 21, 22] [22, 0, 1, 2, 3, 4, 5, 6, 7, 8, 9, 10, 11, 12, 13, 14, 15, 16, 17, 18, 19, 20, 21] rfl rfl (by decide) (by decide) (by decide) rfl rfl (fun H locs hP hS => ?_)
                have hD : va_D Z ((a, .inr (3, [.ref r0, .ref (t 0), .ref (q 0), .int tr, .int (nI 3)])) :: (wSh cS cI r0 qs qr hs la le C ++ (wTd cI t x ++ wG cI q n X))) := hD.same rfl
                exact hend _ _ _ _ _ _ (by have hz : sqN hs la le 2 l0 i n0 = 3 := (by rw [sqN_fa, if_pos c44, if_neg (Int32.not_lt.mpr c49), if_neg (by rw [c68]; decide)]); rw [uSqC, if_pos c10, if_pos c20, hxj, hxl0, hz, if_neg (by decide)]) (by have hz : sqN hs la le 2 l0 i n0 = 3 := (by rw [sqN_fa, if_pos c44, if_neg (Int32.not_lt.mpr c49), if_neg (by rw [c68]; decide)]); rw [show okSq hs la le (nI 2) (nI l0) i n0 = false from by rw [okSq, c20, c10, hxj, hxl0, hz, decide_eq_false (by decide)]; rfl, fSq, if_pos ⟨c10, c20⟩, hxj, hxl0, hz] <;> rfl) hP hS dX3_square_85
          · skip
            refine lv_iconst (v := nI 4) hx hb dX3_square_52 rfl ?_
            refine lv_istore (lv' := [(6, .int (nI 4)), (5, .ref (qs 2)), (0, .ref a), (1, .int (nI 2)), (2, .int (nI l0)), (3, .int i), (4, .int n0)]) hx hb dX3_square_53 hl (by decide) rfl (fun ls hl => ?_)
            refine lv_iload hx hb dX3_square_55 (lv_at hl 0 rfl) ?_
            refine x_if_ne (tgt := 74) hx hb (by omega) dX3_square_57 (by decide) (fun c57 => ?_) (fun c57 => absurd c57 (by decide))
            refine lv_iload hx hb dX3_square_74 (lv_at hl 0 rfl) ?_
            refine x_if_eq (tgt := 86) hx hb (by omega) dX3_square_76 (by decide) (fun c76 => absurd c76 (by decide)) (fun c76 => ?_)
            refine lv_aload_n hx hb dX3_square_79 rfl (lv_at hl 2 rfl) ?_
            refine lv_iload hx hb dX3_square_80 (lv_at hl 0 rfl) ?_
            refine rwW_i (As := [.int (nI 4)]) (rest := []) (wn := (a, .inr (3, [.ref r0, .ref (t 0), .ref (q 0), .int tr, .int (nI 4)])) :: (wSh cS cI r0 qs qr hs la le C ++ (wTd cI t x ++ wG cI q n X))) ⟨hx, hb, hml, hown, hts⟩ (kX3_failed l dC dI a r0 (t 0) (q 0) tr (nI 0) 4 _) (cwV 1 hts gX3_square_X3_failed rfl rfl rfl hdX3_failed ⟨Nat.le_trans (Nat.le_of_ble_eq_true rfl) hRf, Nat.le_trans (Nat.le_of_ble_eq_true rfl) hRl⟩) (va_recv hK hP (ci := 3) (q0 := 0) rfl rfl) (hK.sub [] rfl) rfl hl.1 rfl (Nat.le_of_ble_eq_true rfl) dX3_square_82 ⟨Nat.zero_le _, Nat.zero_le _⟩ hP hD hS hA [0] [1, 2, 3, 4, 5, 6, 7, 8, 9, 10, 11, 12, 13, 14, 15, 16, 17, 18, 19, 20, 21, 22] [22, 0, 1, 2, 3, 4, 5, 6, 7, 8, 9, 10, 11, 12, 13, 14, 15, 16, 17, 18, 19, 20, 21] rfl rfl (by decide) (by decide) (by decide) rfl rfl (fun H locs hP hS => ?_)
            have hD : va_D Z ((a, .inr (3, [.ref r0, .ref (t 0), .ref (q 0), .int tr, .int (nI 4)])) :: (wSh cS cI r0 qs qr hs la le C ++ (wTd cI t x ++ wG cI q n X))) := hD.same rfl
            exact hend _ _ _ _ _ _ (by have hz : sqN hs la le 2 l0 i n0 = 4 := (by rw [sqN_fa, if_pos c44, if_pos (Int32.not_le.mp c49)]); rw [uSqC, if_pos c10, if_pos c20, hxj, hxl0, hz, if_neg (by decide)]) (by have hz : sqN hs la le 2 l0 i n0 = 4 := (by rw [sqN_fa, if_pos c44, if_pos (Int32.not_le.mp c49)]); rw [show okSq hs la le (nI 2) (nI l0) i n0 = false from by rw [okSq, c20, c10, hxj, hxl0, hz, decide_eq_false (by decide)]; rfl, fSq, if_pos ⟨c10, c20⟩, hxj, hxl0, hz] <;> rfl) hP hS dX3_square_85
      · skip
        refine x_aald (v := qs 3) hx hb hK hP 1 1 rfl rfl (by decide) (by decide) rfl dX3_square_31 ?_
        refine lv_astore (lv' := [(5, .ref (qs 3)), (0, .ref a), (1, .int (nI 3)), (2, .int (nI l0)), (3, .int i), (4, .int n0)]) hx hb dX3_square_32 hl (by decide) rfl (fun ls hl => ?_)
        refine lv_aload hx hb dX3_square_34 (lv_at hl 0 rfl) ?_
        refine lv_iload_n hx hb dX3_square_36 rfl (lv_at hl 3 rfl) ?_
        refine roV_i (As := [.int (nI l0)]) (rest := []) ⟨hx, hb, hml, hown, hts⟩ (kX1_faultAsRow l dC dI cI (qs 3) (qr 3) (hs 3) (la 3) (le 3) (C 3) l0 _ (by omega) (by omega)) (cwV 1 hts gX3_square_X1_faultAsRow rfl rfl rfl hdX1_faultAsRow ⟨Nat.le_trans (Nat.le_of_ble_eq_true rfl) hRf, Nat.le_trans (Nat.le_of_ble_eq_true rfl) hRl⟩) (va_recv hK hP (ci := 1) (q0 := 8) rfl rfl) (hK.sub [0] rfl) (hP.sub [8, 9] rfl) rfl hl.1 rfl (Nat.le_of_ble_eq_true rfl) dX3_square_37 ⟨Nat.zero_le _, Nat.zero_le _⟩ hP hS hA (fun H locs hP hS => ?_)
        refine lv_istore (lv' := [(6, .int (nI (faR (hs 3) (la 3) l0))), (5, .ref (qs 3)), (0, .ref a), (1, .int (nI 3)), (2, .int (nI l0)), (3, .int i), (4, .int n0)]) hx hb dX3_square_40 hl (by decide) rfl (fun ls hl => ?_)
        refine lv_iload hx hb dX3_square_42 (lv_at hl 0 rfl) ?_
        refine x_if_ne (tgt := 55) hx hb (faR_lt _ _ _) dX3_square_44 (by decide) (fun c44 => ?_) (fun c44 => ?_)
        · skip
          refine lv_iload hx hb dX3_square_55 (lv_at hl 0 rfl) ?_
          refine x_if_ne (tgt := 74) hx hb (faR_lt _ _ _) dX3_square_57 (by decide) (fun c57 => ?_) (fun c57 => ?_)
          · skip
            refine lv_iload hx hb dX3_square_74 (lv_at hl 0 rfl) ?_
            refine x_if_eq (tgt := 86) hx hb (faR_lt _ _ _) dX3_square_76 (by decide) (fun c76 => ?_) (fun c76 => ?_)
            · skip
              exact absurd c76 c44
            · skip
              refine lv_aload_n hx hb dX3_square_79 rfl (lv_at hl 2 rfl) ?_
              refine lv_iload hx hb dX3_square_80 (lv_at hl 0 rfl) ?_
              refine rwW_i (As := [.int (nI (faR (hs 3) (la 3) l0))]) (rest := []) (wn := (a, .inr (3, [.ref r0, .ref (t 0), .ref (q 0), .int tr, .int (nI (faR (hs 3) (la 3) l0))])) :: (wSh cS cI r0 qs qr hs la le C ++ (wTd cI t x ++ wG cI q n X))) ⟨hx, hb, hml, hown, hts⟩ (kX3_failed l dC dI a r0 (t 0) (q 0) tr (nI 0) (faR (hs 3) (la 3) l0) _) (cwV 1 hts gX3_square_X3_failed rfl rfl rfl hdX3_failed ⟨Nat.le_trans (Nat.le_of_ble_eq_true rfl) hRf, Nat.le_trans (Nat.le_of_ble_eq_true rfl) hRl⟩) (va_recv hK hP (ci := 3) (q0 := 0) rfl rfl) (hK.sub [] rfl) rfl hl.1 rfl (Nat.le_of_ble_eq_true rfl) dX3_square_82 ⟨Nat.zero_le _, Nat.zero_le _⟩ hP hD hS hA [0] [1, 2, 3, 4, 5, 6, 7, 8, 9, 10, 11, 12, 13, 14, 15, 16, 17, 18, 19, 20, 21, 22] [22, 0, 1, 2, 3, 4, 5, 6, 7, 8, 9, 10, 11, 12, 13, 14, 15, 16, 17, 18, 19, 20, 21] rfl rfl (by decide) (by decide) (by decide) rfl rfl (fun H locs hP hS => ?_)
              have hD : va_D Z ((a, .inr (3, [.ref r0, .ref (t 0), .ref (q 0), .int tr, .int (nI (faR (hs 3) (la 3) l0))])) :: (wSh cS cI r0 qs qr hs la le C ++ (wTd cI t x ++ wG cI q n X))) := hD.same rfl
              exact hend _ _ _ _ _ _ (by have hz : sqN hs la le 3 l0 i n0 = (faR (hs 3) (la 3) l0) := (by rw [sqN_fa, if_neg c44]); rw [uSqC, if_pos c10, if_pos c20, hxj, hxl0, hz, if_neg c44]) (by have hz : sqN hs la le 3 l0 i n0 = (faR (hs 3) (la 3) l0) := (by rw [sqN_fa, if_neg c44]); rw [show okSq hs la le (nI 3) (nI l0) i n0 = false from by rw [okSq, c20, c10, hxj, hxl0, hz, decide_eq_false c44]; rfl, fSq, if_pos ⟨c10, c20⟩, hxj, hxl0, hz] <;> rfl) hP hS dX3_square_85
          · skip
            exact absurd c57 c44
        · skip
          refine lv_iload hx hb dX3_square_47 (lv_at hl 6 rfl) ?_
          refine lv_if_ge (tgt := 55) hx hb dX3_square_49 (by decide) (fun c49 => ?_) (fun c49 => ?_)
          · skip
            refine lv_iload hx hb dX3_square_55 (lv_at hl 0 rfl) ?_
            refine x_if_ne (tgt := 74) hx hb (faR_lt _ _ _) dX3_square_57 (by decide) (fun c57 => ?_) (fun c57 => ?_)
            · skip
              exact absurd c44 c57
            · skip
              refine lv_aload hx hb dX3_square_60 (lv_at hl 1 rfl) ?_
              refine lv_iload_n hx hb dX3_square_62 rfl (lv_at hl 5 rfl) ?_
              refine lv_iload hx hb dX3_square_63 (lv_at hl 6 rfl) ?_
              refine roV_i (As := [.int i, .int n0]) (rest := []) ⟨hx, hb, hml, hown, hts⟩ (kX1_hasSpan l dC dI cI (qs 3) (qr 3) (hs 3) (la 3) (le 3) (C 3) i n0 _ (by omega)) (cwV 2 hts gX3_square_X1_hasSpan rfl rfl rfl hdX1_hasSpan ⟨Nat.le_trans (Nat.le_of_ble_eq_true rfl) hRf, Nat.le_trans (Nat.le_of_ble_eq_true rfl) hRl⟩) (va_recv hK hP (ci := 1) (q0 := 8) rfl rfl) (hK.sub [0] rfl) (hP.sub [8, 9] rfl) rfl hl.1 rfl (Nat.le_of_ble_eq_true rfl) dX3_square_65 ⟨Nat.zero_le _, Nat.zero_le _⟩ hP hS hA (fun H locs hP hS => ?_)
              refine x_ifb_ne (tgt := 74) hx hb dX3_square_68 (by decide) (fun c68 => ?_) (fun c68 => ?_)
              · skip
                refine lv_iload hx hb dX3_square_74 (lv_at hl 0 rfl) ?_
                refine x_if_eq (tgt := 86) hx hb (faR_lt _ _ _) dX3_square_76 (by decide) (fun c76 => ?_) (fun c76 => ?_)
                · skip
                  obtain ⟨ia, na, hia, rfl, rfl⟩ := span_t (le := le 3) (by omega) c68
                  have hxia : xn (nI ia) = ia := xn_nI (by omega)
                  have hxna : xn (nI na) = na := xn_nI (by omega)
                  have hz : sqN hs la le 3 l0 (nI ia) (nI na) = 0 := by rw [sqN_fa, if_pos c44, if_neg (Int32.not_lt.mpr c49), if_pos c68]
                  obtain ⟨EE, hEE⟩ : ∃ y, va_cpy (C 3) x.2.2.2.2 ia 0 na = y := ⟨_, rfl⟩
                  refine lv_aload_n hx hb dX3_square_86 rfl (lv_at hl 2 rfl) ?_
                  refine x_get (D := (dC, dI)) (ci := 3) (v := .ref (t 0)) (C := RX3) (T := TX3) (N := 5) hx hb hts hinX3 hown hK hP 0 rfl rfl 1 (Nat.le_of_ble_eq_true rfl) hf21 rfl rfl dX3_square_87 ?_
                  refine lv_aload hx hb dX3_square_90 (lv_at hl 1 rfl) ?_
                  refine lv_iload_n hx hb dX3_square_92 rfl (lv_at hl 5 rfl) ?_
                  refine lv_iload hx hb dX3_square_93 (lv_at hl 6 rfl) ?_
                  refine rwW_i (As := [.ref (qs 3), .int (nI ia), .int (nI na)]) (rest := []) (wn := (a, .inr (3, [.ref r0, .ref (t 0), .ref (q 0), .int tr, .int (nI 0)])) :: (wSh cS cI r0 qs qr hs la le C ++ (wTd cI t (rdX EE na x.2.2.1 x.2.2.2.1 x.1.1 x.1.2) ++ wG cI q n X))) ⟨hx, hb, hml, hown, hts⟩ (kX2_read l dC dI cI t x.1.1 x.1.2 x.2.1.1 x.2.1.2.1 x.2.1.2.2.1 x.2.1.2.2.2 x.2.2.1 x.2.2.2.1 x.2.2.2.2 (qs 3) (qr 3) (hs 3) (la 3) (le 3) (C 3) EE ia na _ (by omega) hEE) (cwV 3 hts gX3_square_X2_read rfl rfl rfl hdX2_read ⟨Nat.le_trans (Nat.le_of_ble_eq_true rfl) hRf, Nat.le_trans (Nat.le_of_ble_eq_true rfl) hRl⟩) (va_recv hK hP (ci := 2) (q0 := 10) rfl rfl) (hK.sub [0] rfl) rfl hl.1 rfl (Nat.le_of_ble_eq_true rfl) dX3_square_95 ⟨Nat.zero_le _, Nat.zero_le _⟩ hP hD hS hA [10, 11, 12, 13, 8, 9] [0, 1, 2, 3, 4, 5, 6, 7, 14, 15, 16, 17, 18, 19, 20, 21, 22] [0, 1, 2, 3, 4, 5, 6, 7, 21, 22, 17, 18, 19, 20, 8, 9, 10, 11, 12, 13, 14, 15, 16] rfl rfl (by decide) (by decide) (by decide) rfl rfl (fun H locs hP hS => ?_)
                  have hD : va_D Z ((a, .inr (3, [.ref r0, .ref (t 0), .ref (q 0), .int tr, .int (nI 0)])) :: (wSh cS cI r0 qs qr hs la le C ++ (wTd cI t (rdX EE na x.2.2.1 x.2.2.2.1 x.1.1 x.1.2) ++ wG cI q n X))) := hD.same rfl
                  refine lv_istore (lv' := [(7, .int (rdV EE na x.2.2.1 x.2.2.2.1)), (6, .int (nI (faR (hs 3) (la 3) l0))), (5, .ref (qs 3)), (0, .ref a), (1, .int (nI 3)), (2, .int (nI l0)), (3, .int (nI ia)), (4, .int (nI na))]) hx hb dX3_square_98 hl (by decide) rfl (fun ls hl => ?_)
                  refine lv_iload hx hb dX3_square_100 (lv_at hl 0 rfl) ?_
                  refine lv_iconst (v := -1) hx hb dX3_square_102 rfl ?_
                  refine lv_icmp_eq (tgt := 112) hx hb dX3_square_103 (by decide) (fun c103 => ?_) (fun c103 => ?_)
                  · skip
                    obtain ⟨hv1, hv2, hv3, hv4, hv5⟩ := rdV_t c103
                    obtain ⟨d1, hd1⟩ : ∃ y, dgN EE na 1 1 6 = y := ⟨_, rfl⟩
                    obtain ⟨d2, hd2⟩ : ∃ y, dgN EE na 2 2 7 = y := ⟨_, rfl⟩
                    obtain ⟨MM, hM⟩ : ∃ y, tR EE na d2 x.2.2.1 x.2.2.2.1 (d1 * d2) = y := ⟨_, rfl⟩
                    obtain ⟨okm, ⟨pl2, be2, th2⟩, S2, D2⟩ := MM
                    have hd1l : d1 ≤ 6 := hd1 ▸ dgN_le (by decide)
                    have hd2l : d2 ≤ 7 := hd2 ▸ dgN_le (by decide)
                    have h42 : d1 * d2 ≤ 42 := Nat.mul_le_mul hd1l hd2l
                    have hly := lay_ok (E := EE) (len := na) (wi := d2) (S := x.2.2.1) (D := x.2.2.2.1) (M := d1 * d2) (D' := D2) (X := X) (by rw [hd1, hd2] at hv4; exact hv4)
                    rw [hM] at hly
                    have hP : va_P (dC, dI) vwCl ((a, .inr (3, [.ref r0, .ref (t 0), .ref (q 0), .int tr, .int (nI 0)])) :: (wSh cS cI r0 qs qr hs la le C ++ (wT cI t (nI d1) (nI d2) na pl2 be2 th2 S2 D2 EE ++ wG cI q n X))) H := by rw [rdX_t hv1 hv2 hv3, hd1, hd2, hM] at hP; exact hP
                    have hD : va_D Z ((a, .inr (3, [.ref r0, .ref (t 0), .ref (q 0), .int tr, .int (nI 0)])) :: (wSh cS cI r0 qs qr hs la le C ++ (wT cI t (nI d1) (nI d2) na pl2 be2 th2 S2 D2 EE ++ wG cI q n X))) := hD.same rfl
                    refine lv_aload_n hx hb dX3_square_112 rfl (lv_at hl 3 rfl) ?_
                    refine x_get (D := (dC, dI)) (ci := 3) (v := .ref (q 0)) (C := RX3) (T := TX3) (N := 5) hx hb hts hinX3 hown hK hP 0 rfl rfl 2 (Nat.le_of_ble_eq_true rfl) hf28 rfl rfl dX3_square_113 ?_
                    refine lv_aload_n hx hb dX3_square_116 rfl (lv_at hl 3 rfl) ?_
                    refine x_get (D := (dC, dI)) (ci := 3) (v := .ref (t 0)) (C := RX3) (T := TX3) (N := 5) hx hb hts hinX3 hown hK hP 0 rfl rfl 1 (Nat.le_of_ble_eq_true rfl) hf21 rfl rfl dX3_square_117 ?_
                    refine rwW_v (As := [.ref (t 0)]) (rest := []) (wn := (a, .inr (3, [.ref r0, .ref (t 0), .ref (q 0), .int tr, .int (nI 0)])) :: (wSh cS cI r0 qs qr hs la le C ++ (wT cI t (nI d1) (nI d2) na pl2 be2 th2 S2 D2 EE ++ wG cI q (nNew d1 d2 (lR (kAt EE na d2 x.2.2.1 x.2.2.2.1) D2 d2 X (d1 * d2)).1.1 (lR (kAt EE na d2 x.2.2.1 x.2.2.2.1) D2 d2 X (d1 * d2)).1.2) ((lR (kAt EE na d2 x.2.2.1 x.2.2.2.1) D2 d2 X (d1 * d2)).2)))) ⟨hx, hb, hml, hown, hts⟩ (kX0_layOut l dC dI cI q n X t d1 d2 na pl2 be2 th2 S2 D2 EE (kAt EE na d2 x.2.2.1 x.2.2.2.1) _ h42 hd1l hd2l hly.1 hly.2) (cwV 1 hts gX3_square_X0_layOut rfl rfl rfl hdX0_layOut ⟨Nat.le_trans (Nat.le_of_ble_eq_true rfl) hRf, Nat.le_trans (Nat.le_of_ble_eq_true rfl) hRl⟩) (va_recv hK hP (ci := 0) (q0 := 14) rfl rfl) (hK.sub [0] rfl) rfl hl.1 rfl (Nat.le_of_ble_eq_true rfl) dX3_square_120 ⟨Nat.zero_le _, Nat.zero_le _⟩ hP hD hS hA [14, 15, 16, 17, 18, 19, 20, 21, 22, 10, 11, 12, 13] [0, 1, 2, 3, 4, 5, 6, 7, 8, 9] [0, 1, 2, 3, 4, 5, 6, 7, 8, 9, 19, 20, 21, 22, 10, 11, 12, 13, 14, 15, 16, 17, 18] rfl rfl (by decide) (by decide) (by decide) rfl rfl (fun H locs hP hS => ?_)
                    have hD : va_D Z ((a, .inr (3, [.ref r0, .ref (t 0), .ref (q 0), .int tr, .int (nI 0)])) :: (wSh cS cI r0 qs qr hs la le C ++ (wT cI t (nI d1) (nI d2) na pl2 be2 th2 S2 D2 EE ++ wG cI q (nNew d1 d2 (lR (kAt EE na d2 x.2.2.1 x.2.2.2.1) D2 d2 X (d1 * d2)).1.1 (lR (kAt EE na d2 x.2.2.1 x.2.2.2.1) D2 d2 X (d1 * d2)).1.2) ((lR (kAt EE na d2 x.2.2.1 x.2.2.2.1) D2 d2 X (d1 * d2)).2)))) := hD.same rfl
                    refine lv_aload_n hx hb dX3_square_123 rfl (lv_at hl 3 rfl) ?_
                    refine x_get (D := (dC, dI)) (ci := 3) (v := .ref (q 0)) (C := RX3) (T := TX3) (N := 5) hx hb hts hinX3 hown hK hP 0 rfl rfl 2 (Nat.le_of_ble_eq_true rfl) hf28 rfl rfl dX3_square_124 ?_
                    refine x_get (D := (dC, dI)) (ci := 0) (v := .int (nI (d1 * d2))) (C := RX0) (T := TX0) (N := 17) hx hb hts hinX0 hown hK hP 14 rfl rfl 1 (Nat.le_of_ble_eq_true rfl) hf61 rfl rfl dX3_square_127 ?_
                    exact hend _ _ _ _ _ _ (by rw [uSqC, if_pos c10, if_pos c20, hxj, hxl0, if_pos hz, hxna, hxia, hEE, if_pos c103, hd1, hd2]) (by rw [show okSq hs la le (nI 3) (nI l0) (nI ia) (nI na) = true from by rw [okSq, c20, c10, hxj, hxl0, hz]; rfl, fSq, if_pos ⟨c10, c20⟩, hxj, hxl0, hz, hxna, hxia, hEE, nSqC, xSqC, rSqC, if_pos (⟨rfl, c103⟩ : true = true ∧ rdV EE na x.2.2.1 x.2.2.2.1 = -1), if_pos (⟨rfl, c103⟩ : true = true ∧ rdV EE na x.2.2.1 x.2.2.2.1 = -1), if_pos (rfl : true = true), rdX_t hv1 hv2 hv3, lSqC, hd1, hd2, hM] <;> rfl) hP hS dX3_square_130
                  · skip
                    refine lv_bipush (v := -100) hx hb dX3_square_106 rfl ?_
                    refine lv_iload hx hb dX3_square_108 (lv_at hl 0 rfl) ?_
                    refine lv_isub hx hb dX3_square_110 ?_
                    exact hend _ _ _ _ _ _ (by rw [uSqC, if_pos c10, if_pos c20, hxj, hxl0, if_pos hz, hxna, hxia, hEE, if_neg c103]) (by rw [show okSq hs la le (nI 3) (nI l0) (nI ia) (nI na) = true from by rw [okSq, c20, c10, hxj, hxl0, hz]; rfl, fSq, if_pos ⟨c10, c20⟩, hxj, hxl0, hz, hxna, hxia, hEE, nSqC, xSqC, rSqC, if_neg (fun (q : true = true ∧ rdV EE na x.2.2.1 x.2.2.2.1 = -1) => c103 q.2), if_neg (fun (q : true = true ∧ rdV EE na x.2.2.1 x.2.2.2.1 = -1) => c103 q.2), if_pos (rfl : true = true)] <;> rfl) hP hS dX3_square_111
                · skip
                  exact absurd c44 c76
              · skip
                refine lv_iconst (v := nI 3) hx hb dX3_square_71 rfl ?_
                refine lv_istore (lv' := [(6, .int (nI 3)), (5, .ref (qs 3)), (0, .ref a), (1, .int (nI 3)), (2, .int (nI l0)), (3, .int i), (4, .int n0)]) hx hb dX3_square_72 hl (by decide) rfl (fun ls hl => ?_)
                refine lv_iload hx hb dX3_square_74 (lv_at hl 0 rfl) ?_
                refine x_if_eq (tgt := 86) hx hb (by omega) dX3_square_76 (by decide) (fun c76 => absurd c76 (by decide)) (fun c76 => ?_)
                refine lv_aload_n hx hb dX3_square_79 rfl (lv_at hl 2 rfl) ?_
                refine lv_iload hx hb dX3_square_80 (lv_at hl 0 rfl) ?_
                refine rwW_i (As := [.int (nI 3)]) (rest := []) (wn := (a, .inr (3, [.ref r0, .ref (t 0), .ref (q 0), .int tr, .int (nI 3)])) :: (wSh cS cI r0 qs qr hs la le C ++ (wTd cI t x ++ wG cI q n X))) ⟨hx, hb, hml, hown, hts⟩ (kX3_failed l dC dI a r0 (t 0) (q 0) tr (nI 0) 3 _) (cwV 1 hts gX3_square_X3_failed rfl rfl rfl hdX3_failed ⟨Nat.le_trans (Nat.le_of_ble_eq_true rfl) hRf, Nat.le_trans (Nat.le_of_ble_eq_true rfl) hRl⟩) (va_recv hK hP (ci := 3) (q0 := 0) rfl rfl) (hK.sub [] rfl) rfl hl.1 rfl (Nat.le_of_ble_eq_true rfl) dX3_square_82 ⟨Nat.zero_le _, Nat.zero_le _⟩ hP hD hS hA [0] [1, 2, 3, 4, 5, 6, 7, 8, 9, 10, 11, 12, 13, 14, 15, 16, 17, 18, 19, 20, 21, 22] [22, 0, 1, 2, 3, 4, 5, 6, 7, 8, 9, 10, 11, 12, 13, 14, 15, 16, 17, 18, 19, 20, 21] rfl rfl (by decide) (by decide) (by decide) rfl rfl (fun H locs hP hS => ?_)
                have hD : va_D Z ((a, .inr (3, [.ref r0, .ref (t 0), .ref (q 0), .int tr, .int (nI 3)])) :: (wSh cS cI r0 qs qr hs la le C ++ (wTd cI t x ++ wG cI q n X))) := hD.same rfl
                exact hend _ _ _ _ _ _ (by have hz : sqN hs la le 3 l0 i n0 = 3 := (by rw [sqN_fa, if_pos c44, if_neg (Int32.not_lt.mpr c49), if_neg (by rw [c68]; decide)]); rw [uSqC, if_pos c10, if_pos c20, hxj, hxl0, hz, if_neg (by decide)]) (by have hz : sqN hs la le 3 l0 i n0 = 3 := (by rw [sqN_fa, if_pos c44, if_neg (Int32.not_lt.mpr c49), if_neg (by rw [c68]; decide)]); rw [show okSq hs la le (nI 3) (nI l0) i n0 = false from by rw [okSq, c20, c10, hxj, hxl0, hz, decide_eq_false (by decide)]; rfl, fSq, if_pos ⟨c10, c20⟩, hxj, hxl0, hz] <;> rfl) hP hS dX3_square_85
          · skip
            refine lv_iconst (v := nI 4) hx hb dX3_square_52 rfl ?_
            refine lv_istore (lv' := [(6, .int (nI 4)), (5, .ref (qs 3)), (0, .ref a), (1, .int (nI 3)), (2, .int (nI l0)), (3, .int i), (4, .int n0)]) hx hb dX3_square_53 hl (by decide) rfl (fun ls hl => ?_)
            refine lv_iload hx hb dX3_square_55 (lv_at hl 0 rfl) ?_
            refine x_if_ne (tgt := 74) hx hb (by omega) dX3_square_57 (by decide) (fun c57 => ?_) (fun c57 => absurd c57 (by decide))
            refine lv_iload hx hb dX3_square_74 (lv_at hl 0 rfl) ?_
            refine x_if_eq (tgt := 86) hx hb (by omega) dX3_square_76 (by decide) (fun c76 => absurd c76 (by decide)) (fun c76 => ?_)
            refine lv_aload_n hx hb dX3_square_79 rfl (lv_at hl 2 rfl) ?_
            refine lv_iload hx hb dX3_square_80 (lv_at hl 0 rfl) ?_
            refine rwW_i (As := [.int (nI 4)]) (rest := []) (wn := (a, .inr (3, [.ref r0, .ref (t 0), .ref (q 0), .int tr, .int (nI 4)])) :: (wSh cS cI r0 qs qr hs la le C ++ (wTd cI t x ++ wG cI q n X))) ⟨hx, hb, hml, hown, hts⟩ (kX3_failed l dC dI a r0 (t 0) (q 0) tr (nI 0) 4 _) (cwV 1 hts gX3_square_X3_failed rfl rfl rfl hdX3_failed ⟨Nat.le_trans (Nat.le_of_ble_eq_true rfl) hRf, Nat.le_trans (Nat.le_of_ble_eq_true rfl) hRl⟩) (va_recv hK hP (ci := 3) (q0 := 0) rfl rfl) (hK.sub [] rfl) rfl hl.1 rfl (Nat.le_of_ble_eq_true rfl) dX3_square_82 ⟨Nat.zero_le _, Nat.zero_le _⟩ hP hD hS hA [0] [1, 2, 3, 4, 5, 6, 7, 8, 9, 10, 11, 12, 13, 14, 15, 16, 17, 18, 19, 20, 21, 22] [22, 0, 1, 2, 3, 4, 5, 6, 7, 8, 9, 10, 11, 12, 13, 14, 15, 16, 17, 18, 19, 20, 21] rfl rfl (by decide) (by decide) (by decide) rfl rfl (fun H locs hP hS => ?_)
            have hD : va_D Z ((a, .inr (3, [.ref r0, .ref (t 0), .ref (q 0), .int tr, .int (nI 4)])) :: (wSh cS cI r0 qs qr hs la le C ++ (wTd cI t x ++ wG cI q n X))) := hD.same rfl
            exact hend _ _ _ _ _ _ (by have hz : sqN hs la le 3 l0 i n0 = 4 := (by rw [sqN_fa, if_pos c44, if_pos (Int32.not_le.mp c49)]); rw [uSqC, if_pos c10, if_pos c20, hxj, hxl0, hz, if_neg (by decide)]) (by have hz : sqN hs la le 3 l0 i n0 = 4 := (by rw [sqN_fa, if_pos c44, if_pos (Int32.not_le.mp c49)]); rw [show okSq hs la le (nI 3) (nI l0) i n0 = false from by rw [okSq, c20, c10, hxj, hxl0, hz, decide_eq_false (by decide)]; rfl, fSq, if_pos ⟨c10, c20⟩, hxj, hxl0, hz] <;> rfl) hP hS dX3_square_85
    · skip
      refine lv_bipush (v := -2) hx hb dX3_square_23 rfl ?_
      exact hend _ _ _ _ _ _ (by rw [uSqC, if_pos c10, if_neg (by rw [c20]; decide)]) (by rw [show okSq hs la le (nI j) lane i n0 = false from by rw [okSq, c20, c10]; rfl, fSq, if_neg (fun q => absurd q.2 (by rw [c20]; decide))] <;> rfl) hP hS dX3_square_25
  · skip
    refine lv_iconst (v := -1) hx hb dX3_square_13 rfl ?_
    exact hend _ _ _ _ _ _ (by rw [uSqC, if_neg (by rw [c10]; decide)]) (by rw [show okSq hs la le k lane i n0 = false from by rw [okSq, c10]; rfl, fSq, if_neg (fun q => absurd q.1 (by rw [c10]; decide))] <;> rfl) hP hS dX3_square_14
