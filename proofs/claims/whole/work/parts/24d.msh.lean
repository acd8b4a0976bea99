theorem hdX4_isBeyond : yX4_isBeyond.cls ≠ "java/lang/invoke/MethodHandle" ∧ yX4_isBeyond.cls ≠ "java/lang/invoke/VarHandle" ∧ (parseMethodDescriptor yX4_isBeyond.desc).map (fun d => d.parameters.length) = some 3 := by decide +kernel
set_option maxRecDepth 20000 in
theorem ggX4_copy_X4_noSheet : GoodIn wsX4_copy wsX4_noSheet := goodIn_r _ [8, 9, 10, 11, 7, 12] (by decide +kernel) (by decide +kernel)
set_option maxRecDepth 20000 in
theorem gX4_copy_X4_noSheet : GoodIn wsX4_copy (va_wsS RX4 119 yX4_noSheet wsX4_noSheet) := goodIn_app (goodIn_of _ (by decide +kernel)) ggX4_copy_X4_noSheet
set_option maxRecDepth 20000 in
theorem ggX4_copy_X4_refused : GoodIn wsX4_copy wsX4_refused := goodIn_r _ [16, 17, 25, 26, 27, 28, 29, 30, 31, 32, 33, 34, 35, 36, 37, 38, 39, 40, 41, 42, 43, 44, 45, 46, 47, 48, 49, 50, 51, 52, 53, 54, 55] (by decide +kernel) (by decide +kernel)
set_option maxRecDepth 20000 in
theorem gX4_copy_X4_refused : GoodIn wsX4_copy (wsV RX4 123 RX4 yX4_refused wsX4_refused) := goodIn_app (goodIn_of _ (by decide +kernel)) ggX4_copy_X4_refused
set_option maxRecDepth 20000 in
theorem ggX4_copy_X4_failed : GoodIn wsX4_copy wsX4_failed := goodIn_r _ [21, 17, 25, 26, 27, 28, 29, 30, 31, 32, 33, 34, 35, 36, 37, 38, 39, 40, 41, 42, 43, 44, 45, 46, 47, 48, 49, 50, 51, 52, 53, 54, 55] (by decide +kernel) (by decide +kernel)
set_option maxRecDepth 20000 in
theorem gX4_copy_X4_failed : GoodIn wsX4_copy (wsV RX4 129 RX4 yX4_failed wsX4_failed) := goodIn_app (goodIn_of _ (by decide +kernel)) ggX4_copy_X4_failed
set_option maxRecDepth 20000 in
theorem ggX4_copy_X4_isBeyond : GoodIn wsX4_copy wsX4_isBeyond := goodIn_r _ [24] (by decide +kernel) (by decide +kernel)
set_option maxRecDepth 20000 in
theorem gX4_copy_X4_isBeyond : GoodIn wsX4_copy (va_wsS RX4 132 yX4_isBeyond wsX4_isBeyond) := goodIn_app (goodIn_of _ (by decide +kernel)) ggX4_copy_X4_isBeyond
set_option maxHeartbeats 4000000 in
set_option maxRecDepth 100000 in
theorem kX4_copy (l : Launch) (dC : Nat → ClassId) (dI : Nat → Nat → Nat) (cI cZ : ClassId) (q n : Nat → Nat) (mb : Int32) (f : Nat → Int32) (Y : Nat → Nat → Int32) (hs : Nat → Bool) (la le : Nat → Nat) (C : Nat → Nat → Int32) (hRS : RS hs la le C Y) (k : Int32) (i : Int32) (o : Int32) (d : Int32) (n0 : Int32) (sz : Nat) : Met l yX4_copy wsX4_copy ({ frames := 2, cells := 0, slots := 0, locals := 45 }) (rwP [.ref (q 0), .int k, .int i, .int o, .int d, .int n0] sz (dC, dI) [(cI, .int), (cZ, .boolean)] (wM cI cZ q n mb f Y)) (rwQi (uCopy hs la le k i o d n0) (dC, dI) (wM cI cZ q n mb f Y) (wM cI cZ q n mb (uF f 0 (fCopy hs la le k i o d n0)) (if okCopy hs la le k i o d n0 = true then uY (uY Y 15 (va_cpy (Y 14) (Y 15) (100 * xn k + xn i) 0 (xn n0))) 14 (va_cpy (va_cpy (Y 14) (Y 15) (100 * xn k + xn i) 0 (xn n0)) (Y 14) 0 (100 * xn o + xn d) (xn n0)) else Y)) sz) 0 0 (va_A (wM cI cZ q n mb f Y) sz) := by
  refine rw_met_i (by decide) rfl (Nat.le_of_ble_eq_true rfl) ?_
  intro pp ee ss mm aa bb me cd RR QQ Z hx hb hml hown hts hRf hRl hP hK hD hA hS hend ls hl
  have hown : ss.vm.findClass RX4 = some mm.cls := hown
  have hRf : 2 ≤ RR.frames := hRf
  have hRl : 45 ≤ RR.locals := hRl
  have hl : lv_has ls 7 [(0, .ref (q 0)), (1, .int k), (2, .int i), (3, .int o), (4, .int d), (5, .int n0)] := hl
  have hf51 := hts (.fieldLink RX4 51 "StatueSquareModel" "sheetSize" "[I") (List.mem_of_getElem? (i := 1) rfl)
  have hinX4 : ∀ w ∈ u_ws RX4 TX4 31, w ∈ wsX4_copy := fun _ h => List.mem_cons_of_mem _ (List.mem_append_right _ h)
  have hf54 := hts (.fieldLink RX4 54 "StatueSquareModel" "sheetLane" "[I") (List.mem_of_getElem? (i := 2) rfl)
  have hf57 := hts (.fieldLink RX4 57 "StatueSquareModel" "sheet" "[I") (List.mem_of_getElem? (i := 4) rfl)
  have hf60 := hts (.fieldLink RX4 60 "StatueSquareModel" "hands" "[I") (List.mem_of_getElem? (i := 3) rfl)
  refine lv_iload_n hx hb dX4_copy_0 rfl (lv_at hl 1 rfl) ?_
  refine roS_i (As := [.int k]) (rest := []) ⟨hx, hb, hml, hown, hts⟩ (kX4_noSheet l dC dI k _ ) (va_cwS 1 hts gX4_copy_X4_noSheet rfl rfl rfl hdX4_noSheet ⟨Nat.le_trans (Nat.le_of_ble_eq_true rfl) hRf, Nat.le_trans (Nat.le_of_ble_eq_true rfl) hRl⟩) (hK.sub [] rfl) (hP.sub [] rfl) rfl hl.1 rfl (Nat.le_of_ble_eq_true rfl) dX4_copy_1 ⟨Nat.zero_le _, Nat.zero_le _⟩ hP hS hA (fun H locs hP hS => ?_)
  refine x_ifb_ne (tgt := 14) hx hb dX4_copy_4 (by decide) (fun c4 => ?_) (fun c4 => ?_)
  · skip
    have c4 : inB k 4 = false := by simpa using c4
    refine lv_aload_n hx hb dX4_copy_14 rfl (lv_at hl 0 rfl) ?_
    refine lv_iconst (v := -1) hx hb dX4_copy_15 rfl ?_
    refine rwW_i (As := [.int (-1)]) (rest := []) (wn := wM cI cZ q n mb (uF f 0 0) Y) ⟨hx, hb, hml, hown, hts⟩ (kX4_refused l dC dI cI cZ q n mb f Y (-1) _) (cwV 1 hts gX4_copy_X4_refused rfl rfl rfl hdX4_refused ⟨Nat.le_trans (Nat.le_of_ble_eq_true rfl) hRf, Nat.le_trans (Nat.le_of_ble_eq_true rfl) hRl⟩) (va_recv hK hP (ci := 4) (q0 := 0) rfl rfl) hK rfl hl.1 rfl (Nat.le_of_ble_eq_true rfl) dX4_copy_16 ⟨Nat.zero_le _, Nat.zero_le _⟩ hP hD hS hA [0, 1, 2, 3, 4, 5, 6, 7, 8, 9, 10, 11, 12, 13, 14, 15, 16] [] [0, 1, 2, 3, 4, 5, 6, 7, 8, 9, 10, 11, 12, 13, 14, 15, 16] rfl rfl (by decide) (by decide) (by decide) rfl rfl (fun H locs hP hS => ?_)
    have hD : va_D Z (wM cI cZ q n mb (uF f 0 0) Y) := hD.same rfl
    exact hend _ _ _ _ _ _ (by rw [uCopy, if_neg (fun q => absurd q.1 (by rw [c4]; decide))] <;> rfl) (by rw [show okCopy hs la le k i o d n0 = false from by simp [okCopy, c4], fCopy, if_neg (fun q => absurd q.1 (by rw [c4]; decide)), if_neg Bool.false_ne_true] <;> rfl) hP hS dX4_copy_19
  · skip
    have c4 : inB k 4 = true := by simpa using c4
    obtain ⟨j, hj, rfl⟩ := inB_t (by omega) c4
    have hxj : xn (nI j) = j := xn_nI (by omega)
    have hBj := (hRS j hj).2.2.2
    refine lv_iload_n hx hb dX4_copy_7 rfl (lv_at hl 3 rfl) ?_
    refine roS_i (As := [.int o]) (rest := []) ⟨hx, hb, hml, hown, hts⟩ (kX4_noSheet l dC dI o _ ) (va_cwS 1 hts gX4_copy_X4_noSheet rfl rfl rfl hdX4_noSheet ⟨Nat.le_trans (Nat.le_of_ble_eq_true rfl) hRf, Nat.le_trans (Nat.le_of_ble_eq_true rfl) hRl⟩) (hK.sub [] rfl) (hP.sub [] rfl) rfl hl.1 rfl (Nat.le_of_ble_eq_true rfl) dX4_copy_8 ⟨Nat.zero_le _, Nat.zero_le _⟩ hP hS hA (fun H locs hP hS => ?_)
    refine x_ifb_eq (tgt := 20) hx hb dX4_copy_11 (by decide) (fun c11 => ?_) (fun c11 => ?_)
    · skip
      have c11 : inB o 4 = true := by simpa using c11
      obtain ⟨jo, hjo, rfl⟩ := inB_t (by omega) c11
      have hxjo : xn (nI jo) = jo := xn_nI (by omega)
      have hBjo := (hRS jo hjo).2.2.2
      refine lv_aload_n hx hb dX4_copy_20 rfl (lv_at hl 0 rfl) ?_
      refine x_get (D := (dC, dI)) (ci := 4) (v := .ref (q 13)) (C := RX4) (T := TX4) (N := 31) hx hb hts hinX4 hown hK hP 0 rfl rfl 26 (Nat.le_of_ble_eq_true rfl) hf51 rfl rfl dX4_copy_21 ?_
      refine lv_iload_n hx hb dX4_copy_24 rfl (lv_at hl 1 rfl) ?_
      refine x_iald (v := (szI (hs j) (le j))) hx hb hK hP 13 0 rfl rfl (by omega) (by decide) (hRS _ (by omega)).1 dX4_copy_25 ?_
      refine lv_if_lt (tgt := 38) hx hb dX4_copy_26 (by decide) (fun c26 => ?_) (fun c26 => ?_)
      · skip
        have hh := szI_lt (by omega) c26
        refine lv_aload_n hx hb dX4_copy_38 rfl (lv_at hl 0 rfl) ?_
        refine lv_iconst (v := nI 1) hx hb dX4_copy_39 rfl ?_
        refine rwW_i (As := [.int (nI 1)]) (rest := []) (wn := wM cI cZ q n mb (uF f 0 (nI 1)) Y) ⟨hx, hb, hml, hown, hts⟩ (kX4_failed l dC dI cI cZ q n mb f Y 1 _) (cwV 1 hts gX4_copy_X4_failed rfl rfl rfl hdX4_failed ⟨Nat.le_trans (Nat.le_of_ble_eq_true rfl) hRf, Nat.le_trans (Nat.le_of_ble_eq_true rfl) hRl⟩) (va_recv hK hP (ci := 4) (q0 := 0) rfl rfl) hK rfl hl.1 rfl (Nat.le_of_ble_eq_true rfl) dX4_copy_40 ⟨Nat.zero_le _, Nat.zero_le _⟩ hP hD hS hA [0, 1, 2, 3, 4, 5, 6, 7, 8, 9, 10, 11, 12, 13, 14, 15, 16] [] [0, 1, 2, 3, 4, 5, 6, 7, 8, 9, 10, 11, 12, 13, 14, 15, 16] rfl rfl (by decide) (by decide) (by decide) rfl rfl (fun H locs hP hS => ?_)
        have hD : va_D Z (wM cI cZ q n mb (uF f 0 (nI 1)) Y) := hD.same rfl
        exact hend _ _ _ _ _ _ (by rw [uCopy, if_pos ⟨c4, c11⟩, hxj, hxjo, if_neg (fun q => absurd q.1 (by rw [hh]; decide))] <;> rfl) (by rw [show okCopy hs la le (nI j) i (nI jo) d n0 = false from by simp [okCopy, hxj, hxjo, hh], fCopy, if_pos ⟨c4, c11⟩, hxj, hxjo, if_neg (fun q => absurd q.1 (by rw [hh]; decide)), if_neg Bool.false_ne_true] <;> rfl) hP hS dX4_copy_43
      · skip
        have hh := szI_nlt c26
        refine lv_aload_n hx hb dX4_copy_29 rfl (lv_at hl 0 rfl) ?_
        refine x_get (D := (dC, dI)) (ci := 4) (v := .ref (q 13)) (C := RX4) (T := TX4) (N := 31) hx hb hts hinX4 hown hK hP 0 rfl rfl 26 (Nat.le_of_ble_eq_true rfl) hf51 rfl rfl dX4_copy_30 ?_
        refine lv_iload_n hx hb dX4_copy_33 rfl (lv_at hl 3 rfl) ?_
        refine x_iald (v := (szI (hs jo) (le jo))) hx hb hK hP 13 0 rfl rfl (by omega) (by decide) (hRS _ (by omega)).1 dX4_copy_34 ?_
        refine lv_if_ge (tgt := 44) hx hb dX4_copy_35 (by decide) (fun c35 => ?_) (fun c35 => ?_)
        · skip
          have hho := szI_ge c35
          refine lv_aload_n hx hb dX4_copy_44 rfl (lv_at hl 0 rfl) ?_
          refine x_get (D := (dC, dI)) (ci := 4) (v := .ref (q 14)) (C := RX4) (T := TX4) (N := 31) hx hb hts hinX4 hown hK hP 0 rfl rfl 27 (Nat.le_of_ble_eq_true rfl) hf54 rfl rfl dX4_copy_45 ?_
          refine lv_iload_n hx hb dX4_copy_48 rfl (lv_at hl 1 rfl) ?_
          refine x_iald (v := (nI (la j))) hx hb hK hP 14 0 rfl rfl (by omega) (by decide) ((hRS j hj).2.1 hh) dX4_copy_49 ?_
          refine lv_aload_n hx hb dX4_copy_50 rfl (lv_at hl 0 rfl) ?_
          refine x_get (D := (dC, dI)) (ci := 4) (v := .ref (q 14)) (C := RX4) (T := TX4) (N := 31) hx hb hts hinX4 hown hK hP 0 rfl rfl 27 (Nat.le_of_ble_eq_true rfl) hf54 rfl rfl dX4_copy_51 ?_
          refine lv_iload_n hx hb dX4_copy_54 rfl (lv_at hl 3 rfl) ?_
          refine x_iald (v := (nI (la jo))) hx hb hK hP 14 0 rfl rfl (by omega) (by decide) ((hRS jo hjo).2.1 hho) dX4_copy_55 ?_
          refine x_icmp_eq (tgt := 65) hx hb (by omega) (by omega) dX4_copy_56 (by decide) (fun c56 => ?_) (fun c56 => ?_)
          · skip
            refine lv_iload_n hx hb dX4_copy_65 rfl (lv_at hl 2 rfl) ?_
            refine lv_iload hx hb dX4_copy_66 (lv_at hl 5 rfl) ?_
            refine lv_i2l hx hb dX4_copy_68 rfl ?_
            refine lv_aload_n hx hb dX4_copy_69 rfl (lv_at hl 0 rfl) ?_
            refine x_get (D := (dC, dI)) (ci := 4) (v := .ref (q 13)) (C := RX4) (T := TX4) (N := 31) hx hb hts hinX4 hown hK hP 0 rfl rfl 26 (Nat.le_of_ble_eq_true rfl) hf51 rfl rfl dX4_copy_70 ?_
            refine lv_iload_n hx hb dX4_copy_73 rfl (lv_at hl 1 rfl) ?_
            refine x_iald (v := (szI (hs j) (le j))) hx hb hK hP 13 0 rfl rfl (by omega) (by decide) (hRS _ (by omega)).1 dX4_copy_74 ?_
            refine x_top (y := (nI (le j))) (szI_t hh) ?_
            refine roS_i (As := [.int i, .long n0.toInt64, .int (nI (le j))]) (rest := []) ⟨hx, hb, hml, hown, hts⟩ (kX4_isBeyond l dC dI i n0.toInt64 (le j) _ ) (va_cwS 3 hts gX4_copy_X4_isBeyond rfl rfl rfl hdX4_isBeyond ⟨Nat.le_trans (Nat.le_of_ble_eq_true rfl) hRf, Nat.le_trans (Nat.le_of_ble_eq_true rfl) hRl⟩) (hK.sub [] rfl) (hP.sub [] rfl) rfl hl.1 rfl (Nat.le_of_ble_eq_true rfl) dX4_copy_75 ⟨Nat.zero_le _, Nat.zero_le _⟩ hP hS hA (fun H locs hP hS => ?_)
            refine x_top (y := bI (!spanB i n0 (le j))) (by rw [bey (by omega)]) ?_
            refine x_ifb_ne (tgt := 98) hx hb dX4_copy_78 (by decide) (fun c78 => ?_) (fun c78 => ?_)
            · skip
              have hs1 : spanB i n0 (le j) = false := by simpa using c78
              refine lv_aload_n hx hb dX4_copy_98 rfl (lv_at hl 0 rfl) ?_
              refine lv_iconst (v := nI 3) hx hb dX4_copy_99 rfl ?_
              refine rwW_i (As := [.int (nI 3)]) (rest := []) (wn := wM cI cZ q n mb (uF f 0 (nI 3)) Y) ⟨hx, hb, hml, hown, hts⟩ (kX4_failed l dC dI cI cZ q n mb f Y 3 _) (cwV 1 hts gX4_copy_X4_failed rfl rfl rfl hdX4_failed ⟨Nat.le_trans (Nat.le_of_ble_eq_true rfl) hRf, Nat.le_trans (Nat.le_of_ble_eq_true rfl) hRl⟩) (va_recv hK hP (ci := 4) (q0 := 0) rfl rfl) hK rfl hl.1 rfl (Nat.le_of_ble_eq_true rfl) dX4_copy_100 ⟨Nat.zero_le _, Nat.zero_le _⟩ hP hD hS hA [0, 1, 2, 3, 4, 5, 6, 7, 8, 9, 10, 11, 12, 13, 14, 15, 16] [] [0, 1, 2, 3, 4, 5, 6, 7, 8, 9, 10, 11, 12, 13, 14, 15, 16] rfl rfl (by decide) (by decide) (by decide) rfl rfl (fun H locs hP hS => ?_)
              have hD : va_D Z (wM cI cZ q n mb (uF f 0 (nI 3)) Y) := hD.same rfl
              exact hend _ _ _ _ _ _ (by rw [uCopy, if_pos ⟨c4, c11⟩, hxj, hxjo, if_pos ⟨hh, hho⟩, if_pos c56, if_neg (fun q => absurd q.1 (by rw [hs1]; decide))] <;> rfl) (by rw [show okCopy hs la le (nI j) i (nI jo) d n0 = false from by simp [okCopy, hxj, hxjo, hs1], fCopy, if_pos ⟨c4, c11⟩, hxj, hxjo, if_pos ⟨hh, hho⟩, if_pos c56, if_neg (fun q => absurd q.1 (by rw [hs1]; decide)), if_neg Bool.false_ne_true] <;> rfl) hP hS dX4_copy_103
            · skip
              refine lv_iload hx hb dX4_copy_81 (lv_at hl 4 rfl) ?_
              refine lv_iload hx hb dX4_copy_83 (lv_at hl 5 rfl) ?_
              refine lv_i2l hx hb dX4_copy_85 rfl ?_
              refine lv_aload_n hx hb dX4_copy_86 rfl (lv_at hl 0 rfl) ?_
              refine x_get (D := (dC, dI)) (ci := 4) (v := .ref (q 13)) (C := RX4) (T := TX4) (N := 31) hx hb hts hinX4 hown hK hP 0 rfl rfl 26 (Nat.le_of_ble_eq_true rfl) hf51 rfl rfl dX4_copy_87 ?_
              refine lv_iload_n hx hb dX4_copy_90 rfl (lv_at hl 3 rfl) ?_
              refine x_iald (v := (szI (hs jo) (le jo))) hx hb hK hP 13 0 rfl rfl (by omega) (by decide) (hRS _ (by omega)).1 dX4_copy_91 ?_
              refine x_top (y := (nI (le jo))) (szI_t hho) ?_
              refine roS_i (As := [.int d, .long n0.toInt64, .int (nI (le jo))]) (rest := []) ⟨hx, hb, hml, hown, hts⟩ (kX4_isBeyond l dC dI d n0.toInt64 (le jo) _ ) (va_cwS 3 hts gX4_copy_X4_isBeyond rfl rfl rfl hdX4_isBeyond ⟨Nat.le_trans (Nat.le_of_ble_eq_true rfl) hRf, Nat.le_trans (Nat.le_of_ble_eq_true rfl) hRl⟩) (hK.sub [] rfl) (hP.sub [] rfl) rfl hl.1 rfl (Nat.le_of_ble_eq_true rfl) dX4_copy_92 ⟨Nat.zero_le _, Nat.zero_le _⟩ hP hS hA (fun H locs hP hS => ?_)
              refine x_top (y := bI (!spanB d n0 (le jo))) (by rw [bey (by omega)]) ?_
              refine x_ifb_eq (tgt := 104) hx hb dX4_copy_95 (by decide) (fun c95 => ?_) (fun c95 => ?_)
              · skip
                have c78 : spanB i n0 (le j) = true := by simpa using c78
                have c95 : spanB d n0 (le jo) = true := by simpa using c95
                obtain ⟨ia, na, hia, rfl, rfl⟩ := span_t (le := le j) (by omega) c78
                obtain ⟨da, nb, hda, rfl, hnb⟩ := span_t (le := le jo) (by omega) c95
                have hnn : na = nb := (nI_eq (by omega) (by omega)).mp hnb
                subst hnn
                have hxia : xn (nI ia) = ia := xn_nI (by omega)
                have hxda : xn (nI da) = da := xn_nI (by omega)
                have hxna : xn (nI na) = na := xn_nI (by omega)
                have hYe : Y = uY Y 15 (va_cpy (Y 14) (Y 15) (100 * j + ia) 0 0) := by rw [cpy_0]; exact (uY_self _ 15 rfl).symm
                have hP : va_P (dC, dI) vwCl (wM cI cZ q n mb f (uY Y 15 (va_cpy (Y 14) (Y 15) (100 * j + ia) 0 0))) H := hYe ▸ hP
                have hD : va_D Z (wM cI cZ q n mb f (uY Y 15 (va_cpy (Y 14) (Y 15) (100 * j + ia) 0 0))) := hD.same rfl
                refine lv_iconst (v := nI 0) hx hb dX4_copy_104 rfl ?_
                refine lv_istore (lv' := [(6, .int (nI 0)), (0, .ref (q 0)), (1, .int (nI j)), (2, .int (nI ia)), (3, .int (nI jo)), (4, .int (nI da)), (5, .int (nI na))]) hx hb dX4_copy_105 hl (by decide) rfl (fun ls hl => ?_)
                have L107 : ∀ (fuel : Nat) (k0 : Nat) (hk : k0 ≤ na) (hfu : na - k0 < fuel) (H : Heap) (locs : List Loc), va_P (dC, dI) vwCl (wM cI cZ q n mb f (uY Y 15 (va_cpy (Y 14) (Y 15) (100 * j + ia) 0 k0))) H → va_S Z ss.heap H locs → ∀ (ls : Array Slot), lv_has ls 7 [(0, .ref (q 0)), (1, .int (nI j)), (2, .int (nI ia)), (3, .int (nI jo)), (4, .int (nI da)), (5, .int (nI na)), (6, .int (nI k0))] → W pp l ee RR ss mm aa bb me cd H locs 0 0 QQ (F0 mm 107 ls []) := by
                  intro fuel
                  induction fuel with
                  | zero => intro k0 hk hfu; exact absurd hfu (Nat.not_lt_zero _)
                  | succ fuel ih =>
                    intro k0 hk hfu H locs hP hS ls hl
                    have hD : va_D Z (wM cI cZ q n mb f (uY Y 15 (va_cpy (Y 14) (Y 15) (100 * j + ia) 0 k0))) := hD.same rfl
                    refine lv_iload hx hb dX4_copy_107 (lv_at hl 6 rfl) ?_
                    refine lv_iload hx hb dX4_copy_109 (lv_at hl 5 rfl) ?_
                    refine x_icmp_ge (tgt := 141) hx hb (by omega) (by omega) dX4_copy_111 (by decide) (fun c111 => ?_) (fun c111 => ?_)
                    · skip
                      have hk0 : k0 = na := by omega
                      rw [hk0] at hP hD
                      have hYe : uY Y 15 (va_cpy (Y 14) (Y 15) (100 * j + ia) 0 na) = uY (uY Y 15 (va_cpy (Y 14) (Y 15) (100 * j + ia) 0 na)) 14 (va_cpy (va_cpy (Y 14) (Y 15) (100 * j + ia) 0 na) (Y 14) 0 (100 * jo + da) 0) := by rw [cpy_0]; exact (uY_self _ 14 rfl).symm
                      have hP : va_P (dC, dI) vwCl (wM cI cZ q n mb f (uY (uY Y 15 (va_cpy (Y 14) (Y 15) (100 * j + ia) 0 na)) 14 (va_cpy (va_cpy (Y 14) (Y 15) (100 * j + ia) 0 na) (Y 14) 0 (100 * jo + da) 0))) H := hYe ▸ hP
                      have hD : va_D Z (wM cI cZ q n mb f (uY (uY Y 15 (va_cpy (Y 14) (Y 15) (100 * j + ia) 0 na)) 14 (va_cpy (va_cpy (Y 14) (Y 15) (100 * j + ia) 0 na) (Y 14) 0 (100 * jo + da) 0))) := hD.same rfl
                      refine lv_iconst (v := nI 0) hx hb dX4_copy_141 rfl ?_
                      refine lv_istore (lv' := [(6, .int (nI 0)), (0, .ref (q 0)), (1, .int (nI j)), (2, .int (nI ia)), (3, .int (nI jo)), (4, .int (nI da)), (5, .int (nI na))]) hx hb dX4_copy_142 hl (by decide) rfl (fun ls hl => ?_)
                      have L144 : ∀ (fuel : Nat) (k1 : Nat) (hk1 : k1 ≤ na) (hfu : na - k1 < fuel) (H : Heap) (locs : List Loc), va_P (dC, dI) vwCl (wM cI cZ q n mb f (uY (uY Y 15 (va_cpy (Y 14) (Y 15) (100 * j + ia) 0 na)) 14 (va_cpy (va_cpy (Y 14) (Y 15) (100 * j + ia) 0 na) (Y 14) 0 (100 * jo + da) k1))) H → va_S Z ss.heap H locs → ∀ (ls : Array Slot), lv_has ls 7 [(0, .ref (q 0)), (1, .int (nI j)), (2, .int (nI ia)), (3, .int (nI jo)), (4, .int (nI da)), (5, .int (nI na)), (6, .int (nI k1))] → W pp l ee RR ss mm aa bb me cd H locs 0 0 QQ (F0 mm 144 ls []) := by
                        intro fuel144
                        induction fuel144 with
                        | zero => intro k1 hk1 hfu; exact absurd hfu (Nat.not_lt_zero _)
                        | succ fuel144 ih144 =>
                          intro k1 hk1 hfu H locs hP hS ls hl
                          have hD : va_D Z (wM cI cZ q n mb f (uY (uY Y 15 (va_cpy (Y 14) (Y 15) (100 * j + ia) 0 na)) 14 (va_cpy (va_cpy (Y 14) (Y 15) (100 * j + ia) 0 na) (Y 14) 0 (100 * jo + da) k1))) := hD.same rfl
                          refine lv_iload hx hb dX4_copy_144 (lv_at hl 6 rfl) ?_
                          refine lv_iload hx hb dX4_copy_146 (lv_at hl 5 rfl) ?_
                          refine x_icmp_ge (tgt := 179) hx hb (by omega) (by omega) dX4_copy_148 (by decide) (fun c148 => ?_) (fun c148 => ?_)
                          · skip
                            refine lv_aload_n hx hb dX4_copy_179 rfl (lv_at hl 0 rfl) ?_
                            refine lv_iload hx hb dX4_copy_180 (lv_at hl 5 rfl) ?_
                            refine rwW_i (As := [.int (nI na)]) (rest := []) (wn := wM cI cZ q n mb (uF f 0 0) (uY (uY Y 15 (va_cpy (Y 14) (Y 15) (100 * j + ia) 0 na)) 14 (va_cpy (va_cpy (Y 14) (Y 15) (100 * j + ia) 0 na) (Y 14) 0 (100 * jo + da) k1))) ⟨hx, hb, hml, hown, hts⟩ (kX4_refused l dC dI cI cZ q n mb f (uY (uY Y 15 (va_cpy (Y 14) (Y 15) (100 * j + ia) 0 na)) 14 (va_cpy (va_cpy (Y 14) (Y 15) (100 * j + ia) 0 na) (Y 14) 0 (100 * jo + da) k1)) (nI na) _) (cwV 1 hts gX4_copy_X4_refused rfl rfl rfl hdX4_refused ⟨Nat.le_trans (Nat.le_of_ble_eq_true rfl) hRf, Nat.le_trans (Nat.le_of_ble_eq_true rfl) hRl⟩) (va_recv hK hP (ci := 4) (q0 := 0) rfl rfl) hK rfl hl.1 rfl (Nat.le_of_ble_eq_true rfl) dX4_copy_182 ⟨Nat.zero_le _, Nat.zero_le _⟩ hP hD hS hA [0, 1, 2, 3, 4, 5, 6, 7, 8, 9, 10, 11, 12, 13, 14, 15, 16] [] [0, 1, 2, 3, 4, 5, 6, 7, 8, 9, 10, 11, 12, 13, 14, 15, 16] rfl rfl (by decide) (by decide) (by decide) rfl rfl (fun H locs hP hS => ?_)
                            have hD : va_D Z (wM cI cZ q n mb (uF f 0 0) (uY (uY Y 15 (va_cpy (Y 14) (Y 15) (100 * j + ia) 0 na)) 14 (va_cpy (va_cpy (Y 14) (Y 15) (100 * j + ia) 0 na) (Y 14) 0 (100 * jo + da) k1))) := hD.same rfl
                            exact hend _ _ _ _ _ _ (by rw [uCopy, if_pos ⟨c4, c11⟩, hxj, hxjo, if_pos ⟨hh, hho⟩, if_pos c56, if_pos ⟨c78, c95⟩] <;> rfl) (by rw [show okCopy hs la le (nI j) (nI ia) (nI jo) (nI da) (nI na) = true from by simp [okCopy, hxj, hxjo, c4, c11, hh, hho, c56, c78, c95], fCopy, if_pos ⟨c4, c11⟩, hxj, hxjo, if_pos ⟨hh, hho⟩, if_pos c56, if_pos ⟨c78, c95⟩, if_pos rfl, hxia, hxda, hxna, show k1 = na from by omega] <;> rfl) hP hS dX4_copy_185
                          · skip
                            refine lv_aload_n hx hb dX4_copy_151 rfl (lv_at hl 0 rfl) ?_
                            refine x_get (D := (dC, dI)) (ci := 4) (v := .ref (q 15)) (C := RX4) (T := TX4) (N := 31) hx hb hts hinX4 hown hK hP 0 rfl rfl 28 (Nat.le_of_ble_eq_true rfl) hf57 rfl rfl dX4_copy_152 ?_
                            refine lv_bipush (v := nI 100) hx hb dX4_copy_155 rfl ?_
                            refine lv_iload_n hx hb dX4_copy_157 rfl (lv_at hl 3 rfl) ?_
                            refine x_imul hx hb dX4_copy_158 ?_
                            refine lv_iload hx hb dX4_copy_159 (lv_at hl 4 rfl) ?_
                            refine x_iadd hx hb dX4_copy_161 ?_
                            refine lv_iload hx hb dX4_copy_162 (lv_at hl 6 rfl) ?_
                            refine x_iadd hx hb dX4_copy_164 ?_
                            refine lv_aload_n hx hb dX4_copy_165 rfl (lv_at hl 0 rfl) ?_
                            refine x_get (D := (dC, dI)) (ci := 4) (v := .ref (q 16)) (C := RX4) (T := TX4) (N := 31) hx hb hts hinX4 hown hK hP 0 rfl rfl 29 (Nat.le_of_ble_eq_true rfl) hf60 rfl rfl dX4_copy_166 ?_
                            refine lv_iload hx hb dX4_copy_169 (lv_at hl 6 rfl) ?_
                            refine x_iald (v := ((va_cpy (Y 14) (Y 15) (100 * j + ia) 0 na) k1)) hx hb hK hP 16 0 rfl rfl (by omega) (by decide) rfl dX4_copy_171 ?_
                            refine x_iast (wn := wM cI cZ q n mb f (uX (uY (uY Y 15 (va_cpy (Y 14) (Y 15) (100 * j + ia) 0 na)) 14 (va_cpy (va_cpy (Y 14) (Y 15) (100 * j + ia) 0 na) (Y 14) 0 (100 * jo + da) k1)) 14 (((100 * jo) + da) + k1) ((va_cpy (Y 14) (Y 15) (100 * j + ia) 0 na) k1))) hx hb hK hP hD hS 15 0 rfl rfl (by omega) (by decide) rfl dX4_copy_172 (fun H locs hP hS => ?_)
                            have hD : va_D Z (wM cI cZ q n mb f (uX (uY (uY Y 15 (va_cpy (Y 14) (Y 15) (100 * j + ia) 0 na)) 14 (va_cpy (va_cpy (Y 14) (Y 15) (100 * j + ia) 0 na) (Y 14) 0 (100 * jo + da) k1)) 14 (((100 * jo) + da) + k1) ((va_cpy (Y 14) (Y 15) (100 * j + ia) 0 na) k1))) := hD.same rfl
                            have hYe : uX (uY (uY Y 15 (va_cpy (Y 14) (Y 15) (100 * j + ia) 0 na)) 14 (va_cpy (va_cpy (Y 14) (Y 15) (100 * j + ia) 0 na) (Y 14) 0 (100 * jo + da) k1)) 14 (100 * jo + da + k1) ((va_cpy (Y 14) (Y 15) (100 * j + ia) 0 na) k1) = uY (uY Y 15 (va_cpy (Y 14) (Y 15) (100 * j + ia) 0 na)) 14 (va_cpy (va_cpy (Y 14) (Y 15) (100 * j + ia) 0 na) (Y 14) 0 (100 * jo + da) (k1 + 1)) := by rw [uX_uY]; have e := cpy_s (va_cpy (Y 14) (Y 15) (100 * j + ia) 0 na) (Y 14) 0 (100 * jo + da) k1; rw [Nat.zero_add] at e; rw [e]
                            have hP : va_P (dC, dI) vwCl (wM cI cZ q n mb f (uY (uY Y 15 (va_cpy (Y 14) (Y 15) (100 * j + ia) 0 na)) 14 (va_cpy (va_cpy (Y 14) (Y 15) (100 * j + ia) 0 na) (Y 14) 0 (100 * jo + da) (k1 + 1)))) H := hYe ▸ hP
                            have hD : va_D Z (wM cI cZ q n mb f (uY (uY Y 15 (va_cpy (Y 14) (Y 15) (100 * j + ia) 0 na)) 14 (va_cpy (va_cpy (Y 14) (Y 15) (100 * j + ia) 0 na) (Y 14) 0 (100 * jo + da) (k1 + 1)))) := hD.same rfl
                            refine lv_iinc (v := (nI (k1 + 1))) (lv' := [(6, .int (nI (k1 + 1))), (0, .ref (q 0)), (1, .int (nI j)), (2, .int (nI ia)), (3, .int (nI jo)), (4, .int (nI da)), (5, .int (nI na))]) hx hb dX4_copy_173 hl (k := 6) rfl (nI_add _ _) (by decide) rfl (fun ls hl => ?_)
                            refine lv_goto (tgt := 144) hx hb dX4_copy_176 (by decide) ?_
                            exact ih144 (k1 + 1) (by omega) (by omega) _ _ hP hS _ (lv_sub hl [1, 2, 3, 4, 5, 6, 0] rfl)
                      exact L144 _ 0 (by omega) (Nat.lt_succ_self _) _ _ hP hS _ (lv_sub hl [1, 2, 3, 4, 5, 6, 0] rfl)
                    · skip
                      refine lv_aload_n hx hb dX4_copy_114 rfl (lv_at hl 0 rfl) ?_
                      refine x_get (D := (dC, dI)) (ci := 4) (v := .ref (q 16)) (C := RX4) (T := TX4) (N := 31) hx hb hts hinX4 hown hK hP 0 rfl rfl 29 (Nat.le_of_ble_eq_true rfl) hf60 rfl rfl dX4_copy_115 ?_
                      refine lv_iload hx hb dX4_copy_118 (lv_at hl 6 rfl) ?_
                      refine lv_aload_n hx hb dX4_copy_120 rfl (lv_at hl 0 rfl) ?_
                      refine x_get (D := (dC, dI)) (ci := 4) (v := .ref (q 15)) (C := RX4) (T := TX4) (N := 31) hx hb hts hinX4 hown hK hP 0 rfl rfl 28 (Nat.le_of_ble_eq_true rfl) hf57 rfl rfl dX4_copy_121 ?_
                      refine lv_bipush (v := nI 100) hx hb dX4_copy_124 rfl ?_
                      refine lv_iload_n hx hb dX4_copy_126 rfl (lv_at hl 1 rfl) ?_
                      refine x_imul hx hb dX4_copy_127 ?_
                      refine lv_iload_n hx hb dX4_copy_128 rfl (lv_at hl 2 rfl) ?_
                      refine x_iadd hx hb dX4_copy_129 ?_
                      refine lv_iload hx hb dX4_copy_130 (lv_at hl 6 rfl) ?_
                      refine x_iadd hx hb dX4_copy_132 ?_
                      refine x_iald (v := (Y 14 (100 * j + ia + k0))) hx hb hK hP 15 0 rfl rfl (by omega) (by decide) rfl dX4_copy_133 ?_
                      refine x_iast (wn := wM cI cZ q n mb f (uX (uY Y 15 (va_cpy (Y 14) (Y 15) (100 * j + ia) 0 k0)) 15 k0 (Y 14 (100 * j + ia + k0)))) hx hb hK hP hD hS 16 0 rfl rfl (by omega) (by decide) rfl dX4_copy_134 (fun H locs hP hS => ?_)
                      have hD : va_D Z (wM cI cZ q n mb f (uX (uY Y 15 (va_cpy (Y 14) (Y 15) (100 * j + ia) 0 k0)) 15 k0 (Y 14 (100 * j + ia + k0)))) := hD.same rfl
                      have hYe : uX (uY Y 15 (va_cpy (Y 14) (Y 15) (100 * j + ia) 0 k0)) 15 k0 (Y 14 (100 * j + ia + k0)) = uY Y 15 (va_cpy (Y 14) (Y 15) (100 * j + ia) 0 (k0 + 1)) := by rw [uX_uY]; have e := cpy_s (Y 14) (Y 15) (100 * j + ia) 0 k0; rw [Nat.zero_add] at e; rw [e]
                      have hP : va_P (dC, dI) vwCl (wM cI cZ q n mb f (uY Y 15 (va_cpy (Y 14) (Y 15) (100 * j + ia) 0 (k0 + 1)))) H := hYe ▸ hP
                      have hD : va_D Z (wM cI cZ q n mb f (uY Y 15 (va_cpy (Y 14) (Y 15) (100 * j + ia) 0 (k0 + 1)))) := hD.same rfl
                      refine lv_iinc (v := (nI (k0 + 1))) (lv' := [(6, .int (nI (k0 + 1))), (0, .ref (q 0)), (1, .int (nI j)), (2, .int (nI ia)), (3, .int (nI jo)), (4, .int (nI da)), (5, .int (nI na))]) hx hb dX4_copy_135 hl (k := 6) rfl (nI_add _ _) (by decide) rfl (fun ls hl => ?_)
                      refine lv_goto (tgt := 107) hx hb dX4_copy_138 (by decide) ?_
                      exact ih (k0 + 1) (by omega) (by omega) _ _ hP hS _ (lv_sub hl [1, 2, 3, 4, 5, 6, 0] rfl)
                exact L107 _ 0 (by omega) (Nat.lt_succ_self _) _ _ hP hS _ (lv_sub hl [1, 2, 3, 4, 5, 6, 0] rfl)
              · skip
                have hs2 : spanB d n0 (le jo) = false := by simpa using c95
                refine lv_aload_n hx hb dX4_copy_98 rfl (lv_at hl 0 rfl) ?_
                refine lv_iconst (v := nI 3) hx hb dX4_copy_99 rfl ?_
                refine rwW_i (As := [.int (nI 3)]) (rest := []) (wn := wM cI cZ q n mb (uF f 0 (nI 3)) Y) ⟨hx, hb, hml, hown, hts⟩ (kX4_failed l dC dI cI cZ q n mb f Y 3 _) (cwV 1 hts gX4_copy_X4_failed rfl rfl rfl hdX4_failed ⟨Nat.le_trans (Nat.le_of_ble_eq_true rfl) hRf, Nat.le_trans (Nat.le_of_ble_eq_true rfl) hRl⟩) (va_recv hK hP (ci := 4) (q0 := 0) rfl rfl) hK rfl hl.1 rfl (Nat.le_of_ble_eq_true rfl) dX4_copy_100 ⟨Nat.zero_le _, Nat.zero_le _⟩ hP hD hS hA [0, 1, 2, 3, 4, 5, 6, 7, 8, 9, 10, 11, 12, 13, 14, 15, 16] [] [0, 1, 2, 3, 4, 5, 6, 7, 8, 9, 10, 11, 12, 13, 14, 15, 16] rfl rfl (by decide) (by decide) (by decide) rfl rfl (fun H locs hP hS => ?_)
                have hD : va_D Z (wM cI cZ q n mb (uF f 0 (nI 3)) Y) := hD.same rfl
                exact hend _ _ _ _ _ _ (by rw [uCopy, if_pos ⟨c4, c11⟩, hxj, hxjo, if_pos ⟨hh, hho⟩, if_pos c56, if_neg (fun q => absurd q.2 (by rw [hs2]; decide))] <;> rfl) (by rw [show okCopy hs la le (nI j) i (nI jo) d n0 = false from by simp [okCopy, hxj, hxjo, hs2], fCopy, if_pos ⟨c4, c11⟩, hxj, hxjo, if_pos ⟨hh, hho⟩, if_pos c56, if_neg (fun q => absurd q.2 (by rw [hs2]; decide)), if_neg Bool.false_ne_true] <;> rfl) hP hS dX4_copy_103
          · skip
            refine lv_aload_n hx hb dX4_copy_59 rfl (lv_at hl 0 rfl) ?_
            refine lv_iconst (v := nI 2) hx hb dX4_copy_60 rfl ?_
            refine rwW_i (As := [.int (nI 2)]) (rest := []) (wn := wM cI cZ q n mb (uF f 0 (nI 2)) Y) ⟨hx, hb, hml, hown, hts⟩ (kX4_failed l dC dI cI cZ q n mb f Y 2 _) (cwV 1 hts gX4_copy_X4_failed rfl rfl rfl hdX4_failed ⟨Nat.le_trans (Nat.le_of_ble_eq_true rfl) hRf, Nat.le_trans (Nat.le_of_ble_eq_true rfl) hRl⟩) (va_recv hK hP (ci := 4) (q0 := 0) rfl rfl) hK rfl hl.1 rfl (Nat.le_of_ble_eq_true rfl) dX4_copy_61 ⟨Nat.zero_le _, Nat.zero_le _⟩ hP hD hS hA [0, 1, 2, 3, 4, 5, 6, 7, 8, 9, 10, 11, 12, 13, 14, 15, 16] [] [0, 1, 2, 3, 4, 5, 6, 7, 8, 9, 10, 11, 12, 13, 14, 15, 16] rfl rfl (by decide) (by decide) (by decide) rfl rfl (fun H locs hP hS => ?_)
            have hD : va_D Z (wM cI cZ q n mb (uF f 0 (nI 2)) Y) := hD.same rfl
            exact hend _ _ _ _ _ _ (by rw [uCopy, if_pos ⟨c4, c11⟩, hxj, hxjo, if_pos ⟨hh, hho⟩, if_neg c56] <;> rfl) (by rw [show okCopy hs la le (nI j) i (nI jo) d n0 = false from by simp [okCopy, hxj, hxjo, c56], fCopy, if_pos ⟨c4, c11⟩, hxj, hxjo, if_pos ⟨hh, hho⟩, if_neg c56, if_neg Bool.false_ne_true] <;> rfl) hP hS dX4_copy_64
        · skip
          have hho := szI_nge (by omega) c35
          refine lv_aload_n hx hb dX4_copy_38 rfl (lv_at hl 0 rfl) ?_
          refine lv_iconst (v := nI 1) hx hb dX4_copy_39 rfl ?_
          refine rwW_i (As := [.int (nI 1)]) (rest := []) (wn := wM cI cZ q n mb (uF f 0 (nI 1)) Y) ⟨hx, hb, hml, hown, hts⟩ (kX4_failed l dC dI cI cZ q n mb f Y 1 _) (cwV 1 hts gX4_copy_X4_failed rfl rfl rfl hdX4_failed ⟨Nat.le_trans (Nat.le_of_ble_eq_true rfl) hRf, Nat.le_trans (Nat.le_of_ble_eq_true rfl) hRl⟩) (va_recv hK hP (ci := 4) (q0 := 0) rfl rfl) hK rfl hl.1 rfl (Nat.le_of_ble_eq_true rfl) dX4_copy_40 ⟨Nat.zero_le _, Nat.zero_le _⟩ hP hD hS hA [0, 1, 2, 3, 4, 5, 6, 7, 8, 9, 10, 11, 12, 13, 14, 15, 16] [] [0, 1, 2, 3, 4, 5, 6, 7, 8, 9, 10, 11, 12, 13, 14, 15, 16] rfl rfl (by decide) (by decide) (by decide) rfl rfl (fun H locs hP hS => ?_)
          have hD : va_D Z (wM cI cZ q n mb (uF f 0 (nI 1)) Y) := hD.same rfl
          exact hend _ _ _ _ _ _ (by rw [uCopy, if_pos ⟨c4, c11⟩, hxj, hxjo, if_neg (fun q => absurd q.2 (by rw [hho]; decide))] <;> rfl) (by rw [show okCopy hs la le (nI j) i (nI jo) d n0 = false from by simp [okCopy, hxj, hxjo, hho], fCopy, if_pos ⟨c4, c11⟩, hxj, hxjo, if_neg (fun q => absurd q.2 (by rw [hho]; decide)), if_neg Bool.false_ne_true] <;> rfl) hP hS dX4_copy_43
    · skip
      have c11 : inB o 4 = false := by simpa using c11
      refine lv_aload_n hx hb dX4_copy_14 rfl (lv_at hl 0 rfl) ?_
      refine lv_iconst (v := -1) hx hb dX4_copy_15 rfl ?_
      refine rwW_i (As := [.int (-1)]) (rest := []) (wn := wM cI cZ q n mb (uF f 0 0) Y) ⟨hx, hb, hml, hown, hts⟩ (kX4_refused l dC dI cI cZ q n mb f Y (-1) _) (cwV 1 hts gX4_copy_X4_refused rfl rfl rfl hdX4_refused ⟨Nat.le_trans (Nat.le_of_ble_eq_true rfl) hRf, Nat.le_trans (Nat.le_of_ble_eq_true rfl) hRl⟩) (va_recv hK hP (ci := 4) (q0 := 0) rfl rfl) hK rfl hl.1 rfl (Nat.le_of_ble_eq_true rfl) dX4_copy_16 ⟨Nat.zero_le _, Nat.zero_le _⟩ hP hD hS hA [0, 1, 2, 3, 4, 5, 6, 7, 8, 9, 10, 11, 12, 13, 14, 15, 16] [] [0, 1, 2, 3, 4, 5, 6, 7, 8, 9, 10, 11, 12, 13, 14, 15, 16] rfl rfl (by decide) (by decide) (by decide) rfl rfl (fun H locs hP hS => ?_)
      have hD : va_D Z (wM cI cZ q n mb (uF f 0 0) Y) := hD.same rfl
      exact hend _ _ _ _ _ _ (by rw [uCopy, if_neg (fun q => absurd q.2 (by rw [c11]; decide))] <;> rfl) (by rw [show okCopy hs la le (nI j) i o d n0 = false from by simp [okCopy, c11], fCopy, if_neg (fun q => absurd q.2 (by rw [c11]; decide)), if_neg Bool.false_ne_true] <;> rfl) hP hS dX4_copy_19
