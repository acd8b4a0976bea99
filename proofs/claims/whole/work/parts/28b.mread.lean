set_option maxHeartbeats 4000000 in
set_option maxRecDepth 100000 in
theorem kX4_codeAt (l : Launch) (dC : Nat → ClassId) (dI : Nat → Nat → Nat) (cI cZ : ClassId) (q n : Nat → Nat) (mb : Int32) (f : Nat → Int32) (p : Nat) (h w : Int32) (be th : Nat) (Y : Nat → Nat → Int32) (E : Nat → Int32) (fr ln : Nat) (sz : Nat) (hln : ln ≤ 100) (hfr : fr + ln ≤ 400) (hE : ∀ j, j < ln → Y 14 (fr + j) = E j) (hp : p ≤ 1000) : Met l yX4_codeAt wsX4_codeAt ({ frames := 0, cells := 0, slots := 0, locals := 0 }) (roP [.ref (q 0), .int (nI fr), .int (nI ln)] sz (dC, dI) [(cI, .int), (cZ, .boolean)] (wM cI cZ q n mb (fR f p h w be th) Y)) (roQi (cdM E ln p) sz) 0 0 (va_A [] sz) := by
  refine ro_met_i (by decide) rfl (Nat.le_of_ble_eq_true rfl) ?_
  intro pp ee ss mm aa bb me cd RR QQ Z hx hb hml hown hts hRf hRl hP hK hA hS hend ls hl
  have hown : ss.vm.findClass RX4 = some mm.cls := hown
  have hRf : 0 ≤ RR.frames := hRf
  have hRl : 0 ≤ RR.locals := hRl
  have hl : lv_has ls 3 [(0, .ref (q 0)), (1, .int (nI fr)), (2, .int (nI ln))] := hl
  have hf92 := hts (.fieldLink RX4 92 "StatueSquareModel" "readAt" "I") (List.mem_of_getElem? (i := 1) rfl)
  have hinX4 : ∀ w ∈ u_ws RX4 TX4 31, w ∈ wsX4_codeAt := fun _ h => List.mem_cons_of_mem _ (List.mem_append_right _ h)
  have hf57 := hts (.fieldLink RX4 57 "StatueSquareModel" "sheet" "[I") (List.mem_of_getElem? (i := 2) rfl)
  refine lv_aload_n hx hb dX4_codeAt_0 rfl (lv_at hl 0 rfl) ?_
  refine x_get (D := (dC, dI)) (ci := 4) (v := .int (nI p)) (C := RX4) (T := TX4) (N := 31) hx hb hts hinX4 hown hK hP 0 rfl rfl 14 (Nat.le_of_ble_eq_true rfl) hf92 rfl rfl dX4_codeAt_1 ?_
  refine lv_iload_n hx hb dX4_codeAt_4 rfl (lv_at hl 2 rfl) ?_
  refine x_icmp_ge (tgt := 22) hx hb (by omega) (by omega) dX4_codeAt_5 (by decide) (fun c5 => ?_) (fun c5 => ?_)
  · skip
    refine lv_bipush (v := -9) hx hb dX4_codeAt_22 rfl ?_
    exact hend _ _ _ _ _ (by rw [cdM, if_neg (by omega)]) hS dX4_codeAt_24
  · skip
    refine lv_aload_n hx hb dX4_codeAt_8 rfl (lv_at hl 0 rfl) ?_
    refine x_get (D := (dC, dI)) (ci := 4) (v := .ref (q 15)) (C := RX4) (T := TX4) (N := 31) hx hb hts hinX4 hown hK hP 0 rfl rfl 28 (Nat.le_of_ble_eq_true rfl) hf57 rfl rfl dX4_codeAt_9 ?_
    refine lv_iload_n hx hb dX4_codeAt_12 rfl (lv_at hl 1 rfl) ?_
    refine lv_aload_n hx hb dX4_codeAt_13 rfl (lv_at hl 0 rfl) ?_
    refine x_get (D := (dC, dI)) (ci := 4) (v := .int (nI p)) (C := RX4) (T := TX4) (N := 31) hx hb hts hinX4 hown hK hP 0 rfl rfl 14 (Nat.le_of_ble_eq_true rfl) hf92 rfl rfl dX4_codeAt_14 ?_
    refine x_iadd hx hb dX4_codeAt_17 ?_
    refine x_iald (v := (E p)) hx hb hK hP 15 0 rfl rfl (by omega) (by decide) (hE _ (by omega)) dX4_codeAt_18 ?_
    refine lv_goto (tgt := 24) hx hb dX4_codeAt_19 (by decide) ?_
    exact hend _ _ _ _ _ (by rw [cdM, if_pos (by omega)]) hS dX4_codeAt_24
theorem hdX4_codeAt : yX4_codeAt.cls = RX4 ∧ yX4_codeAt.cls ≠ "java/lang/invoke/MethodHandle" ∧ yX4_codeAt.cls ≠ "java/lang/invoke/VarHandle" ∧ (parseMethodDescriptor yX4_codeAt.desc).map (fun d => d.parameters.length) = some 2 := by decide +kernel
set_option maxRecDepth 20000 in
theorem ggX4_figure_X4_codeAt : GoodIn wsX4_figure wsX4_codeAt := goodIn_r _ [6, 1, 7, 11, 12, 13, 14, 15, 16, 17, 18, 19, 20, 21, 22, 23, 24, 25, 26, 27, 28, 29, 30, 31, 32, 33, 34, 35, 36, 37, 38, 39, 40, 41] (by decide +kernel) (by decide +kernel)
set_option maxRecDepth 20000 in
theorem gX4_figure_X4_codeAt : GoodIn wsX4_figure (wsV RX4 95 RX4 yX4_codeAt wsX4_codeAt) := goodIn_app (goodIn_of _ (by decide +kernel)) ggX4_figure_X4_codeAt
set_option maxRecDepth 20000 in
theorem ggX4_figure_X4_in : GoodIn wsX4_figure wsX4_in := goodIn_r _ [10] (by decide +kernel) (by decide +kernel)
set_option maxRecDepth 20000 in
theorem gX4_figure_X4_in : GoodIn wsX4_figure (va_wsS RX4 82 yX4_in wsX4_in) := goodIn_app (goodIn_of _ (by decide +kernel)) ggX4_figure_X4_in
set_option maxHeartbeats 4000000 in
set_option maxRecDepth 100000 in
theorem kX4_figure (l : Launch) (dC : Nat → ClassId) (dI : Nat → Nat → Nat) (cI cZ : ClassId) (q n : Nat → Nat) (mb : Int32) (f : Nat → Int32) (p : Nat) (h w : Int32) (be th : Nat) (Y : Nat → Nat → Int32) (E : Nat → Int32) (fr ln : Nat) (lo : Nat) (up : Nat) (sz : Nat) (hln : ln ≤ 100) (hfr : fr + ln ≤ 400) (hE : ∀ j, j < ln → Y 14 (fr + j) = E j) (hp : p ≤ 1000) (hlo : lo < 2 ^ 31) (hlo0 : 0 < lo) (hup : up < 2 ^ 31) : Met l yX4_figure wsX4_figure ({ frames := 1, cells := 0, slots := 0, locals := 25 }) (rwP [.ref (q 0), .int (nI fr), .int (nI ln), .int (nI lo), .int (nI up)] sz (dC, dI) [(cI, .int), (cZ, .boolean)] (wM cI cZ q n mb (fR f p h w be th) Y)) (rwQi (dgI (dgN E ln p lo up)) (dC, dI) (wM cI cZ q n mb (fR f p h w be th) Y) (wM cI cZ q n mb (fR f (if dgN E ln p lo up = 0 then p else p + 1) h w be th) Y) sz) 0 0 (va_A (wM cI cZ q n mb (fR f p h w be th) Y) sz) := by
  refine rw_met_i (by decide) rfl (Nat.le_of_ble_eq_true rfl) ?_
  intro pp ee ss mm aa bb me cd RR QQ Z hx hb hml hown hts hRf hRl hP hK hD hA hS hend ls hl
  have hown : ss.vm.findClass RX4 = some mm.cls := hown
  have hRf : 1 ≤ RR.frames := hRf
  have hRl : 25 ≤ RR.locals := hRl
  have hl : lv_has ls 7 [(0, .ref (q 0)), (1, .int (nI fr)), (2, .int (nI ln)), (3, .int (nI lo)), (4, .int (nI up))] := hl
  have hf92 := hts (.fieldLink RX4 92 "StatueSquareModel" "readAt" "I") (List.mem_of_getElem? (i := 1) rfl)
  have hinX4 : ∀ w ∈ u_ws RX4 TX4 31, w ∈ wsX4_figure := fun _ h => List.mem_cons_of_mem _ (List.mem_append_right _ h)
  refine lv_aload_n hx hb dX4_figure_0 rfl (lv_at hl 0 rfl) ?_
  refine lv_iload_n hx hb dX4_figure_1 rfl (lv_at hl 1 rfl) ?_
  refine lv_iload_n hx hb dX4_figure_2 rfl (lv_at hl 2 rfl) ?_
  refine roV_i (As := [.int (nI fr), .int (nI ln)]) (rest := []) ⟨hx, hb, hml, hown, hts⟩ (kX4_codeAt l dC dI cI cZ q n mb f p h w be th Y E fr ln  _ hln hfr hE (by omega)) (cwV 2 hts gX4_figure_X4_codeAt rfl rfl rfl hdX4_codeAt ⟨Nat.le_trans (Nat.le_of_ble_eq_true rfl) hRf, Nat.le_trans (Nat.le_of_ble_eq_true rfl) hRl⟩) (va_recv hK hP (ci := 4) (q0 := 0) rfl rfl) hK hP rfl hl.1 rfl (Nat.le_of_ble_eq_true rfl) dX4_figure_3 ⟨Nat.zero_le _, Nat.zero_le _⟩ hP hS hA (fun H locs hP hS => ?_)
  refine lv_bipush (v := nI 48) hx hb dX4_figure_6 rfl ?_
  refine lv_isub hx hb dX4_figure_8 ?_
  refine lv_istore (lv' := [(5, .int ((cdM E ln p) - (nI 48))), (0, .ref (q 0)), (1, .int (nI fr)), (2, .int (nI ln)), (3, .int (nI lo)), (4, .int (nI up))]) hx hb dX4_figure_9 hl (by decide) rfl (fun ls hl => ?_)
  refine lv_iload hx hb dX4_figure_11 (lv_at hl 0 rfl) ?_
  refine lv_i2l hx hb dX4_figure_13 rfl ?_
  refine lv_iload_n hx hb dX4_figure_14 rfl (lv_at hl 4 rfl) ?_
  refine lv_i2l hx hb dX4_figure_15 rfl ?_
  refine lv_iload hx hb dX4_figure_16 (lv_at hl 5 rfl) ?_
  refine lv_i2l hx hb dX4_figure_18 rfl ?_
  refine roS_i (As := [.long (((cdM E ln p) - (nI 48)).toInt64), .long ((nI lo).toInt64), .long ((nI up).toInt64)]) (rest := []) ⟨hx, hb, hml, hown, hts⟩ (kX4_in l dC dI (((cdM E ln p) - (nI 48)).toInt64) ((nI lo).toInt64) ((nI up).toInt64) _ ) (va_cwS 3 hts gX4_figure_X4_in rfl rfl rfl hdX4_in ⟨Nat.le_trans (Nat.le_of_ble_eq_true rfl) hRf, Nat.le_trans (Nat.le_of_ble_eq_true rfl) hRl⟩) (hK.sub [] rfl) (hP.sub [] rfl) rfl hl.1 rfl (Nat.le_of_ble_eq_true rfl) dX4_figure_19 ⟨Nat.zero_le _, Nat.zero_le _⟩ hP hS hA (fun H locs hP hS => ?_)
  refine x_top (y := bI (decide (¬ dgN E ln p lo up = 0))) (congrArg bI (figL hlo hlo0 hup)) ?_
  refine lv_istore (lv' := [(6, .int (bI (decide (¬ dgN E ln p lo up = 0)))), (5, .int ((cdM E ln p) - (nI 48))), (0, .ref (q 0)), (1, .int (nI fr)), (2, .int (nI ln)), (3, .int (nI lo)), (4, .int (nI up))]) hx hb dX4_figure_22 hl (by decide) rfl (fun ls hl => ?_)
  refine lv_aload_n hx hb dX4_figure_24 rfl (lv_at hl 2 rfl) ?_
  refine lv_dup hx hb dX4_figure_25 rfl ?_
  refine x_get (D := (dC, dI)) (ci := 4) (v := .int (nI p)) (C := RX4) (T := TX4) (N := 31) hx hb hts hinX4 hown hK hP 0 rfl rfl 14 (Nat.le_of_ble_eq_true rfl) hf92 rfl rfl dX4_figure_26 ?_
  refine lv_iload hx hb dX4_figure_29 (lv_at hl 0 rfl) ?_
  refine x_ifb_eq (tgt := 38) hx hb dX4_figure_31 (by decide) (fun c31 => ?_) (fun c31 => ?_)
  · skip
    have hd : dgN E ln p lo up = 0 := by simpa using c31
    refine lv_iconst (v := nI 0) hx hb dX4_figure_38 rfl ?_
    refine x_iadd hx hb dX4_figure_39 ?_
    refine x_put (D := (dC, dI)) (ci := 4) (v := .int (nI (p + 0))) (C := RX4) (T := TX4) (N := 31) (wn := wM cI cZ q n mb (fR f (p + 0) h w be th) Y) hx hb hts hinX4 tyX4 tyX4_ok nmX4 hown hK hP hD hS 0 rfl rfl 14 (Nat.le_of_ble_eq_true rfl) hf92 rfl rfl rfl rfl (Nat.le_of_ble_eq_true rfl) rfl dX4_figure_40 (fun H locs hP hS => ?_)
    have hD : va_D Z (wM cI cZ q n mb (fR f (p + 0) h w be th) Y) := hD.same rfl
    refine lv_iload hx hb dX4_figure_43 (lv_at hl 0 rfl) ?_
    refine x_ifb_eq (tgt := 53) hx hb dX4_figure_45 (by decide) (fun c45 => ?_) (fun c45 => ?_)
    · skip
      refine lv_bipush (v := -9) hx hb dX4_figure_53 rfl ?_
      exact hend _ _ _ _ _ _ (by rw [dgI, if_pos hd]) (by rw [if_pos hd] <;> rfl) hP hS dX4_figure_55
    · skip
      exact absurd (c31.symm.trans c45) (by decide)
  · skip
    have hd : ¬ dgN E ln p lo up = 0 := by simpa using c31
    refine lv_iconst (v := nI 1) hx hb dX4_figure_34 rfl ?_
    refine lv_goto (tgt := 39) hx hb dX4_figure_35 (by decide) ?_
    refine x_iadd hx hb dX4_figure_39 ?_
    refine x_put (D := (dC, dI)) (ci := 4) (v := .int (nI (p + 1))) (C := RX4) (T := TX4) (N := 31) (wn := wM cI cZ q n mb (fR f (p + 1) h w be th) Y) hx hb hts hinX4 tyX4 tyX4_ok nmX4 hown hK hP hD hS 0 rfl rfl 14 (Nat.le_of_ble_eq_true rfl) hf92 rfl rfl rfl rfl (Nat.le_of_ble_eq_true rfl) rfl dX4_figure_40 (fun H locs hP hS => ?_)
    have hD : va_D Z (wM cI cZ q n mb (fR f (p + 1) h w be th) Y) := hD.same rfl
    refine lv_iload hx hb dX4_figure_43 (lv_at hl 0 rfl) ?_
    refine x_ifb_eq (tgt := 53) hx hb dX4_figure_45 (by decide) (fun c45 => ?_) (fun c45 => ?_)
    · skip
      exact absurd (c45.symm.trans c31) (by decide)
    · skip
      refine lv_iload hx hb dX4_figure_48 (lv_at hl 1 rfl) ?_
      refine lv_goto (tgt := 55) hx hb dX4_figure_50 (by decide) ?_
      exact hend _ _ _ _ _ _ (by rw [dI_nz hd]; exact figV hlo hlo0 hup hd) (by rw [if_neg hd] <;> rfl) hP hS dX4_figure_55
theorem hdX4_figure : yX4_figure.cls = RX4 ∧ yX4_figure.cls ≠ "java/lang/invoke/MethodHandle" ∧ yX4_figure.cls ≠ "java/lang/invoke/VarHandle" ∧ (parseMethodDescriptor yX4_figure.desc).map (fun d => d.parameters.length) = some 4 := by decide +kernel
set_option maxRecDepth 20000 in
theorem ggX4_readsCell_X4_codeAt : GoodIn wsX4_readsCell wsX4_codeAt := goodIn_r _ [13, 2, 14, 22, 23, 24, 25, 26, 27, 28, 29, 30, 31, 32, 33, 34, 35, 36, 37, 38, 39, 40, 41, 42, 43, 44, 45, 46, 47, 48, 49, 50, 51, 52] (by decide +kernel) (by decide +kernel)
set_option maxRecDepth 20000 in
theorem gX4_readsCell_X4_codeAt : GoodIn wsX4_readsCell (wsV RX4 95 RX4 yX4_codeAt wsX4_codeAt) := goodIn_app (goodIn_of _ (by decide +kernel)) ggX4_readsCell_X4_codeAt
set_option maxRecDepth 20000 in
theorem ggX4_readsCell_X4_figure : GoodIn wsX4_readsCell wsX4_figure := goodIn_r _ [18, 2, 9, 10, 11, 12, 13, 14, 19, 20, 21, 22, 23, 24, 25, 26, 27, 28, 29, 30, 31, 32, 33, 34, 35, 36, 37, 38, 39, 40, 41, 42, 43, 44, 45, 46, 47, 48, 49, 50, 51, 52] (by decide +kernel) (by decide +kernel)
set_option maxRecDepth 20000 in
theorem gX4_readsCell_X4_figure : GoodIn wsX4_readsCell (wsV RX4 105 RX4 yX4_figure wsX4_figure) := goodIn_app (goodIn_of _ (by decide +kernel)) ggX4_readsCell_X4_figure
set_option maxHeartbeats 4000000 in
set_option maxRecDepth 100000 in
theorem kX4_readsCell (l : Launch) (dC : Nat → ClassId) (dI : Nat → Nat → Nat) (cI cZ : ClassId) (q n : Nat → Nat) (mb : Int32) (f : Nat → Int32) (p : Nat) (h w : Int32) (be th : Nat) (Y : Nat → Nat → Int32) (E : Nat → Int32) (fr ln : Nat) (c : Nat) (sz : Nat) (hln : ln ≤ 100) (hfr : fr + ln ≤ 400) (hE : ∀ j, j < ln → Y 14 (fr + j) = E j) (hp : p ≤ 1000) (hbe : be ≤ 12) (hth : th ≤ 10) (hc : c < 42) (hp2 : p ≤ 500) : Met l yX4_readsCell wsX4_readsCell ({ frames := 2, cells := 0, slots := 0, locals := 51 }) (rwP [.ref (q 0), .int (nI fr), .int (nI ln), .int (nI c)] sz (dC, dI) [(cI, .int), (cZ, .boolean)] (wM cI cZ q n mb (fR f p h w be th) Y)) (rwQi (bI (tcO E ln p be th)) (dC, dI) (wM cI cZ q n mb (fR f p h w be th) Y) (wM cI cZ q n mb (fR f (tcP E ln p be th) h w (tcB E ln p be) (mcT E ln p th)) (mcY E ln p be th c Y)) sz) 0 0 (va_A (wM cI cZ q n mb (fR f p h w be th) Y) sz) := by
  refine rw_met_z (by decide) rfl (Nat.le_of_ble_eq_true rfl) ?_
  intro pp ee ss mm aa bb me cd RR QQ Z hx hb hml hown hts hRf hRl hP hK hD hA hS hend ls hl
  have hown : ss.vm.findClass RX4 = some mm.cls := hown
  have hRf : 2 ≤ RR.frames := hRf
  have hRl : 51 ≤ RR.locals := hRl
  have hl : lv_has ls 6 [(0, .ref (q 0)), (1, .int (nI fr)), (2, .int (nI ln)), (3, .int (nI c))] := hl
  have hf32 := hts (.fieldLink RX4 32 "StatueSquareModel" "readHas" "[I") (List.mem_of_getElem? (i := 1) rfl)
  have hinX4 : ∀ w ∈ u_ws RX4 TX4 31, w ∈ wsX4_readsCell := fun _ h => List.mem_cons_of_mem _ (List.mem_append_right _ h)
  have hf92 := hts (.fieldLink RX4 92 "StatueSquareModel" "readAt" "I") (List.mem_of_getElem? (i := 2) rfl)
  have hf99 := hts (.fieldLink RX4 99 "StatueSquareModel" "readBenches" "I") (List.mem_of_getElem? (i := 3) rfl)
  have hf35 := hts (.fieldLink RX4 35 "StatueSquareModel" "readBench" "[I") (List.mem_of_getElem? (i := 4) rfl)
  have hf102 := hts (.fieldLink RX4 102 "StatueSquareModel" "readThings" "I") (List.mem_of_getElem? (i := 5) rfl)
  have hf38 := hts (.fieldLink RX4 38 "StatueSquareModel" "readKind" "[I") (List.mem_of_getElem? (i := 6) rfl)
  have hf41 := hts (.fieldLink RX4 41 "StatueSquareModel" "readThing" "[I") (List.mem_of_getElem? (i := 7) rfl)
  have hf44 := hts (.fieldLink RX4 44 "StatueSquareModel" "readTall" "[I") (List.mem_of_getElem? (i := 8) rfl)
  refine lv_aload_n hx hb dX4_readsCell_0 rfl (lv_at hl 0 rfl) ?_
  refine lv_iload_n hx hb dX4_readsCell_1 rfl (lv_at hl 1 rfl) ?_
  refine lv_iload_n hx hb dX4_readsCell_2 rfl (lv_at hl 2 rfl) ?_
  refine roV_i (As := [.int (nI fr), .int (nI ln)]) (rest := []) ⟨hx, hb, hml, hown, hts⟩ (kX4_codeAt l dC dI cI cZ q n mb f p h w be th Y E fr ln  _ hln hfr hE (by omega)) (cwV 2 hts gX4_readsCell_X4_codeAt rfl rfl rfl hdX4_codeAt ⟨Nat.le_trans (Nat.le_of_ble_eq_true rfl) hRf, Nat.le_trans (Nat.le_of_ble_eq_true rfl) hRl⟩) (va_recv hK hP (ci := 4) (q0 := 0) rfl rfl) hK hP rfl hl.1 rfl (Nat.le_of_ble_eq_true rfl) dX4_readsCell_3 ⟨Nat.zero_le _, Nat.zero_le _⟩ hP hS hA (fun H locs hP hS => ?_)
  refine lv_istore (lv' := [(4, .int (cdM E ln p)), (0, .ref (q 0)), (1, .int (nI fr)), (2, .int (nI ln)), (3, .int (nI c))]) hx hb dX4_readsCell_6 hl (by decide) rfl (fun ls hl => ?_)
  rcases knd_g (E := E) (len := ln) (p := p) (x := cdM E ln p) (fun sg hs => cdM_eq hs) with hk | hk | hk | hk | hk | hk
  · skip
    refine lv_iload hx hb dX4_readsCell_8 (lv_at hl 0 rfl) ?_
    refine lv_bipush (v := nI 46) hx hb dX4_readsCell_10 rfl ?_
    refine lv_icmp_ne (tgt := 34) hx hb dX4_readsCell_12 (by decide) (fun c12 => ?_) (fun c12 => ?_)
    · skip
      exact absurd hk.1 c12
    · skip
      refine lv_aload_n hx hb dX4_readsCell_15 rfl (lv_at hl 1 rfl) ?_
      refine x_get (D := (dC, dI)) (ci := 4) (v := .ref (q 8)) (C := RX4) (T := TX4) (N := 31) hx hb hts hinX4 hown hK hP 0 rfl rfl 19 (Nat.le_of_ble_eq_true rfl) hf32 rfl rfl dX4_readsCell_16 ?_
      refine lv_iload_n hx hb dX4_readsCell_19 rfl (lv_at hl 4 rfl) ?_
      refine lv_iconst (v := nI 0) hx hb dX4_readsCell_20 rfl ?_
      refine x_iast (wn := wM cI cZ q n mb (fR f p h w be th) (uX Y 7 c (nI 0))) hx hb hK hP hD hS 8 0 rfl rfl (by omega) (by decide) rfl dX4_readsCell_21 (fun H locs hP hS => ?_)
      have hD : va_D Z (wM cI cZ q n mb (fR f p h w be th) (uX Y 7 c (nI 0))) := hD.same rfl
      refine lv_aload_n hx hb dX4_readsCell_22 rfl (lv_at hl 1 rfl) ?_
      refine lv_dup hx hb dX4_readsCell_23 rfl ?_
      refine x_get (D := (dC, dI)) (ci := 4) (v := .int (nI p)) (C := RX4) (T := TX4) (N := 31) hx hb hts hinX4 hown hK hP 0 rfl rfl 14 (Nat.le_of_ble_eq_true rfl) hf92 rfl rfl dX4_readsCell_24 ?_
      refine lv_iconst (v := nI 1) hx hb dX4_readsCell_27 rfl ?_
      refine x_iadd hx hb dX4_readsCell_28 ?_
      refine x_put (D := (dC, dI)) (ci := 4) (v := .int (nI (p + 1))) (C := RX4) (T := TX4) (N := 31) (wn := wM cI cZ q n mb (fR f (p + 1) h w be th) (uX Y 7 c (nI 0))) hx hb hts hinX4 tyX4 tyX4_ok nmX4 hown hK hP hD hS 0 rfl rfl 14 (Nat.le_of_ble_eq_true rfl) hf92 rfl rfl rfl rfl (Nat.le_of_ble_eq_true rfl) rfl dX4_readsCell_29 (fun H locs hP hS => ?_)
      have hD : va_D Z (wM cI cZ q n mb (fR f (p + 1) h w be th) (uX Y 7 c (nI 0))) := hD.same rfl
      refine lv_iconst (v := nI 1) hx hb dX4_readsCell_32 rfl ?_
      exact hend _ _ _ _ _ _ (n1_b (by rw [tcO, hk.2]; rfl)) (by rw [tcP, tcB, mcT, mcY, hk.2] <;> rfl) hP hS dX4_readsCell_33
  · skip
    refine lv_iload hx hb dX4_readsCell_8 (lv_at hl 0 rfl) ?_
    refine lv_bipush (v := nI 46) hx hb dX4_readsCell_10 rfl ?_
    refine lv_icmp_ne (tgt := 34) hx hb dX4_readsCell_12 (by decide) (fun c12 => ?_) (fun c12 => ?_)
    · skip
      refine lv_iload hx hb dX4_readsCell_34 (lv_at hl 0 rfl) ?_
      refine lv_bipush (v := nI 98) hx hb dX4_readsCell_36 rfl ?_
      refine lv_icmp_ne (tgt := 91) hx hb dX4_readsCell_38 (by decide) (fun c38 => ?_) (fun c38 => ?_)
      · skip
        exact absurd hk.1 c38
      · skip
        refine lv_aload_n hx hb dX4_readsCell_41 rfl (lv_at hl 1 rfl) ?_
        refine x_get (D := (dC, dI)) (ci := 4) (v := .int (nI be)) (C := RX4) (T := TX4) (N := 31) hx hb hts hinX4 hown hK hP 0 rfl rfl 17 (Nat.le_of_ble_eq_true rfl) hf99 rfl rfl dX4_readsCell_42 ?_
        refine lv_bipush (v := nI 12) hx hb dX4_readsCell_45 rfl ?_
        refine x_icmp_ne (tgt := 52) hx hb (by omega) (by omega) dX4_readsCell_47 (by decide) (fun c47 => ?_) (fun c47 => ?_)
        · skip
          refine lv_aload_n hx hb dX4_readsCell_52 rfl (lv_at hl 1 rfl) ?_
          refine x_get (D := (dC, dI)) (ci := 4) (v := .ref (q 8)) (C := RX4) (T := TX4) (N := 31) hx hb hts hinX4 hown hK hP 0 rfl rfl 19 (Nat.le_of_ble_eq_true rfl) hf32 rfl rfl dX4_readsCell_53 ?_
          refine lv_iload_n hx hb dX4_readsCell_56 rfl (lv_at hl 4 rfl) ?_
          refine lv_iconst (v := nI 1) hx hb dX4_readsCell_57 rfl ?_
          refine x_iast (wn := wM cI cZ q n mb (fR f p h w be th) (uX Y 7 c (nI 1))) hx hb hK hP hD hS 8 0 rfl rfl (by omega) (by decide) rfl dX4_readsCell_58 (fun H locs hP hS => ?_)
          have hD : va_D Z (wM cI cZ q n mb (fR f p h w be th) (uX Y 7 c (nI 1))) := hD.same rfl
          refine lv_aload_n hx hb dX4_readsCell_59 rfl (lv_at hl 1 rfl) ?_
          refine x_get (D := (dC, dI)) (ci := 4) (v := .ref (q 9)) (C := RX4) (T := TX4) (N := 31) hx hb hts hinX4 hown hK hP 0 rfl rfl 20 (Nat.le_of_ble_eq_true rfl) hf35 rfl rfl dX4_readsCell_60 ?_
          refine lv_aload_n hx hb dX4_readsCell_63 rfl (lv_at hl 1 rfl) ?_
          refine x_get (D := (dC, dI)) (ci := 4) (v := .int (nI be)) (C := RX4) (T := TX4) (N := 31) hx hb hts hinX4 hown hK hP 0 rfl rfl 17 (Nat.le_of_ble_eq_true rfl) hf99 rfl rfl dX4_readsCell_64 ?_
          refine lv_iload_n hx hb dX4_readsCell_67 rfl (lv_at hl 4 rfl) ?_
          refine x_iast (wn := wM cI cZ q n mb (fR f p h w be th) (uX (uX Y 7 c (nI 1)) 8 be (nI c))) hx hb hK hP hD hS 9 0 rfl rfl (by omega) (by decide) rfl dX4_readsCell_68 (fun H locs hP hS => ?_)
          have hD : va_D Z (wM cI cZ q n mb (fR f p h w be th) (uX (uX Y 7 c (nI 1)) 8 be (nI c))) := hD.same rfl
          refine lv_aload_n hx hb dX4_readsCell_69 rfl (lv_at hl 1 rfl) ?_
          refine lv_dup hx hb dX4_readsCell_70 rfl ?_
          refine x_get (D := (dC, dI)) (ci := 4) (v := .int (nI be)) (C := RX4) (T := TX4) (N := 31) hx hb hts hinX4 hown hK hP 0 rfl rfl 17 (Nat.le_of_ble_eq_true rfl) hf99 rfl rfl dX4_readsCell_71 ?_
          refine lv_iconst (v := nI 1) hx hb dX4_readsCell_74 rfl ?_
          refine x_iadd hx hb dX4_readsCell_75 ?_
          refine x_put (D := (dC, dI)) (ci := 4) (v := .int (nI (be + 1))) (C := RX4) (T := TX4) (N := 31) (wn := wM cI cZ q n mb (fR f p h w (be + 1) th) (uX (uX Y 7 c (nI 1)) 8 be (nI c))) hx hb hts hinX4 tyX4 tyX4_ok nmX4 hown hK hP hD hS 0 rfl rfl 17 (Nat.le_of_ble_eq_true rfl) hf99 rfl rfl rfl rfl (Nat.le_of_ble_eq_true rfl) rfl dX4_readsCell_76 (fun H locs hP hS => ?_)
          have hD : va_D Z (wM cI cZ q n mb (fR f p h w (be + 1) th) (uX (uX Y 7 c (nI 1)) 8 be (nI c))) := hD.same rfl
          refine lv_aload_n hx hb dX4_readsCell_79 rfl (lv_at hl 1 rfl) ?_
          refine lv_dup hx hb dX4_readsCell_80 rfl ?_
          refine x_get (D := (dC, dI)) (ci := 4) (v := .int (nI p)) (C := RX4) (T := TX4) (N := 31) hx hb hts hinX4 hown hK hP 0 rfl rfl 14 (Nat.le_of_ble_eq_true rfl) hf92 rfl rfl dX4_readsCell_81 ?_
          refine lv_iconst (v := nI 1) hx hb dX4_readsCell_84 rfl ?_
          refine x_iadd hx hb dX4_readsCell_85 ?_
          refine x_put (D := (dC, dI)) (ci := 4) (v := .int (nI (p + 1))) (C := RX4) (T := TX4) (N := 31) (wn := wM cI cZ q n mb (fR f (p + 1) h w (be + 1) th) (uX (uX Y 7 c (nI 1)) 8 be (nI c))) hx hb hts hinX4 tyX4 tyX4_ok nmX4 hown hK hP hD hS 0 rfl rfl 14 (Nat.le_of_ble_eq_true rfl) hf92 rfl rfl rfl rfl (Nat.le_of_ble_eq_true rfl) rfl dX4_readsCell_86 (fun H locs hP hS => ?_)
          have hD : va_D Z (wM cI cZ q n mb (fR f (p + 1) h w (be + 1) th) (uX (uX Y 7 c (nI 1)) 8 be (nI c))) := hD.same rfl
          refine lv_iconst (v := nI 1) hx hb dX4_readsCell_89 rfl ?_
          exact hend _ _ _ _ _ _ (n1_b (by rw [tcO, hk.2]; simp; omega)) (by simp only [tcP, tcB, mcT, mcY, hk.2]; simp [show ¬ be = 12 by omega] <;> rfl) hP hS dX4_readsCell_90
        · skip
          refine lv_iconst (v := nI 0) hx hb dX4_readsCell_50 rfl ?_
          exact hend _ _ _ _ _ _ (n0_b (by rw [tcO, hk.2]; simp; omega)) (by simp only [tcP, tcB, mcT, mcY, hk.2]; simp [show be = 12 by omega] <;> rfl) hP hS dX4_readsCell_51
    · skip
      exact absurd (hk.1.symm.trans c12) (by decide)
  · skip
    refine lv_iload hx hb dX4_readsCell_8 (lv_at hl 0 rfl) ?_
    refine lv_bipush (v := nI 46) hx hb dX4_readsCell_10 rfl ?_
    refine lv_icmp_ne (tgt := 34) hx hb dX4_readsCell_12 (by decide) (fun c12 => ?_) (fun c12 => ?_)
    · skip
      refine lv_iload hx hb dX4_readsCell_34 (lv_at hl 0 rfl) ?_
      refine lv_bipush (v := nI 98) hx hb dX4_readsCell_36 rfl ?_
      refine lv_icmp_ne (tgt := 91) hx hb dX4_readsCell_38 (by decide) (fun c38 => ?_) (fun c38 => ?_)
      · skip
        refine lv_aload_n hx hb dX4_readsCell_91 rfl (lv_at hl 1 rfl) ?_
        refine x_get (D := (dC, dI)) (ci := 4) (v := .int (nI th)) (C := RX4) (T := TX4) (N := 31) hx hb hts hinX4 hown hK hP 0 rfl rfl 18 (Nat.le_of_ble_eq_true rfl) hf102 rfl rfl dX4_readsCell_92 ?_
        refine lv_bipush (v := nI 10) hx hb dX4_readsCell_95 rfl ?_
        refine x_icmp_eq (tgt := 121) hx hb (by omega) (by omega) dX4_readsCell_97 (by decide) (fun c97 => ?_) (fun c97 => ?_)
        · skip
          refine lv_iconst (v := nI 0) hx hb dX4_readsCell_121 rfl ?_
          exact hend _ _ _ _ _ _ (n0_b (by rw [tcO, hk.2]; simp; omega)) (by simp only [tcP, tcB, mcT, mcY, hk.2]; simp [show th = 10 by omega] <;> rfl) hP hS dX4_readsCell_122
        · skip
          refine lv_iload hx hb dX4_readsCell_100 (lv_at hl 0 rfl) ?_
          refine lv_bipush (v := nI 108) hx hb dX4_readsCell_102 rfl ?_
          refine lv_icmp_eq (tgt := 123) hx hb dX4_readsCell_104 (by decide) (fun c104 => ?_) (fun c104 => ?_)
          · skip
            refine lv_aload_n hx hb dX4_readsCell_123 rfl (lv_at hl 1 rfl) ?_
            refine lv_dup hx hb dX4_readsCell_124 rfl ?_
            refine x_get (D := (dC, dI)) (ci := 4) (v := .int (nI p)) (C := RX4) (T := TX4) (N := 31) hx hb hts hinX4 hown hK hP 0 rfl rfl 14 (Nat.le_of_ble_eq_true rfl) hf92 rfl rfl dX4_readsCell_125 ?_
            refine lv_iconst (v := nI 1) hx hb dX4_readsCell_128 rfl ?_
            refine x_iadd hx hb dX4_readsCell_129 ?_
            refine x_put (D := (dC, dI)) (ci := 4) (v := .int (nI (p + 1))) (C := RX4) (T := TX4) (N := 31) (wn := wM cI cZ q n mb (fR f (p + 1) h w be th) Y) hx hb hts hinX4 tyX4 tyX4_ok nmX4 hown hK hP hD hS 0 rfl rfl 14 (Nat.le_of_ble_eq_true rfl) hf92 rfl rfl rfl rfl (Nat.le_of_ble_eq_true rfl) rfl dX4_readsCell_130 (fun H locs hP hS => ?_)
            have hD : va_D Z (wM cI cZ q n mb (fR f (p + 1) h w be th) Y) := hD.same rfl
            refine lv_aload_n hx hb dX4_readsCell_133 rfl (lv_at hl 1 rfl) ?_
            refine lv_iload_n hx hb dX4_readsCell_134 rfl (lv_at hl 2 rfl) ?_
            refine lv_iload_n hx hb dX4_readsCell_135 rfl (lv_at hl 3 rfl) ?_
            refine lv_iconst (v := nI 1) hx hb dX4_readsCell_136 rfl ?_
            refine lv_bipush (v := nI 9) hx hb dX4_readsCell_137 rfl ?_
            refine rwW_i (As := [.int (nI fr), .int (nI ln), .int (nI 1), .int (nI 9)]) (rest := []) (wn := wM cI cZ q n mb (fR f (if dgN E ln (p + 1) 1 9 = 0 then (p + 1) else (p + 1) + 1) h w be th) Y) ⟨hx, hb, hml, hown, hts⟩ (kX4_figure l dC dI cI cZ q n mb f (p + 1) h w be th Y E fr ln 1 9 _ hln hfr hE (by omega) (by omega) (by omega) (by omega)) (cwV 4 hts gX4_readsCell_X4_figure rfl rfl rfl hdX4_figure ⟨Nat.le_trans (Nat.le_of_ble_eq_true rfl) hRf, Nat.le_trans (Nat.le_of_ble_eq_true rfl) hRl⟩) (va_recv hK hP (ci := 4) (q0 := 0) rfl rfl) hK rfl hl.1 rfl (Nat.le_of_ble_eq_true rfl) dX4_readsCell_139 ⟨Nat.zero_le _, Nat.zero_le _⟩ hP hD hS hA [0, 1, 2, 3, 4, 5, 6, 7, 8, 9, 10, 11, 12, 13, 14, 15, 16] [] [0, 1, 2, 3, 4, 5, 6, 7, 8, 9, 10, 11, 12, 13, 14, 15, 16] rfl rfl (by decide) (by decide) (by decide) rfl rfl (fun H locs hP hS => ?_)
            have hD : va_D Z (wM cI cZ q n mb (fR f (if dgN E ln (p + 1) 1 9 = 0 then (p + 1) else (p + 1) + 1) h w be th) Y) := hD.same rfl
            refine lv_istore (lv' := [(5, .int (dgI (dgN E ln (p + 1) 1 9))), (4, .int (cdM E ln p)), (0, .ref (q 0)), (1, .int (nI fr)), (2, .int (nI ln)), (3, .int (nI c))]) hx hb dX4_readsCell_142 hl (by decide) rfl (fun ls hl => ?_)
            refine lv_iload hx hb dX4_readsCell_144 (lv_at hl 0 rfl) ?_
            refine lv_if_ge (tgt := 151) hx hb dX4_readsCell_146 (by decide) (fun c146 => ?_) (fun c146 => ?_)
            · skip
              have hd : ¬ dgN E ln (p + 1) 1 9 = 0 := (dgI_ge (Nat.lt_of_le_of_lt (dgN_le (by decide)) (by decide))).mp c146
              rw [dI_nz hd] at hl
              have hP : va_P (dC, dI) vwCl (wM cI cZ q n mb (fR f (p + 2) h w be th) Y) H := by rw [if_neg hd] at hP; exact hP
              have hD : va_D Z (wM cI cZ q n mb (fR f (p + 2) h w be th) Y) := hD.same rfl
              refine lv_aload_n hx hb dX4_readsCell_151 rfl (lv_at hl 2 rfl) ?_
              refine x_get (D := (dC, dI)) (ci := 4) (v := .ref (q 8)) (C := RX4) (T := TX4) (N := 31) hx hb hts hinX4 hown hK hP 0 rfl rfl 19 (Nat.le_of_ble_eq_true rfl) hf32 rfl rfl dX4_readsCell_152 ?_
              refine lv_iload_n hx hb dX4_readsCell_155 rfl (lv_at hl 5 rfl) ?_
              refine lv_bipush (v := nI 10) hx hb dX4_readsCell_156 rfl ?_
              refine lv_aload_n hx hb dX4_readsCell_158 rfl (lv_at hl 2 rfl) ?_
              refine x_get (D := (dC, dI)) (ci := 4) (v := .int (nI th)) (C := RX4) (T := TX4) (N := 31) hx hb hts hinX4 hown hK hP 0 rfl rfl 18 (Nat.le_of_ble_eq_true rfl) hf102 rfl rfl dX4_readsCell_159 ?_
              refine x_iadd hx hb dX4_readsCell_162 ?_
              refine x_iast (wn := wM cI cZ q n mb (fR f (p + 2) h w be th) (uX Y 7 c (nI (10 + th)))) hx hb hK hP hD hS 8 0 rfl rfl (by omega) (by decide) rfl dX4_readsCell_163 (fun H locs hP hS => ?_)
              have hD : va_D Z (wM cI cZ q n mb (fR f (p + 2) h w be th) (uX Y 7 c (nI (10 + th)))) := hD.same rfl
              refine lv_aload_n hx hb dX4_readsCell_164 rfl (lv_at hl 2 rfl) ?_
              refine x_get (D := (dC, dI)) (ci := 4) (v := .ref (q 10)) (C := RX4) (T := TX4) (N := 31) hx hb hts hinX4 hown hK hP 0 rfl rfl 21 (Nat.le_of_ble_eq_true rfl) hf38 rfl rfl dX4_readsCell_165 ?_
              refine lv_aload_n hx hb dX4_readsCell_168 rfl (lv_at hl 2 rfl) ?_
              refine x_get (D := (dC, dI)) (ci := 4) (v := .int (nI th)) (C := RX4) (T := TX4) (N := 31) hx hb hts hinX4 hown hK hP 0 rfl rfl 18 (Nat.le_of_ble_eq_true rfl) hf102 rfl rfl dX4_readsCell_169 ?_
              refine lv_iload hx hb dX4_readsCell_172 (lv_at hl 1 rfl) ?_
              refine lv_bipush (v := nI 108) hx hb dX4_readsCell_174 rfl ?_
              refine lv_icmp_ne (tgt := 183) hx hb dX4_readsCell_176 (by decide) (fun c176 => ?_) (fun c176 => ?_)
              · skip
                exact absurd hk.1 c176
              · skip
                refine lv_iconst (v := nI 0) hx hb dX4_readsCell_179 rfl ?_
                refine lv_goto (tgt := 195) hx hb dX4_readsCell_180 (by decide) ?_
                refine x_iast (wn := wM cI cZ q n mb (fR f (p + 2) h w be th) (uX (uX Y 7 c (nI (10 + th))) 9 th (nI 0))) hx hb hK hP hD hS 10 0 rfl rfl (by omega) (by decide) rfl dX4_readsCell_195 (fun H locs hP hS => ?_)
                have hD : va_D Z (wM cI cZ q n mb (fR f (p + 2) h w be th) (uX (uX Y 7 c (nI (10 + th))) 9 th (nI 0))) := hD.same rfl
                refine lv_aload_n hx hb dX4_readsCell_196 rfl (lv_at hl 2 rfl) ?_
                refine x_get (D := (dC, dI)) (ci := 4) (v := .ref (q 11)) (C := RX4) (T := TX4) (N := 31) hx hb hts hinX4 hown hK hP 0 rfl rfl 22 (Nat.le_of_ble_eq_true rfl) hf41 rfl rfl dX4_readsCell_197 ?_
                refine lv_aload_n hx hb dX4_readsCell_200 rfl (lv_at hl 2 rfl) ?_
                refine x_get (D := (dC, dI)) (ci := 4) (v := .int (nI th)) (C := RX4) (T := TX4) (N := 31) hx hb hts hinX4 hown hK hP 0 rfl rfl 18 (Nat.le_of_ble_eq_true rfl) hf102 rfl rfl dX4_readsCell_201 ?_
                refine lv_iload_n hx hb dX4_readsCell_204 rfl (lv_at hl 5 rfl) ?_
                refine x_iast (wn := wM cI cZ q n mb (fR f (p + 2) h w be th) (uX (uX (uX Y 7 c (nI (10 + th))) 9 th (nI 0)) 10 th (nI c))) hx hb hK hP hD hS 11 0 rfl rfl (by omega) (by decide) rfl dX4_readsCell_205 (fun H locs hP hS => ?_)
                have hD : va_D Z (wM cI cZ q n mb (fR f (p + 2) h w be th) (uX (uX (uX Y 7 c (nI (10 + th))) 9 th (nI 0)) 10 th (nI c))) := hD.same rfl
                refine lv_aload_n hx hb dX4_readsCell_206 rfl (lv_at hl 2 rfl) ?_
                refine x_get (D := (dC, dI)) (ci := 4) (v := .ref (q 12)) (C := RX4) (T := TX4) (N := 31) hx hb hts hinX4 hown hK hP 0 rfl rfl 23 (Nat.le_of_ble_eq_true rfl) hf44 rfl rfl dX4_readsCell_207 ?_
                refine lv_aload_n hx hb dX4_readsCell_210 rfl (lv_at hl 2 rfl) ?_
                refine x_get (D := (dC, dI)) (ci := 4) (v := .int (nI th)) (C := RX4) (T := TX4) (N := 31) hx hb hts hinX4 hown hK hP 0 rfl rfl 18 (Nat.le_of_ble_eq_true rfl) hf102 rfl rfl dX4_readsCell_211 ?_
                refine lv_iload hx hb dX4_readsCell_214 (lv_at hl 0 rfl) ?_
                refine x_iast (wn := wM cI cZ q n mb (fR f (p + 2) h w be th) (uX (uX (uX (uX Y 7 c (nI (10 + th))) 9 th (nI 0)) 10 th (nI c)) 11 th (nI (dgN E ln (p + 1) 1 9)))) hx hb hK hP hD hS 12 0 rfl rfl (by omega) (by decide) rfl dX4_readsCell_216 (fun H locs hP hS => ?_)
                have hD : va_D Z (wM cI cZ q n mb (fR f (p + 2) h w be th) (uX (uX (uX (uX Y 7 c (nI (10 + th))) 9 th (nI 0)) 10 th (nI c)) 11 th (nI (dgN E ln (p + 1) 1 9)))) := hD.same rfl
                refine lv_aload_n hx hb dX4_readsCell_217 rfl (lv_at hl 2 rfl) ?_
                refine lv_dup hx hb dX4_readsCell_218 rfl ?_
                refine x_get (D := (dC, dI)) (ci := 4) (v := .int (nI th)) (C := RX4) (T := TX4) (N := 31) hx hb hts hinX4 hown hK hP 0 rfl rfl 18 (Nat.le_of_ble_eq_true rfl) hf102 rfl rfl dX4_readsCell_219 ?_
                refine lv_iconst (v := nI 1) hx hb dX4_readsCell_222 rfl ?_
                refine x_iadd hx hb dX4_readsCell_223 ?_
                refine x_put (D := (dC, dI)) (ci := 4) (v := .int (nI (th + 1))) (C := RX4) (T := TX4) (N := 31) (wn := wM cI cZ q n mb (fR f (p + 2) h w be (th + 1)) (uX (uX (uX (uX Y 7 c (nI (10 + th))) 9 th (nI 0)) 10 th (nI c)) 11 th (nI (dgN E ln (p + 1) 1 9)))) hx hb hts hinX4 tyX4 tyX4_ok nmX4 hown hK hP hD hS 0 rfl rfl 18 (Nat.le_of_ble_eq_true rfl) hf102 rfl rfl rfl rfl (Nat.le_of_ble_eq_true rfl) rfl dX4_readsCell_224 (fun H locs hP hS => ?_)
                have hD : va_D Z (wM cI cZ q n mb (fR f (p + 2) h w be (th + 1)) (uX (uX (uX (uX Y 7 c (nI (10 + th))) 9 th (nI 0)) 10 th (nI c)) 11 th (nI (dgN E ln (p + 1) 1 9)))) := hD.same rfl
                refine lv_iconst (v := nI 1) hx hb dX4_readsCell_227 rfl ?_
                exact hend _ _ _ _ _ _ (n1_b (by rw [tcO, hk.2]; simp [hd]; omega)) (by simp only [tcP, tcB, mcT, mcY, hk.2]; simp [show ¬ th = 10 by omega, hd] <;> rfl) hP hS dX4_readsCell_228
            · skip
              have hd : dgN E ln (p + 1) 1 9 = 0 := Classical.not_not.mp (mt (dgI_ge (Nat.lt_of_le_of_lt (dgN_le (by decide)) (by decide))).mpr c146)
              have hP : va_P (dC, dI) vwCl (wM cI cZ q n mb (fR f (p + 1) h w be th) Y) H := by rw [if_pos hd] at hP; exact hP
              have hD : va_D Z (wM cI cZ q n mb (fR f (p + 1) h w be th) Y) := hD.same rfl
              refine lv_iconst (v := nI 0) hx hb dX4_readsCell_149 rfl ?_
              exact hend _ _ _ _ _ _ (n0_b (by rw [tcO, hk.2]; simp [hd])) (by simp only [tcP, tcB, mcT, mcY, hk.2]; simp [show ¬ th = 10 by omega, hd] <;> rfl) hP hS dX4_readsCell_150
          · skip
            exact absurd hk.1 c104
      · skip
        exact absurd (hk.1.symm.trans c38) (by decide)
    · skip
      exact absurd (hk.1.symm.trans c12) (by decide)
  · skip
    refine lv_iload hx hb dX4_readsCell_8 (lv_at hl 0 rfl) ?_
    refine lv_bipush (v := nI 46) hx hb dX4_readsCell_10 rfl ?_
    refine lv_icmp_ne (tgt := 34) hx hb dX4_readsCell_12 (by decide) (fun c12 => ?_) (fun c12 => ?_)
    · skip
      refine lv_iload hx hb dX4_readsCell_34 (lv_at hl 0 rfl) ?_
      refine lv_bipush (v := nI 98) hx hb dX4_readsCell_36 rfl ?_
      refine lv_icmp_ne (tgt := 91) hx hb dX4_readsCell_38 (by decide) (fun c38 => ?_) (fun c38 => ?_)
      · skip
        refine lv_aload_n hx hb dX4_readsCell_91 rfl (lv_at hl 1 rfl) ?_
        refine x_get (D := (dC, dI)) (ci := 4) (v := .int (nI th)) (C := RX4) (T := TX4) (N := 31) hx hb hts hinX4 hown hK hP 0 rfl rfl 18 (Nat.le_of_ble_eq_true rfl) hf102 rfl rfl dX4_readsCell_92 ?_
        refine lv_bipush (v := nI 10) hx hb dX4_readsCell_95 rfl ?_
        refine x_icmp_eq (tgt := 121) hx hb (by omega) (by omega) dX4_readsCell_97 (by decide) (fun c97 => ?_) (fun c97 => ?_)
        · skip
          refine lv_iconst (v := nI 0) hx hb dX4_readsCell_121 rfl ?_
          exact hend _ _ _ _ _ _ (n0_b (by rw [tcO, hk.2]; simp; omega)) (by simp only [tcP, tcB, mcT, mcY, hk.2]; simp [show th = 10 by omega] <;> rfl) hP hS dX4_readsCell_122
        · skip
          refine lv_iload hx hb dX4_readsCell_100 (lv_at hl 0 rfl) ?_
          refine lv_bipush (v := nI 108) hx hb dX4_readsCell_102 rfl ?_
          refine lv_icmp_eq (tgt := 123) hx hb dX4_readsCell_104 (by decide) (fun c104 => ?_) (fun c104 => ?_)
          · skip
            exact absurd (hk.1.symm.trans c104) (by decide)
          · skip
            refine lv_iload hx hb dX4_readsCell_107 (lv_at hl 0 rfl) ?_
            refine lv_bipush (v := nI 117) hx hb dX4_readsCell_109 rfl ?_
            refine lv_icmp_eq (tgt := 123) hx hb dX4_readsCell_111 (by decide) (fun c111 => ?_) (fun c111 => ?_)
            · skip
              refine lv_aload_n hx hb dX4_readsCell_123 rfl (lv_at hl 1 rfl) ?_
              refine lv_dup hx hb dX4_readsCell_124 rfl ?_
              refine x_get (D := (dC, dI)) (ci := 4) (v := .int (nI p)) (C := RX4) (T := TX4) (N := 31) hx hb hts hinX4 hown hK hP 0 rfl rfl 14 (Nat.le_of_ble_eq_true rfl) hf92 rfl rfl dX4_readsCell_125 ?_
              refine lv_iconst (v := nI 1) hx hb dX4_readsCell_128 rfl ?_
              refine x_iadd hx hb dX4_readsCell_129 ?_
              refine x_put (D := (dC, dI)) (ci := 4) (v := .int (nI (p + 1))) (C := RX4) (T := TX4) (N := 31) (wn := wM cI cZ q n mb (fR f (p + 1) h w be th) Y) hx hb hts hinX4 tyX4 tyX4_ok nmX4 hown hK hP hD hS 0 rfl rfl 14 (Nat.le_of_ble_eq_true rfl) hf92 rfl rfl rfl rfl (Nat.le_of_ble_eq_true rfl) rfl dX4_readsCell_130 (fun H locs hP hS => ?_)
              have hD : va_D Z (wM cI cZ q n mb (fR f (p + 1) h w be th) Y) := hD.same rfl
              refine lv_aload_n hx hb dX4_readsCell_133 rfl (lv_at hl 1 rfl) ?_
              refine lv_iload_n hx hb dX4_readsCell_134 rfl (lv_at hl 2 rfl) ?_
              refine lv_iload_n hx hb dX4_readsCell_135 rfl (lv_at hl 3 rfl) ?_
              refine lv_iconst (v := nI 1) hx hb dX4_readsCell_136 rfl ?_
              refine lv_bipush (v := nI 9) hx hb dX4_readsCell_137 rfl ?_
              refine rwW_i (As := [.int (nI fr), .int (nI ln), .int (nI 1), .int (nI 9)]) (rest := []) (wn := wM cI cZ q n mb (fR f (if dgN E ln (p + 1) 1 9 = 0 then (p + 1) else (p + 1) + 1) h w be th) Y) ⟨hx, hb, hml, hown, hts⟩ (kX4_figure l dC dI cI cZ q n mb f (p + 1) h w be th Y E fr ln 1 9 _ hln hfr hE (by omega) (by omega) (by omega) (by omega)) (cwV 4 hts gX4_readsCell_X4_figure rfl rfl rfl hdX4_figure ⟨Nat.le_trans (Nat.le_of_ble_eq_true rfl) hRf, Nat.le_trans (Nat.le_of_ble_eq_true rfl) hRl⟩) (va_recv hK hP (ci := 4) (q0 := 0) rfl rfl) hK rfl hl.1 rfl (Nat.le_of_ble_eq_true rfl) dX4_readsCell_139 ⟨Nat.zero_le _, Nat.zero_le _⟩ hP hD hS hA [0, 1, 2, 3, 4, 5, 6, 7, 8, 9, 10, 11, 12, 13, 14, 15, 16] [] [0, 1, 2, 3, 4, 5, 6, 7, 8, 9, 10, 11, 12, 13, 14, 15, 16] rfl rfl (by decide) (by decide) (by decide) rfl rfl (fun H locs hP hS => ?_)
              have hD : va_D Z (wM cI cZ q n mb (fR f (if dgN E ln (p + 1) 1 9 = 0 then (p + 1) else (p + 1) + 1) h w be th) Y) := hD.same rfl
              refine lv_istore (lv' := [(5, .int (dgI (dgN E ln (p + 1) 1 9))), (4, .int (cdM E ln p)), (0, .ref (q 0)), (1, .int (nI fr)), (2, .int (nI ln)), (3, .int (nI c))]) hx hb dX4_readsCell_142 hl (by decide) rfl (fun ls hl => ?_)
              refine lv_iload hx hb dX4_readsCell_144 (lv_at hl 0 rfl) ?_
              refine lv_if_ge (tgt := 151) hx hb dX4_readsCell_146 (by decide) (fun c146 => ?_) (fun c146 => ?_)
              · skip
                have hd : ¬ dgN E ln (p + 1) 1 9 = 0 := (dgI_ge (Nat.lt_of_le_of_lt (dgN_le (by decide)) (by decide))).mp c146
                rw [dI_nz hd] at hl
                have hP : va_P (dC, dI) vwCl (wM cI cZ q n mb (fR f (p + 2) h w be th) Y) H := by rw [if_neg hd] at hP; exact hP
                have hD : va_D Z (wM cI cZ q n mb (fR f (p + 2) h w be th) Y) := hD.same rfl
                refine lv_aload_n hx hb dX4_readsCell_151 rfl (lv_at hl 2 rfl) ?_
                refine x_get (D := (dC, dI)) (ci := 4) (v := .ref (q 8)) (C := RX4) (T := TX4) (N := 31) hx hb hts hinX4 hown hK hP 0 rfl rfl 19 (Nat.le_of_ble_eq_true rfl) hf32 rfl rfl dX4_readsCell_152 ?_
                refine lv_iload_n hx hb dX4_readsCell_155 rfl (lv_at hl 5 rfl) ?_
                refine lv_bipush (v := nI 10) hx hb dX4_readsCell_156 rfl ?_
                refine lv_aload_n hx hb dX4_readsCell_158 rfl (lv_at hl 2 rfl) ?_
                refine x_get (D := (dC, dI)) (ci := 4) (v := .int (nI th)) (C := RX4) (T := TX4) (N := 31) hx hb hts hinX4 hown hK hP 0 rfl rfl 18 (Nat.le_of_ble_eq_true rfl) hf102 rfl rfl dX4_readsCell_159 ?_
                refine x_iadd hx hb dX4_readsCell_162 ?_
                refine x_iast (wn := wM cI cZ q n mb (fR f (p + 2) h w be th) (uX Y 7 c (nI (10 + th)))) hx hb hK hP hD hS 8 0 rfl rfl (by omega) (by decide) rfl dX4_readsCell_163 (fun H locs hP hS => ?_)
                have hD : va_D Z (wM cI cZ q n mb (fR f (p + 2) h w be th) (uX Y 7 c (nI (10 + th)))) := hD.same rfl
                refine lv_aload_n hx hb dX4_readsCell_164 rfl (lv_at hl 2 rfl) ?_
                refine x_get (D := (dC, dI)) (ci := 4) (v := .ref (q 10)) (C := RX4) (T := TX4) (N := 31) hx hb hts hinX4 hown hK hP 0 rfl rfl 21 (Nat.le_of_ble_eq_true rfl) hf38 rfl rfl dX4_readsCell_165 ?_
                refine lv_aload_n hx hb dX4_readsCell_168 rfl (lv_at hl 2 rfl) ?_
                refine x_get (D := (dC, dI)) (ci := 4) (v := .int (nI th)) (C := RX4) (T := TX4) (N := 31) hx hb hts hinX4 hown hK hP 0 rfl rfl 18 (Nat.le_of_ble_eq_true rfl) hf102 rfl rfl dX4_readsCell_169 ?_
                refine lv_iload hx hb dX4_readsCell_172 (lv_at hl 1 rfl) ?_
                refine lv_bipush (v := nI 108) hx hb dX4_readsCell_174 rfl ?_
                refine lv_icmp_ne (tgt := 183) hx hb dX4_readsCell_176 (by decide) (fun c176 => ?_) (fun c176 => ?_)
                · skip
                  refine lv_iload hx hb dX4_readsCell_183 (lv_at hl 1 rfl) ?_
                  refine lv_bipush (v := nI 117) hx hb dX4_readsCell_185 rfl ?_
                  refine lv_icmp_ne (tgt := 194) hx hb dX4_readsCell_187 (by decide) (fun c187 => ?_) (fun c187 => ?_)
                  · skip
                    exact absurd hk.1 c187
                  · skip
                    refine lv_iconst (v := nI 1) hx hb dX4_readsCell_190 rfl ?_
                    refine lv_goto (tgt := 195) hx hb dX4_readsCell_191 (by decide) ?_
                    refine x_iast (wn := wM cI cZ q n mb (fR f (p + 2) h w be th) (uX (uX Y 7 c (nI (10 + th))) 9 th (nI 1))) hx hb hK hP hD hS 10 0 rfl rfl (by omega) (by decide) rfl dX4_readsCell_195 (fun H locs hP hS => ?_)
                    have hD : va_D Z (wM cI cZ q n mb (fR f (p + 2) h w be th) (uX (uX Y 7 c (nI (10 + th))) 9 th (nI 1))) := hD.same rfl
                    refine lv_aload_n hx hb dX4_readsCell_196 rfl (lv_at hl 2 rfl) ?_
                    refine x_get (D := (dC, dI)) (ci := 4) (v := .ref (q 11)) (C := RX4) (T := TX4) (N := 31) hx hb hts hinX4 hown hK hP 0 rfl rfl 22 (Nat.le_of_ble_eq_true rfl) hf41 rfl rfl dX4_readsCell_197 ?_
                    refine lv_aload_n hx hb dX4_readsCell_200 rfl (lv_at hl 2 rfl) ?_
                    refine x_get (D := (dC, dI)) (ci := 4) (v := .int (nI th)) (C := RX4) (T := TX4) (N := 31) hx hb hts hinX4 hown hK hP 0 rfl rfl 18 (Nat.le_of_ble_eq_true rfl) hf102 rfl rfl dX4_readsCell_201 ?_
                    refine lv_iload_n hx hb dX4_readsCell_204 rfl (lv_at hl 5 rfl) ?_
                    refine x_iast (wn := wM cI cZ q n mb (fR f (p + 2) h w be th) (uX (uX (uX Y 7 c (nI (10 + th))) 9 th (nI 1)) 10 th (nI c))) hx hb hK hP hD hS 11 0 rfl rfl (by omega) (by decide) rfl dX4_readsCell_205 (fun H locs hP hS => ?_)
                    have hD : va_D Z (wM cI cZ q n mb (fR f (p + 2) h w be th) (uX (uX (uX Y 7 c (nI (10 + th))) 9 th (nI 1)) 10 th (nI c))) := hD.same rfl
                    refine lv_aload_n hx hb dX4_readsCell_206 rfl (lv_at hl 2 rfl) ?_
                    refine x_get (D := (dC, dI)) (ci := 4) (v := .ref (q 12)) (C := RX4) (T := TX4) (N := 31) hx hb hts hinX4 hown hK hP 0 rfl rfl 23 (Nat.le_of_ble_eq_true rfl) hf44 rfl rfl dX4_readsCell_207 ?_
                    refine lv_aload_n hx hb dX4_readsCell_210 rfl (lv_at hl 2 rfl) ?_
                    refine x_get (D := (dC, dI)) (ci := 4) (v := .int (nI th)) (C := RX4) (T := TX4) (N := 31) hx hb hts hinX4 hown hK hP 0 rfl rfl 18 (Nat.le_of_ble_eq_true rfl) hf102 rfl rfl dX4_readsCell_211 ?_
                    refine lv_iload hx hb dX4_readsCell_214 (lv_at hl 0 rfl) ?_
                    refine x_iast (wn := wM cI cZ q n mb (fR f (p + 2) h w be th) (uX (uX (uX (uX Y 7 c (nI (10 + th))) 9 th (nI 1)) 10 th (nI c)) 11 th (nI (dgN E ln (p + 1) 1 9)))) hx hb hK hP hD hS 12 0 rfl rfl (by omega) (by decide) rfl dX4_readsCell_216 (fun H locs hP hS => ?_)
                    have hD : va_D Z (wM cI cZ q n mb (fR f (p + 2) h w be th) (uX (uX (uX (uX Y 7 c (nI (10 + th))) 9 th (nI 1)) 10 th (nI c)) 11 th (nI (dgN E ln (p + 1) 1 9)))) := hD.same rfl
                    refine lv_aload_n hx hb dX4_readsCell_217 rfl (lv_at hl 2 rfl) ?_
                    refine lv_dup hx hb dX4_readsCell_218 rfl ?_
                    refine x_get (D := (dC, dI)) (ci := 4) (v := .int (nI th)) (C := RX4) (T := TX4) (N := 31) hx hb hts hinX4 hown hK hP 0 rfl rfl 18 (Nat.le_of_ble_eq_true rfl) hf102 rfl rfl dX4_readsCell_219 ?_
                    refine lv_iconst (v := nI 1) hx hb dX4_readsCell_222 rfl ?_
                    refine x_iadd hx hb dX4_readsCell_223 ?_
                    refine x_put (D := (dC, dI)) (ci := 4) (v := .int (nI (th + 1))) (C := RX4) (T := TX4) (N := 31) (wn := wM cI cZ q n mb (fR f (p + 2) h w be (th + 1)) (uX (uX (uX (uX Y 7 c (nI (10 + th))) 9 th (nI 1)) 10 th (nI c)) 11 th (nI (dgN E ln (p + 1) 1 9)))) hx hb hts hinX4 tyX4 tyX4_ok nmX4 hown hK hP hD hS 0 rfl rfl 18 (Nat.le_of_ble_eq_true rfl) hf102 rfl rfl rfl rfl (Nat.le_of_ble_eq_true rfl) rfl dX4_readsCell_224 (fun H locs hP hS => ?_)
                    have hD : va_D Z (wM cI cZ q n mb (fR f (p + 2) h w be (th + 1)) (uX (uX (uX (uX Y 7 c (nI (10 + th))) 9 th (nI 1)) 10 th (nI c)) 11 th (nI (dgN E ln (p + 1) 1 9)))) := hD.same rfl
                    refine lv_iconst (v := nI 1) hx hb dX4_readsCell_227 rfl ?_
                    exact hend _ _ _ _ _ _ (n1_b (by rw [tcO, hk.2]; simp [hd]; omega)) (by simp only [tcP, tcB, mcT, mcY, hk.2]; simp [show ¬ th = 10 by omega, hd] <;> rfl) hP hS dX4_readsCell_228
                · skip
                  exact absurd (hk.1.symm.trans c176) (by decide)
              · skip
                have hd : dgN E ln (p + 1) 1 9 = 0 := Classical.not_not.mp (mt (dgI_ge (Nat.lt_of_le_of_lt (dgN_le (by decide)) (by decide))).mpr c146)
                have hP : va_P (dC, dI) vwCl (wM cI cZ q n mb (fR f (p + 1) h w be th) Y) H := by rw [if_pos hd] at hP; exact hP
                have hD : va_D Z (wM cI cZ q n mb (fR f (p + 1) h w be th) Y) := hD.same rfl
                refine lv_iconst (v := nI 0) hx hb dX4_readsCell_149 rfl ?_
                exact hend _ _ _ _ _ _ (n0_b (by rw [tcO, hk.2]; simp [hd])) (by simp only [tcP, tcB, mcT, mcY, hk.2]; simp [show ¬ th = 10 by omega, hd] <;> rfl) hP hS dX4_readsCell_150
            · skip
              exact absurd hk.1 c111
      · skip
        exact absurd (hk.1.symm.trans c38) (by decide)
    · skip
      exact absurd (hk.1.symm.trans c12) (by decide)
  · skip
    refine lv_iload hx hb dX4_readsCell_8 (lv_at hl 0 rfl) ?_
    refine lv_bipush (v := nI 46) hx hb dX4_readsCell_10 rfl ?_
    refine lv_icmp_ne (tgt := 34) hx hb dX4_readsCell_12 (by decide) (fun c12 => ?_) (fun c12 => ?_)
    · skip
      refine lv_iload hx hb dX4_readsCell_34 (lv_at hl 0 rfl) ?_
      refine lv_bipush (v := nI 98) hx hb dX4_readsCell_36 rfl ?_
      refine lv_icmp_ne (tgt := 91) hx hb dX4_readsCell_38 (by decide) (fun c38 => ?_) (fun c38 => ?_)
      · skip
        refine lv_aload_n hx hb dX4_readsCell_91 rfl (lv_at hl 1 rfl) ?_
        refine x_get (D := (dC, dI)) (ci := 4) (v := .int (nI th)) (C := RX4) (T := TX4) (N := 31) hx hb hts hinX4 hown hK hP 0 rfl rfl 18 (Nat.le_of_ble_eq_true rfl) hf102 rfl rfl dX4_readsCell_92 ?_
        refine lv_bipush (v := nI 10) hx hb dX4_readsCell_95 rfl ?_
        refine x_icmp_eq (tgt := 121) hx hb (by omega) (by omega) dX4_readsCell_97 (by decide) (fun c97 => ?_) (fun c97 => ?_)
        · skip
          refine lv_iconst (v := nI 0) hx hb dX4_readsCell_121 rfl ?_
          exact hend _ _ _ _ _ _ (n0_b (by rw [tcO, hk.2]; simp; omega)) (by simp only [tcP, tcB, mcT, mcY, hk.2]; simp [show th = 10 by omega] <;> rfl) hP hS dX4_readsCell_122
        · skip
          refine lv_iload hx hb dX4_readsCell_100 (lv_at hl 0 rfl) ?_
          refine lv_bipush (v := nI 108) hx hb dX4_readsCell_102 rfl ?_
          refine lv_icmp_eq (tgt := 123) hx hb dX4_readsCell_104 (by decide) (fun c104 => ?_) (fun c104 => ?_)
          · skip
            exact absurd (hk.1.symm.trans c104) (by decide)
          · skip
            refine lv_iload hx hb dX4_readsCell_107 (lv_at hl 0 rfl) ?_
            refine lv_bipush (v := nI 117) hx hb dX4_readsCell_109 rfl ?_
            refine lv_icmp_eq (tgt := 123) hx hb dX4_readsCell_111 (by decide) (fun c111 => ?_) (fun c111 => ?_)
            · skip
              exact absurd (hk.1.symm.trans c111) (by decide)
            · skip
              refine lv_iload hx hb dX4_readsCell_114 (lv_at hl 0 rfl) ?_
              refine lv_bipush (v := nI 116) hx hb dX4_readsCell_116 rfl ?_
              refine lv_icmp_eq (tgt := 123) hx hb dX4_readsCell_118 (by decide) (fun c118 => ?_) (fun c118 => ?_)
              · skip
                refine lv_aload_n hx hb dX4_readsCell_123 rfl (lv_at hl 1 rfl) ?_
                refine lv_dup hx hb dX4_readsCell_124 rfl ?_
                refine x_get (D := (dC, dI)) (ci := 4) (v := .int (nI p)) (C := RX4) (T := TX4) (N := 31) hx hb hts hinX4 hown hK hP 0 rfl rfl 14 (Nat.le_of_ble_eq_true rfl) hf92 rfl rfl dX4_readsCell_125 ?_
                refine lv_iconst (v := nI 1) hx hb dX4_readsCell_128 rfl ?_
                refine x_iadd hx hb dX4_readsCell_129 ?_
                refine x_put (D := (dC, dI)) (ci := 4) (v := .int (nI (p + 1))) (C := RX4) (T := TX4) (N := 31) (wn := wM cI cZ q n mb (fR f (p + 1) h w be th) Y) hx hb hts hinX4 tyX4 tyX4_ok nmX4 hown hK hP hD hS 0 rfl rfl 14 (Nat.le_of_ble_eq_true rfl) hf92 rfl rfl rfl rfl (Nat.le_of_ble_eq_true rfl) rfl dX4_readsCell_130 (fun H locs hP hS => ?_)
                have hD : va_D Z (wM cI cZ q n mb (fR f (p + 1) h w be th) Y) := hD.same rfl
                refine lv_aload_n hx hb dX4_readsCell_133 rfl (lv_at hl 1 rfl) ?_
                refine lv_iload_n hx hb dX4_readsCell_134 rfl (lv_at hl 2 rfl) ?_
                refine lv_iload_n hx hb dX4_readsCell_135 rfl (lv_at hl 3 rfl) ?_
                refine lv_iconst (v := nI 1) hx hb dX4_readsCell_136 rfl ?_
                refine lv_bipush (v := nI 9) hx hb dX4_readsCell_137 rfl ?_
                refine rwW_i (As := [.int (nI fr), .int (nI ln), .int (nI 1), .int (nI 9)]) (rest := []) (wn := wM cI cZ q n mb (fR f (if dgN E ln (p + 1) 1 9 = 0 then (p + 1) else (p + 1) + 1) h w be th) Y) ⟨hx, hb, hml, hown, hts⟩ (kX4_figure l dC dI cI cZ q n mb f (p + 1) h w be th Y E fr ln 1 9 _ hln hfr hE (by omega) (by omega) (by omega) (by omega)) (cwV 4 hts gX4_readsCell_X4_figure rfl rfl rfl hdX4_figure ⟨Nat.le_trans (Nat.le_of_ble_eq_true rfl) hRf, Nat.le_trans (Nat.le_of_ble_eq_true rfl) hRl⟩) (va_recv hK hP (ci := 4) (q0 := 0) rfl rfl) hK rfl hl.1 rfl (Nat.le_of_ble_eq_true rfl) dX4_readsCell_139 ⟨Nat.zero_le _, Nat.zero_le _⟩ hP hD hS hA [0, 1, 2, 3, 4, 5, 6, 7, 8, 9, 10, 11, 12, 13, 14, 15, 16] [] [0, 1, 2, 3, 4, 5, 6, 7, 8, 9, 10, 11, 12, 13, 14, 15, 16] rfl rfl (by decide) (by decide) (by decide) rfl rfl (fun H locs hP hS => ?_)
                have hD : va_D Z (wM cI cZ q n mb (fR f (if dgN E ln (p + 1) 1 9 = 0 then (p + 1) else (p + 1) + 1) h w be th) Y) := hD.same rfl
                refine lv_istore (lv' := [(5, .int (dgI (dgN E ln (p + 1) 1 9))), (4, .int (cdM E ln p)), (0, .ref (q 0)), (1, .int (nI fr)), (2, .int (nI ln)), (3, .int (nI c))]) hx hb dX4_readsCell_142 hl (by decide) rfl (fun ls hl => ?_)
                refine lv_iload hx hb dX4_readsCell_144 (lv_at hl 0 rfl) ?_
                refine lv_if_ge (tgt := 151) hx hb dX4_readsCell_146 (by decide) (fun c146 => ?_) (fun c146 => ?_)
                · skip
                  have hd : ¬ dgN E ln (p + 1) 1 9 = 0 := (dgI_ge (Nat.lt_of_le_of_lt (dgN_le (by decide)) (by decide))).mp c146
                  rw [dI_nz hd] at hl
                  have hP : va_P (dC, dI) vwCl (wM cI cZ q n mb (fR f (p + 2) h w be th) Y) H := by rw [if_neg hd] at hP; exact hP
                  have hD : va_D Z (wM cI cZ q n mb (fR f (p + 2) h w be th) Y) := hD.same rfl
                  refine lv_aload_n hx hb dX4_readsCell_151 rfl (lv_at hl 2 rfl) ?_
                  refine x_get (D := (dC, dI)) (ci := 4) (v := .ref (q 8)) (C := RX4) (T := TX4) (N := 31) hx hb hts hinX4 hown hK hP 0 rfl rfl 19 (Nat.le_of_ble_eq_true rfl) hf32 rfl rfl dX4_readsCell_152 ?_
                  refine lv_iload_n hx hb dX4_readsCell_155 rfl (lv_at hl 5 rfl) ?_
                  refine lv_bipush (v := nI 10) hx hb dX4_readsCell_156 rfl ?_
                  refine lv_aload_n hx hb dX4_readsCell_158 rfl (lv_at hl 2 rfl) ?_
                  refine x_get (D := (dC, dI)) (ci := 4) (v := .int (nI th)) (C := RX4) (T := TX4) (N := 31) hx hb hts hinX4 hown hK hP 0 rfl rfl 18 (Nat.le_of_ble_eq_true rfl) hf102 rfl rfl dX4_readsCell_159 ?_
                  refine x_iadd hx hb dX4_readsCell_162 ?_
                  refine x_iast (wn := wM cI cZ q n mb (fR f (p + 2) h w be th) (uX Y 7 c (nI (10 + th)))) hx hb hK hP hD hS 8 0 rfl rfl (by omega) (by decide) rfl dX4_readsCell_163 (fun H locs hP hS => ?_)
                  have hD : va_D Z (wM cI cZ q n mb (fR f (p + 2) h w be th) (uX Y 7 c (nI (10 + th)))) := hD.same rfl
                  refine lv_aload_n hx hb dX4_readsCell_164 rfl (lv_at hl 2 rfl) ?_
                  refine x_get (D := (dC, dI)) (ci := 4) (v := .ref (q 10)) (C := RX4) (T := TX4) (N := 31) hx hb hts hinX4 hown hK hP 0 rfl rfl 21 (Nat.le_of_ble_eq_true rfl) hf38 rfl rfl dX4_readsCell_165 ?_
                  refine lv_aload_n hx hb dX4_readsCell_168 rfl (lv_at hl 2 rfl) ?_
                  refine x_get (D := (dC, dI)) (ci := 4) (v := .int (nI th)) (C := RX4) (T := TX4) (N := 31) hx hb hts hinX4 hown hK hP 0 rfl rfl 18 (Nat.le_of_ble_eq_true rfl) hf102 rfl rfl dX4_readsCell_169 ?_
                  refine lv_iload hx hb dX4_readsCell_172 (lv_at hl 1 rfl) ?_
                  refine lv_bipush (v := nI 108) hx hb dX4_readsCell_174 rfl ?_
                  refine lv_icmp_ne (tgt := 183) hx hb dX4_readsCell_176 (by decide) (fun c176 => ?_) (fun c176 => ?_)
                  · skip
                    refine lv_iload hx hb dX4_readsCell_183 (lv_at hl 1 rfl) ?_
                    refine lv_bipush (v := nI 117) hx hb dX4_readsCell_185 rfl ?_
                    refine lv_icmp_ne (tgt := 194) hx hb dX4_readsCell_187 (by decide) (fun c187 => ?_) (fun c187 => ?_)
                    · skip
                      refine lv_iconst (v := nI 2) hx hb dX4_readsCell_194 rfl ?_
                      refine x_iast (wn := wM cI cZ q n mb (fR f (p + 2) h w be th) (uX (uX Y 7 c (nI (10 + th))) 9 th (nI 2))) hx hb hK hP hD hS 10 0 rfl rfl (by omega) (by decide) rfl dX4_readsCell_195 (fun H locs hP hS => ?_)
                      have hD : va_D Z (wM cI cZ q n mb (fR f (p + 2) h w be th) (uX (uX Y 7 c (nI (10 + th))) 9 th (nI 2))) := hD.same rfl
                      refine lv_aload_n hx hb dX4_readsCell_196 rfl (lv_at hl 2 rfl) ?_
                      refine x_get (D := (dC, dI)) (ci := 4) (v := .ref (q 11)) (C := RX4) (T := TX4) (N := 31) hx hb hts hinX4 hown hK hP 0 rfl rfl 22 (Nat.le_of_ble_eq_true rfl) hf41 rfl rfl dX4_readsCell_197 ?_
                      refine lv_aload_n hx hb dX4_readsCell_200 rfl (lv_at hl 2 rfl) ?_
                      refine x_get (D := (dC, dI)) (ci := 4) (v := .int (nI th)) (C := RX4) (T := TX4) (N := 31) hx hb hts hinX4 hown hK hP 0 rfl rfl 18 (Nat.le_of_ble_eq_true rfl) hf102 rfl rfl dX4_readsCell_201 ?_
                      refine lv_iload_n hx hb dX4_readsCell_204 rfl (lv_at hl 5 rfl) ?_
                      refine x_iast (wn := wM cI cZ q n mb (fR f (p + 2) h w be th) (uX (uX (uX Y 7 c (nI (10 + th))) 9 th (nI 2)) 10 th (nI c))) hx hb hK hP hD hS 11 0 rfl rfl (by omega) (by decide) rfl dX4_readsCell_205 (fun H locs hP hS => ?_)
                      have hD : va_D Z (wM cI cZ q n mb (fR f (p + 2) h w be th) (uX (uX (uX Y 7 c (nI (10 + th))) 9 th (nI 2)) 10 th (nI c))) := hD.same rfl
                      refine lv_aload_n hx hb dX4_readsCell_206 rfl (lv_at hl 2 rfl) ?_
                      refine x_get (D := (dC, dI)) (ci := 4) (v := .ref (q 12)) (C := RX4) (T := TX4) (N := 31) hx hb hts hinX4 hown hK hP 0 rfl rfl 23 (Nat.le_of_ble_eq_true rfl) hf44 rfl rfl dX4_readsCell_207 ?_
                      refine lv_aload_n hx hb dX4_readsCell_210 rfl (lv_at hl 2 rfl) ?_
                      refine x_get (D := (dC, dI)) (ci := 4) (v := .int (nI th)) (C := RX4) (T := TX4) (N := 31) hx hb hts hinX4 hown hK hP 0 rfl rfl 18 (Nat.le_of_ble_eq_true rfl) hf102 rfl rfl dX4_readsCell_211 ?_
                      refine lv_iload hx hb dX4_readsCell_214 (lv_at hl 0 rfl) ?_
                      refine x_iast (wn := wM cI cZ q n mb (fR f (p + 2) h w be th) (uX (uX (uX (uX Y 7 c (nI (10 + th))) 9 th (nI 2)) 10 th (nI c)) 11 th (nI (dgN E ln (p + 1) 1 9)))) hx hb hK hP hD hS 12 0 rfl rfl (by omega) (by decide) rfl dX4_readsCell_216 (fun H locs hP hS => ?_)
                      have hD : va_D Z (wM cI cZ q n mb (fR f (p + 2) h w be th) (uX (uX (uX (uX Y 7 c (nI (10 + th))) 9 th (nI 2)) 10 th (nI c)) 11 th (nI (dgN E ln (p + 1) 1 9)))) := hD.same rfl
                      refine lv_aload_n hx hb dX4_readsCell_217 rfl (lv_at hl 2 rfl) ?_
                      refine lv_dup hx hb dX4_readsCell_218 rfl ?_
                      refine x_get (D := (dC, dI)) (ci := 4) (v := .int (nI th)) (C := RX4) (T := TX4) (N := 31) hx hb hts hinX4 hown hK hP 0 rfl rfl 18 (Nat.le_of_ble_eq_true rfl) hf102 rfl rfl dX4_readsCell_219 ?_
                      refine lv_iconst (v := nI 1) hx hb dX4_readsCell_222 rfl ?_
                      refine x_iadd hx hb dX4_readsCell_223 ?_
                      refine x_put (D := (dC, dI)) (ci := 4) (v := .int (nI (th + 1))) (C := RX4) (T := TX4) (N := 31) (wn := wM cI cZ q n mb (fR f (p + 2) h w be (th + 1)) (uX (uX (uX (uX Y 7 c (nI (10 + th))) 9 th (nI 2)) 10 th (nI c)) 11 th (nI (dgN E ln (p + 1) 1 9)))) hx hb hts hinX4 tyX4 tyX4_ok nmX4 hown hK hP hD hS 0 rfl rfl 18 (Nat.le_of_ble_eq_true rfl) hf102 rfl rfl rfl rfl (Nat.le_of_ble_eq_true rfl) rfl dX4_readsCell_224 (fun H locs hP hS => ?_)
                      have hD : va_D Z (wM cI cZ q n mb (fR f (p + 2) h w be (th + 1)) (uX (uX (uX (uX Y 7 c (nI (10 + th))) 9 th (nI 2)) 10 th (nI c)) 11 th (nI (dgN E ln (p + 1) 1 9)))) := hD.same rfl
                      refine lv_iconst (v := nI 1) hx hb dX4_readsCell_227 rfl ?_
                      exact hend _ _ _ _ _ _ (n1_b (by rw [tcO, hk.2]; simp [hd]; omega)) (by simp only [tcP, tcB, mcT, mcY, hk.2]; simp [show ¬ th = 10 by omega, hd] <;> rfl) hP hS dX4_readsCell_228
                    · skip
                      exact absurd (hk.1.symm.trans c187) (by decide)
                  · skip
                    exact absurd (hk.1.symm.trans c176) (by decide)
                · skip
                  have hd : dgN E ln (p + 1) 1 9 = 0 := Classical.not_not.mp (mt (dgI_ge (Nat.lt_of_le_of_lt (dgN_le (by decide)) (by decide))).mpr c146)
                  have hP : va_P (dC, dI) vwCl (wM cI cZ q n mb (fR f (p + 1) h w be th) Y) H := by rw [if_pos hd] at hP; exact hP
                  have hD : va_D Z (wM cI cZ q n mb (fR f (p + 1) h w be th) Y) := hD.same rfl
                  refine lv_iconst (v := nI 0) hx hb dX4_readsCell_149 rfl ?_
                  exact hend _ _ _ _ _ _ (n0_b (by rw [tcO, hk.2]; simp [hd])) (by simp only [tcP, tcB, mcT, mcY, hk.2]; simp [show ¬ th = 10 by omega, hd] <;> rfl) hP hS dX4_readsCell_150
              · skip
                exact absurd hk.1 c118
      · skip
        exact absurd (hk.1.symm.trans c38) (by decide)
    · skip
      exact absurd (hk.1.symm.trans c12) (by decide)
  · skip
    refine lv_iload hx hb dX4_readsCell_8 (lv_at hl 0 rfl) ?_
    refine lv_bipush (v := nI 46) hx hb dX4_readsCell_10 rfl ?_
    refine lv_icmp_ne (tgt := 34) hx hb dX4_readsCell_12 (by decide) (fun c12 => ?_) (fun c12 => ?_)
    · skip
      refine lv_iload hx hb dX4_readsCell_34 (lv_at hl 0 rfl) ?_
      refine lv_bipush (v := nI 98) hx hb dX4_readsCell_36 rfl ?_
      refine lv_icmp_ne (tgt := 91) hx hb dX4_readsCell_38 (by decide) (fun c38 => ?_) (fun c38 => ?_)
      · skip
        refine lv_aload_n hx hb dX4_readsCell_91 rfl (lv_at hl 1 rfl) ?_
        refine x_get (D := (dC, dI)) (ci := 4) (v := .int (nI th)) (C := RX4) (T := TX4) (N := 31) hx hb hts hinX4 hown hK hP 0 rfl rfl 18 (Nat.le_of_ble_eq_true rfl) hf102 rfl rfl dX4_readsCell_92 ?_
        refine lv_bipush (v := nI 10) hx hb dX4_readsCell_95 rfl ?_
        refine x_icmp_eq (tgt := 121) hx hb (by omega) (by omega) dX4_readsCell_97 (by decide) (fun c97 => ?_) (fun c97 => ?_)
        · skip
          refine lv_iconst (v := nI 0) hx hb dX4_readsCell_121 rfl ?_
          exact hend _ _ _ _ _ _ (n0_b (by rw [tcO, hk.2]; simp)) (by simp only [tcP, tcB, mcT, mcY, hk.2]; rfl) hP hS dX4_readsCell_122
        · skip
          refine lv_iload hx hb dX4_readsCell_100 (lv_at hl 0 rfl) ?_
          refine lv_bipush (v := nI 108) hx hb dX4_readsCell_102 rfl ?_
          refine lv_icmp_eq (tgt := 123) hx hb dX4_readsCell_104 (by decide) (fun c104 => ?_) (fun c104 => ?_)
          · skip
            exact absurd c104 hk.1.2.2.1
          · skip
            refine lv_iload hx hb dX4_readsCell_107 (lv_at hl 0 rfl) ?_
            refine lv_bipush (v := nI 117) hx hb dX4_readsCell_109 rfl ?_
            refine lv_icmp_eq (tgt := 123) hx hb dX4_readsCell_111 (by decide) (fun c111 => ?_) (fun c111 => ?_)
            · skip
              exact absurd c111 hk.1.2.2.2.1
            · skip
              refine lv_iload hx hb dX4_readsCell_114 (lv_at hl 0 rfl) ?_
              refine lv_bipush (v := nI 116) hx hb dX4_readsCell_116 rfl ?_
              refine lv_icmp_eq (tgt := 123) hx hb dX4_readsCell_118 (by decide) (fun c118 => ?_) (fun c118 => ?_)
              · skip
                exact absurd c118 hk.1.2.2.2.2
              · skip
                refine lv_iconst (v := nI 0) hx hb dX4_readsCell_121 rfl ?_
                exact hend _ _ _ _ _ _ (n0_b (by rw [tcO, hk.2]; simp)) (by simp only [tcP, tcB, mcT, mcY, hk.2]; rfl) hP hS dX4_readsCell_122
      · skip
        exact absurd c38 hk.1.2.1
    · skip
      exact absurd c12 hk.1.1
theorem hdX4_readsCell : yX4_readsCell.cls = RX4 ∧ yX4_readsCell.cls ≠ "java/lang/invoke/MethodHandle" ∧ yX4_readsCell.cls ≠ "java/lang/invoke/VarHandle" ∧ (parseMethodDescriptor yX4_readsCell.desc).map (fun d => d.parameters.length) = some 3 := by decide +kernel
set_option maxRecDepth 20000 in
theorem ggX4_readsSquare_X4_codeAt : GoodIn wsX4_readsSquare wsX4_codeAt := goodIn_r _ [10, 1, 11, 28, 29, 30, 31, 32, 33, 34, 35, 36, 37, 38, 39, 40, 41, 42, 43, 44, 45, 46, 47, 48, 49, 50, 51, 52, 53, 54, 55, 56, 57, 58] (by decide +kernel) (by decide +kernel)
set_option maxRecDepth 20000 in
theorem gX4_readsSquare_X4_codeAt : GoodIn wsX4_readsSquare (wsV RX4 95 RX4 yX4_codeAt wsX4_codeAt) := goodIn_app (goodIn_of _ (by decide +kernel)) ggX4_readsSquare_X4_codeAt
set_option maxRecDepth 20000 in
theorem ggX4_readsSquare_X4_figure : GoodIn wsX4_readsSquare wsX4_figure := goodIn_r _ [15, 1, 6, 7, 8, 9, 10, 11, 16, 17, 18, 28, 29, 30, 31, 32, 33, 34, 35, 36, 37, 38, 39, 40, 41, 42, 43, 44, 45, 46, 47, 48, 49, 50, 51, 52, 53, 54, 55, 56, 57, 58] (by decide +kernel) (by decide +kernel)
set_option maxRecDepth 20000 in
theorem gX4_readsSquare_X4_figure : GoodIn wsX4_readsSquare (wsV RX4 105 RX4 yX4_figure wsX4_figure) := goodIn_app (goodIn_of _ (by decide +kernel)) ggX4_readsSquare_X4_figure
set_option maxRecDepth 20000 in
theorem ggX4_readsSquare_X4_readsCell : GoodIn wsX4_readsSquare wsX4_readsCell := goodIn_r _ [22, 23, 1, 2, 24, 3, 25, 26, 27, 6, 7, 8, 9, 10, 11, 12, 13, 14, 15, 16, 17, 18, 28, 29, 30, 31, 32, 33, 34, 35, 36, 37, 38, 39, 40, 41, 42, 43, 44, 45, 46, 47, 48, 49, 50, 51, 52, 53, 54, 55, 56, 57, 58] (by decide +kernel) (by decide +kernel)
set_option maxRecDepth 20000 in
theorem gX4_readsSquare_X4_readsCell : GoodIn wsX4_readsSquare (wsV RX4 115 RX4 yX4_readsCell wsX4_readsCell) := goodIn_app (goodIn_of _ (by decide +kernel)) ggX4_readsSquare_X4_readsCell
set_option maxHeartbeats 4000000 in
set_option maxRecDepth 100000 in
theorem kX4_readsSquare (l : Launch) (dC : Nat → ClassId) (dI : Nat → Nat → Nat) (cI cZ : ClassId) (q n : Nat → Nat) (mb : Int32) (f : Nat → Int32) (Y : Nat → Nat → Int32) (E : Nat → Int32) (fr ln : Nat) (sz : Nat) (hln : ln ≤ 100) (hfr : fr + ln ≤ 400) (hE : ∀ j, j < ln → Y 14 (fr + j) = E j) : Met l yX4_readsSquare wsX4_readsSquare ({ frames := 3, cells := 0, slots := 0, locals := 76 }) (rwP [.ref (q 0), .int (nI fr), .int (nI ln)] sz (dC, dI) [(cI, .int), (cZ, .boolean)] (wM cI cZ q n mb f Y)) (rwQi (bI (mrV E ln Y)) (dC, dI) (wM cI cZ q n mb f Y) (wM cI cZ q n mb (mrF E ln Y f) (mrY E ln Y)) sz) 0 0 (va_A (wM cI cZ q n mb f Y) sz) := by
  refine rw_met_z (by decide) rfl (Nat.le_of_ble_eq_true rfl) ?_
  intro pp ee ss mm aa bb me cd RR QQ Z hx hb hml hown hts hRf hRl hP hK hD hA hS hend ls hl
  have hown : ss.vm.findClass RX4 = some mm.cls := hown
  have hRf : 3 ≤ RR.frames := hRf
  have hRl : 76 ≤ RR.locals := hRl
  have hl : lv_has ls 5 [(0, .ref (q 0)), (1, .int (nI fr)), (2, .int (nI ln))] := hl
  have hf92 := hts (.fieldLink RX4 92 "StatueSquareModel" "readAt" "I") (List.mem_of_getElem? (i := 1) rfl)
  have hinX4 : ∀ w ∈ u_ws RX4 TX4 31, w ∈ wsX4_readsSquare := fun _ h => List.mem_cons_of_mem _ (List.mem_append_right _ h)
  have hf99 := hts (.fieldLink RX4 99 "StatueSquareModel" "readBenches" "I") (List.mem_of_getElem? (i := 2) rfl)
  have hf102 := hts (.fieldLink RX4 102 "StatueSquareModel" "readThings" "I") (List.mem_of_getElem? (i := 3) rfl)
  have hf109 := hts (.fieldLink RX4 109 "StatueSquareModel" "readHigh" "I") (List.mem_of_getElem? (i := 4) rfl)
  have hf112 := hts (.fieldLink RX4 112 "StatueSquareModel" "readWide" "I") (List.mem_of_getElem? (i := 5) rfl)
  refine lv_aload_n hx hb dX4_readsSquare_0 rfl (lv_at hl 0 rfl) ?_
  refine lv_iconst (v := nI 0) hx hb dX4_readsSquare_1 rfl ?_
  refine x_put (D := (dC, dI)) (ci := 4) (v := .int (nI 0)) (C := RX4) (T := TX4) (N := 31) (wn := wM cI cZ q n mb (uF f 14 (nI 0)) Y) hx hb hts hinX4 tyX4 tyX4_ok nmX4 hown hK hP hD hS 0 rfl rfl 14 (Nat.le_of_ble_eq_true rfl) hf92 rfl rfl rfl rfl (Nat.le_of_ble_eq_true rfl) rfl dX4_readsSquare_2 (fun H locs hP hS => ?_)
  have hD : va_D Z (wM cI cZ q n mb (uF f 14 (nI 0)) Y) := hD.same rfl
  refine lv_aload_n hx hb dX4_readsSquare_5 rfl (lv_at hl 0 rfl) ?_
  refine lv_iconst (v := nI 0) hx hb dX4_readsSquare_6 rfl ?_
  refine x_put (D := (dC, dI)) (ci := 4) (v := .int (nI 0)) (C := RX4) (T := TX4) (N := 31) (wn := wM cI cZ q n mb (uF (uF f 14 (nI 0)) 17 (nI 0)) Y) hx hb hts hinX4 tyX4 tyX4_ok nmX4 hown hK hP hD hS 0 rfl rfl 17 (Nat.le_of_ble_eq_true rfl) hf99 rfl rfl rfl rfl (Nat.le_of_ble_eq_true rfl) rfl dX4_readsSquare_7 (fun H locs hP hS => ?_)
  have hD : va_D Z (wM cI cZ q n mb (uF (uF f 14 (nI 0)) 17 (nI 0)) Y) := hD.same rfl
  refine lv_aload_n hx hb dX4_readsSquare_10 rfl (lv_at hl 0 rfl) ?_
  refine lv_iconst (v := nI 0) hx hb dX4_readsSquare_11 rfl ?_
  refine x_put (D := (dC, dI)) (ci := 4) (v := .int (nI 0)) (C := RX4) (T := TX4) (N := 31) (wn := wM cI cZ q n mb (uF (uF (uF f 14 (nI 0)) 17 (nI 0)) 18 (nI 0)) Y) hx hb hts hinX4 tyX4 tyX4_ok nmX4 hown hK hP hD hS 0 rfl rfl 18 (Nat.le_of_ble_eq_true rfl) hf102 rfl rfl rfl rfl (Nat.le_of_ble_eq_true rfl) rfl dX4_readsSquare_12 (fun H locs hP hS => ?_)
  have hD : va_D Z (wM cI cZ q n mb (uF (uF (uF f 14 (nI 0)) 17 (nI 0)) 18 (nI 0)) Y) := hD.same rfl
  have hP : va_P (dC, dI) vwCl (wM cI cZ q n mb (fR f 0 (f 15) (f 16) 0 0) Y) H := by exact hP
  have hD : va_D Z (wM cI cZ q n mb (fR f 0 (f 15) (f 16) 0 0) Y) := hD.same rfl
  refine lv_aload_n hx hb dX4_readsSquare_15 rfl (lv_at hl 0 rfl) ?_
  refine lv_iload_n hx hb dX4_readsSquare_16 rfl (lv_at hl 1 rfl) ?_
  refine lv_iload_n hx hb dX4_readsSquare_17 rfl (lv_at hl 2 rfl) ?_
  refine roV_i (As := [.int (nI fr), .int (nI ln)]) (rest := []) ⟨hx, hb, hml, hown, hts⟩ (kX4_codeAt l dC dI cI cZ q n mb f 0 (f 15) (f 16) 0 0 Y E fr ln  _ hln hfr hE (by omega)) (cwV 2 hts gX4_readsSquare_X4_codeAt rfl rfl rfl hdX4_codeAt ⟨Nat.le_trans (Nat.le_of_ble_eq_true rfl) hRf, Nat.le_trans (Nat.le_of_ble_eq_true rfl) hRl⟩) (va_recv hK hP (ci := 4) (q0 := 0) rfl rfl) hK hP rfl hl.1 rfl (Nat.le_of_ble_eq_true rfl) dX4_readsSquare_18 ⟨Nat.zero_le _, Nat.zero_le _⟩ hP hS hA (fun H locs hP hS => ?_)
  refine lv_bipush (v := nI 113) hx hb dX4_readsSquare_21 rfl ?_
  refine lv_icmp_ne (tgt := 30) hx hb dX4_readsSquare_23 (by decide) (fun c23 => ?_) (fun c23 => ?_)
  · skip
    refine lv_iconst (v := nI 0) hx hb dX4_readsSquare_30 rfl ?_
    refine lv_istore_n (lv' := [(3, .int (nI 0)), (0, .ref (q 0)), (1, .int (nI fr)), (2, .int (nI ln))]) hx hb dX4_readsSquare_31 rfl hl (by decide) rfl (fun ls hl => ?_)
    refine lv_aload_n hx hb dX4_readsSquare_32 rfl (lv_at hl 1 rfl) ?_
    refine lv_dup hx hb dX4_readsSquare_33 rfl ?_
    refine x_get (D := (dC, dI)) (ci := 4) (v := .int (nI 0)) (C := RX4) (T := TX4) (N := 31) hx hb hts hinX4 hown hK hP 0 rfl rfl 14 (Nat.le_of_ble_eq_true rfl) hf92 rfl rfl dX4_readsSquare_34 ?_
    refine lv_iload_n hx hb dX4_readsSquare_37 rfl (lv_at hl 0 rfl) ?_
    refine x_if_eq (tgt := 45) hx hb (by omega) dX4_readsSquare_38 (by decide) (fun c38 => ?_) (fun c38 => absurd c38 (by decide))
    refine lv_iconst (v := nI 0) hx hb dX4_readsSquare_45 rfl ?_
    refine x_iadd hx hb dX4_readsSquare_46 ?_
    refine x_put (D := (dC, dI)) (ci := 4) (v := .int (nI (0 + 0))) (C := RX4) (T := TX4) (N := 31) (wn := wM cI cZ q n mb (fR f (0 + 0) (f 15) (f 16) 0 0) Y) hx hb hts hinX4 tyX4 tyX4_ok nmX4 hown hK hP hD hS 0 rfl rfl 14 (Nat.le_of_ble_eq_true rfl) hf92 rfl rfl rfl rfl (Nat.le_of_ble_eq_true rfl) rfl dX4_readsSquare_47 (fun H locs hP hS => ?_)
    have hD : va_D Z (wM cI cZ q n mb (fR f (0 + 0) (f 15) (f 16) 0 0) Y) := hD.same rfl
    have hP : va_P (dC, dI) vwCl (wM cI cZ q n mb (fR f 0 (f 15) (f 16) 0 0) Y) H := by exact hP
    have hD : va_D Z (wM cI cZ q n mb (fR f 0 (f 15) (f 16) 0 0) Y) := hD.same rfl
    refine lv_aload_n hx hb dX4_readsSquare_50 rfl (lv_at hl 1 rfl) ?_
    refine lv_iload_n hx hb dX4_readsSquare_51 rfl (lv_at hl 0 rfl) ?_
    refine x_if_eq (tgt := 67) hx hb (by omega) dX4_readsSquare_52 (by decide) (fun c52 => ?_) (fun c52 => absurd c52 (by decide))
    refine lv_bipush (v := -9) hx hb dX4_readsSquare_67 rfl ?_
    refine x_put (D := (dC, dI)) (ci := 4) (v := .int (-9)) (C := RX4) (T := TX4) (N := 31) (wn := wM cI cZ q n mb (fR f 0 (-9) (f 16) 0 0) Y) hx hb hts hinX4 tyX4 tyX4_ok nmX4 hown hK hP hD hS 0 rfl rfl 15 (Nat.le_of_ble_eq_true rfl) hf109 rfl rfl rfl rfl (Nat.le_of_ble_eq_true rfl) rfl dX4_readsSquare_69 (fun H locs hP hS => ?_)
    have hD : va_D Z (wM cI cZ q n mb (fR f 0 (-9) (f 16) 0 0) Y) := hD.same rfl
    refine lv_aload_n hx hb dX4_readsSquare_72 rfl (lv_at hl 1 rfl) ?_
    refine lv_aload_n hx hb dX4_readsSquare_73 rfl (lv_at hl 1 rfl) ?_
    refine x_get (D := (dC, dI)) (ci := 4) (v := .int (-9)) (C := RX4) (T := TX4) (N := 31) hx hb hts hinX4 hown hK hP 0 rfl rfl 15 (Nat.le_of_ble_eq_true rfl) hf109 rfl rfl dX4_readsSquare_74 ?_
    refine lv_if_le (tgt := 92) hx hb dX4_readsSquare_77 (by decide) (fun c77 => ?_) (fun c77 => ?_)
    · skip
      refine lv_bipush (v := -9) hx hb dX4_readsSquare_92 rfl ?_
      refine x_put (D := (dC, dI)) (ci := 4) (v := .int (-9)) (C := RX4) (T := TX4) (N := 31) (wn := wM cI cZ q n mb (fR f 0 (-9) (-9) 0 0) Y) hx hb hts hinX4 tyX4 tyX4_ok nmX4 hown hK hP hD hS 0 rfl rfl 16 (Nat.le_of_ble_eq_true rfl) hf112 rfl rfl rfl rfl (Nat.le_of_ble_eq_true rfl) rfl dX4_readsSquare_94 (fun H locs hP hS => ?_)
      have hD : va_D Z (wM cI cZ q n mb (fR f 0 (-9) (-9) 0 0) Y) := hD.same rfl
      refine lv_aload_n hx hb dX4_readsSquare_97 rfl (lv_at hl 1 rfl) ?_
      refine x_get (D := (dC, dI)) (ci := 4) (v := .int (-9)) (C := RX4) (T := TX4) (N := 31) hx hb hts hinX4 hown hK hP 0 rfl rfl 16 (Nat.le_of_ble_eq_true rfl) hf112 rfl rfl dX4_readsSquare_98 ?_
      refine lv_if_le (tgt := 108) hx hb dX4_readsSquare_101 (by decide) (fun c101 => ?_) (fun c101 => ?_)
      · skip
        refine lv_iconst (v := nI 0) hx hb dX4_readsSquare_108 rfl ?_
        refine lv_istore_n (lv' := [(3, .int (nI 0)), (0, .ref (q 0)), (1, .int (nI fr)), (2, .int (nI ln))]) hx hb dX4_readsSquare_109 rfl hl (by decide) rfl (fun ls hl => ?_)
        refine lv_iconst (v := nI 0) hx hb dX4_readsSquare_110 rfl ?_
        refine lv_istore (lv' := [(4, .int (nI 0)), (3, .int (nI 0)), (0, .ref (q 0)), (1, .int (nI fr)), (2, .int (nI ln))]) hx hb dX4_readsSquare_111 hl (by decide) rfl (fun ls hl => ?_)
        refine lv_iload_n hx hb dX4_readsSquare_113 rfl (lv_at hl 1 rfl) ?_
        refine x_if_eq (tgt := 203) hx hb (by omega) dX4_readsSquare_114 (by decide) (fun c114 => ?_) (fun c114 => absurd c114 (by decide))
        refine lv_iload_n hx hb dX4_readsSquare_203 rfl (lv_at hl 1 rfl) ?_
        refine x_if_eq (tgt := 219) hx hb (by omega) dX4_readsSquare_204 (by decide) (fun c204 => ?_) (fun c204 => absurd c204 (by decide))
        refine lv_iconst (v := nI 0) hx hb dX4_readsSquare_219 rfl ?_
        exact hend _ _ _ _ _ _ (n0_b (by simp [mrV, Bool.eq_false_iff.mpr (mt (cdM_eq (by decide)).mpr c23)])) (by rw [mrF, mrY, if_neg (mt (cdM_eq (by decide)).mpr c23), if_neg (mt (cdM_eq (by decide)).mpr c23)] <;> rfl) hP hS dX4_readsSquare_220
      · skip
        exact absurd (by decide) c101
    · skip
      exact absurd (by decide) c77
  · skip
    have hsq : sgB E ln 0 113 = true := (cdM_eq (by decide)).mp c23
    refine lv_iconst (v := nI 1) hx hb dX4_readsSquare_26 rfl ?_
    refine lv_goto (tgt := 31) hx hb dX4_readsSquare_27 (by decide) ?_
    refine lv_istore_n (lv' := [(3, .int (nI 1)), (0, .ref (q 0)), (1, .int (nI fr)), (2, .int (nI ln))]) hx hb dX4_readsSquare_31 rfl hl (by decide) rfl (fun ls hl => ?_)
    refine lv_aload_n hx hb dX4_readsSquare_32 rfl (lv_at hl 1 rfl) ?_
    refine lv_dup hx hb dX4_readsSquare_33 rfl ?_
    refine x_get (D := (dC, dI)) (ci := 4) (v := .int (nI 0)) (C := RX4) (T := TX4) (N := 31) hx hb hts hinX4 hown hK hP 0 rfl rfl 14 (Nat.le_of_ble_eq_true rfl) hf92 rfl rfl dX4_readsSquare_34 ?_
    refine lv_iload_n hx hb dX4_readsSquare_37 rfl (lv_at hl 0 rfl) ?_
    refine x_if_eq (tgt := 45) hx hb (by omega) dX4_readsSquare_38 (by decide) (fun c38 => absurd c38 (by decide)) (fun c38 => ?_)
    refine lv_iconst (v := nI 1) hx hb dX4_readsSquare_41 rfl ?_
    refine lv_goto (tgt := 46) hx hb dX4_readsSquare_42 (by decide) ?_
    refine x_iadd hx hb dX4_readsSquare_46 ?_
    refine x_put (D := (dC, dI)) (ci := 4) (v := .int (nI (0 + 1))) (C := RX4) (T := TX4) (N := 31) (wn := wM cI cZ q n mb (fR f (0 + 1) (f 15) (f 16) 0 0) Y) hx hb hts hinX4 tyX4 tyX4_ok nmX4 hown hK hP hD hS 0 rfl rfl 14 (Nat.le_of_ble_eq_true rfl) hf92 rfl rfl rfl rfl (Nat.le_of_ble_eq_true rfl) rfl dX4_readsSquare_47 (fun H locs hP hS => ?_)
    have hD : va_D Z (wM cI cZ q n mb (fR f (0 + 1) (f 15) (f 16) 0 0) Y) := hD.same rfl
    have hP : va_P (dC, dI) vwCl (wM cI cZ q n mb (fR f 1 (f 15) (f 16) 0 0) Y) H := by exact hP
    have hD : va_D Z (wM cI cZ q n mb (fR f 1 (f 15) (f 16) 0 0) Y) := hD.same rfl
    refine lv_aload_n hx hb dX4_readsSquare_50 rfl (lv_at hl 1 rfl) ?_
    refine lv_iload_n hx hb dX4_readsSquare_51 rfl (lv_at hl 0 rfl) ?_
    refine x_if_eq (tgt := 67) hx hb (by omega) dX4_readsSquare_52 (by decide) (fun c52 => absurd c52 (by decide)) (fun c52 => ?_)
    refine lv_aload_n hx hb dX4_readsSquare_55 rfl (lv_at hl 1 rfl) ?_
    refine lv_iload_n hx hb dX4_readsSquare_56 rfl (lv_at hl 2 rfl) ?_
    refine lv_iload_n hx hb dX4_readsSquare_57 rfl (lv_at hl 3 rfl) ?_
    refine lv_iconst (v := nI 1) hx hb dX4_readsSquare_58 rfl ?_
    refine lv_bipush (v := nI 6) hx hb dX4_readsSquare_59 rfl ?_
    refine rwW_i (As := [.int (nI fr), .int (nI ln), .int (nI 1), .int (nI 6)]) (rest := [.ref (q 0)]) (wn := wM cI cZ q n mb (fR f (if dgN E ln 1 1 6 = 0 then 1 else 1 + 1) (f 15) (f 16) 0 0) Y) ⟨hx, hb, hml, hown, hts⟩ (kX4_figure l dC dI cI cZ q n mb f 1 (f 15) (f 16) 0 0 Y E fr ln 1 6 _ hln hfr hE (by omega) (by omega) (by omega) (by omega)) (cwV 4 hts gX4_readsSquare_X4_figure rfl rfl rfl hdX4_figure ⟨Nat.le_trans (Nat.le_of_ble_eq_true rfl) hRf, Nat.le_trans (Nat.le_of_ble_eq_true rfl) hRl⟩) (va_recv hK hP (ci := 4) (q0 := 0) rfl rfl) hK rfl hl.1 rfl (Nat.le_of_ble_eq_true rfl) dX4_readsSquare_61 ⟨Nat.zero_le _, Nat.zero_le _⟩ hP hD hS hA [0, 1, 2, 3, 4, 5, 6, 7, 8, 9, 10, 11, 12, 13, 14, 15, 16] [] [0, 1, 2, 3, 4, 5, 6, 7, 8, 9, 10, 11, 12, 13, 14, 15, 16] rfl rfl (by decide) (by decide) (by decide) rfl rfl (fun H locs hP hS => ?_)
    have hD : va_D Z (wM cI cZ q n mb (fR f (if dgN E ln 1 1 6 = 0 then 1 else 1 + 1) (f 15) (f 16) 0 0) Y) := hD.same rfl
    refine lv_goto (tgt := 69) hx hb dX4_readsSquare_64 (by decide) ?_
    refine x_put (D := (dC, dI)) (ci := 4) (v := .int (dgI (dgN E ln 1 1 6))) (C := RX4) (T := TX4) (N := 31) (wn := wM cI cZ q n mb (fR f (if dgN E ln 1 1 6 = 0 then 1 else 1 + 1) (dgI (dgN E ln 1 1 6)) (f 16) 0 0) Y) hx hb hts hinX4 tyX4 tyX4_ok nmX4 hown hK hP hD hS 0 rfl rfl 15 (Nat.le_of_ble_eq_true rfl) hf109 rfl rfl rfl rfl (Nat.le_of_ble_eq_true rfl) rfl dX4_readsSquare_69 (fun H locs hP hS => ?_)
    have hD : va_D Z (wM cI cZ q n mb (fR f (if dgN E ln 1 1 6 = 0 then 1 else 1 + 1) (dgI (dgN E ln 1 1 6)) (f 16) 0 0) Y) := hD.same rfl
    refine lv_aload_n hx hb dX4_readsSquare_72 rfl (lv_at hl 1 rfl) ?_
    refine lv_aload_n hx hb dX4_readsSquare_73 rfl (lv_at hl 1 rfl) ?_
    refine x_get (D := (dC, dI)) (ci := 4) (v := .int (dgI (dgN E ln 1 1 6))) (C := RX4) (T := TX4) (N := 31) hx hb hts hinX4 hown hK hP 0 rfl rfl 15 (Nat.le_of_ble_eq_true rfl) hf109 rfl rfl dX4_readsSquare_74 ?_
    refine lv_if_le (tgt := 92) hx hb dX4_readsSquare_77 (by decide) (fun c77 => ?_) (fun c77 => ?_)
    · skip
      have hd1 : dgN E ln 1 1 6 = 0 := (dgI_le (Nat.lt_of_le_of_lt (dgN_le (by decide)) (by decide))).mp c77
      have hP : va_P (dC, dI) vwCl (wM cI cZ q n mb (fR f 1 (-9) (f 16) 0 0) Y) H := by rw [if_pos hd1, show dgI (dgN E ln 1 1 6) = -9 from if_pos hd1] at hP; exact hP
      have hD : va_D Z (wM cI cZ q n mb (fR f 1 (-9) (f 16) 0 0) Y) := hD.same rfl
      refine lv_bipush (v := -9) hx hb dX4_readsSquare_92 rfl ?_
      refine x_put (D := (dC, dI)) (ci := 4) (v := .int (-9)) (C := RX4) (T := TX4) (N := 31) (wn := wM cI cZ q n mb (fR f 1 (-9) (-9) 0 0) Y) hx hb hts hinX4 tyX4 tyX4_ok nmX4 hown hK hP hD hS 0 rfl rfl 16 (Nat.le_of_ble_eq_true rfl) hf112 rfl rfl rfl rfl (Nat.le_of_ble_eq_true rfl) rfl dX4_readsSquare_94 (fun H locs hP hS => ?_)
      have hD : va_D Z (wM cI cZ q n mb (fR f 1 (-9) (-9) 0 0) Y) := hD.same rfl
      refine lv_aload_n hx hb dX4_readsSquare_97 rfl (lv_at hl 1 rfl) ?_
      refine x_get (D := (dC, dI)) (ci := 4) (v := .int (-9)) (C := RX4) (T := TX4) (N := 31) hx hb hts hinX4 hown hK hP 0 rfl rfl 16 (Nat.le_of_ble_eq_true rfl) hf112 rfl rfl dX4_readsSquare_98 ?_
      refine lv_if_le (tgt := 108) hx hb dX4_readsSquare_101 (by decide) (fun c101 => ?_) (fun c101 => ?_)
      · skip
        refine lv_iconst (v := nI 0) hx hb dX4_readsSquare_108 rfl ?_
        refine lv_istore_n (lv' := [(3, .int (nI 0)), (0, .ref (q 0)), (1, .int (nI fr)), (2, .int (nI ln))]) hx hb dX4_readsSquare_109 rfl hl (by decide) rfl (fun ls hl => ?_)
        refine lv_iconst (v := nI 0) hx hb dX4_readsSquare_110 rfl ?_
        refine lv_istore (lv' := [(4, .int (nI 0)), (3, .int (nI 0)), (0, .ref (q 0)), (1, .int (nI fr)), (2, .int (nI ln))]) hx hb dX4_readsSquare_111 hl (by decide) rfl (fun ls hl => ?_)
        refine lv_iload_n hx hb dX4_readsSquare_113 rfl (lv_at hl 1 rfl) ?_
        refine x_if_eq (tgt := 203) hx hb (by omega) dX4_readsSquare_114 (by decide) (fun c114 => ?_) (fun c114 => absurd c114 (by decide))
        refine lv_iload_n hx hb dX4_readsSquare_203 rfl (lv_at hl 1 rfl) ?_
        refine x_if_eq (tgt := 219) hx hb (by omega) dX4_readsSquare_204 (by decide) (fun c204 => ?_) (fun c204 => absurd c204 (by decide))
        refine lv_iconst (v := nI 0) hx hb dX4_readsSquare_219 rfl ?_
        exact hend _ _ _ _ _ _ (n0_b (by simp [mrV, hd1])) (by rw [mrF, mrY, if_pos hsq, if_pos hsq, if_pos hd1, if_pos hd1] <;> rfl) hP hS dX4_readsSquare_220
      · skip
        exact absurd (by decide) c101
    · skip
      have hd1 : ¬ dgN E ln 1 1 6 = 0 := mt (dgI_le (Nat.lt_of_le_of_lt (dgN_le (by decide)) (by decide))).mpr c77
      have hd1l := dgN_le (E := E) (len := ln) (p := 1) (lo := 1) (hi := 6) (by decide)
      have hP : va_P (dC, dI) vwCl (wM cI cZ q n mb (fR f 2 (nI (dgN E ln 1 1 6)) (f 16) 0 0) Y) H := by rw [if_neg hd1, dI_nz hd1] at hP; exact hP
      have hD : va_D Z (wM cI cZ q n mb (fR f 2 (nI (dgN E ln 1 1 6)) (f 16) 0 0) Y) := hD.same rfl
      refine lv_aload_n hx hb dX4_readsSquare_80 rfl (lv_at hl 1 rfl) ?_
      refine lv_iload_n hx hb dX4_readsSquare_81 rfl (lv_at hl 2 rfl) ?_
      refine lv_iload_n hx hb dX4_readsSquare_82 rfl (lv_at hl 3 rfl) ?_
      refine lv_iconst (v := nI 2) hx hb dX4_readsSquare_83 rfl ?_
      refine lv_bipush (v := nI 7) hx hb dX4_readsSquare_84 rfl ?_
      refine rwW_i (As := [.int (nI fr), .int (nI ln), .int (nI 2), .int (nI 7)]) (rest := [.ref (q 0)]) (wn := wM cI cZ q n mb (fR f (if dgN E ln 2 2 7 = 0 then 2 else 2 + 1) (nI (dgN E ln 1 1 6)) (f 16) 0 0) Y) ⟨hx, hb, hml, hown, hts⟩ (kX4_figure l dC dI cI cZ q n mb f 2 (nI (dgN E ln 1 1 6)) (f 16) 0 0 Y E fr ln 2 7 _ hln hfr hE (by omega) (by omega) (by omega) (by omega)) (cwV 4 hts gX4_readsSquare_X4_figure rfl rfl rfl hdX4_figure ⟨Nat.le_trans (Nat.le_of_ble_eq_true rfl) hRf, Nat.le_trans (Nat.le_of_ble_eq_true rfl) hRl⟩) (va_recv hK hP (ci := 4) (q0 := 0) rfl rfl) hK rfl hl.1 rfl (Nat.le_of_ble_eq_true rfl) dX4_readsSquare_86 ⟨Nat.zero_le _, Nat.zero_le _⟩ hP hD hS hA [0, 1, 2, 3, 4, 5, 6, 7, 8, 9, 10, 11, 12, 13, 14, 15, 16] [] [0, 1, 2, 3, 4, 5, 6, 7, 8, 9, 10, 11, 12, 13, 14, 15, 16] rfl rfl (by decide) (by decide) (by decide) rfl rfl (fun H locs hP hS => ?_)
      have hD : va_D Z (wM cI cZ q n mb (fR f (if dgN E ln 2 2 7 = 0 then 2 else 2 + 1) (nI (dgN E ln 1 1 6)) (f 16) 0 0) Y) := hD.same rfl
      refine lv_goto (tgt := 94) hx hb dX4_readsSquare_89 (by decide) ?_
      refine x_put (D := (dC, dI)) (ci := 4) (v := .int (dgI (dgN E ln 2 2 7))) (C := RX4) (T := TX4) (N := 31) (wn := wM cI cZ q n mb (fR f (if dgN E ln 2 2 7 = 0 then 2 else 2 + 1) (nI (dgN E ln 1 1 6)) (dgI (dgN E ln 2 2 7)) 0 0) Y) hx hb hts hinX4 tyX4 tyX4_ok nmX4 hown hK hP hD hS 0 rfl rfl 16 (Nat.le_of_ble_eq_true rfl) hf112 rfl rfl rfl rfl (Nat.le_of_ble_eq_true rfl) rfl dX4_readsSquare_94 (fun H locs hP hS => ?_)
      have hD : va_D Z (wM cI cZ q n mb (fR f (if dgN E ln 2 2 7 = 0 then 2 else 2 + 1) (nI (dgN E ln 1 1 6)) (dgI (dgN E ln 2 2 7)) 0 0) Y) := hD.same rfl
      refine lv_aload_n hx hb dX4_readsSquare_97 rfl (lv_at hl 1 rfl) ?_
      refine x_get (D := (dC, dI)) (ci := 4) (v := .int (dgI (dgN E ln 2 2 7))) (C := RX4) (T := TX4) (N := 31) hx hb hts hinX4 hown hK hP 0 rfl rfl 16 (Nat.le_of_ble_eq_true rfl) hf112 rfl rfl dX4_readsSquare_98 ?_
      refine lv_if_le (tgt := 108) hx hb dX4_readsSquare_101 (by decide) (fun c101 => ?_) (fun c101 => ?_)
      · skip
        have hd2 : dgN E ln 2 2 7 = 0 := (dgI_le (Nat.lt_of_le_of_lt (dgN_le (by decide)) (by decide))).mp c101
        have hP : va_P (dC, dI) vwCl (wM cI cZ q n mb (fR f 2 (nI (dgN E ln 1 1 6)) (-9) 0 0) Y) H := by rw [if_pos hd2, show dgI (dgN E ln 2 2 7) = -9 from if_pos hd2] at hP; exact hP
        have hD : va_D Z (wM cI cZ q n mb (fR f 2 (nI (dgN E ln 1 1 6)) (-9) 0 0) Y) := hD.same rfl
        refine lv_iconst (v := nI 0) hx hb dX4_readsSquare_108 rfl ?_
        refine lv_istore_n (lv' := [(3, .int (nI 0)), (0, .ref (q 0)), (1, .int (nI fr)), (2, .int (nI ln))]) hx hb dX4_readsSquare_109 rfl hl (by decide) rfl (fun ls hl => ?_)
        refine lv_iconst (v := nI 0) hx hb dX4_readsSquare_110 rfl ?_
        refine lv_istore (lv' := [(4, .int (nI 0)), (3, .int (nI 0)), (0, .ref (q 0)), (1, .int (nI fr)), (2, .int (nI ln))]) hx hb dX4_readsSquare_111 hl (by decide) rfl (fun ls hl => ?_)
        refine lv_iload_n hx hb dX4_readsSquare_113 rfl (lv_at hl 1 rfl) ?_
        refine x_if_eq (tgt := 203) hx hb (by omega) dX4_readsSquare_114 (by decide) (fun c114 => ?_) (fun c114 => absurd c114 (by decide))
        refine lv_iload_n hx hb dX4_readsSquare_203 rfl (lv_at hl 1 rfl) ?_
        refine x_if_eq (tgt := 219) hx hb (by omega) dX4_readsSquare_204 (by decide) (fun c204 => ?_) (fun c204 => absurd c204 (by decide))
        refine lv_iconst (v := nI 0) hx hb dX4_readsSquare_219 rfl ?_
        exact hend _ _ _ _ _ _ (n0_b (by simp [mrV, hd2])) (by rw [mrF, mrY, if_pos hsq, if_pos hsq, if_neg hd1, if_neg hd1, if_pos hd2, if_pos hd2] <;> rfl) hP hS dX4_readsSquare_220
      · skip
        have hd2 : ¬ dgN E ln 2 2 7 = 0 := mt (dgI_le (Nat.lt_of_le_of_lt (dgN_le (by decide)) (by decide))).mpr c101
        have hd2l := dgN_le (E := E) (len := ln) (p := 2) (lo := 2) (hi := 7) (by decide)
        have h42 : (dgN E ln 1 1 6) * (dgN E ln 2 2 7) ≤ 42 := Nat.mul_le_mul hd1l hd2l
        have hP : va_P (dC, dI) vwCl (wM cI cZ q n mb (fR f 3 (nI (dgN E ln 1 1 6)) (nI (dgN E ln 2 2 7)) 0 0) Y) H := by rw [if_neg hd2, dI_nz hd2] at hP; exact hP
        have hD : va_D Z (wM cI cZ q n mb (fR f 3 (nI (dgN E ln 1 1 6)) (nI (dgN E ln 2 2 7)) 0 0) Y) := hD.same rfl
        refine lv_iconst (v := nI 1) hx hb dX4_readsSquare_104 rfl ?_
        refine lv_goto (tgt := 109) hx hb dX4_readsSquare_105 (by decide) ?_
        refine lv_istore_n (lv' := [(3, .int (nI 1)), (0, .ref (q 0)), (1, .int (nI fr)), (2, .int (nI ln))]) hx hb dX4_readsSquare_109 rfl hl (by decide) rfl (fun ls hl => ?_)
        refine lv_iconst (v := nI 0) hx hb dX4_readsSquare_110 rfl ?_
        refine lv_istore (lv' := [(4, .int (nI 0)), (3, .int (nI 1)), (0, .ref (q 0)), (1, .int (nI fr)), (2, .int (nI ln))]) hx hb dX4_readsSquare_111 hl (by decide) rfl (fun ls hl => ?_)
        have L113 : ∀ (fuel : Nat) (c : Nat) (hcl : c ≤ (dgN E ln 1 1 6) * (dgN E ln 2 2 7)) (hfu : (dgN E ln 1 1 6) * (dgN E ln 2 2 7) - c < fuel) (H : Heap) (locs : List Loc), va_P (dC, dI) vwCl (wM cI cZ q n mb (fR f ((mR E ln (dgN E ln 2 2 7) Y c).2.1.1) (nI (dgN E ln 1 1 6)) (nI (dgN E ln 2 2 7)) ((mR E ln (dgN E ln 2 2 7) Y c).2.1.2.1) ((mR E ln (dgN E ln 2 2 7) Y c).2.1.2.2)) ((mR E ln (dgN E ln 2 2 7) Y c).2.2)) H → va_S Z ss.heap H locs → ∀ (ls : Array Slot), lv_has ls 5 [(0, .ref (q 0)), (1, .int (nI fr)), (2, .int (nI ln)), (3, .int (bI ((mR E ln (dgN E ln 2 2 7) Y c).1))), (4, .int (nI c))] → W pp l ee RR ss mm aa bb me cd H locs 0 0 QQ (F0 mm 113 ls []) := by
          intro fuel
          induction fuel with
          | zero => intro c hcl hfu; exact absurd hfu (Nat.not_lt_zero _)
          | succ fuel ih =>
            intro c hcl hfu H locs hP hS ls hl
            have hD : va_D Z (wM cI cZ q n mb (fR f ((mR E ln (dgN E ln 2 2 7) Y c).2.1.1) (nI (dgN E ln 1 1 6)) (nI (dgN E ln 2 2 7)) ((mR E ln (dgN E ln 2 2 7) Y c).2.1.2.1) ((mR E ln (dgN E ln 2 2 7) Y c).2.1.2.2)) ((mR E ln (dgN E ln 2 2 7) Y c).2.2)) := hD.same rfl
            refine lv_iload_n hx hb dX4_readsSquare_113 rfl (lv_at hl 3 rfl) ?_
            refine x_ifb_eq (tgt := 203) hx hb dX4_readsSquare_114 (by decide) (fun c114 => ?_) (fun c114 => ?_)
            · skip
              have hfin : (mR E ln (dgN E ln 2 2 7) Y ((dgN E ln 1 1 6) * (dgN E ln 2 2 7))) = (mR E ln (dgN E ln 2 2 7) Y c) := mR_stop' c114 hcl
              refine lv_iload_n hx hb dX4_readsSquare_203 rfl (lv_at hl 3 rfl) ?_
              refine x_ifb_eq (tgt := 219) hx hb dX4_readsSquare_204 (by decide) (fun c204 => ?_) (fun c204 => ?_)
              · skip
                refine lv_iconst (v := nI 0) hx hb dX4_readsSquare_219 rfl ?_
                exact hend _ _ _ _ _ _ (n0_b (by rw [mrV, hfin, show (mR E ln (dgN E ln 2 2 7) Y c).1 = false from c204]; simp)) (by rw [mrF, mrY, if_pos hsq, if_pos hsq, if_neg hd1, if_neg hd1, if_neg hd2, if_neg hd2, hfin] <;> rfl) hP hS dX4_readsSquare_220
              · skip
                have hcn := mR_cnt E ln (dgN E ln 2 2 7) Y c
                refine lv_aload_n hx hb dX4_readsSquare_207 rfl (lv_at hl 0 rfl) ?_
                refine x_get (D := (dC, dI)) (ci := 4) (v := .int (nI ((mR E ln (dgN E ln 2 2 7) Y c).2.1.1))) (C := RX4) (T := TX4) (N := 31) hx hb hts hinX4 hown hK hP 0 rfl rfl 14 (Nat.le_of_ble_eq_true rfl) hf92 rfl rfl dX4_readsSquare_208 ?_
                refine lv_iload_n hx hb dX4_readsSquare_211 rfl (lv_at hl 2 rfl) ?_
                refine x_icmp_ne (tgt := 219) hx hb (by omega) (by omega) dX4_readsSquare_212 (by decide) (fun c212 => ?_) (fun c212 => ?_)
                · skip
                  refine lv_iconst (v := nI 0) hx hb dX4_readsSquare_219 rfl ?_
                  exact hend _ _ _ _ _ _ (n0_b (by rw [mrV, hfin, decide_eq_false (show ¬ (mR E ln (dgN E ln 2 2 7) Y c).2.1.1 = ln by omega)]; simp)) (by rw [mrF, mrY, if_pos hsq, if_pos hsq, if_neg hd1, if_neg hd1, if_neg hd2, if_neg hd2, hfin] <;> rfl) hP hS dX4_readsSquare_220
                · skip
                  refine lv_iconst (v := nI 1) hx hb dX4_readsSquare_215 rfl ?_
                  refine lv_goto (tgt := 220) hx hb dX4_readsSquare_216 (by decide) ?_
                  exact hend _ _ _ _ _ _ (n1_b (by rw [mrV, hsq, decide_eq_true hd1, decide_eq_true hd2, hfin, show (mR E ln (dgN E ln 2 2 7) Y c).1 = true from c204, decide_eq_true (show (mR E ln (dgN E ln 2 2 7) Y c).2.1.1 = ln by omega)]; rfl)) (by rw [mrF, mrY, if_pos hsq, if_pos hsq, if_neg hd1, if_neg hd1, if_neg hd2, if_neg hd2, hfin] <;> rfl) hP hS dX4_readsSquare_220
            · skip
              have hcn := mR_cnt E ln (dgN E ln 2 2 7) Y c
              have hE2 : ∀ j, j < ln → (mR E ln (dgN E ln 2 2 7) Y c).2.2 14 (fr + j) = E j := fun j hj => by rw [mR_hi (Or.inr (by decide))]; exact hE j hj
              rw [c114] at hl
              refine lv_iload hx hb dX4_readsSquare_117 (lv_at hl 4 rfl) ?_
              refine lv_aload_n hx hb dX4_readsSquare_119 rfl (lv_at hl 0 rfl) ?_
              refine x_get (D := (dC, dI)) (ci := 4) (v := .int (nI (dgN E ln 1 1 6))) (C := RX4) (T := TX4) (N := 31) hx hb hts hinX4 hown hK hP 0 rfl rfl 15 (Nat.le_of_ble_eq_true rfl) hf109 rfl rfl dX4_readsSquare_120 ?_
              refine lv_aload_n hx hb dX4_readsSquare_123 rfl (lv_at hl 0 rfl) ?_
              refine x_get (D := (dC, dI)) (ci := 4) (v := .int (nI (dgN E ln 2 2 7))) (C := RX4) (T := TX4) (N := 31) hx hb hts hinX4 hown hK hP 0 rfl rfl 16 (Nat.le_of_ble_eq_true rfl) hf112 rfl rfl dX4_readsSquare_124 ?_
              refine x_imul hx hb dX4_readsSquare_127 ?_
              refine x_icmp_ge (tgt := 203) hx hb (by omega) (by omega) dX4_readsSquare_128 (by decide) (fun c128 => ?_) (fun c128 => ?_)
              · skip
                have hfin : (mR E ln (dgN E ln 2 2 7) Y ((dgN E ln 1 1 6) * (dgN E ln 2 2 7))) = (mR E ln (dgN E ln 2 2 7) Y c) := by rw [show (dgN E ln 1 1 6) * (dgN E ln 2 2 7) = c from by omega]
                refine lv_iload_n hx hb dX4_readsSquare_203 rfl (lv_at hl 3 rfl) ?_
                refine x_ifb_eq (tgt := 219) hx hb dX4_readsSquare_204 (by decide) (fun c204 => absurd c204 (by decide)) (fun c204 => ?_)
                refine lv_aload_n hx hb dX4_readsSquare_207 rfl (lv_at hl 0 rfl) ?_
                refine x_get (D := (dC, dI)) (ci := 4) (v := .int (nI ((mR E ln (dgN E ln 2 2 7) Y c).2.1.1))) (C := RX4) (T := TX4) (N := 31) hx hb hts hinX4 hown hK hP 0 rfl rfl 14 (Nat.le_of_ble_eq_true rfl) hf92 rfl rfl dX4_readsSquare_208 ?_
                refine lv_iload_n hx hb dX4_readsSquare_211 rfl (lv_at hl 2 rfl) ?_
                refine x_icmp_ne (tgt := 219) hx hb (by omega) (by omega) dX4_readsSquare_212 (by decide) (fun c212 => ?_) (fun c212 => ?_)
                · skip
                  refine lv_iconst (v := nI 0) hx hb dX4_readsSquare_219 rfl ?_
                  exact hend _ _ _ _ _ _ (n0_b (by rw [mrV, hfin, decide_eq_false (show ¬ (mR E ln (dgN E ln 2 2 7) Y c).2.1.1 = ln by omega)]; simp)) (by rw [mrF, mrY, if_pos hsq, if_pos hsq, if_neg hd1, if_neg hd1, if_neg hd2, if_neg hd2, hfin] <;> rfl) hP hS dX4_readsSquare_220
                · skip
                  refine lv_iconst (v := nI 1) hx hb dX4_readsSquare_215 rfl ?_
                  refine lv_goto (tgt := 220) hx hb dX4_readsSquare_216 (by decide) ?_
                  exact hend _ _ _ _ _ _ (n1_b (by rw [mrV, hsq, decide_eq_true hd1, decide_eq_true hd2, hfin, show (mR E ln (dgN E ln 2 2 7) Y c).1 = true from c114, decide_eq_true (show (mR E ln (dgN E ln 2 2 7) Y c).2.1.1 = ln by omega)]; rfl)) (by rw [mrF, mrY, if_pos hsq, if_pos hsq, if_neg hd1, if_neg hd1, if_neg hd2, if_neg hd2, hfin] <;> rfl) hP hS dX4_readsSquare_220
              · skip
                refine lv_iload hx hb dX4_readsSquare_131 (lv_at hl 4 rfl) ?_
                refine lv_aload_n hx hb dX4_readsSquare_133 rfl (lv_at hl 0 rfl) ?_
                refine x_get (D := (dC, dI)) (ci := 4) (v := .int (nI (dgN E ln 2 2 7))) (C := RX4) (T := TX4) (N := 31) hx hb hts hinX4 hown hK hP 0 rfl rfl 16 (Nat.le_of_ble_eq_true rfl) hf112 rfl rfl dX4_readsSquare_134 ?_
                refine x_irem hx hb (by omega) (by omega) (by omega) dX4_readsSquare_137 ?_
                refine x_if_ne (tgt := 176) hx hb (Nat.lt_of_lt_of_le (Nat.mod_lt _ (by omega)) (by omega)) dX4_readsSquare_138 (by decide) (fun c138 => ?_) (fun c138 => ?_)
                · skip
                  have hgo := mR_go1 c114 c138
                  refine lv_iload_n hx hb dX4_readsSquare_176 rfl (lv_at hl 3 rfl) ?_
                  refine x_ifb_eq (tgt := 195) hx hb dX4_readsSquare_177 (by decide) (fun c177 => absurd c177 (by decide)) (fun c177 => ?_)
                  refine lv_aload_n hx hb dX4_readsSquare_180 rfl (lv_at hl 0 rfl) ?_
                  refine lv_iload_n hx hb dX4_readsSquare_181 rfl (lv_at hl 1 rfl) ?_
                  refine lv_iload_n hx hb dX4_readsSquare_182 rfl (lv_at hl 2 rfl) ?_
                  refine lv_iload hx hb dX4_readsSquare_183 (lv_at hl 4 rfl) ?_
                  refine rwW_i (As := [.int (nI fr), .int (nI ln), .int (nI c)]) (rest := []) (wn := wM cI cZ q n mb (fR f (tcP E ln ((mR E ln (dgN E ln 2 2 7) Y c).2.1.1) ((mR E ln (dgN E ln 2 2 7) Y c).2.1.2.1) ((mR E ln (dgN E ln 2 2 7) Y c).2.1.2.2)) (nI (dgN E ln 1 1 6)) (nI (dgN E ln 2 2 7)) (tcB E ln ((mR E ln (dgN E ln 2 2 7) Y c).2.1.1) ((mR E ln (dgN E ln 2 2 7) Y c).2.1.2.1)) (mcT E ln ((mR E ln (dgN E ln 2 2 7) Y c).2.1.1) ((mR E ln (dgN E ln 2 2 7) Y c).2.1.2.2))) (mcY E ln ((mR E ln (dgN E ln 2 2 7) Y c).2.1.1) ((mR E ln (dgN E ln 2 2 7) Y c).2.1.2.1) ((mR E ln (dgN E ln 2 2 7) Y c).2.1.2.2) c ((mR E ln (dgN E ln 2 2 7) Y c).2.2))) ⟨hx, hb, hml, hown, hts⟩ (kX4_readsCell l dC dI cI cZ q n mb f ((mR E ln (dgN E ln 2 2 7) Y c).2.1.1) (nI (dgN E ln 1 1 6)) (nI (dgN E ln 2 2 7)) ((mR E ln (dgN E ln 2 2 7) Y c).2.1.2.1) ((mR E ln (dgN E ln 2 2 7) Y c).2.1.2.2) ((mR E ln (dgN E ln 2 2 7) Y c).2.2) E fr ln c _ hln hfr hE2 (by omega) (by omega) (by omega) (by omega) (by omega)) (cwV 3 hts gX4_readsSquare_X4_readsCell rfl rfl rfl hdX4_readsCell ⟨Nat.le_trans (Nat.le_of_ble_eq_true rfl) hRf, Nat.le_trans (Nat.le_of_ble_eq_true rfl) hRl⟩) (va_recv hK hP (ci := 4) (q0 := 0) rfl rfl) hK rfl hl.1 rfl (Nat.le_of_ble_eq_true rfl) dX4_readsSquare_185 ⟨Nat.zero_le _, Nat.zero_le _⟩ hP hD hS hA [0, 1, 2, 3, 4, 5, 6, 7, 8, 9, 10, 11, 12, 13, 14, 15, 16] [] [0, 1, 2, 3, 4, 5, 6, 7, 8, 9, 10, 11, 12, 13, 14, 15, 16] rfl rfl (by decide) (by decide) (by decide) rfl rfl (fun H locs hP hS => ?_)
                  have hD : va_D Z (wM cI cZ q n mb (fR f (tcP E ln ((mR E ln (dgN E ln 2 2 7) Y c).2.1.1) ((mR E ln (dgN E ln 2 2 7) Y c).2.1.2.1) ((mR E ln (dgN E ln 2 2 7) Y c).2.1.2.2)) (nI (dgN E ln 1 1 6)) (nI (dgN E ln 2 2 7)) (tcB E ln ((mR E ln (dgN E ln 2 2 7) Y c).2.1.1) ((mR E ln (dgN E ln 2 2 7) Y c).2.1.2.1)) (mcT E ln ((mR E ln (dgN E ln 2 2 7) Y c).2.1.1) ((mR E ln (dgN E ln 2 2 7) Y c).2.1.2.2))) (mcY E ln ((mR E ln (dgN E ln 2 2 7) Y c).2.1.1) ((mR E ln (dgN E ln 2 2 7) Y c).2.1.2.1) ((mR E ln (dgN E ln 2 2 7) Y c).2.1.2.2) c ((mR E ln (dgN E ln 2 2 7) Y c).2.2))) := hD.same rfl
                  refine x_ifb_eq (tgt := 195) hx hb dX4_readsSquare_188 (by decide) (fun c188 => ?_) (fun c188 => ?_)
                  · skip
                    refine lv_iconst (v := nI 0) hx hb dX4_readsSquare_195 rfl ?_
                    refine lv_istore_n (lv' := [(3, .int (nI 0)), (0, .ref (q 0)), (1, .int (nI fr)), (2, .int (nI ln)), (4, .int (nI c))]) hx hb dX4_readsSquare_196 rfl hl (by decide) rfl (fun ls hl => ?_)
                    refine lv_iinc (v := (nI (c + 1))) (lv' := [(4, .int (nI (c + 1))), (3, .int (nI 0)), (0, .ref (q 0)), (1, .int (nI fr)), (2, .int (nI ln))]) hx hb dX4_readsSquare_197 hl (k := 4) rfl (nI_add _ _) (by decide) rfl (fun ls hl => ?_)
                    refine lv_goto (tgt := 113) hx hb dX4_readsSquare_200 (by decide) ?_
                    have hP : va_P (dC, dI) vwCl (wM cI cZ q n mb (fR f ((mR E ln (dgN E ln 2 2 7) Y (c + 1)).2.1.1) (nI (dgN E ln 1 1 6)) (nI (dgN E ln 2 2 7)) ((mR E ln (dgN E ln 2 2 7) Y (c + 1)).2.1.2.1) ((mR E ln (dgN E ln 2 2 7) Y (c + 1)).2.1.2.2)) ((mR E ln (dgN E ln 2 2 7) Y (c + 1)).2.2)) H := by rw [hgo]; exact hP
                    have hD : va_D Z (wM cI cZ q n mb (fR f ((mR E ln (dgN E ln 2 2 7) Y (c + 1)).2.1.1) (nI (dgN E ln 1 1 6)) (nI (dgN E ln 2 2 7)) ((mR E ln (dgN E ln 2 2 7) Y (c + 1)).2.1.2.1) ((mR E ln (dgN E ln 2 2 7) Y (c + 1)).2.1.2.2)) ((mR E ln (dgN E ln 2 2 7) Y (c + 1)).2.2)) := hD.same rfl
                    exact ih (c + 1) (by omega) (by omega) _ _ hP hS _ (by rw [hgo, show tcO _ _ _ _ _ = false from c188]; exact lv_sub hl [2, 3, 4, 1, 0] rfl)
                  · skip
                    refine lv_iconst (v := nI 1) hx hb dX4_readsSquare_191 rfl ?_
                    refine lv_goto (tgt := 196) hx hb dX4_readsSquare_192 (by decide) ?_
                    refine lv_istore_n (lv' := [(3, .int (nI 1)), (0, .ref (q 0)), (1, .int (nI fr)), (2, .int (nI ln)), (4, .int (nI c))]) hx hb dX4_readsSquare_196 rfl hl (by decide) rfl (fun ls hl => ?_)
                    refine lv_iinc (v := (nI (c + 1))) (lv' := [(4, .int (nI (c + 1))), (3, .int (nI 1)), (0, .ref (q 0)), (1, .int (nI fr)), (2, .int (nI ln))]) hx hb dX4_readsSquare_197 hl (k := 4) rfl (nI_add _ _) (by decide) rfl (fun ls hl => ?_)
                    refine lv_goto (tgt := 113) hx hb dX4_readsSquare_200 (by decide) ?_
                    have hP : va_P (dC, dI) vwCl (wM cI cZ q n mb (fR f ((mR E ln (dgN E ln 2 2 7) Y (c + 1)).2.1.1) (nI (dgN E ln 1 1 6)) (nI (dgN E ln 2 2 7)) ((mR E ln (dgN E ln 2 2 7) Y (c + 1)).2.1.2.1) ((mR E ln (dgN E ln 2 2 7) Y (c + 1)).2.1.2.2)) ((mR E ln (dgN E ln 2 2 7) Y (c + 1)).2.2)) H := by rw [hgo]; exact hP
                    have hD : va_D Z (wM cI cZ q n mb (fR f ((mR E ln (dgN E ln 2 2 7) Y (c + 1)).2.1.1) (nI (dgN E ln 1 1 6)) (nI (dgN E ln 2 2 7)) ((mR E ln (dgN E ln 2 2 7) Y (c + 1)).2.1.2.1) ((mR E ln (dgN E ln 2 2 7) Y (c + 1)).2.1.2.2)) ((mR E ln (dgN E ln 2 2 7) Y (c + 1)).2.2)) := hD.same rfl
                    exact ih (c + 1) (by omega) (by omega) _ _ hP hS _ (by rw [hgo, show tcO _ _ _ _ _ = true from c188]; exact lv_sub hl [2, 3, 4, 1, 0] rfl)
                · skip
                  refine lv_aload_n hx hb dX4_readsSquare_141 rfl (lv_at hl 0 rfl) ?_
                  refine lv_iload_n hx hb dX4_readsSquare_142 rfl (lv_at hl 1 rfl) ?_
                  refine lv_iload_n hx hb dX4_readsSquare_143 rfl (lv_at hl 2 rfl) ?_
                  refine roV_i (As := [.int (nI fr), .int (nI ln)]) (rest := []) ⟨hx, hb, hml, hown, hts⟩ (kX4_codeAt l dC dI cI cZ q n mb f ((mR E ln (dgN E ln 2 2 7) Y c).2.1.1) (nI (dgN E ln 1 1 6)) (nI (dgN E ln 2 2 7)) ((mR E ln (dgN E ln 2 2 7) Y c).2.1.2.1) ((mR E ln (dgN E ln 2 2 7) Y c).2.1.2.2) ((mR E ln (dgN E ln 2 2 7) Y c).2.2) E fr ln  _ hln hfr hE2 (by omega)) (cwV 2 hts gX4_readsSquare_X4_codeAt rfl rfl rfl hdX4_codeAt ⟨Nat.le_trans (Nat.le_of_ble_eq_true rfl) hRf, Nat.le_trans (Nat.le_of_ble_eq_true rfl) hRl⟩) (va_recv hK hP (ci := 4) (q0 := 0) rfl rfl) hK hP rfl hl.1 rfl (Nat.le_of_ble_eq_true rfl) dX4_readsSquare_144 ⟨Nat.zero_le _, Nat.zero_le _⟩ hP hS hA (fun H locs hP hS => ?_)
                  refine lv_bipush (v := nI 59) hx hb dX4_readsSquare_147 rfl ?_
                  refine lv_icmp_ne (tgt := 156) hx hb dX4_readsSquare_149 (by decide) (fun c149 => ?_) (fun c149 => ?_)
                  · skip
                    have hsm : sgB E ln (mR E ln (dgN E ln 2 2 7) Y c).2.1.1 59 = false := Bool.eq_false_iff.mpr (mt (cdM_eq (by decide)).mpr c149)
                    have hgo := mR_semi c114 c138 hsm
                    refine lv_iconst (v := nI 0) hx hb dX4_readsSquare_156 rfl ?_
                    refine lv_istore_n (lv' := [(3, .int (nI 0)), (0, .ref (q 0)), (1, .int (nI fr)), (2, .int (nI ln)), (4, .int (nI c))]) hx hb dX4_readsSquare_157 rfl hl (by decide) rfl (fun ls hl => ?_)
                    refine lv_aload_n hx hb dX4_readsSquare_158 rfl (lv_at hl 1 rfl) ?_
                    refine lv_dup hx hb dX4_readsSquare_159 rfl ?_
                    refine x_get (D := (dC, dI)) (ci := 4) (v := .int (nI ((mR E ln (dgN E ln 2 2 7) Y c).2.1.1))) (C := RX4) (T := TX4) (N := 31) hx hb hts hinX4 hown hK hP 0 rfl rfl 14 (Nat.le_of_ble_eq_true rfl) hf92 rfl rfl dX4_readsSquare_160 ?_
                    refine lv_iload_n hx hb dX4_readsSquare_163 rfl (lv_at hl 0 rfl) ?_
                    refine x_if_eq (tgt := 171) hx hb (by omega) dX4_readsSquare_164 (by decide) (fun c164 => ?_) (fun c164 => absurd c164 (by decide))
                    refine lv_iconst (v := nI 0) hx hb dX4_readsSquare_171 rfl ?_
                    refine x_iadd hx hb dX4_readsSquare_172 ?_
                    refine x_put (D := (dC, dI)) (ci := 4) (v := .int (nI (((mR E ln (dgN E ln 2 2 7) Y c).2.1.1) + 0))) (C := RX4) (T := TX4) (N := 31) (wn := wM cI cZ q n mb (fR f (((mR E ln (dgN E ln 2 2 7) Y c).2.1.1) + 0) (nI (dgN E ln 1 1 6)) (nI (dgN E ln 2 2 7)) ((mR E ln (dgN E ln 2 2 7) Y c).2.1.2.1) ((mR E ln (dgN E ln 2 2 7) Y c).2.1.2.2)) ((mR E ln (dgN E ln 2 2 7) Y c).2.2)) hx hb hts hinX4 tyX4 tyX4_ok nmX4 hown hK hP hD hS 0 rfl rfl 14 (Nat.le_of_ble_eq_true rfl) hf92 rfl rfl rfl rfl (Nat.le_of_ble_eq_true rfl) rfl dX4_readsSquare_173 (fun H locs hP hS => ?_)
                    have hD : va_D Z (wM cI cZ q n mb (fR f (((mR E ln (dgN E ln 2 2 7) Y c).2.1.1) + 0) (nI (dgN E ln 1 1 6)) (nI (dgN E ln 2 2 7)) ((mR E ln (dgN E ln 2 2 7) Y c).2.1.2.1) ((mR E ln (dgN E ln 2 2 7) Y c).2.1.2.2)) ((mR E ln (dgN E ln 2 2 7) Y c).2.2)) := hD.same rfl
                    refine lv_iload_n hx hb dX4_readsSquare_176 rfl (lv_at hl 0 rfl) ?_
                    refine x_if_eq (tgt := 195) hx hb (by omega) dX4_readsSquare_177 (by decide) (fun c177 => ?_) (fun c177 => absurd c177 (by decide))
                    refine lv_iconst (v := nI 0) hx hb dX4_readsSquare_195 rfl ?_
                    refine lv_istore_n (lv' := [(3, .int (nI 0)), (0, .ref (q 0)), (1, .int (nI fr)), (2, .int (nI ln)), (4, .int (nI c))]) hx hb dX4_readsSquare_196 rfl hl (by decide) rfl (fun ls hl => ?_)
                    refine lv_iinc (v := (nI (c + 1))) (lv' := [(4, .int (nI (c + 1))), (3, .int (nI 0)), (0, .ref (q 0)), (1, .int (nI fr)), (2, .int (nI ln))]) hx hb dX4_readsSquare_197 hl (k := 4) rfl (nI_add _ _) (by decide) rfl (fun ls hl => ?_)
                    refine lv_goto (tgt := 113) hx hb dX4_readsSquare_200 (by decide) ?_
                    have hP : va_P (dC, dI) vwCl (wM cI cZ q n mb (fR f ((mR E ln (dgN E ln 2 2 7) Y (c + 1)).2.1.1) (nI (dgN E ln 1 1 6)) (nI (dgN E ln 2 2 7)) ((mR E ln (dgN E ln 2 2 7) Y (c + 1)).2.1.2.1) ((mR E ln (dgN E ln 2 2 7) Y (c + 1)).2.1.2.2)) ((mR E ln (dgN E ln 2 2 7) Y (c + 1)).2.2)) H := by rw [hgo]; exact hP
                    have hD : va_D Z (wM cI cZ q n mb (fR f ((mR E ln (dgN E ln 2 2 7) Y (c + 1)).2.1.1) (nI (dgN E ln 1 1 6)) (nI (dgN E ln 2 2 7)) ((mR E ln (dgN E ln 2 2 7) Y (c + 1)).2.1.2.1) ((mR E ln (dgN E ln 2 2 7) Y (c + 1)).2.1.2.2)) ((mR E ln (dgN E ln 2 2 7) Y (c + 1)).2.2)) := hD.same rfl
                    exact ih (c + 1) (by omega) (by omega) _ _ hP hS _ (by rw [hgo]; exact lv_sub hl [2, 3, 4, 1, 0] rfl)
                  · skip
                    have hsm : sgB E ln (mR E ln (dgN E ln 2 2 7) Y c).2.1.1 59 = true := (cdM_eq (by decide)).mp c149
                    have hgo := mR_go0 c114 c138 hsm
                    refine lv_iconst (v := nI 1) hx hb dX4_readsSquare_152 rfl ?_
                    refine lv_goto (tgt := 157) hx hb dX4_readsSquare_153 (by decide) ?_
                    refine lv_istore_n (lv' := [(3, .int (nI 1)), (0, .ref (q 0)), (1, .int (nI fr)), (2, .int (nI ln)), (4, .int (nI c))]) hx hb dX4_readsSquare_157 rfl hl (by decide) rfl (fun ls hl => ?_)
                    refine lv_aload_n hx hb dX4_readsSquare_158 rfl (lv_at hl 1 rfl) ?_
                    refine lv_dup hx hb dX4_readsSquare_159 rfl ?_
                    refine x_get (D := (dC, dI)) (ci := 4) (v := .int (nI ((mR E ln (dgN E ln 2 2 7) Y c).2.1.1))) (C := RX4) (T := TX4) (N := 31) hx hb hts hinX4 hown hK hP 0 rfl rfl 14 (Nat.le_of_ble_eq_true rfl) hf92 rfl rfl dX4_readsSquare_160 ?_
                    refine lv_iload_n hx hb dX4_readsSquare_163 rfl (lv_at hl 0 rfl) ?_
                    refine x_if_eq (tgt := 171) hx hb (by omega) dX4_readsSquare_164 (by decide) (fun c164 => absurd c164 (by decide)) (fun c164 => ?_)
                    refine lv_iconst (v := nI 1) hx hb dX4_readsSquare_167 rfl ?_
                    refine lv_goto (tgt := 172) hx hb dX4_readsSquare_168 (by decide) ?_
                    refine x_iadd hx hb dX4_readsSquare_172 ?_
                    refine x_put (D := (dC, dI)) (ci := 4) (v := .int (nI (((mR E ln (dgN E ln 2 2 7) Y c).2.1.1) + 1))) (C := RX4) (T := TX4) (N := 31) (wn := wM cI cZ q n mb (fR f (((mR E ln (dgN E ln 2 2 7) Y c).2.1.1) + 1) (nI (dgN E ln 1 1 6)) (nI (dgN E ln 2 2 7)) ((mR E ln (dgN E ln 2 2 7) Y c).2.1.2.1) ((mR E ln (dgN E ln 2 2 7) Y c).2.1.2.2)) ((mR E ln (dgN E ln 2 2 7) Y c).2.2)) hx hb hts hinX4 tyX4 tyX4_ok nmX4 hown hK hP hD hS 0 rfl rfl 14 (Nat.le_of_ble_eq_true rfl) hf92 rfl rfl rfl rfl (Nat.le_of_ble_eq_true rfl) rfl dX4_readsSquare_173 (fun H locs hP hS => ?_)
                    have hD : va_D Z (wM cI cZ q n mb (fR f (((mR E ln (dgN E ln 2 2 7) Y c).2.1.1) + 1) (nI (dgN E ln 1 1 6)) (nI (dgN E ln 2 2 7)) ((mR E ln (dgN E ln 2 2 7) Y c).2.1.2.1) ((mR E ln (dgN E ln 2 2 7) Y c).2.1.2.2)) ((mR E ln (dgN E ln 2 2 7) Y c).2.2)) := hD.same rfl
                    refine lv_iload_n hx hb dX4_readsSquare_176 rfl (lv_at hl 0 rfl) ?_
                    refine x_if_eq (tgt := 195) hx hb (by omega) dX4_readsSquare_177 (by decide) (fun c177 => absurd c177 (by decide)) (fun c177 => ?_)
                    refine lv_aload_n hx hb dX4_readsSquare_180 rfl (lv_at hl 1 rfl) ?_
                    refine lv_iload_n hx hb dX4_readsSquare_181 rfl (lv_at hl 2 rfl) ?_
                    refine lv_iload_n hx hb dX4_readsSquare_182 rfl (lv_at hl 3 rfl) ?_
                    refine lv_iload hx hb dX4_readsSquare_183 (lv_at hl 4 rfl) ?_
                    refine rwW_i (As := [.int (nI fr), .int (nI ln), .int (nI c)]) (rest := []) (wn := wM cI cZ q n mb (fR f (tcP E ln (((mR E ln (dgN E ln 2 2 7) Y c).2.1.1) + 1) ((mR E ln (dgN E ln 2 2 7) Y c).2.1.2.1) ((mR E ln (dgN E ln 2 2 7) Y c).2.1.2.2)) (nI (dgN E ln 1 1 6)) (nI (dgN E ln 2 2 7)) (tcB E ln (((mR E ln (dgN E ln 2 2 7) Y c).2.1.1) + 1) ((mR E ln (dgN E ln 2 2 7) Y c).2.1.2.1)) (mcT E ln (((mR E ln (dgN E ln 2 2 7) Y c).2.1.1) + 1) ((mR E ln (dgN E ln 2 2 7) Y c).2.1.2.2))) (mcY E ln (((mR E ln (dgN E ln 2 2 7) Y c).2.1.1) + 1) ((mR E ln (dgN E ln 2 2 7) Y c).2.1.2.1) ((mR E ln (dgN E ln 2 2 7) Y c).2.1.2.2) c ((mR E ln (dgN E ln 2 2 7) Y c).2.2))) ⟨hx, hb, hml, hown, hts⟩ (kX4_readsCell l dC dI cI cZ q n mb f (((mR E ln (dgN E ln 2 2 7) Y c).2.1.1) + 1) (nI (dgN E ln 1 1 6)) (nI (dgN E ln 2 2 7)) ((mR E ln (dgN E ln 2 2 7) Y c).2.1.2.1) ((mR E ln (dgN E ln 2 2 7) Y c).2.1.2.2) ((mR E ln (dgN E ln 2 2 7) Y c).2.2) E fr ln c _ hln hfr hE2 (by omega) (by omega) (by omega) (by omega) (by omega)) (cwV 3 hts gX4_readsSquare_X4_readsCell rfl rfl rfl hdX4_readsCell ⟨Nat.le_trans (Nat.le_of_ble_eq_true rfl) hRf, Nat.le_trans (Nat.le_of_ble_eq_true rfl) hRl⟩) (va_recv hK hP (ci := 4) (q0 := 0) rfl rfl) hK rfl hl.1 rfl (Nat.le_of_ble_eq_true rfl) dX4_readsSquare_185 ⟨Nat.zero_le _, Nat.zero_le _⟩ hP hD hS hA [0, 1, 2, 3, 4, 5, 6, 7, 8, 9, 10, 11, 12, 13, 14, 15, 16] [] [0, 1, 2, 3, 4, 5, 6, 7, 8, 9, 10, 11, 12, 13, 14, 15, 16] rfl rfl (by decide) (by decide) (by decide) rfl rfl (fun H locs hP hS => ?_)
                    have hD : va_D Z (wM cI cZ q n mb (fR f (tcP E ln (((mR E ln (dgN E ln 2 2 7) Y c).2.1.1) + 1) ((mR E ln (dgN E ln 2 2 7) Y c).2.1.2.1) ((mR E ln (dgN E ln 2 2 7) Y c).2.1.2.2)) (nI (dgN E ln 1 1 6)) (nI (dgN E ln 2 2 7)) (tcB E ln (((mR E ln (dgN E ln 2 2 7) Y c).2.1.1) + 1) ((mR E ln (dgN E ln 2 2 7) Y c).2.1.2.1)) (mcT E ln (((mR E ln (dgN E ln 2 2 7) Y c).2.1.1) + 1) ((mR E ln (dgN E ln 2 2 7) Y c).2.1.2.2))) (mcY E ln (((mR E ln (dgN E ln 2 2 7) Y c).2.1.1) + 1) ((mR E ln (dgN E ln 2 2 7) Y c).2.1.2.1) ((mR E ln (dgN E ln 2 2 7) Y c).2.1.2.2) c ((mR E ln (dgN E ln 2 2 7) Y c).2.2))) := hD.same rfl
                    refine x_ifb_eq (tgt := 195) hx hb dX4_readsSquare_188 (by decide) (fun c188 => ?_) (fun c188 => ?_)
                    · skip
                      refine lv_iconst (v := nI 0) hx hb dX4_readsSquare_195 rfl ?_
                      refine lv_istore_n (lv' := [(3, .int (nI 0)), (0, .ref (q 0)), (1, .int (nI fr)), (2, .int (nI ln)), (4, .int (nI c))]) hx hb dX4_readsSquare_196 rfl hl (by decide) rfl (fun ls hl => ?_)
                      refine lv_iinc (v := (nI (c + 1))) (lv' := [(4, .int (nI (c + 1))), (3, .int (nI 0)), (0, .ref (q 0)), (1, .int (nI fr)), (2, .int (nI ln))]) hx hb dX4_readsSquare_197 hl (k := 4) rfl (nI_add _ _) (by decide) rfl (fun ls hl => ?_)
                      refine lv_goto (tgt := 113) hx hb dX4_readsSquare_200 (by decide) ?_
                      have hP : va_P (dC, dI) vwCl (wM cI cZ q n mb (fR f ((mR E ln (dgN E ln 2 2 7) Y (c + 1)).2.1.1) (nI (dgN E ln 1 1 6)) (nI (dgN E ln 2 2 7)) ((mR E ln (dgN E ln 2 2 7) Y (c + 1)).2.1.2.1) ((mR E ln (dgN E ln 2 2 7) Y (c + 1)).2.1.2.2)) ((mR E ln (dgN E ln 2 2 7) Y (c + 1)).2.2)) H := by rw [hgo]; exact hP
                      have hD : va_D Z (wM cI cZ q n mb (fR f ((mR E ln (dgN E ln 2 2 7) Y (c + 1)).2.1.1) (nI (dgN E ln 1 1 6)) (nI (dgN E ln 2 2 7)) ((mR E ln (dgN E ln 2 2 7) Y (c + 1)).2.1.2.1) ((mR E ln (dgN E ln 2 2 7) Y (c + 1)).2.1.2.2)) ((mR E ln (dgN E ln 2 2 7) Y (c + 1)).2.2)) := hD.same rfl
                      exact ih (c + 1) (by omega) (by omega) _ _ hP hS _ (by rw [hgo, show tcO _ _ _ _ _ = false from c188]; exact lv_sub hl [2, 3, 4, 1, 0] rfl)
                    · skip
                      refine lv_iconst (v := nI 1) hx hb dX4_readsSquare_191 rfl ?_
                      refine lv_goto (tgt := 196) hx hb dX4_readsSquare_192 (by decide) ?_
                      refine lv_istore_n (lv' := [(3, .int (nI 1)), (0, .ref (q 0)), (1, .int (nI fr)), (2, .int (nI ln)), (4, .int (nI c))]) hx hb dX4_readsSquare_196 rfl hl (by decide) rfl (fun ls hl => ?_)
                      refine lv_iinc (v := (nI (c + 1))) (lv' := [(4, .int (nI (c + 1))), (3, .int (nI 1)), (0, .ref (q 0)), (1, .int (nI fr)), (2, .int (nI ln))]) hx hb dX4_readsSquare_197 hl (k := 4) rfl (nI_add _ _) (by decide) rfl (fun ls hl => ?_)
                      refine lv_goto (tgt := 113) hx hb dX4_readsSquare_200 (by decide) ?_
                      have hP : va_P (dC, dI) vwCl (wM cI cZ q n mb (fR f ((mR E ln (dgN E ln 2 2 7) Y (c + 1)).2.1.1) (nI (dgN E ln 1 1 6)) (nI (dgN E ln 2 2 7)) ((mR E ln (dgN E ln 2 2 7) Y (c + 1)).2.1.2.1) ((mR E ln (dgN E ln 2 2 7) Y (c + 1)).2.1.2.2)) ((mR E ln (dgN E ln 2 2 7) Y (c + 1)).2.2)) H := by rw [hgo]; exact hP
                      have hD : va_D Z (wM cI cZ q n mb (fR f ((mR E ln (dgN E ln 2 2 7) Y (c + 1)).2.1.1) (nI (dgN E ln 1 1 6)) (nI (dgN E ln 2 2 7)) ((mR E ln (dgN E ln 2 2 7) Y (c + 1)).2.1.2.1) ((mR E ln (dgN E ln 2 2 7) Y (c + 1)).2.1.2.2)) ((mR E ln (dgN E ln 2 2 7) Y (c + 1)).2.2)) := hD.same rfl
                      exact ih (c + 1) (by omega) (by omega) _ _ hP hS _ (by rw [hgo, show tcO _ _ _ _ _ = true from c188]; exact lv_sub hl [2, 3, 4, 1, 0] rfl)
        exact L113 _ 0 (by omega) (Nat.lt_succ_self _) _ _ hP hS _ (lv_sub hl [2, 3, 4, 1, 0] rfl)
