theorem hdX1_renew : yX1_renew.cls = RX1 ∧ yX1_renew.cls ≠ "java/lang/invoke/MethodHandle" ∧ yX1_renew.cls ≠ "java/lang/invoke/VarHandle" ∧ (parseMethodDescriptor yX1_renew.desc).map (fun d => d.parameters.length) = some 2 := by decide +kernel
set_option maxRecDepth 20000 in
theorem ggX3_sheet_X3_isBelow : GoodIn wsX3_sheet wsX3_isBelow := goodIn_r _ [6] (by decide +kernel) (by decide +kernel)
set_option maxRecDepth 20000 in
theorem gX3_sheet_X3_isBelow : GoodIn wsX3_sheet (va_wsS RX3 39 yX3_isBelow wsX3_isBelow) := goodIn_app (goodIn_of _ (by decide +kernel)) ggX3_sheet_X3_isBelow
set_option maxRecDepth 20000 in
theorem ggX3_sheet_X1_renew : GoodIn wsX3_sheet wsX1_renew := goodIn_r _ [15, 16, 17, 18, 19, 25, 26, 27, 28] (by decide +kernel) (by decide +kernel)
set_option maxRecDepth 20000 in
theorem gX3_sheet_X1_renew : GoodIn wsX3_sheet (wsV RX3 180 RX1 yX1_renew wsX1_renew) := goodIn_app (goodIn_of _ (by decide +kernel)) ggX3_sheet_X1_renew
set_option maxRecDepth 20000 in
theorem ggX3_sheet_X3_failed : GoodIn wsX3_sheet wsX3_failed := goodIn_r _ [10, 1, 20, 21, 22, 23, 24] (by decide +kernel) (by decide +kernel)
set_option maxRecDepth 20000 in
theorem gX3_sheet_X3_failed : GoodIn wsX3_sheet (wsV RX3 50 RX3 yX3_failed wsX3_failed) := goodIn_app (goodIn_of _ (by decide +kernel)) ggX3_sheet_X3_failed
set_option maxHeartbeats 4000000 in
set_option maxRecDepth 100000 in
theorem kX3_sheet (l : Launch) (dC : Nat → ClassId) (dI : Nat → Nat → Nat) (a r1 g : Nat) (tr fl : Int32) (cS cI : ClassId) (r0 : Nat) (qs qr : Nat → Nat) (hs : Nat → Bool) (la le : Nat → Nat) (C : Nat → Nat → Int32) (hB : ∀ k, k < 4 → la k ≤ 2 ∧ le k ≤ 100) (k : Int32) (lane : Int32) (n : Int32) (sz : Nat) : Met l yX3_sheet wsX3_sheet ({ frames := 1, cells := 0, slots := 0, locals := 23 }) (rwP [.ref a, .int k, .int lane, .int n] sz (dC, dI) [(cI, .int), (cS, .object "StatueSquare$Sheet")] ((a, .inr (3, [.ref r0, .ref r1, .ref g, .int tr, .int fl])) :: wSh cS cI r0 qs qr hs la le C)) (rwQi (uSheet k lane n) (dC, dI) ((a, .inr (3, [.ref r0, .ref r1, .ref g, .int tr, .int fl])) :: wSh cS cI r0 qs qr hs la le C) ((a, .inr (3, [.ref r0, .ref r1, .ref g, .int tr, .int (fSheet k lane n)])) :: wSh cS cI r0 qs qr (if okSheet k lane n = true then uB hs (xn k) true else hs) (if okSheet k lane n = true then uN la (xn k) (xn lane) else la) (if okSheet k lane n = true then uN le (xn k) (xn n) else le) (if okSheet k lane n = true then uC C (xn k) (fillz (C (xn k)) (xn n)) else C)) sz) 0 0 (va_A ((a, .inr (3, [.ref r0, .ref r1, .ref g, .int tr, .int fl])) :: wSh cS cI r0 qs qr hs la le C) sz) := by
  refine rw_met_i (by decide) rfl (Nat.le_of_ble_eq_true rfl) ?_
  intro pp ee ss mm aa bb me cd RR QQ Z hx hb hml hown hts hRf hRl hP hK hD hA hS hend ls hl
  have hown : ss.vm.findClass RX3 = some mm.cls := hown
  have hRf : 1 ≤ RR.frames := hRf
  have hRl : 23 ≤ RR.locals := hRl
  have hl : lv_has ls 4 [(0, .ref a), (1, .int k), (2, .int lane), (3, .int n)] := hl
  have hB0 := hB 0 (by decide)
  have hB1 := hB 1 (by decide)
  have hB2 := hB 2 (by decide)
  have hB3 := hB 3 (by decide)
  have hf36 := hts (.fieldLink RX3 36 "StatueSquare" "latestFault" "I") (List.mem_of_getElem? (i := 1) rfl)
  have hinX3 : ∀ w ∈ u_ws RX3 TX3 5, w ∈ wsX3_sheet := fun _ h => List.mem_cons_of_mem _ (List.mem_append_left _ (List.mem_append_right _ h))
  have hf13 := hts (.fieldLink RX3 13 "StatueSquare" "sheets" "[LStatueSquare$Sheet;") (List.mem_of_getElem? (i := 2) rfl)
  refine lv_aload_n hx hb dX3_sheet_0 rfl (lv_at hl 0 rfl) ?_
  refine lv_iconst (v := nI 0) hx hb dX3_sheet_1 rfl ?_
  refine x_put (D := (dC, dI)) (ci := 3) (v := .int (nI 0)) (C := RX3) (T := TX3) (N := 5) (wn := (a, .inr (3, [.ref r0, .ref r1, .ref g, .int tr, .int (nI 0)])) :: wSh cS cI r0 qs qr hs la le C) hx hb hts hinX3 tyX3 tyX3_ok nmX3 hown hK hP hD hS 0 rfl rfl 4 (Nat.le_of_ble_eq_true rfl) hf36 rfl rfl rfl rfl (Nat.le_of_ble_eq_true rfl) rfl dX3_sheet_2 (fun H locs hP hS => ?_)
  have hD : va_D Z ((a, .inr (3, [.ref r0, .ref r1, .ref g, .int tr, .int (nI 0)])) :: wSh cS cI r0 qs qr hs la le C) := hD.same rfl
  refine lv_iload_n hx hb dX3_sheet_5 rfl (lv_at hl 1 rfl) ?_
  refine lv_iconst (v := nI 4) hx hb dX3_sheet_6 rfl ?_
  refine roS_i (As := [.int k, .int (nI 4)]) (rest := []) ⟨hx, hb, hml, hown, hts⟩ (kX3_isBelow l dC dI k 4 _ ) (va_cwS 2 hts gX3_sheet_X3_isBelow rfl rfl rfl hdX3_isBelow ⟨Nat.le_trans (Nat.le_of_ble_eq_true rfl) hRf, Nat.le_trans (Nat.le_of_ble_eq_true rfl) hRl⟩) (hK.sub [] rfl) (hP.sub [] rfl) rfl hl.1 rfl (Nat.le_of_ble_eq_true rfl) dX3_sheet_7 ⟨Nat.zero_le _, Nat.zero_le _⟩ hP hS hA (fun H locs hP hS => ?_)
  refine x_ifb_ne (tgt := 15) hx hb dX3_sheet_10 (by decide) (fun c10 => ?_) (fun c10 => ?_)
  · skip
    obtain ⟨j, hj, rfl⟩ := inB_t (by omega) c10
    have hxj : xn (nI j) = j := xn_nI (by omega)
    refine lv_iload_n hx hb dX3_sheet_15 rfl (lv_at hl 2 rfl) ?_
    refine lv_iconst (v := nI 3) hx hb dX3_sheet_16 rfl ?_
    refine roS_i (As := [.int lane, .int (nI 3)]) (rest := []) ⟨hx, hb, hml, hown, hts⟩ (kX3_isBelow l dC dI lane 3 _ ) (va_cwS 2 hts gX3_sheet_X3_isBelow rfl rfl rfl hdX3_isBelow ⟨Nat.le_trans (Nat.le_of_ble_eq_true rfl) hRf, Nat.le_trans (Nat.le_of_ble_eq_true rfl) hRl⟩) (hK.sub [] rfl) (hP.sub [] rfl) rfl hl.1 rfl (Nat.le_of_ble_eq_true rfl) dX3_sheet_17 ⟨Nat.zero_le _, Nat.zero_le _⟩ hP hS hA (fun H locs hP hS => ?_)
    refine x_ifb_eq (tgt := 29) hx hb dX3_sheet_20 (by decide) (fun c20 => ?_) (fun c20 => ?_)
    · skip
      refine lv_bipush (v := -2) hx hb dX3_sheet_29 rfl ?_
      exact hend _ _ _ _ _ _ (by rw [uSheet, if_pos c10, if_neg (fun q => absurd q.1 (by rw [c20]; decide))]) (by have hno : ¬ okSheet (nI j) lane n = true := fun q => (by simp only [okSheet, Bool.and_eq_true] at q; exact absurd q.2.1 (by rw [c20]; decide)); rw [if_neg hno, if_neg hno, if_neg hno, if_neg hno, fSheet, if_neg (fun q => absurd q.2.1 (by rw [c20]; decide))] <;> rfl) hP hS dX3_sheet_31
    · skip
      obtain ⟨i, hi, rfl⟩ := inB_t (by omega) c20
      have hxi : xn (nI i) = i := xn_nI (by omega)
      refine lv_iload_n hx hb dX3_sheet_23 rfl (lv_at hl 3 rfl) ?_
      refine lv_bipush (v := nI 100) hx hb dX3_sheet_24 rfl ?_
      refine lv_icmp_le (tgt := 32) hx hb dX3_sheet_26 (by decide) (fun c26 => ?_) (fun c26 => ?_)
      · skip
        refine lv_iload_n hx hb dX3_sheet_32 rfl (lv_at hl 3 rfl) ?_
        refine lv_if_ge (tgt := 42) hx hb dX3_sheet_33 (by decide) (fun c33 => ?_) (fun c33 => ?_)
        · skip
          obtain ⟨nn, hnn, rfl⟩ := nI_of2 (M := nI 100) (n := 100) rfl (Int32.not_lt.mpr c33) c26
          have hxnn : xn (nI nn) = nn := xn_nI (by omega)
          have hok : okSheet (nI j) (nI i) (nI nn) = true := by rw [okSheet, c10, c20, inB_nI (by omega) (show nn < 101 by omega)]; rfl
          refine lv_aload_n hx hb dX3_sheet_42 rfl (lv_at hl 0 rfl) ?_
          refine x_get (D := (dC, dI)) (ci := 3) (v := .ref r0) (C := RX3) (T := TX3) (N := 5) hx hb hts hinX3 hown hK hP 0 rfl rfl 0 (Nat.le_of_ble_eq_true rfl) hf13 rfl rfl dX3_sheet_43 ?_
          refine lv_iload_n hx hb dX3_sheet_46 rfl (lv_at hl 1 rfl) ?_
          rcases (show j = 0 ∨ j = 1 ∨ j = 2 ∨ j = 3 by omega) with rfl | rfl | rfl | rfl
          · skip
            refine x_aald (v := qs 0) hx hb hK hP 1 1 rfl rfl (by decide) (by decide) rfl dX3_sheet_47 ?_
            refine lv_iload_n hx hb dX3_sheet_48 rfl (lv_at hl 2 rfl) ?_
            refine lv_iload_n hx hb dX3_sheet_49 rfl (lv_at hl 3 rfl) ?_
            refine rwW_v (As := [.int (nI i), .int (nI nn)]) (rest := []) (wn := (a, .inr (3, [.ref r0, .ref r1, .ref g, .int tr, .int (nI 0)])) :: wSh cS cI r0 qs qr (uB hs 0 true) (uN la 0 i) (uN le 0 nn) (uC C 0 (fillz (C 0) nn))) ⟨hx, hb, hml, hown, hts⟩ (kX1_renew l dC dI cI (qs 0) (qr 0) (hs 0) (la 0) (le 0) (C 0) i nn _ (by omega)) (cwV 2 hts gX3_sheet_X1_renew rfl rfl rfl hdX1_renew ⟨Nat.le_trans (Nat.le_of_ble_eq_true rfl) hRf, Nat.le_trans (Nat.le_of_ble_eq_true rfl) hRl⟩) (va_recv hK hP (ci := 1) (q0 := 2) rfl rfl) (hK.sub [0] rfl) rfl hl.1 rfl (Nat.le_of_ble_eq_true rfl) dX3_sheet_50 ⟨Nat.zero_le _, Nat.zero_le _⟩ hP hD hS hA [2, 3] [0, 1, 4, 5, 6, 7, 8, 9] [0, 1, 8, 9, 2, 3, 4, 5, 6, 7] rfl rfl (by decide) (by decide) (by decide) rfl rfl (fun H locs hP hS => ?_)
            have hD : va_D Z ((a, .inr (3, [.ref r0, .ref r1, .ref g, .int tr, .int (nI 0)])) :: wSh cS cI r0 qs qr (uB hs 0 true) (uN la 0 i) (uN le 0 nn) (uC C 0 (fillz (C 0) nn))) := hD.same rfl
            refine lv_iconst (v := nI 1) hx hb dX3_sheet_53 rfl ?_
            exact hend _ _ _ _ _ _ (by rw [uSheet, if_pos c10, if_pos ⟨c20, c26⟩, if_neg (nI_pos (by omega))] <;> rfl) (by rw [if_pos hok, if_pos hok, if_pos hok, if_pos hok, fSheet, if_neg (fun q => absurd q.2.2 (nI_pos (by omega))), hxj, hxi, hxnn] <;> rfl) hP hS dX3_sheet_54
          · skip
            refine x_aald (v := qs 1) hx hb hK hP 1 1 rfl rfl (by decide) (by decide) rfl dX3_sheet_47 ?_
            refine lv_iload_n hx hb dX3_sheet_48 rfl (lv_at hl 2 rfl) ?_
            refine lv_iload_n hx hb dX3_sheet_49 rfl (lv_at hl 3 rfl) ?_
            refine rwW_v (As := [.int (nI i), .int (nI nn)]) (rest := []) (wn := (a, .inr (3, [.ref r0, .ref r1, .ref g, .int tr, .int (nI 0)])) :: wSh cS cI r0 qs qr (uB hs 1 true) (uN la 1 i) (uN le 1 nn) (uC C 1 (fillz (C 1) nn))) ⟨hx, hb, hml, hown, hts⟩ (kX1_renew l dC dI cI (qs 1) (qr 1) (hs 1) (la 1) (le 1) (C 1) i nn _ (by omega)) (cwV 2 hts gX3_sheet_X1_renew rfl rfl rfl hdX1_renew ⟨Nat.le_trans (Nat.le_of_ble_eq_true rfl) hRf, Nat.le_trans (Nat.le_of_ble_eq_true rfl) hRl⟩) (va_recv hK hP (ci := 1) (q0 := 4) rfl rfl) (hK.sub [0] rfl) rfl hl.1 rfl (Nat.le_of_ble_eq_true rfl) dX3_sheet_50 ⟨Nat.zero_le _, Nat.zero_le _⟩ hP hD hS hA [4, 5] [0, 1, 2, 3, 6, 7, 8, 9] [0, 1, 2, 3, 8, 9, 4, 5, 6, 7] rfl rfl (by decide) (by decide) (by decide) rfl rfl (fun H locs hP hS => ?_)
            have hD : va_D Z ((a, .inr (3, [.ref r0, .ref r1, .ref g, .int tr, .int (nI 0)])) :: wSh cS cI r0 qs qr (uB hs 1 true) (uN la 1 i) (uN le 1 nn) (uC C 1 (fillz (C 1) nn))) := hD.same rfl
            refine lv_iconst (v := nI 1) hx hb dX3_sheet_53 rfl ?_
            exact hend _ _ _ _ _ _ (by rw [uSheet, if_pos c10, if_pos ⟨c20, c26⟩, if_neg (nI_pos (by omega))] <;> rfl) (by rw [if_pos hok, if_pos hok, if_pos hok, if_pos hok, fSheet, if_neg (fun q => absurd q.2.2 (nI_pos (by omega))), hxj, hxi, hxnn] <;> rfl) hP hS dX3_sheet_54
          · skip
            refine x_aald (v := qs 2) hx hb hK hP 1 1 rfl rfl (by decide) (by decide) rfl dX3_sheet_47 ?_
            refine lv_iload_n hx hb dX3_sheet_48 rfl (lv_at hl 2 rfl) ?_
            refine lv_iload_n hx hb dX3_sheet_49 rfl (lv_at hl 3 rfl) ?_
            refine rwW_v (As := [.int (nI i), .int (nI nn)]) (rest := []) (wn := (a, .inr (3, [.ref r0, .ref r1, .ref g, .int tr, .int (nI 0)])) :: wSh cS cI r0 qs qr (uB hs 2 true) (uN la 2 i) (uN le 2 nn) (uC C 2 (fillz (C 2) nn))) ⟨hx, hb, hml, hown, hts⟩ (kX1_renew l dC dI cI (qs 2) (qr 2) (hs 2) (la 2) (le 2) (C 2) i nn _ (by omega)) (cwV 2 hts gX3_sheet_X1_renew rfl rfl rfl hdX1_renew ⟨Nat.le_trans (Nat.le_of_ble_eq_true rfl) hRf, Nat.le_trans (Nat.le_of_ble_eq_true rfl) hRl⟩) (va_recv hK hP (ci := 1) (q0 := 6) rfl rfl) (hK.sub [0] rfl) rfl hl.1 rfl (Nat.le_of_ble_eq_true rfl) dX3_sheet_50 ⟨Nat.zero_le _, Nat.zero_le _⟩ hP hD hS hA [6, 7] [0, 1, 2, 3, 4, 5, 8, 9] [0, 1, 2, 3, 4, 5, 8, 9, 6, 7] rfl rfl (by decide) (by decide) (by decide) rfl rfl (fun H locs hP hS => ?_)
            have hD : va_D Z ((a, .inr (3, [.ref r0, .ref r1, .ref g, .int tr, .int (nI 0)])) :: wSh cS cI r0 qs qr (uB hs 2 true) (uN la 2 i) (uN le 2 nn) (uC C 2 (fillz (C 2) nn))) := hD.same rfl
            refine lv_iconst (v := nI 1) hx hb dX3_sheet_53 rfl ?_
            exact hend _ _ _ _ _ _ (by rw [uSheet, if_pos c10, if_pos ⟨c20, c26⟩, if_neg (nI_pos (by omega))] <;> rfl) (by rw [if_pos hok, if_pos hok, if_pos hok, if_pos hok, fSheet, if_neg (fun q => absurd q.2.2 (nI_pos (by omega))), hxj, hxi, hxnn] <;> rfl) hP hS dX3_sheet_54
          · skip
            refine x_aald (v := qs 3) hx hb hK hP 1 1 rfl rfl (by decide) (by decide) rfl dX3_sheet_47 ?_
            refine lv_iload_n hx hb dX3_sheet_48 rfl (lv_at hl 2 rfl) ?_
            refine lv_iload_n hx hb dX3_sheet_49 rfl (lv_at hl 3 rfl) ?_
            refine rwW_v (As := [.int (nI i), .int (nI nn)]) (rest := []) (wn := (a, .inr (3, [.ref r0, .ref r1, .ref g, .int tr, .int (nI 0)])) :: wSh cS cI r0 qs qr (uB hs 3 true) (uN la 3 i) (uN le 3 nn) (uC C 3 (fillz (C 3) nn))) ⟨hx, hb, hml, hown, hts⟩ (kX1_renew l dC dI cI (qs 3) (qr 3) (hs 3) (la 3) (le 3) (C 3) i nn _ (by omega)) (cwV 2 hts gX3_sheet_X1_renew rfl rfl rfl hdX1_renew ⟨Nat.le_trans (Nat.le_of_ble_eq_true rfl) hRf, Nat.le_trans (Nat.le_of_ble_eq_true rfl) hRl⟩) (va_recv hK hP (ci := 1) (q0 := 8) rfl rfl) (hK.sub [0] rfl) rfl hl.1 rfl (Nat.le_of_ble_eq_true rfl) dX3_sheet_50 ⟨Nat.zero_le _, Nat.zero_le _⟩ hP hD hS hA [8, 9] [0, 1, 2, 3, 4, 5, 6, 7] [0, 1, 2, 3, 4, 5, 6, 7, 8, 9] rfl rfl (by decide) (by decide) (by decide) rfl rfl (fun H locs hP hS => ?_)
            have hD : va_D Z ((a, .inr (3, [.ref r0, .ref r1, .ref g, .int tr, .int (nI 0)])) :: wSh cS cI r0 qs qr (uB hs 3 true) (uN la 3 i) (uN le 3 nn) (uC C 3 (fillz (C 3) nn))) := hD.same rfl
            refine lv_iconst (v := nI 1) hx hb dX3_sheet_53 rfl ?_
            exact hend _ _ _ _ _ _ (by rw [uSheet, if_pos c10, if_pos ⟨c20, c26⟩, if_neg (nI_pos (by omega))] <;> rfl) (by rw [if_pos hok, if_pos hok, if_pos hok, if_pos hok, fSheet, if_neg (fun q => absurd q.2.2 (nI_pos (by omega))), hxj, hxi, hxnn] <;> rfl) hP hS dX3_sheet_54
        · skip
          refine lv_aload_n hx hb dX3_sheet_36 rfl (lv_at hl 0 rfl) ?_
          refine lv_iconst (v := nI 4) hx hb dX3_sheet_37 rfl ?_
          refine rwW_i (As := [.int (nI 4)]) (rest := []) (wn := (a, .inr (3, [.ref r0, .ref r1, .ref g, .int tr, .int (nI 4)])) :: wSh cS cI r0 qs qr hs la le C) ⟨hx, hb, hml, hown, hts⟩ (kX3_failed l dC dI a r0 r1 g tr (nI 0) 4 _) (cwV 1 hts gX3_sheet_X3_failed rfl rfl rfl hdX3_failed ⟨Nat.le_trans (Nat.le_of_ble_eq_true rfl) hRf, Nat.le_trans (Nat.le_of_ble_eq_true rfl) hRl⟩) (va_recv hK hP (ci := 3) (q0 := 0) rfl rfl) (hK.sub [] rfl) rfl hl.1 rfl (Nat.le_of_ble_eq_true rfl) dX3_sheet_38 ⟨Nat.zero_le _, Nat.zero_le _⟩ hP hD hS hA [0] [1, 2, 3, 4, 5, 6, 7, 8, 9] [9, 0, 1, 2, 3, 4, 5, 6, 7, 8] rfl rfl (by decide) (by decide) (by decide) rfl rfl (fun H locs hP hS => ?_)
          have hD : va_D Z ((a, .inr (3, [.ref r0, .ref r1, .ref g, .int tr, .int (nI 4)])) :: wSh cS cI r0 qs qr hs la le C) := hD.same rfl
          exact hend _ _ _ _ _ _ (by rw [uSheet, if_pos c10, if_pos ⟨c20, c26⟩, if_pos (Int32.not_le.mp c33)] <;> rfl) (by have hno : ¬ okSheet (nI j) (nI i) n = true := fun q => (by simp only [okSheet, Bool.and_eq_true] at q; exact c33 (of_decide_eq_true q.2.2).1); rw [if_neg hno, if_neg hno, if_neg hno, if_neg hno, fSheet, if_pos ⟨c10, c20, Int32.not_le.mp c33⟩] <;> rfl) hP hS dX3_sheet_41
      · skip
        refine lv_bipush (v := -2) hx hb dX3_sheet_29 rfl ?_
        exact hend _ _ _ _ _ _ (by rw [uSheet, if_pos c10, if_neg (fun q => c26 q.2)]) (by have hno : ¬ okSheet (nI j) (nI i) n = true := fun q => (by simp only [okSheet, Bool.and_eq_true] at q; exact c26 (n_le100 q.2.2)); rw [if_neg hno, if_neg hno, if_neg hno, if_neg hno, fSheet, if_neg (fun q => c26 (n_le100n q.2.2))] <;> rfl) hP hS dX3_sheet_31
  · skip
    refine lv_iconst (v := -1) hx hb dX3_sheet_13 rfl ?_
    exact hend _ _ _ _ _ _ (by rw [uSheet, if_neg (by rw [c10]; decide)]) (by have hno : ¬ okSheet k lane n = true := fun q => (by simp only [okSheet, Bool.and_eq_true] at q; exact absurd q.1 (by rw [c10]; decide)); rw [if_neg hno, if_neg hno, if_neg hno, if_neg hno, fSheet, if_neg (fun q => absurd q.1 (by rw [c10]; decide))] <;> rfl) hP hS dX3_sheet_14
set_option maxRecDepth 20000 in
theorem ggX3_lose_X3_isBelow : GoodIn wsX3_lose wsX3_isBelow := goodIn_r _ [6] (by decide +kernel) (by decide +kernel)
set_option maxRecDepth 20000 in
theorem gX3_lose_X3_isBelow : GoodIn wsX3_lose (va_wsS RX3 39 yX3_isBelow wsX3_isBelow) := goodIn_app (goodIn_of _ (by decide +kernel)) ggX3_lose_X3_isBelow
set_option maxHeartbeats 4000000 in
set_option maxRecDepth 100000 in
theorem kX3_lose (l : Launch) (dC : Nat → ClassId) (dI : Nat → Nat → Nat) (a r1 g : Nat) (tr fl : Int32) (cS cI : ClassId) (r0 : Nat) (qs qr : Nat → Nat) (hs : Nat → Bool) (la le : Nat → Nat) (C : Nat → Nat → Int32) (hB : ∀ k, k < 4 → la k ≤ 2 ∧ le k ≤ 100) (k : Int32) (sz : Nat) : Met l yX3_lose wsX3_lose ({ frames := 1, cells := 0, slots := 0, locals := 21 }) (rwP [.ref a, .int k] sz (dC, dI) [(cI, .int), (cS, .object "StatueSquare$Sheet")] ((a, .inr (3, [.ref r0, .ref r1, .ref g, .int tr, .int fl])) :: wSh cS cI r0 qs qr hs la le C)) (rwQi (uLose hs k) (dC, dI) ((a, .inr (3, [.ref r0, .ref r1, .ref g, .int tr, .int fl])) :: wSh cS cI r0 qs qr hs la le C) ((a, .inr (3, [.ref r0, .ref r1, .ref g, .int tr, .int fl])) :: wSh cS cI r0 qs qr (if inB k 4 = true then uB hs (xn k) false else hs) la le C) sz) 0 0 (va_A ((a, .inr (3, [.ref r0, .ref r1, .ref g, .int tr, .int fl])) :: wSh cS cI r0 qs qr hs la le C) sz) := by
  refine rw_met_i (by decide) rfl (Nat.le_of_ble_eq_true rfl) ?_
  intro pp ee ss mm aa bb me cd RR QQ Z hx hb hml hown hts hRf hRl hP hK hD hA hS hend ls hl
  have hown : ss.vm.findClass RX3 = some mm.cls := hown
  have hRf : 1 ≤ RR.frames := hRf
  have hRl : 21 ≤ RR.locals := hRl
  have hl : lv_has ls 3 [(0, .ref a), (1, .int k)] := hl
  have hB0 := hB 0 (by decide)
  have hB1 := hB 1 (by decide)
  have hB2 := hB 2 (by decide)
  have hB3 := hB 3 (by decide)
  have hf13 := hts (.fieldLink RX3 13 "StatueSquare" "sheets" "[LStatueSquare$Sheet;") (List.mem_of_getElem? (i := 1) rfl)
  have hinX3 : ∀ w ∈ u_ws RX3 TX3 5, w ∈ wsX3_lose := fun _ h => List.mem_cons_of_mem _ (List.mem_append_left _ (List.mem_append_right _ h))
  have hf184 := hts (.fieldLink RX3 184 "StatueSquare$Sheet" "hasRow" "Z") (List.mem_of_getElem? (i := 2) rfl)
  have hinX1 : ∀ w ∈ u_ws RX1 TX1 4, w ∈ wsX3_lose := fun _ h => List.mem_cons_of_mem _ (List.mem_append_right _ h)
  refine lv_iload_n hx hb dX3_lose_0 rfl (lv_at hl 1 rfl) ?_
  refine lv_iconst (v := nI 4) hx hb dX3_lose_1 rfl ?_
  refine roS_i (As := [.int k, .int (nI 4)]) (rest := []) ⟨hx, hb, hml, hown, hts⟩ (kX3_isBelow l dC dI k 4 _ ) (va_cwS 2 hts gX3_lose_X3_isBelow rfl rfl rfl hdX3_isBelow ⟨Nat.le_trans (Nat.le_of_ble_eq_true rfl) hRf, Nat.le_trans (Nat.le_of_ble_eq_true rfl) hRl⟩) (hK.sub [] rfl) (hP.sub [] rfl) rfl hl.1 rfl (Nat.le_of_ble_eq_true rfl) dX3_lose_2 ⟨Nat.zero_le _, Nat.zero_le _⟩ hP hS hA (fun H locs hP hS => ?_)
  refine x_ifb_ne (tgt := 10) hx hb dX3_lose_5 (by decide) (fun c5 => ?_) (fun c5 => ?_)
  · skip
    obtain ⟨j, hj, rfl⟩ := inB_t (by omega) c5
    have hxj : xn (nI j) = j := xn_nI (by omega)
    refine lv_aload_n hx hb dX3_lose_10 rfl (lv_at hl 0 rfl) ?_
    refine x_get (D := (dC, dI)) (ci := 3) (v := .ref r0) (C := RX3) (T := TX3) (N := 5) hx hb hts hinX3 hown hK hP 0 rfl rfl 0 (Nat.le_of_ble_eq_true rfl) hf13 rfl rfl dX3_lose_11 ?_
    refine lv_iload_n hx hb dX3_lose_14 rfl (lv_at hl 1 rfl) ?_
    rcases (show j = 0 ∨ j = 1 ∨ j = 2 ∨ j = 3 by omega) with rfl | rfl | rfl | rfl
    · skip
      refine x_aald (v := qs 0) hx hb hK hP 1 1 rfl rfl (by decide) (by decide) rfl dX3_lose_15 ?_
      refine x_get (D := (dC, dI)) (ci := 1) (v := .int (bI (hs 0))) (C := RX1) (T := TX1) (N := 4) hx hb hts hinX1 hown hK hP 2 rfl rfl 1 (Nat.le_of_ble_eq_true rfl) hf184 rfl rfl dX3_lose_16 ?_
      refine lv_istore_n (lv' := [(2, .int (bI (hs 0))), (0, .ref a), (1, .int (nI 0))]) hx hb dX3_lose_19 rfl hl (by decide) rfl (fun ls hl => ?_)
      refine lv_aload_n hx hb dX3_lose_20 rfl (lv_at hl 1 rfl) ?_
      refine x_get (D := (dC, dI)) (ci := 3) (v := .ref r0) (C := RX3) (T := TX3) (N := 5) hx hb hts hinX3 hown hK hP 0 rfl rfl 0 (Nat.le_of_ble_eq_true rfl) hf13 rfl rfl dX3_lose_21 ?_
      refine lv_iload_n hx hb dX3_lose_24 rfl (lv_at hl 2 rfl) ?_
      refine x_aald (v := qs 0) hx hb hK hP 1 1 rfl rfl (by decide) (by decide) rfl dX3_lose_25 ?_
      refine lv_iconst (v := nI 0) hx hb dX3_lose_26 rfl ?_
      refine x_top (y := bI false) rfl ?_
      refine x_put (D := (dC, dI)) (ci := 1) (v := .int (bI false)) (C := RX1) (T := TX1) (N := 4) (wn := (a, .inr (3, [.ref r0, .ref r1, .ref g, .int tr, .int fl])) :: wSh cS cI r0 qs qr (uB hs 0 false) la le C) hx hb hts hinX1 tyX1 tyX1_ok nmX1 hown hK hP hD hS 2 rfl rfl 1 (Nat.le_of_ble_eq_true rfl) hf184 rfl rfl (bI_nar _) (bI_fit _) (Nat.le_of_ble_eq_true rfl) rfl dX3_lose_27 (fun H locs hP hS => ?_)
      have hD : va_D Z ((a, .inr (3, [.ref r0, .ref r1, .ref g, .int tr, .int fl])) :: wSh cS cI r0 qs qr (uB hs 0 false) la le C) := hD.same rfl
      refine lv_iload_n hx hb dX3_lose_30 rfl (lv_at hl 0 rfl) ?_
      refine x_ifb_eq (tgt := 38) hx hb dX3_lose_31 (by decide) (fun c31 => ?_) (fun c31 => ?_)
      · skip
        refine lv_iconst (v := nI 0) hx hb dX3_lose_38 rfl ?_
        exact hend _ _ _ _ _ _ (by rw [uLose, if_pos c5, hxj, c31] <;> rfl) (by rw [if_pos c5, hxj]) hP hS dX3_lose_39
      · skip
        refine lv_iconst (v := nI 1) hx hb dX3_lose_34 rfl ?_
        refine lv_goto (tgt := 39) hx hb dX3_lose_35 (by decide) ?_
        exact hend _ _ _ _ _ _ (by rw [uLose, if_pos c5, hxj, c31] <;> rfl) (by rw [if_pos c5, hxj]) hP hS dX3_lose_39
    · skip
      refine x_aald (v := qs 1) hx hb hK hP 1 1 rfl rfl (by decide) (by decide) rfl dX3_lose_15 ?_
      refine x_get (D := (dC, dI)) (ci := 1) (v := .int (bI (hs 1))) (C := RX1) (T := TX1) (N := 4) hx hb hts hinX1 hown hK hP 4 rfl rfl 1 (Nat.le_of_ble_eq_true rfl) hf184 rfl rfl dX3_lose_16 ?_
      refine lv_istore_n (lv' := [(2, .int (bI (hs 1))), (0, .ref a), (1, .int (nI 1))]) hx hb dX3_lose_19 rfl hl (by decide) rfl (fun ls hl => ?_)
      refine lv_aload_n hx hb dX3_lose_20 rfl (lv_at hl 1 rfl) ?_
      refine x_get (D := (dC, dI)) (ci := 3) (v := .ref r0) (C := RX3) (T := TX3) (N := 5) hx hb hts hinX3 hown hK hP 0 rfl rfl 0 (Nat.le_of_ble_eq_true rfl) hf13 rfl rfl dX3_lose_21 ?_
      refine lv_iload_n hx hb dX3_lose_24 rfl (lv_at hl 2 rfl) ?_
      refine x_aald (v := qs 1) hx hb hK hP 1 1 rfl rfl (by decide) (by decide) rfl dX3_lose_25 ?_
      refine lv_iconst (v := nI 0) hx hb dX3_lose_26 rfl ?_
      refine x_top (y := bI false) rfl ?_
      refine x_put (D := (dC, dI)) (ci := 1) (v := .int (bI false)) (C := RX1) (T := TX1) (N := 4) (wn := (a, .inr (3, [.ref r0, .ref r1, .ref g, .int tr, .int fl])) :: wSh cS cI r0 qs qr (uB hs 1 false) la le C) hx hb hts hinX1 tyX1 tyX1_ok nmX1 hown hK hP hD hS 4 rfl rfl 1 (Nat.le_of_ble_eq_true rfl) hf184 rfl rfl (bI_nar _) (bI_fit _) (Nat.le_of_ble_eq_true rfl) rfl dX3_lose_27 (fun H locs hP hS => ?_)
      have hD : va_D Z ((a, .inr (3, [.ref r0, .ref r1, .ref g, .int tr, .int fl])) :: wSh cS cI r0 qs qr (uB hs 1 false) la le C) := hD.same rfl
      refine lv_iload_n hx hb dX3_lose_30 rfl (lv_at hl 0 rfl) ?_
      refine x_ifb_eq (tgt := 38) hx hb dX3_lose_31 (by decide) (fun c31 => ?_) (fun c31 => ?_)
      · skip
        refine lv_iconst (v := nI 0) hx hb dX3_lose_38 rfl ?_
        exact hend _ _ _ _ _ _ (by rw [uLose, if_pos c5, hxj, c31] <;> rfl) (by rw [if_pos c5, hxj]) hP hS dX3_lose_39
      · skip
        refine lv_iconst (v := nI 1) hx hb dX3_lose_34 rfl ?_
        refine lv_goto (tgt := 39) hx hb dX3_lose_35 (by decide) ?_
        exact hend _ _ _ _ _ _ (by rw [uLose, if_pos c5, hxj, c31] <;> rfl) (by rw [if_pos c5, hxj]) hP hS dX3_lose_39
    · skip
      refine x_aald (v := qs 2) hx hb hK hP 1 1 rfl rfl (by decide) (by decide) rfl dX3_lose_15 ?_
      refine x_get (D := (dC, dI)) (ci := 1) (v := .int (bI (hs 2))) (C := RX1) (T := TX1) (N := 4) hx hb hts hinX1 hown hK hP 6 rfl rfl 1 (Nat.le_of_ble_eq_true rfl) hf184 rfl rfl dX3_lose_16 ?_
      refine lv_istore_n (lv' := [(2, .int (bI (hs 2))), (0, .ref a), (1, .int (nI 2))]) hx hb dX3_lose_19 rfl hl (by decide) rfl (fun ls hl => ?_)
      refine lv_aload_n hx hb dX3_lose_20 rfl (lv_at hl 1 rfl) ?_
      refine x_get (D := (dC, dI)) (ci := 3) (v := .ref r0) (C := RX3) (T := TX3) (N := 5) hx hb hts hinX3 hown hK hP 0 rfl rfl 0 (Nat.le_of_ble_eq_true rfl) hf13 rfl rfl dX3_lose_21 ?_
      refine lv_iload_n hx hb dX3_lose_24 rfl (lv_at hl 2 rfl) ?_
      refine x_aald (v := qs 2) hx hb hK hP 1 1 rfl rfl (by decide) (by decide) rfl dX3_lose_25 ?_
      refine lv_iconst (v := nI 0) hx hb dX3_lose_26 rfl ?_
      refine x_top (y := bI false) rfl ?_
      refine x_put (D := (dC, dI)) (ci := 1) (v := .int (bI false)) (C := RX1) (T := TX1) (N := 4) (wn := (a, .inr (3, [.ref r0, .ref r1, .ref g, .int tr, .int fl])) :: wSh cS cI r0 qs qr (uB hs 2 false) la le C) hx hb hts hinX1 tyX1 tyX1_ok nmX1 hown hK hP hD hS 6 rfl rfl 1 (Nat.le_of_ble_eq_true rfl) hf184 rfl rfl (bI_nar _) (bI_fit _) (Nat.le_of_ble_eq_true rfl) rfl dX3_lose_27 (fun H locs hP hS => ?_)
      have hD : va_D Z ((a, .inr (3, [.ref r0, .ref r1, .ref g, .int tr, .int fl])) :: wSh cS cI r0 qs qr (uB hs 2 false) la le C) := hD.same rfl
      refine lv_iload_n hx hb dX3_lose_30 rfl (lv_at hl 0 rfl) ?_
      refine x_ifb_eq (tgt := 38) hx hb dX3_lose_31 (by decide) (fun c31 => ?_) (fun c31 => ?_)
      · skip
        refine lv_iconst (v := nI 0) hx hb dX3_lose_38 rfl ?_
        exact hend _ _ _ _ _ _ (by rw [uLose, if_pos c5, hxj, c31] <;> rfl) (by rw [if_pos c5, hxj]) hP hS dX3_lose_39
      · skip
        refine lv_iconst (v := nI 1) hx hb dX3_lose_34 rfl ?_
        refine lv_goto (tgt := 39) hx hb dX3_lose_35 (by decide) ?_
        exact hend _ _ _ _ _ _ (by rw [uLose, if_pos c5, hxj, c31] <;> rfl) (by rw [if_pos c5, hxj]) hP hS dX3_lose_39
    · skip
      refine x_aald (v := qs 3) hx hb hK hP 1 1 rfl rfl (by decide) (by decide) rfl dX3_lose_15 ?_
      refine x_get (D := (dC, dI)) (ci := 1) (v := .int (bI (hs 3))) (C := RX1) (T := TX1) (N := 4) hx hb hts hinX1 hown hK hP 8 rfl rfl 1 (Nat.le_of_ble_eq_true rfl) hf184 rfl rfl dX3_lose_16 ?_
      refine lv_istore_n (lv' := [(2, .int (bI (hs 3))), (0, .ref a), (1, .int (nI 3))]) hx hb dX3_lose_19 rfl hl (by decide) rfl (fun ls hl => ?_)
      refine lv_aload_n hx hb dX3_lose_20 rfl (lv_at hl 1 rfl) ?_
      refine x_get (D := (dC, dI)) (ci := 3) (v := .ref r0) (C := RX3) (T := TX3) (N := 5) hx hb hts hinX3 hown hK hP 0 rfl rfl 0 (Nat.le_of_ble_eq_true rfl) hf13 rfl rfl dX3_lose_21 ?_
      refine lv_iload_n hx hb dX3_lose_24 rfl (lv_at hl 2 rfl) ?_
      refine x_aald (v := qs 3) hx hb hK hP 1 1 rfl rfl (by decide) (by decide) rfl dX3_lose_25 ?_
      refine lv_iconst (v := nI 0) hx hb dX3_lose_26 rfl ?_
      refine x_top (y := bI false) rfl ?_
      refine x_put (D := (dC, dI)) (ci := 1) (v := .int (bI false)) (C := RX1) (T := TX1) (N := 4) (wn := (a, .inr (3, [.ref r0, .ref r1, .ref g, .int tr, .int fl])) :: wSh cS cI r0 qs qr (uB hs 3 false) la le C) hx hb hts hinX1 tyX1 tyX1_ok nmX1 hown hK hP hD hS 8 rfl rfl 1 (Nat.le_of_ble_eq_true rfl) hf184 rfl rfl (bI_nar _) (bI_fit _) (Nat.le_of_ble_eq_true rfl) rfl dX3_lose_27 (fun H locs hP hS => ?_)
      have hD : va_D Z ((a, .inr (3, [.ref r0, .ref r1, .ref g, .int tr, .int fl])) :: wSh cS cI r0 qs qr (uB hs 3 false) la le C) := hD.same rfl
      refine lv_iload_n hx hb dX3_lose_30 rfl (lv_at hl 0 rfl) ?_
      refine x_ifb_eq (tgt := 38) hx hb dX3_lose_31 (by decide) (fun c31 => ?_) (fun c31 => ?_)
      · skip
        refine lv_iconst (v := nI 0) hx hb dX3_lose_38 rfl ?_
        exact hend _ _ _ _ _ _ (by rw [uLose, if_pos c5, hxj, c31] <;> rfl) (by rw [if_pos c5, hxj]) hP hS dX3_lose_39
      · skip
        refine lv_iconst (v := nI 1) hx hb dX3_lose_34 rfl ?_
        refine lv_goto (tgt := 39) hx hb dX3_lose_35 (by decide) ?_
        exact hend _ _ _ _ _ _ (by rw [uLose, if_pos c5, hxj, c31] <;> rfl) (by rw [if_pos c5, hxj]) hP hS dX3_lose_39
  · skip
    refine lv_iconst (v := -1) hx hb dX3_lose_8 rfl ?_
    exact hend _ _ _ _ _ _ (by simp [uLose, inB02, c5] <;> rfl) (by rw [if_neg (by rw [c5]; decide)]) hP hS dX3_lose_9
theorem hdX1_write : yX1_write.cls = RX1 ∧ yX1_write.cls ≠ "java/lang/invoke/MethodHandle" ∧ yX1_write.cls ≠ "java/lang/invoke/VarHandle" ∧ (parseMethodDescriptor yX1_write.desc).map (fun d => d.parameters.length) = some 2 := by decide +kernel
set_option maxRecDepth 20000 in
theorem ggX3_put_X3_isBelow : GoodIn wsX3_put wsX3_isBelow := goodIn_r _ [8] (by decide +kernel) (by decide +kernel)
set_option maxRecDepth 20000 in
theorem gX3_put_X3_isBelow : GoodIn wsX3_put (va_wsS RX3 39 yX3_isBelow wsX3_isBelow) := goodIn_app (goodIn_of _ (by decide +kernel)) ggX3_put_X3_isBelow
set_option maxRecDepth 20000 in
theorem ggX3_put_X1_write : GoodIn wsX3_put wsX1_write := goodIn_r _ [17, 18, 19, 25, 26, 27, 28] (by decide +kernel) (by decide +kernel)
set_option maxRecDepth 20000 in
theorem gX3_put_X1_write : GoodIn wsX3_put (wsV RX3 190 RX1 yX1_write wsX1_write) := goodIn_app (goodIn_of _ (by decide +kernel)) ggX3_put_X1_write
set_option maxRecDepth 20000 in
theorem ggX3_put_X3_failed : GoodIn wsX3_put wsX3_failed := goodIn_r _ [12, 1, 20, 21, 22, 23, 24] (by decide +kernel) (by decide +kernel)
set_option maxRecDepth 20000 in
theorem gX3_put_X3_failed : GoodIn wsX3_put (wsV RX3 50 RX3 yX3_failed wsX3_failed) := goodIn_app (goodIn_of _ (by decide +kernel)) ggX3_put_X3_failed
set_option maxHeartbeats 4000000 in
set_option maxRecDepth 100000 in
theorem kX3_put (l : Launch) (dC : Nat → ClassId) (dI : Nat → Nat → Nat) (a r1 g : Nat) (tr fl : Int32) (cS cI : ClassId) (r0 : Nat) (qs qr : Nat → Nat) (hs : Nat → Bool) (la le : Nat → Nat) (C : Nat → Nat → Int32) (hB : ∀ k, k < 4 → la k ≤ 2 ∧ le k ≤ 100) (k : Int32) (i : Int32) (v : Int32) (sz : Nat) : Met l yX3_put wsX3_put ({ frames := 1, cells := 0, slots := 0, locals := 22 }) (rwP [.ref a, .int k, .int i, .int v] sz (dC, dI) [(cI, .int), (cS, .object "StatueSquare$Sheet")] ((a, .inr (3, [.ref r0, .ref r1, .ref g, .int tr, .int fl])) :: wSh cS cI r0 qs qr hs la le C)) (rwQi (uPut hs le k i) (dC, dI) ((a, .inr (3, [.ref r0, .ref r1, .ref g, .int tr, .int fl])) :: wSh cS cI r0 qs qr hs la le C) ((a, .inr (3, [.ref r0, .ref r1, .ref g, .int tr, .int (fPut hs le k i)])) :: wSh cS cI r0 qs qr hs la le (if okPut hs le k i = true then uC C (xn k) (upd (C (xn k)) (xn i) (cutL (la (xn k)) v)) else C)) sz) 0 0 (va_A ((a, .inr (3, [.ref r0, .ref r1, .ref g, .int tr, .int fl])) :: wSh cS cI r0 qs qr hs la le C) sz) := by
  refine rw_met_i (by decide) rfl (Nat.le_of_ble_eq_true rfl) ?_
  intro pp ee ss mm aa bb me cd RR QQ Z hx hb hml hown hts hRf hRl hP hK hD hA hS hend ls hl
  have hown : ss.vm.findClass RX3 = some mm.cls := hown
  have hRf : 1 ≤ RR.frames := hRf
  have hRl : 22 ≤ RR.locals := hRl
  have hl : lv_has ls 5 [(0, .ref a), (1, .int k), (2, .int i), (3, .int v)] := hl
  have hB0 := hB 0 (by decide)
  have hB1 := hB 1 (by decide)
  have hB2 := hB 2 (by decide)
  have hB3 := hB 3 (by decide)
  have hf36 := hts (.fieldLink RX3 36 "StatueSquare" "latestFault" "I") (List.mem_of_getElem? (i := 1) rfl)
  have hinX3 : ∀ w ∈ u_ws RX3 TX3 5, w ∈ wsX3_put := fun _ h => List.mem_cons_of_mem _ (List.mem_append_left _ (List.mem_append_right _ h))
  have hf13 := hts (.fieldLink RX3 13 "StatueSquare" "sheets" "[LStatueSquare$Sheet;") (List.mem_of_getElem? (i := 2) rfl)
  have hf184 := hts (.fieldLink RX3 184 "StatueSquare$Sheet" "hasRow" "Z") (List.mem_of_getElem? (i := 3) rfl)
  have hinX1 : ∀ w ∈ u_ws RX1 TX1 4, w ∈ wsX3_put := fun _ h => List.mem_cons_of_mem _ (List.mem_append_right _ h)
  have hf187 := hts (.fieldLink RX3 187 "StatueSquare$Sheet" "length" "I") (List.mem_of_getElem? (i := 4) rfl)
  refine lv_aload_n hx hb dX3_put_0 rfl (lv_at hl 0 rfl) ?_
  refine lv_iconst (v := nI 0) hx hb dX3_put_1 rfl ?_
  refine x_put (D := (dC, dI)) (ci := 3) (v := .int (nI 0)) (C := RX3) (T := TX3) (N := 5) (wn := (a, .inr (3, [.ref r0, .ref r1, .ref g, .int tr, .int (nI 0)])) :: wSh cS cI r0 qs qr hs la le C) hx hb hts hinX3 tyX3 tyX3_ok nmX3 hown hK hP hD hS 0 rfl rfl 4 (Nat.le_of_ble_eq_true rfl) hf36 rfl rfl rfl rfl (Nat.le_of_ble_eq_true rfl) rfl dX3_put_2 (fun H locs hP hS => ?_)
  have hD : va_D Z ((a, .inr (3, [.ref r0, .ref r1, .ref g, .int tr, .int (nI 0)])) :: wSh cS cI r0 qs qr hs la le C) := hD.same rfl
  refine lv_iload_n hx hb dX3_put_5 rfl (lv_at hl 1 rfl) ?_
  refine lv_iconst (v := nI 4) hx hb dX3_put_6 rfl ?_
  refine roS_i (As := [.int k, .int (nI 4)]) (rest := []) ⟨hx, hb, hml, hown, hts⟩ (kX3_isBelow l dC dI k 4 _ ) (va_cwS 2 hts gX3_put_X3_isBelow rfl rfl rfl hdX3_isBelow ⟨Nat.le_trans (Nat.le_of_ble_eq_true rfl) hRf, Nat.le_trans (Nat.le_of_ble_eq_true rfl) hRl⟩) (hK.sub [] rfl) (hP.sub [] rfl) rfl hl.1 rfl (Nat.le_of_ble_eq_true rfl) dX3_put_7 ⟨Nat.zero_le _, Nat.zero_le _⟩ hP hS hA (fun H locs hP hS => ?_)
  refine x_ifb_ne (tgt := 15) hx hb dX3_put_10 (by decide) (fun c10 => ?_) (fun c10 => ?_)
  · skip
    obtain ⟨j, hj, rfl⟩ := inB_t (by omega) c10
    have hxj : xn (nI j) = j := xn_nI (by omega)
    refine lv_aload_n hx hb dX3_put_15 rfl (lv_at hl 0 rfl) ?_
    refine x_get (D := (dC, dI)) (ci := 3) (v := .ref r0) (C := RX3) (T := TX3) (N := 5) hx hb hts hinX3 hown hK hP 0 rfl rfl 0 (Nat.le_of_ble_eq_true rfl) hf13 rfl rfl dX3_put_16 ?_
    refine lv_iload_n hx hb dX3_put_19 rfl (lv_at hl 1 rfl) ?_
    rcases (show j = 0 ∨ j = 1 ∨ j = 2 ∨ j = 3 by omega) with rfl | rfl | rfl | rfl
    · skip
      refine x_aald (v := qs 0) hx hb hK hP 1 1 rfl rfl (by decide) (by decide) rfl dX3_put_20 ?_
      refine lv_astore (lv' := [(4, .ref (qs 0)), (0, .ref a), (1, .int (nI 0)), (2, .int i), (3, .int v)]) hx hb dX3_put_21 hl (by decide) rfl (fun ls hl => ?_)
      refine lv_aload hx hb dX3_put_23 (lv_at hl 0 rfl) ?_
      refine x_get (D := (dC, dI)) (ci := 1) (v := .int (bI (hs 0))) (C := RX1) (T := TX1) (N := 4) hx hb hts hinX1 hown hK hP 2 rfl rfl 1 (Nat.le_of_ble_eq_true rfl) hf184 rfl rfl dX3_put_25 ?_
      refine x_ifb_ne (tgt := 37) hx hb dX3_put_28 (by decide) (fun c28 => ?_) (fun c28 => ?_)
      · skip
        refine lv_iload_n hx hb dX3_put_37 rfl (lv_at hl 3 rfl) ?_
        refine lv_aload hx hb dX3_put_38 (lv_at hl 0 rfl) ?_
        refine x_get (D := (dC, dI)) (ci := 1) (v := .int (nI (le 0))) (C := RX1) (T := TX1) (N := 4) hx hb hts hinX1 hown hK hP 2 rfl rfl 3 (Nat.le_of_ble_eq_true rfl) hf187 rfl rfl dX3_put_40 ?_
        refine roS_i (As := [.int i, .int (nI (le 0))]) (rest := []) ⟨hx, hb, hml, hown, hts⟩ (kX3_isBelow l dC dI i (le 0) _ ) (va_cwS 2 hts gX3_put_X3_isBelow rfl rfl rfl hdX3_isBelow ⟨Nat.le_trans (Nat.le_of_ble_eq_true rfl) hRf, Nat.le_trans (Nat.le_of_ble_eq_true rfl) hRl⟩) (hK.sub [] rfl) (hP.sub [] rfl) rfl hl.1 rfl (Nat.le_of_ble_eq_true rfl) dX3_put_43 ⟨Nat.zero_le _, Nat.zero_le _⟩ hP hS hA (fun H locs hP hS => ?_)
        refine x_ifb_ne (tgt := 55) hx hb dX3_put_46 (by decide) (fun c46 => ?_) (fun c46 => ?_)
        · skip
          obtain ⟨ii, hii, rfl⟩ := inB_t (by omega) c46
          have hxii : xn (nI ii) = ii := xn_nI (by omega)
          refine lv_aload hx hb dX3_put_55 (lv_at hl 0 rfl) ?_
          refine lv_iload_n hx hb dX3_put_57 rfl (lv_at hl 3 rfl) ?_
          refine lv_iload_n hx hb dX3_put_58 rfl (lv_at hl 4 rfl) ?_
          refine rwW_v (As := [.int (nI ii), .int v]) (rest := []) (wn := (a, .inr (3, [.ref r0, .ref r1, .ref g, .int tr, .int (nI 0)])) :: wSh cS cI r0 qs qr hs la le (uC C 0 (upd (C 0) ii (cutL (la 0) v)))) ⟨hx, hb, hml, hown, hts⟩ (kX1_write l dC dI cI (qs 0) (qr 0) (hs 0) (la 0) (le 0) (C 0) ii v _ (by omega) (by omega)) (cwV 2 hts gX3_put_X1_write rfl rfl rfl hdX1_write ⟨Nat.le_trans (Nat.le_of_ble_eq_true rfl) hRf, Nat.le_trans (Nat.le_of_ble_eq_true rfl) hRl⟩) (va_recv hK hP (ci := 1) (q0 := 2) rfl rfl) (hK.sub [0] rfl) rfl hl.1 rfl (Nat.le_of_ble_eq_true rfl) dX3_put_59 ⟨Nat.zero_le _, Nat.zero_le _⟩ hP hD hS hA [2, 3] [0, 1, 4, 5, 6, 7, 8, 9] [0, 1, 8, 9, 2, 3, 4, 5, 6, 7] rfl rfl (by decide) (by decide) (by decide) rfl rfl (fun H locs hP hS => ?_)
          have hD : va_D Z ((a, .inr (3, [.ref r0, .ref r1, .ref g, .int tr, .int (nI 0)])) :: wSh cS cI r0 qs qr hs la le (uC C 0 (upd (C 0) ii (cutL (la 0) v)))) := hD.same rfl
          refine lv_iconst (v := nI 1) hx hb dX3_put_62 rfl ?_
          exact hend _ _ _ _ _ _ (by simp [uPut, c10, hxj, c28, c46] <;> rfl) (by simp [fPut, okPut, c10, hxj, c28, c46, hxii] <;> rfl) hP hS dX3_put_63
        · skip
          refine lv_aload_n hx hb dX3_put_49 rfl (lv_at hl 1 rfl) ?_
          refine lv_iconst (v := nI 3) hx hb dX3_put_50 rfl ?_
          refine rwW_i (As := [.int (nI 3)]) (rest := []) (wn := (a, .inr (3, [.ref r0, .ref r1, .ref g, .int tr, .int (nI 3)])) :: wSh cS cI r0 qs qr hs la le C) ⟨hx, hb, hml, hown, hts⟩ (kX3_failed l dC dI a r0 r1 g tr (nI 0) 3 _) (cwV 1 hts gX3_put_X3_failed rfl rfl rfl hdX3_failed ⟨Nat.le_trans (Nat.le_of_ble_eq_true rfl) hRf, Nat.le_trans (Nat.le_of_ble_eq_true rfl) hRl⟩) (va_recv hK hP (ci := 3) (q0 := 0) rfl rfl) (hK.sub [] rfl) rfl hl.1 rfl (Nat.le_of_ble_eq_true rfl) dX3_put_51 ⟨Nat.zero_le _, Nat.zero_le _⟩ hP hD hS hA [0] [1, 2, 3, 4, 5, 6, 7, 8, 9] [9, 0, 1, 2, 3, 4, 5, 6, 7, 8] rfl rfl (by decide) (by decide) (by decide) rfl rfl (fun H locs hP hS => ?_)
          have hD : va_D Z ((a, .inr (3, [.ref r0, .ref r1, .ref g, .int tr, .int (nI 3)])) :: wSh cS cI r0 qs qr hs la le C) := hD.same rfl
          exact hend _ _ _ _ _ _ (by simp [uPut, c10, hxj, c28, c46] <;> rfl) (by simp [fPut, okPut, c10, hxj, c28, c46] <;> rfl) hP hS dX3_put_54
      · skip
        refine lv_aload_n hx hb dX3_put_31 rfl (lv_at hl 1 rfl) ?_
        refine lv_iconst (v := nI 1) hx hb dX3_put_32 rfl ?_
        refine rwW_i (As := [.int (nI 1)]) (rest := []) (wn := (a, .inr (3, [.ref r0, .ref r1, .ref g, .int tr, .int (nI 1)])) :: wSh cS cI r0 qs qr hs la le C) ⟨hx, hb, hml, hown, hts⟩ (kX3_failed l dC dI a r0 r1 g tr (nI 0) 1 _) (cwV 1 hts gX3_put_X3_failed rfl rfl rfl hdX3_failed ⟨Nat.le_trans (Nat.le_of_ble_eq_true rfl) hRf, Nat.le_trans (Nat.le_of_ble_eq_true rfl) hRl⟩) (va_recv hK hP (ci := 3) (q0 := 0) rfl rfl) (hK.sub [] rfl) rfl hl.1 rfl (Nat.le_of_ble_eq_true rfl) dX3_put_33 ⟨Nat.zero_le _, Nat.zero_le _⟩ hP hD hS hA [0] [1, 2, 3, 4, 5, 6, 7, 8, 9] [9, 0, 1, 2, 3, 4, 5, 6, 7, 8] rfl rfl (by decide) (by decide) (by decide) rfl rfl (fun H locs hP hS => ?_)
        have hD : va_D Z ((a, .inr (3, [.ref r0, .ref r1, .ref g, .int tr, .int (nI 1)])) :: wSh cS cI r0 qs qr hs la le C) := hD.same rfl
        exact hend _ _ _ _ _ _ (by simp [uPut, c10, hxj, c28] <;> rfl) (by simp [fPut, okPut, c10, hxj, c28] <;> rfl) hP hS dX3_put_36
    · skip
      refine x_aald (v := qs 1) hx hb hK hP 1 1 rfl rfl (by decide) (by decide) rfl dX3_put_20 ?_
      refine lv_astore (lv' := [(4, .ref (qs 1)), (0, .ref a), (1, .int (nI 1)), (2, .int i), (3, .int v)]) hx hb dX3_put_21 hl (by decide) rfl (fun ls hl => ?_)
      refine lv_aload hx hb dX3_put_23 (lv_at hl 0 rfl) ?_
      refine x_get (D := (dC, dI)) (ci := 1) (v := .int (bI (hs 1))) (C := RX1) (T := TX1) (N := 4) hx hb hts hinX1 hown hK hP 4 rfl rfl 1 (Nat.le_of_ble_eq_true rfl) hf184 rfl rfl dX3_put_25 ?_
      refine x_ifb_ne (tgt := 37) hx hb dX3_put_28 (by decide) (fun c28 => ?_) (fun c28 => ?_)
      · skip
        refine lv_iload_n hx hb dX3_put_37 rfl (lv_at hl 3 rfl) ?_
        refine lv_aload hx hb dX3_put_38 (lv_at hl 0 rfl) ?_
        refine x_get (D := (dC, dI)) (ci := 1) (v := .int (nI (le 1))) (C := RX1) (T := TX1) (N := 4) hx hb hts hinX1 hown hK hP 4 rfl rfl 3 (Nat.le_of_ble_eq_true rfl) hf187 rfl rfl dX3_put_40 ?_
        refine roS_i (As := [.int i, .int (nI (le 1))]) (rest := []) ⟨hx, hb, hml, hown, hts⟩ (kX3_isBelow l dC dI i (le 1) _ ) (va_cwS 2 hts gX3_put_X3_isBelow rfl rfl rfl hdX3_isBelow ⟨Nat.le_trans (Nat.le_of_ble_eq_true rfl) hRf, Nat.le_trans (Nat.le_of_ble_eq_true rfl) hRl⟩) (hK.sub [] rfl) (hP.sub [] rfl) rfl hl.1 rfl (Nat.le_of_ble_eq_true rfl) dX3_put_43 ⟨Nat.zero_le _, Nat.zero_le _⟩ hP hS hA (fun H locs hP hS => ?_)
        refine x_ifb_ne (tgt := 55) hx hb dX3_put_46 (by decide) (fun c46 => ?_) (fun c46 => ?_)
        · skip
          obtain ⟨ii, hii, rfl⟩ := inB_t (by omega) c46
          have hxii : xn (nI ii) = ii := xn_nI (by omega)
          refine lv_aload hx hb dX3_put_55 (lv_at hl 0 rfl) ?_
          refine lv_iload_n hx hb dX3_put_57 rfl (lv_at hl 3 rfl) ?_
          refine lv_iload_n hx hb dX3_put_58 rfl (lv_at hl 4 rfl) ?_
          refine rwW_v (As := [.int (nI ii), .int v]) (rest := []) (wn := (a, .inr (3, [.ref r0, .ref r1, .ref g, .int tr, .int (nI 0)])) :: wSh cS cI r0 qs qr hs la le (uC C 1 (upd (C 1) ii (cutL (la 1) v)))) ⟨hx, hb, hml, hown, hts⟩ (kX1_write l dC dI cI (qs 1) (qr 1) (hs 1) (la 1) (le 1) (C 1) ii v _ (by omega) (by omega)) (cwV 2 hts gX3_put_X1_write rfl rfl rfl hdX1_write ⟨Nat.le_trans (Nat.le_of_ble_eq_true rfl) hRf, Nat.le_trans (Nat.le_of_ble_eq_true rfl) hRl⟩) (va_recv hK hP (ci := 1) (q0 := 4) rfl rfl) (hK.sub [0] rfl) rfl hl.1 rfl (Nat.le_of_ble_eq_true rfl) dX3_put_59 ⟨Nat.zero_le _, Nat.zero_le _⟩ hP hD hS hA [4, 5] [0, 1, 2, 3, 6, 7, 8, 9] [0, 1, 2, 3, 8, 9, 4, 5, 6, 7] rfl rfl (by decide) (by decide) (by decide) rfl rfl (fun H locs hP hS => ?_)
          have hD : va_D Z ((a, .inr (3, [.ref r0, .ref r1, .ref g, .int tr, .int (nI 0)])) :: wSh cS cI r0 qs qr hs la le (uC C 1 (upd (C 1) ii (cutL (la 1) v)))) := hD.same rfl
          refine lv_iconst (v := nI 1) hx hb dX3_put_62 rfl ?_
          exact hend _ _ _ _ _ _ (by simp [uPut, c10, hxj, c28, c46] <;> rfl) (by simp [fPut, okPut, c10, hxj, c28, c46, hxii] <;> rfl) hP hS dX3_put_63
        · skip
          refine lv_aload_n hx hb dX3_put_49 rfl (lv_at hl 1 rfl) ?_
          refine lv_iconst (v := nI 3) hx hb dX3_put_50 rfl ?_
          refine rwW_i (As := [.int (nI 3)]) (rest := []) (wn := (a, .inr (3, [.ref r0, .ref r1, .ref g, .int tr, .int (nI 3)])) :: wSh cS cI r0 qs qr hs la le C) ⟨hx, hb, hml, hown, hts⟩ (kX3_failed l dC dI a r0 r1 g tr (nI 0) 3 _) (cwV 1 hts gX3_put_X3_failed rfl rfl rfl hdX3_failed ⟨Nat.le_trans (Nat.le_of_ble_eq_true rfl) hRf, Nat.le_trans (Nat.le_of_ble_eq_true rfl) hRl⟩) (va_recv hK hP (ci := 3) (q0 := 0) rfl rfl) (hK.sub [] rfl) rfl hl.1 rfl (Nat.le_of_ble_eq_true rfl) dX3_put_51 ⟨Nat.zero_le _, Nat.zero_le _⟩ hP hD hS hA [0] [1, 2, 3, 4, 5, 6, 7, 8, 9] [9, 0, 1, 2, 3, 4, 5, 6, 7, 8] rfl rfl (by decide) (by decide) (by decide) rfl rfl (fun H locs hP hS => ?_)
          have hD : va_D Z ((a, .inr (3, [.ref r0, .ref r1, .ref g, .int tr, .int (nI 3)])) :: wSh cS cI r0 qs qr hs la le C) := hD.same rfl
          exact hend _ _ _ _ _ _ (by simp [uPut, c10, hxj, c28, c46] <;> rfl) (by simp [fPut, okPut, c10, hxj, c28, c46] <;> rfl) hP hS dX3_put_54
      · skip
        refine lv_aload_n hx hb dX3_put_31 rfl (lv_at hl 1 rfl) ?_
        refine lv_iconst (v := nI 1) hx hb dX3_put_32 rfl ?_
        refine rwW_i (As := [.int (nI 1)]) (rest := []) (wn := (a, .inr (3, [.ref r0, .ref r1, .ref g, .int tr, .int (nI 1)])) :: wSh cS cI r0 qs qr hs la le C) ⟨hx, hb, hml, hown, hts⟩ (kX3_failed l dC dI a r0 r1 g tr (nI 0) 1 _) (cwV 1 hts gX3_put_X3_failed rfl rfl rfl hdX3_failed ⟨Nat.le_trans (Nat.le_of_ble_eq_true rfl) hRf, Nat.le_trans (Nat.le_of_ble_eq_true rfl) hRl⟩) (va_recv hK hP (ci := 3) (q0 := 0) rfl rfl) (hK.sub [] rfl) rfl hl.1 rfl (Nat.le_of_ble_eq_true rfl) dX3_put_33 ⟨Nat.zero_le _, Nat.zero_le _⟩ hP hD hS hA [0] [1, 2, 3, 4, 5, 6, 7, 8, 9] [9, 0, 1, 2, 3, 4, 5, 6, 7, 8] rfl rfl (by decide) (by decide) (by decide) rfl rfl (fun H locs hP hS => ?_)
        have hD : va_D Z ((a, .inr (3, [.ref r0, .ref r1, .ref g, .int tr, .int (nI 1)])) :: wSh cS cI r0 qs qr hs la le C) := hD.same rfl
        exact hend _ _ _ _ _ _ (by simp [uPut, c10, hxj, c28] <;> rfl) (by simp [fPut, okPut, c10, hxj, c28] <;> rfl) hP hS dX3_put_36
    · skip
      refine x_aald (v := qs 2) hx hb hK hP 1 1 rfl rfl (by decide) (by decide) rfl dX3_put_20 ?_
      refine lv_astore (lv' := [(4, .ref (qs 2)), (0, .ref a), (1, .int (nI 2)), (2, .int i), (3, .int v)]) hx hb dX3_put_21 hl (by decide) rfl (fun ls hl => ?_)
      refine lv_aload hx hb dX3_put_23 (lv_at hl 0 rfl) ?_
      refine x_get (D := (dC, dI)) (ci := 1) (v := .int (bI (hs 2))) (C := RX1) (T := TX1) (N := 4) hx hb hts hinX1 hown hK hP 6 rfl rfl 1 (Nat.le_of_ble_eq_true rfl) hf184 rfl rfl dX3_put_25 ?_
      refine x_ifb_ne (tgt := 37) hx hb dX3_put_28 (by decide) (fun c28 => ?_) (fun c28 => ?_)
      · skip
        refine lv_iload_n hx hb dX3_put_37 rfl (lv_at hl 3 rfl) ?_
        refine lv_aload hx hb dX3_put_38 (lv_at hl 0 rfl) ?_
        refine x_get (D := (dC, dI)) (ci := 1) (v := .int (nI (le 2))) (C := RX1) (T := TX1) (N := 4) hx hb hts hinX1 hown hK hP 6 rfl rfl 3 (Nat.le_of_ble_eq_true rfl) hf187 rfl rfl dX3_put_40 ?_
        refine roS_i (As := [.int i, .int (nI (le 2))]) (rest := []) ⟨hx, hb, hml, hown, hts⟩ (kX3_isBelow l dC dI i (le 2) _ ) (va_cwS 2 hts gX3_put_X3_isBelow rfl rfl rfl hdX3_isBelow ⟨Nat.le_trans (Nat.le_of_ble_eq_true rfl) hRf, Nat.le_trans (Nat.le_of_ble_eq_true rfl) hRl⟩) (hK.sub [] rfl) (hP.sub [] rfl) rfl hl.1 rfl (Nat.le_of_ble_eq_true rfl) dX3_put_43 ⟨Nat.zero_le _, Nat.zero_le _⟩ hP hS hA (fun H locs hP hS => ?_)
        refine x_ifb_ne (tgt := 55) hx hb dX3_put_46 (by decide) (fun c46 => ?_) (fun c46 => ?_)
        · skip
          obtain ⟨ii, hii, rfl⟩ := inB_t (by omega) c46
          have hxii : xn (nI ii) = ii := xn_nI (by omega)
          refine lv_aload hx hb dX3_put_55 (lv_at hl 0 rfl) ?_
          refine lv_iload_n hx hb dX3_put_57 rfl (lv_at hl 3 rfl) ?_
          refine lv_iload_n hx hb dX3_put_58 rfl (lv_at hl 4 rfl) ?_
          refine rwW_v (As := [.int (nI ii), .int v]) (rest := []) (wn := (a, .inr (3, [.ref r0, .ref r1, .ref g, .int tr, .int (nI 0)])) :: wSh cS cI r0 qs qr hs la le (uC C 2 (upd (C 2) ii (cutL (la 2) v)))) ⟨hx, hb, hml, hown, hts⟩ (kX1_write l dC dI cI (qs 2) (qr 2) (hs 2) (la 2) (le 2) (C 2) ii v _ (by omega) (by omega)) (cwV 2 hts gX3_put_X1_write rfl rfl rfl hdX1_write ⟨Nat.le_trans (Nat.le_of_ble_eq_true rfl) hRf, Nat.le_trans (Nat.le_of_ble_eq_true rfl) hRl⟩) (va_recv hK hP (ci := 1) (q0 := 6) rfl rfl) (hK.sub [0] rfl) rfl hl.1 rfl (Nat.le_of_ble_eq_true rfl) dX3_put_59 ⟨Nat.zero_le _, Nat.zero_le _⟩ hP hD hS hA [6, 7] [0, 1, 2, 3, 4, 5, 8, 9] [0, 1, 2, 3, 4, 5, 8, 9, 6, 7] rfl rfl (by decide) (by decide) (by decide) rfl rfl (fun H locs hP hS => ?_)
          have hD : va_D Z ((a, .inr (3, [.ref r0, .ref r1, .ref g, .int tr, .int (nI 0)])) :: wSh cS cI r0 qs qr hs la le (uC C 2 (upd (C 2) ii (cutL (la 2) v)))) := hD.same rfl
          refine lv_iconst (v := nI 1) hx hb dX3_put_62 rfl ?_
          exact hend _ _ _ _ _ _ (by simp [uPut, c10, hxj, c28, c46] <;> rfl) (by simp [fPut, okPut, c10, hxj, c28, c46, hxii] <;> rfl) hP hS dX3_put_63
        · skip
          refine lv_aload_n hx hb dX3_put_49 rfl (lv_at hl 1 rfl) ?_
          refine lv_iconst (v := nI 3) hx hb dX3_put_50 rfl ?_
          refine rwW_i (As := [.int (nI 3)]) (rest := []) (wn := (a, .inr (3, [.ref r0, .ref r1, .ref g, .int tr, .int (nI 3)])) :: wSh cS cI r0 qs qr hs la le C) ⟨hx, hb, hml, hown, hts⟩ (kX3_failed l dC dI a r0 r1 g tr (nI 0) 3 _) (cwV 1 hts gX3_put_X3_failed rfl rfl rfl hdX3_failed ⟨Nat.le_trans (Nat.le_of_ble_eq_true rfl) hRf, Nat.le_trans (Nat.le_of_ble_eq_true rfl) hRl⟩) (va_recv hK hP (ci := 3) (q0 := 0) rfl rfl) (hK.sub [] rfl) rfl hl.1 rfl (Nat.le_of_ble_eq_true rfl) dX3_put_51 ⟨Nat.zero_le _, Nat.zero_le _⟩ hP hD hS hA [0] [1, 2, 3, 4, 5, 6, 7, 8, 9] [9, 0, 1, 2, 3, 4, 5, 6, 7, 8] rfl rfl (by decide) (by decide) (by decide) rfl rfl (fun H locs hP hS => ?_)
          have hD : va_D Z ((a, .inr (3, [.ref r0, .ref r1, .ref g, .int tr, .int (nI 3)])) :: wSh cS cI r0 qs qr hs la le C) := hD.same rfl
          exact hend _ _ _ _ _ _ (by simp [uPut, c10, hxj, c28, c46] <;> rfl) (by simp [fPut, okPut, c10, hxj, c28, c46] <;> rfl) hP hS dX3_put_54
      · skip
        refine lv_aload_n hx hb dX3_put_31 rfl (lv_at hl 1 rfl) ?_
        refine lv_iconst (v := nI 1) hx hb dX3_put_32 rfl ?_
        refine rwW_i (As := [.int (nI 1)]) (rest := []) (wn := (a, .inr (3, [.ref r0, .ref r1, .ref g, .int tr, .int (nI 1)])) :: wSh cS cI r0 qs qr hs la le C) ⟨hx, hb, hml, hown, hts⟩ (kX3_failed l dC dI a r0 r1 g tr (nI 0) 1 _) (cwV 1 hts gX3_put_X3_failed rfl rfl rfl hdX3_failed ⟨Nat.le_trans (Nat.le_of_ble_eq_true rfl) hRf, Nat.le_trans (Nat.le_of_ble_eq_true rfl) hRl⟩) (va_recv hK hP (ci := 3) (q0 := 0) rfl rfl) (hK.sub [] rfl) rfl hl.1 rfl (Nat.le_of_ble_eq_true rfl) dX3_put_33 ⟨Nat.zero_le _, Nat.zero_le _⟩ hP hD hS hA [0] [1, 2, 3, 4, 5, 6, 7, 8, 9] [9, 0, 1, 2, 3, 4, 5, 6, 7, 8] rfl rfl (by decide) (by decide) (by decide) rfl rfl (fun H locs hP hS => ?_)
        have hD : va_D Z ((a, .inr (3, [.ref r0, .ref r1, .ref g, .int tr, .int (nI 1)])) :: wSh cS cI r0 qs qr hs la le C) := hD.same rfl
        exact hend _ _ _ _ _ _ (by simp [uPut, c10, hxj, c28] <;> rfl) (by simp [fPut, okPut, c10, hxj, c28] <;> rfl) hP hS dX3_put_36
    · skip
      refine x_aald (v := qs 3) hx hb hK hP 1 1 rfl rfl (by decide) (by decide) rfl dX3_put_20 ?_
      refine lv_astore (lv' := [(4, .ref (qs 3)), (0, .ref a), (1, .int (nI 3)), (2, .int i), (3, .int v)]) hx hb dX3_put_21 hl (by decide) rfl (fun ls hl => ?_)
      refine lv_aload hx hb dX3_put_23 (lv_at hl 0 rfl) ?_
      refine x_get (D := (dC, dI)) (ci := 1) (v := .int (bI (hs 3))) (C := RX1) (T := TX1) (N := 4) hx hb hts hinX1 hown hK hP 8 rfl rfl 1 (Nat.le_of_ble_eq_true rfl) hf184 rfl rfl dX3_put_25 ?_
      refine x_ifb_ne (tgt := 37) hx hb dX3_put_28 (by decide) (fun c28 => ?_) (fun c28 => ?_)
      · skip
        refine lv_iload_n hx hb dX3_put_37 rfl (lv_at hl 3 rfl) ?_
        refine lv_aload hx hb dX3_put_38 (lv_at hl 0 rfl) ?_
        refine x_get (D := (dC, dI)) (ci := 1) (v := .int (nI (le 3))) (C := RX1) (T := TX1) (N := 4) hx hb hts hinX1 hown hK hP 8 rfl rfl 3 (Nat.le_of_ble_eq_true rfl) hf187 rfl rfl dX3_put_40 ?_
        refine roS_i (As := [.int i, .int (nI (le 3))]) (rest := []) ⟨hx, hb, hml, hown, hts⟩ (kX3_isBelow l dC dI i (le 3) _ ) (va_cwS 2 hts gX3_put_X3_isBelow rfl rfl rfl hdX3_isBelow ⟨Nat.le_trans (Nat.le_of_ble_eq_true rfl) hRf, Nat.le_trans (Nat.le_of_ble_eq_true rfl) hRl⟩) (hK.sub [] rfl) (hP.sub [] rfl) rfl hl.1 rfl (Nat.le_of_ble_eq_true rfl) dX3_put_43 ⟨Nat.zero_le _, Nat.zero_le _⟩ hP hS hA (fun H locs hP hS => ?_)
        refine x_ifb_ne (tgt := 55) hx hb dX3_put_46 (by decide) (fun c46 => ?_) (fun c46 => ?_)
        · skip
          obtain ⟨ii, hii, rfl⟩ := inB_t (by omega) c46
          have hxii : xn (nI ii) = ii := xn_nI (by omega)
          refine lv_aload hx hb dX3_put_55 (lv_at hl 0 rfl) ?_
          refine lv_iload_n hx hb dX3_put_57 rfl (lv_at hl 3 rfl) ?_
          refine lv_iload_n hx hb dX3_put_58 rfl (lv_at hl 4 rfl) ?_
          refine rwW_v (As := [.int (nI ii), .int v]) (rest := []) (wn := (a, .inr (3, [.ref r0, .ref r1, .ref g, .int tr, .int (nI 0)])) :: wSh cS cI r0 qs qr hs la le (uC C 3 (upd (C 3) ii (cutL (la 3) v)))) ⟨hx, hb, hml, hown, hts⟩ (kX1_write l dC dI cI (qs 3) (qr 3) (hs 3) (la 3) (le 3) (C 3) ii v _ (by omega) (by omega)) (cwV 2 hts gX3_put_X1_write rfl rfl rfl hdX1_write ⟨Nat.le_trans (Nat.le_of_ble_eq_true rfl) hRf, Nat.le_trans (Nat.le_of_ble_eq_true rfl) hRl⟩) (va_recv hK hP (ci := 1) (q0 := 8) rfl rfl) (hK.sub [0] rfl) rfl hl.1 rfl (Nat.le_of_ble_eq_true rfl) dX3_put_59 ⟨Nat.zero_le _, Nat.zero_le _⟩ hP hD hS hA [8, 9] [0, 1, 2, 3, 4, 5, 6, 7] [0, 1, 2, 3, 4, 5, 6, 7, 8, 9] rfl rfl (by decide) (by decide) (by decide) rfl rfl (fun H locs hP hS => ?_)
          have hD : va_D Z ((a, .inr (3, [.ref r0, .ref r1, .ref g, .int tr, .int (nI 0)])) :: wSh cS cI r0 qs qr hs la le (uC C 3 (upd (C 3) ii (cutL (la 3) v)))) := hD.same rfl
          refine lv_iconst (v := nI 1) hx hb dX3_put_62 rfl ?_
          exact hend _ _ _ _ _ _ (by simp [uPut, c10, hxj, c28, c46] <;> rfl) (by simp [fPut, okPut, c10, hxj, c28, c46, hxii] <;> rfl) hP hS dX3_put_63
        · skip
          refine lv_aload_n hx hb dX3_put_49 rfl (lv_at hl 1 rfl) ?_
          refine lv_iconst (v := nI 3) hx hb dX3_put_50 rfl ?_
          refine rwW_i (As := [.int (nI 3)]) (rest := []) (wn := (a, .inr (3, [.ref r0, .ref r1, .ref g, .int tr, .int (nI 3)])) :: wSh cS cI r0 qs qr hs la le C) ⟨hx, hb, hml, hown, hts⟩ (kX3_failed l dC dI a r0 r1 g tr (nI 0) 3 _) (cwV 1 hts gX3_put_X3_failed rfl rfl rfl hdX3_failed ⟨Nat.le_trans (Nat.le_of_ble_eq_true rfl) hRf, Nat.le_trans (Nat.le_of_ble_eq_true rfl) hRl⟩) (va_recv hK hP (ci := 3) (q0 := 0) rfl rfl) (hK.sub [] rfl) rfl hl.1 rfl (Nat.le_of_ble_eq_true rfl) dX3_put_51 ⟨Nat.zero_le _, Nat.zero_le _⟩ hP hD hS hA [0] [1, 2, 3, 4, 5, 6, 7, 8, 9] [9, 0, 1, 2, 3, 4, 5, 6, 7, 8] rfl rfl (by decide) (by decide) (by decide) rfl rfl (fun H locs hP hS => ?_)
          have hD : va_D Z ((a, .inr (3, [.ref r0, .ref r1, .ref g, .int tr, .int (nI 3)])) :: wSh cS cI r0 qs qr hs la le C) := hD.same rfl
          exact hend _ _ _ _ _ _ (by simp [uPut, c10, hxj, c28, c46] <;> rfl) (by simp [fPut, okPut, c10, hxj, c28, c46] <;> rfl) hP hS dX3_put_54
      · skip
        refine lv_aload_n hx hb dX3_put_31 rfl (lv_at hl 1 rfl) ?_
        refine lv_iconst (v := nI 1) hx hb dX3_put_32 rfl ?_
        refine rwW_i (As := [.int (nI 1)]) (rest := []) (wn := (a, .inr (3, [.ref r0, .ref r1, .ref g, .int tr, .int (nI 1)])) :: wSh cS cI r0 qs qr hs la le C) ⟨hx, hb, hml, hown, hts⟩ (kX3_failed l dC dI a r0 r1 g tr (nI 0) 1 _) (cwV 1 hts gX3_put_X3_failed rfl rfl rfl hdX3_failed ⟨Nat.le_trans (Nat.le_of_ble_eq_true rfl) hRf, Nat.le_trans (Nat.le_of_ble_eq_true rfl) hRl⟩) (va_recv hK hP (ci := 3) (q0 := 0) rfl rfl) (hK.sub [] rfl) rfl hl.1 rfl (Nat.le_of_ble_eq_true rfl) dX3_put_33 ⟨Nat.zero_le _, Nat.zero_le _⟩ hP hD hS hA [0] [1, 2, 3, 4, 5, 6, 7, 8, 9] [9, 0, 1, 2, 3, 4, 5, 6, 7, 8] rfl rfl (by decide) (by decide) (by decide) rfl rfl (fun H locs hP hS => ?_)
        have hD : va_D Z ((a, .inr (3, [.ref r0, .ref r1, .ref g, .int tr, .int (nI 1)])) :: wSh cS cI r0 qs qr hs la le C) := hD.same rfl
        exact hend _ _ _ _ _ _ (by simp [uPut, c10, hxj, c28] <;> rfl) (by simp [fPut, okPut, c10, hxj, c28] <;> rfl) hP hS dX3_put_36
  · skip
    refine lv_iconst (v := -1) hx hb dX3_put_13 rfl ?_
    exact hend _ _ _ _ _ _ (by simp [uPut, c10]) (by simp [fPut, okPut, c10] <;> rfl) hP hS dX3_put_14
theorem hdX1_faultAsRow : yX1_faultAsRow.cls = RX1 ∧ yX1_faultAsRow.cls ≠ "java/lang/invoke/MethodHandle" ∧ yX1_faultAsRow.cls ≠ "java/lang/invoke/VarHandle" ∧ (parseMethodDescriptor yX1_faultAsRow.desc).map (fun d => d.parameters.length) = some 1 := by decide +kernel
set_option maxRecDepth 20000 in
theorem ggX3_cell_X3_isBelow : GoodIn wsX3_cell wsX3_isBelow := goodIn_r _ [9] (by decide +kernel) (by decide +kernel)
set_option maxRecDepth 20000 in
theorem gX3_cell_X3_isBelow : GoodIn wsX3_cell (va_wsS RX3 39 yX3_isBelow wsX3_isBelow) := goodIn_app (goodIn_of _ (by decide +kernel)) ggX3_cell_X3_isBelow
set_option maxRecDepth 20000 in
theorem ggX3_cell_X1_faultAsRow : GoodIn wsX3_cell wsX1_faultAsRow := goodIn_r _ [14, 15, 16, 22, 23, 24, 25] (by decide +kernel) (by decide +kernel)
set_option maxRecDepth 20000 in
theorem gX3_cell_X1_faultAsRow : GoodIn wsX3_cell (wsV RX3 43 RX1 yX1_faultAsRow wsX1_faultAsRow) := goodIn_app (goodIn_of _ (by decide +kernel)) ggX3_cell_X1_faultAsRow
set_option maxHeartbeats 4000000 in
set_option maxRecDepth 100000 in
theorem kX3_cell (l : Launch) (dC : Nat → ClassId) (dI : Nat → Nat → Nat) (a r1 g : Nat) (tr fl : Int32) (cS cI : ClassId) (r0 : Nat) (qs qr : Nat → Nat) (hs : Nat → Bool) (la le : Nat → Nat) (C : Nat → Nat → Int32) (hB : ∀ k, k < 4 → la k ≤ 2 ∧ le k ≤ 100) (k : Int32) (i : Int32) (lane : Int32) (sz : Nat) : Met l yX3_cell wsX3_cell ({ frames := 1, cells := 0, slots := 0, locals := 21 }) (rwP [.ref a, .int k, .int i, .int lane] sz (dC, dI) [(cI, .int), (cS, .object "StatueSquare$Sheet")] ((a, .inr (3, [.ref r0, .ref r1, .ref g, .int tr, .int fl])) :: wSh cS cI r0 qs qr hs la le C)) (rwQl (uCell hs la le C k i lane) (dC, dI) ((a, .inr (3, [.ref r0, .ref r1, .ref g, .int tr, .int fl])) :: wSh cS cI r0 qs qr hs la le C) ((a, .inr (3, [.ref r0, .ref r1, .ref g, .int tr, .int (fCell hs la le k i lane)])) :: wSh cS cI r0 qs qr hs la le C) sz) 0 0 (va_A ((a, .inr (3, [.ref r0, .ref r1, .ref g, .int tr, .int fl])) :: wSh cS cI r0 qs qr hs la le C) sz) := by
  refine rw_met_l (by decide) rfl (Nat.le_of_ble_eq_true rfl) ?_
  intro pp ee ss mm aa bb me cd RR QQ Z hx hb hml hown hts hRf hRl hP hK hD hA hS hend ls hl
  have hown : ss.vm.findClass RX3 = some mm.cls := hown
  have hRf : 1 ≤ RR.frames := hRf
  have hRl : 21 ≤ RR.locals := hRl
  have hl : lv_has ls 6 [(0, .ref a), (1, .int k), (2, .int i), (3, .int lane)] := hl
  have hB0 := hB 0 (by decide)
  have hB1 := hB 1 (by decide)
  have hB2 := hB 2 (by decide)
  have hB3 := hB 3 (by decide)
  have hf36 := hts (.fieldLink RX3 36 "StatueSquare" "latestFault" "I") (List.mem_of_getElem? (i := 1) rfl)
  have hinX3 : ∀ w ∈ u_ws RX3 TX3 5, w ∈ wsX3_cell := fun _ h => List.mem_cons_of_mem _ (List.mem_append_left _ (List.mem_append_right _ h))
  have hk133 := hts (.constantLong RX3 133 (-9223372036854775808)) (List.mem_of_getElem? (i := 2) rfl)
  have hf13 := hts (.fieldLink RX3 13 "StatueSquare" "sheets" "[LStatueSquare$Sheet;") (List.mem_of_getElem? (i := 3) rfl)
  have hf187 := hts (.fieldLink RX3 187 "StatueSquare$Sheet" "length" "I") (List.mem_of_getElem? (i := 4) rfl)
  have hinX1 : ∀ w ∈ u_ws RX1 TX1 4, w ∈ wsX3_cell := fun _ h => List.mem_cons_of_mem _ (List.mem_append_right _ h)
  have hf193 := hts (.fieldLink RX3 193 "StatueSquare$Sheet" "row" "[I") (List.mem_of_getElem? (i := 5) rfl)
  refine lv_aload_n hx hb dX3_cell_0 rfl (lv_at hl 0 rfl) ?_
  refine lv_iconst (v := nI 0) hx hb dX3_cell_1 rfl ?_
  refine x_put (D := (dC, dI)) (ci := 3) (v := .int (nI 0)) (C := RX3) (T := TX3) (N := 5) (wn := (a, .inr (3, [.ref r0, .ref r1, .ref g, .int tr, .int (nI 0)])) :: wSh cS cI r0 qs qr hs la le C) hx hb hts hinX3 tyX3 tyX3_ok nmX3 hown hK hP hD hS 0 rfl rfl 4 (Nat.le_of_ble_eq_true rfl) hf36 rfl rfl rfl rfl (Nat.le_of_ble_eq_true rfl) rfl dX3_cell_2 (fun H locs hP hS => ?_)
  have hD : va_D Z ((a, .inr (3, [.ref r0, .ref r1, .ref g, .int tr, .int (nI 0)])) :: wSh cS cI r0 qs qr hs la le C) := hD.same rfl
  refine lv_iload_n hx hb dX3_cell_5 rfl (lv_at hl 1 rfl) ?_
  refine lv_iconst (v := nI 4) hx hb dX3_cell_6 rfl ?_
  refine roS_i (As := [.int k, .int (nI 4)]) (rest := []) ⟨hx, hb, hml, hown, hts⟩ (kX3_isBelow l dC dI k 4 _ ) (va_cwS 2 hts gX3_cell_X3_isBelow rfl rfl rfl hdX3_isBelow ⟨Nat.le_trans (Nat.le_of_ble_eq_true rfl) hRf, Nat.le_trans (Nat.le_of_ble_eq_true rfl) hRl⟩) (hK.sub [] rfl) (hP.sub [] rfl) rfl hl.1 rfl (Nat.le_of_ble_eq_true rfl) dX3_cell_7 ⟨Nat.zero_le _, Nat.zero_le _⟩ hP hS hA (fun H locs hP hS => ?_)
  refine x_ifb_eq (tgt := 21) hx hb dX3_cell_10 (by decide) (fun c10 => ?_) (fun c10 => ?_)
  · skip
    refine lv_ldc2 hx hb hown hk133 dX3_cell_21 ?_
    exact hend _ _ _ _ _ _ (by rw [uCell, if_neg (fun q => absurd q.1 (by rw [c10]; decide))] <;> rfl) (by rw [fCell, if_neg (fun q => absurd q.1 (by rw [c10]; decide))] <;> rfl) hP hS dX3_cell_24
  · skip
    obtain ⟨j, hj, rfl⟩ := inB_t (by omega) c10
    have hxj : xn (nI j) = j := xn_nI (by omega)
    refine lv_iload_n hx hb dX3_cell_13 rfl (lv_at hl 3 rfl) ?_
    refine lv_iconst (v := nI 3) hx hb dX3_cell_14 rfl ?_
    refine roS_i (As := [.int lane, .int (nI 3)]) (rest := []) ⟨hx, hb, hml, hown, hts⟩ (kX3_isBelow l dC dI lane 3 _ ) (va_cwS 2 hts gX3_cell_X3_isBelow rfl rfl rfl hdX3_isBelow ⟨Nat.le_trans (Nat.le_of_ble_eq_true rfl) hRf, Nat.le_trans (Nat.le_of_ble_eq_true rfl) hRl⟩) (hK.sub [] rfl) (hP.sub [] rfl) rfl hl.1 rfl (Nat.le_of_ble_eq_true rfl) dX3_cell_15 ⟨Nat.zero_le _, Nat.zero_le _⟩ hP hS hA (fun H locs hP hS => ?_)
    refine x_ifb_ne (tgt := 25) hx hb dX3_cell_18 (by decide) (fun c18 => ?_) (fun c18 => ?_)
    · skip
      obtain ⟨l0, hl0, rfl⟩ := inB_t (by omega) c18
      have hxl0 : xn (nI l0) = l0 := xn_nI (by omega)
      refine lv_aload_n hx hb dX3_cell_25 rfl (lv_at hl 0 rfl) ?_
      refine x_get (D := (dC, dI)) (ci := 3) (v := .ref r0) (C := RX3) (T := TX3) (N := 5) hx hb hts hinX3 hown hK hP 0 rfl rfl 0 (Nat.le_of_ble_eq_true rfl) hf13 rfl rfl dX3_cell_26 ?_
      refine lv_iload_n hx hb dX3_cell_29 rfl (lv_at hl 1 rfl) ?_
      rcases (show j = 0 ∨ j = 1 ∨ j = 2 ∨ j = 3 by omega) with rfl | rfl | rfl | rfl
      · skip
        refine x_aald (v := qs 0) hx hb hK hP 1 1 rfl rfl (by decide) (by decide) rfl dX3_cell_30 ?_
        refine lv_astore (lv' := [(4, .ref (qs 0)), (0, .ref a), (1, .int (nI 0)), (2, .int i), (3, .int (nI l0))]) hx hb dX3_cell_31 hl (by decide) rfl (fun ls hl => ?_)
        refine lv_aload hx hb dX3_cell_33 (lv_at hl 0 rfl) ?_
        refine lv_iload_n hx hb dX3_cell_35 rfl (lv_at hl 4 rfl) ?_
        refine roV_i (As := [.int (nI l0)]) (rest := []) ⟨hx, hb, hml, hown, hts⟩ (kX1_faultAsRow l dC dI cI (qs 0) (qr 0) (hs 0) (la 0) (le 0) (C 0) l0 _ (by omega) (by omega)) (cwV 1 hts gX3_cell_X1_faultAsRow rfl rfl rfl hdX1_faultAsRow ⟨Nat.le_trans (Nat.le_of_ble_eq_true rfl) hRf, Nat.le_trans (Nat.le_of_ble_eq_true rfl) hRl⟩) (va_recv hK hP (ci := 1) (q0 := 2) rfl rfl) (hK.sub [0] rfl) (hP.sub [2, 3] rfl) rfl hl.1 rfl (Nat.le_of_ble_eq_true rfl) dX3_cell_36 ⟨Nat.zero_le _, Nat.zero_le _⟩ hP hS hA (fun H locs hP hS => ?_)
        refine lv_istore (lv' := [(5, .int (nI (faR (hs 0) (la 0) l0))), (4, .ref (qs 0)), (0, .ref a), (1, .int (nI 0)), (2, .int i), (3, .int (nI l0))]) hx hb dX3_cell_39 hl (by decide) rfl (fun ls hl => ?_)
        refine lv_iload hx hb dX3_cell_41 (lv_at hl 0 rfl) ?_
        refine x_if_ne (tgt := 61) hx hb (faR_lt _ _ _) dX3_cell_43 (by decide) (fun c43 => ?_) (fun c43 => ?_)
        · skip
          refine lv_iload hx hb dX3_cell_61 (lv_at hl 0 rfl) ?_
          refine x_if_eq (tgt := 76) hx hb (faR_lt _ _ _) dX3_cell_63 (by decide) (fun c63 => ?_) (fun c63 => ?_)
          · skip
            exact absurd c63 c43
          · skip
            refine lv_aload_n hx hb dX3_cell_66 rfl (lv_at hl 2 rfl) ?_
            refine lv_iload hx hb dX3_cell_67 (lv_at hl 0 rfl) ?_
            refine x_put (D := (dC, dI)) (ci := 3) (v := .int (nI (faR (hs 0) (la 0) l0))) (C := RX3) (T := TX3) (N := 5) (wn := (a, .inr (3, [.ref r0, .ref r1, .ref g, .int tr, .int (nI (faR (hs 0) (la 0) l0))])) :: wSh cS cI r0 qs qr hs la le C) hx hb hts hinX3 tyX3 tyX3_ok nmX3 hown hK hP hD hS 0 rfl rfl 4 (Nat.le_of_ble_eq_true rfl) hf36 rfl rfl rfl rfl (Nat.le_of_ble_eq_true rfl) rfl dX3_cell_69 (fun H locs hP hS => ?_)
            have hD : va_D Z ((a, .inr (3, [.ref r0, .ref r1, .ref g, .int tr, .int (nI (faR (hs 0) (la 0) l0))])) :: wSh cS cI r0 qs qr hs la le C) := hD.same rfl
            refine lv_ldc2 hx hb hown hk133 dX3_cell_72 ?_
            exact hend _ _ _ _ _ _ (by rw [uCell, if_pos ⟨c10, c18⟩, hxj, hxl0, if_neg (fun q => c43 q.1)] <;> rfl) (by rw [fCell, if_pos ⟨c10, c18⟩, hxj, hxl0, if_neg c43]) hP hS dX3_cell_75
        · skip
          refine lv_iload_n hx hb dX3_cell_46 rfl (lv_at hl 4 rfl) ?_
          refine lv_aload hx hb dX3_cell_47 (lv_at hl 1 rfl) ?_
          refine x_get (D := (dC, dI)) (ci := 1) (v := .int (nI (le 0))) (C := RX1) (T := TX1) (N := 4) hx hb hts hinX1 hown hK hP 2 rfl rfl 3 (Nat.le_of_ble_eq_true rfl) hf187 rfl rfl dX3_cell_49 ?_
          refine roS_i (As := [.int i, .int (nI (le 0))]) (rest := []) ⟨hx, hb, hml, hown, hts⟩ (kX3_isBelow l dC dI i (le 0) _ ) (va_cwS 2 hts gX3_cell_X3_isBelow rfl rfl rfl hdX3_isBelow ⟨Nat.le_trans (Nat.le_of_ble_eq_true rfl) hRf, Nat.le_trans (Nat.le_of_ble_eq_true rfl) hRl⟩) (hK.sub [] rfl) (hP.sub [] rfl) rfl hl.1 rfl (Nat.le_of_ble_eq_true rfl) dX3_cell_52 ⟨Nat.zero_le _, Nat.zero_le _⟩ hP hS hA (fun H locs hP hS => ?_)
          refine x_ifb_ne (tgt := 61) hx hb dX3_cell_55 (by decide) (fun c55 => ?_) (fun c55 => ?_)
          · skip
            obtain ⟨ii, hii, rfl⟩ := inB_t (by omega) c55
            have hxii : xn (nI ii) = ii := xn_nI (by omega)
            refine lv_iload hx hb dX3_cell_61 (lv_at hl 0 rfl) ?_
            refine x_if_eq (tgt := 76) hx hb (faR_lt _ _ _) dX3_cell_63 (by decide) (fun c63 => ?_) (fun c63 => ?_)
            · skip
              refine lv_aload hx hb dX3_cell_76 (lv_at hl 1 rfl) ?_
              refine x_get (D := (dC, dI)) (ci := 1) (v := .ref (qr 0)) (C := RX1) (T := TX1) (N := 4) hx hb hts hinX1 hown hK hP 2 rfl rfl 0 (Nat.le_of_ble_eq_true rfl) hf193 rfl rfl dX3_cell_78 ?_
              refine lv_iload_n hx hb dX3_cell_81 rfl (lv_at hl 4 rfl) ?_
              refine x_iald (v := (C 0 ii)) hx hb hK hP 3 0 rfl rfl (by omega) (by decide) rfl dX3_cell_82 ?_
              refine lv_i2l hx hb dX3_cell_83 rfl ?_
              exact hend _ _ _ _ _ _ (by rw [uCell, if_pos ⟨c10, c18⟩, hxj, hxl0, if_pos ⟨c43, c55⟩, hxii]) (by rw [fCell, if_pos ⟨c10, c18⟩, hxj, hxl0, if_pos c43, if_pos c55] <;> rfl) hP hS dX3_cell_84
            · skip
              exact absurd c43 c63
          · skip
            refine lv_iconst (v := nI 3) hx hb dX3_cell_58 rfl ?_
            refine lv_istore (lv' := [(5, .int (nI 3)), (4, .ref (qs 0)), (0, .ref a), (1, .int (nI 0)), (2, .int i), (3, .int (nI l0))]) hx hb dX3_cell_59 hl (by decide) rfl (fun ls hl => ?_)
            refine lv_iload hx hb dX3_cell_61 (lv_at hl 0 rfl) ?_
            refine x_if_eq (tgt := 76) hx hb (by omega) dX3_cell_63 (by decide) (fun c63 => absurd c63 (by decide)) (fun c63 => ?_)
            refine lv_aload_n hx hb dX3_cell_66 rfl (lv_at hl 2 rfl) ?_
            refine lv_iload hx hb dX3_cell_67 (lv_at hl 0 rfl) ?_
            refine x_put (D := (dC, dI)) (ci := 3) (v := .int (nI 3)) (C := RX3) (T := TX3) (N := 5) (wn := (a, .inr (3, [.ref r0, .ref r1, .ref g, .int tr, .int (nI 3)])) :: wSh cS cI r0 qs qr hs la le C) hx hb hts hinX3 tyX3 tyX3_ok nmX3 hown hK hP hD hS 0 rfl rfl 4 (Nat.le_of_ble_eq_true rfl) hf36 rfl rfl rfl rfl (Nat.le_of_ble_eq_true rfl) rfl dX3_cell_69 (fun H locs hP hS => ?_)
            have hD : va_D Z ((a, .inr (3, [.ref r0, .ref r1, .ref g, .int tr, .int (nI 3)])) :: wSh cS cI r0 qs qr hs la le C) := hD.same rfl
            refine lv_ldc2 hx hb hown hk133 dX3_cell_72 ?_
            exact hend _ _ _ _ _ _ (by rw [uCell, if_pos ⟨c10, c18⟩, hxj, hxl0, if_neg (fun q => absurd q.2 (by rw [c55]; decide))] <;> rfl) (by rw [fCell, if_pos ⟨c10, c18⟩, hxj, hxl0, if_pos c43, if_neg (by rw [c55]; decide)] <;> rfl) hP hS dX3_cell_75
      · skip
        refine x_aald (v := qs 1) hx hb hK hP 1 1 rfl rfl (by decide) (by decide) rfl dX3_cell_30 ?_
        refine lv_astore (lv' := [(4, .ref (qs 1)), (0, .ref a), (1, .int (nI 1)), (2, .int i), (3, .int (nI l0))]) hx hb dX3_cell_31 hl (by decide) rfl (fun ls hl => ?_)
        refine lv_aload hx hb dX3_cell_33 (lv_at hl 0 rfl) ?_
        refine lv_iload_n hx hb dX3_cell_35 rfl (lv_at hl 4 rfl) ?_
        refine roV_i (As := [.int (nI l0)]) (rest := []) ⟨hx, hb, hml, hown, hts⟩ (kX1_faultAsRow l dC dI cI (qs 1) (qr 1) (hs 1) (la 1) (le 1) (C 1) l0 _ (by omega) (by omega)) (cwV 1 hts gX3_cell_X1_faultAsRow rfl rfl rfl hdX1_faultAsRow ⟨Nat.le_trans (Nat.le_of_ble_eq_true rfl) hRf, Nat.le_trans (Nat.le_of_ble_eq_true rfl) hRl⟩) (va_recv hK hP (ci := 1) (q0 := 4) rfl rfl) (hK.sub [0] rfl) (hP.sub [4, 5] rfl) rfl hl.1 rfl (Nat.le_of_ble_eq_true rfl) dX3_cell_36 ⟨Nat.zero_le _, Nat.zero_le _⟩ hP hS hA (fun H locs hP hS => ?_)
        refine lv_istore (lv' := [(5, .int (nI (faR (hs 1) (la 1) l0))), (4, .ref (qs 1)), (0, .ref a), (1, .int (nI 1)), (2, .int i), (3, .int (nI l0))]) hx hb dX3_cell_39 hl (by decide) rfl (fun ls hl => ?_)
        refine lv_iload hx hb dX3_cell_41 (lv_at hl 0 rfl) ?_
        refine x_if_ne (tgt := 61) hx hb (faR_lt _ _ _) dX3_cell_43 (by decide) (fun c43 => ?_) (fun c43 => ?_)
        · skip
          refine lv_iload hx hb dX3_cell_61 (lv_at hl 0 rfl) ?_
          refine x_if_eq (tgt := 76) hx hb (faR_lt _ _ _) dX3_cell_63 (by decide) (fun c63 => ?_) (fun c63 => ?_)
          · skip
            exact absurd c63 c43
          · skip
            refine lv_aload_n hx hb dX3_cell_66 rfl (lv_at hl 2 rfl) ?_
            refine lv_iload hx hb dX3_cell_67 (lv_at hl 0 rfl) ?_
            refine x_put (D := (dC, dI)) (ci := 3) (v := .int (nI (faR (hs 1) (la 1) l0))) (C := RX3) (T := TX3) (N := 5) (wn := (a, .inr (3, [.ref r0, .ref r1, .ref g, .int tr, .int (nI (faR (hs 1) (la 1) l0))])) :: wSh cS cI r0 qs qr hs la le C) hx hb hts hinX3 tyX3 tyX3_ok nmX3 hown hK hP hD hS 0 rfl rfl 4 (Nat.le_of_ble_eq_true rfl) hf36 rfl rfl rfl rfl (Nat.le_of_ble_eq_true rfl) rfl dX3_cell_69 (fun H locs hP hS => ?_)
            have hD : va_D Z ((a, .inr (3, [.ref r0, .ref r1, .ref g, .int tr, .int (nI (faR (hs 1) (la 1) l0))])) :: wSh cS cI r0 qs qr hs la le C) := hD.same rfl
            refine lv_ldc2 hx hb hown hk133 dX3_cell_72 ?_
            exact hend _ _ _ _ _ _ (by rw [uCell, if_pos ⟨c10, c18⟩, hxj, hxl0, if_neg (fun q => c43 q.1)] <;> rfl) (by rw [fCell, if_pos ⟨c10, c18⟩, hxj, hxl0, if_neg c43]) hP hS dX3_cell_75
        · skip
          refine lv_iload_n hx hb dX3_cell_46 rfl (lv_at hl 4 rfl) ?_
          refine lv_aload hx hb dX3_cell_47 (lv_at hl 1 rfl) ?_
          refine x_get (D := (dC, dI)) (ci := 1) (v := .int (nI (le 1))) (C := RX1) (T := TX1) (N := 4) hx hb hts hinX1 hown hK hP 4 rfl rfl 3 (Nat.le_of_ble_eq_true rfl) hf187 rfl rfl dX3_cell_49 ?_
          refine roS_i (As := [.int i, .int (nI (le 1))]) (rest := []) ⟨hx, hb, hml, hown, hts⟩ (kX3_isBelow l dC dI i (le 1) _ ) (va_cwS 2 hts gX3_cell_X3_isBelow rfl rfl rfl hdX3_isBelow ⟨Nat.le_trans (Nat.le_of_ble_eq_true rfl) hRf, Nat.le_trans (Nat.le_of_ble_eq_true rfl) hRl⟩) (hK.sub [] rfl) (hP.sub [] rfl) rfl hl.1 rfl (Nat.le_of_ble_eq_true rfl) dX3_cell_52 ⟨Nat.zero_le _, Nat.zero_le _⟩ hP hS hA (fun H locs hP hS => ?_)
          refine x_ifb_ne (tgt := 61) hx hb dX3_cell_55 (by decide) (fun c55 => ?_) (fun c55 => ?_)
          · skip
            obtain ⟨ii, hii, rfl⟩ := inB_t (by omega) c55
            have hxii : xn (nI ii) = ii := xn_nI (by omega)
            refine lv_iload hx hb dX3_cell_61 (lv_at hl 0 rfl) ?_
            refine x_if_eq (tgt := 76) hx hb (faR_lt _ _ _) dX3_cell_63 (by decide) (fun c63 => ?_) (fun c63 => ?_)
            · skip
              refine lv_aload hx hb dX3_cell_76 (lv_at hl 1 rfl) ?_
              refine x_get (D := (dC, dI)) (ci := 1) (v := .ref (qr 1)) (C := RX1) (T := TX1) (N := 4) hx hb hts hinX1 hown hK hP 4 rfl rfl 0 (Nat.le_of_ble_eq_true rfl) hf193 rfl rfl dX3_cell_78 ?_
              refine lv_iload_n hx hb dX3_cell_81 rfl (lv_at hl 4 rfl) ?_
              refine x_iald (v := (C 1 ii)) hx hb hK hP 5 0 rfl rfl (by omega) (by decide) rfl dX3_cell_82 ?_
              refine lv_i2l hx hb dX3_cell_83 rfl ?_
              exact hend _ _ _ _ _ _ (by rw [uCell, if_pos ⟨c10, c18⟩, hxj, hxl0, if_pos ⟨c43, c55⟩, hxii]) (by rw [fCell, if_pos ⟨c10, c18⟩, hxj, hxl0, if_pos c43, if_pos c55] <;> rfl) hP hS dX3_cell_84
            · skip
              exact absurd c43 c63
          · skip
            refine lv_iconst (v := nI 3) hx hb dX3_cell_58 rfl ?_
            refine lv_istore (lv' := [(5, .int (nI 3)), (4, .ref (qs 1)), (0, .ref a), (1, .int (nI 1)), (2, .int i), (3, .int (nI l0))]) hx hb dX3_cell_59 hl (by decide) rfl (fun ls hl => ?_)
            refine lv_iload hx hb dX3_cell_61 (lv_at hl 0 rfl) ?_
            refine x_if_eq (tgt := 76) hx hb (by omega) dX3_cell_63 (by decide) (fun c63 => absurd c63 (by decide)) (fun c63 => ?_)
            refine lv_aload_n hx hb dX3_cell_66 rfl (lv_at hl 2 rfl) ?_
            refine lv_iload hx hb dX3_cell_67 (lv_at hl 0 rfl) ?_
            refine x_put (D := (dC, dI)) (ci := 3) (v := .int (nI 3)) (C := RX3) (T := TX3) (N := 5) (wn := (a, .inr (3, [.ref r0, .ref r1, .ref g, .int tr, .int (nI 3)])) :: wSh cS cI r0 qs qr hs la le C) hx hb hts hinX3 tyX3 tyX3_ok nmX3 hown hK hP hD hS 0 rfl rfl 4 (Nat.le_of_ble_eq_true rfl) hf36 rfl rfl rfl rfl (Nat.le_of_ble_eq_true rfl) rfl dX3_cell_69 (fun H locs hP hS => ?_)
            have hD : va_D Z ((a, .inr (3, [.ref r0, .ref r1, .ref g, .int tr, .int (nI 3)])) :: wSh cS cI r0 qs qr hs la le C) := hD.same rfl
            refine lv_ldc2 hx hb hown hk133 dX3_cell_72 ?_
            exact hend _ _ _ _ _ _ (by rw [uCell, if_pos ⟨c10, c18⟩, hxj, hxl0, if_neg (fun q => absurd q.2 (by rw [c55]; decide))] <;> rfl) (by rw [fCell, if_pos ⟨c10, c18⟩, hxj, hxl0, if_pos c43, if_neg (by rw [c55]; decide)] <;> rfl) hP hS dX3_cell_75
      · skip
        refine x_aald (v := qs 2) hx hb hK hP 1 1 rfl rfl (by decide) (by decide) rfl dX3_cell_30 ?_
        refine lv_astore (lv' := [(4, .ref (qs 2)), (0, .ref a), (1, .int (nI 2)), (2, .int i), (3, .int (nI l0))]) hx hb dX3_cell_31 hl (by decide) rfl (fun ls hl => ?_)
        refine lv_aload hx hb dX3_cell_33 (lv_at hl 0 rfl) ?_
        refine lv_iload_n hx hb dX3_cell_35 rfl (lv_at hl 4 rfl) ?_
        refine roV_i (As := [.int (nI l0)]) (rest := []) ⟨hx, hb, hml, hown, hts⟩ (kX1_faultAsRow l dC dI cI (qs 2) (qr 2) (hs 2) (la 2) (le 2) (C 2) l0 _ (by omega) (by omega)) (cwV 1 hts gX3_cell_X1_faultAsRow rfl rfl rfl hdX1_faultAsRow ⟨Nat.le_trans (Nat.le_of_ble_eq_true rfl) hRf, Nat.le_trans (Nat.le_of_ble_eq_true rfl) hRl⟩) (va_recv hK hP (ci := 1) (q0 := 6) rfl rfl) (hK.sub [0] rfl) (hP.sub [6, 7] rfl) rfl hl.1 rfl (Nat.le_of_ble_eq_true rfl) dX3_cell_36 ⟨Nat.zero_le _, Nat.zero_le _⟩ hP hS hA (fun H locs hP hS => ?_)
        refine lv_istore (lv' := [(5, .int (nI (faR (hs 2) (la 2) l0))), (4, .ref (qs 2)), (0, .ref a), (1, .int (nI 2)), (2, .int i), (3, .int (nI l0))]) hx hb dX3_cell_39 hl (by decide) rfl (fun ls hl => ?_)
        refine lv_iload hx hb dX3_cell_41 (lv_at hl 0 rfl) ?_
        refine x_if_ne (tgt := 61) hx hb (faR_lt _ _ _) dX3_cell_43 (by decide) (fun c43 => ?_) (fun c43 => ?_)
        · skip
          refine lv_iload hx hb dX3_cell_61 (lv_at hl 0 rfl) ?_
          refine x_if_eq (tgt := 76) hx hb (faR_lt _ _ _) dX3_cell_63 (by decide) (fun c63 => ?_) (fun c63 => ?_)
          · skip
            exact absurd c63 c43
          · skip
            refine lv_aload_n hx hb dX3_cell_66 rfl (lv_at hl 2 rfl) ?_
            refine lv_iload hx hb dX3_cell_67 (lv_at hl 0 rfl) ?_
            refine x_put (D := (dC, dI)) (ci := 3) (v := .int (nI (faR (hs 2) (la 2) l0))) (C := RX3) (T := TX3) (N := 5) (wn := (a, .inr (3, [.ref r0, .ref r1, .ref g, .int tr, .int (nI (faR (hs 2) (la 2) l0))])) :: wSh cS cI r0 qs qr hs la le C) hx hb hts hinX3 tyX3 tyX3_ok nmX3 hown hK hP hD hS 0 rfl rfl 4 (Nat.le_of_ble_eq_true rfl) hf36 rfl rfl rfl rfl (Nat.le_of_ble_eq_true rfl) rfl dX3_cell_69 (fun H locs hP hS => ?_)
            have hD : va_D Z ((a, .inr (3, [.ref r0, .ref r1, .ref g, .int tr, .int (nI (faR (hs 2) (la 2) l0))])) :: wSh cS cI r0 qs qr hs la le C) := hD.same rfl
            refine lv_ldc2 hx hb hown hk133 dX3_cell_72 ?_
            exact hend _ _ _ _ _ _ (by rw [uCell, if_pos ⟨c10, c18⟩, hxj, hxl0, if_neg (fun q => c43 q.1)] <;> rfl) (by rw [fCell, if_pos ⟨c10, c18⟩, hxj, hxl0, if_neg c43]) hP hS dX3_cell_75
        · skip
          refine lv_iload_n hx hb dX3_cell_46 rfl (lv_at hl 4 rfl) ?_
          refine lv_aload hx hb dX3_cell_47 (lv_at hl 1 rfl) ?_
          refine x_get (D := (dC, dI)) (ci := 1) (v := .int (nI (le 2))) (C := RX1) (T := TX1) (N := 4) hx hb hts hinX1 hown hK hP 6 rfl rfl 3 (Nat.le_of_ble_eq_true rfl) hf187 rfl rfl dX3_cell_49 ?_
          refine roS_i (As := [.int i, .int (nI (le 2))]) (rest := []) ⟨hx, hb, hml, hown, hts⟩ (kX3_isBelow l dC dI i (le 2) _ ) (va_cwS 2 hts gX3_cell_X3_isBelow rfl rfl rfl hdX3_isBelow ⟨Nat.le_trans (Nat.le_of_ble_eq_true rfl) hRf, Nat.le_trans (Nat.le_of_ble_eq_true rfl) hRl⟩) (hK.sub [] rfl) (hP.sub [] rfl) rfl hl.1 rfl (Nat.le_of_ble_eq_true rfl) dX3_cell_52 ⟨Nat.zero_le _, Nat.zero_le _⟩ hP hS hA (fun H locs hP hS => ?_)
          refine x_ifb_ne (tgt := 61) hx hb dX3_cell_55 (by decide) (fun c55 => ?_) (fun c55 => ?_)
          · skip
            obtain ⟨ii, hii, rfl⟩ := inB_t (by omega) c55
            have hxii : xn (nI ii) = ii := xn_nI (by omega)
            refine lv_iload hx hb dX3_cell_61 (lv_at hl 0 rfl) ?_
            refine x_if_eq (tgt := 76) hx hb (faR_lt _ _ _) dX3_cell_63 (by decide) (fun c63 => ?_) (fun c63 => ?_)
            · skip
              refine lv_aload hx hb dX3_cell_76 (lv_at hl 1 rfl) ?_
              refine x_get (D := (dC, dI)) (ci := 1) (v := .ref (qr 2)) (C := RX1) (T := TX1) (N := 4) hx hb hts hinX1 hown hK hP 6 rfl rfl 0 (Nat.le_of_ble_eq_true rfl) hf193 rfl rfl dX3_cell_78 ?_
              refine lv_iload_n hx hb dX3_cell_81 rfl (lv_at hl 4 rfl) ?_
              refine x_iald (v := (C 2 ii)) hx hb hK hP 7 0 rfl rfl (by omega) (by decide) rfl dX3_cell_82 ?_
              refine lv_i2l hx hb dX3_cell_83 rfl ?_
              exact hend _ _ _ _ _ _ (by rw [uCell, if_pos ⟨c10, c18⟩, hxj, hxl0, if_pos ⟨c43, c55⟩, hxii]) (by rw [fCell, if_pos ⟨c10, c18⟩, hxj, hxl0, if_pos c43, if_pos c55] <;> rfl) hP hS dX3_cell_84
            · skip
              exact absurd c43 c63
          · skip
            refine lv_iconst (v := nI 3) hx hb dX3_cell_58 rfl ?_
            refine lv_istore (lv' := [(5, .int (nI 3)), (4, .ref (qs 2)), (0, .ref a), (1, .int (nI 2)), (2, .int i), (3, .int (nI l0))]) hx hb dX3_cell_59 hl (by decide) rfl (fun ls hl => ?_)
            refine lv_iload hx hb dX3_cell_61 (lv_at hl 0 rfl) ?_
            refine x_if_eq (tgt := 76) hx hb (by omega) dX3_cell_63 (by decide) (fun c63 => absurd c63 (by decide)) (fun c63 => ?_)
            refine lv_aload_n hx hb dX3_cell_66 rfl (lv_at hl 2 rfl) ?_
            refine lv_iload hx hb dX3_cell_67 (lv_at hl 0 rfl) ?_
            refine x_put (D := (dC, dI)) (ci := 3) (v := .int (nI 3)) (C := RX3) (T := TX3) (N := 5) (wn := (a, .inr (3, [.ref r0, .ref r1, .ref g, .int tr, .int (nI 3)])) :: wSh cS cI r0 qs qr hs la le C) hx hb hts hinX3 tyX3 tyX3_ok nmX3 hown hK hP hD hS 0 rfl rfl 4 (Nat.le_of_ble_eq_true rfl) hf36 rfl rfl rfl rfl (Nat.le_of_ble_eq_true rfl) rfl dX3_cell_69 (fun H locs hP hS => ?_)
            have hD : va_D Z ((a, .inr (3, [.ref r0, .ref r1, .ref g, .int tr, .int (nI 3)])) :: wSh cS cI r0 qs qr hs la le C) := hD.same rfl
            refine lv_ldc2 hx hb hown hk133 dX3_cell_72 ?_
            exact hend _ _ _ _ _ _ (by rw [uCell, if_pos ⟨c10, c18⟩, hxj, hxl0, if_neg (fun q => absurd q.2 (by rw [c55]; decide))] <;> rfl) (by rw [fCell, if_pos ⟨c10, c18⟩, hxj, hxl0, if_pos c43, if_neg (by rw [c55]; decide)] <;> rfl) hP hS dX3_cell_75
      · skip
        refine x_aald (v := qs 3) hx hb hK hP 1 1 rfl rfl (by decide) (by decide) rfl dX3_cell_30 ?_
        refine lv_astore (lv' := [(4, .ref (qs 3)), (0, .ref a), (1, .int (nI 3)), (2, .int i), (3, .int (nI l0))]) hx hb dX3_cell_31 hl (by decide) rfl (fun ls hl => ?_)
        refine lv_aload hx hb dX3_cell_33 (lv_at hl 0 rfl) ?_
        refine lv_iload_n hx hb dX3_cell_35 rfl (lv_at hl 4 rfl) ?_
        refine roV_i (As := [.int (nI l0)]) (rest := []) ⟨hx, hb, hml, hown, hts⟩ (kX1_faultAsRow l dC dI cI (qs 3) (qr 3) (hs 3) (la 3) (le 3) (C 3) l0 _ (by omega) (by omega)) (cwV 1 hts gX3_cell_X1_faultAsRow rfl rfl rfl hdX1_faultAsRow ⟨Nat.le_trans (Nat.le_of_ble_eq_true rfl) hRf, Nat.le_trans (Nat.le_of_ble_eq_true rfl) hRl⟩) (va_recv hK hP (ci := 1) (q0 := 8) rfl rfl) (hK.sub [0] rfl) (hP.sub [8, 9] rfl) rfl hl.1 rfl (Nat.le_of_ble_eq_true rfl) dX3_cell_36 ⟨Nat.zero_le _, Nat.zero_le _⟩ hP hS hA (fun H locs hP hS => ?_)
        refine lv_istore (lv' := [(5, .int (nI (faR (hs 3) (la 3) l0))), (4, .ref (qs 3)), (0, .ref a), (1, .int (nI 3)), (2, .int i), (3, .int (nI l0))]) hx hb dX3_cell_39 hl (by decide) rfl (fun ls hl => ?_)
        refine lv_iload hx hb dX3_cell_41 (lv_at hl 0 rfl) ?_
        refine x_if_ne (tgt := 61) hx hb (faR_lt _ _ _) dX3_cell_43 (by decide) (fun c43 => ?_) (fun c43 => ?_)
        · skip
          refine lv_iload hx hb dX3_cell_61 (lv_at hl 0 rfl) ?_
          refine x_if_eq (tgt := 76) hx hb (faR_lt _ _ _) dX3_cell_63 (by decide) (fun c63 => ?_) (fun c63 => ?_)
          · skip
            exact absurd c63 c43
          · skip
            refine lv_aload_n hx hb dX3_cell_66 rfl (lv_at hl 2 rfl) ?_
            refine lv_iload hx hb dX3_cell_67 (lv_at hl 0 rfl) ?_
            refine x_put (D := (dC, dI)) (ci := 3) (v := .int (nI (faR (hs 3) (la 3) l0))) (C := RX3) (T := TX3) (N := 5) (wn := (a, .inr (3, [.ref r0, .ref r1, .ref g, .int tr, .int (nI (faR (hs 3) (la 3) l0))])) :: wSh cS cI r0 qs qr hs la le C) hx hb hts hinX3 tyX3 tyX3_ok nmX3 hown hK hP hD hS 0 rfl rfl 4 (Nat.le_of_ble_eq_true rfl) hf36 rfl rfl rfl rfl (Nat.le_of_ble_eq_true rfl) rfl dX3_cell_69 (fun H locs hP hS => ?_)
            have hD : va_D Z ((a, .inr (3, [.ref r0, .ref r1, .ref g, .int tr, .int (nI (faR (hs 3) (la 3) l0))])) :: wSh cS cI r0 qs qr hs la le C) := hD.same rfl
            refine lv_ldc2 hx hb hown hk133 dX3_cell_72 ?_
            exact hend _ _ _ _ _ _ (by rw [uCell, if_pos ⟨c10, c18⟩, hxj, hxl0, if_neg (fun q => c43 q.1)] <;> rfl) (by rw [fCell, if_pos ⟨c10, c18⟩, hxj, hxl0, if_neg c43]) hP hS dX3_cell_75
        · skip
          refine lv_iload_n hx hb dX3_cell_46 rfl (lv_at hl 4 rfl) ?_
          refine lv_aload hx hb dX3_cell_47 (lv_at hl 1 rfl) ?_
          refine x_get (D := (dC, dI)) (ci := 1) (v := .int (nI (le 3))) (C := RX1) (T := TX1) (N := 4) hx hb hts hinX1 hown hK hP 8 rfl rfl 3 (Nat.le_of_ble_eq_true rfl) hf187 rfl rfl dX3_cell_49 ?_
          refine roS_i (As := [.int i, .int (nI (le 3))]) (rest := []) ⟨hx, hb, hml, hown, hts⟩ (kX3_isBelow l dC dI i (le 3) _ ) (va_cwS 2 hts gX3_cell_X3_isBelow rfl rfl rfl hdX3_isBelow ⟨Nat.le_trans (Nat.le_of_ble_eq_true rfl) hRf, Nat.le_trans (Nat.le_of_ble_eq_true rfl) hRl⟩) (hK.sub [] rfl) (hP.sub [] rfl) rfl hl.1 rfl (Nat.le_of_ble_eq_true rfl) dX3_cell_52 ⟨Nat.zero_le _, Nat.zero_le _⟩ hP hS hA (fun H locs hP hS => ?_)
          refine x_ifb_ne (tgt := 61) hx hb dX3_cell_55 (by decide) (fun c55 => ?_) (fun c55 => ?_)
          · skip
            obtain ⟨ii, hii, rfl⟩ := inB_t (by omega) c55
            have hxii : xn (nI ii) = ii := xn_nI (by omega)
            refine lv_iload hx hb dX3_cell_61 (lv_at hl 0 rfl) ?_
            refine x_if_eq (tgt := 76) hx hb (faR_lt _ _ _) dX3_cell_63 (by decide) (fun c63 => ?_) (fun c63 => ?_)
            · skip
              refine lv_aload hx hb dX3_cell_76 (lv_at hl 1 rfl) ?_
              refine x_get (D := (dC, dI)) (ci := 1) (v := .ref (qr 3)) (C := RX1) (T := TX1) (N := 4) hx hb hts hinX1 hown hK hP 8 rfl rfl 0 (Nat.le_of_ble_eq_true rfl) hf193 rfl rfl dX3_cell_78 ?_
              refine lv_iload_n hx hb dX3_cell_81 rfl (lv_at hl 4 rfl) ?_
              refine x_iald (v := (C 3 ii)) hx hb hK hP 9 0 rfl rfl (by omega) (by decide) rfl dX3_cell_82 ?_
              refine lv_i2l hx hb dX3_cell_83 rfl ?_
              exact hend _ _ _ _ _ _ (by rw [uCell, if_pos ⟨c10, c18⟩, hxj, hxl0, if_pos ⟨c43, c55⟩, hxii]) (by rw [fCell, if_pos ⟨c10, c18⟩, hxj, hxl0, if_pos c43, if_pos c55] <;> rfl) hP hS dX3_cell_84
            · skip
              exact absurd c43 c63
          · skip
            refine lv_iconst (v := nI 3) hx hb dX3_cell_58 rfl ?_
            refine lv_istore (lv' := [(5, .int (nI 3)), (4, .ref (qs 3)), (0, .ref a), (1, .int (nI 3)), (2, .int i), (3, .int (nI l0))]) hx hb dX3_cell_59 hl (by decide) rfl (fun ls hl => ?_)
            refine lv_iload hx hb dX3_cell_61 (lv_at hl 0 rfl) ?_
            refine x_if_eq (tgt := 76) hx hb (by omega) dX3_cell_63 (by decide) (fun c63 => absurd c63 (by decide)) (fun c63 => ?_)
            refine lv_aload_n hx hb dX3_cell_66 rfl (lv_at hl 2 rfl) ?_
            refine lv_iload hx hb dX3_cell_67 (lv_at hl 0 rfl) ?_
            refine x_put (D := (dC, dI)) (ci := 3) (v := .int (nI 3)) (C := RX3) (T := TX3) (N := 5) (wn := (a, .inr (3, [.ref r0, .ref r1, .ref g, .int tr, .int (nI 3)])) :: wSh cS cI r0 qs qr hs la le C) hx hb hts hinX3 tyX3 tyX3_ok nmX3 hown hK hP hD hS 0 rfl rfl 4 (Nat.le_of_ble_eq_true rfl) hf36 rfl rfl rfl rfl (Nat.le_of_ble_eq_true rfl) rfl dX3_cell_69 (fun H locs hP hS => ?_)
            have hD : va_D Z ((a, .inr (3, [.ref r0, .ref r1, .ref g, .int tr, .int (nI 3)])) :: wSh cS cI r0 qs qr hs la le C) := hD.same rfl
            refine lv_ldc2 hx hb hown hk133 dX3_cell_72 ?_
            exact hend _ _ _ _ _ _ (by rw [uCell, if_pos ⟨c10, c18⟩, hxj, hxl0, if_neg (fun q => absurd q.2 (by rw [c55]; decide))] <;> rfl) (by rw [fCell, if_pos ⟨c10, c18⟩, hxj, hxl0, if_pos c43, if_neg (by rw [c55]; decide)] <;> rfl) hP hS dX3_cell_75
    · skip
      refine lv_ldc2 hx hb hown hk133 dX3_cell_21 ?_
      exact hend _ _ _ _ _ _ (by rw [uCell, if_neg (fun q => absurd q.2 (by rw [c18]; decide))] <;> rfl) (by rw [fCell, if_neg (fun q => absurd q.2 (by rw [c18]; decide))] <;> rfl) hP hS dX3_cell_24
