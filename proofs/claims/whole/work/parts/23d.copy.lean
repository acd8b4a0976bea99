theorem hdX1_hasSpan : yX1_hasSpan.cls = RX1 ∧ yX1_hasSpan.cls ≠ "java/lang/invoke/MethodHandle" ∧ yX1_hasSpan.cls ≠ "java/lang/invoke/VarHandle" ∧ (parseMethodDescriptor yX1_hasSpan.desc).map (fun d => d.parameters.length) = some 2 := by decide +kernel
set_option maxRecDepth 20000 in
theorem ggX3_copy_X3_isBelow : GoodIn wsX3_copy wsX3_isBelow := goodIn_r _ [13] (by decide +kernel) (by decide +kernel)
set_option maxRecDepth 20000 in
theorem gX3_copy_X3_isBelow : GoodIn wsX3_copy (va_wsS RX3 39 yX3_isBelow wsX3_isBelow) := goodIn_app (goodIn_of _ (by decide +kernel)) ggX3_copy_X3_isBelow
set_option maxRecDepth 20000 in
theorem ggX3_copy_X3_failed : GoodIn wsX3_copy wsX3_failed := goodIn_r _ [17, 1, 24, 25, 26, 27, 28] (by decide +kernel) (by decide +kernel)
set_option maxRecDepth 20000 in
theorem gX3_copy_X3_failed : GoodIn wsX3_copy (wsV RX3 50 RX3 yX3_failed wsX3_failed) := goodIn_app (goodIn_of _ (by decide +kernel)) ggX3_copy_X3_failed
set_option maxRecDepth 20000 in
theorem ggX3_copy_X1_hasSpan : GoodIn wsX3_copy wsX1_hasSpan := goodIn_r _ [22, 23, 29, 30, 31, 32] (by decide +kernel) (by decide +kernel)
set_option maxRecDepth 20000 in
theorem gX3_copy_X1_hasSpan : GoodIn wsX3_copy (wsV RX3 47 RX1 yX1_hasSpan wsX1_hasSpan) := goodIn_app (goodIn_of _ (by decide +kernel)) ggX3_copy_X1_hasSpan
set_option maxHeartbeats 4000000 in
set_option maxRecDepth 100000 in
theorem kX3_copy (l : Launch) (dC : Nat → ClassId) (dI : Nat → Nat → Nat) (a r1 g : Nat) (tr fl : Int32) (cS cI : ClassId) (r0 : Nat) (qs qr : Nat → Nat) (hs : Nat → Bool) (la le : Nat → Nat) (C : Nat → Nat → Int32) (hB : ∀ k, k < 4 → la k ≤ 2 ∧ le k ≤ 100) (k : Int32) (i : Int32) (o : Int32) (d : Int32) (n : Int32) (sz : Nat) : Met l yX3_copy wsX3_copy ({ frames := 1, cells := 0, slots := 0, locals := 30 }) (rwP [.ref a, .int k, .int i, .int o, .int d, .int n] sz (dC, dI) [(cI, .int), (cS, .object "StatueSquare$Sheet")] ((a, .inr (3, [.ref r0, .ref r1, .ref g, .int tr, .int fl])) :: wSh cS cI r0 qs qr hs la le C)) (rwQi (uCopy hs la le k i o d n) (dC, dI) ((a, .inr (3, [.ref r0, .ref r1, .ref g, .int tr, .int fl])) :: wSh cS cI r0 qs qr hs la le C) ((a, .inr (3, [.ref r0, .ref r1, .ref g, .int tr, .int (fCopy hs la le k i o d n)])) :: wSh cS cI r0 qs qr hs la le (if okCopy hs la le k i o d n = true then uC C (xn o) (va_cpy (C (xn k)) (C (xn o)) (xn i) (xn d) (xn n)) else C)) sz) 0 0 (va_A ((a, .inr (3, [.ref r0, .ref r1, .ref g, .int tr, .int fl])) :: wSh cS cI r0 qs qr hs la le C) sz) := by
  refine rw_met_i (by decide) rfl (Nat.le_of_ble_eq_true rfl) ?_
  intro pp ee ss mm aa bb me cd RR QQ Z hx hb hml hown hts hRf hRl hP hK hD hA hS hend ls hl
  have hown : ss.vm.findClass RX3 = some mm.cls := hown
  have hRf : 1 ≤ RR.frames := hRf
  have hRl : 30 ≤ RR.locals := hRl
  have hl : lv_has ls 8 [(0, .ref a), (1, .int k), (2, .int i), (3, .int o), (4, .int d), (5, .int n)] := hl
  have hB0 := hB 0 (by decide)
  have hB1 := hB 1 (by decide)
  have hB2 := hB 2 (by decide)
  have hB3 := hB 3 (by decide)
  have hf36 := hts (.fieldLink RX3 36 "StatueSquare" "latestFault" "I") (List.mem_of_getElem? (i := 1) rfl)
  have hinX3 : ∀ w ∈ u_ws RX3 TX3 5, w ∈ wsX3_copy := fun _ h => List.mem_cons_of_mem _ (List.mem_append_left _ (List.mem_append_right _ h))
  have hf13 := hts (.fieldLink RX3 13 "StatueSquare" "sheets" "[LStatueSquare$Sheet;") (List.mem_of_getElem? (i := 2) rfl)
  have hf184 := hts (.fieldLink RX3 184 "StatueSquare$Sheet" "hasRow" "Z") (List.mem_of_getElem? (i := 3) rfl)
  have hinX1 : ∀ w ∈ u_ws RX1 TX1 4, w ∈ wsX3_copy := fun _ h => List.mem_cons_of_mem _ (List.mem_append_right _ h)
  have hf196 := hts (.fieldLink RX3 196 "StatueSquare$Sheet" "lane" "I") (List.mem_of_getElem? (i := 4) rfl)
  have hf193 := hts (.fieldLink RX3 193 "StatueSquare$Sheet" "row" "[I") (List.mem_of_getElem? (i := 5) rfl)
  have hl199 := hts (.methodLink RX3 199 arraycopyName) (List.mem_of_getElem? (i := 6) rfl)
  have hnat := hts (.native arraycopyName) (List.mem_of_getElem? (i := 7) rfl)
  have hsta := hts (.static arraycopyName) (List.mem_of_getElem? (i := 8) rfl)
  have hiSys := hts (.initialized "java/lang/System") (List.mem_of_getElem? (i := 9) rfl)
  refine lv_aload_n hx hb dX3_copy_0 rfl (lv_at hl 0 rfl) ?_
  refine lv_iconst (v := nI 0) hx hb dX3_copy_1 rfl ?_
  refine x_put (D := (dC, dI)) (ci := 3) (v := .int (nI 0)) (C := RX3) (T := TX3) (N := 5) (wn := (a, .inr (3, [.ref r0, .ref r1, .ref g, .int tr, .int (nI 0)])) :: wSh cS cI r0 qs qr hs la le C) hx hb hts hinX3 tyX3 tyX3_ok nmX3 hown hK hP hD hS 0 rfl rfl 4 (Nat.le_of_ble_eq_true rfl) hf36 rfl rfl rfl rfl (Nat.le_of_ble_eq_true rfl) rfl dX3_copy_2 (fun H locs hP hS => ?_)
  have hD : va_D Z ((a, .inr (3, [.ref r0, .ref r1, .ref g, .int tr, .int (nI 0)])) :: wSh cS cI r0 qs qr hs la le C) := hD.same rfl
  refine lv_iload_n hx hb dX3_copy_5 rfl (lv_at hl 1 rfl) ?_
  refine lv_iconst (v := nI 4) hx hb dX3_copy_6 rfl ?_
  refine roS_i (As := [.int k, .int (nI 4)]) (rest := []) ⟨hx, hb, hml, hown, hts⟩ (kX3_isBelow l dC dI k 4 _ ) (va_cwS 2 hts gX3_copy_X3_isBelow rfl rfl rfl hdX3_isBelow ⟨Nat.le_trans (Nat.le_of_ble_eq_true rfl) hRf, Nat.le_trans (Nat.le_of_ble_eq_true rfl) hRl⟩) (hK.sub [] rfl) (hP.sub [] rfl) rfl hl.1 rfl (Nat.le_of_ble_eq_true rfl) dX3_copy_7 ⟨Nat.zero_le _, Nat.zero_le _⟩ hP hS hA (fun H locs hP hS => ?_)
  refine x_ifb_eq (tgt := 21) hx hb dX3_copy_10 (by decide) (fun c10 => ?_) (fun c10 => ?_)
  · skip
    refine lv_iconst (v := -1) hx hb dX3_copy_21 rfl ?_
    exact hend _ _ _ _ _ _ (by rw [uCopy, if_neg (fun q => absurd q.1 (by rw [c10]; decide))] <;> rfl) (by rw [show okCopy hs la le k i o d n = false from by simp [okCopy, c10], fCopy, if_neg (fun q => absurd q.1 (by rw [c10]; decide)), if_neg Bool.false_ne_true] <;> rfl) hP hS dX3_copy_22
  · skip
    obtain ⟨j, hj, rfl⟩ := inB_t (by omega) c10
    have hxj : xn (nI j) = j := xn_nI (by omega)
    refine lv_iload_n hx hb dX3_copy_13 rfl (lv_at hl 3 rfl) ?_
    refine lv_iconst (v := nI 4) hx hb dX3_copy_14 rfl ?_
    refine roS_i (As := [.int o, .int (nI 4)]) (rest := []) ⟨hx, hb, hml, hown, hts⟩ (kX3_isBelow l dC dI o 4 _ ) (va_cwS 2 hts gX3_copy_X3_isBelow rfl rfl rfl hdX3_isBelow ⟨Nat.le_trans (Nat.le_of_ble_eq_true rfl) hRf, Nat.le_trans (Nat.le_of_ble_eq_true rfl) hRl⟩) (hK.sub [] rfl) (hP.sub [] rfl) rfl hl.1 rfl (Nat.le_of_ble_eq_true rfl) dX3_copy_15 ⟨Nat.zero_le _, Nat.zero_le _⟩ hP hS hA (fun H locs hP hS => ?_)
    refine x_ifb_ne (tgt := 23) hx hb dX3_copy_18 (by decide) (fun c18 => ?_) (fun c18 => ?_)
    · skip
      obtain ⟨jo, hjo, rfl⟩ := inB_t (by omega) c18
      have hxjo : xn (nI jo) = jo := xn_nI (by omega)
      refine lv_aload_n hx hb dX3_copy_23 rfl (lv_at hl 0 rfl) ?_
      refine x_get (D := (dC, dI)) (ci := 3) (v := .ref r0) (C := RX3) (T := TX3) (N := 5) hx hb hts hinX3 hown hK hP 0 rfl rfl 0 (Nat.le_of_ble_eq_true rfl) hf13 rfl rfl dX3_copy_24 ?_
      refine lv_iload_n hx hb dX3_copy_27 rfl (lv_at hl 1 rfl) ?_
      rcases (show j = 0 ∨ j = 1 ∨ j = 2 ∨ j = 3 by omega) with rfl | rfl | rfl | rfl
      · skip
        refine x_aald (v := qs 0) hx hb hK hP 1 1 rfl rfl (by decide) (by decide) rfl dX3_copy_28 ?_
        refine lv_astore (lv' := [(6, .ref (qs 0)), (0, .ref a), (1, .int (nI 0)), (2, .int i), (3, .int (nI jo)), (4, .int d), (5, .int n)]) hx hb dX3_copy_29 hl (by decide) rfl (fun ls hl => ?_)
        refine lv_aload_n hx hb dX3_copy_31 rfl (lv_at hl 1 rfl) ?_
        refine x_get (D := (dC, dI)) (ci := 3) (v := .ref r0) (C := RX3) (T := TX3) (N := 5) hx hb hts hinX3 hown hK hP 0 rfl rfl 0 (Nat.le_of_ble_eq_true rfl) hf13 rfl rfl dX3_copy_32 ?_
        refine lv_iload_n hx hb dX3_copy_35 rfl (lv_at hl 4 rfl) ?_
        rcases (show jo = 0 ∨ jo = 1 ∨ jo = 2 ∨ jo = 3 by omega) with rfl | rfl | rfl | rfl
        · skip
          refine x_aald (v := qs 0) hx hb hK hP 1 1 rfl rfl (by decide) (by decide) rfl dX3_copy_36 ?_
          refine lv_astore (lv' := [(7, .ref (qs 0)), (6, .ref (qs 0)), (0, .ref a), (1, .int (nI 0)), (2, .int i), (3, .int (nI 0)), (4, .int d), (5, .int n)]) hx hb dX3_copy_37 hl (by decide) rfl (fun ls hl => ?_)
          refine lv_aload hx hb dX3_copy_39 (lv_at hl 1 rfl) ?_
          refine x_get (D := (dC, dI)) (ci := 1) (v := .int (bI (hs 0))) (C := RX1) (T := TX1) (N := 4) hx hb hts hinX1 hown hK hP 2 rfl rfl 1 (Nat.le_of_ble_eq_true rfl) hf184 rfl rfl dX3_copy_41 ?_
          refine x_ifb_eq (tgt := 55) hx hb dX3_copy_44 (by decide) (fun c44 => ?_) (fun c44 => ?_)
          · skip
            refine lv_aload_n hx hb dX3_copy_55 rfl (lv_at hl 2 rfl) ?_
            refine lv_iconst (v := nI 1) hx hb dX3_copy_56 rfl ?_
            refine rwW_i (As := [.int (nI 1)]) (rest := []) (wn := (a, .inr (3, [.ref r0, .ref r1, .ref g, .int tr, .int (nI 1)])) :: wSh cS cI r0 qs qr hs la le C) ⟨hx, hb, hml, hown, hts⟩ (kX3_failed l dC dI a r0 r1 g tr (nI 0) 1 _) (cwV 1 hts gX3_copy_X3_failed rfl rfl rfl hdX3_failed ⟨Nat.le_trans (Nat.le_of_ble_eq_true rfl) hRf, Nat.le_trans (Nat.le_of_ble_eq_true rfl) hRl⟩) (va_recv hK hP (ci := 3) (q0 := 0) rfl rfl) (hK.sub [] rfl) rfl hl.1 rfl (Nat.le_of_ble_eq_true rfl) dX3_copy_57 ⟨Nat.zero_le _, Nat.zero_le _⟩ hP hD hS hA [0] [1, 2, 3, 4, 5, 6, 7, 8, 9] [9, 0, 1, 2, 3, 4, 5, 6, 7, 8] rfl rfl (by decide) (by decide) (by decide) rfl rfl (fun H locs hP hS => ?_)
            have hD : va_D Z ((a, .inr (3, [.ref r0, .ref r1, .ref g, .int tr, .int (nI 1)])) :: wSh cS cI r0 qs qr hs la le C) := hD.same rfl
            exact hend _ _ _ _ _ _ (by rw [uCopy, if_pos ⟨c10, c18⟩, hxj, if_neg (fun q => absurd q.1 (by rw [c44]; decide))] <;> rfl) (by rw [show okCopy hs la le (nI 0) i (nI 0) d n = false from by simp [okCopy, hxj, hxjo, c44], fCopy, if_pos ⟨c10, c18⟩, hxj, if_neg (fun q => absurd q.1 (by rw [c44]; decide)), if_neg Bool.false_ne_true] <;> rfl) hP hS dX3_copy_60
          · skip
            refine lv_aload hx hb dX3_copy_47 (lv_at hl 0 rfl) ?_
            refine x_get (D := (dC, dI)) (ci := 1) (v := .int (bI (hs 0))) (C := RX1) (T := TX1) (N := 4) hx hb hts hinX1 hown hK hP 2 rfl rfl 1 (Nat.le_of_ble_eq_true rfl) hf184 rfl rfl dX3_copy_49 ?_
            refine x_ifb_ne (tgt := 61) hx hb dX3_copy_52 (by decide) (fun c52 => ?_) (fun c52 => ?_)
            · skip
              refine lv_aload hx hb dX3_copy_61 (lv_at hl 1 rfl) ?_
              refine x_get (D := (dC, dI)) (ci := 1) (v := .int (nI (la 0))) (C := RX1) (T := TX1) (N := 4) hx hb hts hinX1 hown hK hP 2 rfl rfl 2 (Nat.le_of_ble_eq_true rfl) hf196 rfl rfl dX3_copy_63 ?_
              refine lv_aload hx hb dX3_copy_66 (lv_at hl 0 rfl) ?_
              refine x_get (D := (dC, dI)) (ci := 1) (v := .int (nI (la 0))) (C := RX1) (T := TX1) (N := 4) hx hb hts hinX1 hown hK hP 2 rfl rfl 2 (Nat.le_of_ble_eq_true rfl) hf196 rfl rfl dX3_copy_68 ?_
              refine x_icmp_eq (tgt := 80) hx hb (by omega) (by omega) dX3_copy_71 (by decide) (fun c71 => ?_) (fun c71 => ?_)
              · skip
                refine lv_aload hx hb dX3_copy_80 (lv_at hl 1 rfl) ?_
                refine lv_iload_n hx hb dX3_copy_82 rfl (lv_at hl 4 rfl) ?_
                refine lv_iload hx hb dX3_copy_83 (lv_at hl 7 rfl) ?_
                refine roV_i (As := [.int i, .int n]) (rest := []) ⟨hx, hb, hml, hown, hts⟩ (kX1_hasSpan l dC dI cI (qs 0) (qr 0) (hs 0) (la 0) (le 0) (C 0) i n _ (by omega)) (cwV 2 hts gX3_copy_X1_hasSpan rfl rfl rfl hdX1_hasSpan ⟨Nat.le_trans (Nat.le_of_ble_eq_true rfl) hRf, Nat.le_trans (Nat.le_of_ble_eq_true rfl) hRl⟩) (va_recv hK hP (ci := 1) (q0 := 2) rfl rfl) (hK.sub [0] rfl) (hP.sub [2, 3] rfl) rfl hl.1 rfl (Nat.le_of_ble_eq_true rfl) dX3_copy_85 ⟨Nat.zero_le _, Nat.zero_le _⟩ hP hS hA (fun H locs hP hS => ?_)
                refine x_ifb_eq (tgt := 103) hx hb dX3_copy_88 (by decide) (fun c88 => ?_) (fun c88 => ?_)
                · skip
                  refine lv_aload_n hx hb dX3_copy_103 rfl (lv_at hl 2 rfl) ?_
                  refine lv_iconst (v := nI 3) hx hb dX3_copy_104 rfl ?_
                  refine rwW_i (As := [.int (nI 3)]) (rest := []) (wn := (a, .inr (3, [.ref r0, .ref r1, .ref g, .int tr, .int (nI 3)])) :: wSh cS cI r0 qs qr hs la le C) ⟨hx, hb, hml, hown, hts⟩ (kX3_failed l dC dI a r0 r1 g tr (nI 0) 3 _) (cwV 1 hts gX3_copy_X3_failed rfl rfl rfl hdX3_failed ⟨Nat.le_trans (Nat.le_of_ble_eq_true rfl) hRf, Nat.le_trans (Nat.le_of_ble_eq_true rfl) hRl⟩) (va_recv hK hP (ci := 3) (q0 := 0) rfl rfl) (hK.sub [] rfl) rfl hl.1 rfl (Nat.le_of_ble_eq_true rfl) dX3_copy_105 ⟨Nat.zero_le _, Nat.zero_le _⟩ hP hD hS hA [0] [1, 2, 3, 4, 5, 6, 7, 8, 9] [9, 0, 1, 2, 3, 4, 5, 6, 7, 8] rfl rfl (by decide) (by decide) (by decide) rfl rfl (fun H locs hP hS => ?_)
                  have hD : va_D Z ((a, .inr (3, [.ref r0, .ref r1, .ref g, .int tr, .int (nI 3)])) :: wSh cS cI r0 qs qr hs la le C) := hD.same rfl
                  exact hend _ _ _ _ _ _ (by rw [uCopy, if_pos ⟨c10, c18⟩, hxj, if_pos ⟨c44, c52⟩, if_pos c71, if_neg (fun q => absurd q.1 (by rw [c88]; decide))] <;> rfl) (by rw [show okCopy hs la le (nI 0) i (nI 0) d n = false from by simp [okCopy, hxj, hxjo, c88], fCopy, if_pos ⟨c10, c18⟩, hxj, if_pos ⟨c44, c52⟩, if_pos c71, if_neg (fun q => absurd q.1 (by rw [c88]; decide)), if_neg Bool.false_ne_true] <;> rfl) hP hS dX3_copy_108
                · skip
                  refine lv_aload hx hb dX3_copy_91 (lv_at hl 0 rfl) ?_
                  refine lv_iload hx hb dX3_copy_93 (lv_at hl 6 rfl) ?_
                  refine lv_iload hx hb dX3_copy_95 (lv_at hl 7 rfl) ?_
                  refine roV_i (As := [.int d, .int n]) (rest := []) ⟨hx, hb, hml, hown, hts⟩ (kX1_hasSpan l dC dI cI (qs 0) (qr 0) (hs 0) (la 0) (le 0) (C 0) d n _ (by omega)) (cwV 2 hts gX3_copy_X1_hasSpan rfl rfl rfl hdX1_hasSpan ⟨Nat.le_trans (Nat.le_of_ble_eq_true rfl) hRf, Nat.le_trans (Nat.le_of_ble_eq_true rfl) hRl⟩) (va_recv hK hP (ci := 1) (q0 := 2) rfl rfl) (hK.sub [0] rfl) (hP.sub [2, 3] rfl) rfl hl.1 rfl (Nat.le_of_ble_eq_true rfl) dX3_copy_97 ⟨Nat.zero_le _, Nat.zero_le _⟩ hP hS hA (fun H locs hP hS => ?_)
                  refine x_ifb_ne (tgt := 109) hx hb dX3_copy_100 (by decide) (fun c100 => ?_) (fun c100 => ?_)
                  · skip
                    obtain ⟨ia, na, hia, rfl, rfl⟩ := span_t (le := le 0) (by omega) c88
                    obtain ⟨da, nb, hda, rfl, hnb⟩ := span_t (le := le 0) (by omega) c100
                    have hnn : na = nb := (nI_eq (by omega) (by omega)).mp hnb
                    subst hnn
                    have hxia : xn (nI ia) = ia := xn_nI (by omega)
                    have hxda : xn (nI da) = da := xn_nI (by omega)
                    have hxna : xn (nI na) = na := xn_nI (by omega)
                    refine lv_aload hx hb dX3_copy_109 (lv_at hl 1 rfl) ?_
                    refine x_get (D := (dC, dI)) (ci := 1) (v := .ref (qr 0)) (C := RX1) (T := TX1) (N := 4) hx hb hts hinX1 hown hK hP 2 rfl rfl 0 (Nat.le_of_ble_eq_true rfl) hf193 rfl rfl dX3_copy_111 ?_
                    refine lv_iload_n hx hb dX3_copy_114 rfl (lv_at hl 4 rfl) ?_
                    refine lv_aload hx hb dX3_copy_115 (lv_at hl 0 rfl) ?_
                    refine x_get (D := (dC, dI)) (ci := 1) (v := .ref (qr 0)) (C := RX1) (T := TX1) (N := 4) hx hb hts hinX1 hown hK hP 2 rfl rfl 0 (Nat.le_of_ble_eq_true rfl) hf193 rfl rfl dX3_copy_117 ?_
                    refine lv_iload hx hb dX3_copy_120 (lv_at hl 6 rfl) ?_
                    refine lv_iload hx hb dX3_copy_122 (lv_at hl 7 rfl) ?_
                    refine x_copy (wn := (a, .inr (3, [.ref r0, .ref r1, .ref g, .int tr, .int (nI 0)])) :: wSh cS cI r0 qs qr hs la le (uC C 0 (va_cpy (C 0) (C 0) ia da na))) hx hb (hml.trans hl.1.symm) hown hl199 hnat hsta hiSys hK hP hD hS 3 3 0 rfl rfl rfl (by omega) (by omega) (by decide) (by decide) (Nat.le_trans (Nat.le_of_ble_eq_true rfl) hRf) (Nat.le_trans (Nat.le_of_ble_eq_true rfl) hRl) rfl dX3_copy_124 (fun H locs hP hS => ?_)
                    have hD : va_D Z ((a, .inr (3, [.ref r0, .ref r1, .ref g, .int tr, .int (nI 0)])) :: wSh cS cI r0 qs qr hs la le (uC C 0 (va_cpy (C 0) (C 0) ia da na))) := hD.same rfl
                    refine lv_iload hx hb dX3_copy_127 (lv_at hl 7 rfl) ?_
                    exact hend _ _ _ _ _ _ (by rw [uCopy, if_pos ⟨c10, c18⟩, hxj, if_pos ⟨c44, c52⟩, if_pos c71, if_pos ⟨c88, c100⟩] <;> rfl) (by rw [show okCopy hs la le (nI 0) (nI ia) (nI 0) (nI da) (nI na) = true from by simp [okCopy, hxj, hxjo, c10, c18, c44, c52, c71, c88, c100], fCopy, if_pos ⟨c10, c18⟩, hxj, if_pos ⟨c44, c52⟩, if_pos c71, if_pos ⟨c88, c100⟩, if_pos rfl, hxia, hxda, hxna] <;> rfl) hP hS dX3_copy_129
                  · skip
                    refine lv_aload_n hx hb dX3_copy_103 rfl (lv_at hl 2 rfl) ?_
                    refine lv_iconst (v := nI 3) hx hb dX3_copy_104 rfl ?_
                    refine rwW_i (As := [.int (nI 3)]) (rest := []) (wn := (a, .inr (3, [.ref r0, .ref r1, .ref g, .int tr, .int (nI 3)])) :: wSh cS cI r0 qs qr hs la le C) ⟨hx, hb, hml, hown, hts⟩ (kX3_failed l dC dI a r0 r1 g tr (nI 0) 3 _) (cwV 1 hts gX3_copy_X3_failed rfl rfl rfl hdX3_failed ⟨Nat.le_trans (Nat.le_of_ble_eq_true rfl) hRf, Nat.le_trans (Nat.le_of_ble_eq_true rfl) hRl⟩) (va_recv hK hP (ci := 3) (q0 := 0) rfl rfl) (hK.sub [] rfl) rfl hl.1 rfl (Nat.le_of_ble_eq_true rfl) dX3_copy_105 ⟨Nat.zero_le _, Nat.zero_le _⟩ hP hD hS hA [0] [1, 2, 3, 4, 5, 6, 7, 8, 9] [9, 0, 1, 2, 3, 4, 5, 6, 7, 8] rfl rfl (by decide) (by decide) (by decide) rfl rfl (fun H locs hP hS => ?_)
                    have hD : va_D Z ((a, .inr (3, [.ref r0, .ref r1, .ref g, .int tr, .int (nI 3)])) :: wSh cS cI r0 qs qr hs la le C) := hD.same rfl
                    exact hend _ _ _ _ _ _ (by rw [uCopy, if_pos ⟨c10, c18⟩, hxj, if_pos ⟨c44, c52⟩, if_pos c71, if_neg (fun q => absurd q.2 (by rw [c100]; decide))] <;> rfl) (by rw [show okCopy hs la le (nI 0) i (nI 0) d n = false from by simp [okCopy, hxj, hxjo, c100], fCopy, if_pos ⟨c10, c18⟩, hxj, if_pos ⟨c44, c52⟩, if_pos c71, if_neg (fun q => absurd q.2 (by rw [c100]; decide)), if_neg Bool.false_ne_true] <;> rfl) hP hS dX3_copy_108
              · skip
                exact absurd rfl c71
            · skip
              refine lv_aload_n hx hb dX3_copy_55 rfl (lv_at hl 2 rfl) ?_
              refine lv_iconst (v := nI 1) hx hb dX3_copy_56 rfl ?_
              refine rwW_i (As := [.int (nI 1)]) (rest := []) (wn := (a, .inr (3, [.ref r0, .ref r1, .ref g, .int tr, .int (nI 1)])) :: wSh cS cI r0 qs qr hs la le C) ⟨hx, hb, hml, hown, hts⟩ (kX3_failed l dC dI a r0 r1 g tr (nI 0) 1 _) (cwV 1 hts gX3_copy_X3_failed rfl rfl rfl hdX3_failed ⟨Nat.le_trans (Nat.le_of_ble_eq_true rfl) hRf, Nat.le_trans (Nat.le_of_ble_eq_true rfl) hRl⟩) (va_recv hK hP (ci := 3) (q0 := 0) rfl rfl) (hK.sub [] rfl) rfl hl.1 rfl (Nat.le_of_ble_eq_true rfl) dX3_copy_57 ⟨Nat.zero_le _, Nat.zero_le _⟩ hP hD hS hA [0] [1, 2, 3, 4, 5, 6, 7, 8, 9] [9, 0, 1, 2, 3, 4, 5, 6, 7, 8] rfl rfl (by decide) (by decide) (by decide) rfl rfl (fun H locs hP hS => ?_)
              have hD : va_D Z ((a, .inr (3, [.ref r0, .ref r1, .ref g, .int tr, .int (nI 1)])) :: wSh cS cI r0 qs qr hs la le C) := hD.same rfl
              exact hend _ _ _ _ _ _ (by rw [uCopy, if_pos ⟨c10, c18⟩, hxj, if_neg (fun q => absurd q.2 (by rw [c52]; decide))] <;> rfl) (by rw [show okCopy hs la le (nI 0) i (nI 0) d n = false from by simp [okCopy, hxj, hxjo, c52], fCopy, if_pos ⟨c10, c18⟩, hxj, if_neg (fun q => absurd q.2 (by rw [c52]; decide)), if_neg Bool.false_ne_true] <;> rfl) hP hS dX3_copy_60
        · skip
          refine x_aald (v := qs 1) hx hb hK hP 1 1 rfl rfl (by decide) (by decide) rfl dX3_copy_36 ?_
          refine lv_astore (lv' := [(7, .ref (qs 1)), (6, .ref (qs 0)), (0, .ref a), (1, .int (nI 0)), (2, .int i), (3, .int (nI 1)), (4, .int d), (5, .int n)]) hx hb dX3_copy_37 hl (by decide) rfl (fun ls hl => ?_)
          refine lv_aload hx hb dX3_copy_39 (lv_at hl 1 rfl) ?_
          refine x_get (D := (dC, dI)) (ci := 1) (v := .int (bI (hs 0))) (C := RX1) (T := TX1) (N := 4) hx hb hts hinX1 hown hK hP 2 rfl rfl 1 (Nat.le_of_ble_eq_true rfl) hf184 rfl rfl dX3_copy_41 ?_
          refine x_ifb_eq (tgt := 55) hx hb dX3_copy_44 (by decide) (fun c44 => ?_) (fun c44 => ?_)
          · skip
            refine lv_aload_n hx hb dX3_copy_55 rfl (lv_at hl 2 rfl) ?_
            refine lv_iconst (v := nI 1) hx hb dX3_copy_56 rfl ?_
            refine rwW_i (As := [.int (nI 1)]) (rest := []) (wn := (a, .inr (3, [.ref r0, .ref r1, .ref g, .int tr, .int (nI 1)])) :: wSh cS cI r0 qs qr hs la le C) ⟨hx, hb, hml, hown, hts⟩ (kX3_failed l dC dI a r0 r1 g tr (nI 0) 1 _) (cwV 1 hts gX3_copy_X3_failed rfl rfl rfl hdX3_failed ⟨Nat.le_trans (Nat.le_of_ble_eq_true rfl) hRf, Nat.le_trans (Nat.le_of_ble_eq_true rfl) hRl⟩) (va_recv hK hP (ci := 3) (q0 := 0) rfl rfl) (hK.sub [] rfl) rfl hl.1 rfl (Nat.le_of_ble_eq_true rfl) dX3_copy_57 ⟨Nat.zero_le _, Nat.zero_le _⟩ hP hD hS hA [0] [1, 2, 3, 4, 5, 6, 7, 8, 9] [9, 0, 1, 2, 3, 4, 5, 6, 7, 8] rfl rfl (by decide) (by decide) (by decide) rfl rfl (fun H locs hP hS => ?_)
            have hD : va_D Z ((a, .inr (3, [.ref r0, .ref r1, .ref g, .int tr, .int (nI 1)])) :: wSh cS cI r0 qs qr hs la le C) := hD.same rfl
            exact hend _ _ _ _ _ _ (by rw [uCopy, if_pos ⟨c10, c18⟩, hxj, hxjo, if_neg (fun q => absurd q.1 (by rw [c44]; decide))] <;> rfl) (by rw [show okCopy hs la le (nI 0) i (nI 1) d n = false from by simp [okCopy, hxj, hxjo, c44], fCopy, if_pos ⟨c10, c18⟩, hxj, hxjo, if_neg (fun q => absurd q.1 (by rw [c44]; decide)), if_neg Bool.false_ne_true] <;> rfl) hP hS dX3_copy_60
          · skip
            refine lv_aload hx hb dX3_copy_47 (lv_at hl 0 rfl) ?_
            refine x_get (D := (dC, dI)) (ci := 1) (v := .int (bI (hs 1))) (C := RX1) (T := TX1) (N := 4) hx hb hts hinX1 hown hK hP 4 rfl rfl 1 (Nat.le_of_ble_eq_true rfl) hf184 rfl rfl dX3_copy_49 ?_
            refine x_ifb_ne (tgt := 61) hx hb dX3_copy_52 (by decide) (fun c52 => ?_) (fun c52 => ?_)
            · skip
              refine lv_aload hx hb dX3_copy_61 (lv_at hl 1 rfl) ?_
              refine x_get (D := (dC, dI)) (ci := 1) (v := .int (nI (la 0))) (C := RX1) (T := TX1) (N := 4) hx hb hts hinX1 hown hK hP 2 rfl rfl 2 (Nat.le_of_ble_eq_true rfl) hf196 rfl rfl dX3_copy_63 ?_
              refine lv_aload hx hb dX3_copy_66 (lv_at hl 0 rfl) ?_
              refine x_get (D := (dC, dI)) (ci := 1) (v := .int (nI (la 1))) (C := RX1) (T := TX1) (N := 4) hx hb hts hinX1 hown hK hP 4 rfl rfl 2 (Nat.le_of_ble_eq_true rfl) hf196 rfl rfl dX3_copy_68 ?_
              refine x_icmp_eq (tgt := 80) hx hb (by omega) (by omega) dX3_copy_71 (by decide) (fun c71 => ?_) (fun c71 => ?_)
              · skip
                refine lv_aload hx hb dX3_copy_80 (lv_at hl 1 rfl) ?_
                refine lv_iload_n hx hb dX3_copy_82 rfl (lv_at hl 4 rfl) ?_
                refine lv_iload hx hb dX3_copy_83 (lv_at hl 7 rfl) ?_
                refine roV_i (As := [.int i, .int n]) (rest := []) ⟨hx, hb, hml, hown, hts⟩ (kX1_hasSpan l dC dI cI (qs 0) (qr 0) (hs 0) (la 0) (le 0) (C 0) i n _ (by omega)) (cwV 2 hts gX3_copy_X1_hasSpan rfl rfl rfl hdX1_hasSpan ⟨Nat.le_trans (Nat.le_of_ble_eq_true rfl) hRf, Nat.le_trans (Nat.le_of_ble_eq_true rfl) hRl⟩) (va_recv hK hP (ci := 1) (q0 := 2) rfl rfl) (hK.sub [0] rfl) (hP.sub [2, 3] rfl) rfl hl.1 rfl (Nat.le_of_ble_eq_true rfl) dX3_copy_85 ⟨Nat.zero_le _, Nat.zero_le _⟩ hP hS hA (fun H locs hP hS => ?_)
                refine x_ifb_eq (tgt := 103) hx hb dX3_copy_88 (by decide) (fun c88 => ?_) (fun c88 => ?_)
                · skip
                  refine lv_aload_n hx hb dX3_copy_103 rfl (lv_at hl 2 rfl) ?_
                  refine lv_iconst (v := nI 3) hx hb dX3_copy_104 rfl ?_
                  refine rwW_i (As := [.int (nI 3)]) (rest := []) (wn := (a, .inr (3, [.ref r0, .ref r1, .ref g, .int tr, .int (nI 3)])) :: wSh cS cI r0 qs qr hs la le C) ⟨hx, hb, hml, hown, hts⟩ (kX3_failed l dC dI a r0 r1 g tr (nI 0) 3 _) (cwV 1 hts gX3_copy_X3_failed rfl rfl rfl hdX3_failed ⟨Nat.le_trans (Nat.le_of_ble_eq_true rfl) hRf, Nat.le_trans (Nat.le_of_ble_eq_true rfl) hRl⟩) (va_recv hK hP (ci := 3) (q0 := 0) rfl rfl) (hK.sub [] rfl) rfl hl.1 rfl (Nat.le_of_ble_eq_true rfl) dX3_copy_105 ⟨Nat.zero_le _, Nat.zero_le _⟩ hP hD hS hA [0] [1, 2, 3, 4, 5, 6, 7, 8, 9] [9, 0, 1, 2, 3, 4, 5, 6, 7, 8] rfl rfl (by decide) (by decide) (by decide) rfl rfl (fun H locs hP hS => ?_)
                  have hD : va_D Z ((a, .inr (3, [.ref r0, .ref r1, .ref g, .int tr, .int (nI 3)])) :: wSh cS cI r0 qs qr hs la le C) := hD.same rfl
                  exact hend _ _ _ _ _ _ (by rw [uCopy, if_pos ⟨c10, c18⟩, hxj, hxjo, if_pos ⟨c44, c52⟩, if_pos c71, if_neg (fun q => absurd q.1 (by rw [c88]; decide))] <;> rfl) (by rw [show okCopy hs la le (nI 0) i (nI 1) d n = false from by simp [okCopy, hxj, hxjo, c88], fCopy, if_pos ⟨c10, c18⟩, hxj, hxjo, if_pos ⟨c44, c52⟩, if_pos c71, if_neg (fun q => absurd q.1 (by rw [c88]; decide)), if_neg Bool.false_ne_true] <;> rfl) hP hS dX3_copy_108
                · skip
                  refine lv_aload hx hb dX3_copy_91 (lv_at hl 0 rfl) ?_
                  refine lv_iload hx hb dX3_copy_93 (lv_at hl 6 rfl) ?_
                  refine lv_iload hx hb dX3_copy_95 (lv_at hl 7 rfl) ?_
                  refine roV_i (As := [.int d, .int n]) (rest := []) ⟨hx, hb, hml, hown, hts⟩ (kX1_hasSpan l dC dI cI (qs 1) (qr 1) (hs 1) (la 1) (le 1) (C 1) d n _ (by omega)) (cwV 2 hts gX3_copy_X1_hasSpan rfl rfl rfl hdX1_hasSpan ⟨Nat.le_trans (Nat.le_of_ble_eq_true rfl) hRf, Nat.le_trans (Nat.le_of_ble_eq_true rfl) hRl⟩) (va_recv hK hP (ci := 1) (q0 := 4) rfl rfl) (hK.sub [0] rfl) (hP.sub [4, 5] rfl) rfl hl.1 rfl (Nat.le_of_ble_eq_true rfl) dX3_copy_97 ⟨Nat.zero_le _, Nat.zero_le _⟩ hP hS hA (fun H locs hP hS => ?_)
                  refine x_ifb_ne (tgt := 109) hx hb dX3_copy_100 (by decide) (fun c100 => ?_) (fun c100 => ?_)
                  · skip
                    obtain ⟨ia, na, hia, rfl, rfl⟩ := span_t (le := le 0) (by omega) c88
                    obtain ⟨da, nb, hda, rfl, hnb⟩ := span_t (le := le 1) (by omega) c100
                    have hnn : na = nb := (nI_eq (by omega) (by omega)).mp hnb
                    subst hnn
                    have hxia : xn (nI ia) = ia := xn_nI (by omega)
                    have hxda : xn (nI da) = da := xn_nI (by omega)
                    have hxna : xn (nI na) = na := xn_nI (by omega)
                    refine lv_aload hx hb dX3_copy_109 (lv_at hl 1 rfl) ?_
                    refine x_get (D := (dC, dI)) (ci := 1) (v := .ref (qr 0)) (C := RX1) (T := TX1) (N := 4) hx hb hts hinX1 hown hK hP 2 rfl rfl 0 (Nat.le_of_ble_eq_true rfl) hf193 rfl rfl dX3_copy_111 ?_
                    refine lv_iload_n hx hb dX3_copy_114 rfl (lv_at hl 4 rfl) ?_
                    refine lv_aload hx hb dX3_copy_115 (lv_at hl 0 rfl) ?_
                    refine x_get (D := (dC, dI)) (ci := 1) (v := .ref (qr 1)) (C := RX1) (T := TX1) (N := 4) hx hb hts hinX1 hown hK hP 4 rfl rfl 0 (Nat.le_of_ble_eq_true rfl) hf193 rfl rfl dX3_copy_117 ?_
                    refine lv_iload hx hb dX3_copy_120 (lv_at hl 6 rfl) ?_
                    refine lv_iload hx hb dX3_copy_122 (lv_at hl 7 rfl) ?_
                    refine x_copy (wn := (a, .inr (3, [.ref r0, .ref r1, .ref g, .int tr, .int (nI 0)])) :: wSh cS cI r0 qs qr hs la le (uC C 1 (va_cpy (C 0) (C 1) ia da na))) hx hb (hml.trans hl.1.symm) hown hl199 hnat hsta hiSys hK hP hD hS 3 5 0 rfl rfl rfl (by omega) (by omega) (by decide) (by decide) (Nat.le_trans (Nat.le_of_ble_eq_true rfl) hRf) (Nat.le_trans (Nat.le_of_ble_eq_true rfl) hRl) rfl dX3_copy_124 (fun H locs hP hS => ?_)
                    have hD : va_D Z ((a, .inr (3, [.ref r0, .ref r1, .ref g, .int tr, .int (nI 0)])) :: wSh cS cI r0 qs qr hs la le (uC C 1 (va_cpy (C 0) (C 1) ia da na))) := hD.same rfl
                    refine lv_iload hx hb dX3_copy_127 (lv_at hl 7 rfl) ?_
                    exact hend _ _ _ _ _ _ (by rw [uCopy, if_pos ⟨c10, c18⟩, hxj, hxjo, if_pos ⟨c44, c52⟩, if_pos c71, if_pos ⟨c88, c100⟩] <;> rfl) (by rw [show okCopy hs la le (nI 0) (nI ia) (nI 1) (nI da) (nI na) = true from by simp [okCopy, hxj, hxjo, c10, c18, c44, c52, c71, c88, c100], fCopy, if_pos ⟨c10, c18⟩, hxj, hxjo, if_pos ⟨c44, c52⟩, if_pos c71, if_pos ⟨c88, c100⟩, if_pos rfl, hxia, hxda, hxna] <;> rfl) hP hS dX3_copy_129
                  · skip
                    refine lv_aload_n hx hb dX3_copy_103 rfl (lv_at hl 2 rfl) ?_
                    refine lv_iconst (v := nI 3) hx hb dX3_copy_104 rfl ?_
                    refine rwW_i (As := [.int (nI 3)]) (rest := []) (wn := (a, .inr (3, [.ref r0, .ref r1, .ref g, .int tr, .int (nI 3)])) :: wSh cS cI r0 qs qr hs la le C) ⟨hx, hb, hml, hown, hts⟩ (kX3_failed l dC dI a r0 r1 g tr (nI 0) 3 _) (cwV 1 hts gX3_copy_X3_failed rfl rfl rfl hdX3_failed ⟨Nat.le_trans (Nat.le_of_ble_eq_true rfl) hRf, Nat.le_trans (Nat.le_of_ble_eq_true rfl) hRl⟩) (va_recv hK hP (ci := 3) (q0 := 0) rfl rfl) (hK.sub [] rfl) rfl hl.1 rfl (Nat.le_of_ble_eq_true rfl) dX3_copy_105 ⟨Nat.zero_le _, Nat.zero_le _⟩ hP hD hS hA [0] [1, 2, 3, 4, 5, 6, 7, 8, 9] [9, 0, 1, 2, 3, 4, 5, 6, 7, 8] rfl rfl (by decide) (by decide) (by decide) rfl rfl (fun H locs hP hS => ?_)
                    have hD : va_D Z ((a, .inr (3, [.ref r0, .ref r1, .ref g, .int tr, .int (nI 3)])) :: wSh cS cI r0 qs qr hs la le C) := hD.same rfl
                    exact hend _ _ _ _ _ _ (by rw [uCopy, if_pos ⟨c10, c18⟩, hxj, hxjo, if_pos ⟨c44, c52⟩, if_pos c71, if_neg (fun q => absurd q.2 (by rw [c100]; decide))] <;> rfl) (by rw [show okCopy hs la le (nI 0) i (nI 1) d n = false from by simp [okCopy, hxj, hxjo, c100], fCopy, if_pos ⟨c10, c18⟩, hxj, hxjo, if_pos ⟨c44, c52⟩, if_pos c71, if_neg (fun q => absurd q.2 (by rw [c100]; decide)), if_neg Bool.false_ne_true] <;> rfl) hP hS dX3_copy_108
              · skip
                refine lv_aload_n hx hb dX3_copy_74 rfl (lv_at hl 2 rfl) ?_
                refine lv_iconst (v := nI 2) hx hb dX3_copy_75 rfl ?_
                refine rwW_i (As := [.int (nI 2)]) (rest := []) (wn := (a, .inr (3, [.ref r0, .ref r1, .ref g, .int tr, .int (nI 2)])) :: wSh cS cI r0 qs qr hs la le C) ⟨hx, hb, hml, hown, hts⟩ (kX3_failed l dC dI a r0 r1 g tr (nI 0) 2 _) (cwV 1 hts gX3_copy_X3_failed rfl rfl rfl hdX3_failed ⟨Nat.le_trans (Nat.le_of_ble_eq_true rfl) hRf, Nat.le_trans (Nat.le_of_ble_eq_true rfl) hRl⟩) (va_recv hK hP (ci := 3) (q0 := 0) rfl rfl) (hK.sub [] rfl) rfl hl.1 rfl (Nat.le_of_ble_eq_true rfl) dX3_copy_76 ⟨Nat.zero_le _, Nat.zero_le _⟩ hP hD hS hA [0] [1, 2, 3, 4, 5, 6, 7, 8, 9] [9, 0, 1, 2, 3, 4, 5, 6, 7, 8] rfl rfl (by decide) (by decide) (by decide) rfl rfl (fun H locs hP hS => ?_)
                have hD : va_D Z ((a, .inr (3, [.ref r0, .ref r1, .ref g, .int tr, .int (nI 2)])) :: wSh cS cI r0 qs qr hs la le C) := hD.same rfl
                exact hend _ _ _ _ _ _ (by rw [uCopy, if_pos ⟨c10, c18⟩, hxj, hxjo, if_pos ⟨c44, c52⟩, if_neg c71] <;> rfl) (by rw [show okCopy hs la le (nI 0) i (nI 1) d n = false from by simp [okCopy, hxj, hxjo, c71], fCopy, if_pos ⟨c10, c18⟩, hxj, hxjo, if_pos ⟨c44, c52⟩, if_neg c71, if_neg Bool.false_ne_true] <;> rfl) hP hS dX3_copy_79
            · skip
              refine lv_aload_n hx hb dX3_copy_55 rfl (lv_at hl 2 rfl) ?_
              refine lv_iconst (v := nI 1) hx hb dX3_copy_56 rfl ?_
              refine rwW_i (As := [.int (nI 1)]) (rest := []) (wn := (a, .inr (3, [.ref r0, .ref r1, .ref g, .int tr, .int (nI 1)])) :: wSh cS cI r0 qs qr hs la le C) ⟨hx, hb, hml, hown, hts⟩ (kX3_failed l dC dI a r0 r1 g tr (nI 0) 1 _) (cwV 1 hts gX3_copy_X3_failed rfl rfl rfl hdX3_failed ⟨Nat.le_trans (Nat.le_of_ble_eq_true rfl) hRf, Nat.le_trans (Nat.le_of_ble_eq_true rfl) hRl⟩) (va_recv hK hP (ci := 3) (q0 := 0) rfl rfl) (hK.sub [] rfl) rfl hl.1 rfl (Nat.le_of_ble_eq_true rfl) dX3_copy_57 ⟨Nat.zero_le _, Nat.zero_le _⟩ hP hD hS hA [0] [1, 2, 3, 4, 5, 6, 7, 8, 9] [9, 0, 1, 2, 3, 4, 5, 6, 7, 8] rfl rfl (by decide) (by decide) (by decide) rfl rfl (fun H locs hP hS => ?_)
              have hD : va_D Z ((a, .inr (3, [.ref r0, .ref r1, .ref g, .int tr, .int (nI 1)])) :: wSh cS cI r0 qs qr hs la le C) := hD.same rfl
              exact hend _ _ _ _ _ _ (by rw [uCopy, if_pos ⟨c10, c18⟩, hxj, hxjo, if_neg (fun q => absurd q.2 (by rw [c52]; decide))] <;> rfl) (by rw [show okCopy hs la le (nI 0) i (nI 1) d n = false from by simp [okCopy, hxj, hxjo, c52], fCopy, if_pos ⟨c10, c18⟩, hxj, hxjo, if_neg (fun q => absurd q.2 (by rw [c52]; decide)), if_neg Bool.false_ne_true] <;> rfl) hP hS dX3_copy_60
        · skip
          refine x_aald (v := qs 2) hx hb hK hP 1 1 rfl rfl (by decide) (by decide) rfl dX3_copy_36 ?_
          refine lv_astore (lv' := [(7, .ref (qs 2)), (6, .ref (qs 0)), (0, .ref a), (1, .int (nI 0)), (2, .int i), (3, .int (nI 2)), (4, .int d), (5, .int n)]) hx hb dX3_copy_37 hl (by decide) rfl (fun ls hl => ?_)
          refine lv_aload hx hb dX3_copy_39 (lv_at hl 1 rfl) ?_
          refine x_get (D := (dC, dI)) (ci := 1) (v := .int (bI (hs 0))) (C := RX1) (T := TX1) (N := 4) hx hb hts hinX1 hown hK hP 2 rfl rfl 1 (Nat.le_of_ble_eq_true rfl) hf184 rfl rfl dX3_copy_41 ?_
          refine x_ifb_eq (tgt := 55) hx hb dX3_copy_44 (by decide) (fun c44 => ?_) (fun c44 => ?_)
          · skip
            refine lv_aload_n hx hb dX3_copy_55 rfl (lv_at hl 2 rfl) ?_
            refine lv_iconst (v := nI 1) hx hb dX3_copy_56 rfl ?_
            refine rwW_i (As := [.int (nI 1)]) (rest := []) (wn := (a, .inr (3, [.ref r0, .ref r1, .ref g, .int tr, .int (nI 1)])) :: wSh cS cI r0 qs qr hs la le C) ⟨hx, hb, hml, hown, hts⟩ (kX3_failed l dC dI a r0 r1 g tr (nI 0) 1 _) (cwV 1 hts gX3_copy_X3_failed rfl rfl rfl hdX3_failed ⟨Nat.le_trans (Nat.le_of_ble_eq_true rfl) hRf, Nat.le_trans (Nat.le_of_ble_eq_true rfl) hRl⟩) (va_recv hK hP (ci := 3) (q0 := 0) rfl rfl) (hK.sub [] rfl) rfl hl.1 rfl (Nat.le_of_ble_eq_true rfl) dX3_copy_57 ⟨Nat.zero_le _, Nat.zero_le _⟩ hP hD hS hA [0] [1, 2, 3, 4, 5, 6, 7, 8, 9] [9, 0, 1, 2, 3, 4, 5, 6, 7, 8] rfl rfl (by decide) (by decide) (by decide) rfl rfl (fun H locs hP hS => ?_)
            have hD : va_D Z ((a, .inr (3, [.ref r0, .ref r1, .ref g, .int tr, .int (nI 1)])) :: wSh cS cI r0 qs qr hs la le C) := hD.same rfl
            exact hend _ _ _ _ _ _ (by rw [uCopy, if_pos ⟨c10, c18⟩, hxj, hxjo, if_neg (fun q => absurd q.1 (by rw [c44]; decide))] <;> rfl) (by rw [show okCopy hs la le (nI 0) i (nI 2) d n = false from by simp [okCopy, hxj, hxjo, c44], fCopy, if_pos ⟨c10, c18⟩, hxj, hxjo, if_neg (fun q => absurd q.1 (by rw [c44]; decide)), if_neg Bool.false_ne_true] <;> rfl) hP hS dX3_copy_60
          · skip
            refine lv_aload hx hb dX3_copy_47 (lv_at hl 0 rfl) ?_
            refine x_get (D := (dC, dI)) (ci := 1) (v := .int (bI (hs 2))) (C := RX1) (T := TX1) (N := 4) hx hb hts hinX1 hown hK hP 6 rfl rfl 1 (Nat.le_of_ble_eq_true rfl) hf184 rfl rfl dX3_copy_49 ?_
            refine x_ifb_ne (tgt := 61) hx hb dX3_copy_52 (by decide) (fun c52 => ?_) (fun c52 => ?_)
            · skip
              refine lv_aload hx hb dX3_copy_61 (lv_at hl 1 rfl) ?_
              refine x_get (D := (dC, dI)) (ci := 1) (v := .int (nI (la 0))) (C := RX1) (T := TX1) (N := 4) hx hb hts hinX1 hown hK hP 2 rfl rfl 2 (Nat.le_of_ble_eq_true rfl) hf196 rfl rfl dX3_copy_63 ?_
              refine lv_aload hx hb dX3_copy_66 (lv_at hl 0 rfl) ?_
              refine x_get (D := (dC, dI)) (ci := 1) (v := .int (nI (la 2))) (C := RX1) (T := TX1) (N := 4) hx hb hts hinX1 hown hK hP 6 rfl rfl 2 (Nat.le_of_ble_eq_true rfl) hf196 rfl rfl dX3_copy_68 ?_
              refine x_icmp_eq (tgt := 80) hx hb (by omega) (by omega) dX3_copy_71 (by decide) (fun c71 => ?_) (fun c71 => ?_)
              · skip
                refine lv_aload hx hb dX3_copy_80 (lv_at hl 1 rfl) ?_
                refine lv_iload_n hx hb dX3_copy_82 rfl (lv_at hl 4 rfl) ?_
                refine lv_iload hx hb dX3_copy_83 (lv_at hl 7 rfl) ?_
                refine roV_i (As := [.int i, .int n]) (rest := []) ⟨hx, hb, hml, hown, hts⟩ (kX1_hasSpan l dC dI cI (qs 0) (qr 0) (hs 0) (la 0) (le 0) (C 0) i n _ (by omega)) (cwV 2 hts gX3_copy_X1_hasSpan rfl rfl rfl hdX1_hasSpan ⟨Nat.le_trans (Nat.le_of_ble_eq_true rfl) hRf, Nat.le_trans (Nat.le_of_ble_eq_true rfl) hRl⟩) (va_recv hK hP (ci := 1) (q0 := 2) rfl rfl) (hK.sub [0] rfl) (hP.sub [2, 3] rfl) rfl hl.1 rfl (Nat.le_of_ble_eq_true rfl) dX3_copy_85 ⟨Nat.zero_le _, Nat.zero_le _⟩ hP hS hA (fun H locs hP hS => ?_)
                refine x_ifb_eq (tgt := 103) hx hb dX3_copy_88 (by decide) (fun c88 => ?_) (fun c88 => ?_)
                · skip
                  refine lv_aload_n hx hb dX3_copy_103 rfl (lv_at hl 2 rfl) ?_
                  refine lv_iconst (v := nI 3) hx hb dX3_copy_104 rfl ?_
                  refine rwW_i (As := [.int (nI 3)]) (rest := []) (wn := (a, .inr (3, [.ref r0, .ref r1, .ref g, .int tr, .int (nI 3)])) :: wSh cS cI r0 qs qr hs la le C) ⟨hx, hb, hml, hown, hts⟩ (kX3_failed l dC dI a r0 r1 g tr (nI 0) 3 _) (cwV 1 hts gX3_copy_X3_failed rfl rfl rfl hdX3_failed ⟨Nat.le_trans (Nat.le_of_ble_eq_true rfl) hRf, Nat.le_trans (Nat.le_of_ble_eq_true rfl) hRl⟩) (va_recv hK hP (ci := 3) (q0 := 0) rfl rfl) (hK.sub [] rfl) rfl hl.1 rfl (Nat.le_of_ble_eq_true rfl) dX3_copy_105 ⟨Nat.zero_le _, Nat.zero_le _⟩ hP hD hS hA [0] [1, 2, 3, 4, 5, 6, 7, 8, 9] [9, 0, 1, 2, 3, 4, 5, 6, 7, 8] rfl rfl (by decide) (by decide) (by decide) rfl rfl (fun H locs hP hS => ?_)
                  have hD : va_D Z ((a, .inr (3, [.ref r0, .ref r1, .ref g, .int tr, .int (nI 3)])) :: wSh cS cI r0 qs qr hs la le C) := hD.same rfl
                  exact hend _ _ _ _ _ _ (by rw [uCopy, if_pos ⟨c10, c18⟩, hxj, hxjo, if_pos ⟨c44, c52⟩, if_pos c71, if_neg (fun q => absurd q.1 (by rw [c88]; decide))] <;> rfl) (by rw [show okCopy hs la le (nI 0) i (nI 2) d n = false from by simp [okCopy, hxj, hxjo, c88], fCopy, if_pos ⟨c10, c18⟩, hxj, hxjo, if_pos ⟨c44, c52⟩, if_pos c71, if_neg (fun q => absurd q.1 (by rw [c88]; decide)), if_neg Bool.false_ne_true] <;> rfl) hP hS dX3_copy_108
                · skip
                  refine lv_aload hx hb dX3_copy_91 (lv_at hl 0 rfl) ?_
                  refine lv_iload hx hb dX3_copy_93 (lv_at hl 6 rfl) ?_
                  refine lv_iload hx hb dX3_copy_95 (lv_at hl 7 rfl) ?_
                  refine roV_i (As := [.int d, .int n]) (rest := []) ⟨hx, hb, hml, hown, hts⟩ (kX1_hasSpan l dC dI cI (qs 2) (qr 2) (hs 2) (la 2) (le 2) (C 2) d n _ (by omega)) (cwV 2 hts gX3_copy_X1_hasSpan rfl rfl rfl hdX1_hasSpan ⟨Nat.le_trans (Nat.le_of_ble_eq_true rfl) hRf, Nat.le_trans (Nat.le_of_ble_eq_true rfl) hRl⟩) (va_recv hK hP (ci := 1) (q0 := 6) rfl rfl) (hK.sub [0] rfl) (hP.sub [6, 7] rfl) rfl hl.1 rfl (Nat.le_of_ble_eq_true rfl) dX3_copy_97 ⟨Nat.zero_le _, Nat.zero_le _⟩ hP hS hA (fun H locs hP hS => ?_)
                  refine x_ifb_ne (tgt := 109) hx hb dX3_copy_100 (by decide) (fun c100 => ?_) (fun c100 => ?_)
                  · skip
                    obtain ⟨ia, na, hia, rfl, rfl⟩ := span_t (le := le 0) (by omega) c88
                    obtain ⟨da, nb, hda, rfl, hnb⟩ := span_t (le := le 2) (by omega) c100
                    have hnn : na = nb := (nI_eq (by omega) (by omega)).mp hnb
                    subst hnn
                    have hxia : xn (nI ia) = ia := xn_nI (by omega)
                    have hxda : xn (nI da) = da := xn_nI (by omega)
                    have hxna : xn (nI na) = na := xn_nI (by omega)
                    refine lv_aload hx hb dX3_copy_109 (lv_at hl 1 rfl) ?_
                    refine x_get (D := (dC, dI)) (ci := 1) (v := .ref (qr 0)) (C := RX1) (T := TX1) (N := 4) hx hb hts hinX1 hown hK hP 2 rfl rfl 0 (Nat.le_of_ble_eq_true rfl) hf193 rfl rfl dX3_copy_111 ?_
                    refine lv_iload_n hx hb dX3_copy_114 rfl (lv_at hl 4 rfl) ?_
                    refine lv_aload hx hb dX3_copy_115 (lv_at hl 0 rfl) ?_
                    refine x_get (D := (dC, dI)) (ci := 1) (v := .ref (qr 2)) (C := RX1) (T := TX1) (N := 4) hx hb hts hinX1 hown hK hP 6 rfl rfl 0 (Nat.le_of_ble_eq_true rfl) hf193 rfl rfl dX3_copy_117 ?_
                    refine lv_iload hx hb dX3_copy_120 (lv_at hl 6 rfl) ?_
                    refine lv_iload hx hb dX3_copy_122 (lv_at hl 7 rfl) ?_
                    refine x_copy (wn := (a, .inr (3, [.ref r0, .ref r1, .ref g, .int tr, .int (nI 0)])) :: wSh cS cI r0 qs qr hs la le (uC C 2 (va_cpy (C 0) (C 2) ia da na))) hx hb (hml.trans hl.1.symm) hown hl199 hnat hsta hiSys hK hP hD hS 3 7 0 rfl rfl rfl (by omega) (by omega) (by decide) (by decide) (Nat.le_trans (Nat.le_of_ble_eq_true rfl) hRf) (Nat.le_trans (Nat.le_of_ble_eq_true rfl) hRl) rfl dX3_copy_124 (fun H locs hP hS => ?_)
                    have hD : va_D Z ((a, .inr (3, [.ref r0, .ref r1, .ref g, .int tr, .int (nI 0)])) :: wSh cS cI r0 qs qr hs la le (uC C 2 (va_cpy (C 0) (C 2) ia da na))) := hD.same rfl
                    refine lv_iload hx hb dX3_copy_127 (lv_at hl 7 rfl) ?_
                    exact hend _ _ _ _ _ _ (by rw [uCopy, if_pos ⟨c10, c18⟩, hxj, hxjo, if_pos ⟨c44, c52⟩, if_pos c71, if_pos ⟨c88, c100⟩] <;> rfl) (by rw [show okCopy hs la le (nI 0) (nI ia) (nI 2) (nI da) (nI na) = true from by simp [okCopy, hxj, hxjo, c10, c18, c44, c52, c71, c88, c100], fCopy, if_pos ⟨c10, c18⟩, hxj, hxjo, if_pos ⟨c44, c52⟩, if_pos c71, if_pos ⟨c88, c100⟩, if_pos rfl, hxia, hxda, hxna] <;> rfl) hP hS dX3_copy_129
                  · skip
                    refine lv_aload_n hx hb dX3_copy_103 rfl (lv_at hl 2 rfl) ?_
                    refine lv_iconst (v := nI 3) hx hb dX3_copy_104 rfl ?_
                    refine rwW_i (As := [.int (nI 3)]) (rest := []) (wn := (a, .inr (3, [.ref r0, .ref r1, .ref g, .int tr, .int (nI 3)])) :: wSh cS cI r0 qs qr hs la le C) ⟨hx, hb, hml, hown, hts⟩ (kX3_failed l dC dI a r0 r1 g tr (nI 0) 3 _) (cwV 1 hts gX3_copy_X3_failed rfl rfl rfl hdX3_failed ⟨Nat.le_trans (Nat.le_of_ble_eq_true rfl) hRf, Nat.le_trans (Nat.le_of_ble_eq_true rfl) hRl⟩) (va_recv hK hP (ci := 3) (q0 := 0) rfl rfl) (hK.sub [] rfl) rfl hl.1 rfl (Nat.le_of_ble_eq_true rfl) dX3_copy_105 ⟨Nat.zero_le _, Nat.zero_le _⟩ hP hD hS hA [0] [1, 2, 3, 4, 5, 6, 7, 8, 9] [9, 0, 1, 2, 3, 4, 5, 6, 7, 8] rfl rfl (by decide) (by decide) (by decide) rfl rfl (fun H locs hP hS => ?_)
                    have hD : va_D Z ((a, .inr (3, [.ref r0, .ref r1, .ref g, .int tr, .int (nI 3)])) :: wSh cS cI r0 qs qr hs la le C) := hD.same rfl
                    exact hend _ _ _ _ _ _ (by rw [uCopy, if_pos ⟨c10, c18⟩, hxj, hxjo, if_pos ⟨c44, c52⟩, if_pos c71, if_neg (fun q => absurd q.2 (by rw [c100]; decide))] <;> rfl) (by rw [show okCopy hs la le (nI 0) i (nI 2) d n = false from by simp [okCopy, hxj, hxjo, c100], fCopy, if_pos ⟨c10, c18⟩, hxj, hxjo, if_pos ⟨c44, c52⟩, if_pos c71, if_neg (fun q => absurd q.2 (by rw [c100]; decide)), if_neg Bool.false_ne_true] <;> rfl) hP hS dX3_copy_108
              · skip
                refine lv_aload_n hx hb dX3_copy_74 rfl (lv_at hl 2 rfl) ?_
                refine lv_iconst (v := nI 2) hx hb dX3_copy_75 rfl ?_
                refine rwW_i (As := [.int (nI 2)]) (rest := []) (wn := (a, .inr (3, [.ref r0, .ref r1, .ref g, .int tr, .int (nI 2)])) :: wSh cS cI r0 qs qr hs la le C) ⟨hx, hb, hml, hown, hts⟩ (kX3_failed l dC dI a r0 r1 g tr (nI 0) 2 _) (cwV 1 hts gX3_copy_X3_failed rfl rfl rfl hdX3_failed ⟨Nat.le_trans (Nat.le_of_ble_eq_true rfl) hRf, Nat.le_trans (Nat.le_of_ble_eq_true rfl) hRl⟩) (va_recv hK hP (ci := 3) (q0 := 0) rfl rfl) (hK.sub [] rfl) rfl hl.1 rfl (Nat.le_of_ble_eq_true rfl) dX3_copy_76 ⟨Nat.zero_le _, Nat.zero_le _⟩ hP hD hS hA [0] [1, 2, 3, 4, 5, 6, 7, 8, 9] [9, 0, 1, 2, 3, 4, 5, 6, 7, 8] rfl rfl (by decide) (by decide) (by decide) rfl rfl (fun H locs hP hS => ?_)
                have hD : va_D Z ((a, .inr (3, [.ref r0, .ref r1, .ref g, .int tr, .int (nI 2)])) :: wSh cS cI r0 qs qr hs la le C) := hD.same rfl
                exact hend _ _ _ _ _ _ (by rw [uCopy, if_pos ⟨c10, c18⟩, hxj, hxjo, if_pos ⟨c44, c52⟩, if_neg c71] <;> rfl) (by rw [show okCopy hs la le (nI 0) i (nI 2) d n = false from by simp [okCopy, hxj, hxjo, c71], fCopy, if_pos ⟨c10, c18⟩, hxj, hxjo, if_pos ⟨c44, c52⟩, if_neg c71, if_neg Bool.false_ne_true] <;> rfl) hP hS dX3_copy_79
            · skip
              refine lv_aload_n hx hb dX3_copy_55 rfl (lv_at hl 2 rfl) ?_
              refine lv_iconst (v := nI 1) hx hb dX3_copy_56 rfl ?_
              refine rwW_i (As := [.int (nI 1)]) (rest := []) (wn := (a, .inr (3, [.ref r0, .ref r1, .ref g, .int tr, .int (nI 1)])) :: wSh cS cI r0 qs qr hs la le C) ⟨hx, hb, hml, hown, hts⟩ (kX3_failed l dC dI a r0 r1 g tr (nI 0) 1 _) (cwV 1 hts gX3_copy_X3_failed rfl rfl rfl hdX3_failed ⟨Nat.le_trans (Nat.le_of_ble_eq_true rfl) hRf, Nat.le_trans (Nat.le_of_ble_eq_true rfl) hRl⟩) (va_recv hK hP (ci := 3) (q0 := 0) rfl rfl) (hK.sub [] rfl) rfl hl.1 rfl (Nat.le_of_ble_eq_true rfl) dX3_copy_57 ⟨Nat.zero_le _, Nat.zero_le _⟩ hP hD hS hA [0] [1, 2, 3, 4, 5, 6, 7, 8, 9] [9, 0, 1, 2, 3, 4, 5, 6, 7, 8] rfl rfl (by decide) (by decide) (by decide) rfl rfl (fun H locs hP hS => ?_)
              have hD : va_D Z ((a, .inr (3, [.ref r0, .ref r1, .ref g, .int tr, .int (nI 1)])) :: wSh cS cI r0 qs qr hs la le C) := hD.same rfl
              exact hend _ _ _ _ _ _ (by rw [uCopy, if_pos ⟨c10, c18⟩, hxj, hxjo, if_neg (fun q => absurd q.2 (by rw [c52]; decide))] <;> rfl) (by rw [show okCopy hs la le (nI 0) i (nI 2) d n = false from by simp [okCopy, hxj, hxjo, c52], fCopy, if_pos ⟨c10, c18⟩, hxj, hxjo, if_neg (fun q => absurd q.2 (by rw [c52]; decide)), if_neg Bool.false_ne_true] <;> rfl) hP hS dX3_copy_60
        · skip
          refine x_aald (v := qs 3) hx hb hK hP 1 1 rfl rfl (by decide) (by decide) rfl dX3_copy_36 ?_
          refine lv_astore (lv' := [(7, .ref (qs 3)), (6, .ref (qs 0)), (0, .ref a), (1, .int (nI 0)), (2, .int i), (3, .int (nI 3)), (4, .int d), (5, .int n)]) hx hb dX3_copy_37 hl (by decide) rfl (fun ls hl => ?_)
          refine lv_aload hx hb dX3_copy_39 (lv_at hl 1 rfl) ?_
          refine x_get (D := (dC, dI)) (ci := 1) (v := .int (bI (hs 0))) (C := RX1) (T := TX1) (N := 4) hx hb hts hinX1 hown hK hP 2 rfl rfl 1 (Nat.le_of_ble_eq_true rfl) hf184 rfl rfl dX3_copy_41 ?_
          refine x_ifb_eq (tgt := 55) hx hb dX3_copy_44 (by decide) (fun c44 => ?_) (fun c44 => ?_)
          · skip
            refine lv_aload_n hx hb dX3_copy_55 rfl (lv_at hl 2 rfl) ?_
            refine lv_iconst (v := nI 1) hx hb dX3_copy_56 rfl ?_
            refine rwW_i (As := [.int (nI 1)]) (rest := []) (wn := (a, .inr (3, [.ref r0, .ref r1, .ref g, .int tr, .int (nI 1)])) :: wSh cS cI r0 qs qr hs la le C) ⟨hx, hb, hml, hown, hts⟩ (kX3_failed l dC dI a r0 r1 g tr (nI 0) 1 _) (cwV 1 hts gX3_copy_X3_failed rfl rfl rfl hdX3_failed ⟨Nat.le_trans (Nat.le_of_ble_eq_true rfl) hRf, Nat.le_trans (Nat.le_of_ble_eq_true rfl) hRl⟩) (va_recv hK hP (ci := 3) (q0 := 0) rfl rfl) (hK.sub [] rfl) rfl hl.1 rfl (Nat.le_of_ble_eq_true rfl) dX3_copy_57 ⟨Nat.zero_le _, Nat.zero_le _⟩ hP hD hS hA [0] [1, 2, 3, 4, 5, 6, 7, 8, 9] [9, 0, 1, 2, 3, 4, 5, 6, 7, 8] rfl rfl (by decide) (by decide) (by decide) rfl rfl (fun H locs hP hS => ?_)
            have hD : va_D Z ((a, .inr (3, [.ref r0, .ref r1, .ref g, .int tr, .int (nI 1)])) :: wSh cS cI r0 qs qr hs la le C) := hD.same rfl
            exact hend _ _ _ _ _ _ (by rw [uCopy, if_pos ⟨c10, c18⟩, hxj, hxjo, if_neg (fun q => absurd q.1 (by rw [c44]; decide))] <;> rfl) (by rw [show okCopy hs la le (nI 0) i (nI 3) d n = false from by simp [okCopy, hxj, hxjo, c44], fCopy, if_pos ⟨c10, c18⟩, hxj, hxjo, if_neg (fun q => absurd q.1 (by rw [c44]; decide)), if_neg Bool.false_ne_true] <;> rfl) hP hS dX3_copy_60
          · skip
            refine lv_aload hx hb dX3_copy_47 (lv_at hl 0 rfl) ?_
            refine x_get (D := (dC, dI)) (ci := 1) (v := .int (bI (hs 3))) (C := RX1) (T := TX1) (N := 4) hx hb hts hinX1 hown hK hP 8 rfl rfl 1 (Nat.le_of_ble_eq_true rfl) hf184 rfl rfl dX3_copy_49 ?_
            refine x_ifb_ne (tgt := 61) hx hb dX3_copy_52 (by decide) (fun c52 => ?_) (fun c52 => ?_)
            · skip
              refine lv_aload hx hb dX3_copy_61 (lv_at hl 1 rfl) ?_
              refine x_get (D := (dC, dI)) (ci := 1) (v := .int (nI (la 0))) (C := RX1) (T := TX1) (N := 4) hx hb hts hinX1 hown hK hP 2 rfl rfl 2 (Nat.le_of_ble_eq_true rfl) hf196 rfl rfl dX3_copy_63 ?_
              refine lv_aload hx hb dX3_copy_66 (lv_at hl 0 rfl) ?_
              refine x_get (D := (dC, dI)) (ci := 1) (v := .int (nI (la 3))) (C := RX1) (T := TX1) (N := 4) hx hb hts hinX1 hown hK hP 8 rfl rfl 2 (Nat.le_of_ble_eq_true rfl) hf196 rfl rfl dX3_copy_68 ?_
              refine x_icmp_eq (tgt := 80) hx hb (by omega) (by omega) dX3_copy_71 (by decide) (fun c71 => ?_) (fun c71 => ?_)
              · skip
                refine lv_aload hx hb dX3_copy_80 (lv_at hl 1 rfl) ?_
                refine lv_iload_n hx hb dX3_copy_82 rfl (lv_at hl 4 rfl) ?_
                refine lv_iload hx hb dX3_copy_83 (lv_at hl 7 rfl) ?_
                refine roV_i (As := [.int i, .int n]) (rest := []) ⟨hx, hb, hml, hown, hts⟩ (kX1_hasSpan l dC dI cI (qs 0) (qr 0) (hs 0) (la 0) (le 0) (C 0) i n _ (by omega)) (cwV 2 hts gX3_copy_X1_hasSpan rfl rfl rfl hdX1_hasSpan ⟨Nat.le_trans (Nat.le_of_ble_eq_true rfl) hRf, Nat.le_trans (Nat.le_of_ble_eq_true rfl) hRl⟩) (va_recv hK hP (ci := 1) (q0 := 2) rfl rfl) (hK.sub [0] rfl) (hP.sub [2, 3] rfl) rfl hl.1 rfl (Nat.le_of_ble_eq_true rfl) dX3_copy_85 ⟨Nat.zero_le _, Nat.zero_le _⟩ hP hS hA (fun H locs hP hS => ?_)
                refine x_ifb_eq (tgt := 103) hx hb dX3_copy_88 (by decide) (fun c88 => ?_) (fun c88 => ?_)
                · skip
                  refine lv_aload_n hx hb dX3_copy_103 rfl (lv_at hl 2 rfl) ?_
                  refine lv_iconst (v := nI 3) hx hb dX3_copy_104 rfl ?_
                  refine rwW_i (As := [.int (nI 3)]) (rest := []) (wn := (a, .inr (3, [.ref r0, .ref r1, .ref g, .int tr, .int (nI 3)])) :: wSh cS cI r0 qs qr hs la le C) ⟨hx, hb, hml, hown, hts⟩ (kX3_failed l dC dI a r0 r1 g tr (nI 0) 3 _) (cwV 1 hts gX3_copy_X3_failed rfl rfl rfl hdX3_failed ⟨Nat.le_trans (Nat.le_of_ble_eq_true rfl) hRf, Nat.le_trans (Nat.le_of_ble_eq_true rfl) hRl⟩) (va_recv hK hP (ci := 3) (q0 := 0) rfl rfl) (hK.sub [] rfl) rfl hl.1 rfl (Nat.le_of_ble_eq_true rfl) dX3_copy_105 ⟨Nat.zero_le _, Nat.zero_le _⟩ hP hD hS hA [0] [1, 2, 3, 4, 5, 6, 7, 8, 9] [9, 0, 1, 2, 3, 4, 5, 6, 7, 8] rfl rfl (by decide) (by decide) (by decide) rfl rfl (fun H locs hP hS => ?_)
                  have hD : va_D Z ((a, .inr (3, [.ref r0, .ref r1, .ref g, .int tr, .int (nI 3)])) :: wSh cS cI r0 qs qr hs la le C) := hD.same rfl
                  exact hend _ _ _ _ _ _ (by rw [uCopy, if_pos ⟨c10, c18⟩, hxj, hxjo, if_pos ⟨c44, c52⟩, if_pos c71, if_neg (fun q => absurd q.1 (by rw [c88]; decide))] <;> rfl) (by rw [show okCopy hs la le (nI 0) i (nI 3) d n = false from by simp [okCopy, hxj, hxjo, c88], fCopy, if_pos ⟨c10, c18⟩, hxj, hxjo, if_pos ⟨c44, c52⟩, if_pos c71, if_neg (fun q => absurd q.1 (by rw [c88]; decide)), if_neg Bool.false_ne_true] <;> rfl) hP hS dX3_copy_108
                · skip
                  refine lv_aload hx hb dX3_copy_91 (lv_at hl 0 rfl) ?_
                  refine lv_iload hx hb dX3_copy_93 (lv_at hl 6 rfl) ?_
                  refine lv_iload hx hb dX3_copy_95 (lv_at hl 7 rfl) ?_
                  refine roV_i (As := [.int d, .int n]) (rest := []) ⟨hx, hb, hml, hown, hts⟩ (kX1_hasSpan l dC dI cI (qs 3) (qr 3) (hs 3) (la 3) (le 3) (C 3) d n _ (by omega)) (cwV 2 hts gX3_copy_X1_hasSpan rfl rfl rfl hdX1_hasSpan ⟨Nat.le_trans (Nat.le_of_ble_eq_true rfl) hRf, Nat.le_trans (Nat.le_of_ble_eq_true rfl) hRl⟩) (va_recv hK hP (ci := 1) (q0 := 8) rfl rfl) (hK.sub [0] rfl) (hP.sub [8, 9] rfl) rfl hl.1 rfl (Nat.le_of_ble_eq_true rfl) dX3_copy_97 ⟨Nat.zero_le _, Nat.zero_le _⟩ hP hS hA (fun H locs hP hS => ?_)
                  refine x_ifb_ne (tgt := 109) hx hb dX3_copy_100 (by decide) (fun c100 => ?_) (fun c100 => ?_)
                  · skip
                    obtain ⟨ia, na, hia, rfl, rfl⟩ := span_t (le := le 0) (by omega) c88
                    obtain ⟨da, nb, hda, rfl, hnb⟩ := span_t (le := le 3) (by omega) c100
                    have hnn : na = nb := (nI_eq (by omega) (by omega)).mp hnb
                    subst hnn
                    have hxia : xn (nI ia) = ia := xn_nI (by omega)
                    have hxda : xn (nI da) = da := xn_nI (by omega)
                    have hxna : xn (nI na) = na := xn_nI (by omega)
                    refine lv_aload hx hb dX3_copy_109 (lv_at hl 1 rfl) ?_
                    refine x_get (D := (dC, dI)) (ci := 1) (v := .ref (qr 0)) (C := RX1) (T := TX1) (N := 4) hx hb hts hinX1 hown hK hP 2 rfl rfl 0 (Nat.le_of_ble_eq_true rfl) hf193 rfl rfl dX3_copy_111 ?_
                    refine lv_iload_n hx hb dX3_copy_114 rfl (lv_at hl 4 rfl) ?_
                    refine lv_aload hx hb dX3_copy_115 (lv_at hl 0 rfl) ?_
                    refine x_get (D := (dC, dI)) (ci := 1) (v := .ref (qr 3)) (C := RX1) (T := TX1) (N := 4) hx hb hts hinX1 hown hK hP 8 rfl rfl 0 (Nat.le_of_ble_eq_true rfl) hf193 rfl rfl dX3_copy_117 ?_
                    refine lv_iload hx hb dX3_copy_120 (lv_at hl 6 rfl) ?_
                    refine lv_iload hx hb dX3_copy_122 (lv_at hl 7 rfl) ?_
                    refine x_copy (wn := (a, .inr (3, [.ref r0, .ref r1, .ref g, .int tr, .int (nI 0)])) :: wSh cS cI r0 qs qr hs la le (uC C 3 (va_cpy (C 0) (C 3) ia da na))) hx hb (hml.trans hl.1.symm) hown hl199 hnat hsta hiSys hK hP hD hS 3 9 0 rfl rfl rfl (by omega) (by omega) (by decide) (by decide) (Nat.le_trans (Nat.le_of_ble_eq_true rfl) hRf) (Nat.le_trans (Nat.le_of_ble_eq_true rfl) hRl) rfl dX3_copy_124 (fun H locs hP hS => ?_)
                    have hD : va_D Z ((a, .inr (3, [.ref r0, .ref r1, .ref g, .int tr, .int (nI 0)])) :: wSh cS cI r0 qs qr hs la le (uC C 3 (va_cpy (C 0) (C 3) ia da na))) := hD.same rfl
                    refine lv_iload hx hb dX3_copy_127 (lv_at hl 7 rfl) ?_
                    exact hend _ _ _ _ _ _ (by rw [uCopy, if_pos ⟨c10, c18⟩, hxj, hxjo, if_pos ⟨c44, c52⟩, if_pos c71, if_pos ⟨c88, c100⟩] <;> rfl) (by rw [show okCopy hs la le (nI 0) (nI ia) (nI 3) (nI da) (nI na) = true from by simp [okCopy, hxj, hxjo, c10, c18, c44, c52, c71, c88, c100], fCopy, if_pos ⟨c10, c18⟩, hxj, hxjo, if_pos ⟨c44, c52⟩, if_pos c71, if_pos ⟨c88, c100⟩, if_pos rfl, hxia, hxda, hxna] <;> rfl) hP hS dX3_copy_129
                  · skip
                    refine lv_aload_n hx hb dX3_copy_103 rfl (lv_at hl 2 rfl) ?_
                    refine lv_iconst (v := nI 3) hx hb dX3_copy_104 rfl ?_
                    refine rwW_i (As := [.int (nI 3)]) (rest := []) (wn := (a, .inr (3, [.ref r0, .ref r1, .ref g, .int tr, .int (nI 3)])) :: wSh cS cI r0 qs qr hs la le C) ⟨hx, hb, hml, hown, hts⟩ (kX3_failed l dC dI a r0 r1 g tr (nI 0) 3 _) (cwV 1 hts gX3_copy_X3_failed rfl rfl rfl hdX3_failed ⟨Nat.le_trans (Nat.le_of_ble_eq_true rfl) hRf, Nat.le_trans (Nat.le_of_ble_eq_true rfl) hRl⟩) (va_recv hK hP (ci := 3) (q0 := 0) rfl rfl) (hK.sub [] rfl) rfl hl.1 rfl (Nat.le_of_ble_eq_true rfl) dX3_copy_105 ⟨Nat.zero_le _, Nat.zero_le _⟩ hP hD hS hA [0] [1, 2, 3, 4, 5, 6, 7, 8, 9] [9, 0, 1, 2, 3, 4, 5, 6, 7, 8] rfl rfl (by decide) (by decide) (by decide) rfl rfl (fun H locs hP hS => ?_)
                    have hD : va_D Z ((a, .inr (3, [.ref r0, .ref r1, .ref g, .int tr, .int (nI 3)])) :: wSh cS cI r0 qs qr hs la le C) := hD.same rfl
                    exact hend _ _ _ _ _ _ (by rw [uCopy, if_pos ⟨c10, c18⟩, hxj, hxjo, if_pos ⟨c44, c52⟩, if_pos c71, if_neg (fun q => absurd q.2 (by rw [c100]; decide))] <;> rfl) (by rw [show okCopy hs la le (nI 0) i (nI 3) d n = false from by simp [okCopy, hxj, hxjo, c100], fCopy, if_pos ⟨c10, c18⟩, hxj, hxjo, if_pos ⟨c44, c52⟩, if_pos c71, if_neg (fun q => absurd q.2 (by rw [c100]; decide)), if_neg Bool.false_ne_true] <;> rfl) hP hS dX3_copy_108
              · skip
                refine lv_aload_n hx hb dX3_copy_74 rfl (lv_at hl 2 rfl) ?_
                refine lv_iconst (v := nI 2) hx hb dX3_copy_75 rfl ?_
                refine rwW_i (As := [.int (nI 2)]) (rest := []) (wn := (a, .inr (3, [.ref r0, .ref r1, .ref g, .int tr, .int (nI 2)])) :: wSh cS cI r0 qs qr hs la le C) ⟨hx, hb, hml, hown, hts⟩ (kX3_failed l dC dI a r0 r1 g tr (nI 0) 2 _) (cwV 1 hts gX3_copy_X3_failed rfl rfl rfl hdX3_failed ⟨Nat.le_trans (Nat.le_of_ble_eq_true rfl) hRf, Nat.le_trans (Nat.le_of_ble_eq_true rfl) hRl⟩) (va_recv hK hP (ci := 3) (q0 := 0) rfl rfl) (hK.sub [] rfl) rfl hl.1 rfl (Nat.le_of_ble_eq_true rfl) dX3_copy_76 ⟨Nat.zero_le _, Nat.zero_le _⟩ hP hD hS hA [0] [1, 2, 3, 4, 5, 6, 7, 8, 9] [9, 0, 1, 2, 3, 4, 5, 6, 7, 8] rfl rfl (by decide) (by decide) (by decide) rfl rfl (fun H locs hP hS => ?_)
                have hD : va_D Z ((a, .inr (3, [.ref r0, .ref r1, .ref g, .int tr, .int (nI 2)])) :: wSh cS cI r0 qs qr hs la le C) := hD.same rfl
                exact hend _ _ _ _ _ _ (by rw [uCopy, if_pos ⟨c10, c18⟩, hxj, hxjo, if_pos ⟨c44, c52⟩, if_neg c71] <;> rfl) (by rw [show okCopy hs la le (nI 0) i (nI 3) d n = false from by simp [okCopy, hxj, hxjo, c71], fCopy, if_pos ⟨c10, c18⟩, hxj, hxjo, if_pos ⟨c44, c52⟩, if_neg c71, if_neg Bool.false_ne_true] <;> rfl) hP hS dX3_copy_79
            · skip
              refine lv_aload_n hx hb dX3_copy_55 rfl (lv_at hl 2 rfl) ?_
              refine lv_iconst (v := nI 1) hx hb dX3_copy_56 rfl ?_
              refine rwW_i (As := [.int (nI 1)]) (rest := []) (wn := (a, .inr (3, [.ref r0, .ref r1, .ref g, .int tr, .int (nI 1)])) :: wSh cS cI r0 qs qr hs la le C) ⟨hx, hb, hml, hown, hts⟩ (kX3_failed l dC dI a r0 r1 g tr (nI 0) 1 _) (cwV 1 hts gX3_copy_X3_failed rfl rfl rfl hdX3_failed ⟨Nat.le_trans (Nat.le_of_ble_eq_true rfl) hRf, Nat.le_trans (Nat.le_of_ble_eq_true rfl) hRl⟩) (va_recv hK hP (ci := 3) (q0 := 0) rfl rfl) (hK.sub [] rfl) rfl hl.1 rfl (Nat.le_of_ble_eq_true rfl) dX3_copy_57 ⟨Nat.zero_le _, Nat.zero_le _⟩ hP hD hS hA [0] [1, 2, 3, 4, 5, 6, 7, 8, 9] [9, 0, 1, 2, 3, 4, 5, 6, 7, 8] rfl rfl (by decide) (by decide) (by decide) rfl rfl (fun H locs hP hS => ?_)
              have hD : va_D Z ((a, .inr (3, [.ref r0, .ref r1, .ref g, .int tr, .int (nI 1)])) :: wSh cS cI r0 qs qr hs la le C) := hD.same rfl
              exact hend _ _ _ _ _ _ (by rw [uCopy, if_pos ⟨c10, c18⟩, hxj, hxjo, if_neg (fun q => absurd q.2 (by rw [c52]; decide))] <;> rfl) (by rw [show okCopy hs la le (nI 0) i (nI 3) d n = false from by simp [okCopy, hxj, hxjo, c52], fCopy, if_pos ⟨c10, c18⟩, hxj, hxjo, if_neg (fun q => absurd q.2 (by rw [c52]; decide)), if_neg Bool.false_ne_true] <;> rfl) hP hS dX3_copy_60
      · skip
        refine x_aald (v := qs 1) hx hb hK hP 1 1 rfl rfl (by decide) (by decide) rfl dX3_copy_28 ?_
        refine lv_astore (lv' := [(6, .ref (qs 1)), (0, .ref a), (1, .int (nI 1)), (2, .int i), (3, .int (nI jo)), (4, .int d), (5, .int n)]) hx hb dX3_copy_29 hl (by decide) rfl (fun ls hl => ?_)
        refine lv_aload_n hx hb dX3_copy_31 rfl (lv_at hl 1 rfl) ?_
        refine x_get (D := (dC, dI)) (ci := 3) (v := .ref r0) (C := RX3) (T := TX3) (N := 5) hx hb hts hinX3 hown hK hP 0 rfl rfl 0 (Nat.le_of_ble_eq_true rfl) hf13 rfl rfl dX3_copy_32 ?_
        refine lv_iload_n hx hb dX3_copy_35 rfl (lv_at hl 4 rfl) ?_
        rcases (show jo = 0 ∨ jo = 1 ∨ jo = 2 ∨ jo = 3 by omega) with rfl | rfl | rfl | rfl
        · skip
          refine x_aald (v := qs 0) hx hb hK hP 1 1 rfl rfl (by decide) (by decide) rfl dX3_copy_36 ?_
          refine lv_astore (lv' := [(7, .ref (qs 0)), (6, .ref (qs 1)), (0, .ref a), (1, .int (nI 1)), (2, .int i), (3, .int (nI 0)), (4, .int d), (5, .int n)]) hx hb dX3_copy_37 hl (by decide) rfl (fun ls hl => ?_)
          refine lv_aload hx hb dX3_copy_39 (lv_at hl 1 rfl) ?_
          refine x_get (D := (dC, dI)) (ci := 1) (v := .int (bI (hs 1))) (C := RX1) (T := TX1) (N := 4) hx hb hts hinX1 hown hK hP 4 rfl rfl 1 (Nat.le_of_ble_eq_true rfl) hf184 rfl rfl dX3_copy_41 ?_
          refine x_ifb_eq (tgt := 55) hx hb dX3_copy_44 (by decide) (fun c44 => ?_) (fun c44 => ?_)
          · skip
            refine lv_aload_n hx hb dX3_copy_55 rfl (lv_at hl 2 rfl) ?_
            refine lv_iconst (v := nI 1) hx hb dX3_copy_56 rfl ?_
            refine rwW_i (As := [.int (nI 1)]) (rest := []) (wn := (a, .inr (3, [.ref r0, .ref r1, .ref g, .int tr, .int (nI 1)])) :: wSh cS cI r0 qs qr hs la le C) ⟨hx, hb, hml, hown, hts⟩ (kX3_failed l dC dI a r0 r1 g tr (nI 0) 1 _) (cwV 1 hts gX3_copy_X3_failed rfl rfl rfl hdX3_failed ⟨Nat.le_trans (Nat.le_of_ble_eq_true rfl) hRf, Nat.le_trans (Nat.le_of_ble_eq_true rfl) hRl⟩) (va_recv hK hP (ci := 3) (q0 := 0) rfl rfl) (hK.sub [] rfl) rfl hl.1 rfl (Nat.le_of_ble_eq_true rfl) dX3_copy_57 ⟨Nat.zero_le _, Nat.zero_le _⟩ hP hD hS hA [0] [1, 2, 3, 4, 5, 6, 7, 8, 9] [9, 0, 1, 2, 3, 4, 5, 6, 7, 8] rfl rfl (by decide) (by decide) (by decide) rfl rfl (fun H locs hP hS => ?_)
            have hD : va_D Z ((a, .inr (3, [.ref r0, .ref r1, .ref g, .int tr, .int (nI 1)])) :: wSh cS cI r0 qs qr hs la le C) := hD.same rfl
            exact hend _ _ _ _ _ _ (by rw [uCopy, if_pos ⟨c10, c18⟩, hxj, hxjo, if_neg (fun q => absurd q.1 (by rw [c44]; decide))] <;> rfl) (by rw [show okCopy hs la le (nI 1) i (nI 0) d n = false from by simp [okCopy, hxj, hxjo, c44], fCopy, if_pos ⟨c10, c18⟩, hxj, hxjo, if_neg (fun q => absurd q.1 (by rw [c44]; decide)), if_neg Bool.false_ne_true] <;> rfl) hP hS dX3_copy_60
          · skip
            refine lv_aload hx hb dX3_copy_47 (lv_at hl 0 rfl) ?_
            refine x_get (D := (dC, dI)) (ci := 1) (v := .int (bI (hs 0))) (C := RX1) (T := TX1) (N := 4) hx hb hts hinX1 hown hK hP 2 rfl rfl 1 (Nat.le_of_ble_eq_true rfl) hf184 rfl rfl dX3_copy_49 ?_
            refine x_ifb_ne (tgt := 61) hx hb dX3_copy_52 (by decide) (fun c52 => ?_) (fun c52 => ?_)
            · skip
              refine lv_aload hx hb dX3_copy_61 (lv_at hl 1 rfl) ?_
              refine x_get (D := (dC, dI)) (ci := 1) (v := .int (nI (la 1))) (C := RX1) (T := TX1) (N := 4) hx hb hts hinX1 hown hK hP 4 rfl rfl 2 (Nat.le_of_ble_eq_true rfl) hf196 rfl rfl dX3_copy_63 ?_
              refine lv_aload hx hb dX3_copy_66 (lv_at hl 0 rfl) ?_
              refine x_get (D := (dC, dI)) (ci := 1) (v := .int (nI (la 0))) (C := RX1) (T := TX1) (N := 4) hx hb hts hinX1 hown hK hP 2 rfl rfl 2 (Nat.le_of_ble_eq_true rfl) hf196 rfl rfl dX3_copy_68 ?_
              refine x_icmp_eq (tgt := 80) hx hb (by omega) (by omega) dX3_copy_71 (by decide) (fun c71 => ?_) (fun c71 => ?_)
              · skip
                refine lv_aload hx hb dX3_copy_80 (lv_at hl 1 rfl) ?_
                refine lv_iload_n hx hb dX3_copy_82 rfl (lv_at hl 4 rfl) ?_
                refine lv_iload hx hb dX3_copy_83 (lv_at hl 7 rfl) ?_
                refine roV_i (As := [.int i, .int n]) (rest := []) ⟨hx, hb, hml, hown, hts⟩ (kX1_hasSpan l dC dI cI (qs 1) (qr 1) (hs 1) (la 1) (le 1) (C 1) i n _ (by omega)) (cwV 2 hts gX3_copy_X1_hasSpan rfl rfl rfl hdX1_hasSpan ⟨Nat.le_trans (Nat.le_of_ble_eq_true rfl) hRf, Nat.le_trans (Nat.le_of_ble_eq_true rfl) hRl⟩) (va_recv hK hP (ci := 1) (q0 := 4) rfl rfl) (hK.sub [0] rfl) (hP.sub [4, 5] rfl) rfl hl.1 rfl (Nat.le_of_ble_eq_true rfl) dX3_copy_85 ⟨Nat.zero_le _, Nat.zero_le _⟩ hP hS hA (fun H locs hP hS => ?_)
                refine x_ifb_eq (tgt := 103) hx hb dX3_copy_88 (by decide) (fun c88 => ?_) (fun c88 => ?_)
                · skip
                  refine lv_aload_n hx hb dX3_copy_103 rfl (lv_at hl 2 rfl) ?_
                  refine lv_iconst (v := nI 3) hx hb dX3_copy_104 rfl ?_
                  refine rwW_i (As := [.int (nI 3)]) (rest := []) (wn := (a, .inr (3, [.ref r0, .ref r1, .ref g, .int tr, .int (nI 3)])) :: wSh cS cI r0 qs qr hs la le C) ⟨hx, hb, hml, hown, hts⟩ (kX3_failed l dC dI a r0 r1 g tr (nI 0) 3 _) (cwV 1 hts gX3_copy_X3_failed rfl rfl rfl hdX3_failed ⟨Nat.le_trans (Nat.le_of_ble_eq_true rfl) hRf, Nat.le_trans (Nat.le_of_ble_eq_true rfl) hRl⟩) (va_recv hK hP (ci := 3) (q0 := 0) rfl rfl) (hK.sub [] rfl) rfl hl.1 rfl (Nat.le_of_ble_eq_true rfl) dX3_copy_105 ⟨Nat.zero_le _, Nat.zero_le _⟩ hP hD hS hA [0] [1, 2, 3, 4, 5, 6, 7, 8, 9] [9, 0, 1, 2, 3, 4, 5, 6, 7, 8] rfl rfl (by decide) (by decide) (by decide) rfl rfl (fun H locs hP hS => ?_)
                  have hD : va_D Z ((a, .inr (3, [.ref r0, .ref r1, .ref g, .int tr, .int (nI 3)])) :: wSh cS cI r0 qs qr hs la le C) := hD.same rfl
                  exact hend _ _ _ _ _ _ (by rw [uCopy, if_pos ⟨c10, c18⟩, hxj, hxjo, if_pos ⟨c44, c52⟩, if_pos c71, if_neg (fun q => absurd q.1 (by rw [c88]; decide))] <;> rfl) (by rw [show okCopy hs la le (nI 1) i (nI 0) d n = false from by simp [okCopy, hxj, hxjo, c88], fCopy, if_pos ⟨c10, c18⟩, hxj, hxjo, if_pos ⟨c44, c52⟩, if_pos c71, if_neg (fun q => absurd q.1 (by rw [c88]; decide)), if_neg Bool.false_ne_true] <;> rfl) hP hS dX3_copy_108
                · skip
                  refine lv_aload hx hb dX3_copy_91 (lv_at hl 0 rfl) ?_
                  refine lv_iload hx hb dX3_copy_93 (lv_at hl 6 rfl) ?_
                  refine lv_iload hx hb dX3_copy_95 (lv_at hl 7 rfl) ?_
                  refine roV_i (As := [.int d, .int n]) (rest := []) ⟨hx, hb, hml, hown, hts⟩ (kX1_hasSpan l dC dI cI (qs 0) (qr 0) (hs 0) (la 0) (le 0) (C 0) d n _ (by omega)) (cwV 2 hts gX3_copy_X1_hasSpan rfl rfl rfl hdX1_hasSpan ⟨Nat.le_trans (Nat.le_of_ble_eq_true rfl) hRf, Nat.le_trans (Nat.le_of_ble_eq_true rfl) hRl⟩) (va_recv hK hP (ci := 1) (q0 := 2) rfl rfl) (hK.sub [0] rfl) (hP.sub [2, 3] rfl) rfl hl.1 rfl (Nat.le_of_ble_eq_true rfl) dX3_copy_97 ⟨Nat.zero_le _, Nat.zero_le _⟩ hP hS hA (fun H locs hP hS => ?_)
                  refine x_ifb_ne (tgt := 109) hx hb dX3_copy_100 (by decide) (fun c100 => ?_) (fun c100 => ?_)
                  · skip
                    obtain ⟨ia, na, hia, rfl, rfl⟩ := span_t (le := le 1) (by omega) c88
                    obtain ⟨da, nb, hda, rfl, hnb⟩ := span_t (le := le 0) (by omega) c100
                    have hnn : na = nb := (nI_eq (by omega) (by omega)).mp hnb
                    subst hnn
                    have hxia : xn (nI ia) = ia := xn_nI (by omega)
                    have hxda : xn (nI da) = da := xn_nI (by omega)
                    have hxna : xn (nI na) = na := xn_nI (by omega)
                    refine lv_aload hx hb dX3_copy_109 (lv_at hl 1 rfl) ?_
                    refine x_get (D := (dC, dI)) (ci := 1) (v := .ref (qr 1)) (C := RX1) (T := TX1) (N := 4) hx hb hts hinX1 hown hK hP 4 rfl rfl 0 (Nat.le_of_ble_eq_true rfl) hf193 rfl rfl dX3_copy_111 ?_
                    refine lv_iload_n hx hb dX3_copy_114 rfl (lv_at hl 4 rfl) ?_
                    refine lv_aload hx hb dX3_copy_115 (lv_at hl 0 rfl) ?_
                    refine x_get (D := (dC, dI)) (ci := 1) (v := .ref (qr 0)) (C := RX1) (T := TX1) (N := 4) hx hb hts hinX1 hown hK hP 2 rfl rfl 0 (Nat.le_of_ble_eq_true rfl) hf193 rfl rfl dX3_copy_117 ?_
                    refine lv_iload hx hb dX3_copy_120 (lv_at hl 6 rfl) ?_
                    refine lv_iload hx hb dX3_copy_122 (lv_at hl 7 rfl) ?_
                    refine x_copy (wn := (a, .inr (3, [.ref r0, .ref r1, .ref g, .int tr, .int (nI 0)])) :: wSh cS cI r0 qs qr hs la le (uC C 0 (va_cpy (C 1) (C 0) ia da na))) hx hb (hml.trans hl.1.symm) hown hl199 hnat hsta hiSys hK hP hD hS 5 3 0 rfl rfl rfl (by omega) (by omega) (by decide) (by decide) (Nat.le_trans (Nat.le_of_ble_eq_true rfl) hRf) (Nat.le_trans (Nat.le_of_ble_eq_true rfl) hRl) rfl dX3_copy_124 (fun H locs hP hS => ?_)
                    have hD : va_D Z ((a, .inr (3, [.ref r0, .ref r1, .ref g, .int tr, .int (nI 0)])) :: wSh cS cI r0 qs qr hs la le (uC C 0 (va_cpy (C 1) (C 0) ia da na))) := hD.same rfl
                    refine lv_iload hx hb dX3_copy_127 (lv_at hl 7 rfl) ?_
                    exact hend _ _ _ _ _ _ (by rw [uCopy, if_pos ⟨c10, c18⟩, hxj, hxjo, if_pos ⟨c44, c52⟩, if_pos c71, if_pos ⟨c88, c100⟩] <;> rfl) (by rw [show okCopy hs la le (nI 1) (nI ia) (nI 0) (nI da) (nI na) = true from by simp [okCopy, hxj, hxjo, c10, c18, c44, c52, c71, c88, c100], fCopy, if_pos ⟨c10, c18⟩, hxj, hxjo, if_pos ⟨c44, c52⟩, if_pos c71, if_pos ⟨c88, c100⟩, if_pos rfl, hxia, hxda, hxna] <;> rfl) hP hS dX3_copy_129
                  · skip
                    refine lv_aload_n hx hb dX3_copy_103 rfl (lv_at hl 2 rfl) ?_
                    refine lv_iconst (v := nI 3) hx hb dX3_copy_104 rfl ?_
                    refine rwW_i (As := [.int (nI 3)]) (rest := []) (wn := (a, .inr (3, [.ref r0, .ref r1, .ref g, .int tr, .int (nI 3)])) :: wSh cS cI r0 qs qr hs la le C) ⟨hx, hb, hml, hown, hts⟩ (kX3_failed l dC dI a r0 r1 g tr (nI 0) 3 _) (cwV 1 hts gX3_copy_X3_failed rfl rfl rfl hdX3_failed ⟨Nat.le_trans (Nat.le_of_ble_eq_true rfl) hRf, Nat.le_trans (Nat.le_of_ble_eq_true rfl) hRl⟩) (va_recv hK hP (ci := 3) (q0 := 0) rfl rfl) (hK.sub [] rfl) rfl hl.1 rfl (Nat.le_of_ble_eq_true rfl) dX3_copy_105 ⟨Nat.zero_le _, Nat.zero_le _⟩ hP hD hS hA [0] [1, 2, 3, 4, 5, 6, 7, 8, 9] [9, 0, 1, 2, 3, 4, 5, 6, 7, 8] rfl rfl (by decide) (by decide) (by decide) rfl rfl (fun H locs hP hS => ?_)
                    have hD : va_D Z ((a, .inr (3, [.ref r0, .ref r1, .ref g, .int tr, .int (nI 3)])) :: wSh cS cI r0 qs qr hs la le C) := hD.same rfl
                    exact hend _ _ _ _ _ _ (by rw [uCopy, if_pos ⟨c10, c18⟩, hxj, hxjo, if_pos ⟨c44, c52⟩, if_pos c71, if_neg (fun q => absurd q.2 (by rw [c100]; decide))] <;> rfl) (by rw [show okCopy hs la le (nI 1) i (nI 0) d n = false from by simp [okCopy, hxj, hxjo, c100], fCopy, if_pos ⟨c10, c18⟩, hxj, hxjo, if_pos ⟨c44, c52⟩, if_pos c71, if_neg (fun q => absurd q.2 (by rw [c100]; decide)), if_neg Bool.false_ne_true] <;> rfl) hP hS dX3_copy_108
              · skip
                refine lv_aload_n hx hb dX3_copy_74 rfl (lv_at hl 2 rfl) ?_
                refine lv_iconst (v := nI 2) hx hb dX3_copy_75 rfl ?_
                refine rwW_i (As := [.int (nI 2)]) (rest := []) (wn := (a, .inr (3, [.ref r0, .ref r1, .ref g, .int tr, .int (nI 2)])) :: wSh cS cI r0 qs qr hs la le C) ⟨hx, hb, hml, hown, hts⟩ (kX3_failed l dC dI a r0 r1 g tr (nI 0) 2 _) (cwV 1 hts gX3_copy_X3_failed rfl rfl rfl hdX3_failed ⟨Nat.le_trans (Nat.le_of_ble_eq_true rfl) hRf, Nat.le_trans (Nat.le_of_ble_eq_true rfl) hRl⟩) (va_recv hK hP (ci := 3) (q0 := 0) rfl rfl) (hK.sub [] rfl) rfl hl.1 rfl (Nat.le_of_ble_eq_true rfl) dX3_copy_76 ⟨Nat.zero_le _, Nat.zero_le _⟩ hP hD hS hA [0] [1, 2, 3, 4, 5, 6, 7, 8, 9] [9, 0, 1, 2, 3, 4, 5, 6, 7, 8] rfl rfl (by decide) (by decide) (by decide) rfl rfl (fun H locs hP hS => ?_)
                have hD : va_D Z ((a, .inr (3, [.ref r0, .ref r1, .ref g, .int tr, .int (nI 2)])) :: wSh cS cI r0 qs qr hs la le C) := hD.same rfl
                exact hend _ _ _ _ _ _ (by rw [uCopy, if_pos ⟨c10, c18⟩, hxj, hxjo, if_pos ⟨c44, c52⟩, if_neg c71] <;> rfl) (by rw [show okCopy hs la le (nI 1) i (nI 0) d n = false from by simp [okCopy, hxj, hxjo, c71], fCopy, if_pos ⟨c10, c18⟩, hxj, hxjo, if_pos ⟨c44, c52⟩, if_neg c71, if_neg Bool.false_ne_true] <;> rfl) hP hS dX3_copy_79
            · skip
              refine lv_aload_n hx hb dX3_copy_55 rfl (lv_at hl 2 rfl) ?_
              refine lv_iconst (v := nI 1) hx hb dX3_copy_56 rfl ?_
              refine rwW_i (As := [.int (nI 1)]) (rest := []) (wn := (a, .inr (3, [.ref r0, .ref r1, .ref g, .int tr, .int (nI 1)])) :: wSh cS cI r0 qs qr hs la le C) ⟨hx, hb, hml, hown, hts⟩ (kX3_failed l dC dI a r0 r1 g tr (nI 0) 1 _) (cwV 1 hts gX3_copy_X3_failed rfl rfl rfl hdX3_failed ⟨Nat.le_trans (Nat.le_of_ble_eq_true rfl) hRf, Nat.le_trans (Nat.le_of_ble_eq_true rfl) hRl⟩) (va_recv hK hP (ci := 3) (q0 := 0) rfl rfl) (hK.sub [] rfl) rfl hl.1 rfl (Nat.le_of_ble_eq_true rfl) dX3_copy_57 ⟨Nat.zero_le _, Nat.zero_le _⟩ hP hD hS hA [0] [1, 2, 3, 4, 5, 6, 7, 8, 9] [9, 0, 1, 2, 3, 4, 5, 6, 7, 8] rfl rfl (by decide) (by decide) (by decide) rfl rfl (fun H locs hP hS => ?_)
              have hD : va_D Z ((a, .inr (3, [.ref r0, .ref r1, .ref g, .int tr, .int (nI 1)])) :: wSh cS cI r0 qs qr hs la le C) := hD.same rfl
              exact hend _ _ _ _ _ _ (by rw [uCopy, if_pos ⟨c10, c18⟩, hxj, hxjo, if_neg (fun q => absurd q.2 (by rw [c52]; decide))] <;> rfl) (by rw [show okCopy hs la le (nI 1) i (nI 0) d n = false from by simp [okCopy, hxj, hxjo, c52], fCopy, if_pos ⟨c10, c18⟩, hxj, hxjo, if_neg (fun q => absurd q.2 (by rw [c52]; decide)), if_neg Bool.false_ne_true] <;> rfl) hP hS dX3_copy_60
        · skip
          refine x_aald (v := qs 1) hx hb hK hP 1 1 rfl rfl (by decide) (by decide) rfl dX3_copy_36 ?_
          refine lv_astore (lv' := [(7, .ref (qs 1)), (6, .ref (qs 1)), (0, .ref a), (1, .int (nI 1)), (2, .int i), (3, .int (nI 1)), (4, .int d), (5, .int n)]) hx hb dX3_copy_37 hl (by decide) rfl (fun ls hl => ?_)
          refine lv_aload hx hb dX3_copy_39 (lv_at hl 1 rfl) ?_
          refine x_get (D := (dC, dI)) (ci := 1) (v := .int (bI (hs 1))) (C := RX1) (T := TX1) (N := 4) hx hb hts hinX1 hown hK hP 4 rfl rfl 1 (Nat.le_of_ble_eq_true rfl) hf184 rfl rfl dX3_copy_41 ?_
          refine x_ifb_eq (tgt := 55) hx hb dX3_copy_44 (by decide) (fun c44 => ?_) (fun c44 => ?_)
          · skip
            refine lv_aload_n hx hb dX3_copy_55 rfl (lv_at hl 2 rfl) ?_
            refine lv_iconst (v := nI 1) hx hb dX3_copy_56 rfl ?_
            refine rwW_i (As := [.int (nI 1)]) (rest := []) (wn := (a, .inr (3, [.ref r0, .ref r1, .ref g, .int tr, .int (nI 1)])) :: wSh cS cI r0 qs qr hs la le C) ⟨hx, hb, hml, hown, hts⟩ (kX3_failed l dC dI a r0 r1 g tr (nI 0) 1 _) (cwV 1 hts gX3_copy_X3_failed rfl rfl rfl hdX3_failed ⟨Nat.le_trans (Nat.le_of_ble_eq_true rfl) hRf, Nat.le_trans (Nat.le_of_ble_eq_true rfl) hRl⟩) (va_recv hK hP (ci := 3) (q0 := 0) rfl rfl) (hK.sub [] rfl) rfl hl.1 rfl (Nat.le_of_ble_eq_true rfl) dX3_copy_57 ⟨Nat.zero_le _, Nat.zero_le _⟩ hP hD hS hA [0] [1, 2, 3, 4, 5, 6, 7, 8, 9] [9, 0, 1, 2, 3, 4, 5, 6, 7, 8] rfl rfl (by decide) (by decide) (by decide) rfl rfl (fun H locs hP hS => ?_)
            have hD : va_D Z ((a, .inr (3, [.ref r0, .ref r1, .ref g, .int tr, .int (nI 1)])) :: wSh cS cI r0 qs qr hs la le C) := hD.same rfl
            exact hend _ _ _ _ _ _ (by rw [uCopy, if_pos ⟨c10, c18⟩, hxj, if_neg (fun q => absurd q.1 (by rw [c44]; decide))] <;> rfl) (by rw [show okCopy hs la le (nI 1) i (nI 1) d n = false from by simp [okCopy, hxj, hxjo, c44], fCopy, if_pos ⟨c10, c18⟩, hxj, if_neg (fun q => absurd q.1 (by rw [c44]; decide)), if_neg Bool.false_ne_true] <;> rfl) hP hS dX3_copy_60
          · skip
            refine lv_aload hx hb dX3_copy_47 (lv_at hl 0 rfl) ?_
            refine x_get (D := (dC, dI)) (ci := 1) (v := .int (bI (hs 1))) (C := RX1) (T := TX1) (N := 4) hx hb hts hinX1 hown hK hP 4 rfl rfl 1 (Nat.le_of_ble_eq_true rfl) hf184 rfl rfl dX3_copy_49 ?_
            refine x_ifb_ne (tgt := 61) hx hb dX3_copy_52 (by decide) (fun c52 => ?_) (fun c52 => ?_)
            · skip
              refine lv_aload hx hb dX3_copy_61 (lv_at hl 1 rfl) ?_
              refine x_get (D := (dC, dI)) (ci := 1) (v := .int (nI (la 1))) (C := RX1) (T := TX1) (N := 4) hx hb hts hinX1 hown hK hP 4 rfl rfl 2 (Nat.le_of_ble_eq_true rfl) hf196 rfl rfl dX3_copy_63 ?_
              refine lv_aload hx hb dX3_copy_66 (lv_at hl 0 rfl) ?_
              refine x_get (D := (dC, dI)) (ci := 1) (v := .int (nI (la 1))) (C := RX1) (T := TX1) (N := 4) hx hb hts hinX1 hown hK hP 4 rfl rfl 2 (Nat.le_of_ble_eq_true rfl) hf196 rfl rfl dX3_copy_68 ?_
              refine x_icmp_eq (tgt := 80) hx hb (by omega) (by omega) dX3_copy_71 (by decide) (fun c71 => ?_) (fun c71 => ?_)
              · skip
                refine lv_aload hx hb dX3_copy_80 (lv_at hl 1 rfl) ?_
                refine lv_iload_n hx hb dX3_copy_82 rfl (lv_at hl 4 rfl) ?_
                refine lv_iload hx hb dX3_copy_83 (lv_at hl 7 rfl) ?_
                refine roV_i (As := [.int i, .int n]) (rest := []) ⟨hx, hb, hml, hown, hts⟩ (kX1_hasSpan l dC dI cI (qs 1) (qr 1) (hs 1) (la 1) (le 1) (C 1) i n _ (by omega)) (cwV 2 hts gX3_copy_X1_hasSpan rfl rfl rfl hdX1_hasSpan ⟨Nat.le_trans (Nat.le_of_ble_eq_true rfl) hRf, Nat.le_trans (Nat.le_of_ble_eq_true rfl) hRl⟩) (va_recv hK hP (ci := 1) (q0 := 4) rfl rfl) (hK.sub [0] rfl) (hP.sub [4, 5] rfl) rfl hl.1 rfl (Nat.le_of_ble_eq_true rfl) dX3_copy_85 ⟨Nat.zero_le _, Nat.zero_le _⟩ hP hS hA (fun H locs hP hS => ?_)
                refine x_ifb_eq (tgt := 103) hx hb dX3_copy_88 (by decide) (fun c88 => ?_) (fun c88 => ?_)
                · skip
                  refine lv_aload_n hx hb dX3_copy_103 rfl (lv_at hl 2 rfl) ?_
                  refine lv_iconst (v := nI 3) hx hb dX3_copy_104 rfl ?_
                  refine rwW_i (As := [.int (nI 3)]) (rest := []) (wn := (a, .inr (3, [.ref r0, .ref r1, .ref g, .int tr, .int (nI 3)])) :: wSh cS cI r0 qs qr hs la le C) ⟨hx, hb, hml, hown, hts⟩ (kX3_failed l dC dI a r0 r1 g tr (nI 0) 3 _) (cwV 1 hts gX3_copy_X3_failed rfl rfl rfl hdX3_failed ⟨Nat.le_trans (Nat.le_of_ble_eq_true rfl) hRf, Nat.le_trans (Nat.le_of_ble_eq_true rfl) hRl⟩) (va_recv hK hP (ci := 3) (q0 := 0) rfl rfl) (hK.sub [] rfl) rfl hl.1 rfl (Nat.le_of_ble_eq_true rfl) dX3_copy_105 ⟨Nat.zero_le _, Nat.zero_le _⟩ hP hD hS hA [0] [1, 2, 3, 4, 5, 6, 7, 8, 9] [9, 0, 1, 2, 3, 4, 5, 6, 7, 8] rfl rfl (by decide) (by decide) (by decide) rfl rfl (fun H locs hP hS => ?_)
                  have hD : va_D Z ((a, .inr (3, [.ref r0, .ref r1, .ref g, .int tr, .int (nI 3)])) :: wSh cS cI r0 qs qr hs la le C) := hD.same rfl
                  exact hend _ _ _ _ _ _ (by rw [uCopy, if_pos ⟨c10, c18⟩, hxj, if_pos ⟨c44, c52⟩, if_pos c71, if_neg (fun q => absurd q.1 (by rw [c88]; decide))] <;> rfl) (by rw [show okCopy hs la le (nI 1) i (nI 1) d n = false from by simp [okCopy, hxj, hxjo, c88], fCopy, if_pos ⟨c10, c18⟩, hxj, if_pos ⟨c44, c52⟩, if_pos c71, if_neg (fun q => absurd q.1 (by rw [c88]; decide)), if_neg Bool.false_ne_true] <;> rfl) hP hS dX3_copy_108
                · skip
                  refine lv_aload hx hb dX3_copy_91 (lv_at hl 0 rfl) ?_
                  refine lv_iload hx hb dX3_copy_93 (lv_at hl 6 rfl) ?_
                  refine lv_iload hx hb dX3_copy_95 (lv_at hl 7 rfl) ?_
                  refine roV_i (As := [.int d, .int n]) (rest := []) ⟨hx, hb, hml, hown, hts⟩ (kX1_hasSpan l dC dI cI (qs 1) (qr 1) (hs 1) (la 1) (le 1) (C 1) d n _ (by omega)) (cwV 2 hts gX3_copy_X1_hasSpan rfl rfl rfl hdX1_hasSpan ⟨Nat.le_trans (Nat.le_of_ble_eq_true rfl) hRf, Nat.le_trans (Nat.le_of_ble_eq_true rfl) hRl⟩) (va_recv hK hP (ci := 1) (q0 := 4) rfl rfl) (hK.sub [0] rfl) (hP.sub [4, 5] rfl) rfl hl.1 rfl (Nat.le_of_ble_eq_true rfl) dX3_copy_97 ⟨Nat.zero_le _, Nat.zero_le _⟩ hP hS hA (fun H locs hP hS => ?_)
                  refine x_ifb_ne (tgt := 109) hx hb dX3_copy_100 (by decide) (fun c100 => ?_) (fun c100 => ?_)
                  · skip
                    obtain ⟨ia, na, hia, rfl, rfl⟩ := span_t (le := le 1) (by omega) c88
                    obtain ⟨da, nb, hda, rfl, hnb⟩ := span_t (le := le 1) (by omega) c100
                    have hnn : na = nb := (nI_eq (by omega) (by omega)).mp hnb
                    subst hnn
                    have hxia : xn (nI ia) = ia := xn_nI (by omega)
                    have hxda : xn (nI da) = da := xn_nI (by omega)
                    have hxna : xn (nI na) = na := xn_nI (by omega)
                    refine lv_aload hx hb dX3_copy_109 (lv_at hl 1 rfl) ?_
                    refine x_get (D := (dC, dI)) (ci := 1) (v := .ref (qr 1)) (C := RX1) (T := TX1) (N := 4) hx hb hts hinX1 hown hK hP 4 rfl rfl 0 (Nat.le_of_ble_eq_true rfl) hf193 rfl rfl dX3_copy_111 ?_
                    refine lv_iload_n hx hb dX3_copy_114 rfl (lv_at hl 4 rfl) ?_
                    refine lv_aload hx hb dX3_copy_115 (lv_at hl 0 rfl) ?_
                    refine x_get (D := (dC, dI)) (ci := 1) (v := .ref (qr 1)) (C := RX1) (T := TX1) (N := 4) hx hb hts hinX1 hown hK hP 4 rfl rfl 0 (Nat.le_of_ble_eq_true rfl) hf193 rfl rfl dX3_copy_117 ?_
                    refine lv_iload hx hb dX3_copy_120 (lv_at hl 6 rfl) ?_
                    refine lv_iload hx hb dX3_copy_122 (lv_at hl 7 rfl) ?_
                    refine x_copy (wn := (a, .inr (3, [.ref r0, .ref r1, .ref g, .int tr, .int (nI 0)])) :: wSh cS cI r0 qs qr hs la le (uC C 1 (va_cpy (C 1) (C 1) ia da na))) hx hb (hml.trans hl.1.symm) hown hl199 hnat hsta hiSys hK hP hD hS 5 5 0 rfl rfl rfl (by omega) (by omega) (by decide) (by decide) (Nat.le_trans (Nat.le_of_ble_eq_true rfl) hRf) (Nat.le_trans (Nat.le_of_ble_eq_true rfl) hRl) rfl dX3_copy_124 (fun H locs hP hS => ?_)
                    have hD : va_D Z ((a, .inr (3, [.ref r0, .ref r1, .ref g, .int tr, .int (nI 0)])) :: wSh cS cI r0 qs qr hs la le (uC C 1 (va_cpy (C 1) (C 1) ia da na))) := hD.same rfl
                    refine lv_iload hx hb dX3_copy_127 (lv_at hl 7 rfl) ?_
                    exact hend _ _ _ _ _ _ (by rw [uCopy, if_pos ⟨c10, c18⟩, hxj, if_pos ⟨c44, c52⟩, if_pos c71, if_pos ⟨c88, c100⟩] <;> rfl) (by rw [show okCopy hs la le (nI 1) (nI ia) (nI 1) (nI da) (nI na) = true from by simp [okCopy, hxj, hxjo, c10, c18, c44, c52, c71, c88, c100], fCopy, if_pos ⟨c10, c18⟩, hxj, if_pos ⟨c44, c52⟩, if_pos c71, if_pos ⟨c88, c100⟩, if_pos rfl, hxia, hxda, hxna] <;> rfl) hP hS dX3_copy_129
                  · skip
                    refine lv_aload_n hx hb dX3_copy_103 rfl (lv_at hl 2 rfl) ?_
                    refine lv_iconst (v := nI 3) hx hb dX3_copy_104 rfl ?_
                    refine rwW_i (As := [.int (nI 3)]) (rest := []) (wn := (a, .inr (3, [.ref r0, .ref r1, .ref g, .int tr, .int (nI 3)])) :: wSh cS cI r0 qs qr hs la le C) ⟨hx, hb, hml, hown, hts⟩ (kX3_failed l dC dI a r0 r1 g tr (nI 0) 3 _) (cwV 1 hts gX3_copy_X3_failed rfl rfl rfl hdX3_failed ⟨Nat.le_trans (Nat.le_of_ble_eq_true rfl) hRf, Nat.le_trans (Nat.le_of_ble_eq_true rfl) hRl⟩) (va_recv hK hP (ci := 3) (q0 := 0) rfl rfl) (hK.sub [] rfl) rfl hl.1 rfl (Nat.le_of_ble_eq_true rfl) dX3_copy_105 ⟨Nat.zero_le _, Nat.zero_le _⟩ hP hD hS hA [0] [1, 2, 3, 4, 5, 6, 7, 8, 9] [9, 0, 1, 2, 3, 4, 5, 6, 7, 8] rfl rfl (by decide) (by decide) (by decide) rfl rfl (fun H locs hP hS => ?_)
                    have hD : va_D Z ((a, .inr (3, [.ref r0, .ref r1, .ref g, .int tr, .int (nI 3)])) :: wSh cS cI r0 qs qr hs la le C) := hD.same rfl
                    exact hend _ _ _ _ _ _ (by rw [uCopy, if_pos ⟨c10, c18⟩, hxj, if_pos ⟨c44, c52⟩, if_pos c71, if_neg (fun q => absurd q.2 (by rw [c100]; decide))] <;> rfl) (by rw [show okCopy hs la le (nI 1) i (nI 1) d n = false from by simp [okCopy, hxj, hxjo, c100], fCopy, if_pos ⟨c10, c18⟩, hxj, if_pos ⟨c44, c52⟩, if_pos c71, if_neg (fun q => absurd q.2 (by rw [c100]; decide)), if_neg Bool.false_ne_true] <;> rfl) hP hS dX3_copy_108
              · skip
                exact absurd rfl c71
            · skip
              refine lv_aload_n hx hb dX3_copy_55 rfl (lv_at hl 2 rfl) ?_
              refine lv_iconst (v := nI 1) hx hb dX3_copy_56 rfl ?_
              refine rwW_i (As := [.int (nI 1)]) (rest := []) (wn := (a, .inr (3, [.ref r0, .ref r1, .ref g, .int tr, .int (nI 1)])) :: wSh cS cI r0 qs qr hs la le C) ⟨hx, hb, hml, hown, hts⟩ (kX3_failed l dC dI a r0 r1 g tr (nI 0) 1 _) (cwV 1 hts gX3_copy_X3_failed rfl rfl rfl hdX3_failed ⟨Nat.le_trans (Nat.le_of_ble_eq_true rfl) hRf, Nat.le_trans (Nat.le_of_ble_eq_true rfl) hRl⟩) (va_recv hK hP (ci := 3) (q0 := 0) rfl rfl) (hK.sub [] rfl) rfl hl.1 rfl (Nat.le_of_ble_eq_true rfl) dX3_copy_57 ⟨Nat.zero_le _, Nat.zero_le _⟩ hP hD hS hA [0] [1, 2, 3, 4, 5, 6, 7, 8, 9] [9, 0, 1, 2, 3, 4, 5, 6, 7, 8] rfl rfl (by decide) (by decide) (by decide) rfl rfl (fun H locs hP hS => ?_)
              have hD : va_D Z ((a, .inr (3, [.ref r0, .ref r1, .ref g, .int tr, .int (nI 1)])) :: wSh cS cI r0 qs qr hs la le C) := hD.same rfl
              exact hend _ _ _ _ _ _ (by rw [uCopy, if_pos ⟨c10, c18⟩, hxj, if_neg (fun q => absurd q.2 (by rw [c52]; decide))] <;> rfl) (by rw [show okCopy hs la le (nI 1) i (nI 1) d n = false from by simp [okCopy, hxj, hxjo, c52], fCopy, if_pos ⟨c10, c18⟩, hxj, if_neg (fun q => absurd q.2 (by rw [c52]; decide)), if_neg Bool.false_ne_true] <;> rfl) hP hS dX3_copy_60
        · skip
          refine x_aald (v := qs 2) hx hb hK hP 1 1 rfl rfl (by decide) (by decide) rfl dX3_copy_36 ?_
          refine lv_astore (lv' := [(7, .ref (qs 2)), (6, .ref (qs 1)), (0, .ref a), (1, .int (nI 1)), (2, .int i), (3, .int (nI 2)), (4, .int d), (5, .int n)]) hx hb dX3_copy_37 hl (by decide) rfl (fun ls hl => ?_)
          refine lv_aload hx hb dX3_copy_39 (lv_at hl 1 rfl) ?_
          refine x_get (D := (dC, dI)) (ci := 1) (v := .int (bI (hs 1))) (C := RX1) (T := TX1) (N := 4) hx hb hts hinX1 hown hK hP 4 rfl rfl 1 (Nat.le_of_ble_eq_true rfl) hf184 rfl rfl dX3_copy_41 ?_
          refine x_ifb_eq (tgt := 55) hx hb dX3_copy_44 (by decide) (fun c44 => ?_) (fun c44 => ?_)
          · skip
            refine lv_aload_n hx hb dX3_copy_55 rfl (lv_at hl 2 rfl) ?_
            refine lv_iconst (v := nI 1) hx hb dX3_copy_56 rfl ?_
            refine rwW_i (As := [.int (nI 1)]) (rest := []) (wn := (a, .inr (3, [.ref r0, .ref r1, .ref g, .int tr, .int (nI 1)])) :: wSh cS cI r0 qs qr hs la le C) ⟨hx, hb, hml, hown, hts⟩ (kX3_failed l dC dI a r0 r1 g tr (nI 0) 1 _) (cwV 1 hts gX3_copy_X3_failed rfl rfl rfl hdX3_failed ⟨Nat.le_trans (Nat.le_of_ble_eq_true rfl) hRf, Nat.le_trans (Nat.le_of_ble_eq_true rfl) hRl⟩) (va_recv hK hP (ci := 3) (q0 := 0) rfl rfl) (hK.sub [] rfl) rfl hl.1 rfl (Nat.le_of_ble_eq_true rfl) dX3_copy_57 ⟨Nat.zero_le _, Nat.zero_le _⟩ hP hD hS hA [0] [1, 2, 3, 4, 5, 6, 7, 8, 9] [9, 0, 1, 2, 3, 4, 5, 6, 7, 8] rfl rfl (by decide) (by decide) (by decide) rfl rfl (fun H locs hP hS => ?_)
            have hD : va_D Z ((a, .inr (3, [.ref r0, .ref r1, .ref g, .int tr, .int (nI 1)])) :: wSh cS cI r0 qs qr hs la le C) := hD.same rfl
            exact hend _ _ _ _ _ _ (by rw [uCopy, if_pos ⟨c10, c18⟩, hxj, hxjo, if_neg (fun q => absurd q.1 (by rw [c44]; decide))] <;> rfl) (by rw [show okCopy hs la le (nI 1) i (nI 2) d n = false from by simp [okCopy, hxj, hxjo, c44], fCopy, if_pos ⟨c10, c18⟩, hxj, hxjo, if_neg (fun q => absurd q.1 (by rw [c44]; decide)), if_neg Bool.false_ne_true] <;> rfl) hP hS dX3_copy_60
          · skip
            refine lv_aload hx hb dX3_copy_47 (lv_at hl 0 rfl) ?_
            refine x_get (D := (dC, dI)) (ci := 1) (v := .int (bI (hs 2))) (C := RX1) (T := TX1) (N := 4) hx hb hts hinX1 hown hK hP 6 rfl rfl 1 (Nat.le_of_ble_eq_true rfl) hf184 rfl rfl dX3_copy_49 ?_
            refine x_ifb_ne (tgt := 61) hx hb dX3_copy_52 (by decide) (fun c52 => ?_) (fun c52 => ?_)
            · skip
              refine lv_aload hx hb dX3_copy_61 (lv_at hl 1 rfl) ?_
              refine x_get (D := (dC, dI)) (ci := 1) (v := .int (nI (la 1))) (C := RX1) (T := TX1) (N := 4) hx hb hts hinX1 hown hK hP 4 rfl rfl 2 (Nat.le_of_ble_eq_true rfl) hf196 rfl rfl dX3_copy_63 ?_
              refine lv_aload hx hb dX3_copy_66 (lv_at hl 0 rfl) ?_
              refine x_get (D := (dC, dI)) (ci := 1) (v := .int (nI (la 2))) (C := RX1) (T := TX1) (N := 4) hx hb hts hinX1 hown hK hP 6 rfl rfl 2 (Nat.le_of_ble_eq_true rfl) hf196 rfl rfl dX3_copy_68 ?_
              refine x_icmp_eq (tgt := 80) hx hb (by omega) (by omega) dX3_copy_71 (by decide) (fun c71 => ?_) (fun c71 => ?_)
              · skip
                refine lv_aload hx hb dX3_copy_80 (lv_at hl 1 rfl) ?_
                refine lv_iload_n hx hb dX3_copy_82 rfl (lv_at hl 4 rfl) ?_
                refine lv_iload hx hb dX3_copy_83 (lv_at hl 7 rfl) ?_
                refine roV_i (As := [.int i, .int n]) (rest := []) ⟨hx, hb, hml, hown, hts⟩ (kX1_hasSpan l dC dI cI (qs 1) (qr 1) (hs 1) (la 1) (le 1) (C 1) i n _ (by omega)) (cwV 2 hts gX3_copy_X1_hasSpan rfl rfl rfl hdX1_hasSpan ⟨Nat.le_trans (Nat.le_of_ble_eq_true rfl) hRf, Nat.le_trans (Nat.le_of_ble_eq_true rfl) hRl⟩) (va_recv hK hP (ci := 1) (q0 := 4) rfl rfl) (hK.sub [0] rfl) (hP.sub [4, 5] rfl) rfl hl.1 rfl (Nat.le_of_ble_eq_true rfl) dX3_copy_85 ⟨Nat.zero_le _, Nat.zero_le _⟩ hP hS hA (fun H locs hP hS => ?_)
                refine x_ifb_eq (tgt := 103) hx hb dX3_copy_88 (by decide) (fun c88 => ?_) (fun c88 => ?_)
                · skip
                  refine lv_aload_n hx hb dX3_copy_103 rfl (lv_at hl 2 rfl) ?_
                  refine lv_iconst (v := nI 3) hx hb dX3_copy_104 rfl ?_
                  refine rwW_i (As := [.int (nI 3)]) (rest := []) (wn := (a, .inr (3, [.ref r0, .ref r1, .ref g, .int tr, .int (nI 3)])) :: wSh cS cI r0 qs qr hs la le C) ⟨hx, hb, hml, hown, hts⟩ (kX3_failed l dC dI a r0 r1 g tr (nI 0) 3 _) (cwV 1 hts gX3_copy_X3_failed rfl rfl rfl hdX3_failed ⟨Nat.le_trans (Nat.le_of_ble_eq_true rfl) hRf, Nat.le_trans (Nat.le_of_ble_eq_true rfl) hRl⟩) (va_recv hK hP (ci := 3) (q0 := 0) rfl rfl) (hK.sub [] rfl) rfl hl.1 rfl (Nat.le_of_ble_eq_true rfl) dX3_copy_105 ⟨Nat.zero_le _, Nat.zero_le _⟩ hP hD hS hA [0] [1, 2, 3, 4, 5, 6, 7, 8, 9] [9, 0, 1, 2, 3, 4, 5, 6, 7, 8] rfl rfl (by decide) (by decide) (by decide) rfl rfl (fun H locs hP hS => ?_)
                  have hD : va_D Z ((a, .inr (3, [.ref r0, .ref r1, .ref g, .int tr, .int (nI 3)])) :: wSh cS cI r0 qs qr hs la le C) := hD.same rfl
                  exact hend _ _ _ _ _ _ (by rw [uCopy, if_pos ⟨c10, c18⟩, hxj, hxjo, if_pos ⟨c44, c52⟩, if_pos c71, if_neg (fun q => absurd q.1 (by rw [c88]; decide))] <;> rfl) (by rw [show okCopy hs la le (nI 1) i (nI 2) d n = false from by simp [okCopy, hxj, hxjo, c88], fCopy, if_pos ⟨c10, c18⟩, hxj, hxjo, if_pos ⟨c44, c52⟩, if_pos c71, if_neg (fun q => absurd q.1 (by rw [c88]; decide)), if_neg Bool.false_ne_true] <;> rfl) hP hS dX3_copy_108
                · skip
                  refine lv_aload hx hb dX3_copy_91 (lv_at hl 0 rfl) ?_
                  refine lv_iload hx hb dX3_copy_93 (lv_at hl 6 rfl) ?_
                  refine lv_iload hx hb dX3_copy_95 (lv_at hl 7 rfl) ?_
                  refine roV_i (As := [.int d, .int n]) (rest := []) ⟨hx, hb, hml, hown, hts⟩ (kX1_hasSpan l dC dI cI (qs 2) (qr 2) (hs 2) (la 2) (le 2) (C 2) d n _ (by omega)) (cwV 2 hts gX3_copy_X1_hasSpan rfl rfl rfl hdX1_hasSpan ⟨Nat.le_trans (Nat.le_of_ble_eq_true rfl) hRf, Nat.le_trans (Nat.le_of_ble_eq_true rfl) hRl⟩) (va_recv hK hP (ci := 1) (q0 := 6) rfl rfl) (hK.sub [0] rfl) (hP.sub [6, 7] rfl) rfl hl.1 rfl (Nat.le_of_ble_eq_true rfl) dX3_copy_97 ⟨Nat.zero_le _, Nat.zero_le _⟩ hP hS hA (fun H locs hP hS => ?_)
                  refine x_ifb_ne (tgt := 109) hx hb dX3_copy_100 (by decide) (fun c100 => ?_) (fun c100 => ?_)
                  · skip
                    obtain ⟨ia, na, hia, rfl, rfl⟩ := span_t (le := le 1) (by omega) c88
                    obtain ⟨da, nb, hda, rfl, hnb⟩ := span_t (le := le 2) (by omega) c100
                    have hnn : na = nb := (nI_eq (by omega) (by omega)).mp hnb
                    subst hnn
                    have hxia : xn (nI ia) = ia := xn_nI (by omega)
                    have hxda : xn (nI da) = da := xn_nI (by omega)
                    have hxna : xn (nI na) = na := xn_nI (by omega)
                    refine lv_aload hx hb dX3_copy_109 (lv_at hl 1 rfl) ?_
                    refine x_get (D := (dC, dI)) (ci := 1) (v := .ref (qr 1)) (C := RX1) (T := TX1) (N := 4) hx hb hts hinX1 hown hK hP 4 rfl rfl 0 (Nat.le_of_ble_eq_true rfl) hf193 rfl rfl dX3_copy_111 ?_
                    refine lv_iload_n hx hb dX3_copy_114 rfl (lv_at hl 4 rfl) ?_
                    refine lv_aload hx hb dX3_copy_115 (lv_at hl 0 rfl) ?_
                    refine x_get (D := (dC, dI)) (ci := 1) (v := .ref (qr 2)) (C := RX1) (T := TX1) (N := 4) hx hb hts hinX1 hown hK hP 6 rfl rfl 0 (Nat.le_of_ble_eq_true rfl) hf193 rfl rfl dX3_copy_117 ?_
                    refine lv_iload hx hb dX3_copy_120 (lv_at hl 6 rfl) ?_
                    refine lv_iload hx hb dX3_copy_122 (lv_at hl 7 rfl) ?_
                    refine x_copy (wn := (a, .inr (3, [.ref r0, .ref r1, .ref g, .int tr, .int (nI 0)])) :: wSh cS cI r0 qs qr hs la le (uC C 2 (va_cpy (C 1) (C 2) ia da na))) hx hb (hml.trans hl.1.symm) hown hl199 hnat hsta hiSys hK hP hD hS 5 7 0 rfl rfl rfl (by omega) (by omega) (by decide) (by decide) (Nat.le_trans (Nat.le_of_ble_eq_true rfl) hRf) (Nat.le_trans (Nat.le_of_ble_eq_true rfl) hRl) rfl dX3_copy_124 (fun H locs hP hS => ?_)
                    have hD : va_D Z ((a, .inr (3, [.ref r0, .ref r1, .ref g, .int tr, .int (nI 0)])) :: wSh cS cI r0 qs qr hs la le (uC C 2 (va_cpy (C 1) (C 2) ia da na))) := hD.same rfl
                    refine lv_iload hx hb dX3_copy_127 (lv_at hl 7 rfl) ?_
                    exact hend _ _ _ _ _ _ (by rw [uCopy, if_pos ⟨c10, c18⟩, hxj, hxjo, if_pos ⟨c44, c52⟩, if_pos c71, if_pos ⟨c88, c100⟩] <;> rfl) (by rw [show okCopy hs la le (nI 1) (nI ia) (nI 2) (nI da) (nI na) = true from by simp [okCopy, hxj, hxjo, c10, c18, c44, c52, c71, c88, c100], fCopy, if_pos ⟨c10, c18⟩, hxj, hxjo, if_pos ⟨c44, c52⟩, if_pos c71, if_pos ⟨c88, c100⟩, if_pos rfl, hxia, hxda, hxna] <;> rfl) hP hS dX3_copy_129
                  · skip
                    refine lv_aload_n hx hb dX3_copy_103 rfl (lv_at hl 2 rfl) ?_
                    refine lv_iconst (v := nI 3) hx hb dX3_copy_104 rfl ?_
                    refine rwW_i (As := [.int (nI 3)]) (rest := []) (wn := (a, .inr (3, [.ref r0, .ref r1, .ref g, .int tr, .int (nI 3)])) :: wSh cS cI r0 qs qr hs la le C) ⟨hx, hb, hml, hown, hts⟩ (kX3_failed l dC dI a r0 r1 g tr (nI 0) 3 _) (cwV 1 hts gX3_copy_X3_failed rfl rfl rfl hdX3_failed ⟨Nat.le_trans (Nat.le_of_ble_eq_true rfl) hRf, Nat.le_trans (Nat.le_of_ble_eq_true rfl) hRl⟩) (va_recv hK hP (ci := 3) (q0 := 0) rfl rfl) (hK.sub [] rfl) rfl hl.1 rfl (Nat.le_of_ble_eq_true rfl) dX3_copy_105 ⟨Nat.zero_le _, Nat.zero_le _⟩ hP hD hS hA [0] [1, 2, 3, 4, 5, 6, 7, 8, 9] [9, 0, 1, 2, 3, 4, 5, 6, 7, 8] rfl rfl (by decide) (by decide) (by decide) rfl rfl (fun H locs hP hS => ?_)
                    have hD : va_D Z ((a, .inr (3, [.ref r0, .ref r1, .ref g, .int tr, .int (nI 3)])) :: wSh cS cI r0 qs qr hs la le C) := hD.same rfl
                    exact hend _ _ _ _ _ _ (by rw [uCopy, if_pos ⟨c10, c18⟩, hxj, hxjo, if_pos ⟨c44, c52⟩, if_pos c71, if_neg (fun q => absurd q.2 (by rw [c100]; decide))] <;> rfl) (by rw [show okCopy hs la le (nI 1) i (nI 2) d n = false from by simp [okCopy, hxj, hxjo, c100], fCopy, if_pos ⟨c10, c18⟩, hxj, hxjo, if_pos ⟨c44, c52⟩, if_pos c71, if_neg (fun q => absurd q.2 (by rw [c100]; decide)), if_neg Bool.false_ne_true] <;> rfl) hP hS dX3_copy_108
              · skip
                refine lv_aload_n hx hb dX3_copy_74 rfl (lv_at hl 2 rfl) ?_
                refine lv_iconst (v := nI 2) hx hb dX3_copy_75 rfl ?_
                refine rwW_i (As := [.int (nI 2)]) (rest := []) (wn := (a, .inr (3, [.ref r0, .ref r1, .ref g, .int tr, .int (nI 2)])) :: wSh cS cI r0 qs qr hs la le C) ⟨hx, hb, hml, hown, hts⟩ (kX3_failed l dC dI a r0 r1 g tr (nI 0) 2 _) (cwV 1 hts gX3_copy_X3_failed rfl rfl rfl hdX3_failed ⟨Nat.le_trans (Nat.le_of_ble_eq_true rfl) hRf, Nat.le_trans (Nat.le_of_ble_eq_true rfl) hRl⟩) (va_recv hK hP (ci := 3) (q0 := 0) rfl rfl) (hK.sub [] rfl) rfl hl.1 rfl (Nat.le_of_ble_eq_true rfl) dX3_copy_76 ⟨Nat.zero_le _, Nat.zero_le _⟩ hP hD hS hA [0] [1, 2, 3, 4, 5, 6, 7, 8, 9] [9, 0, 1, 2, 3, 4, 5, 6, 7, 8] rfl rfl (by decide) (by decide) (by decide) rfl rfl (fun H locs hP hS => ?_)
                have hD : va_D Z ((a, .inr (3, [.ref r0, .ref r1, .ref g, .int tr, .int (nI 2)])) :: wSh cS cI r0 qs qr hs la le C) := hD.same rfl
                exact hend _ _ _ _ _ _ (by rw [uCopy, if_pos ⟨c10, c18⟩, hxj, hxjo, if_pos ⟨c44, c52⟩, if_neg c71] <;> rfl) (by rw [show okCopy hs la le (nI 1) i (nI 2) d n = false from by simp [okCopy, hxj, hxjo, c71], fCopy, if_pos ⟨c10, c18⟩, hxj, hxjo, if_pos ⟨c44, c52⟩, if_neg c71, if_neg Bool.false_ne_true] <;> rfl) hP hS dX3_copy_79
            · skip
              refine lv_aload_n hx hb dX3_copy_55 rfl (lv_at hl 2 rfl) ?_
              refine lv_iconst (v := nI 1) hx hb dX3_copy_56 rfl ?_
              refine rwW_i (As := [.int (nI 1)]) (rest := []) (wn := (a, .inr (3, [.ref r0, .ref r1, .ref g, .int tr, .int (nI 1)])) :: wSh cS cI r0 qs qr hs la le C) ⟨hx, hb, hml, hown, hts⟩ (kX3_failed l dC dI a r0 r1 g tr (nI 0) 1 _) (cwV 1 hts gX3_copy_X3_failed rfl rfl rfl hdX3_failed ⟨Nat.le_trans (Nat.le_of_ble_eq_true rfl) hRf, Nat.le_trans (Nat.le_of_ble_eq_true rfl) hRl⟩) (va_recv hK hP (ci := 3) (q0 := 0) rfl rfl) (hK.sub [] rfl) rfl hl.1 rfl (Nat.le_of_ble_eq_true rfl) dX3_copy_57 ⟨Nat.zero_le _, Nat.zero_le _⟩ hP hD hS hA [0] [1, 2, 3, 4, 5, 6, 7, 8, 9] [9, 0, 1, 2, 3, 4, 5, 6, 7, 8] rfl rfl (by decide) (by decide) (by decide) rfl rfl (fun H locs hP hS => ?_)
              have hD : va_D Z ((a, .inr (3, [.ref r0, .ref r1, .ref g, .int tr, .int (nI 1)])) :: wSh cS cI r0 qs qr hs la le C) := hD.same rfl
              exact hend _ _ _ _ _ _ (by rw [uCopy, if_pos ⟨c10, c18⟩, hxj, hxjo, if_neg (fun q => absurd q.2 (by rw [c52]; decide))] <;> rfl) (by rw [show okCopy hs la le (nI 1) i (nI 2) d n = false from by simp [okCopy, hxj, hxjo, c52], fCopy, if_pos ⟨c10, c18⟩, hxj, hxjo, if_neg (fun q => absurd q.2 (by rw [c52]; decide)), if_neg Bool.false_ne_true] <;> rfl) hP hS dX3_copy_60
        · skip
          refine x_aald (v := qs 3) hx hb hK hP 1 1 rfl rfl (by decide) (by decide) rfl dX3_copy_36 ?_
          refine lv_astore (lv' := [(7, .ref (qs 3)), (6, .ref (qs 1)), (0, .ref a), (1, .int (nI 1)), (2, .int i), (3, .int (nI 3)), (4, .int d), (5, .int n)]) hx hb dX3_copy_37 hl (by decide) rfl (fun ls hl => ?_)
          refine lv_aload hx hb dX3_copy_39 (lv_at hl 1 rfl) ?_
          refine x_get (D := (dC, dI)) (ci := 1) (v := .int (bI (hs 1))) (C := RX1) (T := TX1) (N := 4) hx hb hts hinX1 hown hK hP 4 rfl rfl 1 (Nat.le_of_ble_eq_true rfl) hf184 rfl rfl dX3_copy_41 ?_
          refine x_ifb_eq (tgt := 55) hx hb dX3_copy_44 (by decide) (fun c44 => ?_) (fun c44 => ?_)
          · skip
            refine lv_aload_n hx hb dX3_copy_55 rfl (lv_at hl 2 rfl) ?_
            refine lv_iconst (v := nI 1) hx hb dX3_copy_56 rfl ?_
            refine rwW_i (As := [.int (nI 1)]) (rest := []) (wn := (a, .inr (3, [.ref r0, .ref r1, .ref g, .int tr, .int (nI 1)])) :: wSh cS cI r0 qs qr hs la le C) ⟨hx, hb, hml, hown, hts⟩ (kX3_failed l dC dI a r0 r1 g tr (nI 0) 1 _) (cwV 1 hts gX3_copy_X3_failed rfl rfl rfl hdX3_failed ⟨Nat.le_trans (Nat.le_of_ble_eq_true rfl) hRf, Nat.le_trans (Nat.le_of_ble_eq_true rfl) hRl⟩) (va_recv hK hP (ci := 3) (q0 := 0) rfl rfl) (hK.sub [] rfl) rfl hl.1 rfl (Nat.le_of_ble_eq_true rfl) dX3_copy_57 ⟨Nat.zero_le _, Nat.zero_le _⟩ hP hD hS hA [0] [1, 2, 3, 4, 5, 6, 7, 8, 9] [9, 0, 1, 2, 3, 4, 5, 6, 7, 8] rfl rfl (by decide) (by decide) (by decide) rfl rfl (fun H locs hP hS => ?_)
            have hD : va_D Z ((a, .inr (3, [.ref r0, .ref r1, .ref g, .int tr, .int (nI 1)])) :: wSh cS cI r0 qs qr hs la le C) := hD.same rfl
            exact hend _ _ _ _ _ _ (by rw [uCopy, if_pos ⟨c10, c18⟩, hxj, hxjo, if_neg (fun q => absurd q.1 (by rw [c44]; decide))] <;> rfl) (by rw [show okCopy hs la le (nI 1) i (nI 3) d n = false from by simp [okCopy, hxj, hxjo, c44], fCopy, if_pos ⟨c10, c18⟩, hxj, hxjo, if_neg (fun q => absurd q.1 (by rw [c44]; decide)), if_neg Bool.false_ne_true] <;> rfl) hP hS dX3_copy_60
          · skip
            refine lv_aload hx hb dX3_copy_47 (lv_at hl 0 rfl) ?_
            refine x_get (D := (dC, dI)) (ci := 1) (v := .int (bI (hs 3))) (C := RX1) (T := TX1) (N := 4) hx hb hts hinX1 hown hK hP 8 rfl rfl 1 (Nat.le_of_ble_eq_true rfl) hf184 rfl rfl dX3_copy_49 ?_
            refine x_ifb_ne (tgt := 61) hx hb dX3_copy_52 (by decide) (fun c52 => ?_) (fun c52 => ?_)
            · skip
              refine lv_aload hx hb dX3_copy_61 (lv_at hl 1 rfl) ?_
              refine x_get (D := (dC, dI)) (ci := 1) (v := .int (nI (la 1))) (C := RX1) (T := TX1) (N := 4) hx hb hts hinX1 hown hK hP 4 rfl rfl 2 (Nat.le_of_ble_eq_true rfl) hf196 rfl rfl dX3_copy_63 ?_
              refine lv_aload hx hb dX3_copy_66 (lv_at hl 0 rfl) ?_
              refine x_get (D := (dC, dI)) (ci := 1) (v := .int (nI (la 3))) (C := RX1) (T := TX1) (N := 4) hx hb hts hinX1 hown hK hP 8 rfl rfl 2 (Nat.le_of_ble_eq_true rfl) hf196 rfl rfl dX3_copy_68 ?_
              refine x_icmp_eq (tgt := 80) hx hb (by omega) (by omega) dX3_copy_71 (by decide) (fun c71 => ?_) (fun c71 => ?_)
              · skip
                refine lv_aload hx hb dX3_copy_80 (lv_at hl 1 rfl) ?_
                refine lv_iload_n hx hb dX3_copy_82 rfl (lv_at hl 4 rfl) ?_
                refine lv_iload hx hb dX3_copy_83 (lv_at hl 7 rfl) ?_
                refine roV_i (As := [.int i, .int n]) (rest := []) ⟨hx, hb, hml, hown, hts⟩ (kX1_hasSpan l dC dI cI (qs 1) (qr 1) (hs 1) (la 1) (le 1) (C 1) i n _ (by omega)) (cwV 2 hts gX3_copy_X1_hasSpan rfl rfl rfl hdX1_hasSpan ⟨Nat.le_trans (Nat.le_of_ble_eq_true rfl) hRf, Nat.le_trans (Nat.le_of_ble_eq_true rfl) hRl⟩) (va_recv hK hP (ci := 1) (q0 := 4) rfl rfl) (hK.sub [0] rfl) (hP.sub [4, 5] rfl) rfl hl.1 rfl (Nat.le_of_ble_eq_true rfl) dX3_copy_85 ⟨Nat.zero_le _, Nat.zero_le _⟩ hP hS hA (fun H locs hP hS => ?_)
                refine x_ifb_eq (tgt := 103) hx hb dX3_copy_88 (by decide) (fun c88 => ?_) (fun c88 => ?_)
                · skip
                  refine lv_aload_n hx hb dX3_copy_103 rfl (lv_at hl 2 rfl) ?_
                  refine lv_iconst (v := nI 3) hx hb dX3_copy_104 rfl ?_
                  refine rwW_i (As := [.int (nI 3)]) (rest := []) (wn := (a, .inr (3, [.ref r0, .ref r1, .ref g, .int tr, .int (nI 3)])) :: wSh cS cI r0 qs qr hs la le C) ⟨hx, hb, hml, hown, hts⟩ (kX3_failed l dC dI a r0 r1 g tr (nI 0) 3 _) (cwV 1 hts gX3_copy_X3_failed rfl rfl rfl hdX3_failed ⟨Nat.le_trans (Nat.le_of_ble_eq_true rfl) hRf, Nat.le_trans (Nat.le_of_ble_eq_true rfl) hRl⟩) (va_recv hK hP (ci := 3) (q0 := 0) rfl rfl) (hK.sub [] rfl) rfl hl.1 rfl (Nat.le_of_ble_eq_true rfl) dX3_copy_105 ⟨Nat.zero_le _, Nat.zero_le _⟩ hP hD hS hA [0] [1, 2, 3, 4, 5, 6, 7, 8, 9] [9, 0, 1, 2, 3, 4, 5, 6, 7, 8] rfl rfl (by decide) (by decide) (by decide) rfl rfl (fun H locs hP hS => ?_)
                  have hD : va_D Z ((a, .inr (3, [.ref r0, .ref r1, .ref g, .int tr, .int (nI 3)])) :: wSh cS cI r0 qs qr hs la le C) := hD.same rfl
                  exact hend _ _ _ _ _ _ (by rw [uCopy, if_pos ⟨c10, c18⟩, hxj, hxjo, if_pos ⟨c44, c52⟩, if_pos c71, if_neg (fun q => absurd q.1 (by rw [c88]; decide))] <;> rfl) (by rw [show okCopy hs la le (nI 1) i (nI 3) d n = false from by simp [okCopy, hxj, hxjo, c88], fCopy, if_pos ⟨c10, c18⟩, hxj, hxjo, if_pos ⟨c44, c52⟩, if_pos c71, if_neg (fun q => absurd q.1 (by rw [c88]; decide)), if_neg Bool.false_ne_true] <;> rfl) hP hS dX3_copy_108
                · skip
                  refine lv_aload hx hb dX3_copy_91 (lv_at hl 0 rfl) ?_
                  refine lv_iload hx hb dX3_copy_93 (lv_at hl 6 rfl) ?_
                  refine lv_iload hx hb dX3_copy_95 (lv_at hl 7 rfl) ?_
                  refine roV_i (As := [.int d, .int n]) (rest := []) ⟨hx, hb, hml, hown, hts⟩ (kX1_hasSpan l dC dI cI (qs 3) (qr 3) (hs 3) (la 3) (le 3) (C 3) d n _ (by omega)) (cwV 2 hts gX3_copy_X1_hasSpan rfl rfl rfl hdX1_hasSpan ⟨Nat.le_trans (Nat.le_of_ble_eq_true rfl) hRf, Nat.le_trans (Nat.le_of_ble_eq_true rfl) hRl⟩) (va_recv hK hP (ci := 1) (q0 := 8) rfl rfl) (hK.sub [0] rfl) (hP.sub [8, 9] rfl) rfl hl.1 rfl (Nat.le_of_ble_eq_true rfl) dX3_copy_97 ⟨Nat.zero_le _, Nat.zero_le _⟩ hP hS hA (fun H locs hP hS => ?_)
                  refine x_ifb_ne (tgt := 109) hx hb dX3_copy_100 (by decide) (fun c100 => ?_) (fun c100 => ?_)
                  · skip
                    obtain ⟨ia, na, hia, rfl, rfl⟩ := span_t (le := le 1) (by omega) c88
                    obtain ⟨da, nb, hda, rfl, hnb⟩ := span_t (le := le 3) (by omega) c100
                    have hnn : na = nb := (nI_eq (by omega) (by omega)).mp hnb
                    subst hnn
                    have hxia : xn (nI ia) = ia := xn_nI (by omega)
                    have hxda : xn (nI da) = da := xn_nI (by omega)
                    have hxna : xn (nI na) = na := xn_nI (by omega)
                    refine lv_aload hx hb dX3_copy_109 (lv_at hl 1 rfl) ?_
                    refine x_get (D := (dC, dI)) (ci := 1) (v := .ref (qr 1)) (C := RX1) (T := TX1) (N := 4) hx hb hts hinX1 hown hK hP 4 rfl rfl 0 (Nat.le_of_ble_eq_true rfl) hf193 rfl rfl dX3_copy_111 ?_
                    refine lv_iload_n hx hb dX3_copy_114 rfl (lv_at hl 4 rfl) ?_
                    refine lv_aload hx hb dX3_copy_115 (lv_at hl 0 rfl) ?_
                    refine x_get (D := (dC, dI)) (ci := 1) (v := .ref (qr 3)) (C := RX1) (T := TX1) (N := 4) hx hb hts hinX1 hown hK hP 8 rfl rfl 0 (Nat.le_of_ble_eq_true rfl) hf193 rfl rfl dX3_copy_117 ?_
                    refine lv_iload hx hb dX3_copy_120 (lv_at hl 6 rfl) ?_
                    refine lv_iload hx hb dX3_copy_122 (lv_at hl 7 rfl) ?_
                    refine x_copy (wn := (a, .inr (3, [.ref r0, .ref r1, .ref g, .int tr, .int (nI 0)])) :: wSh cS cI r0 qs qr hs la le (uC C 3 (va_cpy (C 1) (C 3) ia da na))) hx hb (hml.trans hl.1.symm) hown hl199 hnat hsta hiSys hK hP hD hS 5 9 0 rfl rfl rfl (by omega) (by omega) (by decide) (by decide) (Nat.le_trans (Nat.le_of_ble_eq_true rfl) hRf) (Nat.le_trans (Nat.le_of_ble_eq_true rfl) hRl) rfl dX3_copy_124 (fun H locs hP hS => ?_)
                    have hD : va_D Z ((a, .inr (3, [.ref r0, .ref r1, .ref g, .int tr, .int (nI 0)])) :: wSh cS cI r0 qs qr hs la le (uC C 3 (va_cpy (C 1) (C 3) ia da na))) := hD.same rfl
                    refine lv_iload hx hb dX3_copy_127 (lv_at hl 7 rfl) ?_
                    exact hend _ _ _ _ _ _ (by rw [uCopy, if_pos ⟨c10, c18⟩, hxj, hxjo, if_pos ⟨c44, c52⟩, if_pos c71, if_pos ⟨c88, c100⟩] <;> rfl) (by rw [show okCopy hs la le (nI 1) (nI ia) (nI 3) (nI da) (nI na) = true from by simp [okCopy, hxj, hxjo, c10, c18, c44, c52, c71, c88, c100], fCopy, if_pos ⟨c10, c18⟩, hxj, hxjo, if_pos ⟨c44, c52⟩, if_pos c71, if_pos ⟨c88, c100⟩, if_pos rfl, hxia, hxda, hxna] <;> rfl) hP hS dX3_copy_129
                  · skip
                    refine lv_aload_n hx hb dX3_copy_103 rfl (lv_at hl 2 rfl) ?_
                    refine lv_iconst (v := nI 3) hx hb dX3_copy_104 rfl ?_
                    refine rwW_i (As := [.int (nI 3)]) (rest := []) (wn := (a, .inr (3, [.ref r0, .ref r1, .ref g, .int tr, .int (nI 3)])) :: wSh cS cI r0 qs qr hs la le C) ⟨hx, hb, hml, hown, hts⟩ (kX3_failed l dC dI a r0 r1 g tr (nI 0) 3 _) (cwV 1 hts gX3_copy_X3_failed rfl rfl rfl hdX3_failed ⟨Nat.le_trans (Nat.le_of_ble_eq_true rfl) hRf, Nat.le_trans (Nat.le_of_ble_eq_true rfl) hRl⟩) (va_recv hK hP (ci := 3) (q0 := 0) rfl rfl) (hK.sub [] rfl) rfl hl.1 rfl (Nat.le_of_ble_eq_true rfl) dX3_copy_105 ⟨Nat.zero_le _, Nat.zero_le _⟩ hP hD hS hA [0] [1, 2, 3, 4, 5, 6, 7, 8, 9] [9, 0, 1, 2, 3, 4, 5, 6, 7, 8] rfl rfl (by decide) (by decide) (by decide) rfl rfl (fun H locs hP hS => ?_)
                    have hD : va_D Z ((a, .inr (3, [.ref r0, .ref r1, .ref g, .int tr, .int (nI 3)])) :: wSh cS cI r0 qs qr hs la le C) := hD.same rfl
                    exact hend _ _ _ _ _ _ (by rw [uCopy, if_pos ⟨c10, c18⟩, hxj, hxjo, if_pos ⟨c44, c52⟩, if_pos c71, if_neg (fun q => absurd q.2 (by rw [c100]; decide))] <;> rfl) (by rw [show okCopy hs la le (nI 1) i (nI 3) d n = false from by simp [okCopy, hxj, hxjo, c100], fCopy, if_pos ⟨c10, c18⟩, hxj, hxjo, if_pos ⟨c44, c52⟩, if_pos c71, if_neg (fun q => absurd q.2 (by rw [c100]; decide)), if_neg Bool.false_ne_true] <;> rfl) hP hS dX3_copy_108
              · skip
                refine lv_aload_n hx hb dX3_copy_74 rfl (lv_at hl 2 rfl) ?_
                refine lv_iconst (v := nI 2) hx hb dX3_copy_75 rfl ?_
                refine rwW_i (As := [.int (nI 2)]) (rest := []) (wn := (a, .inr (3, [.ref r0, .ref r1, .ref g, .int tr, .int (nI 2)])) :: wSh cS cI r0 qs qr hs la le C) ⟨hx, hb, hml, hown, hts⟩ (kX3_failed l dC dI a r0 r1 g tr (nI 0) 2 _) (cwV 1 hts gX3_copy_X3_failed rfl rfl rfl hdX3_failed ⟨Nat.le_trans (Nat.le_of_ble_eq_true rfl) hRf, Nat.le_trans (Nat.le_of_ble_eq_true rfl) hRl⟩) (va_recv hK hP (ci := 3) (q0 := 0) rfl rfl) (hK.sub [] rfl) rfl hl.1 rfl (Nat.le_of_ble_eq_true rfl) dX3_copy_76 ⟨Nat.zero_le _, Nat.zero_le _⟩ hP hD hS hA [0] [1, 2, 3, 4, 5, 6, 7, 8, 9] [9, 0, 1, 2, 3, 4, 5, 6, 7, 8] rfl rfl (by decide) (by decide) (by decide) rfl rfl (fun H locs hP hS => ?_)
                have hD : va_D Z ((a, .inr (3, [.ref r0, .ref r1, .ref g, .int tr, .int (nI 2)])) :: wSh cS cI r0 qs qr hs la le C) := hD.same rfl
                exact hend _ _ _ _ _ _ (by rw [uCopy, if_pos ⟨c10, c18⟩, hxj, hxjo, if_pos ⟨c44, c52⟩, if_neg c71] <;> rfl) (by rw [show okCopy hs la le (nI 1) i (nI 3) d n = false from by simp [okCopy, hxj, hxjo, c71], fCopy, if_pos ⟨c10, c18⟩, hxj, hxjo, if_pos ⟨c44, c52⟩, if_neg c71, if_neg Bool.false_ne_true] <;> rfl) hP hS dX3_copy_79
            · skip
              refine lv_aload_n hx hb dX3_copy_55 rfl (lv_at hl 2 rfl) ?_
              refine lv_iconst (v := nI 1) hx hb dX3_copy_56 rfl ?_
              refine rwW_i (As := [.int (nI 1)]) (rest := []) (wn := (a, .inr (3, [.ref r0, .ref r1, .ref g, .int tr, .int (nI 1)])) :: wSh cS cI r0 qs qr hs la le C) ⟨hx, hb, hml, hown, hts⟩ (kX3_failed l dC dI a r0 r1 g tr (nI 0) 1 _) (cwV 1 hts gX3_copy_X3_failed rfl rfl rfl hdX3_failed ⟨Nat.le_trans (Nat.le_of_ble_eq_true rfl) hRf, Nat.le_trans (Nat.le_of_ble_eq_true rfl) hRl⟩) (va_recv hK hP (ci := 3) (q0 := 0) rfl rfl) (hK.sub [] rfl) rfl hl.1 rfl (Nat.le_of_ble_eq_true rfl) dX3_copy_57 ⟨Nat.zero_le _, Nat.zero_le _⟩ hP hD hS hA [0] [1, 2, 3, 4, 5, 6, 7, 8, 9] [9, 0, 1, 2, 3, 4, 5, 6, 7, 8] rfl rfl (by decide) (by decide) (by decide) rfl rfl (fun H locs hP hS => ?_)
              have hD : va_D Z ((a, .inr (3, [.ref r0, .ref r1, .ref g, .int tr, .int (nI 1)])) :: wSh cS cI r0 qs qr hs la le C) := hD.same rfl
              exact hend _ _ _ _ _ _ (by rw [uCopy, if_pos ⟨c10, c18⟩, hxj, hxjo, if_neg (fun q => absurd q.2 (by rw [c52]; decide))] <;> rfl) (by rw [show okCopy hs la le (nI 1) i (nI 3) d n = false from by simp [okCopy, hxj, hxjo, c52], fCopy, if_pos ⟨c10, c18⟩, hxj, hxjo, if_neg (fun q => absurd q.2 (by rw [c52]; decide)), if_neg Bool.false_ne_true] <;> rfl) hP hS dX3_copy_60
      · skip
        refine x_aald (v := qs 2) hx hb hK hP 1 1 rfl rfl (by decide) (by decide) rfl dX3_copy_28 ?_
        refine lv_astore (lv' := [(6, .ref (qs 2)), (0, .ref a), (1, .int (nI 2)), (2, .int i), (3, .int (nI jo)), (4, .int d), (5, .int n)]) hx hb dX3_copy_29 hl (by decide) rfl (fun ls hl => ?_)
        refine lv_aload_n hx hb dX3_copy_31 rfl (lv_at hl 1 rfl) ?_
        refine x_get (D := (dC, dI)) (ci := 3) (v := .ref r0) (C := RX3) (T := TX3) (N := 5) hx hb hts hinX3 hown hK hP 0 rfl rfl 0 (Nat.le_of_ble_eq_true rfl) hf13 rfl rfl dX3_copy_32 ?_
        refine lv_iload_n hx hb dX3_copy_35 rfl (lv_at hl 4 rfl) ?_
        rcases (show jo = 0 ∨ jo = 1 ∨ jo = 2 ∨ jo = 3 by omega) with rfl | rfl | rfl | rfl
        · skip
          refine x_aald (v := qs 0) hx hb hK hP 1 1 rfl rfl (by decide) (by decide) rfl dX3_copy_36 ?_
          refine lv_astore (lv' := [(7, .ref (qs 0)), (6, .ref (qs 2)), (0, .ref a), (1, .int (nI 2)), (2, .int i), (3, .int (nI 0)), (4, .int d), (5, .int n)]) hx hb dX3_copy_37 hl (by decide) rfl (fun ls hl => ?_)
          refine lv_aload hx hb dX3_copy_39 (lv_at hl 1 rfl) ?_
          refine x_get (D := (dC, dI)) (ci := 1) (v := .int (bI (hs 2))) (C := RX1) (T := TX1) (N := 4) hx hb hts hinX1 hown hK hP 6 rfl rfl 1 (Nat.le_of_ble_eq_true rfl) hf184 rfl rfl dX3_copy_41 ?_
          refine x_ifb_eq (tgt := 55) hx hb dX3_copy_44 (by decide) (fun c44 => ?_) (fun c44 => ?_)
          · skip
            refine lv_aload_n hx hb dX3_copy_55 rfl (lv_at hl 2 rfl) ?_
            refine lv_iconst (v := nI 1) hx hb dX3_copy_56 rfl ?_
            refine rwW_i (As := [.int (nI 1)]) (rest := []) (wn := (a, .inr (3, [.ref r0, .ref r1, .ref g, .int tr, .int (nI 1)])) :: wSh cS cI r0 qs qr hs la le C) ⟨hx, hb, hml, hown, hts⟩ (kX3_failed l dC dI a r0 r1 g tr (nI 0) 1 _) (cwV 1 hts gX3_copy_X3_failed rfl rfl rfl hdX3_failed ⟨Nat.le_trans (Nat.le_of_ble_eq_true rfl) hRf, Nat.le_trans (Nat.le_of_ble_eq_true rfl) hRl⟩) (va_recv hK hP (ci := 3) (q0 := 0) rfl rfl) (hK.sub [] rfl) rfl hl.1 rfl (Nat.le_of_ble_eq_true rfl) dX3_copy_57 ⟨Nat.zero_le _, Nat.zero_le _⟩ hP hD hS hA [0] [1, 2, 3, 4, 5, 6, 7, 8, 9] [9, 0, 1, 2, 3, 4, 5, 6, 7, 8] rfl rfl (by decide) (by decide) (by decide) rfl rfl (fun H locs hP hS => ?_)
            have hD : va_D Z ((a, .inr (3, [.ref r0, .ref r1, .ref g, .int tr, .int (nI 1)])) :: wSh cS cI r0 qs qr hs la le C) := hD.same rfl
            exact hend _ _ _ _ _ _ (by rw [uCopy, if_pos ⟨c10, c18⟩, hxj, hxjo, if_neg (fun q => absurd q.1 (by rw [c44]; decide))] <;> rfl) (by rw [show okCopy hs la le (nI 2) i (nI 0) d n = false from by simp [okCopy, hxj, hxjo, c44], fCopy, if_pos ⟨c10, c18⟩, hxj, hxjo, if_neg (fun q => absurd q.1 (by rw [c44]; decide)), if_neg Bool.false_ne_true] <;> rfl) hP hS dX3_copy_60
          · skip
            refine lv_aload hx hb dX3_copy_47 (lv_at hl 0 rfl) ?_
            refine x_get (D := (dC, dI)) (ci := 1) (v := .int (bI (hs 0))) (C := RX1) (T := TX1) (N := 4) hx hb hts hinX1 hown hK hP 2 rfl rfl 1 (Nat.le_of_ble_eq_true rfl) hf184 rfl rfl dX3_copy_49 ?_
            refine x_ifb_ne (tgt := 61) hx hb dX3_copy_52 (by decide) (fun c52 => ?_) (fun c52 => ?_)
            · skip
              refine lv_aload hx hb dX3_copy_61 (lv_at hl 1 rfl) ?_
              refine x_get (D := (dC, dI)) (ci := 1) (v := .int (nI (la 2))) (C := RX1) (T := TX1) (N := 4) hx hb hts hinX1 hown hK hP 6 rfl rfl 2 (Nat.le_of_ble_eq_true rfl) hf196 rfl rfl dX3_copy_63 ?_
              refine lv_aload hx hb dX3_copy_66 (lv_at hl 0 rfl) ?_
              refine x_get (D := (dC, dI)) (ci := 1) (v := .int (nI (la 0))) (C := RX1) (T := TX1) (N := 4) hx hb hts hinX1 hown hK hP 2 rfl rfl 2 (Nat.le_of_ble_eq_true rfl) hf196 rfl rfl dX3_copy_68 ?_
              refine x_icmp_eq (tgt := 80) hx hb (by omega) (by omega) dX3_copy_71 (by decide) (fun c71 => ?_) (fun c71 => ?_)
              · skip
                refine lv_aload hx hb dX3_copy_80 (lv_at hl 1 rfl) ?_
                refine lv_iload_n hx hb dX3_copy_82 rfl (lv_at hl 4 rfl) ?_
                refine lv_iload hx hb dX3_copy_83 (lv_at hl 7 rfl) ?_
                refine roV_i (As := [.int i, .int n]) (rest := []) ⟨hx, hb, hml, hown, hts⟩ (kX1_hasSpan l dC dI cI (qs 2) (qr 2) (hs 2) (la 2) (le 2) (C 2) i n _ (by omega)) (cwV 2 hts gX3_copy_X1_hasSpan rfl rfl rfl hdX1_hasSpan ⟨Nat.le_trans (Nat.le_of_ble_eq_true rfl) hRf, Nat.le_trans (Nat.le_of_ble_eq_true rfl) hRl⟩) (va_recv hK hP (ci := 1) (q0 := 6) rfl rfl) (hK.sub [0] rfl) (hP.sub [6, 7] rfl) rfl hl.1 rfl (Nat.le_of_ble_eq_true rfl) dX3_copy_85 ⟨Nat.zero_le _, Nat.zero_le _⟩ hP hS hA (fun H locs hP hS => ?_)
                refine x_ifb_eq (tgt := 103) hx hb dX3_copy_88 (by decide) (fun c88 => ?_) (fun c88 => ?_)
                · skip
                  refine lv_aload_n hx hb dX3_copy_103 rfl (lv_at hl 2 rfl) ?_
                  refine lv_iconst (v := nI 3) hx hb dX3_copy_104 rfl ?_
                  refine rwW_i (As := [.int (nI 3)]) (rest := []) (wn := (a, .inr (3, [.ref r0, .ref r1, .ref g, .int tr, .int (nI 3)])) :: wSh cS cI r0 qs qr hs la le C) ⟨hx, hb, hml, hown, hts⟩ (kX3_failed l dC dI a r0 r1 g tr (nI 0) 3 _) (cwV 1 hts gX3_copy_X3_failed rfl rfl rfl hdX3_failed ⟨Nat.le_trans (Nat.le_of_ble_eq_true rfl) hRf, Nat.le_trans (Nat.le_of_ble_eq_true rfl) hRl⟩) (va_recv hK hP (ci := 3) (q0 := 0) rfl rfl) (hK.sub [] rfl) rfl hl.1 rfl (Nat.le_of_ble_eq_true rfl) dX3_copy_105 ⟨Nat.zero_le _, Nat.zero_le _⟩ hP hD hS hA [0] [1, 2, 3, 4, 5, 6, 7, 8, 9] [9, 0, 1, 2, 3, 4, 5, 6, 7, 8] rfl rfl (by decide) (by decide) (by decide) rfl rfl (fun H locs hP hS => ?_)
                  have hD : va_D Z ((a, .inr (3, [.ref r0, .ref r1, .ref g, .int tr, .int (nI 3)])) :: wSh cS cI r0 qs qr hs la le C) := hD.same rfl
                  exact hend _ _ _ _ _ _ (by rw [uCopy, if_pos ⟨c10, c18⟩, hxj, hxjo, if_pos ⟨c44, c52⟩, if_pos c71, if_neg (fun q => absurd q.1 (by rw [c88]; decide))] <;> rfl) (by rw [show okCopy hs la le (nI 2) i (nI 0) d n = false from by simp [okCopy, hxj, hxjo, c88], fCopy, if_pos ⟨c10, c18⟩, hxj, hxjo, if_pos ⟨c44, c52⟩, if_pos c71, if_neg (fun q => absurd q.1 (by rw [c88]; decide)), if_neg Bool.false_ne_true] <;> rfl) hP hS dX3_copy_108
                · skip
                  refine lv_aload hx hb dX3_copy_91 (lv_at hl 0 rfl) ?_
                  refine lv_iload hx hb dX3_copy_93 (lv_at hl 6 rfl) ?_
                  refine lv_iload hx hb dX3_copy_95 (lv_at hl 7 rfl) ?_
                  refine roV_i (As := [.int d, .int n]) (rest := []) ⟨hx, hb, hml, hown, hts⟩ (kX1_hasSpan l dC dI cI (qs 0) (qr 0) (hs 0) (la 0) (le 0) (C 0) d n _ (by omega)) (cwV 2 hts gX3_copy_X1_hasSpan rfl rfl rfl hdX1_hasSpan ⟨Nat.le_trans (Nat.le_of_ble_eq_true rfl) hRf, Nat.le_trans (Nat.le_of_ble_eq_true rfl) hRl⟩) (va_recv hK hP (ci := 1) (q0 := 2) rfl rfl) (hK.sub [0] rfl) (hP.sub [2, 3] rfl) rfl hl.1 rfl (Nat.le_of_ble_eq_true rfl) dX3_copy_97 ⟨Nat.zero_le _, Nat.zero_le _⟩ hP hS hA (fun H locs hP hS => ?_)
                  refine x_ifb_ne (tgt := 109) hx hb dX3_copy_100 (by decide) (fun c100 => ?_) (fun c100 => ?_)
                  · skip
                    obtain ⟨ia, na, hia, rfl, rfl⟩ := span_t (le := le 2) (by omega) c88
                    obtain ⟨da, nb, hda, rfl, hnb⟩ := span_t (le := le 0) (by omega) c100
                    have hnn : na = nb := (nI_eq (by omega) (by omega)).mp hnb
                    subst hnn
                    have hxia : xn (nI ia) = ia := xn_nI (by omega)
                    have hxda : xn (nI da) = da := xn_nI (by omega)
                    have hxna : xn (nI na) = na := xn_nI (by omega)
                    refine lv_aload hx hb dX3_copy_109 (lv_at hl 1 rfl) ?_
                    refine x_get (D := (dC, dI)) (ci := 1) (v := .ref (qr 2)) (C := RX1) (T := TX1) (N := 4) hx hb hts hinX1 hown hK hP 6 rfl rfl 0 (Nat.le_of_ble_eq_true rfl) hf193 rfl rfl dX3_copy_111 ?_
                    refine lv_iload_n hx hb dX3_copy_114 rfl (lv_at hl 4 rfl) ?_
                    refine lv_aload hx hb dX3_copy_115 (lv_at hl 0 rfl) ?_
                    refine x_get (D := (dC, dI)) (ci := 1) (v := .ref (qr 0)) (C := RX1) (T := TX1) (N := 4) hx hb hts hinX1 hown hK hP 2 rfl rfl 0 (Nat.le_of_ble_eq_true rfl) hf193 rfl rfl dX3_copy_117 ?_
                    refine lv_iload hx hb dX3_copy_120 (lv_at hl 6 rfl) ?_
                    refine lv_iload hx hb dX3_copy_122 (lv_at hl 7 rfl) ?_
                    refine x_copy (wn := (a, .inr (3, [.ref r0, .ref r1, .ref g, .int tr, .int (nI 0)])) :: wSh cS cI r0 qs qr hs la le (uC C 0 (va_cpy (C 2) (C 0) ia da na))) hx hb (hml.trans hl.1.symm) hown hl199 hnat hsta hiSys hK hP hD hS 7 3 0 rfl rfl rfl (by omega) (by omega) (by decide) (by decide) (Nat.le_trans (Nat.le_of_ble_eq_true rfl) hRf) (Nat.le_trans (Nat.le_of_ble_eq_true rfl) hRl) rfl dX3_copy_124 (fun H locs hP hS => ?_)
                    have hD : va_D Z ((a, .inr (3, [.ref r0, .ref r1, .ref g, .int tr, .int (nI 0)])) :: wSh cS cI r0 qs qr hs la le (uC C 0 (va_cpy (C 2) (C 0) ia da na))) := hD.same rfl
                    refine lv_iload hx hb dX3_copy_127 (lv_at hl 7 rfl) ?_
                    exact hend _ _ _ _ _ _ (by rw [uCopy, if_pos ⟨c10, c18⟩, hxj, hxjo, if_pos ⟨c44, c52⟩, if_pos c71, if_pos ⟨c88, c100⟩] <;> rfl) (by rw [show okCopy hs la le (nI 2) (nI ia) (nI 0) (nI da) (nI na) = true from by simp [okCopy, hxj, hxjo, c10, c18, c44, c52, c71, c88, c100], fCopy, if_pos ⟨c10, c18⟩, hxj, hxjo, if_pos ⟨c44, c52⟩, if_pos c71, if_pos ⟨c88, c100⟩, if_pos rfl, hxia, hxda, hxna] <;> rfl) hP hS dX3_copy_129
                  · skip
                    refine lv_aload_n hx hb dX3_copy_103 rfl (lv_at hl 2 rfl) ?_
                    refine lv_iconst (v := nI 3) hx hb dX3_copy_104 rfl ?_
                    refine rwW_i (As := [.int (nI 3)]) (rest := []) (wn := (a, .inr (3, [.ref r0, .ref r1, .ref g, .int tr, .int (nI 3)])) :: wSh cS cI r0 qs qr hs la le C) ⟨hx, hb, hml, hown, hts⟩ (kX3_failed l dC dI a r0 r1 g tr (nI 0) 3 _) (cwV 1 hts gX3_copy_X3_failed rfl rfl rfl hdX3_failed ⟨Nat.le_trans (Nat.le_of_ble_eq_true rfl) hRf, Nat.le_trans (Nat.le_of_ble_eq_true rfl) hRl⟩) (va_recv hK hP (ci := 3) (q0 := 0) rfl rfl) (hK.sub [] rfl) rfl hl.1 rfl (Nat.le_of_ble_eq_true rfl) dX3_copy_105 ⟨Nat.zero_le _, Nat.zero_le _⟩ hP hD hS hA [0] [1, 2, 3, 4, 5, 6, 7, 8, 9] [9, 0, 1, 2, 3, 4, 5, 6, 7, 8] rfl rfl (by decide) (by decide) (by decide) rfl rfl (fun H locs hP hS => ?_)
                    have hD : va_D Z ((a, .inr (3, [.ref r0, .ref r1, .ref g, .int tr, .int (nI 3)])) :: wSh cS cI r0 qs qr hs la le C) := hD.same rfl
                    exact hend _ _ _ _ _ _ (by rw [uCopy, if_pos ⟨c10, c18⟩, hxj, hxjo, if_pos ⟨c44, c52⟩, if_pos c71, if_neg (fun q => absurd q.2 (by rw [c100]; decide))] <;> rfl) (by rw [show okCopy hs la le (nI 2) i (nI 0) d n = false from by simp [okCopy, hxj, hxjo, c100], fCopy, if_pos ⟨c10, c18⟩, hxj, hxjo, if_pos ⟨c44, c52⟩, if_pos c71, if_neg (fun q => absurd q.2 (by rw [c100]; decide)), if_neg Bool.false_ne_true] <;> rfl) hP hS dX3_copy_108
              · skip
                refine lv_aload_n hx hb dX3_copy_74 rfl (lv_at hl 2 rfl) ?_
                refine lv_iconst (v := nI 2) hx hb dX3_copy_75 rfl ?_
                refine rwW_i (As := [.int (nI 2)]) (rest := []) (wn := (a, .inr (3, [.ref r0, .ref r1, .ref g, .int tr, .int (nI 2)])) :: wSh cS cI r0 qs qr hs la le C) ⟨hx, hb, hml, hown, hts⟩ (kX3_failed l dC dI a r0 r1 g tr (nI 0) 2 _) (cwV 1 hts gX3_copy_X3_failed rfl rfl rfl hdX3_failed ⟨Nat.le_trans (Nat.le_of_ble_eq_true rfl) hRf, Nat.le_trans (Nat.le_of_ble_eq_true rfl) hRl⟩) (va_recv hK hP (ci := 3) (q0 := 0) rfl rfl) (hK.sub [] rfl) rfl hl.1 rfl (Nat.le_of_ble_eq_true rfl) dX3_copy_76 ⟨Nat.zero_le _, Nat.zero_le _⟩ hP hD hS hA [0] [1, 2, 3, 4, 5, 6, 7, 8, 9] [9, 0, 1, 2, 3, 4, 5, 6, 7, 8] rfl rfl (by decide) (by decide) (by decide) rfl rfl (fun H locs hP hS => ?_)
                have hD : va_D Z ((a, .inr (3, [.ref r0, .ref r1, .ref g, .int tr, .int (nI 2)])) :: wSh cS cI r0 qs qr hs la le C) := hD.same rfl
                exact hend _ _ _ _ _ _ (by rw [uCopy, if_pos ⟨c10, c18⟩, hxj, hxjo, if_pos ⟨c44, c52⟩, if_neg c71] <;> rfl) (by rw [show okCopy hs la le (nI 2) i (nI 0) d n = false from by simp [okCopy, hxj, hxjo, c71], fCopy, if_pos ⟨c10, c18⟩, hxj, hxjo, if_pos ⟨c44, c52⟩, if_neg c71, if_neg Bool.false_ne_true] <;> rfl) hP hS dX3_copy_79
            · skip
              refine lv_aload_n hx hb dX3_copy_55 rfl (lv_at hl 2 rfl) ?_
              refine lv_iconst (v := nI 1) hx hb dX3_copy_56 rfl ?_
              refine rwW_i (As := [.int (nI 1)]) (rest := []) (wn := (a, .inr (3, [.ref r0, .ref r1, .ref g, .int tr, .int (nI 1)])) :: wSh cS cI r0 qs qr hs la le C) ⟨hx, hb, hml, hown, hts⟩ (kX3_failed l dC dI a r0 r1 g tr (nI 0) 1 _) (cwV 1 hts gX3_copy_X3_failed rfl rfl rfl hdX3_failed ⟨Nat.le_trans (Nat.le_of_ble_eq_true rfl) hRf, Nat.le_trans (Nat.le_of_ble_eq_true rfl) hRl⟩) (va_recv hK hP (ci := 3) (q0 := 0) rfl rfl) (hK.sub [] rfl) rfl hl.1 rfl (Nat.le_of_ble_eq_true rfl) dX3_copy_57 ⟨Nat.zero_le _, Nat.zero_le _⟩ hP hD hS hA [0] [1, 2, 3, 4, 5, 6, 7, 8, 9] [9, 0, 1, 2, 3, 4, 5, 6, 7, 8] rfl rfl (by decide) (by decide) (by decide) rfl rfl (fun H locs hP hS => ?_)
              have hD : va_D Z ((a, .inr (3, [.ref r0, .ref r1, .ref g, .int tr, .int (nI 1)])) :: wSh cS cI r0 qs qr hs la le C) := hD.same rfl
              exact hend _ _ _ _ _ _ (by rw [uCopy, if_pos ⟨c10, c18⟩, hxj, hxjo, if_neg (fun q => absurd q.2 (by rw [c52]; decide))] <;> rfl) (by rw [show okCopy hs la le (nI 2) i (nI 0) d n = false from by simp [okCopy, hxj, hxjo, c52], fCopy, if_pos ⟨c10, c18⟩, hxj, hxjo, if_neg (fun q => absurd q.2 (by rw [c52]; decide)), if_neg Bool.false_ne_true] <;> rfl) hP hS dX3_copy_60
        · skip
          refine x_aald (v := qs 1) hx hb hK hP 1 1 rfl rfl (by decide) (by decide) rfl dX3_copy_36 ?_
          refine lv_astore (lv' := [(7, .ref (qs 1)), (6, .ref (qs 2)), (0, .ref a), (1, .int (nI 2)), (2, .int i), (3, .int (nI 1)), (4, .int d), (5, .int n)]) hx hb dX3_copy_37 hl (by decide) rfl (fun ls hl => ?_)
          refine lv_aload hx hb dX3_copy_39 (lv_at hl 1 rfl) ?_
          refine x_get (D := (dC, dI)) (ci := 1) (v := .int (bI (hs 2))) (C := RX1) (T := TX1) (N := 4) hx hb hts hinX1 hown hK hP 6 rfl rfl 1 (Nat.le_of_ble_eq_true rfl) hf184 rfl rfl dX3_copy_41 ?_
          refine x_ifb_eq (tgt := 55) hx hb dX3_copy_44 (by decide) (fun c44 => ?_) (fun c44 => ?_)
          · skip
            refine lv_aload_n hx hb dX3_copy_55 rfl (lv_at hl 2 rfl) ?_
            refine lv_iconst (v := nI 1) hx hb dX3_copy_56 rfl ?_
            refine rwW_i (As := [.int (nI 1)]) (rest := []) (wn := (a, .inr (3, [.ref r0, .ref r1, .ref g, .int tr, .int (nI 1)])) :: wSh cS cI r0 qs qr hs la le C) ⟨hx, hb, hml, hown, hts⟩ (kX3_failed l dC dI a r0 r1 g tr (nI 0) 1 _) (cwV 1 hts gX3_copy_X3_failed rfl rfl rfl hdX3_failed ⟨Nat.le_trans (Nat.le_of_ble_eq_true rfl) hRf, Nat.le_trans (Nat.le_of_ble_eq_true rfl) hRl⟩) (va_recv hK hP (ci := 3) (q0 := 0) rfl rfl) (hK.sub [] rfl) rfl hl.1 rfl (Nat.le_of_ble_eq_true rfl) dX3_copy_57 ⟨Nat.zero_le _, Nat.zero_le _⟩ hP hD hS hA [0] [1, 2, 3, 4, 5, 6, 7, 8, 9] [9, 0, 1, 2, 3, 4, 5, 6, 7, 8] rfl rfl (by decide) (by decide) (by decide) rfl rfl (fun H locs hP hS => ?_)
            have hD : va_D Z ((a, .inr (3, [.ref r0, .ref r1, .ref g, .int tr, .int (nI 1)])) :: wSh cS cI r0 qs qr hs la le C) := hD.same rfl
            exact hend _ _ _ _ _ _ (by rw [uCopy, if_pos ⟨c10, c18⟩, hxj, hxjo, if_neg (fun q => absurd q.1 (by rw [c44]; decide))] <;> rfl) (by rw [show okCopy hs la le (nI 2) i (nI 1) d n = false from by simp [okCopy, hxj, hxjo, c44], fCopy, if_pos ⟨c10, c18⟩, hxj, hxjo, if_neg (fun q => absurd q.1 (by rw [c44]; decide)), if_neg Bool.false_ne_true] <;> rfl) hP hS dX3_copy_60
          · skip
            refine lv_aload hx hb dX3_copy_47 (lv_at hl 0 rfl) ?_
            refine x_get (D := (dC, dI)) (ci := 1) (v := .int (bI (hs 1))) (C := RX1) (T := TX1) (N := 4) hx hb hts hinX1 hown hK hP 4 rfl rfl 1 (Nat.le_of_ble_eq_true rfl) hf184 rfl rfl dX3_copy_49 ?_
            refine x_ifb_ne (tgt := 61) hx hb dX3_copy_52 (by decide) (fun c52 => ?_) (fun c52 => ?_)
            · skip
              refine lv_aload hx hb dX3_copy_61 (lv_at hl 1 rfl) ?_
              refine x_get (D := (dC, dI)) (ci := 1) (v := .int (nI (la 2))) (C := RX1) (T := TX1) (N := 4) hx hb hts hinX1 hown hK hP 6 rfl rfl 2 (Nat.le_of_ble_eq_true rfl) hf196 rfl rfl dX3_copy_63 ?_
              refine lv_aload hx hb dX3_copy_66 (lv_at hl 0 rfl) ?_
              refine x_get (D := (dC, dI)) (ci := 1) (v := .int (nI (la 1))) (C := RX1) (T := TX1) (N := 4) hx hb hts hinX1 hown hK hP 4 rfl rfl 2 (Nat.le_of_ble_eq_true rfl) hf196 rfl rfl dX3_copy_68 ?_
              refine x_icmp_eq (tgt := 80) hx hb (by omega) (by omega) dX3_copy_71 (by decide) (fun c71 => ?_) (fun c71 => ?_)
              · skip
                refine lv_aload hx hb dX3_copy_80 (lv_at hl 1 rfl) ?_
                refine lv_iload_n hx hb dX3_copy_82 rfl (lv_at hl 4 rfl) ?_
                refine lv_iload hx hb dX3_copy_83 (lv_at hl 7 rfl) ?_
                refine roV_i (As := [.int i, .int n]) (rest := []) ⟨hx, hb, hml, hown, hts⟩ (kX1_hasSpan l dC dI cI (qs 2) (qr 2) (hs 2) (la 2) (le 2) (C 2) i n _ (by omega)) (cwV 2 hts gX3_copy_X1_hasSpan rfl rfl rfl hdX1_hasSpan ⟨Nat.le_trans (Nat.le_of_ble_eq_true rfl) hRf, Nat.le_trans (Nat.le_of_ble_eq_true rfl) hRl⟩) (va_recv hK hP (ci := 1) (q0 := 6) rfl rfl) (hK.sub [0] rfl) (hP.sub [6, 7] rfl) rfl hl.1 rfl (Nat.le_of_ble_eq_true rfl) dX3_copy_85 ⟨Nat.zero_le _, Nat.zero_le _⟩ hP hS hA (fun H locs hP hS => ?_)
                refine x_ifb_eq (tgt := 103) hx hb dX3_copy_88 (by decide) (fun c88 => ?_) (fun c88 => ?_)
                · skip
                  refine lv_aload_n hx hb dX3_copy_103 rfl (lv_at hl 2 rfl) ?_
                  refine lv_iconst (v := nI 3) hx hb dX3_copy_104 rfl ?_
                  refine rwW_i (As := [.int (nI 3)]) (rest := []) (wn := (a, .inr (3, [.ref r0, .ref r1, .ref g, .int tr, .int (nI 3)])) :: wSh cS cI r0 qs qr hs la le C) ⟨hx, hb, hml, hown, hts⟩ (kX3_failed l dC dI a r0 r1 g tr (nI 0) 3 _) (cwV 1 hts gX3_copy_X3_failed rfl rfl rfl hdX3_failed ⟨Nat.le_trans (Nat.le_of_ble_eq_true rfl) hRf, Nat.le_trans (Nat.le_of_ble_eq_true rfl) hRl⟩) (va_recv hK hP (ci := 3) (q0 := 0) rfl rfl) (hK.sub [] rfl) rfl hl.1 rfl (Nat.le_of_ble_eq_true rfl) dX3_copy_105 ⟨Nat.zero_le _, Nat.zero_le _⟩ hP hD hS hA [0] [1, 2, 3, 4, 5, 6, 7, 8, 9] [9, 0, 1, 2, 3, 4, 5, 6, 7, 8] rfl rfl (by decide) (by decide) (by decide) rfl rfl (fun H locs hP hS => ?_)
                  have hD : va_D Z ((a, .inr (3, [.ref r0, .ref r1, .ref g, .int tr, .int (nI 3)])) :: wSh cS cI r0 qs qr hs la le C) := hD.same rfl
                  exact hend _ _ _ _ _ _ (by rw [uCopy, if_pos ⟨c10, c18⟩, hxj, hxjo, if_pos ⟨c44, c52⟩, if_pos c71, if_neg (fun q => absurd q.1 (by rw [c88]; decide))] <;> rfl) (by rw [show okCopy hs la le (nI 2) i (nI 1) d n = false from by simp [okCopy, hxj, hxjo, c88], fCopy, if_pos ⟨c10, c18⟩, hxj, hxjo, if_pos ⟨c44, c52⟩, if_pos c71, if_neg (fun q => absurd q.1 (by rw [c88]; decide)), if_neg Bool.false_ne_true] <;> rfl) hP hS dX3_copy_108
                · skip
                  refine lv_aload hx hb dX3_copy_91 (lv_at hl 0 rfl) ?_
                  refine lv_iload hx hb dX3_copy_93 (lv_at hl 6 rfl) ?_
                  refine lv_iload hx hb dX3_copy_95 (lv_at hl 7 rfl) ?_
                  refine roV_i (As := [.int d, .int n]) (rest := []) ⟨hx, hb, hml, hown, hts⟩ (kX1_hasSpan l dC dI cI (qs 1) (qr 1) (hs 1) (la 1) (le 1) (C 1) d n _ (by omega)) (cwV 2 hts gX3_copy_X1_hasSpan rfl rfl rfl hdX1_hasSpan ⟨Nat.le_trans (Nat.le_of_ble_eq_true rfl) hRf, Nat.le_trans (Nat.le_of_ble_eq_true rfl) hRl⟩) (va_recv hK hP (ci := 1) (q0 := 4) rfl rfl) (hK.sub [0] rfl) (hP.sub [4, 5] rfl) rfl hl.1 rfl (Nat.le_of_ble_eq_true rfl) dX3_copy_97 ⟨Nat.zero_le _, Nat.zero_le _⟩ hP hS hA (fun H locs hP hS => ?_)
                  refine x_ifb_ne (tgt := 109) hx hb dX3_copy_100 (by decide) (fun c100 => ?_) (fun c100 => ?_)
                  · skip
                    obtain ⟨ia, na, hia, rfl, rfl⟩ := span_t (le := le 2) (by omega) c88
                    obtain ⟨da, nb, hda, rfl, hnb⟩ := span_t (le := le 1) (by omega) c100
                    have hnn : na = nb := (nI_eq (by omega) (by omega)).mp hnb
                    subst hnn
                    have hxia : xn (nI ia) = ia := xn_nI (by omega)
                    have hxda : xn (nI da) = da := xn_nI (by omega)
                    have hxna : xn (nI na) = na := xn_nI (by omega)
                    refine lv_aload hx hb dX3_copy_109 (lv_at hl 1 rfl) ?_
                    refine x_get (D := (dC, dI)) (ci := 1) (v := .ref (qr 2)) (C := RX1) (T := TX1) (N := 4) hx hb hts hinX1 hown hK hP 6 rfl rfl 0 (Nat.le_of_ble_eq_true rfl) hf193 rfl rfl dX3_copy_111 ?_
                    refine lv_iload_n hx hb dX3_copy_114 rfl (lv_at hl 4 rfl) ?_
                    refine lv_aload hx hb dX3_copy_115 (lv_at hl 0 rfl) ?_
                    refine x_get (D := (dC, dI)) (ci := 1) (v := .ref (qr 1)) (C := RX1) (T := TX1) (N := 4) hx hb hts hinX1 hown hK hP 4 rfl rfl 0 (Nat.le_of_ble_eq_true rfl) hf193 rfl rfl dX3_copy_117 ?_
                    refine lv_iload hx hb dX3_copy_120 (lv_at hl 6 rfl) ?_
                    refine lv_iload hx hb dX3_copy_122 (lv_at hl 7 rfl) ?_
                    refine x_copy (wn := (a, .inr (3, [.ref r0, .ref r1, .ref g, .int tr, .int (nI 0)])) :: wSh cS cI r0 qs qr hs la le (uC C 1 (va_cpy (C 2) (C 1) ia da na))) hx hb (hml.trans hl.1.symm) hown hl199 hnat hsta hiSys hK hP hD hS 7 5 0 rfl rfl rfl (by omega) (by omega) (by decide) (by decide) (Nat.le_trans (Nat.le_of_ble_eq_true rfl) hRf) (Nat.le_trans (Nat.le_of_ble_eq_true rfl) hRl) rfl dX3_copy_124 (fun H locs hP hS => ?_)
                    have hD : va_D Z ((a, .inr (3, [.ref r0, .ref r1, .ref g, .int tr, .int (nI 0)])) :: wSh cS cI r0 qs qr hs la le (uC C 1 (va_cpy (C 2) (C 1) ia da na))) := hD.same rfl
                    refine lv_iload hx hb dX3_copy_127 (lv_at hl 7 rfl) ?_
                    exact hend _ _ _ _ _ _ (by rw [uCopy, if_pos ⟨c10, c18⟩, hxj, hxjo, if_pos ⟨c44, c52⟩, if_pos c71, if_pos ⟨c88, c100⟩] <;> rfl) (by rw [show okCopy hs la le (nI 2) (nI ia) (nI 1) (nI da) (nI na) = true from by simp [okCopy, hxj, hxjo, c10, c18, c44, c52, c71, c88, c100], fCopy, if_pos ⟨c10, c18⟩, hxj, hxjo, if_pos ⟨c44, c52⟩, if_pos c71, if_pos ⟨c88, c100⟩, if_pos rfl, hxia, hxda, hxna] <;> rfl) hP hS dX3_copy_129
                  · skip
                    refine lv_aload_n hx hb dX3_copy_103 rfl (lv_at hl 2 rfl) ?_
                    refine lv_iconst (v := nI 3) hx hb dX3_copy_104 rfl ?_
                    refine rwW_i (As := [.int (nI 3)]) (rest := []) (wn := (a, .inr (3, [.ref r0, .ref r1, .ref g, .int tr, .int (nI 3)])) :: wSh cS cI r0 qs qr hs la le C) ⟨hx, hb, hml, hown, hts⟩ (kX3_failed l dC dI a r0 r1 g tr (nI 0) 3 _) (cwV 1 hts gX3_copy_X3_failed rfl rfl rfl hdX3_failed ⟨Nat.le_trans (Nat.le_of_ble_eq_true rfl) hRf, Nat.le_trans (Nat.le_of_ble_eq_true rfl) hRl⟩) (va_recv hK hP (ci := 3) (q0 := 0) rfl rfl) (hK.sub [] rfl) rfl hl.1 rfl (Nat.le_of_ble_eq_true rfl) dX3_copy_105 ⟨Nat.zero_le _, Nat.zero_le _⟩ hP hD hS hA [0] [1, 2, 3, 4, 5, 6, 7, 8, 9] [9, 0, 1, 2, 3, 4, 5, 6, 7, 8] rfl rfl (by decide) (by decide) (by decide) rfl rfl (fun H locs hP hS => ?_)
                    have hD : va_D Z ((a, .inr (3, [.ref r0, .ref r1, .ref g, .int tr, .int (nI 3)])) :: wSh cS cI r0 qs qr hs la le C) := hD.same rfl
                    exact hend _ _ _ _ _ _ (by rw [uCopy, if_pos ⟨c10, c18⟩, hxj, hxjo, if_pos ⟨c44, c52⟩, if_pos c71, if_neg (fun q => absurd q.2 (by rw [c100]; decide))] <;> rfl) (by rw [show okCopy hs la le (nI 2) i (nI 1) d n = false from by simp [okCopy, hxj, hxjo, c100], fCopy, if_pos ⟨c10, c18⟩, hxj, hxjo, if_pos ⟨c44, c52⟩, if_pos c71, if_neg (fun q => absurd q.2 (by rw [c100]; decide)), if_neg Bool.false_ne_true] <;> rfl) hP hS dX3_copy_108
              · skip
                refine lv_aload_n hx hb dX3_copy_74 rfl (lv_at hl 2 rfl) ?_
                refine lv_iconst (v := nI 2) hx hb dX3_copy_75 rfl ?_
                refine rwW_i (As := [.int (nI 2)]) (rest := []) (wn := (a, .inr (3, [.ref r0, .ref r1, .ref g, .int tr, .int (nI 2)])) :: wSh cS cI r0 qs qr hs la le C) ⟨hx, hb, hml, hown, hts⟩ (kX3_failed l dC dI a r0 r1 g tr (nI 0) 2 _) (cwV 1 hts gX3_copy_X3_failed rfl rfl rfl hdX3_failed ⟨Nat.le_trans (Nat.le_of_ble_eq_true rfl) hRf, Nat.le_trans (Nat.le_of_ble_eq_true rfl) hRl⟩) (va_recv hK hP (ci := 3) (q0 := 0) rfl rfl) (hK.sub [] rfl) rfl hl.1 rfl (Nat.le_of_ble_eq_true rfl) dX3_copy_76 ⟨Nat.zero_le _, Nat.zero_le _⟩ hP hD hS hA [0] [1, 2, 3, 4, 5, 6, 7, 8, 9] [9, 0, 1, 2, 3, 4, 5, 6, 7, 8] rfl rfl (by decide) (by decide) (by decide) rfl rfl (fun H locs hP hS => ?_)
                have hD : va_D Z ((a, .inr (3, [.ref r0, .ref r1, .ref g, .int tr, .int (nI 2)])) :: wSh cS cI r0 qs qr hs la le C) := hD.same rfl
                exact hend _ _ _ _ _ _ (by rw [uCopy, if_pos ⟨c10, c18⟩, hxj, hxjo, if_pos ⟨c44, c52⟩, if_neg c71] <;> rfl) (by rw [show okCopy hs la le (nI 2) i (nI 1) d n = false from by simp [okCopy, hxj, hxjo, c71], fCopy, if_pos ⟨c10, c18⟩, hxj, hxjo, if_pos ⟨c44, c52⟩, if_neg c71, if_neg Bool.false_ne_true] <;> rfl) hP hS dX3_copy_79
            · skip
              refine lv_aload_n hx hb dX3_copy_55 rfl (lv_at hl 2 rfl) ?_
              refine lv_iconst (v := nI 1) hx hb dX3_copy_56 rfl ?_
              refine rwW_i (As := [.int (nI 1)]) (rest := []) (wn := (a, .inr (3, [.ref r0, .ref r1, .ref g, .int tr, .int (nI 1)])) :: wSh cS cI r0 qs qr hs la le C) ⟨hx, hb, hml, hown, hts⟩ (kX3_failed l dC dI a r0 r1 g tr (nI 0) 1 _) (cwV 1 hts gX3_copy_X3_failed rfl rfl rfl hdX3_failed ⟨Nat.le_trans (Nat.le_of_ble_eq_true rfl) hRf, Nat.le_trans (Nat.le_of_ble_eq_true rfl) hRl⟩) (va_recv hK hP (ci := 3) (q0 := 0) rfl rfl) (hK.sub [] rfl) rfl hl.1 rfl (Nat.le_of_ble_eq_true rfl) dX3_copy_57 ⟨Nat.zero_le _, Nat.zero_le _⟩ hP hD hS hA [0] [1, 2, 3, 4, 5, 6, 7, 8, 9] [9, 0, 1, 2, 3, 4, 5, 6, 7, 8] rfl rfl (by decide) (by decide) (by decide) rfl rfl (fun H locs hP hS => ?_)
              have hD : va_D Z ((a, .inr (3, [.ref r0, .ref r1, .ref g, .int tr, .int (nI 1)])) :: wSh cS cI r0 qs qr hs la le C) := hD.same rfl
              exact hend _ _ _ _ _ _ (by rw [uCopy, if_pos ⟨c10, c18⟩, hxj, hxjo, if_neg (fun q => absurd q.2 (by rw [c52]; decide))] <;> rfl) (by rw [show okCopy hs la le (nI 2) i (nI 1) d n = false from by simp [okCopy, hxj, hxjo, c52], fCopy, if_pos ⟨c10, c18⟩, hxj, hxjo, if_neg (fun q => absurd q.2 (by rw [c52]; decide)), if_neg Bool.false_ne_true] <;> rfl) hP hS dX3_copy_60
        · skip
          refine x_aald (v := qs 2) hx hb hK hP 1 1 rfl rfl (by decide) (by decide) rfl dX3_copy_36 ?_
          refine lv_astore (lv' := [(7, .ref (qs 2)), (6, .ref (qs 2)), (0, .ref a), (1, .int (nI 2)), (2, .int i), (3, .int (nI 2)), (4, .int d), (5, .int n)]) hx hb dX3_copy_37 hl (by decide) rfl (fun ls hl => ?_)
          refine lv_aload hx hb dX3_copy_39 (lv_at hl 1 rfl) ?_
          refine x_get (D := (dC, dI)) (ci := 1) (v := .int (bI (hs 2))) (C := RX1) (T := TX1) (N := 4) hx hb hts hinX1 hown hK hP 6 rfl rfl 1 (Nat.le_of_ble_eq_true rfl) hf184 rfl rfl dX3_copy_41 ?_
          refine x_ifb_eq (tgt := 55) hx hb dX3_copy_44 (by decide) (fun c44 => ?_) (fun c44 => ?_)
          · skip
            refine lv_aload_n hx hb dX3_copy_55 rfl (lv_at hl 2 rfl) ?_
            refine lv_iconst (v := nI 1) hx hb dX3_copy_56 rfl ?_
            refine rwW_i (As := [.int (nI 1)]) (rest := []) (wn := (a, .inr (3, [.ref r0, .ref r1, .ref g, .int tr, .int (nI 1)])) :: wSh cS cI r0 qs qr hs la le C) ⟨hx, hb, hml, hown, hts⟩ (kX3_failed l dC dI a r0 r1 g tr (nI 0) 1 _) (cwV 1 hts gX3_copy_X3_failed rfl rfl rfl hdX3_failed ⟨Nat.le_trans (Nat.le_of_ble_eq_true rfl) hRf, Nat.le_trans (Nat.le_of_ble_eq_true rfl) hRl⟩) (va_recv hK hP (ci := 3) (q0 := 0) rfl rfl) (hK.sub [] rfl) rfl hl.1 rfl (Nat.le_of_ble_eq_true rfl) dX3_copy_57 ⟨Nat.zero_le _, Nat.zero_le _⟩ hP hD hS hA [0] [1, 2, 3, 4, 5, 6, 7, 8, 9] [9, 0, 1, 2, 3, 4, 5, 6, 7, 8] rfl rfl (by decide) (by decide) (by decide) rfl rfl (fun H locs hP hS => ?_)
            have hD : va_D Z ((a, .inr (3, [.ref r0, .ref r1, .ref g, .int tr, .int (nI 1)])) :: wSh cS cI r0 qs qr hs la le C) := hD.same rfl
            exact hend _ _ _ _ _ _ (by rw [uCopy, if_pos ⟨c10, c18⟩, hxj, if_neg (fun q => absurd q.1 (by rw [c44]; decide))] <;> rfl) (by rw [show okCopy hs la le (nI 2) i (nI 2) d n = false from by simp [okCopy, hxj, hxjo, c44], fCopy, if_pos ⟨c10, c18⟩, hxj, if_neg (fun q => absurd q.1 (by rw [c44]; decide)), if_neg Bool.false_ne_true] <;> rfl) hP hS dX3_copy_60
          · skip
            refine lv_aload hx hb dX3_copy_47 (lv_at hl 0 rfl) ?_
            refine x_get (D := (dC, dI)) (ci := 1) (v := .int (bI (hs 2))) (C := RX1) (T := TX1) (N := 4) hx hb hts hinX1 hown hK hP 6 rfl rfl 1 (Nat.le_of_ble_eq_true rfl) hf184 rfl rfl dX3_copy_49 ?_
            refine x_ifb_ne (tgt := 61) hx hb dX3_copy_52 (by decide) (fun c52 => ?_) (fun c52 => ?_)
            · skip
              refine lv_aload hx hb dX3_copy_61 (lv_at hl 1 rfl) ?_
              refine x_get (D := (dC, dI)) (ci := 1) (v := .int (nI (la 2))) (C := RX1) (T := TX1) (N := 4) hx hb hts hinX1 hown hK hP 6 rfl rfl 2 (Nat.le_of_ble_eq_true rfl) hf196 rfl rfl dX3_copy_63 ?_
              refine lv_aload hx hb dX3_copy_66 (lv_at hl 0 rfl) ?_
              refine x_get (D := (dC, dI)) (ci := 1) (v := .int (nI (la 2))) (C := RX1) (T := TX1) (N := 4) hx hb hts hinX1 hown hK hP 6 rfl rfl 2 (Nat.le_of_ble_eq_true rfl) hf196 rfl rfl dX3_copy_68 ?_
              refine x_icmp_eq (tgt := 80) hx hb (by omega) (by omega) dX3_copy_71 (by decide) (fun c71 => ?_) (fun c71 => ?_)
              · skip
                refine lv_aload hx hb dX3_copy_80 (lv_at hl 1 rfl) ?_
                refine lv_iload_n hx hb dX3_copy_82 rfl (lv_at hl 4 rfl) ?_
                refine lv_iload hx hb dX3_copy_83 (lv_at hl 7 rfl) ?_
                refine roV_i (As := [.int i, .int n]) (rest := []) ⟨hx, hb, hml, hown, hts⟩ (kX1_hasSpan l dC dI cI (qs 2) (qr 2) (hs 2) (la 2) (le 2) (C 2) i n _ (by omega)) (cwV 2 hts gX3_copy_X1_hasSpan rfl rfl rfl hdX1_hasSpan ⟨Nat.le_trans (Nat.le_of_ble_eq_true rfl) hRf, Nat.le_trans (Nat.le_of_ble_eq_true rfl) hRl⟩) (va_recv hK hP (ci := 1) (q0 := 6) rfl rfl) (hK.sub [0] rfl) (hP.sub [6, 7] rfl) rfl hl.1 rfl (Nat.le_of_ble_eq_true rfl) dX3_copy_85 ⟨Nat.zero_le _, Nat.zero_le _⟩ hP hS hA (fun H locs hP hS => ?_)
                refine x_ifb_eq (tgt := 103) hx hb dX3_copy_88 (by decide) (fun c88 => ?_) (fun c88 => ?_)
                · skip
                  refine lv_aload_n hx hb dX3_copy_103 rfl (lv_at hl 2 rfl) ?_
                  refine lv_iconst (v := nI 3) hx hb dX3_copy_104 rfl ?_
                  refine rwW_i (As := [.int (nI 3)]) (rest := []) (wn := (a, .inr (3, [.ref r0, .ref r1, .ref g, .int tr, .int (nI 3)])) :: wSh cS cI r0 qs qr hs la le C) ⟨hx, hb, hml, hown, hts⟩ (kX3_failed l dC dI a r0 r1 g tr (nI 0) 3 _) (cwV 1 hts gX3_copy_X3_failed rfl rfl rfl hdX3_failed ⟨Nat.le_trans (Nat.le_of_ble_eq_true rfl) hRf, Nat.le_trans (Nat.le_of_ble_eq_true rfl) hRl⟩) (va_recv hK hP (ci := 3) (q0 := 0) rfl rfl) (hK.sub [] rfl) rfl hl.1 rfl (Nat.le_of_ble_eq_true rfl) dX3_copy_105 ⟨Nat.zero_le _, Nat.zero_le _⟩ hP hD hS hA [0] [1, 2, 3, 4, 5, 6, 7, 8, 9] [9, 0, 1, 2, 3, 4, 5, 6, 7, 8] rfl rfl (by decide) (by decide) (by decide) rfl rfl (fun H locs hP hS => ?_)
                  have hD : va_D Z ((a, .inr (3, [.ref r0, .ref r1, .ref g, .int tr, .int (nI 3)])) :: wSh cS cI r0 qs qr hs la le C) := hD.same rfl
                  exact hend _ _ _ _ _ _ (by rw [uCopy, if_pos ⟨c10, c18⟩, hxj, if_pos ⟨c44, c52⟩, if_pos c71, if_neg (fun q => absurd q.1 (by rw [c88]; decide))] <;> rfl) (by rw [show okCopy hs la le (nI 2) i (nI 2) d n = false from by simp [okCopy, hxj, hxjo, c88], fCopy, if_pos ⟨c10, c18⟩, hxj, if_pos ⟨c44, c52⟩, if_pos c71, if_neg (fun q => absurd q.1 (by rw [c88]; decide)), if_neg Bool.false_ne_true] <;> rfl) hP hS dX3_copy_108
                · skip
                  refine lv_aload hx hb dX3_copy_91 (lv_at hl 0 rfl) ?_
                  refine lv_iload hx hb dX3_copy_93 (lv_at hl 6 rfl) ?_
                  refine lv_iload hx hb dX3_copy_95 (lv_at hl 7 rfl) ?_
                  refine roV_i (As := [.int d, .int n]) (rest := []) ⟨hx, hb, hml, hown, hts⟩ (kX1_hasSpan l dC dI cI (qs 2) (qr 2) (hs 2) (la 2) (le 2) (C 2) d n _ (by omega)) (cwV 2 hts gX3_copy_X1_hasSpan rfl rfl rfl hdX1_hasSpan ⟨Nat.le_trans (Nat.le_of_ble_eq_true rfl) hRf, Nat.le_trans (Nat.le_of_ble_eq_true rfl) hRl⟩) (va_recv hK hP (ci := 1) (q0 := 6) rfl rfl) (hK.sub [0] rfl) (hP.sub [6, 7] rfl) rfl hl.1 rfl (Nat.le_of_ble_eq_true rfl) dX3_copy_97 ⟨Nat.zero_le _, Nat.zero_le _⟩ hP hS hA (fun H locs hP hS => ?_)
                  refine x_ifb_ne (tgt := 109) hx hb dX3_copy_100 (by decide) (fun c100 => ?_) (fun c100 => ?_)
                  · skip
                    obtain ⟨ia, na, hia, rfl, rfl⟩ := span_t (le := le 2) (by omega) c88
                    obtain ⟨da, nb, hda, rfl, hnb⟩ := span_t (le := le 2) (by omega) c100
                    have hnn : na = nb := (nI_eq (by omega) (by omega)).mp hnb
                    subst hnn
                    have hxia : xn (nI ia) = ia := xn_nI (by omega)
                    have hxda : xn (nI da) = da := xn_nI (by omega)
                    have hxna : xn (nI na) = na := xn_nI (by omega)
                    refine lv_aload hx hb dX3_copy_109 (lv_at hl 1 rfl) ?_
                    refine x_get (D := (dC, dI)) (ci := 1) (v := .ref (qr 2)) (C := RX1) (T := TX1) (N := 4) hx hb hts hinX1 hown hK hP 6 rfl rfl 0 (Nat.le_of_ble_eq_true rfl) hf193 rfl rfl dX3_copy_111 ?_
                    refine lv_iload_n hx hb dX3_copy_114 rfl (lv_at hl 4 rfl) ?_
                    refine lv_aload hx hb dX3_copy_115 (lv_at hl 0 rfl) ?_
                    refine x_get (D := (dC, dI)) (ci := 1) (v := .ref (qr 2)) (C := RX1) (T := TX1) (N := 4) hx hb hts hinX1 hown hK hP 6 rfl rfl 0 (Nat.le_of_ble_eq_true rfl) hf193 rfl rfl dX3_copy_117 ?_
                    refine lv_iload hx hb dX3_copy_120 (lv_at hl 6 rfl) ?_
                    refine lv_iload hx hb dX3_copy_122 (lv_at hl 7 rfl) ?_
                    refine x_copy (wn := (a, .inr (3, [.ref r0, .ref r1, .ref g, .int tr, .int (nI 0)])) :: wSh cS cI r0 qs qr hs la le (uC C 2 (va_cpy (C 2) (C 2) ia da na))) hx hb (hml.trans hl.1.symm) hown hl199 hnat hsta hiSys hK hP hD hS 7 7 0 rfl rfl rfl (by omega) (by omega) (by decide) (by decide) (Nat.le_trans (Nat.le_of_ble_eq_true rfl) hRf) (Nat.le_trans (Nat.le_of_ble_eq_true rfl) hRl) rfl dX3_copy_124 (fun H locs hP hS => ?_)
                    have hD : va_D Z ((a, .inr (3, [.ref r0, .ref r1, .ref g, .int tr, .int (nI 0)])) :: wSh cS cI r0 qs qr hs la le (uC C 2 (va_cpy (C 2) (C 2) ia da na))) := hD.same rfl
                    refine lv_iload hx hb dX3_copy_127 (lv_at hl 7 rfl) ?_
                    exact hend _ _ _ _ _ _ (by rw [uCopy, if_pos ⟨c10, c18⟩, hxj, if_pos ⟨c44, c52⟩, if_pos c71, if_pos ⟨c88, c100⟩] <;> rfl) (by rw [show okCopy hs la le (nI 2) (nI ia) (nI 2) (nI da) (nI na) = true from by simp [okCopy, hxj, hxjo, c10, c18, c44, c52, c71, c88, c100], fCopy, if_pos ⟨c10, c18⟩, hxj, if_pos ⟨c44, c52⟩, if_pos c71, if_pos ⟨c88, c100⟩, if_pos rfl, hxia, hxda, hxna] <;> rfl) hP hS dX3_copy_129
                  · skip
                    refine lv_aload_n hx hb dX3_copy_103 rfl (lv_at hl 2 rfl) ?_
                    refine lv_iconst (v := nI 3) hx hb dX3_copy_104 rfl ?_
                    refine rwW_i (As := [.int (nI 3)]) (rest := []) (wn := (a, .inr (3, [.ref r0, .ref r1, .ref g, .int tr, .int (nI 3)])) :: wSh cS cI r0 qs qr hs la le C) ⟨hx, hb, hml, hown, hts⟩ (kX3_failed l dC dI a r0 r1 g tr (nI 0) 3 _) (cwV 1 hts gX3_copy_X3_failed rfl rfl rfl hdX3_failed ⟨Nat.le_trans (Nat.le_of_ble_eq_true rfl) hRf, Nat.le_trans (Nat.le_of_ble_eq_true rfl) hRl⟩) (va_recv hK hP (ci := 3) (q0 := 0) rfl rfl) (hK.sub [] rfl) rfl hl.1 rfl (Nat.le_of_ble_eq_true rfl) dX3_copy_105 ⟨Nat.zero_le _, Nat.zero_le _⟩ hP hD hS hA [0] [1, 2, 3, 4, 5, 6, 7, 8, 9] [9, 0, 1, 2, 3, 4, 5, 6, 7, 8] rfl rfl (by decide) (by decide) (by decide) rfl rfl (fun H locs hP hS => ?_)
                    have hD : va_D Z ((a, .inr (3, [.ref r0, .ref r1, .ref g, .int tr, .int (nI 3)])) :: wSh cS cI r0 qs qr hs la le C) := hD.same rfl
                    exact hend _ _ _ _ _ _ (by rw [uCopy, if_pos ⟨c10, c18⟩, hxj, if_pos ⟨c44, c52⟩, if_pos c71, if_neg (fun q => absurd q.2 (by rw [c100]; decide))] <;> rfl) (by rw [show okCopy hs la le (nI 2) i (nI 2) d n = false from by simp [okCopy, hxj, hxjo, c100], fCopy, if_pos ⟨c10, c18⟩, hxj, if_pos ⟨c44, c52⟩, if_pos c71, if_neg (fun q => absurd q.2 (by rw [c100]; decide)), if_neg Bool.false_ne_true] <;> rfl) hP hS dX3_copy_108
              · skip
                exact absurd rfl c71
            · skip
              refine lv_aload_n hx hb dX3_copy_55 rfl (lv_at hl 2 rfl) ?_
              refine lv_iconst (v := nI 1) hx hb dX3_copy_56 rfl ?_
              refine rwW_i (As := [.int (nI 1)]) (rest := []) (wn := (a, .inr (3, [.ref r0, .ref r1, .ref g, .int tr, .int (nI 1)])) :: wSh cS cI r0 qs qr hs la le C) ⟨hx, hb, hml, hown, hts⟩ (kX3_failed l dC dI a r0 r1 g tr (nI 0) 1 _) (cwV 1 hts gX3_copy_X3_failed rfl rfl rfl hdX3_failed ⟨Nat.le_trans (Nat.le_of_ble_eq_true rfl) hRf, Nat.le_trans (Nat.le_of_ble_eq_true rfl) hRl⟩) (va_recv hK hP (ci := 3) (q0 := 0) rfl rfl) (hK.sub [] rfl) rfl hl.1 rfl (Nat.le_of_ble_eq_true rfl) dX3_copy_57 ⟨Nat.zero_le _, Nat.zero_le _⟩ hP hD hS hA [0] [1, 2, 3, 4, 5, 6, 7, 8, 9] [9, 0, 1, 2, 3, 4, 5, 6, 7, 8] rfl rfl (by decide) (by decide) (by decide) rfl rfl (fun H locs hP hS => ?_)
              have hD : va_D Z ((a, .inr (3, [.ref r0, .ref r1, .ref g, .int tr, .int (nI 1)])) :: wSh cS cI r0 qs qr hs la le C) := hD.same rfl
              exact hend _ _ _ _ _ _ (by rw [uCopy, if_pos ⟨c10, c18⟩, hxj, if_neg (fun q => absurd q.2 (by rw [c52]; decide))] <;> rfl) (by rw [show okCopy hs la le (nI 2) i (nI 2) d n = false from by simp [okCopy, hxj, hxjo, c52], fCopy, if_pos ⟨c10, c18⟩, hxj, if_neg (fun q => absurd q.2 (by rw [c52]; decide)), if_neg Bool.false_ne_true] <;> rfl) hP hS dX3_copy_60
        · skip
          refine x_aald (v := qs 3) hx hb hK hP 1 1 rfl rfl (by decide) (by decide) rfl dX3_copy_36 ?_
          refine lv_astore (lv' := [(7, .ref (qs 3)), (6, .ref (qs 2)), (0, .ref a), (1, .int (nI 2)), (2, .int i), (3, .int (nI 3)), (4, .int d), (5, .int n)]) hx hb dX3_copy_37 hl (by decide) rfl (fun ls hl => ?_)
          refine lv_aload hx hb dX3_copy_39 (lv_at hl 1 rfl) ?_
          refine x_get (D := (dC, dI)) (ci := 1) (v := .int (bI (hs 2))) (C := RX1) (T := TX1) (N := 4) hx hb hts hinX1 hown hK hP 6 rfl rfl 1 (Nat.le_of_ble_eq_true rfl) hf184 rfl rfl dX3_copy_41 ?_
          refine x_ifb_eq (tgt := 55) hx hb dX3_copy_44 (by decide) (fun c44 => ?_) (fun c44 => ?_)
          · skip
            refine lv_aload_n hx hb dX3_copy_55 rfl (lv_at hl 2 rfl) ?_
            refine lv_iconst (v := nI 1) hx hb dX3_copy_56 rfl ?_
            refine rwW_i (As := [.int (nI 1)]) (rest := []) (wn := (a, .inr (3, [.ref r0, .ref r1, .ref g, .int tr, .int (nI 1)])) :: wSh cS cI r0 qs qr hs la le C) ⟨hx, hb, hml, hown, hts⟩ (kX3_failed l dC dI a r0 r1 g tr (nI 0) 1 _) (cwV 1 hts gX3_copy_X3_failed rfl rfl rfl hdX3_failed ⟨Nat.le_trans (Nat.le_of_ble_eq_true rfl) hRf, Nat.le_trans (Nat.le_of_ble_eq_true rfl) hRl⟩) (va_recv hK hP (ci := 3) (q0 := 0) rfl rfl) (hK.sub [] rfl) rfl hl.1 rfl (Nat.le_of_ble_eq_true rfl) dX3_copy_57 ⟨Nat.zero_le _, Nat.zero_le _⟩ hP hD hS hA [0] [1, 2, 3, 4, 5, 6, 7, 8, 9] [9, 0, 1, 2, 3, 4, 5, 6, 7, 8] rfl rfl (by decide) (by decide) (by decide) rfl rfl (fun H locs hP hS => ?_)
            have hD : va_D Z ((a, .inr (3, [.ref r0, .ref r1, .ref g, .int tr, .int (nI 1)])) :: wSh cS cI r0 qs qr hs la le C) := hD.same rfl
            exact hend _ _ _ _ _ _ (by rw [uCopy, if_pos ⟨c10, c18⟩, hxj, hxjo, if_neg (fun q => absurd q.1 (by rw [c44]; decide))] <;> rfl) (by rw [show okCopy hs la le (nI 2) i (nI 3) d n = false from by simp [okCopy, hxj, hxjo, c44], fCopy, if_pos ⟨c10, c18⟩, hxj, hxjo, if_neg (fun q => absurd q.1 (by rw [c44]; decide)), if_neg Bool.false_ne_true] <;> rfl) hP hS dX3_copy_60
          · skip
            refine lv_aload hx hb dX3_copy_47 (lv_at hl 0 rfl) ?_
            refine x_get (D := (dC, dI)) (ci := 1) (v := .int (bI (hs 3))) (C := RX1) (T := TX1) (N := 4) hx hb hts hinX1 hown hK hP 8 rfl rfl 1 (Nat.le_of_ble_eq_true rfl) hf184 rfl rfl dX3_copy_49 ?_
            refine x_ifb_ne (tgt := 61) hx hb dX3_copy_52 (by decide) (fun c52 => ?_) (fun c52 => ?_)
            · skip
              refine lv_aload hx hb dX3_copy_61 (lv_at hl 1 rfl) ?_
              refine x_get (D := (dC, dI)) (ci := 1) (v := .int (nI (la 2))) (C := RX1) (T := TX1) (N := 4) hx hb hts hinX1 hown hK hP 6 rfl rfl 2 (Nat.le_of_ble_eq_true rfl) hf196 rfl rfl dX3_copy_63 ?_
              refine lv_aload hx hb dX3_copy_66 (lv_at hl 0 rfl) ?_
              refine x_get (D := (dC, dI)) (ci := 1) (v := .int (nI (la 3))) (C := RX1) (T := TX1) (N := 4) hx hb hts hinX1 hown hK hP 8 rfl rfl 2 (Nat.le_of_ble_eq_true rfl) hf196 rfl rfl dX3_copy_68 ?_
              refine x_icmp_eq (tgt := 80) hx hb (by omega) (by omega) dX3_copy_71 (by decide) (fun c71 => ?_) (fun c71 => ?_)
              · skip
                refine lv_aload hx hb dX3_copy_80 (lv_at hl 1 rfl) ?_
                refine lv_iload_n hx hb dX3_copy_82 rfl (lv_at hl 4 rfl) ?_
                refine lv_iload hx hb dX3_copy_83 (lv_at hl 7 rfl) ?_
                refine roV_i (As := [.int i, .int n]) (rest := []) ⟨hx, hb, hml, hown, hts⟩ (kX1_hasSpan l dC dI cI (qs 2) (qr 2) (hs 2) (la 2) (le 2) (C 2) i n _ (by omega)) (cwV 2 hts gX3_copy_X1_hasSpan rfl rfl rfl hdX1_hasSpan ⟨Nat.le_trans (Nat.le_of_ble_eq_true rfl) hRf, Nat.le_trans (Nat.le_of_ble_eq_true rfl) hRl⟩) (va_recv hK hP (ci := 1) (q0 := 6) rfl rfl) (hK.sub [0] rfl) (hP.sub [6, 7] rfl) rfl hl.1 rfl (Nat.le_of_ble_eq_true rfl) dX3_copy_85 ⟨Nat.zero_le _, Nat.zero_le _⟩ hP hS hA (fun H locs hP hS => ?_)
                refine x_ifb_eq (tgt := 103) hx hb dX3_copy_88 (by decide) (fun c88 => ?_) (fun c88 => ?_)
                · skip
                  refine lv_aload_n hx hb dX3_copy_103 rfl (lv_at hl 2 rfl) ?_
                  refine lv_iconst (v := nI 3) hx hb dX3_copy_104 rfl ?_
                  refine rwW_i (As := [.int (nI 3)]) (rest := []) (wn := (a, .inr (3, [.ref r0, .ref r1, .ref g, .int tr, .int (nI 3)])) :: wSh cS cI r0 qs qr hs la le C) ⟨hx, hb, hml, hown, hts⟩ (kX3_failed l dC dI a r0 r1 g tr (nI 0) 3 _) (cwV 1 hts gX3_copy_X3_failed rfl rfl rfl hdX3_failed ⟨Nat.le_trans (Nat.le_of_ble_eq_true rfl) hRf, Nat.le_trans (Nat.le_of_ble_eq_true rfl) hRl⟩) (va_recv hK hP (ci := 3) (q0 := 0) rfl rfl) (hK.sub [] rfl) rfl hl.1 rfl (Nat.le_of_ble_eq_true rfl) dX3_copy_105 ⟨Nat.zero_le _, Nat.zero_le _⟩ hP hD hS hA [0] [1, 2, 3, 4, 5, 6, 7, 8, 9] [9, 0, 1, 2, 3, 4, 5, 6, 7, 8] rfl rfl (by decide) (by decide) (by decide) rfl rfl (fun H locs hP hS => ?_)
                  have hD : va_D Z ((a, .inr (3, [.ref r0, .ref r1, .ref g, .int tr, .int (nI 3)])) :: wSh cS cI r0 qs qr hs la le C) := hD.same rfl
                  exact hend _ _ _ _ _ _ (by rw [uCopy, if_pos ⟨c10, c18⟩, hxj, hxjo, if_pos ⟨c44, c52⟩, if_pos c71, if_neg (fun q => absurd q.1 (by rw [c88]; decide))] <;> rfl) (by rw [show okCopy hs la le (nI 2) i (nI 3) d n = false from by simp [okCopy, hxj, hxjo, c88], fCopy, if_pos ⟨c10, c18⟩, hxj, hxjo, if_pos ⟨c44, c52⟩, if_pos c71, if_neg (fun q => absurd q.1 (by rw [c88]; decide)), if_neg Bool.false_ne_true] <;> rfl) hP hS dX3_copy_108
                · skip
                  refine lv_aload hx hb dX3_copy_91 (lv_at hl 0 rfl) ?_
                  refine lv_iload hx hb dX3_copy_93 (lv_at hl 6 rfl) ?_
                  refine lv_iload hx hb dX3_copy_95 (lv_at hl 7 rfl) ?_
                  refine roV_i (As := [.int d, .int n]) (rest := []) ⟨hx, hb, hml, hown, hts⟩ (kX1_hasSpan l dC dI cI (qs 3) (qr 3) (hs 3) (la 3) (le 3) (C 3) d n _ (by omega)) (cwV 2 hts gX3_copy_X1_hasSpan rfl rfl rfl hdX1_hasSpan ⟨Nat.le_trans (Nat.le_of_ble_eq_true rfl) hRf, Nat.le_trans (Nat.le_of_ble_eq_true rfl) hRl⟩) (va_recv hK hP (ci := 1) (q0 := 8) rfl rfl) (hK.sub [0] rfl) (hP.sub [8, 9] rfl) rfl hl.1 rfl (Nat.le_of_ble_eq_true rfl) dX3_copy_97 ⟨Nat.zero_le _, Nat.zero_le _⟩ hP hS hA (fun H locs hP hS => ?_)
                  refine x_ifb_ne (tgt := 109) hx hb dX3_copy_100 (by decide) (fun c100 => ?_) (fun c100 => ?_)
                  · skip
                    obtain ⟨ia, na, hia, rfl, rfl⟩ := span_t (le := le 2) (by omega) c88
                    obtain ⟨da, nb, hda, rfl, hnb⟩ := span_t (le := le 3) (by omega) c100
                    have hnn : na = nb := (nI_eq (by omega) (by omega)).mp hnb
                    subst hnn
                    have hxia : xn (nI ia) = ia := xn_nI (by omega)
                    have hxda : xn (nI da) = da := xn_nI (by omega)
                    have hxna : xn (nI na) = na := xn_nI (by omega)
                    refine lv_aload hx hb dX3_copy_109 (lv_at hl 1 rfl) ?_
                    refine x_get (D := (dC, dI)) (ci := 1) (v := .ref (qr 2)) (C := RX1) (T := TX1) (N := 4) hx hb hts hinX1 hown hK hP 6 rfl rfl 0 (Nat.le_of_ble_eq_true rfl) hf193 rfl rfl dX3_copy_111 ?_
                    refine lv_iload_n hx hb dX3_copy_114 rfl (lv_at hl 4 rfl) ?_
                    refine lv_aload hx hb dX3_copy_115 (lv_at hl 0 rfl) ?_
                    refine x_get (D := (dC, dI)) (ci := 1) (v := .ref (qr 3)) (C := RX1) (T := TX1) (N := 4) hx hb hts hinX1 hown hK hP 8 rfl rfl 0 (Nat.le_of_ble_eq_true rfl) hf193 rfl rfl dX3_copy_117 ?_
                    refine lv_iload hx hb dX3_copy_120 (lv_at hl 6 rfl) ?_
                    refine lv_iload hx hb dX3_copy_122 (lv_at hl 7 rfl) ?_
                    refine x_copy (wn := (a, .inr (3, [.ref r0, .ref r1, .ref g, .int tr, .int (nI 0)])) :: wSh cS cI r0 qs qr hs la le (uC C 3 (va_cpy (C 2) (C 3) ia da na))) hx hb (hml.trans hl.1.symm) hown hl199 hnat hsta hiSys hK hP hD hS 7 9 0 rfl rfl rfl (by omega) (by omega) (by decide) (by decide) (Nat.le_trans (Nat.le_of_ble_eq_true rfl) hRf) (Nat.le_trans (Nat.le_of_ble_eq_true rfl) hRl) rfl dX3_copy_124 (fun H locs hP hS => ?_)
                    have hD : va_D Z ((a, .inr (3, [.ref r0, .ref r1, .ref g, .int tr, .int (nI 0)])) :: wSh cS cI r0 qs qr hs la le (uC C 3 (va_cpy (C 2) (C 3) ia da na))) := hD.same rfl
                    refine lv_iload hx hb dX3_copy_127 (lv_at hl 7 rfl) ?_
                    exact hend _ _ _ _ _ _ (by rw [uCopy, if_pos ⟨c10, c18⟩, hxj, hxjo, if_pos ⟨c44, c52⟩, if_pos c71, if_pos ⟨c88, c100⟩] <;> rfl) (by rw [show okCopy hs la le (nI 2) (nI ia) (nI 3) (nI da) (nI na) = true from by simp [okCopy, hxj, hxjo, c10, c18, c44, c52, c71, c88, c100], fCopy, if_pos ⟨c10, c18⟩, hxj, hxjo, if_pos ⟨c44, c52⟩, if_pos c71, if_pos ⟨c88, c100⟩, if_pos rfl, hxia, hxda, hxna] <;> rfl) hP hS dX3_copy_129
                  · skip
                    refine lv_aload_n hx hb dX3_copy_103 rfl (lv_at hl 2 rfl) ?_
                    refine lv_iconst (v := nI 3) hx hb dX3_copy_104 rfl ?_
                    refine rwW_i (As := [.int (nI 3)]) (rest := []) (wn := (a, .inr (3, [.ref r0, .ref r1, .ref g, .int tr, .int (nI 3)])) :: wSh cS cI r0 qs qr hs la le C) ⟨hx, hb, hml, hown, hts⟩ (kX3_failed l dC dI a r0 r1 g tr (nI 0) 3 _) (cwV 1 hts gX3_copy_X3_failed rfl rfl rfl hdX3_failed ⟨Nat.le_trans (Nat.le_of_ble_eq_true rfl) hRf, Nat.le_trans (Nat.le_of_ble_eq_true rfl) hRl⟩) (va_recv hK hP (ci := 3) (q0 := 0) rfl rfl) (hK.sub [] rfl) rfl hl.1 rfl (Nat.le_of_ble_eq_true rfl) dX3_copy_105 ⟨Nat.zero_le _, Nat.zero_le _⟩ hP hD hS hA [0] [1, 2, 3, 4, 5, 6, 7, 8, 9] [9, 0, 1, 2, 3, 4, 5, 6, 7, 8] rfl rfl (by decide) (by decide) (by decide) rfl rfl (fun H locs hP hS => ?_)
                    have hD : va_D Z ((a, .inr (3, [.ref r0, .ref r1, .ref g, .int tr, .int (nI 3)])) :: wSh cS cI r0 qs qr hs la le C) := hD.same rfl
                    exact hend _ _ _ _ _ _ (by rw [uCopy, if_pos ⟨c10, c18⟩, hxj, hxjo, if_pos ⟨c44, c52⟩, if_pos c71, if_neg (fun q => absurd q.2 (by rw [c100]; decide))] <;> rfl) (by rw [show okCopy hs la le (nI 2) i (nI 3) d n = false from by simp [okCopy, hxj, hxjo, c100], fCopy, if_pos ⟨c10, c18⟩, hxj, hxjo, if_pos ⟨c44, c52⟩, if_pos c71, if_neg (fun q => absurd q.2 (by rw [c100]; decide)), if_neg Bool.false_ne_true] <;> rfl) hP hS dX3_copy_108
              · skip
                refine lv_aload_n hx hb dX3_copy_74 rfl (lv_at hl 2 rfl) ?_
                refine lv_iconst (v := nI 2) hx hb dX3_copy_75 rfl ?_
                refine rwW_i (As := [.int (nI 2)]) (rest := []) (wn := (a, .inr (3, [.ref r0, .ref r1, .ref g, .int tr, .int (nI 2)])) :: wSh cS cI r0 qs qr hs la le C) ⟨hx, hb, hml, hown, hts⟩ (kX3_failed l dC dI a r0 r1 g tr (nI 0) 2 _) (cwV 1 hts gX3_copy_X3_failed rfl rfl rfl hdX3_failed ⟨Nat.le_trans (Nat.le_of_ble_eq_true rfl) hRf, Nat.le_trans (Nat.le_of_ble_eq_true rfl) hRl⟩) (va_recv hK hP (ci := 3) (q0 := 0) rfl rfl) (hK.sub [] rfl) rfl hl.1 rfl (Nat.le_of_ble_eq_true rfl) dX3_copy_76 ⟨Nat.zero_le _, Nat.zero_le _⟩ hP hD hS hA [0] [1, 2, 3, 4, 5, 6, 7, 8, 9] [9, 0, 1, 2, 3, 4, 5, 6, 7, 8] rfl rfl (by decide) (by decide) (by decide) rfl rfl (fun H locs hP hS => ?_)
                have hD : va_D Z ((a, .inr (3, [.ref r0, .ref r1, .ref g, .int tr, .int (nI 2)])) :: wSh cS cI r0 qs qr hs la le C) := hD.same rfl
                exact hend _ _ _ _ _ _ (by rw [uCopy, if_pos ⟨c10, c18⟩, hxj, hxjo, if_pos ⟨c44, c52⟩, if_neg c71] <;> rfl) (by rw [show okCopy hs la le (nI 2) i (nI 3) d n = false from by simp [okCopy, hxj, hxjo, c71], fCopy, if_pos ⟨c10, c18⟩, hxj, hxjo, if_pos ⟨c44, c52⟩, if_neg c71, if_neg Bool.false_ne_true] <;> rfl) hP hS dX3_copy_79
            · skip
              refine lv_aload_n hx hb dX3_copy_55 rfl (lv_at hl 2 rfl) ?_
              refine lv_iconst (v := nI 1) hx hb dX3_copy_56 rfl ?_
              refine rwW_i (As := [.int (nI 1)]) (rest := []) (wn := (a, .inr (3, [.ref r0, .ref r1, .ref g, .int tr, .int (nI 1)])) :: wSh cS cI r0 qs qr hs la le C) ⟨hx, hb, hml, hown, hts⟩ (kX3_failed l dC dI a r0 r1 g tr (nI 0) 1 _) (cwV 1 hts gX3_copy_X3_failed rfl rfl rfl hdX3_failed ⟨Nat.le_trans (Nat.le_of_ble_eq_true rfl) hRf, Nat.le_trans (Nat.le_of_ble_eq_true rfl) hRl⟩) (va_recv hK hP (ci := 3) (q0 := 0) rfl rfl) (hK.sub [] rfl) rfl hl.1 rfl (Nat.le_of_ble_eq_true rfl) dX3_copy_57 ⟨Nat.zero_le _, Nat.zero_le _⟩ hP hD hS hA [0] [1, 2, 3, 4, 5, 6, 7, 8, 9] [9, 0, 1, 2, 3, 4, 5, 6, 7, 8] rfl rfl (by decide) (by decide) (by decide) rfl rfl (fun H locs hP hS => ?_)
              have hD : va_D Z ((a, .inr (3, [.ref r0, .ref r1, .ref g, .int tr, .int (nI 1)])) :: wSh cS cI r0 qs qr hs la le C) := hD.same rfl
              exact hend _ _ _ _ _ _ (by rw [uCopy, if_pos ⟨c10, c18⟩, hxj, hxjo, if_neg (fun q => absurd q.2 (by rw [c52]; decide))] <;> rfl) (by rw [show okCopy hs la le (nI 2) i (nI 3) d n = false from by simp [okCopy, hxj, hxjo, c52], fCopy, if_pos ⟨c10, c18⟩, hxj, hxjo, if_neg (fun q => absurd q.2 (by rw [c52]; decide)), if_neg Bool.false_ne_true] <;> rfl) hP hS dX3_copy_60
      · skip
        refine x_aald (v := qs 3) hx hb hK hP 1 1 rfl rfl (by decide) (by decide) rfl dX3_copy_28 ?_
        refine lv_astore (lv' := [(6, .ref (qs 3)), (0, .ref a), (1, .int (nI 3)), (2, .int i), (3, .int (nI jo)), (4, .int d), (5, .int n)]) hx hb dX3_copy_29 hl (by decide) rfl (fun ls hl => ?_)
        refine lv_aload_n hx hb dX3_copy_31 rfl (lv_at hl 1 rfl) ?_
        refine x_get (D := (dC, dI)) (ci := 3) (v := .ref r0) (C := RX3) (T := TX3) (N := 5) hx hb hts hinX3 hown hK hP 0 rfl rfl 0 (Nat.le_of_ble_eq_true rfl) hf13 rfl rfl dX3_copy_32 ?_
        refine lv_iload_n hx hb dX3_copy_35 rfl (lv_at hl 4 rfl) ?_
        rcases (show jo = 0 ∨ jo = 1 ∨ jo = 2 ∨ jo = 3 by omega) with rfl | rfl | rfl | rfl
        · skip
          refine x_aald (v := qs 0) hx hb hK hP 1 1 rfl rfl (by decide) (by decide) rfl dX3_copy_36 ?_
          refine lv_astore (lv' := [(7, .ref (qs 0)), (6, .ref (qs 3)), (0, .ref a), (1, .int (nI 3)), (2, .int i), (3, .int (nI 0)), (4, .int d), (5, .int n)]) hx hb dX3_copy_37 hl (by decide) rfl (fun ls hl => ?_)
          refine lv_aload hx hb dX3_copy_39 (lv_at hl 1 rfl) ?_
          refine x_get (D := (dC, dI)) (ci := 1) (v := .int (bI (hs 3))) (C := RX1) (T := TX1) (N := 4) hx hb hts hinX1 hown hK hP 8 rfl rfl 1 (Nat.le_of_ble_eq_true rfl) hf184 rfl rfl dX3_copy_41 ?_
          refine x_ifb_eq (tgt := 55) hx hb dX3_copy_44 (by decide) (fun c44 => ?_) (fun c44 => ?_)
          · skip
            refine lv_aload_n hx hb dX3_copy_55 rfl (lv_at hl 2 rfl) ?_
            refine lv_iconst (v := nI 1) hx hb dX3_copy_56 rfl ?_
            refine rwW_i (As := [.int (nI 1)]) (rest := []) (wn := (a, .inr (3, [.ref r0, .ref r1, .ref g, .int tr, .int (nI 1)])) :: wSh cS cI r0 qs qr hs la le C) ⟨hx, hb, hml, hown, hts⟩ (kX3_failed l dC dI a r0 r1 g tr (nI 0) 1 _) (cwV 1 hts gX3_copy_X3_failed rfl rfl rfl hdX3_failed ⟨Nat.le_trans (Nat.le_of_ble_eq_true rfl) hRf, Nat.le_trans (Nat.le_of_ble_eq_true rfl) hRl⟩) (va_recv hK hP (ci := 3) (q0 := 0) rfl rfl) (hK.sub [] rfl) rfl hl.1 rfl (Nat.le_of_ble_eq_true rfl) dX3_copy_57 ⟨Nat.zero_le _, Nat.zero_le _⟩ hP hD hS hA [0] [1, 2, 3, 4, 5, 6, 7, 8, 9] [9, 0, 1, 2, 3, 4, 5, 6, 7, 8] rfl rfl (by decide) (by decide) (by decide) rfl rfl (fun H locs hP hS => ?_)
            have hD : va_D Z ((a, .inr (3, [.ref r0, .ref r1, .ref g, .int tr, .int (nI 1)])) :: wSh cS cI r0 qs qr hs la le C) := hD.same rfl
            exact hend _ _ _ _ _ _ (by rw [uCopy, if_pos ⟨c10, c18⟩, hxj, hxjo, if_neg (fun q => absurd q.1 (by rw [c44]; decide))] <;> rfl) (by rw [show okCopy hs la le (nI 3) i (nI 0) d n = false from by simp [okCopy, hxj, hxjo, c44], fCopy, if_pos ⟨c10, c18⟩, hxj, hxjo, if_neg (fun q => absurd q.1 (by rw [c44]; decide)), if_neg Bool.false_ne_true] <;> rfl) hP hS dX3_copy_60
          · skip
            refine lv_aload hx hb dX3_copy_47 (lv_at hl 0 rfl) ?_
            refine x_get (D := (dC, dI)) (ci := 1) (v := .int (bI (hs 0))) (C := RX1) (T := TX1) (N := 4) hx hb hts hinX1 hown hK hP 2 rfl rfl 1 (Nat.le_of_ble_eq_true rfl) hf184 rfl rfl dX3_copy_49 ?_
            refine x_ifb_ne (tgt := 61) hx hb dX3_copy_52 (by decide) (fun c52 => ?_) (fun c52 => ?_)
            · skip
              refine lv_aload hx hb dX3_copy_61 (lv_at hl 1 rfl) ?_
              refine x_get (D := (dC, dI)) (ci := 1) (v := .int (nI (la 3))) (C := RX1) (T := TX1) (N := 4) hx hb hts hinX1 hown hK hP 8 rfl rfl 2 (Nat.le_of_ble_eq_true rfl) hf196 rfl rfl dX3_copy_63 ?_
              refine lv_aload hx hb dX3_copy_66 (lv_at hl 0 rfl) ?_
              refine x_get (D := (dC, dI)) (ci := 1) (v := .int (nI (la 0))) (C := RX1) (T := TX1) (N := 4) hx hb hts hinX1 hown hK hP 2 rfl rfl 2 (Nat.le_of_ble_eq_true rfl) hf196 rfl rfl dX3_copy_68 ?_
              refine x_icmp_eq (tgt := 80) hx hb (by omega) (by omega) dX3_copy_71 (by decide) (fun c71 => ?_) (fun c71 => ?_)
              · skip
                refine lv_aload hx hb dX3_copy_80 (lv_at hl 1 rfl) ?_
                refine lv_iload_n hx hb dX3_copy_82 rfl (lv_at hl 4 rfl) ?_
                refine lv_iload hx hb dX3_copy_83 (lv_at hl 7 rfl) ?_
                refine roV_i (As := [.int i, .int n]) (rest := []) ⟨hx, hb, hml, hown, hts⟩ (kX1_hasSpan l dC dI cI (qs 3) (qr 3) (hs 3) (la 3) (le 3) (C 3) i n _ (by omega)) (cwV 2 hts gX3_copy_X1_hasSpan rfl rfl rfl hdX1_hasSpan ⟨Nat.le_trans (Nat.le_of_ble_eq_true rfl) hRf, Nat.le_trans (Nat.le_of_ble_eq_true rfl) hRl⟩) (va_recv hK hP (ci := 1) (q0 := 8) rfl rfl) (hK.sub [0] rfl) (hP.sub [8, 9] rfl) rfl hl.1 rfl (Nat.le_of_ble_eq_true rfl) dX3_copy_85 ⟨Nat.zero_le _, Nat.zero_le _⟩ hP hS hA (fun H locs hP hS => ?_)
                refine x_ifb_eq (tgt := 103) hx hb dX3_copy_88 (by decide) (fun c88 => ?_) (fun c88 => ?_)
                · skip
                  refine lv_aload_n hx hb dX3_copy_103 rfl (lv_at hl 2 rfl) ?_
                  refine lv_iconst (v := nI 3) hx hb dX3_copy_104 rfl ?_
                  refine rwW_i (As := [.int (nI 3)]) (rest := []) (wn := (a, .inr (3, [.ref r0, .ref r1, .ref g, .int tr, .int (nI 3)])) :: wSh cS cI r0 qs qr hs la le C) ⟨hx, hb, hml, hown, hts⟩ (kX3_failed l dC dI a r0 r1 g tr (nI 0) 3 _) (cwV 1 hts gX3_copy_X3_failed rfl rfl rfl hdX3_failed ⟨Nat.le_trans (Nat.le_of_ble_eq_true rfl) hRf, Nat.le_trans (Nat.le_of_ble_eq_true rfl) hRl⟩) (va_recv hK hP (ci := 3) (q0 := 0) rfl rfl) (hK.sub [] rfl) rfl hl.1 rfl (Nat.le_of_ble_eq_true rfl) dX3_copy_105 ⟨Nat.zero_le _, Nat.zero_le _⟩ hP hD hS hA [0] [1, 2, 3, 4, 5, 6, 7, 8, 9] [9, 0, 1, 2, 3, 4, 5, 6, 7, 8] rfl rfl (by decide) (by decide) (by decide) rfl rfl (fun H locs hP hS => ?_)
                  have hD : va_D Z ((a, .inr (3, [.ref r0, .ref r1, .ref g, .int tr, .int (nI 3)])) :: wSh cS cI r0 qs qr hs la le C) := hD.same rfl
                  exact hend _ _ _ _ _ _ (by rw [uCopy, if_pos ⟨c10, c18⟩, hxj, hxjo, if_pos ⟨c44, c52⟩, if_pos c71, if_neg (fun q => absurd q.1 (by rw [c88]; decide))] <;> rfl) (by rw [show okCopy hs la le (nI 3) i (nI 0) d n = false from by simp [okCopy, hxj, hxjo, c88], fCopy, if_pos ⟨c10, c18⟩, hxj, hxjo, if_pos ⟨c44, c52⟩, if_pos c71, if_neg (fun q => absurd q.1 (by rw [c88]; decide)), if_neg Bool.false_ne_true] <;> rfl) hP hS dX3_copy_108
                · skip
                  refine lv_aload hx hb dX3_copy_91 (lv_at hl 0 rfl) ?_
                  refine lv_iload hx hb dX3_copy_93 (lv_at hl 6 rfl) ?_
                  refine lv_iload hx hb dX3_copy_95 (lv_at hl 7 rfl) ?_
                  refine roV_i (As := [.int d, .int n]) (rest := []) ⟨hx, hb, hml, hown, hts⟩ (kX1_hasSpan l dC dI cI (qs 0) (qr 0) (hs 0) (la 0) (le 0) (C 0) d n _ (by omega)) (cwV 2 hts gX3_copy_X1_hasSpan rfl rfl rfl hdX1_hasSpan ⟨Nat.le_trans (Nat.le_of_ble_eq_true rfl) hRf, Nat.le_trans (Nat.le_of_ble_eq_true rfl) hRl⟩) (va_recv hK hP (ci := 1) (q0 := 2) rfl rfl) (hK.sub [0] rfl) (hP.sub [2, 3] rfl) rfl hl.1 rfl (Nat.le_of_ble_eq_true rfl) dX3_copy_97 ⟨Nat.zero_le _, Nat.zero_le _⟩ hP hS hA (fun H locs hP hS => ?_)
                  refine x_ifb_ne (tgt := 109) hx hb dX3_copy_100 (by decide) (fun c100 => ?_) (fun c100 => ?_)
                  · skip
                    obtain ⟨ia, na, hia, rfl, rfl⟩ := span_t (le := le 3) (by omega) c88
                    obtain ⟨da, nb, hda, rfl, hnb⟩ := span_t (le := le 0) (by omega) c100
                    have hnn : na = nb := (nI_eq (by omega) (by omega)).mp hnb
                    subst hnn
                    have hxia : xn (nI ia) = ia := xn_nI (by omega)
                    have hxda : xn (nI da) = da := xn_nI (by omega)
                    have hxna : xn (nI na) = na := xn_nI (by omega)
                    refine lv_aload hx hb dX3_copy_109 (lv_at hl 1 rfl) ?_
                    refine x_get (D := (dC, dI)) (ci := 1) (v := .ref (qr 3)) (C := RX1) (T := TX1) (N := 4) hx hb hts hinX1 hown hK hP 8 rfl rfl 0 (Nat.le_of_ble_eq_true rfl) hf193 rfl rfl dX3_copy_111 ?_
                    refine lv_iload_n hx hb dX3_copy_114 rfl (lv_at hl 4 rfl) ?_
                    refine lv_aload hx hb dX3_copy_115 (lv_at hl 0 rfl) ?_
                    refine x_get (D := (dC, dI)) (ci := 1) (v := .ref (qr 0)) (C := RX1) (T := TX1) (N := 4) hx hb hts hinX1 hown hK hP 2 rfl rfl 0 (Nat.le_of_ble_eq_true rfl) hf193 rfl rfl dX3_copy_117 ?_
                    refine lv_iload hx hb dX3_copy_120 (lv_at hl 6 rfl) ?_
                    refine lv_iload hx hb dX3_copy_122 (lv_at hl 7 rfl) ?_
                    refine x_copy (wn := (a, .inr (3, [.ref r0, .ref r1, .ref g, .int tr, .int (nI 0)])) :: wSh cS cI r0 qs qr hs la le (uC C 0 (va_cpy (C 3) (C 0) ia da na))) hx hb (hml.trans hl.1.symm) hown hl199 hnat hsta hiSys hK hP hD hS 9 3 0 rfl rfl rfl (by omega) (by omega) (by decide) (by decide) (Nat.le_trans (Nat.le_of_ble_eq_true rfl) hRf) (Nat.le_trans (Nat.le_of_ble_eq_true rfl) hRl) rfl dX3_copy_124 (fun H locs hP hS => ?_)
                    have hD : va_D Z ((a, .inr (3, [.ref r0, .ref r1, .ref g, .int tr, .int (nI 0)])) :: wSh cS cI r0 qs qr hs la le (uC C 0 (va_cpy (C 3) (C 0) ia da na))) := hD.same rfl
                    refine lv_iload hx hb dX3_copy_127 (lv_at hl 7 rfl) ?_
                    exact hend _ _ _ _ _ _ (by rw [uCopy, if_pos ⟨c10, c18⟩, hxj, hxjo, if_pos ⟨c44, c52⟩, if_pos c71, if_pos ⟨c88, c100⟩] <;> rfl) (by rw [show okCopy hs la le (nI 3) (nI ia) (nI 0) (nI da) (nI na) = true from by simp [okCopy, hxj, hxjo, c10, c18, c44, c52, c71, c88, c100], fCopy, if_pos ⟨c10, c18⟩, hxj, hxjo, if_pos ⟨c44, c52⟩, if_pos c71, if_pos ⟨c88, c100⟩, if_pos rfl, hxia, hxda, hxna] <;> rfl) hP hS dX3_copy_129
                  · skip
                    refine lv_aload_n hx hb dX3_copy_103 rfl (lv_at hl 2 rfl) ?_
                    refine lv_iconst (v := nI 3) hx hb dX3_copy_104 rfl ?_
                    refine rwW_i (As := [.int (nI 3)]) (rest := []) (wn := (a, .inr (3, [.ref r0, .ref r1, .ref g, .int tr, .int (nI 3)])) :: wSh cS cI r0 qs qr hs la le C) ⟨hx, hb, hml, hown, hts⟩ (kX3_failed l dC dI a r0 r1 g tr (nI 0) 3 _) (cwV 1 hts gX3_copy_X3_failed rfl rfl rfl hdX3_failed ⟨Nat.le_trans (Nat.le_of_ble_eq_true rfl) hRf, Nat.le_trans (Nat.le_of_ble_eq_true rfl) hRl⟩) (va_recv hK hP (ci := 3) (q0 := 0) rfl rfl) (hK.sub [] rfl) rfl hl.1 rfl (Nat.le_of_ble_eq_true rfl) dX3_copy_105 ⟨Nat.zero_le _, Nat.zero_le _⟩ hP hD hS hA [0] [1, 2, 3, 4, 5, 6, 7, 8, 9] [9, 0, 1, 2, 3, 4, 5, 6, 7, 8] rfl rfl (by decide) (by decide) (by decide) rfl rfl (fun H locs hP hS => ?_)
                    have hD : va_D Z ((a, .inr (3, [.ref r0, .ref r1, .ref g, .int tr, .int (nI 3)])) :: wSh cS cI r0 qs qr hs la le C) := hD.same rfl
                    exact hend _ _ _ _ _ _ (by rw [uCopy, if_pos ⟨c10, c18⟩, hxj, hxjo, if_pos ⟨c44, c52⟩, if_pos c71, if_neg (fun q => absurd q.2 (by rw [c100]; decide))] <;> rfl) (by rw [show okCopy hs la le (nI 3) i (nI 0) d n = false from by simp [okCopy, hxj, hxjo, c100], fCopy, if_pos ⟨c10, c18⟩, hxj, hxjo, if_pos ⟨c44, c52⟩, if_pos c71, if_neg (fun q => absurd q.2 (by rw [c100]; decide)), if_neg Bool.false_ne_true] <;> rfl) hP hS dX3_copy_108
              · skip
                refine lv_aload_n hx hb dX3_copy_74 rfl (lv_at hl 2 rfl) ?_
                refine lv_iconst (v := nI 2) hx hb dX3_copy_75 rfl ?_
                refine rwW_i (As := [.int (nI 2)]) (rest := []) (wn := (a, .inr (3, [.ref r0, .ref r1, .ref g, .int tr, .int (nI 2)])) :: wSh cS cI r0 qs qr hs la le C) ⟨hx, hb, hml, hown, hts⟩ (kX3_failed l dC dI a r0 r1 g tr (nI 0) 2 _) (cwV 1 hts gX3_copy_X3_failed rfl rfl rfl hdX3_failed ⟨Nat.le_trans (Nat.le_of_ble_eq_true rfl) hRf, Nat.le_trans (Nat.le_of_ble_eq_true rfl) hRl⟩) (va_recv hK hP (ci := 3) (q0 := 0) rfl rfl) (hK.sub [] rfl) rfl hl.1 rfl (Nat.le_of_ble_eq_true rfl) dX3_copy_76 ⟨Nat.zero_le _, Nat.zero_le _⟩ hP hD hS hA [0] [1, 2, 3, 4, 5, 6, 7, 8, 9] [9, 0, 1, 2, 3, 4, 5, 6, 7, 8] rfl rfl (by decide) (by decide) (by decide) rfl rfl (fun H locs hP hS => ?_)
                have hD : va_D Z ((a, .inr (3, [.ref r0, .ref r1, .ref g, .int tr, .int (nI 2)])) :: wSh cS cI r0 qs qr hs la le C) := hD.same rfl
                exact hend _ _ _ _ _ _ (by rw [uCopy, if_pos ⟨c10, c18⟩, hxj, hxjo, if_pos ⟨c44, c52⟩, if_neg c71] <;> rfl) (by rw [show okCopy hs la le (nI 3) i (nI 0) d n = false from by simp [okCopy, hxj, hxjo, c71], fCopy, if_pos ⟨c10, c18⟩, hxj, hxjo, if_pos ⟨c44, c52⟩, if_neg c71, if_neg Bool.false_ne_true] <;> rfl) hP hS dX3_copy_79
            · skip
              refine lv_aload_n hx hb dX3_copy_55 rfl (lv_at hl 2 rfl) ?_
              refine lv_iconst (v := nI 1) hx hb dX3_copy_56 rfl ?_
              refine rwW_i (As := [.int (nI 1)]) (rest := []) (wn := (a, .inr (3, [.ref r0, .ref r1, .ref g, .int tr, .int (nI 1)])) :: wSh cS cI r0 qs qr hs la le C) ⟨hx, hb, hml, hown, hts⟩ (kX3_failed l dC dI a r0 r1 g tr (nI 0) 1 _) (cwV 1 hts gX3_copy_X3_failed rfl rfl rfl hdX3_failed ⟨Nat.le_trans (Nat.le_of_ble_eq_true rfl) hRf, Nat.le_trans (Nat.le_of_ble_eq_true rfl) hRl⟩) (va_recv hK hP (ci := 3) (q0 := 0) rfl rfl) (hK.sub [] rfl) rfl hl.1 rfl (Nat.le_of_ble_eq_true rfl) dX3_copy_57 ⟨Nat.zero_le _, Nat.zero_le _⟩ hP hD hS hA [0] [1, 2, 3, 4, 5, 6, 7, 8, 9] [9, 0, 1, 2, 3, 4, 5, 6, 7, 8] rfl rfl (by decide) (by decide) (by decide) rfl rfl (fun H locs hP hS => ?_)
              have hD : va_D Z ((a, .inr (3, [.ref r0, .ref r1, .ref g, .int tr, .int (nI 1)])) :: wSh cS cI r0 qs qr hs la le C) := hD.same rfl
              exact hend _ _ _ _ _ _ (by rw [uCopy, if_pos ⟨c10, c18⟩, hxj, hxjo, if_neg (fun q => absurd q.2 (by rw [c52]; decide))] <;> rfl) (by rw [show okCopy hs la le (nI 3) i (nI 0) d n = false from by simp [okCopy, hxj, hxjo, c52], fCopy, if_pos ⟨c10, c18⟩, hxj, hxjo, if_neg (fun q => absurd q.2 (by rw [c52]; decide)), if_neg Bool.false_ne_true] <;> rfl) hP hS dX3_copy_60
        · skip
          refine x_aald (v := qs 1) hx hb hK hP 1 1 rfl rfl (by decide) (by decide) rfl dX3_copy_36 ?_
          refine lv_astore (lv' := [(7, .ref (qs 1)), (6, .ref (qs 3)), (0, .ref a), (1, .int (nI 3)), (2, .int i), (3, .int (nI 1)), (4, .int d), (5, .int n)]) hx hb dX3_copy_37 hl (by decide) rfl (fun ls hl => ?_)
          refine lv_aload hx hb dX3_copy_39 (lv_at hl 1 rfl) ?_
          refine x_get (D := (dC, dI)) (ci := 1) (v := .int (bI (hs 3))) (C := RX1) (T := TX1) (N := 4) hx hb hts hinX1 hown hK hP 8 rfl rfl 1 (Nat.le_of_ble_eq_true rfl) hf184 rfl rfl dX3_copy_41 ?_
          refine x_ifb_eq (tgt := 55) hx hb dX3_copy_44 (by decide) (fun c44 => ?_) (fun c44 => ?_)
          · skip
            refine lv_aload_n hx hb dX3_copy_55 rfl (lv_at hl 2 rfl) ?_
            refine lv_iconst (v := nI 1) hx hb dX3_copy_56 rfl ?_
            refine rwW_i (As := [.int (nI 1)]) (rest := []) (wn := (a, .inr (3, [.ref r0, .ref r1, .ref g, .int tr, .int (nI 1)])) :: wSh cS cI r0 qs qr hs la le C) ⟨hx, hb, hml, hown, hts⟩ (kX3_failed l dC dI a r0 r1 g tr (nI 0) 1 _) (cwV 1 hts gX3_copy_X3_failed rfl rfl rfl hdX3_failed ⟨Nat.le_trans (Nat.le_of_ble_eq_true rfl) hRf, Nat.le_trans (Nat.le_of_ble_eq_true rfl) hRl⟩) (va_recv hK hP (ci := 3) (q0 := 0) rfl rfl) (hK.sub [] rfl) rfl hl.1 rfl (Nat.le_of_ble_eq_true rfl) dX3_copy_57 ⟨Nat.zero_le _, Nat.zero_le _⟩ hP hD hS hA [0] [1, 2, 3, 4, 5, 6, 7, 8, 9] [9, 0, 1, 2, 3, 4, 5, 6, 7, 8] rfl rfl (by decide) (by decide) (by decide) rfl rfl (fun H locs hP hS => ?_)
            have hD : va_D Z ((a, .inr (3, [.ref r0, .ref r1, .ref g, .int tr, .int (nI 1)])) :: wSh cS cI r0 qs qr hs la le C) := hD.same rfl
            exact hend _ _ _ _ _ _ (by rw [uCopy, if_pos ⟨c10, c18⟩, hxj, hxjo, if_neg (fun q => absurd q.1 (by rw [c44]; decide))] <;> rfl) (by rw [show okCopy hs la le (nI 3) i (nI 1) d n = false from by simp [okCopy, hxj, hxjo, c44], fCopy, if_pos ⟨c10, c18⟩, hxj, hxjo, if_neg (fun q => absurd q.1 (by rw [c44]; decide)), if_neg Bool.false_ne_true] <;> rfl) hP hS dX3_copy_60
          · skip
            refine lv_aload hx hb dX3_copy_47 (lv_at hl 0 rfl) ?_
            refine x_get (D := (dC, dI)) (ci := 1) (v := .int (bI (hs 1))) (C := RX1) (T := TX1) (N := 4) hx hb hts hinX1 hown hK hP 4 rfl rfl 1 (Nat.le_of_ble_eq_true rfl) hf184 rfl rfl dX3_copy_49 ?_
            refine x_ifb_ne (tgt := 61) hx hb dX3_copy_52 (by decide) (fun c52 => ?_) (fun c52 => ?_)
            · skip
              refine lv_aload hx hb dX3_copy_61 (lv_at hl 1 rfl) ?_
              refine x_get (D := (dC, dI)) (ci := 1) (v := .int (nI (la 3))) (C := RX1) (T := TX1) (N := 4) hx hb hts hinX1 hown hK hP 8 rfl rfl 2 (Nat.le_of_ble_eq_true rfl) hf196 rfl rfl dX3_copy_63 ?_
              refine lv_aload hx hb dX3_copy_66 (lv_at hl 0 rfl) ?_
              refine x_get (D := (dC, dI)) (ci := 1) (v := .int (nI (la 1))) (C := RX1) (T := TX1) (N := 4) hx hb hts hinX1 hown hK hP 4 rfl rfl 2 (Nat.le_of_ble_eq_true rfl) hf196 rfl rfl dX3_copy_68 ?_
              refine x_icmp_eq (tgt := 80) hx hb (by omega) (by omega) dX3_copy_71 (by decide) (fun c71 => ?_) (fun c71 => ?_)
              · skip
                refine lv_aload hx hb dX3_copy_80 (lv_at hl 1 rfl) ?_
                refine lv_iload_n hx hb dX3_copy_82 rfl (lv_at hl 4 rfl) ?_
                refine lv_iload hx hb dX3_copy_83 (lv_at hl 7 rfl) ?_
                refine roV_i (As := [.int i, .int n]) (rest := []) ⟨hx, hb, hml, hown, hts⟩ (kX1_hasSpan l dC dI cI (qs 3) (qr 3) (hs 3) (la 3) (le 3) (C 3) i n _ (by omega)) (cwV 2 hts gX3_copy_X1_hasSpan rfl rfl rfl hdX1_hasSpan ⟨Nat.le_trans (Nat.le_of_ble_eq_true rfl) hRf, Nat.le_trans (Nat.le_of_ble_eq_true rfl) hRl⟩) (va_recv hK hP (ci := 1) (q0 := 8) rfl rfl) (hK.sub [0] rfl) (hP.sub [8, 9] rfl) rfl hl.1 rfl (Nat.le_of_ble_eq_true rfl) dX3_copy_85 ⟨Nat.zero_le _, Nat.zero_le _⟩ hP hS hA (fun H locs hP hS => ?_)
                refine x_ifb_eq (tgt := 103) hx hb dX3_copy_88 (by decide) (fun c88 => ?_) (fun c88 => ?_)
                · skip
                  refine lv_aload_n hx hb dX3_copy_103 rfl (lv_at hl 2 rfl) ?_
                  refine lv_iconst (v := nI 3) hx hb dX3_copy_104 rfl ?_
                  refine rwW_i (As := [.int (nI 3)]) (rest := []) (wn := (a, .inr (3, [.ref r0, .ref r1, .ref g, .int tr, .int (nI 3)])) :: wSh cS cI r0 qs qr hs la le C) ⟨hx, hb, hml, hown, hts⟩ (kX3_failed l dC dI a r0 r1 g tr (nI 0) 3 _) (cwV 1 hts gX3_copy_X3_failed rfl rfl rfl hdX3_failed ⟨Nat.le_trans (Nat.le_of_ble_eq_true rfl) hRf, Nat.le_trans (Nat.le_of_ble_eq_true rfl) hRl⟩) (va_recv hK hP (ci := 3) (q0 := 0) rfl rfl) (hK.sub [] rfl) rfl hl.1 rfl (Nat.le_of_ble_eq_true rfl) dX3_copy_105 ⟨Nat.zero_le _, Nat.zero_le _⟩ hP hD hS hA [0] [1, 2, 3, 4, 5, 6, 7, 8, 9] [9, 0, 1, 2, 3, 4, 5, 6, 7, 8] rfl rfl (by decide) (by decide) (by decide) rfl rfl (fun H locs hP hS => ?_)
                  have hD : va_D Z ((a, .inr (3, [.ref r0, .ref r1, .ref g, .int tr, .int (nI 3)])) :: wSh cS cI r0 qs qr hs la le C) := hD.same rfl
                  exact hend _ _ _ _ _ _ (by rw [uCopy, if_pos ⟨c10, c18⟩, hxj, hxjo, if_pos ⟨c44, c52⟩, if_pos c71, if_neg (fun q => absurd q.1 (by rw [c88]; decide))] <;> rfl) (by rw [show okCopy hs la le (nI 3) i (nI 1) d n = false from by simp [okCopy, hxj, hxjo, c88], fCopy, if_pos ⟨c10, c18⟩, hxj, hxjo, if_pos ⟨c44, c52⟩, if_pos c71, if_neg (fun q => absurd q.1 (by rw [c88]; decide)), if_neg Bool.false_ne_true] <;> rfl) hP hS dX3_copy_108
                · skip
                  refine lv_aload hx hb dX3_copy_91 (lv_at hl 0 rfl) ?_
                  refine lv_iload hx hb dX3_copy_93 (lv_at hl 6 rfl) ?_
                  refine lv_iload hx hb dX3_copy_95 (lv_at hl 7 rfl) ?_
                  refine roV_i (As := [.int d, .int n]) (rest := []) ⟨hx, hb, hml, hown, hts⟩ (kX1_hasSpan l dC dI cI (qs 1) (qr 1) (hs 1) (la 1) (le 1) (C 1) d n _ (by omega)) (cwV 2 hts gX3_copy_X1_hasSpan rfl rfl rfl hdX1_hasSpan ⟨Nat.le_trans (Nat.le_of_ble_eq_true rfl) hRf, Nat.le_trans (Nat.le_of_ble_eq_true rfl) hRl⟩) (va_recv hK hP (ci := 1) (q0 := 4) rfl rfl) (hK.sub [0] rfl) (hP.sub [4, 5] rfl) rfl hl.1 rfl (Nat.le_of_ble_eq_true rfl) dX3_copy_97 ⟨Nat.zero_le _, Nat.zero_le _⟩ hP hS hA (fun H locs hP hS => ?_)
                  refine x_ifb_ne (tgt := 109) hx hb dX3_copy_100 (by decide) (fun c100 => ?_) (fun c100 => ?_)
                  · skip
                    obtain ⟨ia, na, hia, rfl, rfl⟩ := span_t (le := le 3) (by omega) c88
                    obtain ⟨da, nb, hda, rfl, hnb⟩ := span_t (le := le 1) (by omega) c100
                    have hnn : na = nb := (nI_eq (by omega) (by omega)).mp hnb
                    subst hnn
                    have hxia : xn (nI ia) = ia := xn_nI (by omega)
                    have hxda : xn (nI da) = da := xn_nI (by omega)
                    have hxna : xn (nI na) = na := xn_nI (by omega)
                    refine lv_aload hx hb dX3_copy_109 (lv_at hl 1 rfl) ?_
                    refine x_get (D := (dC, dI)) (ci := 1) (v := .ref (qr 3)) (C := RX1) (T := TX1) (N := 4) hx hb hts hinX1 hown hK hP 8 rfl rfl 0 (Nat.le_of_ble_eq_true rfl) hf193 rfl rfl dX3_copy_111 ?_
                    refine lv_iload_n hx hb dX3_copy_114 rfl (lv_at hl 4 rfl) ?_
                    refine lv_aload hx hb dX3_copy_115 (lv_at hl 0 rfl) ?_
                    refine x_get (D := (dC, dI)) (ci := 1) (v := .ref (qr 1)) (C := RX1) (T := TX1) (N := 4) hx hb hts hinX1 hown hK hP 4 rfl rfl 0 (Nat.le_of_ble_eq_true rfl) hf193 rfl rfl dX3_copy_117 ?_
                    refine lv_iload hx hb dX3_copy_120 (lv_at hl 6 rfl) ?_
                    refine lv_iload hx hb dX3_copy_122 (lv_at hl 7 rfl) ?_
                    refine x_copy (wn := (a, .inr (3, [.ref r0, .ref r1, .ref g, .int tr, .int (nI 0)])) :: wSh cS cI r0 qs qr hs la le (uC C 1 (va_cpy (C 3) (C 1) ia da na))) hx hb (hml.trans hl.1.symm) hown hl199 hnat hsta hiSys hK hP hD hS 9 5 0 rfl rfl rfl (by omega) (by omega) (by decide) (by decide) (Nat.le_trans (Nat.le_of_ble_eq_true rfl) hRf) (Nat.le_trans (Nat.le_of_ble_eq_true rfl) hRl) rfl dX3_copy_124 (fun H locs hP hS => ?_)
                    have hD : va_D Z ((a, .inr (3, [.ref r0, .ref r1, .ref g, .int tr, .int (nI 0)])) :: wSh cS cI r0 qs qr hs la le (uC C 1 (va_cpy (C 3) (C 1) ia da na))) := hD.same rfl
                    refine lv_iload hx hb dX3_copy_127 (lv_at hl 7 rfl) ?_
                    exact hend _ _ _ _ _ _ (by rw [uCopy, if_pos ⟨c10, c18⟩, hxj, hxjo, if_pos ⟨c44, c52⟩, if_pos c71, if_pos ⟨c88, c100⟩] <;> rfl) (by rw [show okCopy hs la le (nI 3) (nI ia) (nI 1) (nI da) (nI na) = true from by simp [okCopy, hxj, hxjo, c10, c18, c44, c52, c71, c88, c100], fCopy, if_pos ⟨c10, c18⟩, hxj, hxjo, if_pos ⟨c44, c52⟩, if_pos c71, if_pos ⟨c88, c100⟩, if_pos rfl, hxia, hxda, hxna] <;> rfl) hP hS dX3_copy_129
                  · skip
                    refine lv_aload_n hx hb dX3_copy_103 rfl (lv_at hl 2 rfl) ?_
                    refine lv_iconst (v := nI 3) hx hb dX3_copy_104 rfl ?_
                    refine rwW_i (As := [.int (nI 3)]) (rest := []) (wn := (a, .inr (3, [.ref r0, .ref r1, .ref g, .int tr, .int (nI 3)])) :: wSh cS cI r0 qs qr hs la le C) ⟨hx, hb, hml, hown, hts⟩ (kX3_failed l dC dI a r0 r1 g tr (nI 0) 3 _) (cwV 1 hts gX3_copy_X3_failed rfl rfl rfl hdX3_failed ⟨Nat.le_trans (Nat.le_of_ble_eq_true rfl) hRf, Nat.le_trans (Nat.le_of_ble_eq_true rfl) hRl⟩) (va_recv hK hP (ci := 3) (q0 := 0) rfl rfl) (hK.sub [] rfl) rfl hl.1 rfl (Nat.le_of_ble_eq_true rfl) dX3_copy_105 ⟨Nat.zero_le _, Nat.zero_le _⟩ hP hD hS hA [0] [1, 2, 3, 4, 5, 6, 7, 8, 9] [9, 0, 1, 2, 3, 4, 5, 6, 7, 8] rfl rfl (by decide) (by decide) (by decide) rfl rfl (fun H locs hP hS => ?_)
                    have hD : va_D Z ((a, .inr (3, [.ref r0, .ref r1, .ref g, .int tr, .int (nI 3)])) :: wSh cS cI r0 qs qr hs la le C) := hD.same rfl
                    exact hend _ _ _ _ _ _ (by rw [uCopy, if_pos ⟨c10, c18⟩, hxj, hxjo, if_pos ⟨c44, c52⟩, if_pos c71, if_neg (fun q => absurd q.2 (by rw [c100]; decide))] <;> rfl) (by rw [show okCopy hs la le (nI 3) i (nI 1) d n = false from by simp [okCopy, hxj, hxjo, c100], fCopy, if_pos ⟨c10, c18⟩, hxj, hxjo, if_pos ⟨c44, c52⟩, if_pos c71, if_neg (fun q => absurd q.2 (by rw [c100]; decide)), if_neg Bool.false_ne_true] <;> rfl) hP hS dX3_copy_108
              · skip
                refine lv_aload_n hx hb dX3_copy_74 rfl (lv_at hl 2 rfl) ?_
                refine lv_iconst (v := nI 2) hx hb dX3_copy_75 rfl ?_
                refine rwW_i (As := [.int (nI 2)]) (rest := []) (wn := (a, .inr (3, [.ref r0, .ref r1, .ref g, .int tr, .int (nI 2)])) :: wSh cS cI r0 qs qr hs la le C) ⟨hx, hb, hml, hown, hts⟩ (kX3_failed l dC dI a r0 r1 g tr (nI 0) 2 _) (cwV 1 hts gX3_copy_X3_failed rfl rfl rfl hdX3_failed ⟨Nat.le_trans (Nat.le_of_ble_eq_true rfl) hRf, Nat.le_trans (Nat.le_of_ble_eq_true rfl) hRl⟩) (va_recv hK hP (ci := 3) (q0 := 0) rfl rfl) (hK.sub [] rfl) rfl hl.1 rfl (Nat.le_of_ble_eq_true rfl) dX3_copy_76 ⟨Nat.zero_le _, Nat.zero_le _⟩ hP hD hS hA [0] [1, 2, 3, 4, 5, 6, 7, 8, 9] [9, 0, 1, 2, 3, 4, 5, 6, 7, 8] rfl rfl (by decide) (by decide) (by decide) rfl rfl (fun H locs hP hS => ?_)
                have hD : va_D Z ((a, .inr (3, [.ref r0, .ref r1, .ref g, .int tr, .int (nI 2)])) :: wSh cS cI r0 qs qr hs la le C) := hD.same rfl
                exact hend _ _ _ _ _ _ (by rw [uCopy, if_pos ⟨c10, c18⟩, hxj, hxjo, if_pos ⟨c44, c52⟩, if_neg c71] <;> rfl) (by rw [show okCopy hs la le (nI 3) i (nI 1) d n = false from by simp [okCopy, hxj, hxjo, c71], fCopy, if_pos ⟨c10, c18⟩, hxj, hxjo, if_pos ⟨c44, c52⟩, if_neg c71, if_neg Bool.false_ne_true] <;> rfl) hP hS dX3_copy_79
            · skip
              refine lv_aload_n hx hb dX3_copy_55 rfl (lv_at hl 2 rfl) ?_
              refine lv_iconst (v := nI 1) hx hb dX3_copy_56 rfl ?_
              refine rwW_i (As := [.int (nI 1)]) (rest := []) (wn := (a, .inr (3, [.ref r0, .ref r1, .ref g, .int tr, .int (nI 1)])) :: wSh cS cI r0 qs qr hs la le C) ⟨hx, hb, hml, hown, hts⟩ (kX3_failed l dC dI a r0 r1 g tr (nI 0) 1 _) (cwV 1 hts gX3_copy_X3_failed rfl rfl rfl hdX3_failed ⟨Nat.le_trans (Nat.le_of_ble_eq_true rfl) hRf, Nat.le_trans (Nat.le_of_ble_eq_true rfl) hRl⟩) (va_recv hK hP (ci := 3) (q0 := 0) rfl rfl) (hK.sub [] rfl) rfl hl.1 rfl (Nat.le_of_ble_eq_true rfl) dX3_copy_57 ⟨Nat.zero_le _, Nat.zero_le _⟩ hP hD hS hA [0] [1, 2, 3, 4, 5, 6, 7, 8, 9] [9, 0, 1, 2, 3, 4, 5, 6, 7, 8] rfl rfl (by decide) (by decide) (by decide) rfl rfl (fun H locs hP hS => ?_)
              have hD : va_D Z ((a, .inr (3, [.ref r0, .ref r1, .ref g, .int tr, .int (nI 1)])) :: wSh cS cI r0 qs qr hs la le C) := hD.same rfl
              exact hend _ _ _ _ _ _ (by rw [uCopy, if_pos ⟨c10, c18⟩, hxj, hxjo, if_neg (fun q => absurd q.2 (by rw [c52]; decide))] <;> rfl) (by rw [show okCopy hs la le (nI 3) i (nI 1) d n = false from by simp [okCopy, hxj, hxjo, c52], fCopy, if_pos ⟨c10, c18⟩, hxj, hxjo, if_neg (fun q => absurd q.2 (by rw [c52]; decide)), if_neg Bool.false_ne_true] <;> rfl) hP hS dX3_copy_60
        · skip
          refine x_aald (v := qs 2) hx hb hK hP 1 1 rfl rfl (by decide) (by decide) rfl dX3_copy_36 ?_
          refine lv_astore (lv' := [(7, .ref (qs 2)), (6, .ref (qs 3)), (0, .ref a), (1, .int (nI 3)), (2, .int i), (3, .int (nI 2)), (4, .int d), (5, .int n)]) hx hb dX3_copy_37 hl (by decide) rfl (fun ls hl => ?_)
          refine lv_aload hx hb dX3_copy_39 (lv_at hl 1 rfl) ?_
          refine x_get (D := (dC, dI)) (ci := 1) (v := .int (bI (hs 3))) (C := RX1) (T := TX1) (N := 4) hx hb hts hinX1 hown hK hP 8 rfl rfl 1 (Nat.le_of_ble_eq_true rfl) hf184 rfl rfl dX3_copy_41 ?_
          refine x_ifb_eq (tgt := 55) hx hb dX3_copy_44 (by decide) (fun c44 => ?_) (fun c44 => ?_)
          · skip
            refine lv_aload_n hx hb dX3_copy_55 rfl (lv_at hl 2 rfl) ?_
            refine lv_iconst (v := nI 1) hx hb dX3_copy_56 rfl ?_
            refine rwW_i (As := [.int (nI 1)]) (rest := []) (wn := (a, .inr (3, [.ref r0, .ref r1, .ref g, .int tr, .int (nI 1)])) :: wSh cS cI r0 qs qr hs la le C) ⟨hx, hb, hml, hown, hts⟩ (kX3_failed l dC dI a r0 r1 g tr (nI 0) 1 _) (cwV 1 hts gX3_copy_X3_failed rfl rfl rfl hdX3_failed ⟨Nat.le_trans (Nat.le_of_ble_eq_true rfl) hRf, Nat.le_trans (Nat.le_of_ble_eq_true rfl) hRl⟩) (va_recv hK hP (ci := 3) (q0 := 0) rfl rfl) (hK.sub [] rfl) rfl hl.1 rfl (Nat.le_of_ble_eq_true rfl) dX3_copy_57 ⟨Nat.zero_le _, Nat.zero_le _⟩ hP hD hS hA [0] [1, 2, 3, 4, 5, 6, 7, 8, 9] [9, 0, 1, 2, 3, 4, 5, 6, 7, 8] rfl rfl (by decide) (by decide) (by decide) rfl rfl (fun H locs hP hS => ?_)
            have hD : va_D Z ((a, .inr (3, [.ref r0, .ref r1, .ref g, .int tr, .int (nI 1)])) :: wSh cS cI r0 qs qr hs la le C) := hD.same rfl
            exact hend _ _ _ _ _ _ (by rw [uCopy, if_pos ⟨c10, c18⟩, hxj, hxjo, if_neg (fun q => absurd q.1 (by rw [c44]; decide))] <;> rfl) (by rw [show okCopy hs la le (nI 3) i (nI 2) d n = false from by simp [okCopy, hxj, hxjo, c44], fCopy, if_pos ⟨c10, c18⟩, hxj, hxjo, if_neg (fun q => absurd q.1 (by rw [c44]; decide)), if_neg Bool.false_ne_true] <;> rfl) hP hS dX3_copy_60
          · skip
            refine lv_aload hx hb dX3_copy_47 (lv_at hl 0 rfl) ?_
            refine x_get (D := (dC, dI)) (ci := 1) (v := .int (bI (hs 2))) (C := RX1) (T := TX1) (N := 4) hx hb hts hinX1 hown hK hP 6 rfl rfl 1 (Nat.le_of_ble_eq_true rfl) hf184 rfl rfl dX3_copy_49 ?_
            refine x_ifb_ne (tgt := 61) hx hb dX3_copy_52 (by decide) (fun c52 => ?_) (fun c52 => ?_)
            · skip
              refine lv_aload hx hb dX3_copy_61 (lv_at hl 1 rfl) ?_
              refine x_get (D := (dC, dI)) (ci := 1) (v := .int (nI (la 3))) (C := RX1) (T := TX1) (N := 4) hx hb hts hinX1 hown hK hP 8 rfl rfl 2 (Nat.le_of_ble_eq_true rfl) hf196 rfl rfl dX3_copy_63 ?_
              refine lv_aload hx hb dX3_copy_66 (lv_at hl 0 rfl) ?_
              refine x_get (D := (dC, dI)) (ci := 1) (v := .int (nI (la 2))) (C := RX1) (T := TX1) (N := 4) hx hb hts hinX1 hown hK hP 6 rfl rfl 2 (Nat.le_of_ble_eq_true rfl) hf196 rfl rfl dX3_copy_68 ?_
              refine x_icmp_eq (tgt := 80) hx hb (by omega) (by omega) dX3_copy_71 (by decide) (fun c71 => ?_) (fun c71 => ?_)
              · skip
                refine lv_aload hx hb dX3_copy_80 (lv_at hl 1 rfl) ?_
                refine lv_iload_n hx hb dX3_copy_82 rfl (lv_at hl 4 rfl) ?_
                refine lv_iload hx hb dX3_copy_83 (lv_at hl 7 rfl) ?_
                refine roV_i (As := [.int i, .int n]) (rest := []) ⟨hx, hb, hml, hown, hts⟩ (kX1_hasSpan l dC dI cI (qs 3) (qr 3) (hs 3) (la 3) (le 3) (C 3) i n _ (by omega)) (cwV 2 hts gX3_copy_X1_hasSpan rfl rfl rfl hdX1_hasSpan ⟨Nat.le_trans (Nat.le_of_ble_eq_true rfl) hRf, Nat.le_trans (Nat.le_of_ble_eq_true rfl) hRl⟩) (va_recv hK hP (ci := 1) (q0 := 8) rfl rfl) (hK.sub [0] rfl) (hP.sub [8, 9] rfl) rfl hl.1 rfl (Nat.le_of_ble_eq_true rfl) dX3_copy_85 ⟨Nat.zero_le _, Nat.zero_le _⟩ hP hS hA (fun H locs hP hS => ?_)
                refine x_ifb_eq (tgt := 103) hx hb dX3_copy_88 (by decide) (fun c88 => ?_) (fun c88 => ?_)
                · skip
                  refine lv_aload_n hx hb dX3_copy_103 rfl (lv_at hl 2 rfl) ?_
                  refine lv_iconst (v := nI 3) hx hb dX3_copy_104 rfl ?_
                  refine rwW_i (As := [.int (nI 3)]) (rest := []) (wn := (a, .inr (3, [.ref r0, .ref r1, .ref g, .int tr, .int (nI 3)])) :: wSh cS cI r0 qs qr hs la le C) ⟨hx, hb, hml, hown, hts⟩ (kX3_failed l dC dI a r0 r1 g tr (nI 0) 3 _) (cwV 1 hts gX3_copy_X3_failed rfl rfl rfl hdX3_failed ⟨Nat.le_trans (Nat.le_of_ble_eq_true rfl) hRf, Nat.le_trans (Nat.le_of_ble_eq_true rfl) hRl⟩) (va_recv hK hP (ci := 3) (q0 := 0) rfl rfl) (hK.sub [] rfl) rfl hl.1 rfl (Nat.le_of_ble_eq_true rfl) dX3_copy_105 ⟨Nat.zero_le _, Nat.zero_le _⟩ hP hD hS hA [0] [1, 2, 3, 4, 5, 6, 7, 8, 9] [9, 0, 1, 2, 3, 4, 5, 6, 7, 8] rfl rfl (by decide) (by decide) (by decide) rfl rfl (fun H locs hP hS => ?_)
                  have hD : va_D Z ((a, .inr (3, [.ref r0, .ref r1, .ref g, .int tr, .int (nI 3)])) :: wSh cS cI r0 qs qr hs la le C) := hD.same rfl
                  exact hend _ _ _ _ _ _ (by rw [uCopy, if_pos ⟨c10, c18⟩, hxj, hxjo, if_pos ⟨c44, c52⟩, if_pos c71, if_neg (fun q => absurd q.1 (by rw [c88]; decide))] <;> rfl) (by rw [show okCopy hs la le (nI 3) i (nI 2) d n = false from by simp [okCopy, hxj, hxjo, c88], fCopy, if_pos ⟨c10, c18⟩, hxj, hxjo, if_pos ⟨c44, c52⟩, if_pos c71, if_neg (fun q => absurd q.1 (by rw [c88]; decide)), if_neg Bool.false_ne_true] <;> rfl) hP hS dX3_copy_108
                · skip
                  refine lv_aload hx hb dX3_copy_91 (lv_at hl 0 rfl) ?_
                  refine lv_iload hx hb dX3_copy_93 (lv_at hl 6 rfl) ?_
                  refine lv_iload hx hb dX3_copy_95 (lv_at hl 7 rfl) ?_
                  refine roV_i (As := [.int d, .int n]) (rest := []) ⟨hx, hb, hml, hown, hts⟩ (kX1_hasSpan l dC dI cI (qs 2) (qr 2) (hs 2) (la 2) (le 2) (C 2) d n _ (by omega)) (cwV 2 hts gX3_copy_X1_hasSpan rfl rfl rfl hdX1_hasSpan ⟨Nat.le_trans (Nat.le_of_ble_eq_true rfl) hRf, Nat.le_trans (Nat.le_of_ble_eq_true rfl) hRl⟩) (va_recv hK hP (ci := 1) (q0 := 6) rfl rfl) (hK.sub [0] rfl) (hP.sub [6, 7] rfl) rfl hl.1 rfl (Nat.le_of_ble_eq_true rfl) dX3_copy_97 ⟨Nat.zero_le _, Nat.zero_le _⟩ hP hS hA (fun H locs hP hS => ?_)
                  refine x_ifb_ne (tgt := 109) hx hb dX3_copy_100 (by decide) (fun c100 => ?_) (fun c100 => ?_)
                  · skip
                    obtain ⟨ia, na, hia, rfl, rfl⟩ := span_t (le := le 3) (by omega) c88
                    obtain ⟨da, nb, hda, rfl, hnb⟩ := span_t (le := le 2) (by omega) c100
                    have hnn : na = nb := (nI_eq (by omega) (by omega)).mp hnb
                    subst hnn
                    have hxia : xn (nI ia) = ia := xn_nI (by omega)
                    have hxda : xn (nI da) = da := xn_nI (by omega)
                    have hxna : xn (nI na) = na := xn_nI (by omega)
                    refine lv_aload hx hb dX3_copy_109 (lv_at hl 1 rfl) ?_
                    refine x_get (D := (dC, dI)) (ci := 1) (v := .ref (qr 3)) (C := RX1) (T := TX1) (N := 4) hx hb hts hinX1 hown hK hP 8 rfl rfl 0 (Nat.le_of_ble_eq_true rfl) hf193 rfl rfl dX3_copy_111 ?_
                    refine lv_iload_n hx hb dX3_copy_114 rfl (lv_at hl 4 rfl) ?_
                    refine lv_aload hx hb dX3_copy_115 (lv_at hl 0 rfl) ?_
                    refine x_get (D := (dC, dI)) (ci := 1) (v := .ref (qr 2)) (C := RX1) (T := TX1) (N := 4) hx hb hts hinX1 hown hK hP 6 rfl rfl 0 (Nat.le_of_ble_eq_true rfl) hf193 rfl rfl dX3_copy_117 ?_
                    refine lv_iload hx hb dX3_copy_120 (lv_at hl 6 rfl) ?_
                    refine lv_iload hx hb dX3_copy_122 (lv_at hl 7 rfl) ?_
                    refine x_copy (wn := (a, .inr (3, [.ref r0, .ref r1, .ref g, .int tr, .int (nI 0)])) :: wSh cS cI r0 qs qr hs la le (uC C 2 (va_cpy (C 3) (C 2) ia da na))) hx hb (hml.trans hl.1.symm) hown hl199 hnat hsta hiSys hK hP hD hS 9 7 0 rfl rfl rfl (by omega) (by omega) (by decide) (by decide) (Nat.le_trans (Nat.le_of_ble_eq_true rfl) hRf) (Nat.le_trans (Nat.le_of_ble_eq_true rfl) hRl) rfl dX3_copy_124 (fun H locs hP hS => ?_)
                    have hD : va_D Z ((a, .inr (3, [.ref r0, .ref r1, .ref g, .int tr, .int (nI 0)])) :: wSh cS cI r0 qs qr hs la le (uC C 2 (va_cpy (C 3) (C 2) ia da na))) := hD.same rfl
                    refine lv_iload hx hb dX3_copy_127 (lv_at hl 7 rfl) ?_
                    exact hend _ _ _ _ _ _ (by rw [uCopy, if_pos ⟨c10, c18⟩, hxj, hxjo, if_pos ⟨c44, c52⟩, if_pos c71, if_pos ⟨c88, c100⟩] <;> rfl) (by rw [show okCopy hs la le (nI 3) (nI ia) (nI 2) (nI da) (nI na) = true from by simp [okCopy, hxj, hxjo, c10, c18, c44, c52, c71, c88, c100], fCopy, if_pos ⟨c10, c18⟩, hxj, hxjo, if_pos ⟨c44, c52⟩, if_pos c71, if_pos ⟨c88, c100⟩, if_pos rfl, hxia, hxda, hxna] <;> rfl) hP hS dX3_copy_129
                  · skip
                    refine lv_aload_n hx hb dX3_copy_103 rfl (lv_at hl 2 rfl) ?_
                    refine lv_iconst (v := nI 3) hx hb dX3_copy_104 rfl ?_
                    refine rwW_i (As := [.int (nI 3)]) (rest := []) (wn := (a, .inr (3, [.ref r0, .ref r1, .ref g, .int tr, .int (nI 3)])) :: wSh cS cI r0 qs qr hs la le C) ⟨hx, hb, hml, hown, hts⟩ (kX3_failed l dC dI a r0 r1 g tr (nI 0) 3 _) (cwV 1 hts gX3_copy_X3_failed rfl rfl rfl hdX3_failed ⟨Nat.le_trans (Nat.le_of_ble_eq_true rfl) hRf, Nat.le_trans (Nat.le_of_ble_eq_true rfl) hRl⟩) (va_recv hK hP (ci := 3) (q0 := 0) rfl rfl) (hK.sub [] rfl) rfl hl.1 rfl (Nat.le_of_ble_eq_true rfl) dX3_copy_105 ⟨Nat.zero_le _, Nat.zero_le _⟩ hP hD hS hA [0] [1, 2, 3, 4, 5, 6, 7, 8, 9] [9, 0, 1, 2, 3, 4, 5, 6, 7, 8] rfl rfl (by decide) (by decide) (by decide) rfl rfl (fun H locs hP hS => ?_)
                    have hD : va_D Z ((a, .inr (3, [.ref r0, .ref r1, .ref g, .int tr, .int (nI 3)])) :: wSh cS cI r0 qs qr hs la le C) := hD.same rfl
                    exact hend _ _ _ _ _ _ (by rw [uCopy, if_pos ⟨c10, c18⟩, hxj, hxjo, if_pos ⟨c44, c52⟩, if_pos c71, if_neg (fun q => absurd q.2 (by rw [c100]; decide))] <;> rfl) (by rw [show okCopy hs la le (nI 3) i (nI 2) d n = false from by simp [okCopy, hxj, hxjo, c100], fCopy, if_pos ⟨c10, c18⟩, hxj, hxjo, if_pos ⟨c44, c52⟩, if_pos c71, if_neg (fun q => absurd q.2 (by rw [c100]; decide)), if_neg Bool.false_ne_true] <;> rfl) hP hS dX3_copy_108
              · skip
                refine lv_aload_n hx hb dX3_copy_74 rfl (lv_at hl 2 rfl) ?_
                refine lv_iconst (v := nI 2) hx hb dX3_copy_75 rfl ?_
                refine rwW_i (As := [.int (nI 2)]) (rest := []) (wn := (a, .inr (3, [.ref r0, .ref r1, .ref g, .int tr, .int (nI 2)])) :: wSh cS cI r0 qs qr hs la le C) ⟨hx, hb, hml, hown, hts⟩ (kX3_failed l dC dI a r0 r1 g tr (nI 0) 2 _) (cwV 1 hts gX3_copy_X3_failed rfl rfl rfl hdX3_failed ⟨Nat.le_trans (Nat.le_of_ble_eq_true rfl) hRf, Nat.le_trans (Nat.le_of_ble_eq_true rfl) hRl⟩) (va_recv hK hP (ci := 3) (q0 := 0) rfl rfl) (hK.sub [] rfl) rfl hl.1 rfl (Nat.le_of_ble_eq_true rfl) dX3_copy_76 ⟨Nat.zero_le _, Nat.zero_le _⟩ hP hD hS hA [0] [1, 2, 3, 4, 5, 6, 7, 8, 9] [9, 0, 1, 2, 3, 4, 5, 6, 7, 8] rfl rfl (by decide) (by decide) (by decide) rfl rfl (fun H locs hP hS => ?_)
                have hD : va_D Z ((a, .inr (3, [.ref r0, .ref r1, .ref g, .int tr, .int (nI 2)])) :: wSh cS cI r0 qs qr hs la le C) := hD.same rfl
                exact hend _ _ _ _ _ _ (by rw [uCopy, if_pos ⟨c10, c18⟩, hxj, hxjo, if_pos ⟨c44, c52⟩, if_neg c71] <;> rfl) (by rw [show okCopy hs la le (nI 3) i (nI 2) d n = false from by simp [okCopy, hxj, hxjo, c71], fCopy, if_pos ⟨c10, c18⟩, hxj, hxjo, if_pos ⟨c44, c52⟩, if_neg c71, if_neg Bool.false_ne_true] <;> rfl) hP hS dX3_copy_79
            · skip
              refine lv_aload_n hx hb dX3_copy_55 rfl (lv_at hl 2 rfl) ?_
              refine lv_iconst (v := nI 1) hx hb dX3_copy_56 rfl ?_
              refine rwW_i (As := [.int (nI 1)]) (rest := []) (wn := (a, .inr (3, [.ref r0, .ref r1, .ref g, .int tr, .int (nI 1)])) :: wSh cS cI r0 qs qr hs la le C) ⟨hx, hb, hml, hown, hts⟩ (kX3_failed l dC dI a r0 r1 g tr (nI 0) 1 _) (cwV 1 hts gX3_copy_X3_failed rfl rfl rfl hdX3_failed ⟨Nat.le_trans (Nat.le_of_ble_eq_true rfl) hRf, Nat.le_trans (Nat.le_of_ble_eq_true rfl) hRl⟩) (va_recv hK hP (ci := 3) (q0 := 0) rfl rfl) (hK.sub [] rfl) rfl hl.1 rfl (Nat.le_of_ble_eq_true rfl) dX3_copy_57 ⟨Nat.zero_le _, Nat.zero_le _⟩ hP hD hS hA [0] [1, 2, 3, 4, 5, 6, 7, 8, 9] [9, 0, 1, 2, 3, 4, 5, 6, 7, 8] rfl rfl (by decide) (by decide) (by decide) rfl rfl (fun H locs hP hS => ?_)
              have hD : va_D Z ((a, .inr (3, [.ref r0, .ref r1, .ref g, .int tr, .int (nI 1)])) :: wSh cS cI r0 qs qr hs la le C) := hD.same rfl
              exact hend _ _ _ _ _ _ (by rw [uCopy, if_pos ⟨c10, c18⟩, hxj, hxjo, if_neg (fun q => absurd q.2 (by rw [c52]; decide))] <;> rfl) (by rw [show okCopy hs la le (nI 3) i (nI 2) d n = false from by simp [okCopy, hxj, hxjo, c52], fCopy, if_pos ⟨c10, c18⟩, hxj, hxjo, if_neg (fun q => absurd q.2 (by rw [c52]; decide)), if_neg Bool.false_ne_true] <;> rfl) hP hS dX3_copy_60
        · skip
          refine x_aald (v := qs 3) hx hb hK hP 1 1 rfl rfl (by decide) (by decide) rfl dX3_copy_36 ?_
          refine lv_astore (lv' := [(7, .ref (qs 3)), (6, .ref (qs 3)), (0, .ref a), (1, .int (nI 3)), (2, .int i), (3, .int (nI 3)), (4, .int d), (5, .int n)]) hx hb dX3_copy_37 hl (by decide) rfl (fun ls hl => ?_)
          refine lv_aload hx hb dX3_copy_39 (lv_at hl 1 rfl) ?_
          refine x_get (D := (dC, dI)) (ci := 1) (v := .int (bI (hs 3))) (C := RX1) (T := TX1) (N := 4) hx hb hts hinX1 hown hK hP 8 rfl rfl 1 (Nat.le_of_ble_eq_true rfl) hf184 rfl rfl dX3_copy_41 ?_
          refine x_ifb_eq (tgt := 55) hx hb dX3_copy_44 (by decide) (fun c44 => ?_) (fun c44 => ?_)
          · skip
            refine lv_aload_n hx hb dX3_copy_55 rfl (lv_at hl 2 rfl) ?_
            refine lv_iconst (v := nI 1) hx hb dX3_copy_56 rfl ?_
            refine rwW_i (As := [.int (nI 1)]) (rest := []) (wn := (a, .inr (3, [.ref r0, .ref r1, .ref g, .int tr, .int (nI 1)])) :: wSh cS cI r0 qs qr hs la le C) ⟨hx, hb, hml, hown, hts⟩ (kX3_failed l dC dI a r0 r1 g tr (nI 0) 1 _) (cwV 1 hts gX3_copy_X3_failed rfl rfl rfl hdX3_failed ⟨Nat.le_trans (Nat.le_of_ble_eq_true rfl) hRf, Nat.le_trans (Nat.le_of_ble_eq_true rfl) hRl⟩) (va_recv hK hP (ci := 3) (q0 := 0) rfl rfl) (hK.sub [] rfl) rfl hl.1 rfl (Nat.le_of_ble_eq_true rfl) dX3_copy_57 ⟨Nat.zero_le _, Nat.zero_le _⟩ hP hD hS hA [0] [1, 2, 3, 4, 5, 6, 7, 8, 9] [9, 0, 1, 2, 3, 4, 5, 6, 7, 8] rfl rfl (by decide) (by decide) (by decide) rfl rfl (fun H locs hP hS => ?_)
            have hD : va_D Z ((a, .inr (3, [.ref r0, .ref r1, .ref g, .int tr, .int (nI 1)])) :: wSh cS cI r0 qs qr hs la le C) := hD.same rfl
            exact hend _ _ _ _ _ _ (by rw [uCopy, if_pos ⟨c10, c18⟩, hxj, if_neg (fun q => absurd q.1 (by rw [c44]; decide))] <;> rfl) (by rw [show okCopy hs la le (nI 3) i (nI 3) d n = false from by simp [okCopy, hxj, hxjo, c44], fCopy, if_pos ⟨c10, c18⟩, hxj, if_neg (fun q => absurd q.1 (by rw [c44]; decide)), if_neg Bool.false_ne_true] <;> rfl) hP hS dX3_copy_60
          · skip
            refine lv_aload hx hb dX3_copy_47 (lv_at hl 0 rfl) ?_
            refine x_get (D := (dC, dI)) (ci := 1) (v := .int (bI (hs 3))) (C := RX1) (T := TX1) (N := 4) hx hb hts hinX1 hown hK hP 8 rfl rfl 1 (Nat.le_of_ble_eq_true rfl) hf184 rfl rfl dX3_copy_49 ?_
            refine x_ifb_ne (tgt := 61) hx hb dX3_copy_52 (by decide) (fun c52 => ?_) (fun c52 => ?_)
            · skip
              refine lv_aload hx hb dX3_copy_61 (lv_at hl 1 rfl) ?_
              refine x_get (D := (dC, dI)) (ci := 1) (v := .int (nI (la 3))) (C := RX1) (T := TX1) (N := 4) hx hb hts hinX1 hown hK hP 8 rfl rfl 2 (Nat.le_of_ble_eq_true rfl) hf196 rfl rfl dX3_copy_63 ?_
              refine lv_aload hx hb dX3_copy_66 (lv_at hl 0 rfl) ?_
              refine x_get (D := (dC, dI)) (ci := 1) (v := .int (nI (la 3))) (C := RX1) (T := TX1) (N := 4) hx hb hts hinX1 hown hK hP 8 rfl rfl 2 (Nat.le_of_ble_eq_true rfl) hf196 rfl rfl dX3_copy_68 ?_
              refine x_icmp_eq (tgt := 80) hx hb (by omega) (by omega) dX3_copy_71 (by decide) (fun c71 => ?_) (fun c71 => ?_)
              · skip
                refine lv_aload hx hb dX3_copy_80 (lv_at hl 1 rfl) ?_
                refine lv_iload_n hx hb dX3_copy_82 rfl (lv_at hl 4 rfl) ?_
                refine lv_iload hx hb dX3_copy_83 (lv_at hl 7 rfl) ?_
                refine roV_i (As := [.int i, .int n]) (rest := []) ⟨hx, hb, hml, hown, hts⟩ (kX1_hasSpan l dC dI cI (qs 3) (qr 3) (hs 3) (la 3) (le 3) (C 3) i n _ (by omega)) (cwV 2 hts gX3_copy_X1_hasSpan rfl rfl rfl hdX1_hasSpan ⟨Nat.le_trans (Nat.le_of_ble_eq_true rfl) hRf, Nat.le_trans (Nat.le_of_ble_eq_true rfl) hRl⟩) (va_recv hK hP (ci := 1) (q0 := 8) rfl rfl) (hK.sub [0] rfl) (hP.sub [8, 9] rfl) rfl hl.1 rfl (Nat.le_of_ble_eq_true rfl) dX3_copy_85 ⟨Nat.zero_le _, Nat.zero_le _⟩ hP hS hA (fun H locs hP hS => ?_)
                refine x_ifb_eq (tgt := 103) hx hb dX3_copy_88 (by decide) (fun c88 => ?_) (fun c88 => ?_)
                · skip
                  refine lv_aload_n hx hb dX3_copy_103 rfl (lv_at hl 2 rfl) ?_
                  refine lv_iconst (v := nI 3) hx hb dX3_copy_104 rfl ?_
                  refine rwW_i (As := [.int (nI 3)]) (rest := []) (wn := (a, .inr (3, [.ref r0, .ref r1, .ref g, .int tr, .int (nI 3)])) :: wSh cS cI r0 qs qr hs la le C) ⟨hx, hb, hml, hown, hts⟩ (kX3_failed l dC dI a r0 r1 g tr (nI 0) 3 _) (cwV 1 hts gX3_copy_X3_failed rfl rfl rfl hdX3_failed ⟨Nat.le_trans (Nat.le_of_ble_eq_true rfl) hRf, Nat.le_trans (Nat.le_of_ble_eq_true rfl) hRl⟩) (va_recv hK hP (ci := 3) (q0 := 0) rfl rfl) (hK.sub [] rfl) rfl hl.1 rfl (Nat.le_of_ble_eq_true rfl) dX3_copy_105 ⟨Nat.zero_le _, Nat.zero_le _⟩ hP hD hS hA [0] [1, 2, 3, 4, 5, 6, 7, 8, 9] [9, 0, 1, 2, 3, 4, 5, 6, 7, 8] rfl rfl (by decide) (by decide) (by decide) rfl rfl (fun H locs hP hS => ?_)
                  have hD : va_D Z ((a, .inr (3, [.ref r0, .ref r1, .ref g, .int tr, .int (nI 3)])) :: wSh cS cI r0 qs qr hs la le C) := hD.same rfl
                  exact hend _ _ _ _ _ _ (by rw [uCopy, if_pos ⟨c10, c18⟩, hxj, if_pos ⟨c44, c52⟩, if_pos c71, if_neg (fun q => absurd q.1 (by rw [c88]; decide))] <;> rfl) (by rw [show okCopy hs la le (nI 3) i (nI 3) d n = false from by simp [okCopy, hxj, hxjo, c88], fCopy, if_pos ⟨c10, c18⟩, hxj, if_pos ⟨c44, c52⟩, if_pos c71, if_neg (fun q => absurd q.1 (by rw [c88]; decide)), if_neg Bool.false_ne_true] <;> rfl) hP hS dX3_copy_108
                · skip
                  refine lv_aload hx hb dX3_copy_91 (lv_at hl 0 rfl) ?_
                  refine lv_iload hx hb dX3_copy_93 (lv_at hl 6 rfl) ?_
                  refine lv_iload hx hb dX3_copy_95 (lv_at hl 7 rfl) ?_
                  refine roV_i (As := [.int d, .int n]) (rest := []) ⟨hx, hb, hml, hown, hts⟩ (kX1_hasSpan l dC dI cI (qs 3) (qr 3) (hs 3) (la 3) (le 3) (C 3) d n _ (by omega)) (cwV 2 hts gX3_copy_X1_hasSpan rfl rfl rfl hdX1_hasSpan ⟨Nat.le_trans (Nat.le_of_ble_eq_true rfl) hRf, Nat.le_trans (Nat.le_of_ble_eq_true rfl) hRl⟩) (va_recv hK hP (ci := 1) (q0 := 8) rfl rfl) (hK.sub [0] rfl) (hP.sub [8, 9] rfl) rfl hl.1 rfl (Nat.le_of_ble_eq_true rfl) dX3_copy_97 ⟨Nat.zero_le _, Nat.zero_le _⟩ hP hS hA (fun H locs hP hS => ?_)
                  refine x_ifb_ne (tgt := 109) hx hb dX3_copy_100 (by decide) (fun c100 => ?_) (fun c100 => ?_)
                  · skip
                    obtain ⟨ia, na, hia, rfl, rfl⟩ := span_t (le := le 3) (by omega) c88
                    obtain ⟨da, nb, hda, rfl, hnb⟩ := span_t (le := le 3) (by omega) c100
                    have hnn : na = nb := (nI_eq (by omega) (by omega)).mp hnb
                    subst hnn
                    have hxia : xn (nI ia) = ia := xn_nI (by omega)
                    have hxda : xn (nI da) = da := xn_nI (by omega)
                    have hxna : xn (nI na) = na := xn_nI (by omega)
                    refine lv_aload hx hb dX3_copy_109 (lv_at hl 1 rfl) ?_
                    refine x_get (D := (dC, dI)) (ci := 1) (v := .ref (qr 3)) (C := RX1) (T := TX1) (N := 4) hx hb hts hinX1 hown hK hP 8 rfl rfl 0 (Nat.le_of_ble_eq_true rfl) hf193 rfl rfl dX3_copy_111 ?_
                    refine lv_iload_n hx hb dX3_copy_114 rfl (lv_at hl 4 rfl) ?_
                    refine lv_aload hx hb dX3_copy_115 (lv_at hl 0 rfl) ?_
                    refine x_get (D := (dC, dI)) (ci := 1) (v := .ref (qr 3)) (C := RX1) (T := TX1) (N := 4) hx hb hts hinX1 hown hK hP 8 rfl rfl 0 (Nat.le_of_ble_eq_true rfl) hf193 rfl rfl dX3_copy_117 ?_
                    refine lv_iload hx hb dX3_copy_120 (lv_at hl 6 rfl) ?_
                    refine lv_iload hx hb dX3_copy_122 (lv_at hl 7 rfl) ?_
                    refine x_copy (wn := (a, .inr (3, [.ref r0, .ref r1, .ref g, .int tr, .int (nI 0)])) :: wSh cS cI r0 qs qr hs la le (uC C 3 (va_cpy (C 3) (C 3) ia da na))) hx hb (hml.trans hl.1.symm) hown hl199 hnat hsta hiSys hK hP hD hS 9 9 0 rfl rfl rfl (by omega) (by omega) (by decide) (by decide) (Nat.le_trans (Nat.le_of_ble_eq_true rfl) hRf) (Nat.le_trans (Nat.le_of_ble_eq_true rfl) hRl) rfl dX3_copy_124 (fun H locs hP hS => ?_)
                    have hD : va_D Z ((a, .inr (3, [.ref r0, .ref r1, .ref g, .int tr, .int (nI 0)])) :: wSh cS cI r0 qs qr hs la le (uC C 3 (va_cpy (C 3) (C 3) ia da na))) := hD.same rfl
                    refine lv_iload hx hb dX3_copy_127 (lv_at hl 7 rfl) ?_
                    exact hend _ _ _ _ _ _ (by rw [uCopy, if_pos ⟨c10, c18⟩, hxj, if_pos ⟨c44, c52⟩, if_pos c71, if_pos ⟨c88, c100⟩] <;> rfl) (by rw [show okCopy hs la le (nI 3) (nI ia) (nI 3) (nI da) (nI na) = true from by simp [okCopy, hxj, hxjo, c10, c18, c44, c52, c71, c88, c100], fCopy, if_pos ⟨c10, c18⟩, hxj, if_pos ⟨c44, c52⟩, if_pos c71, if_pos ⟨c88, c100⟩, if_pos rfl, hxia, hxda, hxna] <;> rfl) hP hS dX3_copy_129
                  · skip
                    refine lv_aload_n hx hb dX3_copy_103 rfl (lv_at hl 2 rfl) ?_
                    refine lv_iconst (v := nI 3) hx hb dX3_copy_104 rfl ?_
                    refine rwW_i (As := [.int (nI 3)]) (rest := []) (wn := (a, .inr (3, [.ref r0, .ref r1, .ref g, .int tr, .int (nI 3)])) :: wSh cS cI r0 qs qr hs la le C) ⟨hx, hb, hml, hown, hts⟩ (kX3_failed l dC dI a r0 r1 g tr (nI 0) 3 _) (cwV 1 hts gX3_copy_X3_failed rfl rfl rfl hdX3_failed ⟨Nat.le_trans (Nat.le_of_ble_eq_true rfl) hRf, Nat.le_trans (Nat.le_of_ble_eq_true rfl) hRl⟩) (va_recv hK hP (ci := 3) (q0 := 0) rfl rfl) (hK.sub [] rfl) rfl hl.1 rfl (Nat.le_of_ble_eq_true rfl) dX3_copy_105 ⟨Nat.zero_le _, Nat.zero_le _⟩ hP hD hS hA [0] [1, 2, 3, 4, 5, 6, 7, 8, 9] [9, 0, 1, 2, 3, 4, 5, 6, 7, 8] rfl rfl (by decide) (by decide) (by decide) rfl rfl (fun H locs hP hS => ?_)
                    have hD : va_D Z ((a, .inr (3, [.ref r0, .ref r1, .ref g, .int tr, .int (nI 3)])) :: wSh cS cI r0 qs qr hs la le C) := hD.same rfl
                    exact hend _ _ _ _ _ _ (by rw [uCopy, if_pos ⟨c10, c18⟩, hxj, if_pos ⟨c44, c52⟩, if_pos c71, if_neg (fun q => absurd q.2 (by rw [c100]; decide))] <;> rfl) (by rw [show okCopy hs la le (nI 3) i (nI 3) d n = false from by simp [okCopy, hxj, hxjo, c100], fCopy, if_pos ⟨c10, c18⟩, hxj, if_pos ⟨c44, c52⟩, if_pos c71, if_neg (fun q => absurd q.2 (by rw [c100]; decide)), if_neg Bool.false_ne_true] <;> rfl) hP hS dX3_copy_108
              · skip
                exact absurd rfl c71
            · skip
              refine lv_aload_n hx hb dX3_copy_55 rfl (lv_at hl 2 rfl) ?_
              refine lv_iconst (v := nI 1) hx hb dX3_copy_56 rfl ?_
              refine rwW_i (As := [.int (nI 1)]) (rest := []) (wn := (a, .inr (3, [.ref r0, .ref r1, .ref g, .int tr, .int (nI 1)])) :: wSh cS cI r0 qs qr hs la le C) ⟨hx, hb, hml, hown, hts⟩ (kX3_failed l dC dI a r0 r1 g tr (nI 0) 1 _) (cwV 1 hts gX3_copy_X3_failed rfl rfl rfl hdX3_failed ⟨Nat.le_trans (Nat.le_of_ble_eq_true rfl) hRf, Nat.le_trans (Nat.le_of_ble_eq_true rfl) hRl⟩) (va_recv hK hP (ci := 3) (q0 := 0) rfl rfl) (hK.sub [] rfl) rfl hl.1 rfl (Nat.le_of_ble_eq_true rfl) dX3_copy_57 ⟨Nat.zero_le _, Nat.zero_le _⟩ hP hD hS hA [0] [1, 2, 3, 4, 5, 6, 7, 8, 9] [9, 0, 1, 2, 3, 4, 5, 6, 7, 8] rfl rfl (by decide) (by decide) (by decide) rfl rfl (fun H locs hP hS => ?_)
              have hD : va_D Z ((a, .inr (3, [.ref r0, .ref r1, .ref g, .int tr, .int (nI 1)])) :: wSh cS cI r0 qs qr hs la le C) := hD.same rfl
              exact hend _ _ _ _ _ _ (by rw [uCopy, if_pos ⟨c10, c18⟩, hxj, if_neg (fun q => absurd q.2 (by rw [c52]; decide))] <;> rfl) (by rw [show okCopy hs la le (nI 3) i (nI 3) d n = false from by simp [okCopy, hxj, hxjo, c52], fCopy, if_pos ⟨c10, c18⟩, hxj, if_neg (fun q => absurd q.2 (by rw [c52]; decide)), if_neg Bool.false_ne_true] <;> rfl) hP hS dX3_copy_60
    · skip
      refine lv_iconst (v := -1) hx hb dX3_copy_21 rfl ?_
      exact hend _ _ _ _ _ _ (by rw [uCopy, if_neg (fun q => absurd q.2 (by rw [c18]; decide))] <;> rfl) (by rw [show okCopy hs la le (nI j) i o d n = false from by simp [okCopy, c18], fCopy, if_neg (fun q => absurd q.2 (by rw [c18]; decide)), if_neg Bool.false_ne_true] <;> rfl) hP hS dX3_copy_22
