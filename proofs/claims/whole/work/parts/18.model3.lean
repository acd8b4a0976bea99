set_option maxRecDepth 20000 in
theorem ggX4_best_X4_in : GoodIn wsX4_best wsX4_in := goodIn_r _ [7] (by decide +kernel) (by decide +kernel)
set_option maxRecDepth 20000 in
theorem gX4_best_X4_in : GoodIn wsX4_best (va_wsS RX4 82 yX4_in wsX4_in) := goodIn_app (goodIn_of _ (by decide +kernel)) ggX4_best_X4_in
set_option maxRecDepth 20000 in
theorem ggX4_best_X4_cells : GoodIn wsX4_best wsX4_cells := goodIn_r _ [11, 2, 12, 45, 46, 47, 48, 49, 50, 51, 52, 53, 54, 55, 56, 57, 58, 59, 60, 61, 62, 63, 64, 65, 66, 67, 68, 69, 70, 71, 72, 73, 74, 75] (by decide +kernel) (by decide +kernel)
set_option maxRecDepth 20000 in
theorem gX4_best_X4_cells : GoodIn wsX4_best (wsV RX4 78 RX4 yX4_cells wsX4_cells) := goodIn_app (goodIn_of _ (by decide +kernel)) ggX4_best_X4_cells
set_option maxRecDepth 20000 in
theorem ggX4_best_X4_wholeAt : GoodIn wsX4_best wsX4_wholeAt := goodIn_r _ [16, 17, 18, 19, 20, 6, 21, 22, 23, 24, 25, 12, 26, 3, 27, 28, 29, 30, 31, 32, 33, 34, 35, 36, 37, 38, 39, 40, 41, 45, 46, 47, 48, 49, 50, 51, 52, 53, 54, 55, 56, 57, 58, 59, 60, 61, 62, 63, 64, 65, 66, 67, 68, 69, 70, 71, 72, 73, 74, 75] (by decide +kernel) (by decide +kernel)
set_option maxRecDepth 20000 in
theorem gX4_best_X4_wholeAt : GoodIn wsX4_best (wsV RX4 179 RX4 yX4_wholeAt wsX4_wholeAt) := goodIn_app (goodIn_of _ (by decide +kernel)) ggX4_best_X4_wholeAt
set_option maxRecDepth 20000 in
theorem ggX4_best_X4_bits : GoodIn wsX4_best wsX4_bits := goodIn_r _ [44] (by decide +kernel) (by decide +kernel)
set_option maxRecDepth 20000 in
theorem gX4_best_X4_bits : GoodIn wsX4_best (va_wsS RX4 185 yX4_bits wsX4_bits) := goodIn_app (goodIn_of _ (by decide +kernel)) ggX4_best_X4_bits
set_option maxHeartbeats 4000000 in
set_option maxRecDepth 100000 in
theorem kX4_best (l : Launch) (dC : Nat → ClassId) (dI : Nat → Nat → Nat) (cI cZ : ClassId) (q n : Nat → Nat) (mb : Int32) (f : Nat → Int32) (A : Nat → Nat → Nat) (Y : Nat → Nat → Int32) (hW : WF n A) (hR : RM n A Y) (hmb : 0 < n 6 → mb = nI (n 7)) (bl : Int32) (w : Int32) (sz : Nat) (hn01 : 0 < n 0 → 0 < n 1) : Met l yX4_best wsX4_best ({ frames := 4, cells := 0, slots := 0, locals := 106 }) (roP [.ref (q 0), .int bl, .int w] sz (dC, dI) [(cI, .int), (cZ, .boolean)] (wM cI cZ q n mb f Y)) (roQi (uBest n A bl w) sz) 0 0 (va_A [] sz) := by
  refine ro_met_i (by decide) rfl (Nat.le_of_ble_eq_true rfl) ?_
  intro pp ee ss mm aa bb me cd RR QQ Z hx hb hml hown hts hRf hRl hP hK hA hS hend ls hl
  have hown : ss.vm.findClass RX4 = some mm.cls := hown
  have hRf : 4 ≤ RR.frames := hRf
  have hRl : 106 ≤ RR.locals := hRl
  have hl : lv_has ls 7 [(0, .ref (q 0)), (1, .int bl), (2, .int w)] := hl
  obtain ⟨w0, w1, w2, w3, w4, w5, w6, w7, w8, wA0, wA1, wA2⟩ := id hW
  have wC : n 0 * n 1 ≤ 42 := Nat.mul_le_mul w0 w1
  have hk161 := hts (.constantLong RX4 161 (9)) (List.mem_of_getElem? (i := 1) rfl)
  have hf72 := hts (.fieldLink RX4 72 "StatueSquareModel" "high" "I") (List.mem_of_getElem? (i := 2) rfl)
  have hinX4 : ∀ w ∈ u_ws RX4 TX4 31, w ∈ wsX4_best := fun _ h => List.mem_cons_of_mem _ (List.mem_append_right _ h)
  have hf7 := hts (.fieldLink RX4 7 "StatueSquareModel" "has" "[I") (List.mem_of_getElem? (i := 3) rfl)
  refine lv_iload_n hx hb dX4_best_0 rfl (lv_at hl 1 rfl) ?_
  refine lv_i2l hx hb dX4_best_1 rfl ?_
  refine lv_lconst (v := 0) hx hb dX4_best_2 rfl ?_
  refine lv_ldc2 hx hb hown hk161 dX4_best_3 ?_
  refine roS_i (As := [.long bl.toInt64, .long 0, .long 9]) (rest := []) ⟨hx, hb, hml, hown, hts⟩ (kX4_in l dC dI bl.toInt64 0 9 _ ) (va_cwS 3 hts gX4_best_X4_in rfl rfl rfl hdX4_in ⟨Nat.le_trans (Nat.le_of_ble_eq_true rfl) hRf, Nat.le_trans (Nat.le_of_ble_eq_true rfl) hRl⟩) (hK.sub [] rfl) (hP.sub [] rfl) rfl hl.1 rfl (Nat.le_of_ble_eq_true rfl) dX4_best_6 ⟨Nat.zero_le _, Nat.zero_le _⟩ hP hS hA (fun H locs hP hS => ?_)
  refine x_top (y := bI (inB bl 10)) (congrArg bI (inL_c (by omega) rfl)) ?_
  refine x_ifb_eq (tgt := 22) hx hb dX4_best_9 (by decide) (fun c9 => ?_) (fun c9 => ?_)
  · skip
    refine lv_bipush (v := -2) hx hb dX4_best_22 rfl ?_
    exact hend _ _ _ _ _ (by first | (simp [uBest, c9]; done) | (simp [uBest, c19]; done)) hS dX4_best_24
  · skip
    obtain ⟨j, hj, rfl⟩ := inB_t (by omega) c9
    have hxj : xn (nI j) = j := xn_nI (by omega)
    refine lv_iload_n hx hb dX4_best_12 rfl (lv_at hl 2 rfl) ?_
    refine lv_i2l hx hb dX4_best_13 rfl ?_
    refine lv_lconst (v := 0) hx hb dX4_best_14 rfl ?_
    refine lv_lconst (v := 1) hx hb dX4_best_15 rfl ?_
    refine roS_i (As := [.long w.toInt64, .long 0, .long 1]) (rest := []) ⟨hx, hb, hml, hown, hts⟩ (kX4_in l dC dI w.toInt64 0 1 _ ) (va_cwS 3 hts gX4_best_X4_in rfl rfl rfl hdX4_in ⟨Nat.le_trans (Nat.le_of_ble_eq_true rfl) hRf, Nat.le_trans (Nat.le_of_ble_eq_true rfl) hRl⟩) (hK.sub [] rfl) (hP.sub [] rfl) rfl hl.1 rfl (Nat.le_of_ble_eq_true rfl) dX4_best_16 ⟨Nat.zero_le _, Nat.zero_le _⟩ hP hS hA (fun H locs hP hS => ?_)
    refine x_top (y := bI (inB w 2)) (congrArg bI (inL_c (by omega) rfl)) ?_
    refine x_ifb_ne (tgt := 25) hx hb dX4_best_19 (by decide) (fun c19 => ?_) (fun c19 => ?_)
    · skip
      refine lv_aload_n hx hb dX4_best_25 rfl (lv_at hl 0 rfl) ?_
      refine x_get (D := (dC, dI)) (ci := 4) (v := .int (nI (n 0))) (C := RX4) (T := TX4) (N := 31) hx hb hts hinX4 hown hK hP 0 rfl rfl 1 (Nat.le_of_ble_eq_true rfl) hf72 rfl rfl dX4_best_26 ?_
      refine x_if_ne (tgt := 35) hx hb (by omega) dX4_best_29 (by decide) (fun c29 => ?_) (fun c29 => ?_)
      · skip
        have hcl0 : 0 < n 0 * n 1 := Nat.mul_pos (by omega) (hn01 (by omega))
        refine lv_bipush (v := -9) hx hb dX4_best_35 rfl ?_
        refine lv_istore_n (lv' := [(3, .int (-9)), (0, .ref (q 0)), (1, .int (nI j)), (2, .int w)]) hx hb dX4_best_37 rfl hl (by decide) rfl (fun ls hl => ?_)
        refine lv_iconst (v := nI 0) hx hb dX4_best_38 rfl ?_
        refine lv_istore (lv' := [(4, .int (nI 0)), (3, .int (-9)), (0, .ref (q 0)), (1, .int (nI j)), (2, .int w)]) hx hb dX4_best_39 hl (by decide) rfl (fun ls hl => ?_)
        refine lv_iconst (v := nI 0) hx hb dX4_best_41 rfl ?_
        refine lv_istore (lv' := [(5, .int (nI 0)), (4, .int (nI 0)), (3, .int (-9)), (0, .ref (q 0)), (1, .int (nI j)), (2, .int w)]) hx hb dX4_best_42 hl (by decide) rfl (fun ls hl => ?_)
        have L44 : ∀ (fuel : Nat) (k : Nat) (hk : k ≤ n 0 * n 1) (hfu : n 0 * n 1 - k < fuel) (H : Heap) (locs : List Loc), va_P (dC, dI) vwCl (wM cI cZ q n mb f Y) H → va_S Z ss.heap H locs → ∀ (ls : Array Slot), lv_has ls 7 [(0, .ref (q 0)), (1, .int (nI j)), (2, .int w), (3, .int (stI (sBest n A j k).1)), (4, .int (nI ((sBest n A j k).2 - 1))), (5, .int (nI k))] → W pp l ee RR ss mm aa bb me cd H locs 0 0 QQ (F0 mm 44 ls []) := by
          intro fuel
          induction fuel with
          | zero => intro k hk hfu; exact absurd hfu (Nat.not_lt_zero _)
          | succ fuel ih =>
            intro k hk hfu H locs hP hS ls hl
            have hble := best_le (A := A) w2 j k
            have hct : sCnt n A k j ≤ 12 := Nat.le_trans (sCnt_le _ _ _ _) w2
            refine lv_iload hx hb dX4_best_44 (lv_at hl 5 rfl) ?_
            refine lv_aload_n hx hb dX4_best_46 rfl (lv_at hl 0 rfl) ?_
            refine roV_i (As := []) (rest := [.int (nI k)]) ⟨hx, hb, hml, hown, hts⟩ (kX4_cells l dC dI cI cZ q n mb f A Y hW hR hmb  _ ) (cwV 0 hts gX4_best_X4_cells rfl rfl rfl hdX4_cells ⟨Nat.le_trans (Nat.le_of_ble_eq_true rfl) hRf, Nat.le_trans (Nat.le_of_ble_eq_true rfl) hRl⟩) (va_recv hK hP (ci := 4) (q0 := 0) rfl rfl) hK hP rfl hl.1 rfl (Nat.le_of_ble_eq_true rfl) dX4_best_47 ⟨Nat.zero_le _, Nat.zero_le _⟩ hP hS hA (fun H locs hP hS => ?_)
            refine x_icmp_ge (tgt := 115) hx hb (by omega) (by omega) dX4_best_50 (by decide) (fun c50 => ?_) (fun c50 => ?_)
            · skip
              refine lv_iload_n hx hb dX4_best_115 rfl (lv_at hl 2 rfl) ?_
              refine lv_if_ne (tgt := 123) hx hb dX4_best_116 (by decide) (fun c116 => ?_) (fun c116 => ?_)
              · skip
                refine lv_iload hx hb dX4_best_123 (lv_at hl 4 rfl) ?_
                exact hend _ _ _ _ _ (by have hla : 0 < n 0 * n 1 := hcl0; simp [uBest, inB02, c9, c19, hla, hxj, c116, show k = n 0 * n 1 from by omega]) hS dX4_best_125
              · skip
                refine lv_iload_n hx hb dX4_best_119 rfl (lv_at hl 3 rfl) ?_
                refine lv_goto (tgt := 125) hx hb dX4_best_120 (by decide) ?_
                exact hend _ _ _ _ _ (by have hla : 0 < n 0 * n 1 := hcl0; simp [uBest, inB02, c9, c19, hla, hxj, c116, show k = n 0 * n 1 from by omega]) hS dX4_best_125
            · skip
              refine lv_aload_n hx hb dX4_best_53 rfl (lv_at hl 0 rfl) ?_
              refine x_get (D := (dC, dI)) (ci := 4) (v := .ref (q 1)) (C := RX4) (T := TX4) (N := 31) hx hb hts hinX4 hown hK hP 0 rfl rfl 3 (Nat.le_of_ble_eq_true rfl) hf7 rfl rfl dX4_best_54 ?_
              refine lv_iload hx hb dX4_best_57 (lv_at hl 5 rfl) ?_
              refine x_iald (v := (nI (A 0 k))) hx hb hK hP 1 0 rfl rfl (by omega) (by decide) (hR.1 _ (by omega)) dX4_best_59 ?_
              refine x_if_ne (tgt := 109) hx hb (by have := wA0 k (by omega); omega) dX4_best_60 (by decide) (fun c60 => ?_) (fun c60 => ?_)
              · skip
                have hz : sBest n A j (k + 1) = sBest n A j k := if_neg (fun q => c60 (of_decide_eq_true q.1))
                refine lv_iinc (v := (nI (k + 1))) (lv' := [(5, .int (nI (k + 1))), (0, .ref (q 0)), (1, .int (nI j)), (2, .int w), (3, .int (stI (sBest n A j k).1)), (4, .int (nI ((sBest n A j k).2 - 1)))]) hx hb dX4_best_109 hl (k := 5) rfl (nI_add _ _) (by decide) rfl (fun ls hl => ?_)
                refine lv_goto (tgt := 44) hx hb dX4_best_112 (by decide) ?_
                exact ih (k + 1) (by omega) (by omega) _ _ hP hS _ (by rw [hz]; exact lv_sub hl [1, 2, 3, 4, 5, 0] rfl)
              · skip
                refine lv_aload_n hx hb dX4_best_63 rfl (lv_at hl 0 rfl) ?_
                refine lv_iload hx hb dX4_best_64 (lv_at hl 5 rfl) ?_
                refine lv_iload_n hx hb dX4_best_66 rfl (lv_at hl 1 rfl) ?_
                refine roV_i (As := [.int (nI k), .int (nI j)]) (rest := []) ⟨hx, hb, hml, hown, hts⟩ (kX4_wholeAt l dC dI cI cZ q n mb f A Y hW hR hmb k j _ (by omega) (by omega)) (cwV 2 hts gX4_best_X4_wholeAt rfl rfl rfl hdX4_wholeAt ⟨Nat.le_trans (Nat.le_of_ble_eq_true rfl) hRf, Nat.le_trans (Nat.le_of_ble_eq_true rfl) hRl⟩) (va_recv hK hP (ci := 4) (q0 := 0) rfl rfl) hK hP rfl hl.1 rfl (Nat.le_of_ble_eq_true rfl) dX4_best_67 ⟨Nat.zero_le _, Nat.zero_le _⟩ hP hS hA (fun H locs hP hS => ?_)
                refine roS_i (As := [.int (nI (sWholeB n A k j))]) (rest := []) ⟨hx, hb, hml, hown, hts⟩ (kX4_bits l dC dI (sWholeB n A k j) _ (Nat.lt_trans (wholeB_lt w2 _ _) (by decide))) (va_cwS 1 hts gX4_best_X4_bits rfl rfl rfl hdX4_bits ⟨Nat.le_trans (Nat.le_of_ble_eq_true rfl) hRf, Nat.le_trans (Nat.le_of_ble_eq_true rfl) hRl⟩) (hK.sub [] rfl) (hP.sub [] rfl) rfl hl.1 rfl (Nat.le_of_ble_eq_true rfl) dX4_best_70 ⟨Nat.zero_le _, Nat.zero_le _⟩ hP hS hA (fun H locs hP hS => ?_)
                refine x_top (y := (nI (sCnt n A k j))) (congrArg nI (cnt_whole w2 _ _)) ?_
                refine lv_istore (lv' := [(6, .int (nI (sCnt n A k j))), (0, .ref (q 0)), (1, .int (nI j)), (2, .int w), (3, .int (stI (sBest n A j k).1)), (4, .int (nI ((sBest n A j k).2 - 1))), (5, .int (nI k))]) hx hb dX4_best_73 hl (by decide) rfl (fun ls hl => ?_)
                refine lv_iload_n hx hb dX4_best_75 rfl (lv_at hl 4 rfl) ?_
                refine lv_if_lt (tgt := 86) hx hb dX4_best_76 (by decide) (fun c76 => ?_) (fun c76 => ?_)
                · skip
                  have hb0 := st_neg (by omega) c76
                  have hb2 := best_none hb0
                  have hz : sBest n A j (k + 1) = (k + 1, sCnt n A k j + 1) := if_pos ⟨decide_eq_true c60, show (sBest n A j k).2 < sCnt n A k j + 1 from by omega⟩
                  refine lv_iload hx hb dX4_best_86 (lv_at hl 6 rfl) ?_
                  refine lv_goto (tgt := 92) hx hb dX4_best_88 (by decide) ?_
                  refine x_top (y := stI (sBest n A j (k + 1)).1) (by rw [hz]; try rfl) ?_
                  refine lv_istore_n (lv' := [(3, .int (stI (sBest n A j (k + 1)).1)), (6, .int (nI (sCnt n A k j))), (0, .ref (q 0)), (1, .int (nI j)), (2, .int w), (4, .int (nI ((sBest n A j k).2 - 1))), (5, .int (nI k))]) hx hb dX4_best_92 rfl hl (by decide) rfl (fun ls hl => ?_)
                  refine lv_iload hx hb dX4_best_93 (lv_at hl 1 rfl) ?_
                  refine lv_iload hx hb dX4_best_95 (lv_at hl 5 rfl) ?_
                  refine x_icmp_le (tgt := 105) hx hb (by omega) (by omega) dX4_best_97 (by decide) (fun c97 => ?_) (fun c97 => ?_)
                  · skip
                    refine lv_iload hx hb dX4_best_105 (lv_at hl 5 rfl) ?_
                    refine x_top (y := nI ((sBest n A j (k + 1)).2 - 1)) (congrArg nI (by rw [hz]; try (first | omega | (simp only []; omega)))) ?_
                    refine lv_istore (lv' := [(4, .int (nI ((sBest n A j (k + 1)).2 - 1))), (3, .int (stI (sBest n A j (k + 1)).1)), (6, .int (nI (sCnt n A k j))), (0, .ref (q 0)), (1, .int (nI j)), (2, .int w), (5, .int (nI k))]) hx hb dX4_best_107 hl (by decide) rfl (fun ls hl => ?_)
                    refine lv_iinc (v := (nI (k + 1))) (lv' := [(5, .int (nI (k + 1))), (4, .int (nI ((sBest n A j (k + 1)).2 - 1))), (3, .int (stI (sBest n A j (k + 1)).1)), (6, .int (nI (sCnt n A k j))), (0, .ref (q 0)), (1, .int (nI j)), (2, .int w)]) hx hb dX4_best_109 hl (k := 6) rfl (nI_add _ _) (by decide) rfl (fun ls hl => ?_)
                    refine lv_goto (tgt := 44) hx hb dX4_best_112 (by decide) ?_
                    exact ih (k + 1) (by omega) (by omega) _ _ hP hS _ (lv_sub hl [4, 5, 6, 2, 1, 0] rfl)
                  · skip
                    refine lv_iload hx hb dX4_best_100 (lv_at hl 1 rfl) ?_
                    refine lv_goto (tgt := 107) hx hb dX4_best_102 (by decide) ?_
                    refine x_top (y := nI ((sBest n A j (k + 1)).2 - 1)) (congrArg nI (by rw [hz]; try (first | omega | (simp only []; omega)))) ?_
                    refine lv_istore (lv' := [(4, .int (nI ((sBest n A j (k + 1)).2 - 1))), (3, .int (stI (sBest n A j (k + 1)).1)), (6, .int (nI (sCnt n A k j))), (0, .ref (q 0)), (1, .int (nI j)), (2, .int w), (5, .int (nI k))]) hx hb dX4_best_107 hl (by decide) rfl (fun ls hl => ?_)
                    refine lv_iinc (v := (nI (k + 1))) (lv' := [(5, .int (nI (k + 1))), (4, .int (nI ((sBest n A j (k + 1)).2 - 1))), (3, .int (stI (sBest n A j (k + 1)).1)), (6, .int (nI (sCnt n A k j))), (0, .ref (q 0)), (1, .int (nI j)), (2, .int w)]) hx hb dX4_best_109 hl (k := 6) rfl (nI_add _ _) (by decide) rfl (fun ls hl => ?_)
                    refine lv_goto (tgt := 44) hx hb dX4_best_112 (by decide) ?_
                    exact ih (k + 1) (by omega) (by omega) _ _ hP hS _ (lv_sub hl [4, 5, 6, 2, 1, 0] rfl)
                · skip
                  have hb0 := best_some (st_nneg c76)
                  refine lv_iload hx hb dX4_best_79 (lv_at hl 0 rfl) ?_
                  refine lv_iload hx hb dX4_best_81 (lv_at hl 5 rfl) ?_
                  refine x_icmp_le (tgt := 91) hx hb (by omega) (by omega) dX4_best_83 (by decide) (fun c83 => ?_) (fun c83 => ?_)
                  · skip
                    have hz : sBest n A j (k + 1) = sBest n A j k := if_neg (fun q => by have q2 : (sBest n A j k).2 < sCnt n A k j + 1 := q.2; omega)
                    refine lv_iload_n hx hb dX4_best_91 rfl (lv_at hl 4 rfl) ?_
                    refine x_top (y := stI (sBest n A j (k + 1)).1) (by rw [hz]; try rfl) ?_
                    refine lv_istore_n (lv' := [(3, .int (stI (sBest n A j (k + 1)).1)), (6, .int (nI (sCnt n A k j))), (0, .ref (q 0)), (1, .int (nI j)), (2, .int w), (4, .int (nI ((sBest n A j k).2 - 1))), (5, .int (nI k))]) hx hb dX4_best_92 rfl hl (by decide) rfl (fun ls hl => ?_)
                    refine lv_iload hx hb dX4_best_93 (lv_at hl 1 rfl) ?_
                    refine lv_iload hx hb dX4_best_95 (lv_at hl 5 rfl) ?_
                    refine x_icmp_le (tgt := 105) hx hb (by omega) (by omega) dX4_best_97 (by decide) (fun c97 => ?_) (fun c97 => ?_)
                    · skip
                      refine lv_iload hx hb dX4_best_105 (lv_at hl 5 rfl) ?_
                      refine x_top (y := nI ((sBest n A j (k + 1)).2 - 1)) (congrArg nI (by rw [hz]; try (first | omega | (simp only []; omega)))) ?_
                      refine lv_istore (lv' := [(4, .int (nI ((sBest n A j (k + 1)).2 - 1))), (3, .int (stI (sBest n A j (k + 1)).1)), (6, .int (nI (sCnt n A k j))), (0, .ref (q 0)), (1, .int (nI j)), (2, .int w), (5, .int (nI k))]) hx hb dX4_best_107 hl (by decide) rfl (fun ls hl => ?_)
                      refine lv_iinc (v := (nI (k + 1))) (lv' := [(5, .int (nI (k + 1))), (4, .int (nI ((sBest n A j (k + 1)).2 - 1))), (3, .int (stI (sBest n A j (k + 1)).1)), (6, .int (nI (sCnt n A k j))), (0, .ref (q 0)), (1, .int (nI j)), (2, .int w)]) hx hb dX4_best_109 hl (k := 6) rfl (nI_add _ _) (by decide) rfl (fun ls hl => ?_)
                      refine lv_goto (tgt := 44) hx hb dX4_best_112 (by decide) ?_
                      exact ih (k + 1) (by omega) (by omega) _ _ hP hS _ (lv_sub hl [4, 5, 6, 2, 1, 0] rfl)
                    · skip
                      refine lv_iload hx hb dX4_best_100 (lv_at hl 1 rfl) ?_
                      refine lv_goto (tgt := 107) hx hb dX4_best_102 (by decide) ?_
                      refine x_top (y := nI ((sBest n A j (k + 1)).2 - 1)) (congrArg nI (by rw [hz]; try (first | omega | (simp only []; omega)))) ?_
                      refine lv_istore (lv' := [(4, .int (nI ((sBest n A j (k + 1)).2 - 1))), (3, .int (stI (sBest n A j (k + 1)).1)), (6, .int (nI (sCnt n A k j))), (0, .ref (q 0)), (1, .int (nI j)), (2, .int w), (5, .int (nI k))]) hx hb dX4_best_107 hl (by decide) rfl (fun ls hl => ?_)
                      refine lv_iinc (v := (nI (k + 1))) (lv' := [(5, .int (nI (k + 1))), (4, .int (nI ((sBest n A j (k + 1)).2 - 1))), (3, .int (stI (sBest n A j (k + 1)).1)), (6, .int (nI (sCnt n A k j))), (0, .ref (q 0)), (1, .int (nI j)), (2, .int w)]) hx hb dX4_best_109 hl (k := 6) rfl (nI_add _ _) (by decide) rfl (fun ls hl => ?_)
                      refine lv_goto (tgt := 44) hx hb dX4_best_112 (by decide) ?_
                      exact ih (k + 1) (by omega) (by omega) _ _ hP hS _ (lv_sub hl [4, 5, 6, 2, 1, 0] rfl)
                  · skip
                    have hz : sBest n A j (k + 1) = (k + 1, sCnt n A k j + 1) := if_pos ⟨decide_eq_true c60, show (sBest n A j k).2 < sCnt n A k j + 1 from by omega⟩
                    refine lv_iload hx hb dX4_best_86 (lv_at hl 6 rfl) ?_
                    refine lv_goto (tgt := 92) hx hb dX4_best_88 (by decide) ?_
                    refine x_top (y := stI (sBest n A j (k + 1)).1) (by rw [hz]; try rfl) ?_
                    refine lv_istore_n (lv' := [(3, .int (stI (sBest n A j (k + 1)).1)), (6, .int (nI (sCnt n A k j))), (0, .ref (q 0)), (1, .int (nI j)), (2, .int w), (4, .int (nI ((sBest n A j k).2 - 1))), (5, .int (nI k))]) hx hb dX4_best_92 rfl hl (by decide) rfl (fun ls hl => ?_)
                    refine lv_iload hx hb dX4_best_93 (lv_at hl 1 rfl) ?_
                    refine lv_iload hx hb dX4_best_95 (lv_at hl 5 rfl) ?_
                    refine x_icmp_le (tgt := 105) hx hb (by omega) (by omega) dX4_best_97 (by decide) (fun c97 => ?_) (fun c97 => ?_)
                    · skip
                      refine lv_iload hx hb dX4_best_105 (lv_at hl 5 rfl) ?_
                      refine x_top (y := nI ((sBest n A j (k + 1)).2 - 1)) (congrArg nI (by rw [hz]; try (first | omega | (simp only []; omega)))) ?_
                      refine lv_istore (lv' := [(4, .int (nI ((sBest n A j (k + 1)).2 - 1))), (3, .int (stI (sBest n A j (k + 1)).1)), (6, .int (nI (sCnt n A k j))), (0, .ref (q 0)), (1, .int (nI j)), (2, .int w), (5, .int (nI k))]) hx hb dX4_best_107 hl (by decide) rfl (fun ls hl => ?_)
                      refine lv_iinc (v := (nI (k + 1))) (lv' := [(5, .int (nI (k + 1))), (4, .int (nI ((sBest n A j (k + 1)).2 - 1))), (3, .int (stI (sBest n A j (k + 1)).1)), (6, .int (nI (sCnt n A k j))), (0, .ref (q 0)), (1, .int (nI j)), (2, .int w)]) hx hb dX4_best_109 hl (k := 6) rfl (nI_add _ _) (by decide) rfl (fun ls hl => ?_)
                      refine lv_goto (tgt := 44) hx hb dX4_best_112 (by decide) ?_
                      exact ih (k + 1) (by omega) (by omega) _ _ hP hS _ (lv_sub hl [4, 5, 6, 2, 1, 0] rfl)
                    · skip
                      refine lv_iload hx hb dX4_best_100 (lv_at hl 1 rfl) ?_
                      refine lv_goto (tgt := 107) hx hb dX4_best_102 (by decide) ?_
                      refine x_top (y := nI ((sBest n A j (k + 1)).2 - 1)) (congrArg nI (by rw [hz]; try (first | omega | (simp only []; omega)))) ?_
                      refine lv_istore (lv' := [(4, .int (nI ((sBest n A j (k + 1)).2 - 1))), (3, .int (stI (sBest n A j (k + 1)).1)), (6, .int (nI (sCnt n A k j))), (0, .ref (q 0)), (1, .int (nI j)), (2, .int w), (5, .int (nI k))]) hx hb dX4_best_107 hl (by decide) rfl (fun ls hl => ?_)
                      refine lv_iinc (v := (nI (k + 1))) (lv' := [(5, .int (nI (k + 1))), (4, .int (nI ((sBest n A j (k + 1)).2 - 1))), (3, .int (stI (sBest n A j (k + 1)).1)), (6, .int (nI (sCnt n A k j))), (0, .ref (q 0)), (1, .int (nI j)), (2, .int w)]) hx hb dX4_best_109 hl (k := 6) rfl (nI_add _ _) (by decide) rfl (fun ls hl => ?_)
                      refine lv_goto (tgt := 44) hx hb dX4_best_112 (by decide) ?_
                      exact ih (k + 1) (by omega) (by omega) _ _ hP hS _ (lv_sub hl [4, 5, 6, 2, 1, 0] rfl)
        exact L44 _ 0 (by omega) (Nat.lt_succ_self _) _ _ hP hS _ (lv_sub hl [3, 4, 5, 2, 1, 0] rfl)
      · skip
        refine lv_bipush (v := -3) hx hb dX4_best_32 rfl ?_
        exact hend _ _ _ _ _ (by simp [uBest, c9, c19, show ¬ 0 < n 0 * n 1 from by rw [c29]; omega]) hS dX4_best_34
    · skip
      refine lv_bipush (v := -2) hx hb dX4_best_22 rfl ?_
      exact hend _ _ _ _ _ (by first | (simp [uBest, c9]; done) | (simp [uBest, c19]; done)) hS dX4_best_24
set_option maxRecDepth 20000 in
theorem ggX4_block_X4_noCell : GoodIn wsX4_block wsX4_noCell := goodIn_r _ [6, 7, 8, 9, 5, 10, 11, 12, 13, 14, 15, 48, 49, 50, 51, 52, 53, 54, 55, 56, 57, 58, 59, 60, 61, 62, 63, 64, 65, 66, 67, 68, 69, 70, 71, 72, 73, 74, 75, 76, 77, 78] (by decide +kernel) (by decide +kernel)
set_option maxRecDepth 20000 in
theorem gX4_block_X4_noCell : GoodIn wsX4_block (wsV RX4 147 RX4 yX4_noCell wsX4_noCell) := goodIn_app (goodIn_of _ (by decide +kernel)) ggX4_block_X4_noCell
set_option maxRecDepth 20000 in
theorem ggX4_block_X4_in : GoodIn wsX4_block wsX4_in := goodIn_r _ [15] (by decide +kernel) (by decide +kernel)
set_option maxRecDepth 20000 in
theorem gX4_block_X4_in : GoodIn wsX4_block (va_wsS RX4 82 yX4_in wsX4_in) := goodIn_app (goodIn_of _ (by decide +kernel)) ggX4_block_X4_in
set_option maxRecDepth 20000 in
theorem ggX4_block_X4_wholeAt : GoodIn wsX4_block wsX4_wholeAt := goodIn_r _ [19, 20, 21, 22, 23, 5, 24, 25, 26, 27, 28, 12, 29, 1, 30, 31, 32, 33, 34, 35, 36, 37, 38, 39, 40, 41, 42, 43, 44, 48, 49, 50, 51, 52, 53, 54, 55, 56, 57, 58, 59, 60, 61, 62, 63, 64, 65, 66, 67, 68, 69, 70, 71, 72, 73, 74, 75, 76, 77, 78] (by decide +kernel) (by decide +kernel)
set_option maxRecDepth 20000 in
theorem gX4_block_X4_wholeAt : GoodIn wsX4_block (wsV RX4 179 RX4 yX4_wholeAt wsX4_wholeAt) := goodIn_app (goodIn_of _ (by decide +kernel)) ggX4_block_X4_wholeAt
set_option maxRecDepth 20000 in
theorem ggX4_block_X4_bits : GoodIn wsX4_block wsX4_bits := goodIn_r _ [47] (by decide +kernel) (by decide +kernel)
set_option maxRecDepth 20000 in
theorem gX4_block_X4_bits : GoodIn wsX4_block (va_wsS RX4 185 yX4_bits wsX4_bits) := goodIn_app (goodIn_of _ (by decide +kernel)) ggX4_block_X4_bits
set_option maxHeartbeats 4000000 in
set_option maxRecDepth 100000 in
theorem kX4_block (l : Launch) (dC : Nat → ClassId) (dI : Nat → Nat → Nat) (cI cZ : ClassId) (q n : Nat → Nat) (mb : Int32) (f : Nat → Int32) (A : Nat → Nat → Nat) (Y : Nat → Nat → Int32) (hW : WF n A) (hR : RM n A Y) (hmb : 0 < n 6 → mb = nI (n 7)) (c : Int32) (w : Int32) (sz : Nat) : Met l yX4_block wsX4_block ({ frames := 4, cells := 0, slots := 0, locals := 106 }) (roP [.ref (q 0), .int c, .int w] sz (dC, dI) [(cI, .int), (cZ, .boolean)] (wM cI cZ q n mb f Y)) (roQi (uBlock n A c w) sz) 0 0 (va_A [] sz) := by
  refine ro_met_i (by decide) rfl (Nat.le_of_ble_eq_true rfl) ?_
  intro pp ee ss mm aa bb me cd RR QQ Z hx hb hml hown hts hRf hRl hP hK hA hS hend ls hl
  have hown : ss.vm.findClass RX4 = some mm.cls := hown
  have hRf : 4 ≤ RR.frames := hRf
  have hRl : 106 ≤ RR.locals := hRl
  have hl : lv_has ls 7 [(0, .ref (q 0)), (1, .int c), (2, .int w)] := hl
  obtain ⟨w0, w1, w2, w3, w4, w5, w6, w7, w8, wA0, wA1, wA2⟩ := id hW
  have wC : n 0 * n 1 ≤ 42 := Nat.mul_le_mul w0 w1
  have hf7 := hts (.fieldLink RX4 7 "StatueSquareModel" "has" "[I") (List.mem_of_getElem? (i := 1) rfl)
  have hinX4 : ∀ w ∈ u_ws RX4 TX4 31, w ∈ wsX4_block := fun _ h => List.mem_cons_of_mem _ (List.mem_append_right _ h)
  refine lv_aload_n hx hb dX4_block_0 rfl (lv_at hl 0 rfl) ?_
  refine lv_iload_n hx hb dX4_block_1 rfl (lv_at hl 1 rfl) ?_
  refine roV_i (As := [.int c]) (rest := []) ⟨hx, hb, hml, hown, hts⟩ (kX4_noCell l dC dI cI cZ q n mb f A Y hW hR hmb c _ ) (cwV 1 hts gX4_block_X4_noCell rfl rfl rfl hdX4_noCell ⟨Nat.le_trans (Nat.le_of_ble_eq_true rfl) hRf, Nat.le_trans (Nat.le_of_ble_eq_true rfl) hRl⟩) (va_recv hK hP (ci := 4) (q0 := 0) rfl rfl) hK hP rfl hl.1 rfl (Nat.le_of_ble_eq_true rfl) dX4_block_2 ⟨Nat.zero_le _, Nat.zero_le _⟩ hP hS hA (fun H locs hP hS => ?_)
  refine x_ifb_eq (tgt := 10) hx hb dX4_block_5 (by decide) (fun c5 => ?_) (fun c5 => ?_)
  · skip
    have c5 : inB c (n 0 * n 1) = true := by simpa using c5
    obtain ⟨j, hj, rfl⟩ := inB_t (by omega) c5
    have hxj : xn (nI j) = j := xn_nI (by omega)
    refine lv_iload_n hx hb dX4_block_10 rfl (lv_at hl 2 rfl) ?_
    refine lv_i2l hx hb dX4_block_11 rfl ?_
    refine lv_lconst (v := 0) hx hb dX4_block_12 rfl ?_
    refine lv_lconst (v := 1) hx hb dX4_block_13 rfl ?_
    refine roS_i (As := [.long w.toInt64, .long 0, .long 1]) (rest := []) ⟨hx, hb, hml, hown, hts⟩ (kX4_in l dC dI w.toInt64 0 1 _ ) (va_cwS 3 hts gX4_block_X4_in rfl rfl rfl hdX4_in ⟨Nat.le_trans (Nat.le_of_ble_eq_true rfl) hRf, Nat.le_trans (Nat.le_of_ble_eq_true rfl) hRl⟩) (hK.sub [] rfl) (hP.sub [] rfl) rfl hl.1 rfl (Nat.le_of_ble_eq_true rfl) dX4_block_14 ⟨Nat.zero_le _, Nat.zero_le _⟩ hP hS hA (fun H locs hP hS => ?_)
    refine x_top (y := bI (inB w 2)) (congrArg bI (inL_c (by omega) rfl)) ?_
    refine x_ifb_ne (tgt := 23) hx hb dX4_block_17 (by decide) (fun c17 => ?_) (fun c17 => ?_)
    · skip
      refine lv_aload_n hx hb dX4_block_23 rfl (lv_at hl 0 rfl) ?_
      refine x_get (D := (dC, dI)) (ci := 4) (v := .ref (q 1)) (C := RX4) (T := TX4) (N := 31) hx hb hts hinX4 hown hK hP 0 rfl rfl 3 (Nat.le_of_ble_eq_true rfl) hf7 rfl rfl dX4_block_24 ?_
      refine lv_iload_n hx hb dX4_block_27 rfl (lv_at hl 1 rfl) ?_
      refine x_iald (v := (nI (A 0 j))) hx hb hK hP 1 0 rfl rfl (by omega) (by decide) (hR.1 _ (by omega)) dX4_block_28 ?_
      refine x_if_le (tgt := 35) hx hb (by have := wA0 j hj; omega) dX4_block_29 (by decide) (fun c29 => ?_) (fun c29 => ?_)
      · skip
        refine lv_iconst (v := nI 0) hx hb dX4_block_35 rfl ?_
        refine lv_istore_n (lv' := [(3, .int (nI 0)), (0, .ref (q 0)), (1, .int (nI j)), (2, .int w)]) hx hb dX4_block_36 rfl hl (by decide) rfl (fun ls hl => ?_)
        refine lv_bipush (v := -9) hx hb dX4_block_37 rfl ?_
        refine lv_istore (lv' := [(4, .int (-9)), (3, .int (nI 0)), (0, .ref (q 0)), (1, .int (nI j)), (2, .int w)]) hx hb dX4_block_39 hl (by decide) rfl (fun ls hl => ?_)
        refine lv_iconst (v := nI 0) hx hb dX4_block_41 rfl ?_
        refine lv_istore (lv' := [(5, .int (nI 0)), (4, .int (-9)), (3, .int (nI 0)), (0, .ref (q 0)), (1, .int (nI j)), (2, .int w)]) hx hb dX4_block_42 hl (by decide) rfl (fun ls hl => ?_)
        have L44 : ∀ (fuel : Nat) (k : Nat) (hk : k ≤ 10) (hfu : 10 - k < fuel) (H : Heap) (locs : List Loc), va_P (dC, dI) vwCl (wM cI cZ q n mb f Y) H → va_S Z ss.heap H locs → ∀ (ls : Array Slot), lv_has ls 7 [(0, .ref (q 0)), (1, .int (nI j)), (2, .int w), (3, .int (nI ((sLeast n A j k).1 - 1))), (4, .int (stI (sLeast n A j k).2)), (5, .int (nI k))] → W pp l ee RR ss mm aa bb me cd H locs 0 0 QQ (F0 mm 44 ls []) := by
          intro fuel
          induction fuel with
          | zero => intro k hk hfu; exact absurd hfu (Nat.not_lt_zero _)
          | succ fuel ih =>
            intro k hk hfu H locs hP hS ls hl
            have hble := least_le (A := A) w2 j k
            have hct : sCnt n A j k ≤ 12 := Nat.le_trans (sCnt_le _ _ _ _) w2
            refine lv_iload hx hb dX4_block_44 (lv_at hl 5 rfl) ?_
            refine lv_bipush (v := nI 9) hx hb dX4_block_46 rfl ?_
            refine x_icmp_gt (tgt := 99) hx hb (by omega) (by omega) dX4_block_48 (by decide) (fun c48 => ?_) (fun c48 => ?_)
            · skip
              refine lv_iload_n hx hb dX4_block_99 rfl (lv_at hl 2 rfl) ?_
              refine lv_if_ne (tgt := 107) hx hb dX4_block_100 (by decide) (fun c100 => ?_) (fun c100 => ?_)
              · skip
                refine lv_iload hx hb dX4_block_107 (lv_at hl 4 rfl) ?_
                exact hend _ _ _ _ _ (by rw [show k = 10 from by omega]; simp [uBlock, inB02, c5, c17, hxj, c29, c100]; exact stI_pos (by have := least_snd n A j; omega)) hS dX4_block_109
              · skip
                refine lv_iload_n hx hb dX4_block_103 rfl (lv_at hl 3 rfl) ?_
                refine lv_goto (tgt := 109) hx hb dX4_block_104 (by decide) ?_
                exact hend _ _ _ _ _ (by simp [uBlock, inB02, c5, c17, hxj, c29, c100, show k = 10 from by omega]) hS dX4_block_109
            · skip
              refine lv_aload_n hx hb dX4_block_51 rfl (lv_at hl 0 rfl) ?_
              refine lv_iload_n hx hb dX4_block_52 rfl (lv_at hl 1 rfl) ?_
              refine lv_iload hx hb dX4_block_53 (lv_at hl 5 rfl) ?_
              refine roV_i (As := [.int (nI j), .int (nI k)]) (rest := []) ⟨hx, hb, hml, hown, hts⟩ (kX4_wholeAt l dC dI cI cZ q n mb f A Y hW hR hmb j k _ (by omega) (by omega)) (cwV 2 hts gX4_block_X4_wholeAt rfl rfl rfl hdX4_wholeAt ⟨Nat.le_trans (Nat.le_of_ble_eq_true rfl) hRf, Nat.le_trans (Nat.le_of_ble_eq_true rfl) hRl⟩) (va_recv hK hP (ci := 4) (q0 := 0) rfl rfl) hK hP rfl hl.1 rfl (Nat.le_of_ble_eq_true rfl) dX4_block_55 ⟨Nat.zero_le _, Nat.zero_le _⟩ hP hS hA (fun H locs hP hS => ?_)
              refine roS_i (As := [.int (nI (sWholeB n A j k))]) (rest := []) ⟨hx, hb, hml, hown, hts⟩ (kX4_bits l dC dI (sWholeB n A j k) _ (Nat.lt_trans (wholeB_lt w2 _ _) (by decide))) (va_cwS 1 hts gX4_block_X4_bits rfl rfl rfl hdX4_bits ⟨Nat.le_trans (Nat.le_of_ble_eq_true rfl) hRf, Nat.le_trans (Nat.le_of_ble_eq_true rfl) hRl⟩) (hK.sub [] rfl) (hP.sub [] rfl) rfl hl.1 rfl (Nat.le_of_ble_eq_true rfl) dX4_block_58 ⟨Nat.zero_le _, Nat.zero_le _⟩ hP hS hA (fun H locs hP hS => ?_)
              refine x_top (y := (nI (sCnt n A j k))) (congrArg nI (cnt_whole w2 _ _)) ?_
              refine lv_istore (lv' := [(6, .int (nI (sCnt n A j k))), (0, .ref (q 0)), (1, .int (nI j)), (2, .int w), (3, .int (nI ((sLeast n A j k).1 - 1))), (4, .int (stI (sLeast n A j k).2)), (5, .int (nI k))]) hx hb dX4_block_61 hl (by decide) rfl (fun ls hl => ?_)
              refine lv_iload hx hb dX4_block_63 (lv_at hl 0 rfl) ?_
              refine lv_iload hx hb dX4_block_65 (lv_at hl 5 rfl) ?_
              refine lv_icmp_le (tgt := 75) hx hb dX4_block_67 (by decide) (fun c67 => ?_) (fun c67 => ?_)
              · skip
                have hq := (stI_le (by omega) (by omega)).mp c67
                have hz : sLeast n A j (k + 1) = sLeast n A j k := if_neg (fun q => by have q2 : (sLeast n A j k).2 < sCnt n A j k + 1 := q.2; omega)
                refine lv_iload_n hx hb dX4_block_75 rfl (lv_at hl 4 rfl) ?_
                refine x_top (y := nI ((sLeast n A j (k + 1)).1 - 1)) (congrArg nI (by rw [hz]; try rfl)) ?_
                refine lv_istore_n (lv' := [(3, .int (nI ((sLeast n A j (k + 1)).1 - 1))), (6, .int (nI (sCnt n A j k))), (0, .ref (q 0)), (1, .int (nI j)), (2, .int w), (4, .int (stI (sLeast n A j k).2)), (5, .int (nI k))]) hx hb dX4_block_76 rfl hl (by decide) rfl (fun ls hl => ?_)
                refine lv_iload hx hb dX4_block_77 (lv_at hl 1 rfl) ?_
                refine lv_iload hx hb dX4_block_79 (lv_at hl 5 rfl) ?_
                refine lv_icmp_le (tgt := 89) hx hb dX4_block_81 (by decide) (fun c81 => ?_) (fun c81 => ?_)
                · skip
                  have hq2 := (stI_le (by omega) (by omega)).mp c81
                  have hz2 : sLeast n A j (k + 1) = sLeast n A j k := if_neg (fun q => by have q2 : (sLeast n A j k).2 < sCnt n A j k + 1 := q.2; omega)
                  refine lv_iload hx hb dX4_block_89 (lv_at hl 5 rfl) ?_
                  refine x_top (y := stI (sLeast n A j (k + 1)).2) (by rw [hz2]; try rfl) ?_
                  refine lv_istore (lv' := [(4, .int (stI (sLeast n A j (k + 1)).2)), (3, .int (nI ((sLeast n A j (k + 1)).1 - 1))), (6, .int (nI (sCnt n A j k))), (0, .ref (q 0)), (1, .int (nI j)), (2, .int w), (5, .int (nI k))]) hx hb dX4_block_91 hl (by decide) rfl (fun ls hl => ?_)
                  refine lv_iinc (v := (nI (k + 1))) (lv' := [(5, .int (nI (k + 1))), (4, .int (stI (sLeast n A j (k + 1)).2)), (3, .int (nI ((sLeast n A j (k + 1)).1 - 1))), (6, .int (nI (sCnt n A j k))), (0, .ref (q 0)), (1, .int (nI j)), (2, .int w)]) hx hb dX4_block_93 hl (k := 6) rfl (nI_add _ _) (by decide) rfl (fun ls hl => ?_)
                  refine lv_goto (tgt := 44) hx hb dX4_block_96 (by decide) ?_
                  exact ih (k + 1) (by omega) (by omega) _ _ hP hS _ (lv_sub hl [4, 5, 6, 2, 1, 0] rfl)
                · skip
                  have hq2 := mt (stI_le (by omega) (by omega)).mpr c81
                  have hz2 : sLeast n A j (k + 1) = (k + 1, sCnt n A j k + 1) := if_pos ⟨rfl, show (sLeast n A j k).2 < sCnt n A j k + 1 from by omega⟩
                  refine lv_iload hx hb dX4_block_84 (lv_at hl 1 rfl) ?_
                  refine lv_goto (tgt := 91) hx hb dX4_block_86 (by decide) ?_
                  refine x_top (y := stI (sLeast n A j (k + 1)).2) (by rw [hz2]; try rfl) ?_
                  refine lv_istore (lv' := [(4, .int (stI (sLeast n A j (k + 1)).2)), (3, .int (nI ((sLeast n A j (k + 1)).1 - 1))), (6, .int (nI (sCnt n A j k))), (0, .ref (q 0)), (1, .int (nI j)), (2, .int w), (5, .int (nI k))]) hx hb dX4_block_91 hl (by decide) rfl (fun ls hl => ?_)
                  refine lv_iinc (v := (nI (k + 1))) (lv' := [(5, .int (nI (k + 1))), (4, .int (stI (sLeast n A j (k + 1)).2)), (3, .int (nI ((sLeast n A j (k + 1)).1 - 1))), (6, .int (nI (sCnt n A j k))), (0, .ref (q 0)), (1, .int (nI j)), (2, .int w)]) hx hb dX4_block_93 hl (k := 6) rfl (nI_add _ _) (by decide) rfl (fun ls hl => ?_)
                  refine lv_goto (tgt := 44) hx hb dX4_block_96 (by decide) ?_
                  exact ih (k + 1) (by omega) (by omega) _ _ hP hS _ (lv_sub hl [4, 5, 6, 2, 1, 0] rfl)
              · skip
                have hq := mt (stI_le (by omega) (by omega)).mpr c67
                have hz : sLeast n A j (k + 1) = (k + 1, sCnt n A j k + 1) := if_pos ⟨rfl, show (sLeast n A j k).2 < sCnt n A j k + 1 from by omega⟩
                refine lv_iload hx hb dX4_block_70 (lv_at hl 6 rfl) ?_
                refine lv_goto (tgt := 76) hx hb dX4_block_72 (by decide) ?_
                refine x_top (y := nI ((sLeast n A j (k + 1)).1 - 1)) (congrArg nI (by rw [hz]; try rfl)) ?_
                refine lv_istore_n (lv' := [(3, .int (nI ((sLeast n A j (k + 1)).1 - 1))), (6, .int (nI (sCnt n A j k))), (0, .ref (q 0)), (1, .int (nI j)), (2, .int w), (4, .int (stI (sLeast n A j k).2)), (5, .int (nI k))]) hx hb dX4_block_76 rfl hl (by decide) rfl (fun ls hl => ?_)
                refine lv_iload hx hb dX4_block_77 (lv_at hl 1 rfl) ?_
                refine lv_iload hx hb dX4_block_79 (lv_at hl 5 rfl) ?_
                refine lv_icmp_le (tgt := 89) hx hb dX4_block_81 (by decide) (fun c81 => ?_) (fun c81 => ?_)
                · skip
                  have hq2 := (stI_le (by omega) (by omega)).mp c81
                  have hz2 : sLeast n A j (k + 1) = sLeast n A j k := if_neg (fun q => by have q2 : (sLeast n A j k).2 < sCnt n A j k + 1 := q.2; omega)
                  refine lv_iload hx hb dX4_block_89 (lv_at hl 5 rfl) ?_
                  refine x_top (y := stI (sLeast n A j (k + 1)).2) (by rw [hz2]; try rfl) ?_
                  refine lv_istore (lv' := [(4, .int (stI (sLeast n A j (k + 1)).2)), (3, .int (nI ((sLeast n A j (k + 1)).1 - 1))), (6, .int (nI (sCnt n A j k))), (0, .ref (q 0)), (1, .int (nI j)), (2, .int w), (5, .int (nI k))]) hx hb dX4_block_91 hl (by decide) rfl (fun ls hl => ?_)
                  refine lv_iinc (v := (nI (k + 1))) (lv' := [(5, .int (nI (k + 1))), (4, .int (stI (sLeast n A j (k + 1)).2)), (3, .int (nI ((sLeast n A j (k + 1)).1 - 1))), (6, .int (nI (sCnt n A j k))), (0, .ref (q 0)), (1, .int (nI j)), (2, .int w)]) hx hb dX4_block_93 hl (k := 6) rfl (nI_add _ _) (by decide) rfl (fun ls hl => ?_)
                  refine lv_goto (tgt := 44) hx hb dX4_block_96 (by decide) ?_
                  exact ih (k + 1) (by omega) (by omega) _ _ hP hS _ (lv_sub hl [4, 5, 6, 2, 1, 0] rfl)
                · skip
                  have hq2 := mt (stI_le (by omega) (by omega)).mpr c81
                  have hz2 : sLeast n A j (k + 1) = (k + 1, sCnt n A j k + 1) := if_pos ⟨rfl, show (sLeast n A j k).2 < sCnt n A j k + 1 from by omega⟩
                  refine lv_iload hx hb dX4_block_84 (lv_at hl 1 rfl) ?_
                  refine lv_goto (tgt := 91) hx hb dX4_block_86 (by decide) ?_
                  refine x_top (y := stI (sLeast n A j (k + 1)).2) (by rw [hz2]; try rfl) ?_
                  refine lv_istore (lv' := [(4, .int (stI (sLeast n A j (k + 1)).2)), (3, .int (nI ((sLeast n A j (k + 1)).1 - 1))), (6, .int (nI (sCnt n A j k))), (0, .ref (q 0)), (1, .int (nI j)), (2, .int w), (5, .int (nI k))]) hx hb dX4_block_91 hl (by decide) rfl (fun ls hl => ?_)
                  refine lv_iinc (v := (nI (k + 1))) (lv' := [(5, .int (nI (k + 1))), (4, .int (stI (sLeast n A j (k + 1)).2)), (3, .int (nI ((sLeast n A j (k + 1)).1 - 1))), (6, .int (nI (sCnt n A j k))), (0, .ref (q 0)), (1, .int (nI j)), (2, .int w)]) hx hb dX4_block_93 hl (k := 6) rfl (nI_add _ _) (by decide) rfl (fun ls hl => ?_)
                  refine lv_goto (tgt := 44) hx hb dX4_block_96 (by decide) ?_
                  exact ih (k + 1) (by omega) (by omega) _ _ hP hS _ (lv_sub hl [4, 5, 6, 2, 1, 0] rfl)
        exact L44 _ 0 (by omega) (Nat.lt_succ_self _) _ _ hP hS _ (lv_sub hl [3, 4, 5, 2, 1, 0] rfl)
      · skip
        refine lv_bipush (v := -3) hx hb dX4_block_32 rfl ?_
        exact hend _ _ _ _ _ (by simp [uBlock, c5, c17, hxj, show ¬ A 0 j = 0 from by omega]) hS dX4_block_34
    · skip
      refine lv_bipush (v := -2) hx hb dX4_block_20 rfl ?_
      exact hend _ _ _ _ _ (by simp [uBlock, inB02, c5, c17] <;> rfl) hS dX4_block_22
  · skip
    have c5 : inB c (n 0 * n 1) = false := by simpa using c5
    refine lv_iconst (v := -1) hx hb dX4_block_8 rfl ?_
    exact hend _ _ _ _ _ (by simp [uBlock, inB02, c5] <;> rfl) hS dX4_block_9
set_option maxRecDepth 20000 in
theorem ggX4_cuts_X4_in : GoodIn wsX4_cuts wsX4_in := goodIn_r _ [8] (by decide +kernel) (by decide +kernel)
set_option maxRecDepth 20000 in
theorem gX4_cuts_X4_in : GoodIn wsX4_cuts (va_wsS RX4 82 yX4_in wsX4_in) := goodIn_app (goodIn_of _ (by decide +kernel)) ggX4_cuts_X4_in
set_option maxRecDepth 20000 in
theorem ggX4_cuts_X4_hiddenAt : GoodIn wsX4_cuts wsX4_hiddenAt := goodIn_r _ [12, 1, 13, 14, 15, 16, 7, 17, 18, 19, 20, 21, 22, 23, 24, 25, 26, 27, 28, 29, 30, 31, 32, 33, 34, 35, 36, 37, 38, 39, 40, 41, 42, 43, 44, 45, 46, 47, 48, 49, 50, 51, 52, 53, 54, 55, 56, 57, 58, 59, 60, 61, 62, 63, 64, 65, 66] (by decide +kernel) (by decide +kernel)
set_option maxRecDepth 20000 in
theorem gX4_cuts_X4_hiddenAt : GoodIn wsX4_cuts (wsV RX4 182 RX4 yX4_hiddenAt wsX4_hiddenAt) := goodIn_app (goodIn_of _ (by decide +kernel)) ggX4_cuts_X4_hiddenAt
set_option maxHeartbeats 4000000 in
set_option maxRecDepth 100000 in
theorem kX4_cuts (l : Launch) (dC : Nat → ClassId) (dI : Nat → Nat → Nat) (cI cZ : ClassId) (q n : Nat → Nat) (mb : Int32) (f : Nat → Int32) (A : Nat → Nat → Nat) (Y : Nat → Nat → Int32) (hW : WF n A) (hR : RM n A Y) (hmb : 0 < n 6 → mb = nI (n 7)) (w : Int32) (sz : Nat) : Met l yX4_cuts wsX4_cuts ({ frames := 3, cells := 0, slots := 0, locals := 80 }) (roP [.ref (q 0), .int w] sz (dC, dI) [(cI, .int), (cZ, .boolean)] (wM cI cZ q n mb f Y)) (roQi (uCuts n A w) sz) 0 0 (va_A [] sz) := by
  refine ro_met_i (by decide) rfl (Nat.le_of_ble_eq_true rfl) ?_
  intro pp ee ss mm aa bb me cd RR QQ Z hx hb hml hown hts hRf hRl hP hK hA hS hend ls hl
  have hown : ss.vm.findClass RX4 = some mm.cls := hown
  have hRf : 3 ≤ RR.frames := hRf
  have hRl : 80 ≤ RR.locals := hRl
  have hl : lv_has ls 5 [(0, .ref (q 0)), (1, .int w)] := hl
  obtain ⟨w0, w1, w2, w3, w4, w5, w6, w7, w8, wA0, wA1, wA2⟩ := id hW
  have wC : n 0 * n 1 ≤ 42 := Nat.mul_le_mul w0 w1
  have hf47 := hts (.fieldLink RX4 47 "StatueSquareModel" "statueAt" "I") (List.mem_of_getElem? (i := 1) rfl)
  have hinX4 : ∀ w ∈ u_ws RX4 TX4 31, w ∈ wsX4_cuts := fun _ h => List.mem_cons_of_mem _ (List.mem_append_right _ h)
  have hf89 := hts (.fieldLink RX4 89 "StatueSquareModel" "benches" "I") (List.mem_of_getElem? (i := 2) rfl)
  have hf86 := hts (.fieldLink RX4 86 "StatueSquareModel" "things" "I") (List.mem_of_getElem? (i := 3) rfl)
  have hf29 := hts (.fieldLink RX4 29 "StatueSquareModel" "priceOf" "[I") (List.mem_of_getElem? (i := 4) rfl)
  refine lv_iload_n hx hb dX4_cuts_0 rfl (lv_at hl 1 rfl) ?_
  refine lv_i2l hx hb dX4_cuts_1 rfl ?_
  refine lv_lconst (v := 0) hx hb dX4_cuts_2 rfl ?_
  refine lv_lconst (v := 1) hx hb dX4_cuts_3 rfl ?_
  refine roS_i (As := [.long w.toInt64, .long 0, .long 1]) (rest := []) ⟨hx, hb, hml, hown, hts⟩ (kX4_in l dC dI w.toInt64 0 1 _ ) (va_cwS 3 hts gX4_cuts_X4_in rfl rfl rfl hdX4_in ⟨Nat.le_trans (Nat.le_of_ble_eq_true rfl) hRf, Nat.le_trans (Nat.le_of_ble_eq_true rfl) hRl⟩) (hK.sub [] rfl) (hP.sub [] rfl) rfl hl.1 rfl (Nat.le_of_ble_eq_true rfl) dX4_cuts_4 ⟨Nat.zero_le _, Nat.zero_le _⟩ hP hS hA (fun H locs hP hS => ?_)
  refine x_top (y := bI (inB w 2)) (congrArg bI (inL_c (by omega) rfl)) ?_
  refine x_ifb_ne (tgt := 13) hx hb dX4_cuts_7 (by decide) (fun c7 => ?_) (fun c7 => ?_)
  · skip
    refine lv_aload_n hx hb dX4_cuts_13 rfl (lv_at hl 0 rfl) ?_
    refine x_get (D := (dC, dI)) (ci := 4) (v := .int (stI (n 6))) (C := RX4) (T := TX4) (N := 31) hx hb hts hinX4 hown hK hP 0 rfl rfl 24 (Nat.le_of_ble_eq_true rfl) hf47 rfl rfl dX4_cuts_14 ?_
    refine lv_if_ge (tgt := 23) hx hb dX4_cuts_17 (by decide) (fun c17 => ?_) (fun c17 => ?_)
    · skip
      have hst : 0 < n 6 := st_ge (by omega) c17
      refine lv_iconst (v := nI 0) hx hb dX4_cuts_23 rfl ?_
      refine lv_istore_n (lv' := [(2, .int (nI 0)), (0, .ref (q 0)), (1, .int w)]) hx hb dX4_cuts_24 rfl hl (by decide) rfl (fun ls hl => ?_)
      refine lv_iconst (v := nI 0) hx hb dX4_cuts_25 rfl ?_
      refine lv_istore_n (lv' := [(3, .int (nI 0)), (2, .int (nI 0)), (0, .ref (q 0)), (1, .int w)]) hx hb dX4_cuts_26 rfl hl (by decide) rfl (fun ls hl => ?_)
      refine lv_iconst (v := nI 0) hx hb dX4_cuts_27 rfl ?_
      refine lv_istore (lv' := [(4, .int (nI 0)), (3, .int (nI 0)), (2, .int (nI 0)), (0, .ref (q 0)), (1, .int w)]) hx hb dX4_cuts_28 hl (by decide) rfl (fun ls hl => ?_)
      have L30 : ∀ (fuel : Nat) (k : Nat) (hk : k ≤ n 2) (hfu : n 2 - k < fuel) (H : Heap) (locs : List Loc), va_P (dC, dI) vwCl (wM cI cZ q n mb f Y) H → va_S Z ss.heap H locs → ∀ (ls : Array Slot), lv_has ls 5 [(0, .ref (q 0)), (1, .int w), (2, .int (nI (orM (fun b => sFoot n A b (n 4)) k))), (3, .int (nI 0)), (4, .int (nI k))] → W pp l ee RR ss mm aa bb me cd H locs 0 0 QQ (F0 mm 30 ls []) := by
        intro fuel
        induction fuel with
        | zero => intro k hk hfu; exact absurd hfu (Nat.not_lt_zero _)
        | succ fuel ih =>
          intro k hk hfu H locs hP hS ls hl
          refine lv_iload hx hb dX4_cuts_30 (lv_at hl 4 rfl) ?_
          refine lv_aload_n hx hb dX4_cuts_32 rfl (lv_at hl 0 rfl) ?_
          refine x_get (D := (dC, dI)) (ci := 4) (v := .int (nI (n 2))) (C := RX4) (T := TX4) (N := 31) hx hb hts hinX4 hown hK hP 0 rfl rfl 4 (Nat.le_of_ble_eq_true rfl) hf89 rfl rfl dX4_cuts_33 ?_
          refine x_icmp_ge (tgt := 54) hx hb (by omega) (by omega) dX4_cuts_36 (by decide) (fun c36 => ?_) (fun c36 => ?_)
          · skip
            have hsA : orM (fun b => sFoot n A b (n 4)) k = sHid n A := by rw [show k = n 2 from by omega]; rfl
            rw [hsA] at hl
            have hhid : sHid n A < 2 ^ 10 := orM_lt (e := 10) (fun b hb => sWay_lt hW hb (by omega))
            refine lv_iconst (v := nI 0) hx hb dX4_cuts_54 rfl ?_
            refine lv_istore (lv' := [(4, .int (nI 0)), (0, .ref (q 0)), (1, .int w), (2, .int (nI (sHid n A))), (3, .int (nI 0))]) hx hb dX4_cuts_55 hl (by decide) rfl (fun ls hl => ?_)
            have L57 : ∀ (fuel : Nat) (k2 : Nat) (hk2 : k2 ≤ n 3) (hfu : n 3 - k2 < fuel) (H : Heap) (locs : List Loc), va_P (dC, dI) vwCl (wM cI cZ q n mb f Y) H → va_S Z ss.heap H locs → ∀ (ls : Array Slot), lv_has ls 5 [(0, .ref (q 0)), (1, .int w), (2, .int (nI (sHid n A))), (3, .int (nI (sumN (fun t => if (sHid n A).testBit t then A 5 t else 0) k2))), (4, .int (nI k2))] → W pp l ee RR ss mm aa bb me cd H locs 0 0 QQ (F0 mm 57 ls []) := by
              intro fuel57
              induction fuel57 with
              | zero => intro k2 hk2 hfu; exact absurd hfu (Nat.not_lt_zero _)
              | succ fuel57 ih57 =>
                intro k2 hk2 hfu H locs hP hS ls hl
                refine lv_iload hx hb dX4_cuts_57 (lv_at hl 4 rfl) ?_
                refine lv_aload_n hx hb dX4_cuts_59 rfl (lv_at hl 0 rfl) ?_
                refine x_get (D := (dC, dI)) (ci := 4) (v := .int (nI (n 3))) (C := RX4) (T := TX4) (N := 31) hx hb hts hinX4 hown hK hP 0 rfl rfl 6 (Nat.le_of_ble_eq_true rfl) hf86 rfl rfl dX4_cuts_60 ?_
                refine x_icmp_ge (tgt := 96) hx hb (by omega) (by omega) dX4_cuts_63 (by decide) (fun c63 => ?_) (fun c63 => ?_)
                · skip
                  refine lv_iload_n hx hb dX4_cuts_96 rfl (lv_at hl 1 rfl) ?_
                  refine lv_if_ne (tgt := 104) hx hb dX4_cuts_97 (by decide) (fun c97 => ?_) (fun c97 => ?_)
                  · skip
                    refine lv_iload_n hx hb dX4_cuts_104 rfl (lv_at hl 3 rfl) ?_
                    exact hend _ _ _ _ _ (by simp [uCuts, inB02, c7, hst, c97]; try (rw [show k2 = n 3 from by omega]; rfl)) hS dX4_cuts_105
                  · skip
                    refine lv_iload_n hx hb dX4_cuts_100 rfl (lv_at hl 2 rfl) ?_
                    refine lv_goto (tgt := 105) hx hb dX4_cuts_101 (by decide) ?_
                    exact hend _ _ _ _ _ (by simp [uCuts, inB02, c7, hst, c97]; try (rw [show k2 = n 3 from by omega]; rfl)) hS dX4_cuts_105
                · skip
                  refine lv_iload_n hx hb dX4_cuts_66 rfl (lv_at hl 3 rfl) ?_
                  refine lv_iload_n hx hb dX4_cuts_67 rfl (lv_at hl 2 rfl) ?_
                  refine lv_iload hx hb dX4_cuts_68 (lv_at hl 4 rfl) ?_
                  refine x_ishr hx hb (by omega) (by omega) dX4_cuts_70 ?_
                  refine lv_iconst (v := nI 1) hx hb dX4_cuts_71 rfl ?_
                  refine x_iand hx hb dX4_cuts_72 ?_
                  refine lv_iconst (v := nI 1) hx hb dX4_cuts_73 rfl ?_
                  refine x_icmp_ne (tgt := 87) hx hb (and1_lt _) (by omega) dX4_cuts_74 (by decide) (fun c74 => ?_) (fun c74 => ?_)
                  · skip
                    have hz : sumN (fun t => if (sHid n A).testBit t then A 5 t else 0) (k2 + 1) = sumN (fun t => if (sHid n A).testBit t then A 5 t else 0) k2 + 0 := by rw [sumN]; congr 1; rw [if_neg]; intro q; rw [bit_and1, if_pos q] at c74; exact c74 rfl
                    refine lv_iconst (v := nI 0) hx hb dX4_cuts_87 rfl ?_
                    refine x_iadd hx hb dX4_cuts_88 ?_
                    refine lv_istore_n (lv' := [(3, .int (nI ((sumN (fun t => if (sHid n A).testBit t then A 5 t else 0) k2) + 0))), (0, .ref (q 0)), (1, .int w), (2, .int (nI (sHid n A))), (4, .int (nI k2))]) hx hb dX4_cuts_89 rfl hl (by decide) rfl (fun ls hl => ?_)
                    refine lv_iinc (v := (nI (k2 + 1))) (lv' := [(4, .int (nI (k2 + 1))), (3, .int (nI ((sumN (fun t => if (sHid n A).testBit t then A 5 t else 0) k2) + 0))), (0, .ref (q 0)), (1, .int w), (2, .int (nI (sHid n A)))]) hx hb dX4_cuts_90 hl (k := 4) rfl (nI_add _ _) (by decide) rfl (fun ls hl => ?_)
                    refine lv_goto (tgt := 57) hx hb dX4_cuts_93 (by decide) ?_
                    exact ih57 (k2 + 1) (by omega) (by omega) _ _ hP hS _ (by rw [hz]; exact lv_sub hl [2, 3, 4, 1, 0] rfl)
                  · skip
                    have hz : sumN (fun t => if (sHid n A).testBit t then A 5 t else 0) (k2 + 1) = sumN (fun t => if (sHid n A).testBit t then A 5 t else 0) k2 + A 5 k2 := by rw [sumN]; congr 1; rw [if_pos]; rw [bit_and1] at c74; exact Classical.byContradiction fun q => by rw [if_neg q] at c74; exact absurd c74 (by decide)
                    refine lv_aload_n hx hb dX4_cuts_77 rfl (lv_at hl 0 rfl) ?_
                    refine x_get (D := (dC, dI)) (ci := 4) (v := .ref (q 7)) (C := RX4) (T := TX4) (N := 31) hx hb hts hinX4 hown hK hP 0 rfl rfl 11 (Nat.le_of_ble_eq_true rfl) hf29 rfl rfl dX4_cuts_78 ?_
                    refine lv_iload hx hb dX4_cuts_81 (lv_at hl 4 rfl) ?_
                    refine x_iald (v := (nI (A 5 k2))) hx hb hK hP 7 0 rfl rfl (by omega) (by decide) (hR.2.2 _ (by omega)).2.2.2.2 dX4_cuts_83 ?_
                    refine lv_goto (tgt := 88) hx hb dX4_cuts_84 (by decide) ?_
                    refine x_iadd hx hb dX4_cuts_88 ?_
                    refine lv_istore_n (lv' := [(3, .int (nI ((sumN (fun t => if (sHid n A).testBit t then A 5 t else 0) k2) + (A 5 k2)))), (0, .ref (q 0)), (1, .int w), (2, .int (nI (sHid n A))), (4, .int (nI k2))]) hx hb dX4_cuts_89 rfl hl (by decide) rfl (fun ls hl => ?_)
                    refine lv_iinc (v := (nI (k2 + 1))) (lv' := [(4, .int (nI (k2 + 1))), (3, .int (nI ((sumN (fun t => if (sHid n A).testBit t then A 5 t else 0) k2) + (A 5 k2)))), (0, .ref (q 0)), (1, .int w), (2, .int (nI (sHid n A)))]) hx hb dX4_cuts_90 hl (k := 4) rfl (nI_add _ _) (by decide) rfl (fun ls hl => ?_)
                    refine lv_goto (tgt := 57) hx hb dX4_cuts_93 (by decide) ?_
                    exact ih57 (k2 + 1) (by omega) (by omega) _ _ hP hS _ (by rw [hz]; exact lv_sub hl [2, 3, 4, 1, 0] rfl)
            exact L57 _ 0 (by omega) (Nat.lt_succ_self _) _ _ hP hS _ (lv_sub hl [1, 2, 3, 4, 0] rfl)
          · skip
            refine lv_iload_n hx hb dX4_cuts_39 rfl (lv_at hl 2 rfl) ?_
            refine lv_aload_n hx hb dX4_cuts_40 rfl (lv_at hl 0 rfl) ?_
            refine lv_iload hx hb dX4_cuts_41 (lv_at hl 4 rfl) ?_
            refine roV_i (As := [.int (nI k)]) (rest := [.int (nI (orM (fun b => sFoot n A b (n 4)) k))]) ⟨hx, hb, hml, hown, hts⟩ (kX4_hiddenAt l dC dI cI cZ q n mb f A Y hW hR hmb k _ (by omega) (by omega)) (cwV 1 hts gX4_cuts_X4_hiddenAt rfl rfl rfl hdX4_hiddenAt ⟨Nat.le_trans (Nat.le_of_ble_eq_true rfl) hRf, Nat.le_trans (Nat.le_of_ble_eq_true rfl) hRl⟩) (va_recv hK hP (ci := 4) (q0 := 0) rfl rfl) hK hP rfl hl.1 rfl (Nat.le_of_ble_eq_true rfl) dX4_cuts_43 ⟨Nat.zero_le _, Nat.zero_le _⟩ hP hS hA (fun H locs hP hS => ?_)
            refine x_ior hx hb dX4_cuts_46 ?_
            refine lv_istore_n (lv' := [(2, .int (nI ((orM (fun b => sFoot n A b (n 4)) k) ||| (sFoot n A k (n 4))))), (0, .ref (q 0)), (1, .int w), (3, .int (nI 0)), (4, .int (nI k))]) hx hb dX4_cuts_47 rfl hl (by decide) rfl (fun ls hl => ?_)
            refine lv_iinc (v := (nI (k + 1))) (lv' := [(4, .int (nI (k + 1))), (2, .int (nI ((orM (fun b => sFoot n A b (n 4)) k) ||| (sFoot n A k (n 4))))), (0, .ref (q 0)), (1, .int w), (3, .int (nI 0))]) hx hb dX4_cuts_48 hl (k := 4) rfl (nI_add _ _) (by decide) rfl (fun ls hl => ?_)
            refine lv_goto (tgt := 30) hx hb dX4_cuts_51 (by decide) ?_
            exact ih (k + 1) (by omega) (by omega) _ _ hP hS _ (lv_sub hl [2, 3, 1, 4, 0] rfl)
      exact L30 _ 0 (by omega) (Nat.lt_succ_self _) _ _ hP hS _ (lv_sub hl [3, 4, 2, 1, 0] rfl)
    · skip
      have hst : ¬ 0 < n 6 := st_lt (by omega) c17
      refine lv_bipush (v := -3) hx hb dX4_cuts_20 rfl ?_
      exact hend _ _ _ _ _ (by simp [uCuts, inB02, c7, hst] <;> rfl) hS dX4_cuts_22
  · skip
    refine lv_bipush (v := -2) hx hb dX4_cuts_10 rfl ?_
    exact hend _ _ _ _ _ (by simp [uCuts, inB02, c7] <;> rfl) hS dX4_cuts_12
set_option maxRecDepth 20000 in
theorem ggX4_complaintsNow_X4_wholeAt : GoodIn wsX4_complaintsNow wsX4_wholeAt := goodIn_r _ [8, 1, 9, 10, 11, 7, 12, 13, 14, 15, 16, 17, 18, 19, 20, 21, 22, 23, 24, 25, 26, 27, 28, 29, 30, 31, 32, 33, 34, 35, 36, 37, 38, 39, 40, 41, 42, 43, 44, 45, 46, 47, 48, 49, 50, 51, 52, 53, 54, 55, 56, 57, 58, 59, 60, 61, 62, 63, 64, 65] (by decide +kernel) (by decide +kernel)
set_option maxRecDepth 20000 in
theorem gX4_complaintsNow_X4_wholeAt : GoodIn wsX4_complaintsNow (wsV RX4 179 RX4 yX4_wholeAt wsX4_wholeAt) := goodIn_app (goodIn_of _ (by decide +kernel)) ggX4_complaintsNow_X4_wholeAt
set_option maxHeartbeats 4000000 in
set_option maxRecDepth 100000 in
theorem kX4_complaintsNow (l : Launch) (dC : Nat → ClassId) (dI : Nat → Nat → Nat) (cI cZ : ClassId) (q n : Nat → Nat) (mb : Int32) (f : Nat → Int32) (A : Nat → Nat → Nat) (Y : Nat → Nat → Int32) (hW : WF n A) (hR : RM n A Y) (hmb : 0 < n 6 → mb = nI (n 7)) (sz : Nat) (hst : 0 < n 6) : Met l yX4_complaintsNow wsX4_complaintsNow ({ frames := 4, cells := 0, slots := 0, locals := 106 }) (roP [.ref (q 0)] sz (dC, dI) [(cI, .int), (cZ, .boolean)] (wM cI cZ q n mb f Y)) (roQi (nI (sComp n A 0 (n 4))) sz) 0 0 (va_A [] sz) := by
  refine ro_met_i (by decide) rfl (Nat.le_of_ble_eq_true rfl) ?_
  intro pp ee ss mm aa bb me cd RR QQ Z hx hb hml hown hts hRf hRl hP hK hA hS hend ls hl
  have hown : ss.vm.findClass RX4 = some mm.cls := hown
  have hRf : 4 ≤ RR.frames := hRf
  have hRl : 106 ≤ RR.locals := hRl
  have hl : lv_has ls 1 [(0, .ref (q 0))] := hl
  obtain ⟨w0, w1, w2, w3, w4, w5, w6, w7, w8, wA0, wA1, wA2⟩ := id hW
  have wC : n 0 * n 1 ≤ 42 := Nat.mul_le_mul w0 w1
  have hf89 := hts (.fieldLink RX4 89 "StatueSquareModel" "benches" "I") (List.mem_of_getElem? (i := 1) rfl)
  have hinX4 : ∀ w ∈ u_ws RX4 TX4 31, w ∈ wsX4_complaintsNow := fun _ h => List.mem_cons_of_mem _ (List.mem_append_right _ h)
  have hf47 := hts (.fieldLink RX4 47 "StatueSquareModel" "statueAt" "I") (List.mem_of_getElem? (i := 2) rfl)
  have hf163 := hts (.fieldLink RX4 163 "StatueSquareModel" "blockNow" "I") (List.mem_of_getElem? (i := 3) rfl)
  refine lv_iconst (v := nI 1) hx hb dX4_complaintsNow_0 rfl ?_
  refine lv_aload_n hx hb dX4_complaintsNow_1 rfl (lv_at hl 0 rfl) ?_
  refine x_get (D := (dC, dI)) (ci := 4) (v := .int (nI (n 2))) (C := RX4) (T := TX4) (N := 31) hx hb hts hinX4 hown hK hP 0 rfl rfl 4 (Nat.le_of_ble_eq_true rfl) hf89 rfl rfl dX4_complaintsNow_2 ?_
  refine x_shl1 hx hb (by omega) dX4_complaintsNow_5 ?_
  refine lv_iconst (v := nI 1) hx hb dX4_complaintsNow_6 rfl ?_
  refine x_isub hx hb (Nat.two_pow_pos _) dX4_complaintsNow_7 ?_
  refine lv_aload_n hx hb dX4_complaintsNow_8 rfl (lv_at hl 0 rfl) ?_
  refine lv_aload_n hx hb dX4_complaintsNow_9 rfl (lv_at hl 0 rfl) ?_
  refine x_get (D := (dC, dI)) (ci := 4) (v := .int (stI (n 6))) (C := RX4) (T := TX4) (N := 31) hx hb hts hinX4 hown hK hP 0 rfl rfl 24 (Nat.le_of_ble_eq_true rfl) hf47 rfl rfl dX4_complaintsNow_10 ?_
  refine x_top (stI_pos hst) ?_
  refine lv_aload_n hx hb dX4_complaintsNow_13 rfl (lv_at hl 0 rfl) ?_
  refine x_get (D := (dC, dI)) (ci := 4) (v := .int mb) (C := RX4) (T := TX4) (N := 31) hx hb hts hinX4 hown hK hP 0 rfl rfl 25 (Nat.le_of_ble_eq_true rfl) hf163 rfl rfl dX4_complaintsNow_14 ?_
  refine x_top (hmb hst) ?_
  refine roV_i (As := [.int (nI (n 6 - 1)), .int (nI (n 7))]) (rest := [.int (nI ((2 ^ (n 2)) - 1))]) ⟨hx, hb, hml, hown, hts⟩ (kX4_wholeAt l dC dI cI cZ q n mb f A Y hW hR hmb (n 6 - 1) (n 7) _ (by omega) (by omega)) (cwV 2 hts gX4_complaintsNow_X4_wholeAt rfl rfl rfl hdX4_wholeAt ⟨Nat.le_trans (Nat.le_of_ble_eq_true rfl) hRf, Nat.le_trans (Nat.le_of_ble_eq_true rfl) hRl⟩) (va_recv hK hP (ci := 4) (q0 := 0) rfl rfl) hK hP rfl hl.1 rfl (Nat.le_of_ble_eq_true rfl) dX4_complaintsNow_17 ⟨Nat.zero_le _, Nat.zero_le _⟩ hP hS hA (fun H locs hP hS => ?_)
  refine lv_iconst (v := -1) hx hb dX4_complaintsNow_20 rfl ?_
  refine x_top (y := nI 4294967295) m1_nI ?_
  refine lv_ixor hx hb dX4_complaintsNow_21 ?_
  refine x_top (y := nI (sWholeB n A (n 6 - 1) (n 7) ^^^ 4294967295)) (nI_xor _ _) ?_
  refine x_iand hx hb dX4_complaintsNow_22 ?_
  exact hend _ _ _ _ _ (congrArg nI (compB hW hst)) hS dX4_complaintsNow_23
theorem hdX4_complaintsNow : yX4_complaintsNow.cls = RX4 ∧ yX4_complaintsNow.cls ≠ "java/lang/invoke/MethodHandle" ∧ yX4_complaintsNow.cls ≠ "java/lang/invoke/VarHandle" ∧ (parseMethodDescriptor yX4_complaintsNow.desc).map (fun d => d.parameters.length) = some 0 := by decide +kernel
set_option maxRecDepth 20000 in
theorem ggX4_complaints_X4_complaintsNow : GoodIn wsX4_complaints wsX4_complaintsNow := goodIn_r _ [6, 7, 1, 8, 9, 10, 11, 5, 12, 13, 14, 15, 16, 17, 18, 19, 20, 21, 22, 23, 24, 25, 26, 27, 28, 29, 30, 31, 32, 33, 34, 35, 36, 37, 38, 39, 40, 41, 42, 43, 44, 45, 46, 47, 48, 49, 50, 51, 52, 53, 54, 55, 56, 57, 58, 59, 60, 61, 62, 63, 64, 65, 66, 67, 68, 69] (by decide +kernel) (by decide +kernel)
set_option maxRecDepth 20000 in
theorem gX4_complaints_X4_complaintsNow : GoodIn wsX4_complaints (wsV RX4 188 RX4 yX4_complaintsNow wsX4_complaintsNow) := goodIn_app (goodIn_of _ (by decide +kernel)) ggX4_complaints_X4_complaintsNow
set_option maxHeartbeats 4000000 in
set_option maxRecDepth 100000 in
theorem kX4_complaints (l : Launch) (dC : Nat → ClassId) (dI : Nat → Nat → Nat) (cI cZ : ClassId) (q n : Nat → Nat) (mb : Int32) (f : Nat → Int32) (A : Nat → Nat → Nat) (Y : Nat → Nat → Int32) (hW : WF n A) (hR : RM n A Y) (hmb : 0 < n 6 → mb = nI (n 7)) (sz : Nat) : Met l yX4_complaints wsX4_complaints ({ frames := 5, cells := 0, slots := 0, locals := 126 }) (roP [.ref (q 0)] sz (dC, dI) [(cI, .int), (cZ, .boolean)] (wM cI cZ q n mb f Y)) (roQi (uComplaints n A) sz) 0 0 (va_A [] sz) := by
  refine ro_met_i (by decide) rfl (Nat.le_of_ble_eq_true rfl) ?_
  intro pp ee ss mm aa bb me cd RR QQ Z hx hb hml hown hts hRf hRl hP hK hA hS hend ls hl
  have hown : ss.vm.findClass RX4 = some mm.cls := hown
  have hRf : 5 ≤ RR.frames := hRf
  have hRl : 126 ≤ RR.locals := hRl
  have hl : lv_has ls 1 [(0, .ref (q 0))] := hl
  obtain ⟨w0, w1, w2, w3, w4, w5, w6, w7, w8, wA0, wA1, wA2⟩ := id hW
  have wC : n 0 * n 1 ≤ 42 := Nat.mul_le_mul w0 w1
  have hf47 := hts (.fieldLink RX4 47 "StatueSquareModel" "statueAt" "I") (List.mem_of_getElem? (i := 1) rfl)
  have hinX4 : ∀ w ∈ u_ws RX4 TX4 31, w ∈ wsX4_complaints := fun _ h => List.mem_cons_of_mem _ (List.mem_append_right _ h)
  refine lv_aload_n hx hb dX4_complaints_0 rfl (lv_at hl 0 rfl) ?_
  refine x_get (D := (dC, dI)) (ci := 4) (v := .int (stI (n 6))) (C := RX4) (T := TX4) (N := 31) hx hb hts hinX4 hown hK hP 0 rfl rfl 24 (Nat.le_of_ble_eq_true rfl) hf47 rfl rfl dX4_complaints_1 ?_
  refine lv_if_ge (tgt := 12) hx hb dX4_complaints_4 (by decide) (fun c4 => ?_) (fun c4 => ?_)
  · skip
    have hst : 0 < n 6 := st_ge (by omega) c4
    refine lv_aload_n hx hb dX4_complaints_12 rfl (lv_at hl 0 rfl) ?_
    refine roV_i (As := []) (rest := []) ⟨hx, hb, hml, hown, hts⟩ (kX4_complaintsNow l dC dI cI cZ q n mb f A Y hW hR hmb  _ (by omega)) (cwV 0 hts gX4_complaints_X4_complaintsNow rfl rfl rfl hdX4_complaintsNow ⟨Nat.le_trans (Nat.le_of_ble_eq_true rfl) hRf, Nat.le_trans (Nat.le_of_ble_eq_true rfl) hRl⟩) (va_recv hK hP (ci := 4) (q0 := 0) rfl rfl) hK hP rfl hl.1 rfl (Nat.le_of_ble_eq_true rfl) dX4_complaints_13 ⟨Nat.zero_le _, Nat.zero_le _⟩ hP hS hA (fun H locs hP hS => ?_)
    exact hend _ _ _ _ _ (by simp [uComplaints, inB02, hst] <;> rfl) hS dX4_complaints_16
  · skip
    have hst : ¬ 0 < n 6 := st_lt (by omega) c4
    refine lv_bipush (v := -3) hx hb dX4_complaints_7 rfl ?_
    refine lv_goto (tgt := 16) hx hb dX4_complaints_9 (by decide) ?_
    exact hend _ _ _ _ _ (by simp [uComplaints, inB02, hst] <;> rfl) hS dX4_complaints_16
set_option maxRecDepth 20000 in
theorem ggX4_isUnseen_X4_seenAt : GoodIn wsX4_isUnseen wsX4_seenAt := goodIn_r _ [7, 8, 9, 10, 6, 11, 12, 13, 14, 15, 16, 17, 18, 19, 20, 21, 22, 23, 24, 25, 26, 27, 28, 29, 30, 31, 32, 33, 34, 35, 36, 37, 38, 39, 40, 41, 42, 43, 44, 45, 46, 47, 48, 49, 50, 51, 52, 53, 54, 55, 56, 57, 58, 59, 60] (by decide +kernel) (by decide +kernel)
set_option maxRecDepth 20000 in
theorem gX4_isUnseen_X4_seenAt : GoodIn wsX4_isUnseen (wsV RX4 175 RX4 yX4_seenAt wsX4_seenAt) := goodIn_app (goodIn_of _ (by decide +kernel)) ggX4_isUnseen_X4_seenAt
set_option maxHeartbeats 4000000 in
set_option maxRecDepth 100000 in
theorem kX4_isUnseen (l : Launch) (dC : Nat → ClassId) (dI : Nat → Nat → Nat) (cI cZ : ClassId) (q n : Nat → Nat) (mb : Int32) (f : Nat → Int32) (A : Nat → Nat → Nat) (Y : Nat → Nat → Int32) (hW : WF n A) (hR : RM n A Y) (hmb : 0 < n 6 → mb = nI (n 7)) (c : Nat) (fr : Nat) (sz : Nat) (hst : 0 < n 6) (hc : c < n 0 * n 1) (hfr : fr < 4096) : Met l yX4_isUnseen wsX4_isUnseen ({ frames := 3, cells := 0, slots := 0, locals := 82 }) (roP [.ref (q 0), .int (nI c), .int (nI fr)] sz (dC, dI) [(cI, .int), (cZ, .boolean)] (wM cI cZ q n mb f Y)) (roQi (bI (decide (sAny n A fr c = 0))) sz) 0 0 (va_A [] sz) := by
  refine ro_met_z (by decide) rfl (Nat.le_of_ble_eq_true rfl) ?_
  intro pp ee ss mm aa bb me cd RR QQ Z hx hb hml hown hts hRf hRl hP hK hA hS hend ls hl
  have hown : ss.vm.findClass RX4 = some mm.cls := hown
  have hRf : 3 ≤ RR.frames := hRf
  have hRl : 82 ≤ RR.locals := hRl
  have hl : lv_has ls 5 [(0, .ref (q 0)), (1, .int (nI c)), (2, .int (nI fr))] := hl
  obtain ⟨w0, w1, w2, w3, w4, w5, w6, w7, w8, wA0, wA1, wA2⟩ := id hW
  have wC : n 0 * n 1 ≤ 42 := Nat.mul_le_mul w0 w1
  have hf89 := hts (.fieldLink RX4 89 "StatueSquareModel" "benches" "I") (List.mem_of_getElem? (i := 1) rfl)
  have hinX4 : ∀ w ∈ u_ws RX4 TX4 31, w ∈ wsX4_isUnseen := fun _ h => List.mem_cons_of_mem _ (List.mem_append_right _ h)
  have hf163 := hts (.fieldLink RX4 163 "StatueSquareModel" "blockNow" "I") (List.mem_of_getElem? (i := 2) rfl)
  refine lv_iconst (v := nI 1) hx hb dX4_isUnseen_0 rfl ?_
  refine x_top (y := bI (decide (orB (fun b => fr.testBit b && decide (¬ sSeen n A b c = 0)) 0 = 0))) rfl ?_
  refine lv_istore_n (lv' := [(3, .int (bI (decide (orB (fun b => fr.testBit b && decide (¬ sSeen n A b c = 0)) 0 = 0)))), (0, .ref (q 0)), (1, .int (nI c)), (2, .int (nI fr))]) hx hb dX4_isUnseen_1 rfl hl (by decide) rfl (fun ls hl => ?_)
  refine lv_iconst (v := nI 0) hx hb dX4_isUnseen_2 rfl ?_
  refine lv_istore (lv' := [(4, .int (nI 0)), (3, .int (bI (decide (orB (fun b => fr.testBit b && decide (¬ sSeen n A b c = 0)) 0 = 0)))), (0, .ref (q 0)), (1, .int (nI c)), (2, .int (nI fr))]) hx hb dX4_isUnseen_3 hl (by decide) rfl (fun ls hl => ?_)
  have L5 : ∀ (fuel : Nat) (k : Nat) (hk : k ≤ n 2) (hfu : n 2 - k < fuel) (H : Heap) (locs : List Loc), va_P (dC, dI) vwCl (wM cI cZ q n mb f Y) H → va_S Z ss.heap H locs → ∀ (ls : Array Slot), lv_has ls 5 [(0, .ref (q 0)), (1, .int (nI c)), (2, .int (nI fr)), (3, .int (bI (decide (orB (fun b => fr.testBit b && decide (¬ sSeen n A b c = 0)) k = 0)))), (4, .int (nI k))] → W pp l ee RR ss mm aa bb me cd H locs 0 0 QQ (F0 mm 5 ls []) := by
    intro fuel
    induction fuel with
    | zero => intro k hk hfu; exact absurd hfu (Nat.not_lt_zero _)
    | succ fuel ih =>
      intro k hk hfu H locs hP hS ls hl
      refine lv_iload hx hb dX4_isUnseen_5 (lv_at hl 4 rfl) ?_
      refine lv_aload_n hx hb dX4_isUnseen_7 rfl (lv_at hl 0 rfl) ?_
      refine x_get (D := (dC, dI)) (ci := 4) (v := .int (nI (n 2))) (C := RX4) (T := TX4) (N := 31) hx hb hts hinX4 hown hK hP 0 rfl rfl 4 (Nat.le_of_ble_eq_true rfl) hf89 rfl rfl dX4_isUnseen_8 ?_
      refine x_icmp_ge (tgt := 53) hx hb (by omega) (by omega) dX4_isUnseen_11 (by decide) (fun c11 => ?_) (fun c11 => ?_)
      · skip
        refine lv_iload_n hx hb dX4_isUnseen_53 rfl (lv_at hl 3 rfl) ?_
        exact hend _ _ _ _ _ (by rw [show k = n 2 from by omega]; rfl) hS dX4_isUnseen_54
      · skip
        refine lv_iload_n hx hb dX4_isUnseen_14 rfl (lv_at hl 3 rfl) ?_
        refine x_ifb_eq (tgt := 45) hx hb dX4_isUnseen_15 (by decide) (fun c15 => ?_) (fun c15 => ?_)
        · skip
          have hz : ¬ orB (fun b => fr.testBit b && decide (¬ sSeen n A b c = 0)) (k + 1) = 0 := orB_ne_s (of_decide_eq_false c15)
          refine lv_iconst (v := nI 0) hx hb dX4_isUnseen_45 rfl ?_
          refine x_top (y := bI (decide (orB (fun b => fr.testBit b && decide (¬ sSeen n A b c = 0)) (k + 1) = 0))) (n0_b (decide_eq_false hz)) ?_
          refine lv_istore_n (lv' := [(3, .int (bI (decide (orB (fun b => fr.testBit b && decide (¬ sSeen n A b c = 0)) (k + 1) = 0)))), (0, .ref (q 0)), (1, .int (nI c)), (2, .int (nI fr)), (4, .int (nI k))]) hx hb dX4_isUnseen_46 rfl hl (by decide) rfl (fun ls hl => ?_)
          refine lv_iinc (v := (nI (k + 1))) (lv' := [(4, .int (nI (k + 1))), (3, .int (bI (decide (orB (fun b => fr.testBit b && decide (¬ sSeen n A b c = 0)) (k + 1) = 0)))), (0, .ref (q 0)), (1, .int (nI c)), (2, .int (nI fr))]) hx hb dX4_isUnseen_47 hl (k := 4) rfl (nI_add _ _) (by decide) rfl (fun ls hl => ?_)
          refine lv_goto (tgt := 5) hx hb dX4_isUnseen_50 (by decide) ?_
          exact ih (k + 1) (by omega) (by omega) _ _ hP hS _ (lv_sub hl [2, 3, 4, 1, 0] rfl)
        · skip
          have h0 : orB (fun b => fr.testBit b && decide (¬ sSeen n A b c = 0)) k = 0 := of_decide_eq_true c15
          refine lv_iload_n hx hb dX4_isUnseen_18 rfl (lv_at hl 2 rfl) ?_
          refine lv_iload hx hb dX4_isUnseen_19 (lv_at hl 4 rfl) ?_
          refine x_ishr hx hb (by omega) (by omega) dX4_isUnseen_21 ?_
          refine lv_iconst (v := nI 1) hx hb dX4_isUnseen_22 rfl ?_
          refine x_iand hx hb dX4_isUnseen_23 ?_
          refine x_if_eq (tgt := 41) hx hb (and1_lt _) dX4_isUnseen_24 (by decide) (fun c24 => ?_) (fun c24 => ?_)
          · skip
            have hz : orB (fun b => fr.testBit b && decide (¬ sSeen n A b c = 0)) (k + 1) = 0 := (orB_f (k := k) (show (fr.testBit k && _) = false from by rw [tb_0.mp c24]; rfl)).symm.trans h0
            refine lv_iconst (v := nI 1) hx hb dX4_isUnseen_41 rfl ?_
            refine lv_goto (tgt := 46) hx hb dX4_isUnseen_42 (by decide) ?_
            refine x_top (y := bI (decide (orB (fun b => fr.testBit b && decide (¬ sSeen n A b c = 0)) (k + 1) = 0))) (n1_b (decide_eq_true hz)) ?_
            refine lv_istore_n (lv' := [(3, .int (bI (decide (orB (fun b => fr.testBit b && decide (¬ sSeen n A b c = 0)) (k + 1) = 0)))), (0, .ref (q 0)), (1, .int (nI c)), (2, .int (nI fr)), (4, .int (nI k))]) hx hb dX4_isUnseen_46 rfl hl (by decide) rfl (fun ls hl => ?_)
            refine lv_iinc (v := (nI (k + 1))) (lv' := [(4, .int (nI (k + 1))), (3, .int (bI (decide (orB (fun b => fr.testBit b && decide (¬ sSeen n A b c = 0)) (k + 1) = 0)))), (0, .ref (q 0)), (1, .int (nI c)), (2, .int (nI fr))]) hx hb dX4_isUnseen_47 hl (k := 4) rfl (nI_add _ _) (by decide) rfl (fun ls hl => ?_)
            refine lv_goto (tgt := 5) hx hb dX4_isUnseen_50 (by decide) ?_
            exact ih (k + 1) (by omega) (by omega) _ _ hP hS _ (lv_sub hl [2, 3, 4, 1, 0] rfl)
          · skip
            have hbt : fr.testBit k = true := by have := mt tb_0.mpr c24; simpa using this
            refine lv_aload_n hx hb dX4_isUnseen_27 rfl (lv_at hl 0 rfl) ?_
            refine lv_iload hx hb dX4_isUnseen_28 (lv_at hl 4 rfl) ?_
            refine lv_iload_n hx hb dX4_isUnseen_30 rfl (lv_at hl 1 rfl) ?_
            refine lv_aload_n hx hb dX4_isUnseen_31 rfl (lv_at hl 0 rfl) ?_
            refine x_get (D := (dC, dI)) (ci := 4) (v := .int mb) (C := RX4) (T := TX4) (N := 31) hx hb hts hinX4 hown hK hP 0 rfl rfl 25 (Nat.le_of_ble_eq_true rfl) hf163 rfl rfl dX4_isUnseen_32 ?_
            refine x_top (hmb hst) ?_
            refine roV_i (As := [.int (nI k), .int (nI c), .int (nI (n 7))]) (rest := []) ⟨hx, hb, hml, hown, hts⟩ (kX4_seenAt l dC dI cI cZ q n mb f A Y hW hR hmb k c (n 7) _ (by omega) (by omega) (by omega)) (cwV 3 hts gX4_isUnseen_X4_seenAt rfl rfl rfl hdX4_seenAt ⟨Nat.le_trans (Nat.le_of_ble_eq_true rfl) hRf, Nat.le_trans (Nat.le_of_ble_eq_true rfl) hRl⟩) (va_recv hK hP (ci := 4) (q0 := 0) rfl rfl) hK hP rfl hl.1 rfl (Nat.le_of_ble_eq_true rfl) dX4_isUnseen_35 ⟨Nat.zero_le _, Nat.zero_le _⟩ hP hS hA (fun H locs hP hS => ?_)
            refine x_top (y := (nI (sSeen n A k c))) (congrArg nI (sSeenB_eq n A k c)) ?_
            refine x_if_ne (tgt := 45) hx hb (Nat.lt_trans (sSeen_lt _ _ _ _) (by decide)) dX4_isUnseen_38 (by decide) (fun c38 => ?_) (fun c38 => ?_)
            · skip
              have hz : ¬ orB (fun b => fr.testBit b && decide (¬ sSeen n A b c = 0)) (k + 1) = 0 := orB_ne (k := k) (show (fr.testBit k && decide (¬ sSeen n A k c = 0)) = true from by rw [hbt, decide_eq_true c38]; rfl) (by omega)
              refine lv_iconst (v := nI 0) hx hb dX4_isUnseen_45 rfl ?_
              refine x_top (y := bI (decide (orB (fun b => fr.testBit b && decide (¬ sSeen n A b c = 0)) (k + 1) = 0))) (n0_b (decide_eq_false hz)) ?_
              refine lv_istore_n (lv' := [(3, .int (bI (decide (orB (fun b => fr.testBit b && decide (¬ sSeen n A b c = 0)) (k + 1) = 0)))), (0, .ref (q 0)), (1, .int (nI c)), (2, .int (nI fr)), (4, .int (nI k))]) hx hb dX4_isUnseen_46 rfl hl (by decide) rfl (fun ls hl => ?_)
              refine lv_iinc (v := (nI (k + 1))) (lv' := [(4, .int (nI (k + 1))), (3, .int (bI (decide (orB (fun b => fr.testBit b && decide (¬ sSeen n A b c = 0)) (k + 1) = 0)))), (0, .ref (q 0)), (1, .int (nI c)), (2, .int (nI fr))]) hx hb dX4_isUnseen_47 hl (k := 4) rfl (nI_add _ _) (by decide) rfl (fun ls hl => ?_)
              refine lv_goto (tgt := 5) hx hb dX4_isUnseen_50 (by decide) ?_
              exact ih (k + 1) (by omega) (by omega) _ _ hP hS _ (lv_sub hl [2, 3, 4, 1, 0] rfl)
            · skip
              have hz : orB (fun b => fr.testBit b && decide (¬ sSeen n A b c = 0)) (k + 1) = 0 := (orB_f (k := k) (show (fr.testBit k && decide (¬ sSeen n A k c = 0)) = false from by rw [hbt, decide_eq_false (fun q => q c38)]; rfl)).symm.trans h0
              refine lv_iconst (v := nI 1) hx hb dX4_isUnseen_41 rfl ?_
              refine lv_goto (tgt := 46) hx hb dX4_isUnseen_42 (by decide) ?_
              refine x_top (y := bI (decide (orB (fun b => fr.testBit b && decide (¬ sSeen n A b c = 0)) (k + 1) = 0))) (n1_b (decide_eq_true hz)) ?_
              refine lv_istore_n (lv' := [(3, .int (bI (decide (orB (fun b => fr.testBit b && decide (¬ sSeen n A b c = 0)) (k + 1) = 0)))), (0, .ref (q 0)), (1, .int (nI c)), (2, .int (nI fr)), (4, .int (nI k))]) hx hb dX4_isUnseen_46 rfl hl (by decide) rfl (fun ls hl => ?_)
              refine lv_iinc (v := (nI (k + 1))) (lv' := [(4, .int (nI (k + 1))), (3, .int (bI (decide (orB (fun b => fr.testBit b && decide (¬ sSeen n A b c = 0)) (k + 1) = 0)))), (0, .ref (q 0)), (1, .int (nI c)), (2, .int (nI fr))]) hx hb dX4_isUnseen_47 hl (k := 4) rfl (nI_add _ _) (by decide) rfl (fun ls hl => ?_)
              refine lv_goto (tgt := 5) hx hb dX4_isUnseen_50 (by decide) ?_
              exact ih (k + 1) (by omega) (by omega) _ _ hP hS _ (lv_sub hl [2, 3, 4, 1, 0] rfl)
  exact L5 _ 0 (by omega) (Nat.lt_succ_self _) _ _ hP hS _ (lv_sub hl [2, 3, 4, 1, 0] rfl)
