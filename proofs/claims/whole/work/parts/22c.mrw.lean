set_option maxRecDepth 20000 in
theorem ggX4_moved_X4_complaintsNow : GoodIn wsX4_moved wsX4_complaintsNow := goodIn_r _ [9, 1, 2, 10, 11, 12, 13, 8, 14, 15, 16, 17, 18, 19, 20, 21, 22, 23, 24, 25, 4, 26, 27, 28, 29, 30, 31, 32, 33, 34, 35, 36, 37, 38, 39, 40, 41, 42, 43, 44, 45, 46, 47, 48, 49, 50, 51, 52, 53, 54, 55, 56, 57, 58, 59, 60, 61, 62, 63, 64, 65, 66, 67, 68, 69, 70] (by decide +kernel) (by decide +kernel)
set_option maxRecDepth 20000 in
theorem gX4_moved_X4_complaintsNow : GoodIn wsX4_moved (wsV RX4 188 RX4 yX4_complaintsNow wsX4_complaintsNow) := goodIn_app (goodIn_of _ (by decide +kernel)) ggX4_moved_X4_complaintsNow
set_option maxHeartbeats 4000000 in
set_option maxRecDepth 100000 in
theorem kX4_moved (l : Launch) (dC : Nat → ClassId) (dI : Nat → Nat → Nat) (cI cZ : ClassId) (q n : Nat → Nat) (mb : Int32) (f : Nat → Int32) (A : Nat → Nat → Nat) (Y : Nat → Nat → Int32) (hW : WF n A) (hR : RM n A Y) (hmb : 0 < n 6 → mb = nI (n 7)) (x : Int32) (sz : Nat) : Met l yX4_moved wsX4_moved ({ frames := 5, cells := 0, slots := 0, locals := 126 }) (rwP [.ref (q 0), .int x] sz (dC, dI) [(cI, .int), (cZ, .boolean)] (wM cI cZ q n mb f Y)) (rwQi (uMoved n A x) (dC, dI) (wM cI cZ q n mb f Y) (wM cI cZ q n mb f Y) sz) 0 0 (va_A (wM cI cZ q n mb f Y) sz) := by
  refine rw_met_i (by decide) rfl (Nat.le_of_ble_eq_true rfl) ?_
  intro pp ee ss mm aa bb me cd RR QQ Z hx hb hml hown hts hRf hRl hP hK hD hA hS hend ls hl
  have hown : ss.vm.findClass RX4 = some mm.cls := hown
  have hRf : 5 ≤ RR.frames := hRf
  have hRl : 126 ≤ RR.locals := hRl
  have hl : lv_has ls 4 [(0, .ref (q 0)), (1, .int x)] := hl
  obtain ⟨w0, w1, w2, w3, w4, w5, w6, w7, w8, wA0, wA1, wA2⟩ := id hW
  have wC : n 0 * n 1 ≤ 42 := Nat.mul_le_mul w0 w1
  have hp2 : 2 ^ n 2 ≤ 2 ^ 12 := Nat.pow_le_pow_right (by decide) w2
  have hf89 := hts (.fieldLink RX4 89 "StatueSquareModel" "benches" "I") (List.mem_of_getElem? (i := 1) rfl)
  have hinX4 : ∀ w ∈ u_ws RX4 TX4 31, w ∈ wsX4_moved := fun _ h => List.mem_cons_of_mem _ (List.mem_append_right _ h)
  have hf47 := hts (.fieldLink RX4 47 "StatueSquareModel" "statueAt" "I") (List.mem_of_getElem? (i := 2) rfl)
  have hf86 := hts (.fieldLink RX4 86 "StatueSquareModel" "things" "I") (List.mem_of_getElem? (i := 3) rfl)
  have hf25 := hts (.fieldLink RX4 25 "StatueSquareModel" "isCut" "[Z") (List.mem_of_getElem? (i := 4) rfl)
  refine lv_iload_n hx hb dX4_moved_0 rfl (lv_at hl 1 rfl) ?_
  refine lv_if_lt (tgt := 13) hx hb dX4_moved_1 (by decide) (fun c1 => ?_) (fun c1 => ?_)
  · skip
    have hno : ¬ inB x (2 ^ n 2) = true := fun q => absurd c1 (Int32.not_lt.mpr (of_decide_eq_true q).1)
    refine lv_bipush (v := -2) hx hb dX4_moved_13 rfl ?_
    exact hend _ _ _ _ _ _ (by simp [uMoved, inB02, hno] <;> rfl) rfl hP hS dX4_moved_15
  · skip
    refine lv_iload_n hx hb dX4_moved_4 rfl (lv_at hl 1 rfl) ?_
    refine lv_aload_n hx hb dX4_moved_5 rfl (lv_at hl 0 rfl) ?_
    refine x_get (D := (dC, dI)) (ci := 4) (v := .int (nI (n 2))) (C := RX4) (T := TX4) (N := 31) hx hb hts hinX4 hown hK hP 0 rfl rfl 4 (Nat.le_of_ble_eq_true rfl) hf89 rfl rfl dX4_moved_6 ?_
    refine lv_ishr hx hb dX4_moved_9 ?_
    refine lv_if_eq (tgt := 16) hx hb dX4_moved_10 (by decide) (fun c10 => ?_) (fun c10 => ?_)
    · skip
      obtain ⟨j, hj, rfl⟩ := inB_t (by omega) ((shr_0 w2 c1).mp c10)
      have hxj : xn (nI j) = j := xn_nI (by omega)
      refine lv_aload_n hx hb dX4_moved_16 rfl (lv_at hl 0 rfl) ?_
      refine x_get (D := (dC, dI)) (ci := 4) (v := .int (stI (n 6))) (C := RX4) (T := TX4) (N := 31) hx hb hts hinX4 hown hK hP 0 rfl rfl 24 (Nat.le_of_ble_eq_true rfl) hf47 rfl rfl dX4_moved_17 ?_
      refine lv_if_ge (tgt := 26) hx hb dX4_moved_20 (by decide) (fun c20 => ?_) (fun c20 => ?_)
      · skip
        have hst : 0 < n 6 := st_ge (by omega) c20
        refine lv_iconst (v := nI 0) hx hb dX4_moved_26 rfl ?_
        refine lv_istore_n (lv' := [(2, .int (nI 0)), (0, .ref (q 0)), (1, .int (nI j))]) hx hb dX4_moved_27 rfl hl (by decide) rfl (fun ls hl => ?_)
        refine lv_iconst (v := nI 0) hx hb dX4_moved_28 rfl ?_
        refine lv_istore_n (lv' := [(3, .int (nI 0)), (2, .int (nI 0)), (0, .ref (q 0)), (1, .int (nI j))]) hx hb dX4_moved_29 rfl hl (by decide) rfl (fun ls hl => ?_)
        have L30 : ∀ (fuel : Nat) (k : Nat) (hk : k ≤ n 3) (hfu : n 3 - k < fuel) (H : Heap) (locs : List Loc), va_P (dC, dI) vwCl (wM cI cZ q n mb f Y) H → va_S Z ss.heap H locs → ∀ (ls : Array Slot), lv_has ls 4 [(0, .ref (q 0)), (1, .int (nI j)), (2, .int (nI (orB (fun t => sThere n t && decide (sComp n A (2 ^ t) (n 4) = j)) k))), (3, .int (nI k))] → W pp l ee RR ss mm aa bb me cd H locs 0 0 QQ (F0 mm 30 ls []) := by
          intro fuel
          induction fuel with
          | zero => intro k hk hfu; exact absurd hfu (Nat.not_lt_zero _)
          | succ fuel ih =>
            intro k hk hfu H locs hP hS ls hl
            have hD : va_D Z (wM cI cZ q n mb f Y) := hD.same rfl
            refine lv_iload_n hx hb dX4_moved_30 rfl (lv_at hl 3 rfl) ?_
            refine lv_aload_n hx hb dX4_moved_31 rfl (lv_at hl 0 rfl) ?_
            refine x_get (D := (dC, dI)) (ci := 4) (v := .int (nI (n 3))) (C := RX4) (T := TX4) (N := 31) hx hb hts hinX4 hown hK hP 0 rfl rfl 6 (Nat.le_of_ble_eq_true rfl) hf86 rfl rfl dX4_moved_32 ?_
            refine x_icmp_ge (tgt := 85) hx hb (by omega) (by omega) dX4_moved_35 (by decide) (fun c35 => ?_) (fun c35 => ?_)
            · skip
              refine lv_iload_n hx hb dX4_moved_85 rfl (lv_at hl 2 rfl) ?_
              exact hend _ _ _ _ _ _ (by rw [uMoved, if_pos (inB_nI (by omega) hj), if_pos hst, hxj, show k = n 3 from by omega]; rfl) rfl hP hS dX4_moved_86
            · skip
              refine lv_aload_n hx hb dX4_moved_38 rfl (lv_at hl 0 rfl) ?_
              refine x_get (D := (dC, dI)) (ci := 4) (v := .ref (q 6)) (C := RX4) (T := TX4) (N := 31) hx hb hts hinX4 hown hK hP 0 rfl rfl 10 (Nat.le_of_ble_eq_true rfl) hf25 rfl rfl dX4_moved_39 ?_
              refine lv_iload_n hx hb dX4_moved_42 rfl (lv_at hl 3 rfl) ?_
              refine x_zald (v := (bI ((n 8).testBit k))) hx hb hK hP 6 1 rfl rfl (by omega) (by decide) (hR.2.2 _ (by omega)).2.2.2.1 dX4_moved_43 ?_
              refine x_ifb_ne (tgt := 79) hx hb dX4_moved_44 (by decide) (fun c44 => ?_) (fun c44 => ?_)
              · skip
                have hz : (fun t => sThere n t && decide (sComp n A (2 ^ t) (n 4) = j)) k = false := by show (sThere n k && _) = false; rw [sThere, c44]; rfl
                refine lv_iinc (v := (nI (k + 1))) (lv' := [(3, .int (nI (k + 1))), (0, .ref (q 0)), (1, .int (nI j)), (2, .int (nI (orB (fun t => sThere n t && decide (sComp n A (2 ^ t) (n 4) = j)) k)))]) hx hb dX4_moved_79 hl (k := 3) rfl (nI_add _ _) (by decide) rfl (fun ls hl => ?_)
                refine lv_goto (tgt := 30) hx hb dX4_moved_82 (by decide) ?_
                exact ih (k + 1) (by omega) (by omega) _ _ hP hS _ (by rw [show orB (fun t => sThere n t && decide (sComp n A (2 ^ t) (n 4) = j)) (k + 1) = (orB (fun t => sThere n t && decide (sComp n A (2 ^ t) (n 4) = j)) k) from (orB_f (k := k) hz).symm]; exact lv_sub hl [1, 2, 3, 0] rfl)
              · skip
                refine lv_aload_n hx hb dX4_moved_47 rfl (lv_at hl 0 rfl) ?_
                refine x_get (D := (dC, dI)) (ci := 4) (v := .ref (q 6)) (C := RX4) (T := TX4) (N := 31) hx hb hts hinX4 hown hK hP 0 rfl rfl 10 (Nat.le_of_ble_eq_true rfl) hf25 rfl rfl dX4_moved_48 ?_
                refine lv_iload_n hx hb dX4_moved_51 rfl (lv_at hl 3 rfl) ?_
                refine lv_iconst (v := nI 1) hx hb dX4_moved_52 rfl ?_
                refine x_top (y := bI true) rfl ?_
                refine x_zast (wn := wM cI cZ q n mb f (uX Y 5 k (bI true))) hx hb hK hP hD hS 6 1 rfl rfl (bI_vpnar _) (by omega) (by decide) rfl dX4_moved_53 (fun H locs hP hS => ?_)
                have hD : va_D Z (wM cI cZ q n mb f (uX Y 5 k (bI true))) := hD.same rfl
                refine lv_iload_n hx hb dX4_moved_54 rfl (lv_at hl 2 rfl) ?_
                refine lv_aload_n hx hb dX4_moved_55 rfl (lv_at hl 0 rfl) ?_
                refine roV_i (As := []) (rest := [.int (nI (orB (fun t => sThere n t && decide (sComp n A (2 ^ t) (n 4) = j)) k))]) ⟨hx, hb, hml, hown, hts⟩ (kX4_complaintsNow l dC dI cI cZ q (uN n 8 (n 8 ||| 2 ^ k)) mb f A (uX Y 5 k (bI true)) (WF_u8 hW (Nat.or_lt_two_pow (n := 10) w8 (Nat.pow_lt_pow_right (by decide) (by omega)))) (RM_cut hR (fun t _ => or_bit)) hmb  _ hst) (cwV 0 hts gX4_moved_X4_complaintsNow rfl rfl rfl hdX4_complaintsNow ⟨Nat.le_trans (Nat.le_of_ble_eq_true rfl) hRf, Nat.le_trans (Nat.le_of_ble_eq_true rfl) hRl⟩) (va_recv hK hP (ci := 4) (q0 := 0) rfl rfl) hK hP rfl hl.1 rfl (Nat.le_of_ble_eq_true rfl) dX4_moved_56 ⟨Nat.zero_le _, Nat.zero_le _⟩ hP hS hA (fun H locs hP hS => ?_)
                refine x_top (y := nI (sComp n A (2 ^ k) (n 4))) (congrArg nI (sComp_cut hW hst)) ?_
                refine lv_iload_n hx hb dX4_moved_59 rfl (lv_at hl 1 rfl) ?_
                refine x_icmp_ne (tgt := 69) hx hb (Nat.lt_of_lt_of_le (orB_lt _ _) (Nat.pow_le_pow_right (by decide) (by omega))) (by omega) dX4_moved_60 (by decide) (fun c60 => ?_) (fun c60 => ?_)
                · skip
                  have hz : (fun t => sThere n t && decide (sComp n A (2 ^ t) (n 4) = j)) k = false := by show (sThere n k && _) = false; rw [sThere, c44, decide_eq_false c60]; rfl
                  refine lv_iconst (v := nI 0) hx hb dX4_moved_69 rfl ?_
                  refine x_ior hx hb dX4_moved_70 ?_
                  refine lv_istore_n (lv' := [(2, .int (nI ((orB (fun t => sThere n t && decide (sComp n A (2 ^ t) (n 4) = j)) k) ||| 0))), (0, .ref (q 0)), (1, .int (nI j)), (3, .int (nI k))]) hx hb dX4_moved_71 rfl hl (by decide) rfl (fun ls hl => ?_)
                  refine lv_aload_n hx hb dX4_moved_72 rfl (lv_at hl 1 rfl) ?_
                  refine x_get (D := (dC, dI)) (ci := 4) (v := .ref (q 6)) (C := RX4) (T := TX4) (N := 31) hx hb hts hinX4 hown hK hP 0 rfl rfl 10 (Nat.le_of_ble_eq_true rfl) hf25 rfl rfl dX4_moved_73 ?_
                  refine lv_iload_n hx hb dX4_moved_76 rfl (lv_at hl 3 rfl) ?_
                  refine lv_iconst (v := nI 0) hx hb dX4_moved_77 rfl ?_
                  refine x_top (y := bI false) rfl ?_
                  refine x_zast (wn := wM cI cZ q n mb f (uX (uX Y 5 k (bI true)) 5 k (bI false))) hx hb hK hP hD hS 6 1 rfl rfl (bI_vpnar _) (by omega) (by decide) rfl dX4_moved_78 (fun H locs hP hS => ?_)
                  have hD : va_D Z (wM cI cZ q n mb f (uX (uX Y 5 k (bI true)) 5 k (bI false))) := hD.same rfl
                  have hYb : uX (uX Y 5 k (bI true)) 5 k (bI false) = Y := by rw [uX_uX]; exact uX_self Y 5 k (by rw [(hR.2.2 k (by omega)).2.2.2.1, c44])
                  have hP : va_P (dC, dI) vwCl (wM cI cZ q n mb f Y) H := hYb ▸ hP
                  have hD : va_D Z (wM cI cZ q n mb f Y) := hYb ▸ hD
                  refine lv_iinc (v := (nI (k + 1))) (lv' := [(3, .int (nI (k + 1))), (2, .int (nI ((orB (fun t => sThere n t && decide (sComp n A (2 ^ t) (n 4) = j)) k) ||| 0))), (0, .ref (q 0)), (1, .int (nI j))]) hx hb dX4_moved_79 hl (k := 3) rfl (nI_add _ _) (by decide) rfl (fun ls hl => ?_)
                  refine lv_goto (tgt := 30) hx hb dX4_moved_82 (by decide) ?_
                  exact ih (k + 1) (by omega) (by omega) _ _ hP hS _ (by rw [show orB (fun t => sThere n t && decide (sComp n A (2 ^ t) (n 4) = j)) (k + 1) = ((orB (fun t => sThere n t && decide (sComp n A (2 ^ t) (n 4) = j)) k) ||| 0) from (orB_f (k := k) hz).symm.trans (Nat.or_zero _).symm]; exact lv_sub hl [2, 3, 1, 0] rfl)
                · skip
                  have hz : (fun t => sThere n t && decide (sComp n A (2 ^ t) (n 4) = j)) k = true := by show (sThere n k && _) = true; rw [sThere, c44, decide_eq_true c60]; rfl
                  refine lv_iconst (v := nI 1) hx hb dX4_moved_63 rfl ?_
                  refine lv_iload_n hx hb dX4_moved_64 rfl (lv_at hl 3 rfl) ?_
                  refine x_shl1 hx hb (by omega) dX4_moved_65 ?_
                  refine lv_goto (tgt := 70) hx hb dX4_moved_66 (by decide) ?_
                  refine x_ior hx hb dX4_moved_70 ?_
                  refine lv_istore_n (lv' := [(2, .int (nI ((orB (fun t => sThere n t && decide (sComp n A (2 ^ t) (n 4) = j)) k) ||| (2 ^ k)))), (0, .ref (q 0)), (1, .int (nI j)), (3, .int (nI k))]) hx hb dX4_moved_71 rfl hl (by decide) rfl (fun ls hl => ?_)
                  refine lv_aload_n hx hb dX4_moved_72 rfl (lv_at hl 1 rfl) ?_
                  refine x_get (D := (dC, dI)) (ci := 4) (v := .ref (q 6)) (C := RX4) (T := TX4) (N := 31) hx hb hts hinX4 hown hK hP 0 rfl rfl 10 (Nat.le_of_ble_eq_true rfl) hf25 rfl rfl dX4_moved_73 ?_
                  refine lv_iload_n hx hb dX4_moved_76 rfl (lv_at hl 3 rfl) ?_
                  refine lv_iconst (v := nI 0) hx hb dX4_moved_77 rfl ?_
                  refine x_top (y := bI false) rfl ?_
                  refine x_zast (wn := wM cI cZ q n mb f (uX (uX Y 5 k (bI true)) 5 k (bI false))) hx hb hK hP hD hS 6 1 rfl rfl (bI_vpnar _) (by omega) (by decide) rfl dX4_moved_78 (fun H locs hP hS => ?_)
                  have hD : va_D Z (wM cI cZ q n mb f (uX (uX Y 5 k (bI true)) 5 k (bI false))) := hD.same rfl
                  have hYb : uX (uX Y 5 k (bI true)) 5 k (bI false) = Y := by rw [uX_uX]; exact uX_self Y 5 k (by rw [(hR.2.2 k (by omega)).2.2.2.1, c44])
                  have hP : va_P (dC, dI) vwCl (wM cI cZ q n mb f Y) H := hYb ▸ hP
                  have hD : va_D Z (wM cI cZ q n mb f Y) := hYb ▸ hD
                  refine lv_iinc (v := (nI (k + 1))) (lv' := [(3, .int (nI (k + 1))), (2, .int (nI ((orB (fun t => sThere n t && decide (sComp n A (2 ^ t) (n 4) = j)) k) ||| (2 ^ k)))), (0, .ref (q 0)), (1, .int (nI j))]) hx hb dX4_moved_79 hl (k := 3) rfl (nI_add _ _) (by decide) rfl (fun ls hl => ?_)
                  refine lv_goto (tgt := 30) hx hb dX4_moved_82 (by decide) ?_
                  exact ih (k + 1) (by omega) (by omega) _ _ hP hS _ (by rw [show orB (fun t => sThere n t && decide (sComp n A (2 ^ t) (n 4) = j)) (k + 1) = ((orB (fun t => sThere n t && decide (sComp n A (2 ^ t) (n 4) = j)) k) ||| (2 ^ k)) from (orB_t (k := k) hz).symm]; exact lv_sub hl [2, 3, 1, 0] rfl)
        exact L30 _ 0 (by omega) (Nat.lt_succ_self _) _ _ hP hS _ (lv_sub hl [2, 3, 1, 0] rfl)
      · skip
        have hst : ¬ 0 < n 6 := st_lt (by omega) c20
        refine lv_bipush (v := -3) hx hb dX4_moved_23 rfl ?_
        exact hend _ _ _ _ _ _ (by rw [uMoved, if_pos (inB_nI (by omega) hj), if_neg hst]) rfl hP hS dX4_moved_25
    · skip
      have hno := mt (shr_0 w2 c1).mpr c10
      refine lv_bipush (v := -2) hx hb dX4_moved_13 rfl ?_
      exact hend _ _ _ _ _ _ (by simp [uMoved, inB02, hno] <;> rfl) rfl hP hS dX4_moved_15
set_option maxRecDepth 20000 in
theorem ggX4_years_X4_complaintsNow : GoodIn wsX4_years wsX4_complaintsNow := goodIn_r _ [7, 8, 1, 9, 10, 11, 12, 6, 13, 14, 15, 16, 17, 18, 19, 20, 21, 22, 23, 24, 25, 26, 27, 28, 29, 30, 31, 32, 33, 34, 35, 36, 37, 38, 2, 39, 40, 41, 42, 43, 44, 45, 46, 47, 48, 49, 50, 51, 52, 53, 54, 55, 56, 57, 58, 59, 60, 61, 62, 63, 64, 65, 66, 67, 68, 69] (by decide +kernel) (by decide +kernel)
set_option maxRecDepth 20000 in
theorem gX4_years_X4_complaintsNow : GoodIn wsX4_years (wsV RX4 188 RX4 yX4_complaintsNow wsX4_complaintsNow) := goodIn_app (goodIn_of _ (by decide +kernel)) ggX4_years_X4_complaintsNow
set_option maxHeartbeats 4000000 in
set_option maxRecDepth 100000 in
theorem kX4_years (l : Launch) (dC : Nat → ClassId) (dI : Nat → Nat → Nat) (cI cZ : ClassId) (q n : Nat → Nat) (mb : Int32) (f : Nat → Int32) (A : Nat → Nat → Nat) (Y : Nat → Nat → Int32) (hW : WF n A) (hR : RM n A Y) (hmb : 0 < n 6 → mb = nI (n 7)) (sz : Nat) : Met l yX4_years wsX4_years ({ frames := 5, cells := 0, slots := 0, locals := 126 }) (rwP [.ref (q 0)] sz (dC, dI) [(cI, .int), (cZ, .boolean)] (wM cI cZ q n mb f Y)) (rwQi (uYears n A) (dC, dI) (wM cI cZ q n mb f Y) (wM cI cZ q n mb f Y) sz) 0 0 (va_A (wM cI cZ q n mb f Y) sz) := by
  refine rw_met_i (by decide) rfl (Nat.le_of_ble_eq_true rfl) ?_
  intro pp ee ss mm aa bb me cd RR QQ Z hx hb hml hown hts hRf hRl hP hK hD hA hS hend ls hl
  have hown : ss.vm.findClass RX4 = some mm.cls := hown
  have hRf : 5 ≤ RR.frames := hRf
  have hRl : 126 ≤ RR.locals := hRl
  have hl : lv_has ls 4 [(0, .ref (q 0))] := hl
  obtain ⟨w0, w1, w2, w3, w4, w5, w6, w7, w8, wA0, wA1, wA2⟩ := id hW
  have wC : n 0 * n 1 ≤ 42 := Nat.mul_le_mul w0 w1
  have hf47 := hts (.fieldLink RX4 47 "StatueSquareModel" "statueAt" "I") (List.mem_of_getElem? (i := 1) rfl)
  have hinX4 : ∀ w ∈ u_ws RX4 TX4 31, w ∈ wsX4_years := fun _ h => List.mem_cons_of_mem _ (List.mem_append_right _ h)
  have hf140 := hts (.fieldLink RX4 140 "StatueSquareModel" "yearNow" "I") (List.mem_of_getElem? (i := 2) rfl)
  refine lv_aload_n hx hb dX4_years_0 rfl (lv_at hl 0 rfl) ?_
  refine x_get (D := (dC, dI)) (ci := 4) (v := .int (stI (n 6))) (C := RX4) (T := TX4) (N := 31) hx hb hts hinX4 hown hK hP 0 rfl rfl 24 (Nat.le_of_ble_eq_true rfl) hf47 rfl rfl dX4_years_1 ?_
  refine lv_if_ge (tgt := 10) hx hb dX4_years_4 (by decide) (fun c4 => ?_) (fun c4 => ?_)
  · skip
    have hst : 0 < n 6 := st_ge (by omega) c4
    have hP : va_P (dC, dI) vwCl (wM cI cZ q (uN n 4 (n 4)) mb f Y) ss.heap := (uN_self n 4).symm ▸ hP
    have hD : va_D Z (wM cI cZ q (uN n 4 (n 4)) mb f Y) := hD.same rfl
    refine lv_aload_n hx hb dX4_years_10 rfl (lv_at hl 0 rfl) ?_
    refine x_get (D := (dC, dI)) (ci := 4) (v := .int (nI (n 4))) (C := RX4) (T := TX4) (N := 31) hx hb hts hinX4 hown hK hP 0 rfl rfl 12 (Nat.le_of_ble_eq_true rfl) hf140 rfl rfl dX4_years_11 ?_
    refine lv_istore_n (lv' := [(1, .int (nI (n 4))), (0, .ref (q 0))]) hx hb dX4_years_14 rfl hl (by decide) rfl (fun ls hl => ?_)
    refine lv_bipush (v := -9) hx hb dX4_years_15 rfl ?_
    refine lv_istore_n (lv' := [(2, .int (-9)), (1, .int (nI (n 4))), (0, .ref (q 0))]) hx hb dX4_years_17 rfl hl (by decide) rfl (fun ls hl => ?_)
    refine lv_iload_n hx hb dX4_years_18 rfl (lv_at hl 1 rfl) ?_
    refine lv_istore_n (lv' := [(3, .int (nI (n 4))), (2, .int (-9)), (1, .int (nI (n 4))), (0, .ref (q 0))]) hx hb dX4_years_19 rfl hl (by decide) rfl (fun ls hl => ?_)
    have L20 : ∀ (fuel : Nat) (y : Nat) (z : Nat) (fst : Int32) (hy : y ≤ 31) (hf : (fst = -9 ∧ fyr n A (31 - n 4) (n 4) = fyr n A (31 - y) y) ∨ (0 ≤ fst ∧ fst = fyr n A (31 - n 4) (n 4))) (hfu : 31 - y < fuel) (H : Heap) (locs : List Loc), va_P (dC, dI) vwCl (wM cI cZ q (uN n 4 z) mb f Y) H → va_S Z ss.heap H locs → ∀ (ls : Array Slot), lv_has ls 4 [(0, .ref (q 0)), (1, .int (nI (n 4))), (2, .int fst), (3, .int (nI y))] → W pp l ee RR ss mm aa bb me cd H locs 0 0 QQ (F0 mm 20 ls []) := by
      intro fuel
      induction fuel with
      | zero => intro y z fst hy hf hfu; exact absurd hfu (Nat.not_lt_zero _)
      | succ fuel ih =>
        intro y z fst hy hf hfu H locs hP hS ls hl
        have hD : va_D Z (wM cI cZ q (uN n 4 z) mb f Y) := hD.same rfl
        refine lv_iload_n hx hb dX4_years_20 rfl (lv_at hl 3 rfl) ?_
        refine lv_bipush (v := nI 30) hx hb dX4_years_21 rfl ?_
        refine x_icmp_gt (tgt := 55) hx hb (by omega) (by omega) dX4_years_23 (by decide) (fun c23 => ?_) (fun c23 => ?_)
        · skip
          have hfs : fst = fyr n A (31 - n 4) (n 4) := by rcases hf with h | h; (rw [h.1, h.2]; exact fyr_end _ (by omega)); exact h.2
          refine lv_aload_n hx hb dX4_years_55 rfl (lv_at hl 0 rfl) ?_
          refine lv_iload_n hx hb dX4_years_56 rfl (lv_at hl 1 rfl) ?_
          refine x_put (D := (dC, dI)) (ci := 4) (v := .int (nI (n 4))) (C := RX4) (T := TX4) (N := 31) (wn := wM cI cZ q (uN (uN n 4 z) 4 (n 4)) mb f Y) hx hb hts hinX4 tyX4 tyX4_ok nmX4 hown hK hP hD hS 0 rfl rfl 12 (Nat.le_of_ble_eq_true rfl) hf140 rfl rfl rfl rfl (Nat.le_of_ble_eq_true rfl) rfl dX4_years_57 (fun H locs hP hS => ?_)
          have hD : va_D Z (wM cI cZ q (uN (uN n 4 z) 4 (n 4)) mb f Y) := hD.same rfl
          have hP : va_P (dC, dI) vwCl (wM cI cZ q n mb f Y) H := (uN_uN n 4 z (n 4)).trans (uN_self n 4) ▸ hP
          have hD : va_D Z (wM cI cZ q n mb f Y) := hD.same rfl
          refine lv_iload_n hx hb dX4_years_60 rfl (lv_at hl 2 rfl) ?_
          exact hend _ _ _ _ _ _ (by rw [uYears, if_pos hst]; exact hfs) rfl hP hS dX4_years_61
        · skip
          refine lv_iload_n hx hb dX4_years_26 rfl (lv_at hl 2 rfl) ?_
          refine lv_if_ge (tgt := 55) hx hb dX4_years_27 (by decide) (fun c27 => ?_) (fun c27 => ?_)
          · skip
            have hfs : fst = fyr n A (31 - n 4) (n 4) := by rcases hf with h | h; exact absurd c27 (by rw [h.1]; decide); exact h.2
            refine lv_aload_n hx hb dX4_years_55 rfl (lv_at hl 0 rfl) ?_
            refine lv_iload_n hx hb dX4_years_56 rfl (lv_at hl 1 rfl) ?_
            refine x_put (D := (dC, dI)) (ci := 4) (v := .int (nI (n 4))) (C := RX4) (T := TX4) (N := 31) (wn := wM cI cZ q (uN (uN n 4 z) 4 (n 4)) mb f Y) hx hb hts hinX4 tyX4 tyX4_ok nmX4 hown hK hP hD hS 0 rfl rfl 12 (Nat.le_of_ble_eq_true rfl) hf140 rfl rfl rfl rfl (Nat.le_of_ble_eq_true rfl) rfl dX4_years_57 (fun H locs hP hS => ?_)
            have hD : va_D Z (wM cI cZ q (uN (uN n 4 z) 4 (n 4)) mb f Y) := hD.same rfl
            have hP : va_P (dC, dI) vwCl (wM cI cZ q n mb f Y) H := (uN_uN n 4 z (n 4)).trans (uN_self n 4) ▸ hP
            have hD : va_D Z (wM cI cZ q n mb f Y) := hD.same rfl
            refine lv_iload_n hx hb dX4_years_60 rfl (lv_at hl 2 rfl) ?_
            exact hend _ _ _ _ _ _ (by rw [uYears, if_pos hst]; exact hfs) rfl hP hS dX4_years_61
          · skip
            have hf1 : fyr n A (31 - n 4) (n 4) = fyr n A (31 - y) y := by rcases hf with h | h; exact h.2; exact absurd h.1 c27
            refine lv_aload_n hx hb dX4_years_30 rfl (lv_at hl 0 rfl) ?_
            refine lv_iload_n hx hb dX4_years_31 rfl (lv_at hl 3 rfl) ?_
            refine x_put (D := (dC, dI)) (ci := 4) (v := .int (nI y)) (C := RX4) (T := TX4) (N := 31) (wn := wM cI cZ q (uN (uN n 4 z) 4 y) mb f Y) hx hb hts hinX4 tyX4 tyX4_ok nmX4 hown hK hP hD hS 0 rfl rfl 12 (Nat.le_of_ble_eq_true rfl) hf140 rfl rfl rfl rfl (Nat.le_of_ble_eq_true rfl) rfl dX4_years_32 (fun H locs hP hS => ?_)
            have hD : va_D Z (wM cI cZ q (uN (uN n 4 z) 4 y) mb f Y) := hD.same rfl
            have hP : va_P (dC, dI) vwCl (wM cI cZ q (uN n 4 y) mb f Y) H := uN_uN n 4 z y ▸ hP
            have hD : va_D Z (wM cI cZ q (uN n 4 y) mb f Y) := hD.same rfl
            refine lv_aload_n hx hb dX4_years_35 rfl (lv_at hl 0 rfl) ?_
            refine roV_i (As := []) (rest := []) ⟨hx, hb, hml, hown, hts⟩ (kX4_complaintsNow l dC dI cI cZ q (uN n 4 y) mb f A Y (WF_u4 hW (by omega)) hR hmb  _ hst) (cwV 0 hts gX4_years_X4_complaintsNow rfl rfl rfl hdX4_complaintsNow ⟨Nat.le_trans (Nat.le_of_ble_eq_true rfl) hRf, Nat.le_trans (Nat.le_of_ble_eq_true rfl) hRl⟩) (va_recv hK hP (ci := 4) (q0 := 0) rfl rfl) hK hP rfl hl.1 rfl (Nat.le_of_ble_eq_true rfl) dX4_years_36 ⟨Nat.zero_le _, Nat.zero_le _⟩ hP hS hA (fun H locs hP hS => ?_)
            refine x_top (y := nI (sComp n A 0 y)) rfl ?_
            refine x_if_eq (tgt := 46) hx hb (Nat.lt_of_lt_of_le (orB_lt _ _) (Nat.pow_le_pow_right (by decide) (by omega))) dX4_years_39 (by decide) (fun c39 => ?_) (fun c39 => ?_)
            · skip
              refine lv_bipush (v := -9) hx hb dX4_years_46 rfl ?_
              refine lv_istore_n (lv' := [(2, .int (-9)), (0, .ref (q 0)), (1, .int (nI (n 4))), (3, .int (nI y))]) hx hb dX4_years_48 rfl hl (by decide) rfl (fun ls hl => ?_)
              refine lv_iinc (v := (nI (y + 1))) (lv' := [(3, .int (nI (y + 1))), (2, .int (-9)), (0, .ref (q 0)), (1, .int (nI (n 4)))]) hx hb dX4_years_49 hl (k := 3) rfl (nI_add _ _) (by decide) rfl (fun ls hl => ?_)
              refine lv_goto (tgt := 20) hx hb dX4_years_52 (by decide) ?_
              exact ih (y + 1) y (-9) (by omega) (by rw [show 31 - y = (31 - (y + 1)) + 1 from by omega, fyr] at hf1; first | exact Or.inl ⟨rfl, by rw [hf1, if_pos c39]⟩ | exact Or.inr ⟨nI_pos' (by omega), by rw [hf1, if_neg c39]⟩) (by omega) _ _ hP hS _ (lv_sub hl [2, 3, 1, 0] rfl)
            · skip
              refine lv_iload_n hx hb dX4_years_42 rfl (lv_at hl 3 rfl) ?_
              refine lv_goto (tgt := 48) hx hb dX4_years_43 (by decide) ?_
              refine lv_istore_n (lv' := [(2, .int (nI y)), (0, .ref (q 0)), (1, .int (nI (n 4))), (3, .int (nI y))]) hx hb dX4_years_48 rfl hl (by decide) rfl (fun ls hl => ?_)
              refine lv_iinc (v := (nI (y + 1))) (lv' := [(3, .int (nI (y + 1))), (2, .int (nI y)), (0, .ref (q 0)), (1, .int (nI (n 4)))]) hx hb dX4_years_49 hl (k := 3) rfl (nI_add _ _) (by decide) rfl (fun ls hl => ?_)
              refine lv_goto (tgt := 20) hx hb dX4_years_52 (by decide) ?_
              exact ih (y + 1) y (nI y) (by omega) (by rw [show 31 - y = (31 - (y + 1)) + 1 from by omega, fyr] at hf1; first | exact Or.inl ⟨rfl, by rw [hf1, if_pos c39]⟩ | exact Or.inr ⟨nI_pos' (by omega), by rw [hf1, if_neg c39]⟩) (by omega) _ _ hP hS _ (lv_sub hl [2, 3, 1, 0] rfl)
    exact L20 _ (n 4) (n 4) (-9) (by omega) (Or.inl ⟨rfl, rfl⟩) (Nat.lt_succ_self _) _ _ hP hS _ (lv_sub hl [3, 2, 1, 0] rfl)
  · skip
    have hst : ¬ 0 < n 6 := st_lt (by omega) c4
    refine lv_bipush (v := -3) hx hb dX4_years_7 rfl ?_
    exact hend _ _ _ _ _ _ (by simp [uYears, inB02, hst] <;> rfl) rfl hP hS dX4_years_9
