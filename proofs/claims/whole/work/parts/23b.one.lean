set_option maxHeartbeats 4000000 in
set_option maxRecDepth 100000 in
theorem kX1_renew (l : Launch) (dC : Nat → ClassId) (dI : Nat → Nat → Nat) (cI : ClassId) (s r : Nat) (h : Bool) (la le : Nat) (C : Nat → Int32) (lane : Nat) (n : Nat) (sz : Nat) (hn : n ≤ 100) : Met l yX1_renew wsX1_renew ({ frames := 0, cells := 0, slots := 0, locals := 0 }) (rwP [.ref s, .int (nI lane), .int (nI n)] sz (dC, dI) [(cI, .int)] (wOne cI s r h la le C)) (rwQv (dC, dI) (wOne cI s r h la le C) (wOne cI s r true lane n (fillz C n)) sz) 0 0 (va_A (wOne cI s r h la le C) sz) := by
  refine rw_met_v (by decide) rfl (Nat.le_of_ble_eq_true rfl) ?_
  intro pp ee ss mm aa bb me cd RR QQ Z hx hb hml hown hts hRf hRl hP hK hD hA hS hend ls hl
  have hown : ss.vm.findClass RX1 = some mm.cls := hown
  have hRf : 0 ≤ RR.frames := hRf
  have hRl : 0 ≤ RR.locals := hRl
  have hl : lv_has ls 4 [(0, .ref s), (1, .int (nI lane)), (2, .int (nI n))] := hl
  have hf15 := hts (.fieldLink RX1 15 "StatueSquare$Sheet" "hasRow" "Z") (List.mem_of_getElem? (i := 1) rfl)
  have hinX1 : ∀ w ∈ u_ws RX1 TX1 4, w ∈ wsX1_renew := fun _ h => List.mem_cons_of_mem _ (List.mem_append_right _ h)
  have hf19 := hts (.fieldLink RX1 19 "StatueSquare$Sheet" "lane" "I") (List.mem_of_getElem? (i := 2) rfl)
  have hf23 := hts (.fieldLink RX1 23 "StatueSquare$Sheet" "length" "I") (List.mem_of_getElem? (i := 3) rfl)
  have hf9 := hts (.fieldLink RX1 9 "StatueSquare$Sheet" "row" "[I") (List.mem_of_getElem? (i := 4) rfl)
  refine lv_aload_n hx hb dX1_renew_0 rfl (lv_at hl 0 rfl) ?_
  refine lv_iconst (v := nI 1) hx hb dX1_renew_1 rfl ?_
  refine x_top (y := bI true) rfl ?_
  refine x_put (D := (dC, dI)) (ci := 1) (v := .int (bI true)) (C := RX1) (T := TX1) (N := 4) (wn := wOne cI s r true la le C) hx hb hts hinX1 tyX1 tyX1_ok nmX1 hown hK hP hD hS 0 rfl rfl 1 (Nat.le_of_ble_eq_true rfl) hf15 rfl rfl (bI_nar _) (bI_fit _) (Nat.le_of_ble_eq_true rfl) rfl dX1_renew_2 (fun H locs hP hS => ?_)
  have hD : va_D Z (wOne cI s r true la le C) := hD.same rfl
  refine lv_aload_n hx hb dX1_renew_5 rfl (lv_at hl 0 rfl) ?_
  refine lv_iload_n hx hb dX1_renew_6 rfl (lv_at hl 1 rfl) ?_
  refine x_put (D := (dC, dI)) (ci := 1) (v := .int (nI lane)) (C := RX1) (T := TX1) (N := 4) (wn := wOne cI s r true lane le C) hx hb hts hinX1 tyX1 tyX1_ok nmX1 hown hK hP hD hS 0 rfl rfl 2 (Nat.le_of_ble_eq_true rfl) hf19 rfl rfl rfl rfl (Nat.le_of_ble_eq_true rfl) rfl dX1_renew_7 (fun H locs hP hS => ?_)
  have hD : va_D Z (wOne cI s r true lane le C) := hD.same rfl
  refine lv_aload_n hx hb dX1_renew_10 rfl (lv_at hl 0 rfl) ?_
  refine lv_iload_n hx hb dX1_renew_11 rfl (lv_at hl 2 rfl) ?_
  refine x_put (D := (dC, dI)) (ci := 1) (v := .int (nI n)) (C := RX1) (T := TX1) (N := 4) (wn := wOne cI s r true lane n C) hx hb hts hinX1 tyX1 tyX1_ok nmX1 hown hK hP hD hS 0 rfl rfl 3 (Nat.le_of_ble_eq_true rfl) hf23 rfl rfl rfl rfl (Nat.le_of_ble_eq_true rfl) rfl dX1_renew_12 (fun H locs hP hS => ?_)
  have hD : va_D Z (wOne cI s r true lane n C) := hD.same rfl
  have hP : va_P (dC, dI) vwCl (wOne cI s r true lane n (fillz C 0)) H := (fillz_0 C).symm ▸ hP
  have hD : va_D Z (wOne cI s r true lane n (fillz C 0)) := hD.same rfl
  refine lv_iconst (v := nI 0) hx hb dX1_renew_15 rfl ?_
  refine lv_istore_n (lv' := [(3, .int (nI 0)), (0, .ref s), (1, .int (nI lane)), (2, .int (nI n))]) hx hb dX1_renew_16 rfl hl (by decide) rfl (fun ls hl => ?_)
  have L17 : ∀ (fuel : Nat) (k : Nat) (hk : k ≤ n) (hfu : n - k < fuel) (H : Heap) (locs : List Loc), va_P (dC, dI) vwCl (wOne cI s r true lane n (fillz C k)) H → va_S Z ss.heap H locs → ∀ (ls : Array Slot), lv_has ls 4 [(0, .ref s), (2, .int (nI n)), (3, .int (nI k))] → W pp l ee RR ss mm aa bb me cd H locs 0 0 QQ (F0 mm 17 ls []) := by
    intro fuel
    induction fuel with
    | zero => intro k hk hfu; exact absurd hfu (Nat.not_lt_zero _)
    | succ fuel ih =>
      intro k hk hfu H locs hP hS ls hl
      have hD : va_D Z (wOne cI s r true lane n (fillz C k)) := hD.same rfl
      refine lv_iload_n hx hb dX1_renew_17 rfl (lv_at hl 2 rfl) ?_
      refine lv_iload_n hx hb dX1_renew_18 rfl (lv_at hl 1 rfl) ?_
      refine x_icmp_ge (tgt := 35) hx hb (by omega) (by omega) dX1_renew_19 (by decide) (fun c19 => ?_) (fun c19 => ?_)
      · skip
        exact hend _ _ _ _ _ (by rw [show k = n from by omega]) hP hS dX1_renew_35
      · skip
        refine lv_aload_n hx hb dX1_renew_22 rfl (lv_at hl 0 rfl) ?_
        refine x_get (D := (dC, dI)) (ci := 1) (v := .ref r) (C := RX1) (T := TX1) (N := 4) hx hb hts hinX1 hown hK hP 0 rfl rfl 0 (Nat.le_of_ble_eq_true rfl) hf9 rfl rfl dX1_renew_23 ?_
        refine lv_iload_n hx hb dX1_renew_26 rfl (lv_at hl 2 rfl) ?_
        refine lv_iconst (v := nI 0) hx hb dX1_renew_27 rfl ?_
        refine x_iast (wn := wOne cI s r true lane n (upd (fillz C k) k (nI 0))) hx hb hK hP hD hS 1 0 rfl rfl (by omega) (by decide) rfl dX1_renew_28 (fun H locs hP hS => ?_)
        have hD : va_D Z (wOne cI s r true lane n (upd (fillz C k) k (nI 0))) := hD.same rfl
        have hP : va_P (dC, dI) vwCl (wOne cI s r true lane n (fillz C (k + 1))) H := fillz_s C k ▸ hP
        have hD : va_D Z (wOne cI s r true lane n (fillz C (k + 1))) := hD.same rfl
        refine lv_iinc (v := (nI (k + 1))) (lv' := [(3, .int (nI (k + 1))), (0, .ref s), (2, .int (nI n))]) hx hb dX1_renew_29 hl (k := 2) rfl (nI_add _ _) (by decide) rfl (fun ls hl => ?_)
        refine lv_goto (tgt := 17) hx hb dX1_renew_32 (by decide) ?_
        exact ih (k + 1) (by omega) (by omega) _ _ hP hS _ (lv_sub hl [1, 2, 0] rfl)
  exact L17 _ 0 (by omega) (Nat.lt_succ_self _) _ _ hP hS _ (lv_sub hl [1, 3, 0] rfl)
set_option maxHeartbeats 4000000 in
set_option maxRecDepth 100000 in
theorem kX1_write (l : Launch) (dC : Nat → ClassId) (dI : Nat → Nat → Nat) (cI : ClassId) (s r : Nat) (h : Bool) (la le : Nat) (C : Nat → Int32) (i : Nat) (v : Int32) (sz : Nat) (hi : i < 100) (hla : la ≤ 2) : Met l yX1_write wsX1_write ({ frames := 0, cells := 0, slots := 0, locals := 0 }) (rwP [.ref s, .int (nI i), .int v] sz (dC, dI) [(cI, .int)] (wOne cI s r h la le C)) (rwQv (dC, dI) (wOne cI s r h la le C) (wOne cI s r h la le (upd C i (cutL la v))) sz) 0 0 (va_A (wOne cI s r h la le C) sz) := by
  refine rw_met_v (by decide) rfl (Nat.le_of_ble_eq_true rfl) ?_
  intro pp ee ss mm aa bb me cd RR QQ Z hx hb hml hown hts hRf hRl hP hK hD hA hS hend ls hl
  have hown : ss.vm.findClass RX1 = some mm.cls := hown
  have hRf : 0 ≤ RR.frames := hRf
  have hRl : 0 ≤ RR.locals := hRl
  have hl : lv_has ls 3 [(0, .ref s), (1, .int (nI i)), (2, .int v)] := hl
  have hf19 := hts (.fieldLink RX1 19 "StatueSquare$Sheet" "lane" "I") (List.mem_of_getElem? (i := 1) rfl)
  have hinX1 : ∀ w ∈ u_ws RX1 TX1 4, w ∈ wsX1_write := fun _ h => List.mem_cons_of_mem _ (List.mem_append_right _ h)
  have hf9 := hts (.fieldLink RX1 9 "StatueSquare$Sheet" "row" "[I") (List.mem_of_getElem? (i := 2) rfl)
  refine lv_aload_n hx hb dX1_write_0 rfl (lv_at hl 0 rfl) ?_
  refine x_get (D := (dC, dI)) (ci := 1) (v := .int (nI la)) (C := RX1) (T := TX1) (N := 4) hx hb hts hinX1 hown hK hP 0 rfl rfl 2 (Nat.le_of_ble_eq_true rfl) hf19 rfl rfl dX1_write_1 ?_
  rcases (show la = 0 ∨ la = 1 ∨ la = 2 by omega) with hk | hk | hk
  · skip
    refine lv_lookup (tgt := 32) hx hb dX1_write_4 (by decide) (by rw [hk] <;> rfl) (by decide) ?_
    refine lv_aload_n hx hb dX1_write_32 rfl (lv_at hl 0 rfl) ?_
    refine x_get (D := (dC, dI)) (ci := 1) (v := .ref r) (C := RX1) (T := TX1) (N := 4) hx hb hts hinX1 hown hK hP 0 rfl rfl 0 (Nat.le_of_ble_eq_true rfl) hf9 rfl rfl dX1_write_33 ?_
    refine lv_iload_n hx hb dX1_write_36 rfl (lv_at hl 1 rfl) ?_
    refine lv_iload_n hx hb dX1_write_37 rfl (lv_at hl 2 rfl) ?_
    refine lv_i2b hx hb dX1_write_38 rfl ?_
    refine x_iast (wn := wOne cI s r h la le (upd C i v.toInt8.toInt32)) hx hb hK hP hD hS 1 0 rfl rfl (by omega) (by decide) rfl dX1_write_39 (fun H locs hP hS => ?_)
    have hD : va_D Z (wOne cI s r h la le (upd C i v.toInt8.toInt32)) := hD.same rfl
    refine lv_goto (tgt := 61) hx hb dX1_write_40 (by decide) ?_
    exact hend _ _ _ _ _ (by simp [cutL, hk]) hP hS dX1_write_61
  · skip
    refine lv_lookup (tgt := 43) hx hb dX1_write_4 (by decide) (by rw [hk] <;> rfl) (by decide) ?_
    refine lv_aload_n hx hb dX1_write_43 rfl (lv_at hl 0 rfl) ?_
    refine x_get (D := (dC, dI)) (ci := 1) (v := .ref r) (C := RX1) (T := TX1) (N := 4) hx hb hts hinX1 hown hK hP 0 rfl rfl 0 (Nat.le_of_ble_eq_true rfl) hf9 rfl rfl dX1_write_44 ?_
    refine lv_iload_n hx hb dX1_write_47 rfl (lv_at hl 1 rfl) ?_
    refine lv_iload_n hx hb dX1_write_48 rfl (lv_at hl 2 rfl) ?_
    refine lv_i2s hx hb dX1_write_49 rfl ?_
    refine x_iast (wn := wOne cI s r h la le (upd C i v.toInt16.toInt32)) hx hb hK hP hD hS 1 0 rfl rfl (by omega) (by decide) rfl dX1_write_50 (fun H locs hP hS => ?_)
    have hD : va_D Z (wOne cI s r h la le (upd C i v.toInt16.toInt32)) := hD.same rfl
    refine lv_goto (tgt := 61) hx hb dX1_write_51 (by decide) ?_
    exact hend _ _ _ _ _ (by simp [cutL, hk]) hP hS dX1_write_61
  · skip
    refine lv_lookup (tgt := 54) hx hb dX1_write_4 (by decide) (by rw [hk] <;> rfl) (by decide) ?_
    refine lv_aload_n hx hb dX1_write_54 rfl (lv_at hl 0 rfl) ?_
    refine x_get (D := (dC, dI)) (ci := 1) (v := .ref r) (C := RX1) (T := TX1) (N := 4) hx hb hts hinX1 hown hK hP 0 rfl rfl 0 (Nat.le_of_ble_eq_true rfl) hf9 rfl rfl dX1_write_55 ?_
    refine lv_iload_n hx hb dX1_write_58 rfl (lv_at hl 1 rfl) ?_
    refine lv_iload_n hx hb dX1_write_59 rfl (lv_at hl 2 rfl) ?_
    refine x_iast (wn := wOne cI s r h la le (upd C i v)) hx hb hK hP hD hS 1 0 rfl rfl (by omega) (by decide) rfl dX1_write_60 (fun H locs hP hS => ?_)
    have hD : va_D Z (wOne cI s r h la le (upd C i v)) := hD.same rfl
    exact hend _ _ _ _ _ (by simp [cutL, hk]) hP hS dX1_write_61
set_option maxHeartbeats 4000000 in
set_option maxRecDepth 100000 in
theorem kX1_faultAsRow (l : Launch) (dC : Nat → ClassId) (dI : Nat → Nat → Nat) (cI : ClassId) (s r : Nat) (h : Bool) (la le : Nat) (C : Nat → Int32) (lane : Nat) (sz : Nat) (hla : la ≤ 2) (hln : lane ≤ 2) : Met l yX1_faultAsRow wsX1_faultAsRow ({ frames := 0, cells := 0, slots := 0, locals := 0 }) (roP [.ref s, .int (nI lane)] sz (dC, dI) [(cI, .int)] (wOne cI s r h la le C)) (roQi (nI (faR h la lane)) sz) 0 0 (va_A [] sz) := by
  refine ro_met_i (by decide) rfl (Nat.le_of_ble_eq_true rfl) ?_
  intro pp ee ss mm aa bb me cd RR QQ Z hx hb hml hown hts hRf hRl hP hK hA hS hend ls hl
  have hown : ss.vm.findClass RX1 = some mm.cls := hown
  have hRf : 0 ≤ RR.frames := hRf
  have hRl : 0 ≤ RR.locals := hRl
  have hl : lv_has ls 2 [(0, .ref s), (1, .int (nI lane))] := hl
  have hf15 := hts (.fieldLink RX1 15 "StatueSquare$Sheet" "hasRow" "Z") (List.mem_of_getElem? (i := 1) rfl)
  have hinX1 : ∀ w ∈ u_ws RX1 TX1 4, w ∈ wsX1_faultAsRow := fun _ h => List.mem_cons_of_mem _ (List.mem_append_right _ h)
  have hf19 := hts (.fieldLink RX1 19 "StatueSquare$Sheet" "lane" "I") (List.mem_of_getElem? (i := 2) rfl)
  refine lv_aload_n hx hb dX1_faultAsRow_0 rfl (lv_at hl 0 rfl) ?_
  refine x_get (D := (dC, dI)) (ci := 1) (v := .int (bI h)) (C := RX1) (T := TX1) (N := 4) hx hb hts hinX1 hown hK hP 0 rfl rfl 1 (Nat.le_of_ble_eq_true rfl) hf15 rfl rfl dX1_faultAsRow_1 ?_
  refine x_ifb_ne (tgt := 9) hx hb dX1_faultAsRow_4 (by decide) (fun c4 => ?_) (fun c4 => ?_)
  · skip
    refine lv_aload_n hx hb dX1_faultAsRow_9 rfl (lv_at hl 0 rfl) ?_
    refine x_get (D := (dC, dI)) (ci := 1) (v := .int (nI la)) (C := RX1) (T := TX1) (N := 4) hx hb hts hinX1 hown hK hP 0 rfl rfl 2 (Nat.le_of_ble_eq_true rfl) hf19 rfl rfl dX1_faultAsRow_10 ?_
    refine lv_iload_n hx hb dX1_faultAsRow_13 rfl (lv_at hl 1 rfl) ?_
    refine x_icmp_ne (tgt := 21) hx hb (by omega) (by omega) dX1_faultAsRow_14 (by decide) (fun c14 => ?_) (fun c14 => ?_)
    · skip
      refine lv_iconst (v := nI 2) hx hb dX1_faultAsRow_21 rfl ?_
      exact hend _ _ _ _ _ (by simp [faR, c4, c14]) hS dX1_faultAsRow_22
    · skip
      refine lv_iconst (v := nI 0) hx hb dX1_faultAsRow_17 rfl ?_
      refine lv_goto (tgt := 22) hx hb dX1_faultAsRow_18 (by decide) ?_
      exact hend _ _ _ _ _ (by simp [faR, c4, c14]) hS dX1_faultAsRow_22
  · skip
    refine lv_iconst (v := nI 1) hx hb dX1_faultAsRow_7 rfl ?_
    exact hend _ _ _ _ _ (by simp [faR, c4]) hS dX1_faultAsRow_8
set_option maxHeartbeats 4000000 in
set_option maxRecDepth 100000 in
theorem kX1_hasSpan (l : Launch) (dC : Nat → ClassId) (dI : Nat → Nat → Nat) (cI : ClassId) (s r : Nat) (h : Bool) (la le : Nat) (C : Nat → Int32) (i : Int32) (n : Int32) (sz : Nat) (hle : le ≤ 100) : Met l yX1_hasSpan wsX1_hasSpan ({ frames := 0, cells := 0, slots := 0, locals := 0 }) (roP [.ref s, .int i, .int n] sz (dC, dI) [(cI, .int)] (wOne cI s r h la le C)) (roQi (bI (spanB i n le)) sz) 0 0 (va_A [] sz) := by
  refine ro_met_z (by decide) rfl (Nat.le_of_ble_eq_true rfl) ?_
  intro pp ee ss mm aa bb me cd RR QQ Z hx hb hml hown hts hRf hRl hP hK hA hS hend ls hl
  have hown : ss.vm.findClass RX1 = some mm.cls := hown
  have hRf : 0 ≤ RR.frames := hRf
  have hRl : 0 ≤ RR.locals := hRl
  have hl : lv_has ls 3 [(0, .ref s), (1, .int i), (2, .int n)] := hl
  have hf23 := hts (.fieldLink RX1 23 "StatueSquare$Sheet" "length" "I") (List.mem_of_getElem? (i := 1) rfl)
  have hinX1 : ∀ w ∈ u_ws RX1 TX1 4, w ∈ wsX1_hasSpan := fun _ h => List.mem_cons_of_mem _ (List.mem_append_right _ h)
  refine lv_iload_n hx hb dX1_hasSpan_0 rfl (lv_at hl 1 rfl) ?_
  refine lv_if_lt (tgt := 30) hx hb dX1_hasSpan_1 (by decide) (fun c1 => ?_) (fun c1 => ?_)
  · skip
    refine lv_iconst (v := nI 0) hx hb dX1_hasSpan_30 rfl ?_
    exact hend _ _ _ _ _ (n0_b (decide_eq_false (fun q => by first | (have h1 := Int32.lt_iff_toInt_lt.mp c1; rw [i0] at h1; omega) | (have h1 := Int32.lt_iff_toInt_lt.mp c9; rw [nI_toInt (by omega)] at h1; omega) | (have h1 := Int32.lt_iff_toInt_lt.mp c13; rw [i0] at h1; omega) | (have h1 := Int32.lt_iff_toInt_lt.mp c23; rw [sp_sub hle c1 c9] at h1; omega)))) hS dX1_hasSpan_31
  · skip
    refine lv_iload_n hx hb dX1_hasSpan_4 rfl (lv_at hl 1 rfl) ?_
    refine lv_aload_n hx hb dX1_hasSpan_5 rfl (lv_at hl 0 rfl) ?_
    refine x_get (D := (dC, dI)) (ci := 1) (v := .int (nI le)) (C := RX1) (T := TX1) (N := 4) hx hb hts hinX1 hown hK hP 0 rfl rfl 3 (Nat.le_of_ble_eq_true rfl) hf23 rfl rfl dX1_hasSpan_6 ?_
    refine lv_icmp_gt (tgt := 30) hx hb dX1_hasSpan_9 (by decide) (fun c9 => ?_) (fun c9 => ?_)
    · skip
      refine lv_iconst (v := nI 0) hx hb dX1_hasSpan_30 rfl ?_
      exact hend _ _ _ _ _ (n0_b (decide_eq_false (fun q => by first | (have h1 := Int32.lt_iff_toInt_lt.mp c1; rw [i0] at h1; omega) | (have h1 := Int32.lt_iff_toInt_lt.mp c9; rw [nI_toInt (by omega)] at h1; omega) | (have h1 := Int32.lt_iff_toInt_lt.mp c13; rw [i0] at h1; omega) | (have h1 := Int32.lt_iff_toInt_lt.mp c23; rw [sp_sub hle c1 c9] at h1; omega)))) hS dX1_hasSpan_31
    · skip
      refine lv_iload_n hx hb dX1_hasSpan_12 rfl (lv_at hl 2 rfl) ?_
      refine lv_if_lt (tgt := 30) hx hb dX1_hasSpan_13 (by decide) (fun c13 => ?_) (fun c13 => ?_)
      · skip
        refine lv_iconst (v := nI 0) hx hb dX1_hasSpan_30 rfl ?_
        exact hend _ _ _ _ _ (n0_b (decide_eq_false (fun q => by first | (have h1 := Int32.lt_iff_toInt_lt.mp c1; rw [i0] at h1; omega) | (have h1 := Int32.lt_iff_toInt_lt.mp c9; rw [nI_toInt (by omega)] at h1; omega) | (have h1 := Int32.lt_iff_toInt_lt.mp c13; rw [i0] at h1; omega) | (have h1 := Int32.lt_iff_toInt_lt.mp c23; rw [sp_sub hle c1 c9] at h1; omega)))) hS dX1_hasSpan_31
      · skip
        refine lv_iload_n hx hb dX1_hasSpan_16 rfl (lv_at hl 2 rfl) ?_
        refine lv_aload_n hx hb dX1_hasSpan_17 rfl (lv_at hl 0 rfl) ?_
        refine x_get (D := (dC, dI)) (ci := 1) (v := .int (nI le)) (C := RX1) (T := TX1) (N := 4) hx hb hts hinX1 hown hK hP 0 rfl rfl 3 (Nat.le_of_ble_eq_true rfl) hf23 rfl rfl dX1_hasSpan_18 ?_
        refine lv_iload_n hx hb dX1_hasSpan_21 rfl (lv_at hl 1 rfl) ?_
        refine lv_isub hx hb dX1_hasSpan_22 ?_
        refine lv_icmp_gt (tgt := 30) hx hb dX1_hasSpan_23 (by decide) (fun c23 => ?_) (fun c23 => ?_)
        · skip
          refine lv_iconst (v := nI 0) hx hb dX1_hasSpan_30 rfl ?_
          exact hend _ _ _ _ _ (n0_b (decide_eq_false (fun q => by first | (have h1 := Int32.lt_iff_toInt_lt.mp c1; rw [i0] at h1; omega) | (have h1 := Int32.lt_iff_toInt_lt.mp c9; rw [nI_toInt (by omega)] at h1; omega) | (have h1 := Int32.lt_iff_toInt_lt.mp c13; rw [i0] at h1; omega) | (have h1 := Int32.lt_iff_toInt_lt.mp c23; rw [sp_sub hle c1 c9] at h1; omega)))) hS dX1_hasSpan_31
        · skip
          refine lv_iconst (v := nI 1) hx hb dX1_hasSpan_26 rfl ?_
          refine lv_goto (tgt := 31) hx hb dX1_hasSpan_27 (by decide) ?_
          exact hend _ _ _ _ _ (n1_b (decide_eq_true ⟨by have := Int32.le_iff_toInt_le.mp (Int32.not_lt.mp c1); rwa [i0] at this, by have := Int32.le_iff_toInt_le.mp (Int32.not_lt.mp c13); rwa [i0] at this, by have h1 := Int32.le_iff_toInt_le.mp (Int32.not_lt.mp c23); rw [sp_sub hle c1 c9] at h1; omega⟩)) hS dX1_hasSpan_31
