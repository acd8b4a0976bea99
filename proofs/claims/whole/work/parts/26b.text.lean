theorem hdX2_takeCell : yX2_takeCell.cls = RX2 ∧ yX2_takeCell.cls ≠ "java/lang/invoke/MethodHandle" ∧ yX2_takeCell.cls ≠ "java/lang/invoke/VarHandle" ∧ (parseMethodDescriptor yX2_takeCell.desc).map (fun d => d.parameters.length) = some 1 := by decide +kernel
theorem hdX2_takeSign : yX2_takeSign.cls = RX2 ∧ yX2_takeSign.cls ≠ "java/lang/invoke/MethodHandle" ∧ yX2_takeSign.cls ≠ "java/lang/invoke/VarHandle" ∧ (parseMethodDescriptor yX2_takeSign.desc).map (fun d => d.parameters.length) = some 1 := by decide +kernel
set_option maxRecDepth 20000 in
theorem ggX2_takeRows_X2_takeSign : GoodIn wsX2_takeRows wsX2_takeSign := goodIn_r _ [7, 8, 9, 10, 11, 6, 12, 13, 14, 35, 36, 37, 38, 39, 40, 41, 42, 43] (by decide +kernel) (by decide +kernel)
set_option maxRecDepth 20000 in
theorem gX2_takeRows_X2_takeSign : GoodIn wsX2_takeRows (wsV RX2 45 RX2 yX2_takeSign wsX2_takeSign) := goodIn_app (goodIn_of _ (by decide +kernel)) ggX2_takeRows_X2_takeSign
set_option maxRecDepth 20000 in
theorem ggX2_takeRows_X2_takeCell : GoodIn wsX2_takeRows wsX2_takeCell := goodIn_r _ [18, 19, 8, 9, 10, 11, 6, 12, 13, 14, 20, 21, 22, 23, 24, 25, 26, 27, 28, 29, 30, 31, 32, 33, 34, 35, 36, 37, 38, 39, 40, 41, 42, 43] (by decide +kernel) (by decide +kernel)
set_option maxRecDepth 20000 in
theorem gX2_takeRows_X2_takeCell : GoodIn wsX2_takeRows (wsV RX2 63 RX2 yX2_takeCell wsX2_takeCell) := goodIn_app (goodIn_of _ (by decide +kernel)) ggX2_takeRows_X2_takeCell
set_option maxHeartbeats 4000000 in
set_option maxRecDepth 100000 in
theorem kX2_takeRows (l : Launch) (dC : Nat → ClassId) (dI : Nat → Nat → Nat) (cI : ClassId) (t : Nat → Nat) (hi wi len : Nat) (S D E : Nat → Int32) (sz : Nat) (hlen : len ≤ 100) (hhi : hi ≤ 6) (hwi : 0 < wi) (hwi7 : wi ≤ 7) : Met l yX2_takeRows wsX2_takeRows ({ frames := 4, cells := 0, slots := 0, locals := 86 }) (rwP [.ref (t 0)] sz (dC, dI) [(cI, .int)] (wT cI t (nI hi) (nI wi) len 3 0 0 S D E)) (rwQi (bI ((tR E len wi S D (hi * wi)).1)) (dC, dI) (wT cI t (nI hi) (nI wi) len 3 0 0 S D E) (wT cI t (nI hi) (nI wi) len ((tR E len wi S D (hi * wi)).2.1.1) ((tR E len wi S D (hi * wi)).2.1.2.1) ((tR E len wi S D (hi * wi)).2.1.2.2) ((tR E len wi S D (hi * wi)).2.2.1) ((tR E len wi S D (hi * wi)).2.2.2) E) sz) 0 0 (va_A (wT cI t (nI hi) (nI wi) len 3 0 0 S D E) sz) := by
  refine rw_met_z (by decide) rfl (Nat.le_of_ble_eq_true rfl) ?_
  intro pp ee ss mm aa bb me cd RR QQ Z hx hb hml hown hts hRf hRl hP hK hD hA hS hend ls hl
  have hown : ss.vm.findClass RX2 = some mm.cls := hown
  have hRf : 4 ≤ RR.frames := hRf
  have hRl : 86 ≤ RR.locals := hRl
  have hl : lv_has ls 3 [(0, .ref (t 0))] := hl
  have hf53 := hts (.fieldLink RX2 53 "StatueSquare$TextReader" "high" "I") (List.mem_of_getElem? (i := 1) rfl)
  have hinX2 : ∀ w ∈ u_ws RX2 TX2 9, w ∈ wsX2_takeRows := fun _ h => List.mem_cons_of_mem _ (List.mem_append_right _ h)
  have hf56 := hts (.fieldLink RX2 56 "StatueSquare$TextReader" "wide" "I") (List.mem_of_getElem? (i := 2) rfl)
  refine lv_iconst (v := nI 0) hx hb dX2_takeRows_0 rfl ?_
  refine lv_istore_n (lv' := [(1, .int (nI 0)), (0, .ref (t 0))]) hx hb dX2_takeRows_1 rfl hl (by decide) rfl (fun ls hl => ?_)
  have L2 : ∀ (fuel : Nat) (r : Nat) (hr : r ≤ hi) (hok : (tR E len wi S D (r * wi)).1 = true) (hfu : hi - r < fuel) (H : Heap) (locs : List Loc), va_P (dC, dI) vwCl (wT cI t (nI hi) (nI wi) len ((tR E len wi S D (r * wi)).2.1.1) ((tR E len wi S D (r * wi)).2.1.2.1) ((tR E len wi S D (r * wi)).2.1.2.2) ((tR E len wi S D (r * wi)).2.2.1) ((tR E len wi S D (r * wi)).2.2.2) E) H → va_S Z ss.heap H locs → ∀ (ls : Array Slot), lv_has ls 3 [(0, .ref (t 0)), (1, .int (nI r))] → W pp l ee RR ss mm aa bb me cd H locs 0 0 QQ (F0 mm 2 ls []) := by
    intro fuel
    induction fuel with
    | zero => intro r hr hok hfu; exact absurd hfu (Nat.not_lt_zero _)
    | succ fuel ih =>
      intro r hr hok hfu H locs hP hS ls hl
      have hD : va_D Z (wT cI t (nI hi) (nI wi) len ((tR E len wi S D (r * wi)).2.1.1) ((tR E len wi S D (r * wi)).2.1.2.1) ((tR E len wi S D (r * wi)).2.1.2.2) ((tR E len wi S D (r * wi)).2.2.1) ((tR E len wi S D (r * wi)).2.2.2) E) := hD.same rfl
      refine lv_iload_n hx hb dX2_takeRows_2 rfl (lv_at hl 1 rfl) ?_
      refine lv_aload_n hx hb dX2_takeRows_3 rfl (lv_at hl 0 rfl) ?_
      refine x_get (D := (dC, dI)) (ci := 2) (v := .int (nI hi)) (C := RX2) (T := TX2) (N := 9) hx hb hts hinX2 hown hK hP 0 rfl rfl 2 (Nat.le_of_ble_eq_true rfl) hf53 rfl rfl dX2_takeRows_4 ?_
      refine x_icmp_ge (tgt := 60) hx hb (by omega) (by omega) dX2_takeRows_7 (by decide) (fun c7 => ?_) (fun c7 => ?_)
      · skip
        refine lv_iconst (v := nI 1) hx hb dX2_takeRows_60 rfl ?_
        exact hend _ _ _ _ _ _ (n1_b (by rw [show hi = r from by omega]; exact hok)) (by rw [show hi = r from by omega]) hP hS dX2_takeRows_61
      · skip
        have hcn := tR_cnt E len wi S D (r * wi)
        have hrw : r * wi + wi ≤ hi * wi := by have := Nat.mul_le_mul_right wi (show r + 1 ≤ hi by omega); rw [Nat.succ_mul] at this; exact this
        have h42 : hi * wi ≤ 42 := Nat.mul_le_mul hhi hwi7
        refine lv_aload_n hx hb dX2_takeRows_10 rfl (lv_at hl 0 rfl) ?_
        refine lv_bipush (v := nI 59) hx hb dX2_takeRows_11 rfl ?_
        refine rwW_i (As := [.int (nI 59)]) (rest := []) (wn := wT cI t (nI hi) (nI wi) len (if sgB E len ((tR E len wi S D (r * wi)).2.1.1) 59 = true then ((tR E len wi S D (r * wi)).2.1.1) + 1 else ((tR E len wi S D (r * wi)).2.1.1)) ((tR E len wi S D (r * wi)).2.1.2.1) ((tR E len wi S D (r * wi)).2.1.2.2) ((tR E len wi S D (r * wi)).2.2.1) ((tR E len wi S D (r * wi)).2.2.2) E) ⟨hx, hb, hml, hown, hts⟩ (kX2_takeSign l dC dI cI t (nI hi) (nI wi) len ((tR E len wi S D (r * wi)).2.1.1) ((tR E len wi S D (r * wi)).2.1.2.1) ((tR E len wi S D (r * wi)).2.1.2.2) ((tR E len wi S D (r * wi)).2.2.1) ((tR E len wi S D (r * wi)).2.2.2) E 59 _ (by omega) (by omega) (by omega)) (cwV 1 hts gX2_takeRows_X2_takeSign rfl rfl rfl hdX2_takeSign ⟨Nat.le_trans (Nat.le_of_ble_eq_true rfl) hRf, Nat.le_trans (Nat.le_of_ble_eq_true rfl) hRl⟩) (va_recv hK hP (ci := 2) (q0 := 0) rfl rfl) hK rfl hl.1 rfl (Nat.le_of_ble_eq_true rfl) dX2_takeRows_13 ⟨Nat.zero_le _, Nat.zero_le _⟩ hP hD hS hA [0, 1, 2, 3] [] [0, 1, 2, 3] rfl rfl (by decide) (by decide) (by decide) rfl rfl (fun H locs hP hS => ?_)
        have hD : va_D Z (wT cI t (nI hi) (nI wi) len (if sgB E len ((tR E len wi S D (r * wi)).2.1.1) 59 = true then ((tR E len wi S D (r * wi)).2.1.1) + 1 else ((tR E len wi S D (r * wi)).2.1.1)) ((tR E len wi S D (r * wi)).2.1.2.1) ((tR E len wi S D (r * wi)).2.1.2.2) ((tR E len wi S D (r * wi)).2.2.1) ((tR E len wi S D (r * wi)).2.2.2) E) := hD.same rfl
        refine x_ifb_ne (tgt := 21) hx hb dX2_takeRows_16 (by decide) (fun c16 => ?_) (fun c16 => ?_)
        · skip
          have hP : va_P (dC, dI) vwCl (wT cI t (nI hi) (nI wi) len ((tR E len wi S D (r * wi)).2.1.1 + 1) ((tR E len wi S D (r * wi)).2.1.2.1) ((tR E len wi S D (r * wi)).2.1.2.2) ((tR E len wi S D (r * wi)).2.2.1) ((tR E len wi S D (r * wi)).2.2.2) E) H := by rw [if_pos c16] at hP; exact hP
          have hD : va_D Z (wT cI t (nI hi) (nI wi) len ((tR E len wi S D (r * wi)).2.1.1 + 1) ((tR E len wi S D (r * wi)).2.1.2.1) ((tR E len wi S D (r * wi)).2.1.2.2) ((tR E len wi S D (r * wi)).2.2.1) ((tR E len wi S D (r * wi)).2.2.2) E) := hD.same rfl
          refine lv_iconst (v := nI 0) hx hb dX2_takeRows_21 rfl ?_
          refine lv_istore_n (lv' := [(2, .int (nI 0)), (0, .ref (t 0)), (1, .int (nI r))]) hx hb dX2_takeRows_22 rfl hl (by decide) rfl (fun ls hl => ?_)
          have L23 : ∀ (fuel : Nat) (k : Nat) (hk : k ≤ wi) (hok2 : (tR E len wi S D (r * wi + k)).1 = true) (hsg : k = 0 → sgB E len (tR E len wi S D (r * wi + k)).2.1.1 59 = true) (hfu : wi - k < fuel) (H : Heap) (locs : List Loc), va_P (dC, dI) vwCl (wT cI t (nI hi) (nI wi) len (if k = 0 then (tR E len wi S D (r * wi + k)).2.1.1 + 1 else (tR E len wi S D (r * wi + k)).2.1.1) ((tR E len wi S D (r * wi + k)).2.1.2.1) ((tR E len wi S D (r * wi + k)).2.1.2.2) ((tR E len wi S D (r * wi + k)).2.2.1) ((tR E len wi S D (r * wi + k)).2.2.2) E) H → va_S Z ss.heap H locs → ∀ (ls : Array Slot), lv_has ls 3 [(0, .ref (t 0)), (1, .int (nI r)), (2, .int (nI k))] → W pp l ee RR ss mm aa bb me cd H locs 0 0 QQ (F0 mm 23 ls []) := by
            intro fuel23
            induction fuel23 with
            | zero => intro k hk hok2 hsg hfu; exact absurd hfu (Nat.not_lt_zero _)
            | succ fuel23 ih23 =>
              intro k hk hok2 hsg hfu H locs hP hS ls hl
              have hD : va_D Z (wT cI t (nI hi) (nI wi) len (if k = 0 then (tR E len wi S D (r * wi + k)).2.1.1 + 1 else (tR E len wi S D (r * wi + k)).2.1.1) ((tR E len wi S D (r * wi + k)).2.1.2.1) ((tR E len wi S D (r * wi + k)).2.1.2.2) ((tR E len wi S D (r * wi + k)).2.2.1) ((tR E len wi S D (r * wi + k)).2.2.2) E) := hD.same rfl
              refine lv_iload_n hx hb dX2_takeRows_23 rfl (lv_at hl 2 rfl) ?_
              refine lv_aload_n hx hb dX2_takeRows_24 rfl (lv_at hl 0 rfl) ?_
              refine x_get (D := (dC, dI)) (ci := 2) (v := .int (nI wi)) (C := RX2) (T := TX2) (N := 9) hx hb hts hinX2 hown hK hP 0 rfl rfl 3 (Nat.le_of_ble_eq_true rfl) hf56 rfl rfl dX2_takeRows_25 ?_
              refine x_icmp_ge (tgt := 54) hx hb (by omega) (by omega) dX2_takeRows_28 (by decide) (fun c28 => ?_) (fun c28 => ?_)
              · skip
                have hkw : (r + 1) * wi = r * wi + k := by rw [Nat.succ_mul]; omega
                have hP : va_P (dC, dI) vwCl (wT cI t (nI hi) (nI wi) len ((tR E len wi S D ((r + 1) * wi)).2.1.1) ((tR E len wi S D ((r + 1) * wi)).2.1.2.1) ((tR E len wi S D ((r + 1) * wi)).2.1.2.2) ((tR E len wi S D ((r + 1) * wi)).2.2.1) ((tR E len wi S D ((r + 1) * wi)).2.2.2) E) H := by rw [hkw]; rw [if_neg (show ¬ k = 0 by omega)] at hP; exact hP
                have hD : va_D Z (wT cI t (nI hi) (nI wi) len ((tR E len wi S D ((r + 1) * wi)).2.1.1) ((tR E len wi S D ((r + 1) * wi)).2.1.2.1) ((tR E len wi S D ((r + 1) * wi)).2.1.2.2) ((tR E len wi S D ((r + 1) * wi)).2.2.1) ((tR E len wi S D ((r + 1) * wi)).2.2.2) E) := hD.same rfl
                have hok1 : (tR E len wi S D ((r + 1) * wi)).1 = true := by rw [hkw]; exact hok2
                refine lv_iinc (v := (nI (r + 1))) (lv' := [(1, .int (nI (r + 1))), (0, .ref (t 0)), (2, .int (nI k))]) hx hb dX2_takeRows_54 hl (k := 1) rfl (nI_add _ _) (by decide) rfl (fun ls hl => ?_)
                refine lv_goto (tgt := 2) hx hb dX2_takeRows_57 (by decide) ?_
                exact ih (r + 1) (by omega) hok1 (by omega) _ _ hP hS _ (lv_sub hl [1, 0] rfl)
              · skip
                have hcn := tR_cnt E len wi S D (r * wi + k)
                have hm : r * wi + k + 1 ≤ hi * wi := by omega
                have hgo := tR_go (r := r) (show k < wi by omega) hok2 hsg
                refine lv_aload_n hx hb dX2_takeRows_31 rfl (lv_at hl 0 rfl) ?_
                refine lv_iload_n hx hb dX2_takeRows_32 rfl (lv_at hl 1 rfl) ?_
                refine lv_aload_n hx hb dX2_takeRows_33 rfl (lv_at hl 0 rfl) ?_
                refine x_get (D := (dC, dI)) (ci := 2) (v := .int (nI wi)) (C := RX2) (T := TX2) (N := 9) hx hb hts hinX2 hown hK hP 0 rfl rfl 3 (Nat.le_of_ble_eq_true rfl) hf56 rfl rfl dX2_takeRows_34 ?_
                refine x_imul hx hb dX2_takeRows_37 ?_
                refine lv_iload_n hx hb dX2_takeRows_38 rfl (lv_at hl 2 rfl) ?_
                refine x_iadd hx hb dX2_takeRows_39 ?_
                refine rwW_i (As := [.int (nI ((r * wi) + k))]) (rest := []) (wn := wT cI t (nI hi) (nI wi) len (tcP E len (if k = 0 then (tR E len wi S D (r * wi + k)).2.1.1 + 1 else (tR E len wi S D (r * wi + k)).2.1.1) ((tR E len wi S D (r * wi + k)).2.1.2.1) ((tR E len wi S D (r * wi + k)).2.1.2.2)) (tcB E len (if k = 0 then (tR E len wi S D (r * wi + k)).2.1.1 + 1 else (tR E len wi S D (r * wi + k)).2.1.1) ((tR E len wi S D (r * wi + k)).2.1.2.1)) (tcT E len (if k = 0 then (tR E len wi S D (r * wi + k)).2.1.1 + 1 else (tR E len wi S D (r * wi + k)).2.1.1) ((tR E len wi S D (r * wi + k)).2.1.2.2)) (upd ((tR E len wi S D (r * wi + k)).2.2.1) ((r * wi) + k) (cdT E len (if k = 0 then (tR E len wi S D (r * wi + k)).2.1.1 + 1 else (tR E len wi S D (r * wi + k)).2.1.1))) (tcD E len (if k = 0 then (tR E len wi S D (r * wi + k)).2.1.1 + 1 else (tR E len wi S D (r * wi + k)).2.1.1) ((tR E len wi S D (r * wi + k)).2.1.2.2) ((r * wi) + k) ((tR E len wi S D (r * wi + k)).2.2.2)) E) ⟨hx, hb, hml, hown, hts⟩ (kX2_takeCell l dC dI cI t (nI hi) (nI wi) len (if k = 0 then (tR E len wi S D (r * wi + k)).2.1.1 + 1 else (tR E len wi S D (r * wi + k)).2.1.1) ((tR E len wi S D (r * wi + k)).2.1.2.1) ((tR E len wi S D (r * wi + k)).2.1.2.2) ((tR E len wi S D (r * wi + k)).2.2.1) ((tR E len wi S D (r * wi + k)).2.2.2) E ((r * wi) + k) _ hlen (by split <;> omega) (by omega) (by omega) (by omega)) (cwV 1 hts gX2_takeRows_X2_takeCell rfl rfl rfl hdX2_takeCell ⟨Nat.le_trans (Nat.le_of_ble_eq_true rfl) hRf, Nat.le_trans (Nat.le_of_ble_eq_true rfl) hRl⟩) (va_recv hK hP (ci := 2) (q0 := 0) rfl rfl) hK rfl hl.1 rfl (Nat.le_of_ble_eq_true rfl) dX2_takeRows_40 ⟨Nat.zero_le _, Nat.zero_le _⟩ hP hD hS hA [0, 1, 2, 3] [] [0, 1, 2, 3] rfl rfl (by decide) (by decide) (by decide) rfl rfl (fun H locs hP hS => ?_)
                have hD : va_D Z (wT cI t (nI hi) (nI wi) len (tcP E len (if k = 0 then (tR E len wi S D (r * wi + k)).2.1.1 + 1 else (tR E len wi S D (r * wi + k)).2.1.1) ((tR E len wi S D (r * wi + k)).2.1.2.1) ((tR E len wi S D (r * wi + k)).2.1.2.2)) (tcB E len (if k = 0 then (tR E len wi S D (r * wi + k)).2.1.1 + 1 else (tR E len wi S D (r * wi + k)).2.1.1) ((tR E len wi S D (r * wi + k)).2.1.2.1)) (tcT E len (if k = 0 then (tR E len wi S D (r * wi + k)).2.1.1 + 1 else (tR E len wi S D (r * wi + k)).2.1.1) ((tR E len wi S D (r * wi + k)).2.1.2.2)) (upd ((tR E len wi S D (r * wi + k)).2.2.1) ((r * wi) + k) (cdT E len (if k = 0 then (tR E len wi S D (r * wi + k)).2.1.1 + 1 else (tR E len wi S D (r * wi + k)).2.1.1))) (tcD E len (if k = 0 then (tR E len wi S D (r * wi + k)).2.1.1 + 1 else (tR E len wi S D (r * wi + k)).2.1.1) ((tR E len wi S D (r * wi + k)).2.1.2.2) ((r * wi) + k) ((tR E len wi S D (r * wi + k)).2.2.2)) E) := hD.same rfl
                refine x_ifb_ne (tgt := 48) hx hb dX2_takeRows_43 (by decide) (fun c43 => ?_) (fun c43 => ?_)
                · skip
                  have hP : va_P (dC, dI) vwCl (wT cI t (nI hi) (nI wi) len (if k + 1 = 0 then (tR E len wi S D (r * wi + (k + 1))).2.1.1 + 1 else (tR E len wi S D (r * wi + (k + 1))).2.1.1) ((tR E len wi S D (r * wi + (k + 1))).2.1.2.1) ((tR E len wi S D (r * wi + (k + 1))).2.1.2.2) ((tR E len wi S D (r * wi + (k + 1))).2.2.1) ((tR E len wi S D (r * wi + (k + 1))).2.2.2) E) H := by rw [show r * wi + (k + 1) = r * wi + k + 1 from rfl, hgo, if_neg (Nat.succ_ne_zero k)]; exact hP
                  have hD : va_D Z (wT cI t (nI hi) (nI wi) len (if k + 1 = 0 then (tR E len wi S D (r * wi + (k + 1))).2.1.1 + 1 else (tR E len wi S D (r * wi + (k + 1))).2.1.1) ((tR E len wi S D (r * wi + (k + 1))).2.1.2.1) ((tR E len wi S D (r * wi + (k + 1))).2.1.2.2) ((tR E len wi S D (r * wi + (k + 1))).2.2.1) ((tR E len wi S D (r * wi + (k + 1))).2.2.2) E) := hD.same rfl
                  have hok3 : (tR E len wi S D (r * wi + (k + 1))).1 = true := by rw [show r * wi + (k + 1) = r * wi + k + 1 from rfl, hgo]; exact c43
                  refine lv_iinc (v := (nI (k + 1))) (lv' := [(2, .int (nI (k + 1))), (0, .ref (t 0)), (1, .int (nI r))]) hx hb dX2_takeRows_48 hl (k := 2) rfl (nI_add _ _) (by decide) rfl (fun ls hl => ?_)
                  refine lv_goto (tgt := 23) hx hb dX2_takeRows_51 (by decide) ?_
                  exact ih23 (k + 1) (by omega) hok3 (fun q => absurd q (Nat.succ_ne_zero k)) (by omega) _ _ hP hS _ (lv_sub hl [1, 2, 0] rfl)
                · skip
                  have hst2 : tR E len wi S D (hi * wi) = (tR E len wi S D (r * wi + k + 1)) := tR_stop' (by rw [hgo]; exact c43) hm
                  refine lv_iconst (v := nI 0) hx hb dX2_takeRows_46 rfl ?_
                  exact hend _ _ _ _ _ _ (n0_b (by rw [hst2, hgo]; exact c43)) (by rw [hst2, hgo]) hP hS dX2_takeRows_47
          exact L23 _ 0 (by omega) hok (fun _ => c16) (Nat.lt_succ_self _) _ _ (by rw [if_pos rfl]; exact hP) hS _ (lv_sub hl [1, 2, 0] rfl)
        · skip
          have hP : va_P (dC, dI) vwCl (wT cI t (nI hi) (nI wi) len ((tR E len wi S D (r * wi)).2.1.1) ((tR E len wi S D (r * wi)).2.1.2.1) ((tR E len wi S D (r * wi)).2.1.2.2) ((tR E len wi S D (r * wi)).2.2.1) ((tR E len wi S D (r * wi)).2.2.2) E) H := by rw [if_neg (by rw [c16]; decide)] at hP; exact hP
          have hD : va_D Z (wT cI t (nI hi) (nI wi) len ((tR E len wi S D (r * wi)).2.1.1) ((tR E len wi S D (r * wi)).2.1.2.1) ((tR E len wi S D (r * wi)).2.1.2.2) ((tR E len wi S D (r * wi)).2.2.1) ((tR E len wi S D (r * wi)).2.2.2) E) := hD.same rfl
          have hs1 := tR_semi hwi hok c16
          have hst : tR E len wi S D (hi * wi) = (false, (tR E len wi S D (r * wi)).2) := by rw [tR_stop' (m := r * wi + 1) (by rw [hs1]) (by omega), hs1]
          refine lv_iconst (v := nI 0) hx hb dX2_takeRows_19 rfl ?_
          exact hend _ _ _ _ _ _ (n0_b (by rw [hst])) (by rw [hst]) hP hS dX2_takeRows_20
  exact L2 _ 0 (by omega) (by rw [Nat.zero_mul]; rfl) (Nat.lt_succ_self _) _ _ (by rw [Nat.zero_mul]; exact hP) hS _ (lv_sub hl [1, 0] rfl)
theorem hdX2_takeRows : yX2_takeRows.cls = RX2 ∧ yX2_takeRows.cls ≠ "java/lang/invoke/MethodHandle" ∧ yX2_takeRows.cls ≠ "java/lang/invoke/VarHandle" ∧ (parseMethodDescriptor yX2_takeRows.desc).map (fun d => d.parameters.length) = some 0 := by decide +kernel
set_option maxRecDepth 20000 in
theorem ggX2_read_X2_takeSign : GoodIn wsX2_read wsX2_takeSign := goodIn_r _ [17, 8, 18, 19, 20, 16, 21, 7, 2, 48, 49, 50, 51, 52, 53, 54, 55, 56] (by decide +kernel) (by decide +kernel)
set_option maxRecDepth 20000 in
theorem gX2_read_X2_takeSign : GoodIn wsX2_read (wsV RX2 45 RX2 yX2_takeSign wsX2_takeSign) := goodIn_app (goodIn_of _ (by decide +kernel)) ggX2_read_X2_takeSign
set_option maxRecDepth 20000 in
theorem ggX2_read_X2_takeDigit : GoodIn wsX2_read wsX2_takeDigit := goodIn_r _ [25, 8, 18, 19, 20, 16, 21, 7, 2, 48, 49, 50, 51, 52, 53, 54, 55, 56] (by decide +kernel) (by decide +kernel)
set_option maxRecDepth 20000 in
theorem gX2_read_X2_takeDigit : GoodIn wsX2_read (wsV RX2 49 RX2 yX2_takeDigit wsX2_takeDigit) := goodIn_app (goodIn_of _ (by decide +kernel)) ggX2_read_X2_takeDigit
set_option maxRecDepth 20000 in
theorem ggX2_read_X2_takeRows : GoodIn wsX2_read wsX2_takeRows := goodIn_r _ [29, 11, 12, 13, 14, 15, 16, 17, 8, 18, 19, 20, 21, 7, 2, 30, 31, 32, 33, 34, 35, 36, 37, 38, 9, 39, 40, 41, 42, 10, 43, 22, 23, 24, 25, 48, 49, 50, 51, 52, 53, 54, 55, 56] (by decide +kernel) (by decide +kernel)
set_option maxRecDepth 20000 in
theorem gX2_read_X2_takeRows : GoodIn wsX2_read (wsV RX2 59 RX2 yX2_takeRows wsX2_takeRows) := goodIn_app (goodIn_of _ (by decide +kernel)) ggX2_read_X2_takeRows
set_option maxHeartbeats 4000000 in
set_option maxRecDepth 100000 in
theorem kX2_read (l : Launch) (dC : Nat → ClassId) (dI : Nat → Nat → Nat) (cI : ClassId) (t : Nat → Nat) (hi wi : Int32) (len pl be th : Nat) (S D E : Nat → Int32) (s r : Nat) (h : Bool) (la le : Nat) (C EE : Nat → Int32) (i n : Nat) (sz : Nat) (hin : i + n ≤ 100) (hEE : va_cpy C E i 0 n = EE) : Met l yX2_read wsX2_read ({ frames := 5, cells := 0, slots := 0, locals := 108 }) (rwP [.ref (t 0), .ref s, .int (nI i), .int (nI n)] sz (dC, dI) [(cI, .int)] (wT cI t hi wi len pl be th S D E ++ wOne cI s r h la le C)) (rwQi (rdV EE n S D) (dC, dI) (wT cI t hi wi len pl be th S D E ++ wOne cI s r h la le C) (wTd cI t (rdX EE n S D hi wi) ++ wOne cI s r h la le C) sz) 0 0 (va_A (wT cI t hi wi len pl be th S D E ++ wOne cI s r h la le C) sz) := by
  refine rw_met_i (by decide) rfl (Nat.le_of_ble_eq_true rfl) ?_
  intro pp ee ss mm aa bb me cd RR QQ Z hx hb hml hown hts hRf hRl hP hK hD hA hS hend ls hl
  have hown : ss.vm.findClass RX2 = some mm.cls := hown
  have hRf : 5 ≤ RR.frames := hRf
  have hRl : 108 ≤ RR.locals := hRl
  have hl : lv_has ls 5 [(0, .ref (t 0)), (1, .ref s), (2, .int (nI i)), (3, .int (nI n))] := hl
  have hf21 := hts (.fieldLink RX2 21 "StatueSquare$Sheet" "row" "[I") (List.mem_of_getElem? (i := 1) rfl)
  have hinX1 : ∀ w ∈ u_ws RX1 TX1 4, w ∈ wsX2_read := fun _ h => List.mem_cons_of_mem _ (List.mem_append_left _ (List.mem_append_right _ h))
  have hf18 := hts (.fieldLink RX2 18 "StatueSquare$TextReader" "codes" "[I") (List.mem_of_getElem? (i := 2) rfl)
  have hinX2 : ∀ w ∈ u_ws RX2 TX2 9, w ∈ wsX2_read := fun _ h => List.mem_cons_of_mem _ (List.mem_append_right _ h)
  have hl26 := hts (.methodLink RX2 26 arraycopyName) (List.mem_of_getElem? (i := 3) rfl)
  have hnat := hts (.native arraycopyName) (List.mem_of_getElem? (i := 4) rfl)
  have hsta := hts (.static arraycopyName) (List.mem_of_getElem? (i := 5) rfl)
  have hiSys := hts (.initialized "java/lang/System") (List.mem_of_getElem? (i := 6) rfl)
  have hf32 := hts (.fieldLink RX2 32 "StatueSquare$TextReader" "length" "I") (List.mem_of_getElem? (i := 7) rfl)
  have hf36 := hts (.fieldLink RX2 36 "StatueSquare$TextReader" "place" "I") (List.mem_of_getElem? (i := 8) rfl)
  have hf39 := hts (.fieldLink RX2 39 "StatueSquare$TextReader" "benches" "I") (List.mem_of_getElem? (i := 9) rfl)
  have hf42 := hts (.fieldLink RX2 42 "StatueSquare$TextReader" "things" "I") (List.mem_of_getElem? (i := 10) rfl)
  have hf53 := hts (.fieldLink RX2 53 "StatueSquare$TextReader" "high" "I") (List.mem_of_getElem? (i := 11) rfl)
  have hf56 := hts (.fieldLink RX2 56 "StatueSquare$TextReader" "wide" "I") (List.mem_of_getElem? (i := 12) rfl)
  refine lv_aload_n hx hb dX2_read_0 rfl (lv_at hl 1 rfl) ?_
  refine x_get (D := (dC, dI)) (ci := 1) (v := .ref r) (C := RX1) (T := TX1) (N := 4) hx hb hts hinX1 hown hK hP 4 rfl rfl 0 (Nat.le_of_ble_eq_true rfl) hf21 rfl rfl dX2_read_1 ?_
  refine lv_iload_n hx hb dX2_read_4 rfl (lv_at hl 2 rfl) ?_
  refine lv_aload_n hx hb dX2_read_5 rfl (lv_at hl 0 rfl) ?_
  refine x_get (D := (dC, dI)) (ci := 2) (v := .ref (t 3)) (C := RX2) (T := TX2) (N := 9) hx hb hts hinX2 hown hK hP 0 rfl rfl 4 (Nat.le_of_ble_eq_true rfl) hf18 rfl rfl dX2_read_6 ?_
  refine lv_iconst (v := nI 0) hx hb dX2_read_9 rfl ?_
  refine lv_iload_n hx hb dX2_read_10 rfl (lv_at hl 3 rfl) ?_
  refine x_copy (wn := wT cI t hi wi len pl be th S D EE ++ wOne cI s r h la le C) hx hb (hml.trans hl.1.symm) hown hl26 hnat hsta hiSys hK hP hD hS 5 3 0 rfl rfl rfl (by omega) (by omega) (by decide) (by decide) (Nat.le_trans (Nat.le_of_ble_eq_true rfl) hRf) (Nat.le_trans (Nat.le_of_ble_eq_true rfl) hRl) (by rw [← hEE]; rfl) dX2_read_11 (fun H locs hP hS => ?_)
  have hD : va_D Z (wT cI t hi wi len pl be th S D EE ++ wOne cI s r h la le C) := hD.same rfl
  refine lv_aload_n hx hb dX2_read_14 rfl (lv_at hl 0 rfl) ?_
  refine lv_iload_n hx hb dX2_read_15 rfl (lv_at hl 3 rfl) ?_
  refine x_put (D := (dC, dI)) (ci := 2) (v := .int (nI n)) (C := RX2) (T := TX2) (N := 9) (wn := wT cI t hi wi n pl be th S D EE ++ wOne cI s r h la le C) hx hb hts hinX2 tyX2 tyX2_ok nmX2 hown hK hP hD hS 0 rfl rfl 5 (Nat.le_of_ble_eq_true rfl) hf32 rfl rfl rfl rfl (Nat.le_of_ble_eq_true rfl) rfl dX2_read_16 (fun H locs hP hS => ?_)
  have hD : va_D Z (wT cI t hi wi n pl be th S D EE ++ wOne cI s r h la le C) := hD.same rfl
  refine lv_aload_n hx hb dX2_read_19 rfl (lv_at hl 0 rfl) ?_
  refine lv_iconst (v := nI 0) hx hb dX2_read_20 rfl ?_
  refine x_put (D := (dC, dI)) (ci := 2) (v := .int (nI 0)) (C := RX2) (T := TX2) (N := 9) (wn := wT cI t hi wi n 0 be th S D EE ++ wOne cI s r h la le C) hx hb hts hinX2 tyX2 tyX2_ok nmX2 hown hK hP hD hS 0 rfl rfl 6 (Nat.le_of_ble_eq_true rfl) hf36 rfl rfl rfl rfl (Nat.le_of_ble_eq_true rfl) rfl dX2_read_21 (fun H locs hP hS => ?_)
  have hD : va_D Z (wT cI t hi wi n 0 be th S D EE ++ wOne cI s r h la le C) := hD.same rfl
  refine lv_aload_n hx hb dX2_read_24 rfl (lv_at hl 0 rfl) ?_
  refine lv_iconst (v := nI 0) hx hb dX2_read_25 rfl ?_
  refine x_put (D := (dC, dI)) (ci := 2) (v := .int (nI 0)) (C := RX2) (T := TX2) (N := 9) (wn := wT cI t hi wi n 0 0 th S D EE ++ wOne cI s r h la le C) hx hb hts hinX2 tyX2 tyX2_ok nmX2 hown hK hP hD hS 0 rfl rfl 7 (Nat.le_of_ble_eq_true rfl) hf39 rfl rfl rfl rfl (Nat.le_of_ble_eq_true rfl) rfl dX2_read_26 (fun H locs hP hS => ?_)
  have hD : va_D Z (wT cI t hi wi n 0 0 th S D EE ++ wOne cI s r h la le C) := hD.same rfl
  refine lv_aload_n hx hb dX2_read_29 rfl (lv_at hl 0 rfl) ?_
  refine lv_iconst (v := nI 0) hx hb dX2_read_30 rfl ?_
  refine x_put (D := (dC, dI)) (ci := 2) (v := .int (nI 0)) (C := RX2) (T := TX2) (N := 9) (wn := wT cI t hi wi n 0 0 0 S D EE ++ wOne cI s r h la le C) hx hb hts hinX2 tyX2 tyX2_ok nmX2 hown hK hP hD hS 0 rfl rfl 8 (Nat.le_of_ble_eq_true rfl) hf42 rfl rfl rfl rfl (Nat.le_of_ble_eq_true rfl) rfl dX2_read_31 (fun H locs hP hS => ?_)
  have hD : va_D Z (wT cI t hi wi n 0 0 0 S D EE ++ wOne cI s r h la le C) := hD.same rfl
  refine lv_aload_n hx hb dX2_read_34 rfl (lv_at hl 0 rfl) ?_
  refine lv_bipush (v := nI 113) hx hb dX2_read_35 rfl ?_
  refine rwW_i (As := [.int (nI 113)]) (rest := []) (wn := wT cI t hi wi n (if sgB EE n 0 113 = true then 0 + 1 else 0) 0 0 S D EE ++ wOne cI s r h la le C) ⟨hx, hb, hml, hown, hts⟩ (kX2_takeSign l dC dI cI t hi wi n 0 0 0 S D EE 113 _ (by omega) (by omega) (by omega)) (cwV 1 hts gX2_read_X2_takeSign rfl rfl rfl hdX2_takeSign ⟨Nat.le_trans (Nat.le_of_ble_eq_true rfl) hRf, Nat.le_trans (Nat.le_of_ble_eq_true rfl) hRl⟩) (va_recv hK hP (ci := 2) (q0 := 0) rfl rfl) hK rfl hl.1 rfl (Nat.le_of_ble_eq_true rfl) dX2_read_37 ⟨Nat.zero_le _, Nat.zero_le _⟩ hP hD hS hA [0, 1, 2, 3] [4, 5] [2, 3, 4, 5, 0, 1] rfl rfl (by decide) (by decide) (by decide) rfl rfl (fun H locs hP hS => ?_)
  have hD : va_D Z (wT cI t hi wi n (if sgB EE n 0 113 = true then 0 + 1 else 0) 0 0 S D EE ++ wOne cI s r h la le C) := hD.same rfl
  refine x_ifb_ne (tgt := 48) hx hb dX2_read_40 (by decide) (fun c40 => ?_) (fun c40 => ?_)
  · skip
    have hP : va_P (dC, dI) vwCl (wT cI t hi wi n 1 0 0 S D EE ++ wOne cI s r h la le C) H := by rw [if_pos c40] at hP; exact hP
    have hD : va_D Z (wT cI t hi wi n 1 0 0 S D EE ++ wOne cI s r h la le C) := hD.same rfl
    refine lv_aload_n hx hb dX2_read_48 rfl (lv_at hl 0 rfl) ?_
    refine lv_aload_n hx hb dX2_read_49 rfl (lv_at hl 0 rfl) ?_
    refine lv_iconst (v := nI 1) hx hb dX2_read_50 rfl ?_
    refine lv_bipush (v := nI 6) hx hb dX2_read_51 rfl ?_
    refine rwW_i (As := [.int (nI 1), .int (nI 6)]) (rest := [.ref (t 0)]) (wn := wT cI t hi wi n (if dgN EE n 1 1 6 = 0 then 1 else 1 + 1) 0 0 S D EE ++ wOne cI s r h la le C) ⟨hx, hb, hml, hown, hts⟩ (kX2_takeDigit l dC dI cI t hi wi n 1 0 0 S D EE 1 6 _ (by omega) (by omega) (by omega) (by omega) (by omega)) (cwV 2 hts gX2_read_X2_takeDigit rfl rfl rfl hdX2_takeDigit ⟨Nat.le_trans (Nat.le_of_ble_eq_true rfl) hRf, Nat.le_trans (Nat.le_of_ble_eq_true rfl) hRl⟩) (va_recv hK hP (ci := 2) (q0 := 0) rfl rfl) hK rfl hl.1 rfl (Nat.le_of_ble_eq_true rfl) dX2_read_53 ⟨Nat.zero_le _, Nat.zero_le _⟩ hP hD hS hA [0, 1, 2, 3] [4, 5] [2, 3, 4, 5, 0, 1] rfl rfl (by decide) (by decide) (by decide) rfl rfl (fun H locs hP hS => ?_)
    have hD : va_D Z (wT cI t hi wi n (if dgN EE n 1 1 6 = 0 then 1 else 1 + 1) 0 0 S D EE ++ wOne cI s r h la le C) := hD.same rfl
    refine x_put (D := (dC, dI)) (ci := 2) (v := .int (dgI (dgN EE n 1 1 6))) (C := RX2) (T := TX2) (N := 9) (wn := wT cI t (dgI (dgN EE n 1 1 6)) wi n (if dgN EE n 1 1 6 = 0 then 1 else 1 + 1) 0 0 S D EE ++ wOne cI s r h la le C) hx hb hts hinX2 tyX2 tyX2_ok nmX2 hown hK hP hD hS 0 rfl rfl 2 (Nat.le_of_ble_eq_true rfl) hf53 rfl rfl rfl rfl (Nat.le_of_ble_eq_true rfl) rfl dX2_read_56 (fun H locs hP hS => ?_)
    have hD : va_D Z (wT cI t (dgI (dgN EE n 1 1 6)) wi n (if dgN EE n 1 1 6 = 0 then 1 else 1 + 1) 0 0 S D EE ++ wOne cI s r h la le C) := hD.same rfl
    refine lv_aload_n hx hb dX2_read_59 rfl (lv_at hl 0 rfl) ?_
    refine x_get (D := (dC, dI)) (ci := 2) (v := .int (dgI (dgN EE n 1 1 6))) (C := RX2) (T := TX2) (N := 9) hx hb hts hinX2 hown hK hP 0 rfl rfl 2 (Nat.le_of_ble_eq_true rfl) hf53 rfl rfl dX2_read_60 ?_
    refine lv_bipush (v := -9) hx hb dX2_read_63 rfl ?_
    refine lv_icmp_ne (tgt := 73) hx hb dX2_read_65 (by decide) (fun c65 => ?_) (fun c65 => ?_)
    · skip
      have hd1 : ¬ dgN EE n 1 1 6 = 0 := fun q => c65 ((dI_eq (Nat.lt_of_le_of_lt (dgN_le (by decide)) (by decide))).mpr q)
      have hd1l := dgN_le (E := EE) (len := n) (p := 1) (lo := 1) (hi := 6) (by decide)
      have hP : va_P (dC, dI) vwCl (wT cI t (nI (dgN EE n 1 1 6)) wi n 2 0 0 S D EE ++ wOne cI s r h la le C) H := by rw [dI_nz hd1, if_neg hd1] at hP; exact hP
      have hD : va_D Z (wT cI t (nI (dgN EE n 1 1 6)) wi n 2 0 0 S D EE ++ wOne cI s r h la le C) := hD.same rfl
      refine lv_aload_n hx hb dX2_read_73 rfl (lv_at hl 0 rfl) ?_
      refine lv_aload_n hx hb dX2_read_74 rfl (lv_at hl 0 rfl) ?_
      refine lv_iconst (v := nI 2) hx hb dX2_read_75 rfl ?_
      refine lv_bipush (v := nI 7) hx hb dX2_read_76 rfl ?_
      refine rwW_i (As := [.int (nI 2), .int (nI 7)]) (rest := [.ref (t 0)]) (wn := wT cI t (nI (dgN EE n 1 1 6)) wi n (if dgN EE n 2 2 7 = 0 then 2 else 2 + 1) 0 0 S D EE ++ wOne cI s r h la le C) ⟨hx, hb, hml, hown, hts⟩ (kX2_takeDigit l dC dI cI t (nI (dgN EE n 1 1 6)) wi n 2 0 0 S D EE 2 7 _ (by omega) (by omega) (by omega) (by omega) (by omega)) (cwV 2 hts gX2_read_X2_takeDigit rfl rfl rfl hdX2_takeDigit ⟨Nat.le_trans (Nat.le_of_ble_eq_true rfl) hRf, Nat.le_trans (Nat.le_of_ble_eq_true rfl) hRl⟩) (va_recv hK hP (ci := 2) (q0 := 0) rfl rfl) hK rfl hl.1 rfl (Nat.le_of_ble_eq_true rfl) dX2_read_78 ⟨Nat.zero_le _, Nat.zero_le _⟩ hP hD hS hA [0, 1, 2, 3] [4, 5] [2, 3, 4, 5, 0, 1] rfl rfl (by decide) (by decide) (by decide) rfl rfl (fun H locs hP hS => ?_)
      have hD : va_D Z (wT cI t (nI (dgN EE n 1 1 6)) wi n (if dgN EE n 2 2 7 = 0 then 2 else 2 + 1) 0 0 S D EE ++ wOne cI s r h la le C) := hD.same rfl
      refine x_put (D := (dC, dI)) (ci := 2) (v := .int (dgI (dgN EE n 2 2 7))) (C := RX2) (T := TX2) (N := 9) (wn := wT cI t (nI (dgN EE n 1 1 6)) (dgI (dgN EE n 2 2 7)) n (if dgN EE n 2 2 7 = 0 then 2 else 2 + 1) 0 0 S D EE ++ wOne cI s r h la le C) hx hb hts hinX2 tyX2 tyX2_ok nmX2 hown hK hP hD hS 0 rfl rfl 3 (Nat.le_of_ble_eq_true rfl) hf56 rfl rfl rfl rfl (Nat.le_of_ble_eq_true rfl) rfl dX2_read_81 (fun H locs hP hS => ?_)
      have hD : va_D Z (wT cI t (nI (dgN EE n 1 1 6)) (dgI (dgN EE n 2 2 7)) n (if dgN EE n 2 2 7 = 0 then 2 else 2 + 1) 0 0 S D EE ++ wOne cI s r h la le C) := hD.same rfl
      refine lv_aload_n hx hb dX2_read_84 rfl (lv_at hl 0 rfl) ?_
      refine x_get (D := (dC, dI)) (ci := 2) (v := .int (dgI (dgN EE n 2 2 7))) (C := RX2) (T := TX2) (N := 9) hx hb hts hinX2 hown hK hP 0 rfl rfl 3 (Nat.le_of_ble_eq_true rfl) hf56 rfl rfl dX2_read_85 ?_
      refine lv_bipush (v := -9) hx hb dX2_read_88 rfl ?_
      refine lv_icmp_ne (tgt := 98) hx hb dX2_read_90 (by decide) (fun c90 => ?_) (fun c90 => ?_)
      · skip
        have hd2 : ¬ dgN EE n 2 2 7 = 0 := fun q => c90 ((dI_eq (Nat.lt_of_le_of_lt (dgN_le (by decide)) (by decide))).mpr q)
        have hd2l := dgN_le (E := EE) (len := n) (p := 2) (lo := 2) (hi := 7) (by decide)
        have hP : va_P (dC, dI) vwCl (wT cI t (nI (dgN EE n 1 1 6)) (nI (dgN EE n 2 2 7)) n 3 0 0 S D EE ++ wOne cI s r h la le C) H := by rw [dI_nz hd2, if_neg hd2] at hP; exact hP
        have hD : va_D Z (wT cI t (nI (dgN EE n 1 1 6)) (nI (dgN EE n 2 2 7)) n 3 0 0 S D EE ++ wOne cI s r h la le C) := hD.same rfl
        refine lv_aload_n hx hb dX2_read_98 rfl (lv_at hl 0 rfl) ?_
        refine rwW_i (As := []) (rest := []) (wn := wT cI t (nI (dgN EE n 1 1 6)) (nI (dgN EE n 2 2 7)) n ((tR EE n (dgN EE n 2 2 7) S D ((dgN EE n 1 1 6) * (dgN EE n 2 2 7))).2.1.1) ((tR EE n (dgN EE n 2 2 7) S D ((dgN EE n 1 1 6) * (dgN EE n 2 2 7))).2.1.2.1) ((tR EE n (dgN EE n 2 2 7) S D ((dgN EE n 1 1 6) * (dgN EE n 2 2 7))).2.1.2.2) ((tR EE n (dgN EE n 2 2 7) S D ((dgN EE n 1 1 6) * (dgN EE n 2 2 7))).2.2.1) ((tR EE n (dgN EE n 2 2 7) S D ((dgN EE n 1 1 6) * (dgN EE n 2 2 7))).2.2.2) EE ++ wOne cI s r h la le C) ⟨hx, hb, hml, hown, hts⟩ (kX2_takeRows l dC dI cI t (dgN EE n 1 1 6) (dgN EE n 2 2 7) n S D EE _ (by omega) hd1l (by omega) hd2l) (cwV 0 hts gX2_read_X2_takeRows rfl rfl rfl hdX2_takeRows ⟨Nat.le_trans (Nat.le_of_ble_eq_true rfl) hRf, Nat.le_trans (Nat.le_of_ble_eq_true rfl) hRl⟩) (va_recv hK hP (ci := 2) (q0 := 0) rfl rfl) hK rfl hl.1 rfl (Nat.le_of_ble_eq_true rfl) dX2_read_99 ⟨Nat.zero_le _, Nat.zero_le _⟩ hP hD hS hA [0, 1, 2, 3] [4, 5] [2, 3, 4, 5, 0, 1] rfl rfl (by decide) (by decide) (by decide) rfl rfl (fun H locs hP hS => ?_)
        have hD : va_D Z (wT cI t (nI (dgN EE n 1 1 6)) (nI (dgN EE n 2 2 7)) n ((tR EE n (dgN EE n 2 2 7) S D ((dgN EE n 1 1 6) * (dgN EE n 2 2 7))).2.1.1) ((tR EE n (dgN EE n 2 2 7) S D ((dgN EE n 1 1 6) * (dgN EE n 2 2 7))).2.1.2.1) ((tR EE n (dgN EE n 2 2 7) S D ((dgN EE n 1 1 6) * (dgN EE n 2 2 7))).2.1.2.2) ((tR EE n (dgN EE n 2 2 7) S D ((dgN EE n 1 1 6) * (dgN EE n 2 2 7))).2.2.1) ((tR EE n (dgN EE n 2 2 7) S D ((dgN EE n 1 1 6) * (dgN EE n 2 2 7))).2.2.2) EE ++ wOne cI s r h la le C) := hD.same rfl
        refine lv_istore (lv' := [(4, .int (bI ((tR EE n (dgN EE n 2 2 7) S D ((dgN EE n 1 1 6) * (dgN EE n 2 2 7))).1))), (0, .ref (t 0)), (1, .ref s), (2, .int (nI i)), (3, .int (nI n))]) hx hb dX2_read_102 hl (by decide) rfl (fun ls hl => ?_)
        refine lv_iload hx hb dX2_read_104 (lv_at hl 0 rfl) ?_
        refine x_ifb_eq (tgt := 124) hx hb dX2_read_106 (by decide) (fun c106 => ?_) (fun c106 => ?_)
        · skip
          refine lv_aload_n hx hb dX2_read_124 rfl (lv_at hl 1 rfl) ?_
          refine x_get (D := (dC, dI)) (ci := 2) (v := .int (nI ((tR EE n (dgN EE n 2 2 7) S D ((dgN EE n 1 1 6) * (dgN EE n 2 2 7))).2.1.1))) (C := RX2) (T := TX2) (N := 9) hx hb hts hinX2 hown hK hP 0 rfl rfl 6 (Nat.le_of_ble_eq_true rfl) hf36 rfl rfl dX2_read_125 ?_
          exact hend _ _ _ _ _ _ (by rw [rdV, if_pos c40, if_neg hd1, if_neg hd2, if_neg (fun q => absurd q.1 (by rw [c106]; decide))]) (by rw [rdX, if_pos c40, if_neg hd1, if_neg hd2]; rfl) hP hS dX2_read_128
        · skip
          refine lv_aload_n hx hb dX2_read_109 rfl (lv_at hl 1 rfl) ?_
          refine x_get (D := (dC, dI)) (ci := 2) (v := .int (nI ((tR EE n (dgN EE n 2 2 7) S D ((dgN EE n 1 1 6) * (dgN EE n 2 2 7))).2.1.1))) (C := RX2) (T := TX2) (N := 9) hx hb hts hinX2 hown hK hP 0 rfl rfl 6 (Nat.le_of_ble_eq_true rfl) hf36 rfl rfl dX2_read_110 ?_
          refine lv_aload_n hx hb dX2_read_113 rfl (lv_at hl 1 rfl) ?_
          refine x_get (D := (dC, dI)) (ci := 2) (v := .int (nI n)) (C := RX2) (T := TX2) (N := 9) hx hb hts hinX2 hown hK hP 0 rfl rfl 5 (Nat.le_of_ble_eq_true rfl) hf32 rfl rfl dX2_read_114 ?_
          refine x_icmp_ne (tgt := 124) hx hb (by have := tR_cnt EE n (dgN EE n 2 2 7) S D ((dgN EE n 1 1 6) * (dgN EE n 2 2 7)); have h42 := Nat.mul_le_mul hd1l hd2l; omega) (by omega) dX2_read_117 (by decide) (fun c117 => ?_) (fun c117 => ?_)
          · skip
            refine lv_aload_n hx hb dX2_read_124 rfl (lv_at hl 1 rfl) ?_
            refine x_get (D := (dC, dI)) (ci := 2) (v := .int (nI ((tR EE n (dgN EE n 2 2 7) S D ((dgN EE n 1 1 6) * (dgN EE n 2 2 7))).2.1.1))) (C := RX2) (T := TX2) (N := 9) hx hb hts hinX2 hown hK hP 0 rfl rfl 6 (Nat.le_of_ble_eq_true rfl) hf36 rfl rfl dX2_read_125 ?_
            exact hend _ _ _ _ _ _ (by rw [rdV, if_pos c40, if_neg hd1, if_neg hd2, if_neg (fun q => c117 q.2)]) (by rw [rdX, if_pos c40, if_neg hd1, if_neg hd2]; rfl) hP hS dX2_read_128
          · skip
            refine lv_iconst (v := -1) hx hb dX2_read_120 rfl ?_
            refine lv_goto (tgt := 128) hx hb dX2_read_121 (by decide) ?_
            exact hend _ _ _ _ _ _ (by rw [rdV, if_pos c40, if_neg hd1, if_neg hd2, if_pos ⟨c106, c117⟩]) (by rw [rdX, if_pos c40, if_neg hd1, if_neg hd2]; rfl) hP hS dX2_read_128
      · skip
        have hd2 : dgN EE n 2 2 7 = 0 := (dI_eq (Nat.lt_of_le_of_lt (dgN_le (by decide)) (by decide))).mp c90
        have hP : va_P (dC, dI) vwCl (wT cI t (nI (dgN EE n 1 1 6)) (dgI (dgN EE n 2 2 7)) n 2 0 0 S D EE ++ wOne cI s r h la le C) H := by rw [if_pos hd2] at hP; exact hP
        have hD : va_D Z (wT cI t (nI (dgN EE n 1 1 6)) (dgI (dgN EE n 2 2 7)) n 2 0 0 S D EE ++ wOne cI s r h la le C) := hD.same rfl
        refine lv_aload_n hx hb dX2_read_93 rfl (lv_at hl 0 rfl) ?_
        refine x_get (D := (dC, dI)) (ci := 2) (v := .int (nI 2)) (C := RX2) (T := TX2) (N := 9) hx hb hts hinX2 hown hK hP 0 rfl rfl 6 (Nat.le_of_ble_eq_true rfl) hf36 rfl rfl dX2_read_94 ?_
        exact hend _ _ _ _ _ _ (by rw [rdV, if_pos c40, if_neg hd1, if_pos hd2]) (by rw [rdX, if_pos c40, if_neg hd1, if_pos hd2, dI_nz hd1]; rfl) hP hS dX2_read_97
    · skip
      have hd1 : dgN EE n 1 1 6 = 0 := (dI_eq (Nat.lt_of_le_of_lt (dgN_le (by decide)) (by decide))).mp c65
      have hP : va_P (dC, dI) vwCl (wT cI t (dgI (dgN EE n 1 1 6)) wi n 1 0 0 S D EE ++ wOne cI s r h la le C) H := by rw [if_pos hd1] at hP; exact hP
      have hD : va_D Z (wT cI t (dgI (dgN EE n 1 1 6)) wi n 1 0 0 S D EE ++ wOne cI s r h la le C) := hD.same rfl
      refine lv_aload_n hx hb dX2_read_68 rfl (lv_at hl 0 rfl) ?_
      refine x_get (D := (dC, dI)) (ci := 2) (v := .int (nI 1)) (C := RX2) (T := TX2) (N := 9) hx hb hts hinX2 hown hK hP 0 rfl rfl 6 (Nat.le_of_ble_eq_true rfl) hf36 rfl rfl dX2_read_69 ?_
      exact hend _ _ _ _ _ _ (by rw [rdV, if_pos c40, if_pos hd1]) (by rw [rdX, if_pos c40, if_pos hd1]; rfl) hP hS dX2_read_72
  · skip
    have hP : va_P (dC, dI) vwCl (wT cI t hi wi n 0 0 0 S D EE ++ wOne cI s r h la le C) H := by rw [if_neg (by rw [c40]; decide)] at hP; exact hP
    have hD : va_D Z (wT cI t hi wi n 0 0 0 S D EE ++ wOne cI s r h la le C) := hD.same rfl
    refine lv_aload_n hx hb dX2_read_43 rfl (lv_at hl 0 rfl) ?_
    refine x_get (D := (dC, dI)) (ci := 2) (v := .int (nI 0)) (C := RX2) (T := TX2) (N := 9) hx hb hts hinX2 hown hK hP 0 rfl rfl 6 (Nat.le_of_ble_eq_true rfl) hf36 rfl rfl dX2_read_44 ?_
    exact hend _ _ _ _ _ _ (by rw [rdV, if_neg (by rw [c40]; decide)]) (by rw [rdX, if_neg (by rw [c40]; decide)]; rfl) hP hS dX2_read_47
