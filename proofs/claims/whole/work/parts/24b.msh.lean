set_option maxRecDepth 20000 in
theorem ggX4_noSheet_X4_in : GoodIn wsX4_noSheet wsX4_in := goodIn_r _ [5] (by decide +kernel) (by decide +kernel)
set_option maxRecDepth 20000 in
theorem gX4_noSheet_X4_in : GoodIn wsX4_noSheet (va_wsS RX4 82 yX4_in wsX4_in) := goodIn_app (goodIn_of _ (by decide +kernel)) ggX4_noSheet_X4_in
set_option maxHeartbeats 4000000 in
set_option maxRecDepth 100000 in
theorem kX4_noSheet (l : Launch) (dC : Nat → ClassId) (dI : Nat → Nat → Nat) (k : Int32) (sz : Nat) : Met l yX4_noSheet wsX4_noSheet ({ frames := 1, cells := 0, slots := 0, locals := 25 }) (roP [.int k] sz (dC, dI) [] ([] : va_W)) (roQi (bI (!inB k 4)) sz) 0 0 (va_A [] sz) := by
  refine ro_met_z (by decide) rfl (Nat.le_of_ble_eq_true rfl) ?_
  intro pp ee ss mm aa bb me cd RR QQ Z hx hb hml hown hts hRf hRl hP hK hA hS hend ls hl
  have hown : ss.vm.findClass RX4 = some mm.cls := hown
  have hRf : 1 ≤ RR.frames := hRf
  have hRl : 25 ≤ RR.locals := hRl
  have hl : lv_has ls 1 [(0, .int k)] := hl
  have hk200 := hts (.constantLong RX4 200 (3)) (List.mem_of_getElem? (i := 1) rfl)
  refine lv_iload_n hx hb dX4_noSheet_0 rfl (lv_at hl 0 rfl) ?_
  refine lv_i2l hx hb dX4_noSheet_1 rfl ?_
  refine lv_lconst (v := 0) hx hb dX4_noSheet_2 rfl ?_
  refine lv_ldc2 hx hb hown hk200 dX4_noSheet_3 ?_
  refine roS_i (As := [.long k.toInt64, .long 0, .long 3]) (rest := []) ⟨hx, hb, hml, hown, hts⟩ (kX4_in l dC dI k.toInt64 0 3 _ ) (va_cwS 3 hts gX4_noSheet_X4_in rfl rfl rfl hdX4_in ⟨Nat.le_trans (Nat.le_of_ble_eq_true rfl) hRf, Nat.le_trans (Nat.le_of_ble_eq_true rfl) hRl⟩) hK hP rfl hl.1 rfl (Nat.le_of_ble_eq_true rfl) dX4_noSheet_6 ⟨Nat.zero_le _, Nat.zero_le _⟩ hP hS hA (fun H locs hP hS => ?_)
  refine x_top (y := bI (inB k 4)) (congrArg bI (inL_c (by omega) rfl)) ?_
  refine x_ifb_ne (tgt := 16) hx hb dX4_noSheet_9 (by decide) (fun c9 => ?_) (fun c9 => ?_)
  · skip
    refine lv_iconst (v := nI 0) hx hb dX4_noSheet_16 rfl ?_
    exact hend _ _ _ _ _ (n0_b (by rw [c9]; rfl)) hS dX4_noSheet_17
  · skip
    refine lv_iconst (v := nI 1) hx hb dX4_noSheet_12 rfl ?_
    refine lv_goto (tgt := 17) hx hb dX4_noSheet_13 (by decide) ?_
    exact hend _ _ _ _ _ (n1_b (by rw [c9]; rfl)) hS dX4_noSheet_17
set_option maxHeartbeats 4000000 in
set_option maxRecDepth 100000 in
theorem kX4_isBeyond (l : Launch) (dC : Nat → ClassId) (dI : Nat → Nat → Nat) (i : Int32) (n64 : Int64) (le : Nat) (sz : Nat) : Met l yX4_isBeyond wsX4_isBeyond ({ frames := 0, cells := 0, slots := 0, locals := 0 }) (roP [.int i, .long n64, .int (nI le)] sz (dC, dI) [] ([] : va_W)) (roQi (bI (!decide (¬ (i < 0 ∨ n64 < 0 ∨ (nI le).toInt64 < i.toInt64 + n64)))) sz) 0 0 (va_A [] sz) := by
  refine ro_met_z (by decide) rfl (Nat.le_of_ble_eq_true rfl) ?_
  intro pp ee ss mm aa bb me cd RR QQ Z hx hb hml hown hts hRf hRl hP hK hA hS hend ls hl
  have hown : ss.vm.findClass RX4 = some mm.cls := hown
  have hRf : 0 ≤ RR.frames := hRf
  have hRl : 0 ≤ RR.locals := hRl
  have hl : lv_has ls 4 [(0, .int i), (1, .long n64), (3, .int (nI le))] := hl
  refine lv_iload_n hx hb dX4_isBeyond_0 rfl (lv_at hl 0 rfl) ?_
  refine lv_if_lt (tgt := 20) hx hb dX4_isBeyond_1 (by decide) (fun c1 => ?_) (fun c1 => ?_)
  · skip
    refine lv_iconst (v := nI 1) hx hb dX4_isBeyond_20 rfl ?_
    refine lv_goto (tgt := 25) hx hb dX4_isBeyond_21 (by decide) ?_
    exact hend _ _ _ _ _ (n1_b (by rw [decide_eq_false (fun q => q (Or.inl c1))]; rfl)) hS dX4_isBeyond_25
  · skip
    refine lv_lload_n hx hb dX4_isBeyond_4 rfl (lv_at hl 1 rfl) ?_
    refine lv_lconst (v := 0) hx hb dX4_isBeyond_5 rfl ?_
    refine W.lcmp hx hb dX4_isBeyond_6 ?_
    refine lv_if_lt (tgt := 20) hx hb dX4_isBeyond_7 (by decide) (fun c7 => ?_) (fun c7 => ?_)
    · skip
      refine lv_iconst (v := nI 1) hx hb dX4_isBeyond_20 rfl ?_
      refine lv_goto (tgt := 25) hx hb dX4_isBeyond_21 (by decide) ?_
      exact hend _ _ _ _ _ (n1_b (by rw [decide_eq_false (fun q => q (Or.inr (Or.inl ((lg_cmp_lt _ _).mp c7))))]; rfl)) hS dX4_isBeyond_25
    · skip
      refine lv_iload_n hx hb dX4_isBeyond_10 rfl (lv_at hl 0 rfl) ?_
      refine lv_i2l hx hb dX4_isBeyond_11 rfl ?_
      refine lv_lload_n hx hb dX4_isBeyond_12 rfl (lv_at hl 1 rfl) ?_
      refine lv_ladd hx hb dX4_isBeyond_13 ?_
      refine lv_iload_n hx hb dX4_isBeyond_14 rfl (lv_at hl 2 rfl) ?_
      refine lv_i2l hx hb dX4_isBeyond_15 rfl ?_
      refine W.lcmp hx hb dX4_isBeyond_16 ?_
      refine lv_if_le (tgt := 24) hx hb dX4_isBeyond_17 (by decide) (fun c17 => ?_) (fun c17 => ?_)
      · skip
        refine lv_iconst (v := nI 0) hx hb dX4_isBeyond_24 rfl ?_
        exact hend _ _ _ _ _ (n0_b (by have hq : ¬ (i < 0 ∨ n64 < 0 ∨ (nI le).toInt64 < i.toInt64 + n64) := (fun q => q.elim c1 (fun q => q.elim (fun q => c7 ((lg_cmp_lt _ _).mpr q)) (fun q => absurd c17 (Int32.not_le.mpr ((lg_cmp_gt _ _).mpr q))))); rw [decide_eq_true hq]; rfl)) hS dX4_isBeyond_25
      · skip
        refine lv_iconst (v := nI 1) hx hb dX4_isBeyond_20 rfl ?_
        refine lv_goto (tgt := 25) hx hb dX4_isBeyond_21 (by decide) ?_
        exact hend _ _ _ _ _ (n1_b (by rw [decide_eq_false (fun q => q (Or.inr (Or.inr ((lg_cmp_gt _ _).mp (Int32.not_le.mp c17)))))]; rfl)) hS dX4_isBeyond_25
set_option maxRecDepth 20000 in
theorem ggX4_noCell__X4_in : GoodIn wsX4_noCell_ wsX4_in := goodIn_r _ [5] (by decide +kernel) (by decide +kernel)
set_option maxRecDepth 20000 in
theorem gX4_noCell__X4_in : GoodIn wsX4_noCell_ (va_wsS RX4 82 yX4_in wsX4_in) := goodIn_app (goodIn_of _ (by decide +kernel)) ggX4_noCell__X4_in
set_option maxHeartbeats 4000000 in
set_option maxRecDepth 100000 in
theorem kX4_noCell_ (l : Launch) (dC : Nat → ClassId) (dI : Nat → Nat → Nat) (cI cZ : ClassId) (q n : Nat → Nat) (mb : Int32) (f : Nat → Int32) (Y : Nat → Nat → Int32) (hs : Nat → Bool) (la le : Nat → Nat) (C : Nat → Nat → Int32) (hRS : RS hs la le C Y) (j : Nat) (i : Int32) (sz : Nat) (hj : j < 4) : Met l yX4_noCell_ wsX4_noCell_ ({ frames := 1, cells := 0, slots := 0, locals := 25 }) (roP [.ref (q 0), .int (nI j), .int i] sz (dC, dI) [(cI, .int), (cZ, .boolean)] (wM cI cZ q n mb f Y)) (roQi (nI (ncN hs le j i)) sz) 0 0 (va_A [] sz) := by
  refine ro_met_i (by decide) rfl (Nat.le_of_ble_eq_true rfl) ?_
  intro pp ee ss mm aa bb me cd RR QQ Z hx hb hml hown hts hRf hRl hP hK hA hS hend ls hl
  have hown : ss.vm.findClass RX4 = some mm.cls := hown
  have hRf : 1 ≤ RR.frames := hRf
  have hRl : 25 ≤ RR.locals := hRl
  have hl : lv_has ls 3 [(0, .ref (q 0)), (1, .int (nI j)), (2, .int i)] := hl
  have hB := (hRS j hj).2.2.2
  have hf51 := hts (.fieldLink RX4 51 "StatueSquareModel" "sheetSize" "[I") (List.mem_of_getElem? (i := 1) rfl)
  have hinX4 : ∀ w ∈ u_ws RX4 TX4 31, w ∈ wsX4_noCell_ := fun _ h => List.mem_cons_of_mem _ (List.mem_append_right _ h)
  refine lv_aload_n hx hb dX4_noCell__0 rfl (lv_at hl 0 rfl) ?_
  refine x_get (D := (dC, dI)) (ci := 4) (v := .ref (q 13)) (C := RX4) (T := TX4) (N := 31) hx hb hts hinX4 hown hK hP 0 rfl rfl 26 (Nat.le_of_ble_eq_true rfl) hf51 rfl rfl dX4_noCell__1 ?_
  refine lv_iload_n hx hb dX4_noCell__4 rfl (lv_at hl 1 rfl) ?_
  refine x_iald (v := (szI (hs j) (le j))) hx hb hK hP 13 0 rfl rfl (by omega) (by decide) (hRS _ (by omega)).1 dX4_noCell__5 ?_
  refine lv_if_ge (tgt := 13) hx hb dX4_noCell__6 (by decide) (fun c6 => ?_) (fun c6 => ?_)
  · skip
    have hh := szI_ge c6
    refine lv_iload_n hx hb dX4_noCell__13 rfl (lv_at hl 2 rfl) ?_
    refine lv_i2l hx hb dX4_noCell__14 rfl ?_
    refine lv_lconst (v := 0) hx hb dX4_noCell__15 rfl ?_
    refine lv_aload_n hx hb dX4_noCell__16 rfl (lv_at hl 0 rfl) ?_
    refine x_get (D := (dC, dI)) (ci := 4) (v := .ref (q 13)) (C := RX4) (T := TX4) (N := 31) hx hb hts hinX4 hown hK hP 0 rfl rfl 26 (Nat.le_of_ble_eq_true rfl) hf51 rfl rfl dX4_noCell__17 ?_
    refine lv_iload_n hx hb dX4_noCell__20 rfl (lv_at hl 1 rfl) ?_
    refine x_iald (v := (szI (hs j) (le j))) hx hb hK hP 13 0 rfl rfl (by omega) (by decide) (hRS _ (by omega)).1 dX4_noCell__21 ?_
    refine x_top (y := (nI (le j))) (szI_t hh) ?_
    refine lv_i2l hx hb dX4_noCell__22 rfl ?_
    refine lv_lconst (v := 1) hx hb dX4_noCell__23 rfl ?_
    refine lv_lsub hx hb dX4_noCell__24 ?_
    refine roS_i (As := [.long i.toInt64, .long 0, .long (((nI (le j)).toInt64) - 1)]) (rest := []) ⟨hx, hb, hml, hown, hts⟩ (kX4_in l dC dI i.toInt64 0 (((nI (le j)).toInt64) - 1) _ ) (va_cwS 3 hts gX4_noCell__X4_in rfl rfl rfl hdX4_in ⟨Nat.le_trans (Nat.le_of_ble_eq_true rfl) hRf, Nat.le_trans (Nat.le_of_ble_eq_true rfl) hRl⟩) (hK.sub [] rfl) (hP.sub [] rfl) rfl hl.1 rfl (Nat.le_of_ble_eq_true rfl) dX4_noCell__25 ⟨Nat.zero_le _, Nat.zero_le _⟩ hP hS hA (fun H locs hP hS => ?_)
    refine x_top (y := bI (inB i (le j))) (congrArg bI (inL_k (by omega))) ?_
    refine x_ifb_eq (tgt := 35) hx hb dX4_noCell__28 (by decide) (fun c28 => ?_) (fun c28 => ?_)
    · skip
      refine lv_iconst (v := nI 3) hx hb dX4_noCell__35 rfl ?_
      exact hend _ _ _ _ _ (by simp [ncN, hh, c28]) hS dX4_noCell__36
    · skip
      refine lv_iconst (v := nI 0) hx hb dX4_noCell__31 rfl ?_
      refine lv_goto (tgt := 36) hx hb dX4_noCell__32 (by decide) ?_
      exact hend _ _ _ _ _ (by simp [ncN, hh, c28]) hS dX4_noCell__36
  · skip
    have hh := szI_nge (by omega) c6
    refine lv_iconst (v := nI 1) hx hb dX4_noCell__9 rfl ?_
    refine lv_goto (tgt := 36) hx hb dX4_noCell__10 (by decide) ?_
    exact hend _ _ _ _ _ (by simp [ncN, hh]) hS dX4_noCell__36
theorem hdX4_noSheet : yX4_noSheet.cls ≠ "java/lang/invoke/MethodHandle" ∧ yX4_noSheet.cls ≠ "java/lang/invoke/VarHandle" ∧ (parseMethodDescriptor yX4_noSheet.desc).map (fun d => d.parameters.length) = some 1 := by decide +kernel
set_option maxRecDepth 20000 in
theorem ggX4_lose_X4_noSheet : GoodIn wsX4_lose wsX4_noSheet := goodIn_r _ [5, 6, 7, 8, 4, 9] (by decide +kernel) (by decide +kernel)
set_option maxRecDepth 20000 in
theorem gX4_lose_X4_noSheet : GoodIn wsX4_lose (va_wsS RX4 119 yX4_noSheet wsX4_noSheet) := goodIn_app (goodIn_of _ (by decide +kernel)) ggX4_lose_X4_noSheet
set_option maxHeartbeats 4000000 in
set_option maxRecDepth 100000 in
theorem kX4_lose (l : Launch) (dC : Nat → ClassId) (dI : Nat → Nat → Nat) (cI cZ : ClassId) (q n : Nat → Nat) (mb : Int32) (f : Nat → Int32) (Y : Nat → Nat → Int32) (hs : Nat → Bool) (la le : Nat → Nat) (C : Nat → Nat → Int32) (hRS : RS hs la le C Y) (k : Int32) (sz : Nat) : Met l yX4_lose wsX4_lose ({ frames := 2, cells := 0, slots := 0, locals := 45 }) (rwP [.ref (q 0), .int k] sz (dC, dI) [(cI, .int), (cZ, .boolean)] (wM cI cZ q n mb f Y)) (rwQi (uLose hs k) (dC, dI) (wM cI cZ q n mb f Y) (wM cI cZ q n mb f (if inB k 4 = true then uX Y 12 (xn k) (-1) else Y)) sz) 0 0 (va_A (wM cI cZ q n mb f Y) sz) := by
  refine rw_met_i (by decide) rfl (Nat.le_of_ble_eq_true rfl) ?_
  intro pp ee ss mm aa bb me cd RR QQ Z hx hb hml hown hts hRf hRl hP hK hD hA hS hend ls hl
  have hown : ss.vm.findClass RX4 = some mm.cls := hown
  have hRf : 2 ≤ RR.frames := hRf
  have hRl : 45 ≤ RR.locals := hRl
  have hl : lv_has ls 3 [(0, .ref (q 0)), (1, .int k)] := hl
  have hf51 := hts (.fieldLink RX4 51 "StatueSquareModel" "sheetSize" "[I") (List.mem_of_getElem? (i := 1) rfl)
  have hinX4 : ∀ w ∈ u_ws RX4 TX4 31, w ∈ wsX4_lose := fun _ h => List.mem_cons_of_mem _ (List.mem_append_right _ h)
  refine lv_iload_n hx hb dX4_lose_0 rfl (lv_at hl 1 rfl) ?_
  refine roS_i (As := [.int k]) (rest := []) ⟨hx, hb, hml, hown, hts⟩ (kX4_noSheet l dC dI k _ ) (va_cwS 1 hts gX4_lose_X4_noSheet rfl rfl rfl hdX4_noSheet ⟨Nat.le_trans (Nat.le_of_ble_eq_true rfl) hRf, Nat.le_trans (Nat.le_of_ble_eq_true rfl) hRl⟩) (hK.sub [] rfl) (hP.sub [] rfl) rfl hl.1 rfl (Nat.le_of_ble_eq_true rfl) dX4_lose_1 ⟨Nat.zero_le _, Nat.zero_le _⟩ hP hS hA (fun H locs hP hS => ?_)
  refine x_ifb_eq (tgt := 9) hx hb dX4_lose_4 (by decide) (fun c4 => ?_) (fun c4 => ?_)
  · skip
    have c4 : inB k 4 = true := by simpa using c4
    obtain ⟨j, hj, rfl⟩ := inB_t (by omega) c4
    have hxj : xn (nI j) = j := xn_nI (by omega)
    have hBj := (hRS j hj).2.2.2
    refine lv_aload_n hx hb dX4_lose_9 rfl (lv_at hl 0 rfl) ?_
    refine x_get (D := (dC, dI)) (ci := 4) (v := .ref (q 13)) (C := RX4) (T := TX4) (N := 31) hx hb hts hinX4 hown hK hP 0 rfl rfl 26 (Nat.le_of_ble_eq_true rfl) hf51 rfl rfl dX4_lose_10 ?_
    refine lv_iload_n hx hb dX4_lose_13 rfl (lv_at hl 1 rfl) ?_
    refine x_iald (v := (szI (hs j) (le j))) hx hb hK hP 13 0 rfl rfl (by omega) (by decide) (hRS _ (by omega)).1 dX4_lose_14 ?_
    refine lv_if_ge (tgt := 22) hx hb dX4_lose_15 (by decide) (fun c15 => ?_) (fun c15 => ?_)
    · skip
      have hh := szI_ge c15
      refine lv_iconst (v := nI 1) hx hb dX4_lose_22 rfl ?_
      refine lv_istore_n (lv' := [(2, .int (nI 1)), (0, .ref (q 0)), (1, .int (nI j))]) hx hb dX4_lose_23 rfl hl (by decide) rfl (fun ls hl => ?_)
      refine lv_aload_n hx hb dX4_lose_24 rfl (lv_at hl 1 rfl) ?_
      refine x_get (D := (dC, dI)) (ci := 4) (v := .ref (q 13)) (C := RX4) (T := TX4) (N := 31) hx hb hts hinX4 hown hK hP 0 rfl rfl 26 (Nat.le_of_ble_eq_true rfl) hf51 rfl rfl dX4_lose_25 ?_
      refine lv_iload_n hx hb dX4_lose_28 rfl (lv_at hl 2 rfl) ?_
      refine lv_iconst (v := -1) hx hb dX4_lose_29 rfl ?_
      refine x_iast (wn := wM cI cZ q n mb f (uX Y 12 j (-1))) hx hb hK hP hD hS 13 0 rfl rfl (by omega) (by decide) rfl dX4_lose_30 (fun H locs hP hS => ?_)
      have hD : va_D Z (wM cI cZ q n mb f (uX Y 12 j (-1))) := hD.same rfl
      refine lv_iload_n hx hb dX4_lose_31 rfl (lv_at hl 0 rfl) ?_
      exact hend _ _ _ _ _ _ (by simp [uLose, c4, hxj, hh] <;> rfl) (by rw [if_pos c4, hxj]) hP hS dX4_lose_32
    · skip
      have hh := szI_nge (by omega) c15
      refine lv_iconst (v := nI 0) hx hb dX4_lose_18 rfl ?_
      refine lv_goto (tgt := 23) hx hb dX4_lose_19 (by decide) ?_
      refine lv_istore_n (lv' := [(2, .int (nI 0)), (0, .ref (q 0)), (1, .int (nI j))]) hx hb dX4_lose_23 rfl hl (by decide) rfl (fun ls hl => ?_)
      refine lv_aload_n hx hb dX4_lose_24 rfl (lv_at hl 1 rfl) ?_
      refine x_get (D := (dC, dI)) (ci := 4) (v := .ref (q 13)) (C := RX4) (T := TX4) (N := 31) hx hb hts hinX4 hown hK hP 0 rfl rfl 26 (Nat.le_of_ble_eq_true rfl) hf51 rfl rfl dX4_lose_25 ?_
      refine lv_iload_n hx hb dX4_lose_28 rfl (lv_at hl 2 rfl) ?_
      refine lv_iconst (v := -1) hx hb dX4_lose_29 rfl ?_
      refine x_iast (wn := wM cI cZ q n mb f (uX Y 12 j (-1))) hx hb hK hP hD hS 13 0 rfl rfl (by omega) (by decide) rfl dX4_lose_30 (fun H locs hP hS => ?_)
      have hD : va_D Z (wM cI cZ q n mb f (uX Y 12 j (-1))) := hD.same rfl
      refine lv_iload_n hx hb dX4_lose_31 rfl (lv_at hl 0 rfl) ?_
      exact hend _ _ _ _ _ _ (by simp [uLose, c4, hxj, hh] <;> rfl) (by rw [if_pos c4, hxj]) hP hS dX4_lose_32
  · skip
    have c4 : inB k 4 = false := by simpa using c4
    refine lv_iconst (v := -1) hx hb dX4_lose_7 rfl ?_
    exact hend _ _ _ _ _ _ (by simp [uLose, inB02, c4] <;> rfl) (by rw [if_neg (by rw [c4]; decide)]) hP hS dX4_lose_8
theorem hdX4_noCell_ : yX4_noCell_.cls = RX4 ∧ yX4_noCell_.cls ≠ "java/lang/invoke/MethodHandle" ∧ yX4_noCell_.cls ≠ "java/lang/invoke/VarHandle" ∧ (parseMethodDescriptor yX4_noCell_.desc).map (fun d => d.parameters.length) = some 2 := by decide +kernel
set_option maxRecDepth 20000 in
theorem ggX4_put_X4_noSheet : GoodIn wsX4_put wsX4_noSheet := goodIn_r _ [6, 7, 8, 9, 5, 10] (by decide +kernel) (by decide +kernel)
set_option maxRecDepth 20000 in
theorem gX4_put_X4_noSheet : GoodIn wsX4_put (va_wsS RX4 119 yX4_noSheet wsX4_noSheet) := goodIn_app (goodIn_of _ (by decide +kernel)) ggX4_put_X4_noSheet
set_option maxRecDepth 20000 in
theorem ggX4_put_X4_noCell_ : GoodIn wsX4_put wsX4_noCell_ := goodIn_r _ [19, 20, 8, 9, 5, 10, 25, 26, 27, 28, 29, 30, 31, 32, 33, 34, 35, 36, 37, 38, 39, 40, 41, 42, 43, 44, 45, 46, 47, 48, 49, 50, 51, 52, 53, 54, 55] (by decide +kernel) (by decide +kernel)
set_option maxRecDepth 20000 in
theorem gX4_put_X4_noCell_ : GoodIn wsX4_put (wsV RX4 202 RX4 yX4_noCell_ wsX4_noCell_) := goodIn_app (goodIn_of _ (by decide +kernel)) ggX4_put_X4_noCell_
set_option maxRecDepth 20000 in
theorem ggX4_put_X4_refused : GoodIn wsX4_put wsX4_refused := goodIn_r _ [14, 15, 25, 26, 27, 28, 29, 30, 31, 32, 33, 34, 35, 36, 37, 38, 39, 40, 41, 42, 43, 44, 45, 46, 47, 48, 49, 50, 51, 52, 53, 54, 55] (by decide +kernel) (by decide +kernel)
set_option maxRecDepth 20000 in
theorem gX4_put_X4_refused : GoodIn wsX4_put (wsV RX4 123 RX4 yX4_refused wsX4_refused) := goodIn_app (goodIn_of _ (by decide +kernel)) ggX4_put_X4_refused
set_option maxRecDepth 20000 in
theorem ggX4_put_X4_failed : GoodIn wsX4_put wsX4_failed := goodIn_r _ [24, 15, 25, 26, 27, 28, 29, 30, 31, 32, 33, 34, 35, 36, 37, 38, 39, 40, 41, 42, 43, 44, 45, 46, 47, 48, 49, 50, 51, 52, 53, 54, 55] (by decide +kernel) (by decide +kernel)
set_option maxRecDepth 20000 in
theorem gX4_put_X4_failed : GoodIn wsX4_put (wsV RX4 129 RX4 yX4_failed wsX4_failed) := goodIn_app (goodIn_of _ (by decide +kernel)) ggX4_put_X4_failed
set_option maxHeartbeats 4000000 in
set_option maxRecDepth 100000 in
theorem kX4_put (l : Launch) (dC : Nat → ClassId) (dI : Nat → Nat → Nat) (cI cZ : ClassId) (q n : Nat → Nat) (mb : Int32) (f : Nat → Int32) (Y : Nat → Nat → Int32) (hs : Nat → Bool) (la le : Nat → Nat) (C : Nat → Nat → Int32) (hRS : RS hs la le C Y) (k : Int32) (i : Int32) (v : Int32) (sz : Nat) : Met l yX4_put wsX4_put ({ frames := 2, cells := 0, slots := 0, locals := 47 }) (rwP [.ref (q 0), .int k, .int i, .int v] sz (dC, dI) [(cI, .int), (cZ, .boolean)] (wM cI cZ q n mb f Y)) (rwQi (uPut hs le k i) (dC, dI) (wM cI cZ q n mb f Y) (wM cI cZ q n mb (uF f 0 (fPut hs le k i)) (if okPut hs le k i = true then uX Y 14 (100 * xn k + xn i) (cutL (la (xn k)) v) else Y)) sz) 0 0 (va_A (wM cI cZ q n mb f Y) sz) := by
  refine rw_met_i (by decide) rfl (Nat.le_of_ble_eq_true rfl) ?_
  intro pp ee ss mm aa bb me cd RR QQ Z hx hb hml hown hts hRf hRl hP hK hD hA hS hend ls hl
  have hown : ss.vm.findClass RX4 = some mm.cls := hown
  have hRf : 2 ≤ RR.frames := hRf
  have hRl : 47 ≤ RR.locals := hRl
  have hl : lv_has ls 4 [(0, .ref (q 0)), (1, .int k), (2, .int i), (3, .int v)] := hl
  have hf57 := hts (.fieldLink RX4 57 "StatueSquareModel" "sheet" "[I") (List.mem_of_getElem? (i := 1) rfl)
  have hinX4 : ∀ w ∈ u_ws RX4 TX4 31, w ∈ wsX4_put := fun _ h => List.mem_cons_of_mem _ (List.mem_append_right _ h)
  have hf54 := hts (.fieldLink RX4 54 "StatueSquareModel" "sheetLane" "[I") (List.mem_of_getElem? (i := 2) rfl)
  refine lv_iload_n hx hb dX4_put_0 rfl (lv_at hl 1 rfl) ?_
  refine roS_i (As := [.int k]) (rest := []) ⟨hx, hb, hml, hown, hts⟩ (kX4_noSheet l dC dI k _ ) (va_cwS 1 hts gX4_put_X4_noSheet rfl rfl rfl hdX4_noSheet ⟨Nat.le_trans (Nat.le_of_ble_eq_true rfl) hRf, Nat.le_trans (Nat.le_of_ble_eq_true rfl) hRl⟩) (hK.sub [] rfl) (hP.sub [] rfl) rfl hl.1 rfl (Nat.le_of_ble_eq_true rfl) dX4_put_1 ⟨Nat.zero_le _, Nat.zero_le _⟩ hP hS hA (fun H locs hP hS => ?_)
  refine x_ifb_eq (tgt := 13) hx hb dX4_put_4 (by decide) (fun c4 => ?_) (fun c4 => ?_)
  · skip
    have c4 : inB k 4 = true := by simpa using c4
    obtain ⟨j, hj, rfl⟩ := inB_t (by omega) c4
    have hxj : xn (nI j) = j := xn_nI (by omega)
    have hBj := (hRS j hj).2.2.2
    refine lv_aload_n hx hb dX4_put_13 rfl (lv_at hl 0 rfl) ?_
    refine lv_iload_n hx hb dX4_put_14 rfl (lv_at hl 1 rfl) ?_
    refine lv_iload_n hx hb dX4_put_15 rfl (lv_at hl 2 rfl) ?_
    refine roV_i (As := [.int (nI j), .int i]) (rest := []) ⟨hx, hb, hml, hown, hts⟩ (kX4_noCell_ l dC dI cI cZ q n mb f Y hs la le C hRS j i _ (by omega)) (cwV 2 hts gX4_put_X4_noCell_ rfl rfl rfl hdX4_noCell_ ⟨Nat.le_trans (Nat.le_of_ble_eq_true rfl) hRf, Nat.le_trans (Nat.le_of_ble_eq_true rfl) hRl⟩) (va_recv hK hP (ci := 4) (q0 := 0) rfl rfl) hK hP rfl hl.1 rfl (Nat.le_of_ble_eq_true rfl) dX4_put_16 ⟨Nat.zero_le _, Nat.zero_le _⟩ hP hS hA (fun H locs hP hS => ?_)
    refine x_if_le (tgt := 33) hx hb (ncN_lt _ _ _ _) dX4_put_19 (by decide) (fun c19 => ?_) (fun c19 => ?_)
    · skip
      have hnc := ncN_0 c19
      have hh := hnc.1
      have hin := hnc.2
      obtain ⟨ii, hii, rfl⟩ := inB_t (by omega) hin
      have hxii : xn (nI ii) = ii := xn_nI (by omega)
      refine lv_aload_n hx hb dX4_put_33 rfl (lv_at hl 0 rfl) ?_
      refine x_get (D := (dC, dI)) (ci := 4) (v := .ref (q 15)) (C := RX4) (T := TX4) (N := 31) hx hb hts hinX4 hown hK hP 0 rfl rfl 28 (Nat.le_of_ble_eq_true rfl) hf57 rfl rfl dX4_put_34 ?_
      refine lv_bipush (v := nI 100) hx hb dX4_put_37 rfl ?_
      refine lv_iload_n hx hb dX4_put_39 rfl (lv_at hl 1 rfl) ?_
      refine x_imul hx hb dX4_put_40 ?_
      refine lv_iload_n hx hb dX4_put_41 rfl (lv_at hl 2 rfl) ?_
      refine x_iadd hx hb dX4_put_42 ?_
      refine lv_aload_n hx hb dX4_put_43 rfl (lv_at hl 0 rfl) ?_
      refine x_get (D := (dC, dI)) (ci := 4) (v := .ref (q 14)) (C := RX4) (T := TX4) (N := 31) hx hb hts hinX4 hown hK hP 0 rfl rfl 27 (Nat.le_of_ble_eq_true rfl) hf54 rfl rfl dX4_put_44 ?_
      refine lv_iload_n hx hb dX4_put_47 rfl (lv_at hl 1 rfl) ?_
      refine x_iald (v := (nI (la j))) hx hb hK hP 14 0 rfl rfl (by omega) (by decide) ((hRS _ (by omega)).2.1 hh) dX4_put_48 ?_
      refine x_if_ne (tgt := 57) hx hb (by omega) dX4_put_49 (by decide) (fun c49 => ?_) (fun c49 => ?_)
      · skip
        refine lv_aload_n hx hb dX4_put_57 rfl (lv_at hl 0 rfl) ?_
        refine x_get (D := (dC, dI)) (ci := 4) (v := .ref (q 14)) (C := RX4) (T := TX4) (N := 31) hx hb hts hinX4 hown hK hP 0 rfl rfl 27 (Nat.le_of_ble_eq_true rfl) hf54 rfl rfl dX4_put_58 ?_
        refine lv_iload_n hx hb dX4_put_61 rfl (lv_at hl 1 rfl) ?_
        refine x_iald (v := (nI (la j))) hx hb hK hP 14 0 rfl rfl (by omega) (by decide) ((hRS _ (by omega)).2.1 hh) dX4_put_62 ?_
        refine lv_iconst (v := nI 1) hx hb dX4_put_63 rfl ?_
        refine x_icmp_ne (tgt := 72) hx hb (by omega) (by omega) dX4_put_64 (by decide) (fun c64 => ?_) (fun c64 => ?_)
        · skip
          refine lv_iload_n hx hb dX4_put_72 rfl (lv_at hl 3 rfl) ?_
          refine x_iast (wn := wM cI cZ q n mb f (uX Y 14 ((100 * j) + ii) v)) hx hb hK hP hD hS 15 0 rfl rfl (by omega) (by decide) rfl dX4_put_73 (fun H locs hP hS => ?_)
          have hD : va_D Z (wM cI cZ q n mb f (uX Y 14 ((100 * j) + ii) v)) := hD.same rfl
          refine lv_aload_n hx hb dX4_put_74 rfl (lv_at hl 0 rfl) ?_
          refine lv_iconst (v := nI 1) hx hb dX4_put_75 rfl ?_
          refine rwW_i (As := [.int (nI 1)]) (rest := []) (wn := wM cI cZ q n mb (uF f 0 0) (uX Y 14 ((100 * j) + ii) v)) ⟨hx, hb, hml, hown, hts⟩ (kX4_refused l dC dI cI cZ q n mb f (uX Y 14 ((100 * j) + ii) v) (nI 1) _) (cwV 1 hts gX4_put_X4_refused rfl rfl rfl hdX4_refused ⟨Nat.le_trans (Nat.le_of_ble_eq_true rfl) hRf, Nat.le_trans (Nat.le_of_ble_eq_true rfl) hRl⟩) (va_recv hK hP (ci := 4) (q0 := 0) rfl rfl) hK rfl hl.1 rfl (Nat.le_of_ble_eq_true rfl) dX4_put_76 ⟨Nat.zero_le _, Nat.zero_le _⟩ hP hD hS hA [0, 1, 2, 3, 4, 5, 6, 7, 8, 9, 10, 11, 12, 13, 14, 15, 16] [] [0, 1, 2, 3, 4, 5, 6, 7, 8, 9, 10, 11, 12, 13, 14, 15, 16] rfl rfl (by decide) (by decide) (by decide) rfl rfl (fun H locs hP hS => ?_)
          have hD : va_D Z (wM cI cZ q n mb (uF f 0 0) (uX Y 14 ((100 * j) + ii) v)) := hD.same rfl
          exact hend _ _ _ _ _ _ (by simp [uPut, c4, hxj, hh, hin] <;> rfl) (by rw [fPut, if_pos c4, hxj, if_pos hh, if_pos hin, show okPut hs le (nI j) (nI ii) = true from by simp [okPut, c4, hxj, hh, hin], if_pos rfl, hxii, cutL, if_neg c49, if_neg c64] <;> rfl) hP hS dX4_put_79
        · skip
          refine lv_iload_n hx hb dX4_put_67 rfl (lv_at hl 3 rfl) ?_
          refine lv_i2s hx hb dX4_put_68 rfl ?_
          refine lv_goto (tgt := 73) hx hb dX4_put_69 (by decide) ?_
          refine x_iast (wn := wM cI cZ q n mb f (uX Y 14 ((100 * j) + ii) v.toInt16.toInt32)) hx hb hK hP hD hS 15 0 rfl rfl (by omega) (by decide) rfl dX4_put_73 (fun H locs hP hS => ?_)
          have hD : va_D Z (wM cI cZ q n mb f (uX Y 14 ((100 * j) + ii) v.toInt16.toInt32)) := hD.same rfl
          refine lv_aload_n hx hb dX4_put_74 rfl (lv_at hl 0 rfl) ?_
          refine lv_iconst (v := nI 1) hx hb dX4_put_75 rfl ?_
          refine rwW_i (As := [.int (nI 1)]) (rest := []) (wn := wM cI cZ q n mb (uF f 0 0) (uX Y 14 ((100 * j) + ii) v.toInt16.toInt32)) ⟨hx, hb, hml, hown, hts⟩ (kX4_refused l dC dI cI cZ q n mb f (uX Y 14 ((100 * j) + ii) v.toInt16.toInt32) (nI 1) _) (cwV 1 hts gX4_put_X4_refused rfl rfl rfl hdX4_refused ⟨Nat.le_trans (Nat.le_of_ble_eq_true rfl) hRf, Nat.le_trans (Nat.le_of_ble_eq_true rfl) hRl⟩) (va_recv hK hP (ci := 4) (q0 := 0) rfl rfl) hK rfl hl.1 rfl (Nat.le_of_ble_eq_true rfl) dX4_put_76 ⟨Nat.zero_le _, Nat.zero_le _⟩ hP hD hS hA [0, 1, 2, 3, 4, 5, 6, 7, 8, 9, 10, 11, 12, 13, 14, 15, 16] [] [0, 1, 2, 3, 4, 5, 6, 7, 8, 9, 10, 11, 12, 13, 14, 15, 16] rfl rfl (by decide) (by decide) (by decide) rfl rfl (fun H locs hP hS => ?_)
          have hD : va_D Z (wM cI cZ q n mb (uF f 0 0) (uX Y 14 ((100 * j) + ii) v.toInt16.toInt32)) := hD.same rfl
          exact hend _ _ _ _ _ _ (by simp [uPut, c4, hxj, hh, hin] <;> rfl) (by rw [fPut, if_pos c4, hxj, if_pos hh, if_pos hin, show okPut hs le (nI j) (nI ii) = true from by simp [okPut, c4, hxj, hh, hin], if_pos rfl, hxii, cutL, if_neg c49, if_pos c64] <;> rfl) hP hS dX4_put_79
      · skip
        refine lv_iload_n hx hb dX4_put_52 rfl (lv_at hl 3 rfl) ?_
        refine lv_i2b hx hb dX4_put_53 rfl ?_
        refine lv_goto (tgt := 73) hx hb dX4_put_54 (by decide) ?_
        refine x_iast (wn := wM cI cZ q n mb f (uX Y 14 ((100 * j) + ii) v.toInt8.toInt32)) hx hb hK hP hD hS 15 0 rfl rfl (by omega) (by decide) rfl dX4_put_73 (fun H locs hP hS => ?_)
        have hD : va_D Z (wM cI cZ q n mb f (uX Y 14 ((100 * j) + ii) v.toInt8.toInt32)) := hD.same rfl
        refine lv_aload_n hx hb dX4_put_74 rfl (lv_at hl 0 rfl) ?_
        refine lv_iconst (v := nI 1) hx hb dX4_put_75 rfl ?_
        refine rwW_i (As := [.int (nI 1)]) (rest := []) (wn := wM cI cZ q n mb (uF f 0 0) (uX Y 14 ((100 * j) + ii) v.toInt8.toInt32)) ⟨hx, hb, hml, hown, hts⟩ (kX4_refused l dC dI cI cZ q n mb f (uX Y 14 ((100 * j) + ii) v.toInt8.toInt32) (nI 1) _) (cwV 1 hts gX4_put_X4_refused rfl rfl rfl hdX4_refused ⟨Nat.le_trans (Nat.le_of_ble_eq_true rfl) hRf, Nat.le_trans (Nat.le_of_ble_eq_true rfl) hRl⟩) (va_recv hK hP (ci := 4) (q0 := 0) rfl rfl) hK rfl hl.1 rfl (Nat.le_of_ble_eq_true rfl) dX4_put_76 ⟨Nat.zero_le _, Nat.zero_le _⟩ hP hD hS hA [0, 1, 2, 3, 4, 5, 6, 7, 8, 9, 10, 11, 12, 13, 14, 15, 16] [] [0, 1, 2, 3, 4, 5, 6, 7, 8, 9, 10, 11, 12, 13, 14, 15, 16] rfl rfl (by decide) (by decide) (by decide) rfl rfl (fun H locs hP hS => ?_)
        have hD : va_D Z (wM cI cZ q n mb (uF f 0 0) (uX Y 14 ((100 * j) + ii) v.toInt8.toInt32)) := hD.same rfl
        exact hend _ _ _ _ _ _ (by simp [uPut, c4, hxj, hh, hin] <;> rfl) (by rw [fPut, if_pos c4, hxj, if_pos hh, if_pos hin, show okPut hs le (nI j) (nI ii) = true from by simp [okPut, c4, hxj, hh, hin], if_pos rfl, hxii, cutL, if_pos c49] <;> rfl) hP hS dX4_put_79
    · skip
      have hh1 := c19
      refine lv_aload_n hx hb dX4_put_22 rfl (lv_at hl 0 rfl) ?_
      refine lv_aload_n hx hb dX4_put_23 rfl (lv_at hl 0 rfl) ?_
      refine lv_iload_n hx hb dX4_put_24 rfl (lv_at hl 1 rfl) ?_
      refine lv_iload_n hx hb dX4_put_25 rfl (lv_at hl 2 rfl) ?_
      refine roV_i (As := [.int (nI j), .int i]) (rest := [.ref (q 0)]) ⟨hx, hb, hml, hown, hts⟩ (kX4_noCell_ l dC dI cI cZ q n mb f Y hs la le C hRS j i _ (by omega)) (cwV 2 hts gX4_put_X4_noCell_ rfl rfl rfl hdX4_noCell_ ⟨Nat.le_trans (Nat.le_of_ble_eq_true rfl) hRf, Nat.le_trans (Nat.le_of_ble_eq_true rfl) hRl⟩) (va_recv hK hP (ci := 4) (q0 := 0) rfl rfl) hK hP rfl hl.1 rfl (Nat.le_of_ble_eq_true rfl) dX4_put_26 ⟨Nat.zero_le _, Nat.zero_le _⟩ hP hS hA (fun H locs hP hS => ?_)
      refine rwW_i (As := [.int (nI (ncN hs le j i))]) (rest := []) (wn := wM cI cZ q n mb (uF f 0 (nI (ncN hs le j i))) Y) ⟨hx, hb, hml, hown, hts⟩ (kX4_failed l dC dI cI cZ q n mb f Y (ncN hs le j i) _) (cwV 1 hts gX4_put_X4_failed rfl rfl rfl hdX4_failed ⟨Nat.le_trans (Nat.le_of_ble_eq_true rfl) hRf, Nat.le_trans (Nat.le_of_ble_eq_true rfl) hRl⟩) (va_recv hK hP (ci := 4) (q0 := 0) rfl rfl) hK rfl hl.1 rfl (Nat.le_of_ble_eq_true rfl) dX4_put_29 ⟨Nat.zero_le _, Nat.zero_le _⟩ hP hD hS hA [0, 1, 2, 3, 4, 5, 6, 7, 8, 9, 10, 11, 12, 13, 14, 15, 16] [] [0, 1, 2, 3, 4, 5, 6, 7, 8, 9, 10, 11, 12, 13, 14, 15, 16] rfl rfl (by decide) (by decide) (by decide) rfl rfl (fun H locs hP hS => ?_)
      have hD : va_D Z (wM cI cZ q n mb (uF f 0 (nI (ncN hs le j i))) Y) := hD.same rfl
      exact hend _ _ _ _ _ _ (mput_u hh1 c4 hxj) (mput_f hh1 c4 hxj) hP hS dX4_put_32
  · skip
    have c4 : inB k 4 = false := by simpa using c4
    refine lv_aload_n hx hb dX4_put_7 rfl (lv_at hl 0 rfl) ?_
    refine lv_iconst (v := -1) hx hb dX4_put_8 rfl ?_
    refine rwW_i (As := [.int (-1)]) (rest := []) (wn := wM cI cZ q n mb (uF f 0 0) Y) ⟨hx, hb, hml, hown, hts⟩ (kX4_refused l dC dI cI cZ q n mb f Y (-1) _) (cwV 1 hts gX4_put_X4_refused rfl rfl rfl hdX4_refused ⟨Nat.le_trans (Nat.le_of_ble_eq_true rfl) hRf, Nat.le_trans (Nat.le_of_ble_eq_true rfl) hRl⟩) (va_recv hK hP (ci := 4) (q0 := 0) rfl rfl) hK rfl hl.1 rfl (Nat.le_of_ble_eq_true rfl) dX4_put_9 ⟨Nat.zero_le _, Nat.zero_le _⟩ hP hD hS hA [0, 1, 2, 3, 4, 5, 6, 7, 8, 9, 10, 11, 12, 13, 14, 15, 16] [] [0, 1, 2, 3, 4, 5, 6, 7, 8, 9, 10, 11, 12, 13, 14, 15, 16] rfl rfl (by decide) (by decide) (by decide) rfl rfl (fun H locs hP hS => ?_)
    have hD : va_D Z (wM cI cZ q n mb (uF f 0 0) Y) := hD.same rfl
    exact hend _ _ _ _ _ _ (by simp [uPut, inB02, c4] <;> rfl) (by simp [fPut, okPut, c4] <;> rfl) hP hS dX4_put_12
