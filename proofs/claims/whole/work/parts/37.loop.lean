set_option maxHeartbeats 4000000 in
set_option maxRecDepth 100000 in
theorem law_loop {pp : Program} {l : Launch} {ee : Env} {ss : State} {mm : MethodId} {bb : List Frame} {me : Method} {cd : Code} {dC : Nat → ClassId} {dI : Nat → Nat → Nat} {cS cI cZ : ClassId} {a r0 : Nat} {qs qr t q qm : Nat → Nat} {tH b L : Nat} {xs : Nat → Int32} (hr : me.sig.returnType = ret) (hlocks : me.locks = false) (E : lw_E pp ss mm cd room_1 dC dI cS cI cZ tH b L xs (fun q : Nat => ss.heap.size ≤ q) 40 1540) : ∀ (k i : Nat), i ≤ L → L + 1 ≤ i + k → ∀ (H : Heap) (locs : List Loc) (ls : Array Slot), LJ dC dI cS cI cZ a r0 qs qr t q qm (fun q : Nat => ss.heap.size ≤ q) H → va_S (fun q : Nat => ss.heap.size ≤ q) ss.heap H locs → lv_has ls 4 [(3, .int (nI i)), (2, .ref (qm 0)), (1, .ref a), (0, .ref b)] → W pp l ee room_1 ss mm #[Value.ref b] bb me cd H locs 40 1540 (lw_Z bb #[Value.ref b] ss) (F0 mm 18 ls []) := by
  intro k
  induction k with
  | zero => intro i h1 h2; exact absurd h2 (by omega)
  | succ k ih =>
    intro i h1 h2 H locs ls hJ hS hl
    obtain ⟨hx, hb, hml, hown, hts, hRf, hRl, hcc, hcs, hK, hA, hZT, hX, hbl, hbA, hL⟩ := id E
    refine lv_iload_n hx hb dL_law_18 rfl (lv_at hl 0 rfl) ?_
    refine lv_aload_n hx hb dL_law_19 rfl (lv_at hl 3 rfl) ?_
    refine va_slen hx hb hX hbl hbA hS dL_law_20 ?_
    refine lv_bipush (v := nI 6) hx hb dL_law_21 rfl ?_
    refine lv_isub hx hb dL_law_23 ?_
    refine lv_icmp_gt (tgt := 1076) hx hb dL_law_24 (by decide) (fun c => ?_) (fun c => ?_)
    · refine lv_iconst (v := 1) hx hb dL_law_1076 rfl ?_
      refine va_forget (fun q hq => hS.2.2 q hq) ?_
      refine W.widen (k := 600000) (n := 7302250) (Nat.le_of_ble_eq_true rfl) (Nat.le_of_ble_eq_true rfl) ?_
      exact lw_ret hx hb hr hlocks dL_law_1077
    · have hi : i + 6 ≤ L := li_i hL (by omega) c
      have kk : ∀ (H : Heap) (locs : List Loc), LJ dC dI cS cI cZ a r0 qs qr t q qm (fun q : Nat => ss.heap.size ≤ q) H → va_S (fun q : Nat => ss.heap.size ≤ q) ss.heap H locs → W pp l ee room_1 ss mm #[Value.ref b] bb me cd H locs 40 1540 (lw_Z bb #[Value.ref b] ss) (F0 mm 1070 ls []) := by
        intro H locs hJ hS
        refine lv_iinc (v := nI (i + 6)) (lv' := [(3, .int (nI (i + 6))), (2, .ref (qm 0)), (1, .ref a), (0, .ref b)]) hx hb dL_law_1070 hl (k := 0) rfl (nI_add _ _) (by decide) rfl (fun ls hl => ?_)
        refine lv_goto (tgt := 18) hx hb dL_law_1073 (by decide) ?_
        exact ih (i + 6) hi (by omega) H locs ls hJ hS hl
      refine lv_aload_n hx hb dL_law_27 rfl (lv_at hl 3 rfl) ?_
      refine lv_iload_n hx hb dL_law_28 rfl (lv_at hl 0 rfl) ?_
      refine x_sld hx hb hX hbl hbA hS (by omega) (by omega) dL_law_29 ?_
      refine lv_bipush (v := nI 31) hx hb dL_law_30 rfl ?_
      refine lv_iand hx hb dL_law_32 ?_
      obtain ⟨j, hj, ej⟩ := and31 (xs i)
      refine x_top ej ?_
      rcases (show j = 0 ∨ j = 1 ∨ j = 2 ∨ j = 3 ∨ j = 4 ∨ j = 5 ∨ j = 6 ∨ j = 7 ∨ j = 8 ∨ j = 9 ∨ j = 10 ∨ j = 11 ∨ j = 12 ∨ j = 13 ∨ j = 14 ∨ j = 15 ∨ j = 16 ∨ j = 17 ∨ j = 18 ∨ j = 19 ∨ j = 20 ∨ j = 21 ∨ j = 22 ∨ j = 23 ∨ j = 24 ∨ j = 25 ∨ j = 26 ∨ j = 27 ∨ j = 28 ∨ j = 29 ∨ j = 30 ∨ j = 31 by omega) with rfl | rfl | rfl | rfl | rfl | rfl | rfl | rfl | rfl | rfl | rfl | rfl | rfl | rfl | rfl | rfl | rfl | rfl | rfl | rfl | rfl | rfl | rfl | rfl | rfl | rfl | rfl | rfl | rfl | rfl | rfl | rfl
      · exact lv_tableIn (tgt := 172) hx hb dL_law_33 (by decide) (by decide) rfl (by decide) (lc_square E hi hJ hS hl kk)
      · exact lv_tableIn (tgt := 225) hx hb dL_law_33 (by decide) (by decide) rfl (by decide) (lc_cellHas E hi hJ hS hl kk)
      · exact lv_tableIn (tgt := 248) hx hb dL_law_33 (by decide) (by decide) rfl (by decide) (lc_ofThing E hi hJ hS hl kk)
      · exact lv_tableIn (tgt := 281) hx hb dL_law_33 (by decide) (by decide) rfl (by decide) (lc_bench E hi hJ hS hl kk)
      · exact lv_tableIn (tgt := 304) hx hb dL_law_33 (by decide) (by decide) rfl (by decide) (lc_year E hi hJ hS hl kk)
      · exact lv_tableIn (tgt := 353) hx hb dL_law_33 (by decide) (by decide) rfl (by decide) (lc_cut E hi hJ hS hl kk)
      · exact lv_tableIn (tgt := 402) hx hb dL_law_33 (by decide) (by decide) rfl (by decide) (lc_price E hi hJ hS hl kk)
      · exact lv_tableIn (tgt := 435) hx hb dL_law_33 (by decide) (by decide) rfl (by decide) (lc_statue E hi hJ hS hl kk)
      · exact lv_tableIn (tgt := 468) hx hb dL_law_33 (by decide) (by decide) rfl (by decide) (lc_seen E hi hJ hS hl kk)
      · exact lv_tableIn (tgt := 491) hx hb dL_law_33 (by decide) (by decide) rfl (by decide) (lc_whole E hi hJ hS hl kk)
      · exact lv_tableIn (tgt := 504) hx hb dL_law_33 (by decide) (by decide) rfl (by decide) (lc_hidden E hi hJ hS hl kk)
      · exact lv_tableIn (tgt := 527) hx hb dL_law_33 (by decide) (by decide) rfl (by decide) (lc_sight E hi hJ hS hl kk)
      · exact lv_tableIn (tgt := 551) hx hb dL_law_33 (by decide) (by decide) rfl (by decide) (lc_best E hi hJ hS hl kk)
      · exact lv_tableIn (tgt := 584) hx hb dL_law_33 (by decide) (by decide) rfl (by decide) (lc_block E hi hJ hS hl kk)
      · exact lv_tableIn (tgt := 617) hx hb dL_law_33 (by decide) (by decide) rfl (by decide) (lc_cuts E hi hJ hS hl kk)
      · exact lv_tableIn (tgt := 640) hx hb dL_law_33 (by decide) (by decide) rfl (by decide) (lc_complaints E hi hJ hS hl kk)
      · exact lv_tableIn (tgt := 653) hx hb dL_law_33 (by decide) (by decide) rfl (by decide) (lc_moved E hi hJ hS hl kk)
      · exact lv_tableIn (tgt := 676) hx hb dL_law_33 (by decide) (by decide) rfl (by decide) (lc_years E hi hJ hS hl kk)
      · exact lv_tableIn (tgt := 689) hx hb dL_law_33 (by decide) (by decide) rfl (by decide) (lc_second E hi hJ hS hl kk)
      · exact lv_tableIn (tgt := 703) hx hb dL_law_33 (by decide) (by decide) rfl (by decide) (lc_lit E hi hJ hS hl kk)
      · exact lv_tableIn (tgt := 726) hx hb dL_law_33 (by decide) (by decide) rfl (by decide) (lc_sheet E hi hJ hS hl kk)
      · exact lv_tableIn (tgt := 769) hx hb dL_law_33 (by decide) (by decide) rfl (by decide) (lc_lose E hi hJ hS hl kk)
      · exact lv_tableIn (tgt := 792) hx hb dL_law_33 (by decide) (by decide) rfl (by decide) (lc_put E hi hJ hS hl kk)
      · exact lv_tableIn (tgt := 835) hx hb dL_law_33 (by decide) (by decide) rfl (by decide) (lc_cell E hi hJ hS hl kk)
      · exact lv_tableIn (tgt := 879) hx hb dL_law_33 (by decide) (by decide) rfl (by decide) (lc_copy E hi hJ hS hl kk)
      · exact lv_tableIn (tgt := 942) hx hb dL_law_33 (by decide) (by decide) rfl (by decide) (lc_tell E hi hJ hS hl kk)
      · exact lv_tableIn (tgt := 965) hx hb dL_law_33 (by decide) (by decide) rfl (by decide) (lc_tend E hi hJ hS hl kk)
      · exact lv_tableIn (tgt := 988) hx hb dL_law_33 (by decide) (by decide) rfl (by decide) (lc_as E hi hJ hS hl kk)
      · exact lv_tableIn (tgt := 1021) hx hb dL_law_33 (by decide) (by decide) rfl (by decide) (lc_trace E hi hJ hS hl kk)
      · exact lv_tableIn (tgt := 1034) hx hb dL_law_33 (by decide) (by decide) rfl (by decide) (lc_fault E hi hJ hS hl kk)
      · exact lv_tableIn (tgt := 1047) hx hb dL_law_33 (by decide) (by decide) rfl (by decide) (lc_many E hi hJ hS hl kk)
      · exact lv_tableOut (tgt := 1070) hx hb dL_law_33 (by decide) (by decide) (kk _ _ hJ hS)
