set_option maxHeartbeats 4000000 in
set_option maxRecDepth 100000 in
theorem kJ6_bitCount_0f7a4 (l : Launch) (dC : Nat → ClassId) (dI : Nat → Nat → Nat) (v : Nat) (sz : Nat) (hv : v < 16) : Met l yJ6_bitCount_0f7a4 wsJ6_bitCount_0f7a4 ({ frames := 0, cells := 0, slots := 0, locals := 0 }) (roP [.int (nI v)] sz (dC, dI) [] ([] : va_W)) (roQi (nI (pop4 v)) sz) 0 0 (va_A [] sz) := by
  refine ro_met_i (by decide) rfl (Nat.le_of_ble_eq_true rfl) ?_
  intro pp ee ss mm aa bb me cd RR QQ Z hx hb hml hown hts hRf hRl hP hK hA hS hend ls hl
  have hown : ss.vm.findClass RJ6 = some mm.cls := hown
  have hRf : 0 ≤ RR.frames := hRf
  have hRl : 0 ≤ RR.locals := hRl
  have hl : lv_has ls 1 [(0, .int (nI v))] := hl
  have hk265 := hts (.constant RJ6 265 (1431655765)) (List.mem_of_getElem? (i := 1) rfl)
  have hk266 := hts (.constant RJ6 266 (858993459)) (List.mem_of_getElem? (i := 2) rfl)
  have hk267 := hts (.constant RJ6 267 (252645135)) (List.mem_of_getElem? (i := 3) rfl)
  refine lv_iload_n hx hb dJ6_bitCount_0f7a4_0 rfl (lv_at hl 0 rfl) ?_
  refine lv_iload_n hx hb dJ6_bitCount_0f7a4_1 rfl (lv_at hl 0 rfl) ?_
  refine lv_iconst (v := nI 1) hx hb dJ6_bitCount_0f7a4_2 rfl ?_
  refine lv_iushr hx hb dJ6_bitCount_0f7a4_3 rfl ?_
  refine lv_ldcw hx hb hown hk265 dJ6_bitCount_0f7a4_4 ?_
  refine lv_iand hx hb dJ6_bitCount_0f7a4_7 ?_
  refine lv_isub hx hb dJ6_bitCount_0f7a4_8 ?_
  refine lv_istore_n (lv' := [(0, .int ((nI v) - ((((nI v).toUInt32 >>> ((nI 1).toUInt32 &&& Int32.toUInt32 31)).toInt32) &&& (nI 1431655765))))]) hx hb dJ6_bitCount_0f7a4_9 rfl hl (by decide) rfl (fun ls hl => ?_)
  refine lv_iload_n hx hb dJ6_bitCount_0f7a4_10 rfl (lv_at hl 0 rfl) ?_
  refine lv_ldcw hx hb hown hk266 dJ6_bitCount_0f7a4_11 ?_
  refine lv_iand hx hb dJ6_bitCount_0f7a4_14 ?_
  refine lv_iload_n hx hb dJ6_bitCount_0f7a4_15 rfl (lv_at hl 0 rfl) ?_
  refine lv_iconst (v := nI 2) hx hb dJ6_bitCount_0f7a4_16 rfl ?_
  refine lv_iushr hx hb dJ6_bitCount_0f7a4_17 rfl ?_
  refine lv_ldcw hx hb hown hk266 dJ6_bitCount_0f7a4_18 ?_
  refine lv_iand hx hb dJ6_bitCount_0f7a4_21 ?_
  refine lv_iadd hx hb dJ6_bitCount_0f7a4_22 ?_
  refine lv_istore_n (lv' := [(0, .int ((((nI v) - ((((nI v).toUInt32 >>> ((nI 1).toUInt32 &&& Int32.toUInt32 31)).toInt32) &&& (nI 1431655765))) &&& (nI 858993459)) + (((((nI v) - ((((nI v).toUInt32 >>> ((nI 1).toUInt32 &&& Int32.toUInt32 31)).toInt32) &&& (nI 1431655765))).toUInt32 >>> ((nI 2).toUInt32 &&& Int32.toUInt32 31)).toInt32) &&& (nI 858993459))))]) hx hb dJ6_bitCount_0f7a4_23 rfl hl (by decide) rfl (fun ls hl => ?_)
  refine lv_iload_n hx hb dJ6_bitCount_0f7a4_24 rfl (lv_at hl 0 rfl) ?_
  refine lv_iload_n hx hb dJ6_bitCount_0f7a4_25 rfl (lv_at hl 0 rfl) ?_
  refine lv_iconst (v := nI 4) hx hb dJ6_bitCount_0f7a4_26 rfl ?_
  refine lv_iushr hx hb dJ6_bitCount_0f7a4_27 rfl ?_
  refine lv_iadd hx hb dJ6_bitCount_0f7a4_28 ?_
  refine lv_ldcw hx hb hown hk267 dJ6_bitCount_0f7a4_29 ?_
  refine lv_iand hx hb dJ6_bitCount_0f7a4_32 ?_
  refine lv_istore_n (lv' := [(0, .int ((((((nI v) - ((((nI v).toUInt32 >>> ((nI 1).toUInt32 &&& Int32.toUInt32 31)).toInt32) &&& (nI 1431655765))) &&& (nI 858993459)) + (((((nI v) - ((((nI v).toUInt32 >>> ((nI 1).toUInt32 &&& Int32.toUInt32 31)).toInt32) &&& (nI 1431655765))).toUInt32 >>> ((nI 2).toUInt32 &&& Int32.toUInt32 31)).toInt32) &&& (nI 858993459))) + ((((((nI v) - ((((nI v).toUInt32 >>> ((nI 1).toUInt32 &&& Int32.toUInt32 31)).toInt32) &&& (nI 1431655765))) &&& (nI 858993459)) + (((((nI v) - ((((nI v).toUInt32 >>> ((nI 1).toUInt32 &&& Int32.toUInt32 31)).toInt32) &&& (nI 1431655765))).toUInt32 >>> ((nI 2).toUInt32 &&& Int32.toUInt32 31)).toInt32) &&& (nI 858993459))).toUInt32 >>> ((nI 4).toUInt32 &&& Int32.toUInt32 31)).toInt32)) &&& (nI 252645135)))]) hx hb dJ6_bitCount_0f7a4_33 rfl hl (by decide) rfl (fun ls hl => ?_)
  refine lv_iload_n hx hb dJ6_bitCount_0f7a4_34 rfl (lv_at hl 0 rfl) ?_
  refine lv_iload_n hx hb dJ6_bitCount_0f7a4_35 rfl (lv_at hl 0 rfl) ?_
  refine lv_bipush (v := nI 8) hx hb dJ6_bitCount_0f7a4_36 rfl ?_
  refine lv_iushr hx hb dJ6_bitCount_0f7a4_38 rfl ?_
  refine lv_iadd hx hb dJ6_bitCount_0f7a4_39 ?_
  refine lv_istore_n (lv' := [(0, .int (((((((nI v) - ((((nI v).toUInt32 >>> ((nI 1).toUInt32 &&& Int32.toUInt32 31)).toInt32) &&& (nI 1431655765))) &&& (nI 858993459)) + (((((nI v) - ((((nI v).toUInt32 >>> ((nI 1).toUInt32 &&& Int32.toUInt32 31)).toInt32) &&& (nI 1431655765))).toUInt32 >>> ((nI 2).toUInt32 &&& Int32.toUInt32 31)).toInt32) &&& (nI 858993459))) + ((((((nI v) - ((((nI v).toUInt32 >>> ((nI 1).toUInt32 &&& Int32.toUInt32 31)).toInt32) &&& (nI 1431655765))) &&& (nI 858993459)) + (((((nI v) - ((((nI v).toUInt32 >>> ((nI 1).toUInt32 &&& Int32.toUInt32 31)).toInt32) &&& (nI 1431655765))).toUInt32 >>> ((nI 2).toUInt32 &&& Int32.toUInt32 31)).toInt32) &&& (nI 858993459))).toUInt32 >>> ((nI 4).toUInt32 &&& Int32.toUInt32 31)).toInt32)) &&& (nI 252645135)) + ((((((((nI v) - ((((nI v).toUInt32 >>> ((nI 1).toUInt32 &&& Int32.toUInt32 31)).toInt32) &&& (nI 1431655765))) &&& (nI 858993459)) + (((((nI v) - ((((nI v).toUInt32 >>> ((nI 1).toUInt32 &&& Int32.toUInt32 31)).toInt32) &&& (nI 1431655765))).toUInt32 >>> ((nI 2).toUInt32 &&& Int32.toUInt32 31)).toInt32) &&& (nI 858993459))) + ((((((nI v) - ((((nI v).toUInt32 >>> ((nI 1).toUInt32 &&& Int32.toUInt32 31)).toInt32) &&& (nI 1431655765))) &&& (nI 858993459)) + (((((nI v) - ((((nI v).toUInt32 >>> ((nI 1).toUInt32 &&& Int32.toUInt32 31)).toInt32) &&& (nI 1431655765))).toUInt32 >>> ((nI 2).toUInt32 &&& Int32.toUInt32 31)).toInt32) &&& (nI 858993459))).toUInt32 >>> ((nI 4).toUInt32 &&& Int32.toUInt32 31)).toInt32)) &&& (nI 252645135)).toUInt32 >>> ((nI 8).toUInt32 &&& Int32.toUInt32 31)).toInt32)))]) hx hb dJ6_bitCount_0f7a4_40 rfl hl (by decide) rfl (fun ls hl => ?_)
  refine lv_iload_n hx hb dJ6_bitCount_0f7a4_41 rfl (lv_at hl 0 rfl) ?_
  refine lv_iload_n hx hb dJ6_bitCount_0f7a4_42 rfl (lv_at hl 0 rfl) ?_
  refine lv_bipush (v := nI 16) hx hb dJ6_bitCount_0f7a4_43 rfl ?_
  refine lv_iushr hx hb dJ6_bitCount_0f7a4_45 rfl ?_
  refine lv_iadd hx hb dJ6_bitCount_0f7a4_46 ?_
  refine lv_istore_n (lv' := [(0, .int ((((((((nI v) - ((((nI v).toUInt32 >>> ((nI 1).toUInt32 &&& Int32.toUInt32 31)).toInt32) &&& (nI 1431655765))) &&& (nI 858993459)) + (((((nI v) - ((((nI v).toUInt32 >>> ((nI 1).toUInt32 &&& Int32.toUInt32 31)).toInt32) &&& (nI 1431655765))).toUInt32 >>> ((nI 2).toUInt32 &&& Int32.toUInt32 31)).toInt32) &&& (nI 858993459))) + ((((((nI v) - ((((nI v).toUInt32 >>> ((nI 1).toUInt32 &&& Int32.toUInt32 31)).toInt32) &&& (nI 1431655765))) &&& (nI 858993459)) + (((((nI v) - ((((nI v).toUInt32 >>> ((nI 1).toUInt32 &&& Int32.toUInt32 31)).toInt32) &&& (nI 1431655765))).toUInt32 >>> ((nI 2).toUInt32 &&& Int32.toUInt32 31)).toInt32) &&& (nI 858993459))).toUInt32 >>> ((nI 4).toUInt32 &&& Int32.toUInt32 31)).toInt32)) &&& (nI 252645135)) + ((((((((nI v) - ((((nI v).toUInt32 >>> ((nI 1).toUInt32 &&& Int32.toUInt32 31)).toInt32) &&& (nI 1431655765))) &&& (nI 858993459)) + (((((nI v) - ((((nI v).toUInt32 >>> ((nI 1).toUInt32 &&& Int32.toUInt32 31)).toInt32) &&& (nI 1431655765))).toUInt32 >>> ((nI 2).toUInt32 &&& Int32.toUInt32 31)).toInt32) &&& (nI 858993459))) + ((((((nI v) - ((((nI v).toUInt32 >>> ((nI 1).toUInt32 &&& Int32.toUInt32 31)).toInt32) &&& (nI 1431655765))) &&& (nI 858993459)) + (((((nI v) - ((((nI v).toUInt32 >>> ((nI 1).toUInt32 &&& Int32.toUInt32 31)).toInt32) &&& (nI 1431655765))).toUInt32 >>> ((nI 2).toUInt32 &&& Int32.toUInt32 31)).toInt32) &&& (nI 858993459))).toUInt32 >>> ((nI 4).toUInt32 &&& Int32.toUInt32 31)).toInt32)) &&& (nI 252645135)).toUInt32 >>> ((nI 8).toUInt32 &&& Int32.toUInt32 31)).toInt32)) + (((((((((nI v) - ((((nI v).toUInt32 >>> ((nI 1).toUInt32 &&& Int32.toUInt32 31)).toInt32) &&& (nI 1431655765))) &&& (nI 858993459)) + (((((nI v) - ((((nI v).toUInt32 >>> ((nI 1).toUInt32 &&& Int32.toUInt32 31)).toInt32) &&& (nI 1431655765))).toUInt32 >>> ((nI 2).toUInt32 &&& Int32.toUInt32 31)).toInt32) &&& (nI 858993459))) + ((((((nI v) - ((((nI v).toUInt32 >>> ((nI 1).toUInt32 &&& Int32.toUInt32 31)).toInt32) &&& (nI 1431655765))) &&& (nI 858993459)) + (((((nI v) - ((((nI v).toUInt32 >>> ((nI 1).toUInt32 &&& Int32.toUInt32 31)).toInt32) &&& (nI 1431655765))).toUInt32 >>> ((nI 2).toUInt32 &&& Int32.toUInt32 31)).toInt32) &&& (nI 858993459))).toUInt32 >>> ((nI 4).toUInt32 &&& Int32.toUInt32 31)).toInt32)) &&& (nI 252645135)) + ((((((((nI v) - ((((nI v).toUInt32 >>> ((nI 1).toUInt32 &&& Int32.toUInt32 31)).toInt32) &&& (nI 1431655765))) &&& (nI 858993459)) + (((((nI v) - ((((nI v).toUInt32 >>> ((nI 1).toUInt32 &&& Int32.toUInt32 31)).toInt32) &&& (nI 1431655765))).toUInt32 >>> ((nI 2).toUInt32 &&& Int32.toUInt32 31)).toInt32) &&& (nI 858993459))) + ((((((nI v) - ((((nI v).toUInt32 >>> ((nI 1).toUInt32 &&& Int32.toUInt32 31)).toInt32) &&& (nI 1431655765))) &&& (nI 858993459)) + (((((nI v) - ((((nI v).toUInt32 >>> ((nI 1).toUInt32 &&& Int32.toUInt32 31)).toInt32) &&& (nI 1431655765))).toUInt32 >>> ((nI 2).toUInt32 &&& Int32.toUInt32 31)).toInt32) &&& (nI 858993459))).toUInt32 >>> ((nI 4).toUInt32 &&& Int32.toUInt32 31)).toInt32)) &&& (nI 252645135)).toUInt32 >>> ((nI 8).toUInt32 &&& Int32.toUInt32 31)).toInt32)).toUInt32 >>> ((nI 16).toUInt32 &&& Int32.toUInt32 31)).toInt32)))]) hx hb dJ6_bitCount_0f7a4_47 rfl hl (by decide) rfl (fun ls hl => ?_)
  refine lv_iload_n hx hb dJ6_bitCount_0f7a4_48 rfl (lv_at hl 0 rfl) ?_
  refine lv_bipush (v := nI 63) hx hb dJ6_bitCount_0f7a4_49 rfl ?_
  refine lv_iand hx hb dJ6_bitCount_0f7a4_51 ?_
  exact hend _ _ _ _ _ (show (((((((((nI v) - ((((nI v).toUInt32 >>> ((nI 1).toUInt32 &&& Int32.toUInt32 31)).toInt32) &&& (nI 1431655765))) &&& (nI 858993459)) + (((((nI v) - ((((nI v).toUInt32 >>> ((nI 1).toUInt32 &&& Int32.toUInt32 31)).toInt32) &&& (nI 1431655765))).toUInt32 >>> ((nI 2).toUInt32 &&& Int32.toUInt32 31)).toInt32) &&& (nI 858993459))) + ((((((nI v) - ((((nI v).toUInt32 >>> ((nI 1).toUInt32 &&& Int32.toUInt32 31)).toInt32) &&& (nI 1431655765))) &&& (nI 858993459)) + (((((nI v) - ((((nI v).toUInt32 >>> ((nI 1).toUInt32 &&& Int32.toUInt32 31)).toInt32) &&& (nI 1431655765))).toUInt32 >>> ((nI 2).toUInt32 &&& Int32.toUInt32 31)).toInt32) &&& (nI 858993459))).toUInt32 >>> ((nI 4).toUInt32 &&& Int32.toUInt32 31)).toInt32)) &&& (nI 252645135)) + ((((((((nI v) - ((((nI v).toUInt32 >>> ((nI 1).toUInt32 &&& Int32.toUInt32 31)).toInt32) &&& (nI 1431655765))) &&& (nI 858993459)) + (((((nI v) - ((((nI v).toUInt32 >>> ((nI 1).toUInt32 &&& Int32.toUInt32 31)).toInt32) &&& (nI 1431655765))).toUInt32 >>> ((nI 2).toUInt32 &&& Int32.toUInt32 31)).toInt32) &&& (nI 858993459))) + ((((((nI v) - ((((nI v).toUInt32 >>> ((nI 1).toUInt32 &&& Int32.toUInt32 31)).toInt32) &&& (nI 1431655765))) &&& (nI 858993459)) + (((((nI v) - ((((nI v).toUInt32 >>> ((nI 1).toUInt32 &&& Int32.toUInt32 31)).toInt32) &&& (nI 1431655765))).toUInt32 >>> ((nI 2).toUInt32 &&& Int32.toUInt32 31)).toInt32) &&& (nI 858993459))).toUInt32 >>> ((nI 4).toUInt32 &&& Int32.toUInt32 31)).toInt32)) &&& (nI 252645135)).toUInt32 >>> ((nI 8).toUInt32 &&& Int32.toUInt32 31)).toInt32)) + (((((((((nI v) - ((((nI v).toUInt32 >>> ((nI 1).toUInt32 &&& Int32.toUInt32 31)).toInt32) &&& (nI 1431655765))) &&& (nI 858993459)) + (((((nI v) - ((((nI v).toUInt32 >>> ((nI 1).toUInt32 &&& Int32.toUInt32 31)).toInt32) &&& (nI 1431655765))).toUInt32 >>> ((nI 2).toUInt32 &&& Int32.toUInt32 31)).toInt32) &&& (nI 858993459))) + ((((((nI v) - ((((nI v).toUInt32 >>> ((nI 1).toUInt32 &&& Int32.toUInt32 31)).toInt32) &&& (nI 1431655765))) &&& (nI 858993459)) + (((((nI v) - ((((nI v).toUInt32 >>> ((nI 1).toUInt32 &&& Int32.toUInt32 31)).toInt32) &&& (nI 1431655765))).toUInt32 >>> ((nI 2).toUInt32 &&& Int32.toUInt32 31)).toInt32) &&& (nI 858993459))).toUInt32 >>> ((nI 4).toUInt32 &&& Int32.toUInt32 31)).toInt32)) &&& (nI 252645135)) + ((((((((nI v) - ((((nI v).toUInt32 >>> ((nI 1).toUInt32 &&& Int32.toUInt32 31)).toInt32) &&& (nI 1431655765))) &&& (nI 858993459)) + (((((nI v) - ((((nI v).toUInt32 >>> ((nI 1).toUInt32 &&& Int32.toUInt32 31)).toInt32) &&& (nI 1431655765))).toUInt32 >>> ((nI 2).toUInt32 &&& Int32.toUInt32 31)).toInt32) &&& (nI 858993459))) + ((((((nI v) - ((((nI v).toUInt32 >>> ((nI 1).toUInt32 &&& Int32.toUInt32 31)).toInt32) &&& (nI 1431655765))) &&& (nI 858993459)) + (((((nI v) - ((((nI v).toUInt32 >>> ((nI 1).toUInt32 &&& Int32.toUInt32 31)).toInt32) &&& (nI 1431655765))).toUInt32 >>> ((nI 2).toUInt32 &&& Int32.toUInt32 31)).toInt32) &&& (nI 858993459))).toUInt32 >>> ((nI 4).toUInt32 &&& Int32.toUInt32 31)).toInt32)) &&& (nI 252645135)).toUInt32 >>> ((nI 8).toUInt32 &&& Int32.toUInt32 31)).toInt32)).toUInt32 >>> ((nI 16).toUInt32 &&& Int32.toUInt32 31)).toInt32)) &&& (nI 63)) = nI (pop4 v) from (show ∀ v, v < 16 → (((((((((nI v) - ((((nI v).toUInt32 >>> ((nI 1).toUInt32 &&& Int32.toUInt32 31)).toInt32) &&& (nI 1431655765))) &&& (nI 858993459)) + (((((nI v) - ((((nI v).toUInt32 >>> ((nI 1).toUInt32 &&& Int32.toUInt32 31)).toInt32) &&& (nI 1431655765))).toUInt32 >>> ((nI 2).toUInt32 &&& Int32.toUInt32 31)).toInt32) &&& (nI 858993459))) + ((((((nI v) - ((((nI v).toUInt32 >>> ((nI 1).toUInt32 &&& Int32.toUInt32 31)).toInt32) &&& (nI 1431655765))) &&& (nI 858993459)) + (((((nI v) - ((((nI v).toUInt32 >>> ((nI 1).toUInt32 &&& Int32.toUInt32 31)).toInt32) &&& (nI 1431655765))).toUInt32 >>> ((nI 2).toUInt32 &&& Int32.toUInt32 31)).toInt32) &&& (nI 858993459))).toUInt32 >>> ((nI 4).toUInt32 &&& Int32.toUInt32 31)).toInt32)) &&& (nI 252645135)) + ((((((((nI v) - ((((nI v).toUInt32 >>> ((nI 1).toUInt32 &&& Int32.toUInt32 31)).toInt32) &&& (nI 1431655765))) &&& (nI 858993459)) + (((((nI v) - ((((nI v).toUInt32 >>> ((nI 1).toUInt32 &&& Int32.toUInt32 31)).toInt32) &&& (nI 1431655765))).toUInt32 >>> ((nI 2).toUInt32 &&& Int32.toUInt32 31)).toInt32) &&& (nI 858993459))) + ((((((nI v) - ((((nI v).toUInt32 >>> ((nI 1).toUInt32 &&& Int32.toUInt32 31)).toInt32) &&& (nI 1431655765))) &&& (nI 858993459)) + (((((nI v) - ((((nI v).toUInt32 >>> ((nI 1).toUInt32 &&& Int32.toUInt32 31)).toInt32) &&& (nI 1431655765))).toUInt32 >>> ((nI 2).toUInt32 &&& Int32.toUInt32 31)).toInt32) &&& (nI 858993459))).toUInt32 >>> ((nI 4).toUInt32 &&& Int32.toUInt32 31)).toInt32)) &&& (nI 252645135)).toUInt32 >>> ((nI 8).toUInt32 &&& Int32.toUInt32 31)).toInt32)) + (((((((((nI v) - ((((nI v).toUInt32 >>> ((nI 1).toUInt32 &&& Int32.toUInt32 31)).toInt32) &&& (nI 1431655765))) &&& (nI 858993459)) + (((((nI v) - ((((nI v).toUInt32 >>> ((nI 1).toUInt32 &&& Int32.toUInt32 31)).toInt32) &&& (nI 1431655765))).toUInt32 >>> ((nI 2).toUInt32 &&& Int32.toUInt32 31)).toInt32) &&& (nI 858993459))) + ((((((nI v) - ((((nI v).toUInt32 >>> ((nI 1).toUInt32 &&& Int32.toUInt32 31)).toInt32) &&& (nI 1431655765))) &&& (nI 858993459)) + (((((nI v) - ((((nI v).toUInt32 >>> ((nI 1).toUInt32 &&& Int32.toUInt32 31)).toInt32) &&& (nI 1431655765))).toUInt32 >>> ((nI 2).toUInt32 &&& Int32.toUInt32 31)).toInt32) &&& (nI 858993459))).toUInt32 >>> ((nI 4).toUInt32 &&& Int32.toUInt32 31)).toInt32)) &&& (nI 252645135)) + ((((((((nI v) - ((((nI v).toUInt32 >>> ((nI 1).toUInt32 &&& Int32.toUInt32 31)).toInt32) &&& (nI 1431655765))) &&& (nI 858993459)) + (((((nI v) - ((((nI v).toUInt32 >>> ((nI 1).toUInt32 &&& Int32.toUInt32 31)).toInt32) &&& (nI 1431655765))).toUInt32 >>> ((nI 2).toUInt32 &&& Int32.toUInt32 31)).toInt32) &&& (nI 858993459))) + ((((((nI v) - ((((nI v).toUInt32 >>> ((nI 1).toUInt32 &&& Int32.toUInt32 31)).toInt32) &&& (nI 1431655765))) &&& (nI 858993459)) + (((((nI v) - ((((nI v).toUInt32 >>> ((nI 1).toUInt32 &&& Int32.toUInt32 31)).toInt32) &&& (nI 1431655765))).toUInt32 >>> ((nI 2).toUInt32 &&& Int32.toUInt32 31)).toInt32) &&& (nI 858993459))).toUInt32 >>> ((nI 4).toUInt32 &&& Int32.toUInt32 31)).toInt32)) &&& (nI 252645135)).toUInt32 >>> ((nI 8).toUInt32 &&& Int32.toUInt32 31)).toInt32)).toUInt32 >>> ((nI 16).toUInt32 &&& Int32.toUInt32 31)).toInt32)) &&& (nI 63)) = nI (pop4 v) from by decide +kernel) v hv) hS dJ6_bitCount_0f7a4_52
theorem hdJ6_bitCount_0f7a4 : yJ6_bitCount_0f7a4.cls ≠ "java/lang/invoke/MethodHandle" ∧ yJ6_bitCount_0f7a4.cls ≠ "java/lang/invoke/VarHandle" ∧ (parseMethodDescriptor yJ6_bitCount_0f7a4.desc).map (fun d => d.parameters.length) = some 1 := by decide +kernel
theorem hdX0_partsSeen : yX0_partsSeen.cls = RX0 ∧ yX0_partsSeen.cls ≠ "java/lang/invoke/MethodHandle" ∧ yX0_partsSeen.cls ≠ "java/lang/invoke/VarHandle" ∧ (parseMethodDescriptor yX0_partsSeen.desc).map (fun d => d.parameters.length) = some 2 := by decide +kernel
set_option maxRecDepth 20000 in
theorem ggX0_partsSeenInAll_X0_partsSeen : GoodIn wsX0_partsSeenInAll wsX0_partsSeen := goodIn_r _ [7, 8, 9, 10, 11, 12, 13, 6, 14, 15, 16, 17, 18, 19, 20, 21, 22, 23, 24, 25, 26, 27, 28, 29, 30, 31, 32, 33, 34, 35, 36, 37, 38, 39, 40, 41, 49, 50, 51, 52, 53, 54, 55, 56, 57, 58, 59, 60, 61, 62, 63, 64, 65] (by decide +kernel) (by decide +kernel)
set_option maxRecDepth 20000 in
theorem gX0_partsSeenInAll_X0_partsSeen : GoodIn wsX0_partsSeenInAll (wsV RX0 115 RX0 yX0_partsSeen wsX0_partsSeen) := goodIn_app (goodIn_of _ (by decide +kernel)) ggX0_partsSeenInAll_X0_partsSeen
set_option maxRecDepth 20000 in
theorem ggX0_partsSeenInAll_J6_bitCount_0f7a4 : GoodIn wsX0_partsSeenInAll wsJ6_bitCount_0f7a4 := goodIn_r _ [45, 46, 47, 48] (by decide +kernel) (by decide +kernel)
set_option maxRecDepth 20000 in
theorem gX0_partsSeenInAll_J6_bitCount_0f7a4 : GoodIn wsX0_partsSeenInAll (va_wsS RX0 118 yJ6_bitCount_0f7a4 wsJ6_bitCount_0f7a4) := goodIn_app (goodIn_of _ (by decide +kernel)) ggX0_partsSeenInAll_J6_bitCount_0f7a4
set_option maxHeartbeats 4000000 in
set_option maxRecDepth 100000 in
theorem kX0_partsSeenInAll (l : Launch) (dC : Nat → ClassId) (dI : Nat → Nat → Nat) (cI : ClassId) (q n : Nat → Nat) (A : Nat → Nat → Nat) (X : Nat → Nat → Int32) (hW : WF n A) (hR : RG n A X) (tH : Nat) (sz : Nat) (hst : 0 < n 6) : Met l yX0_partsSeenInAll wsX0_partsSeenInAll ({ frames := 4, cells := 0, slots := 0, locals := 101 }) (rsP tH [.ref (q 0)] sz (dC, dI) [(cI, .int)] (wG cI q n X)) (roQi (nI (sAll n A)) sz) 0 0 (va_A [] sz) := by
  refine rs_met_i (by decide) rfl (Nat.le_of_ble_eq_true rfl) ?_
  intro pp ee ss mm aa bb me cd RR QQ Z hx hb hml hown hts hRf hRl hP hK hA hS hZT hend ls hl
  have hown : ss.vm.findClass RX0 = some mm.cls := hown
  have hRf : 4 ≤ RR.frames := hRf
  have hRl : 101 ≤ RR.locals := hRl
  have hl : lv_has ls 3 [(0, .ref (q 0))] := hl
  obtain ⟨w0, w1, w2, w3, w4, w5, w6, w7, w8, wA0, wA1, wA2⟩ := id hW
  have wC : n 0 * n 1 ≤ 42 := Nat.mul_le_mul w0 w1
  have hf49 := hts (.fieldLink RX0 49 "StatueSquare$Ground" "benchCount" "I") (List.mem_of_getElem? (i := 1) rfl)
  have hinX0 : ∀ w ∈ u_ws RX0 TX0 17, w ∈ wsX0_partsSeenInAll := fun _ h => List.mem_cons_of_mem _ (List.mem_append_right _ h)
  have hf36 := hts (.fieldLink RX0 36 "StatueSquare$Ground" "statueCell" "I") (List.mem_of_getElem? (i := 2) rfl)
  refine lv_iconst (v := nI 0) hx hb dX0_partsSeenInAll_0 rfl ?_
  refine lv_istore_n (lv' := [(1, .int (nI 0)), (0, .ref (q 0))]) hx hb dX0_partsSeenInAll_1 rfl hl (by decide) rfl (fun ls hl => ?_)
  refine lv_iconst (v := nI 0) hx hb dX0_partsSeenInAll_2 rfl ?_
  refine lv_istore_n (lv' := [(2, .int (nI 0)), (1, .int (nI 0)), (0, .ref (q 0))]) hx hb dX0_partsSeenInAll_3 rfl hl (by decide) rfl (fun ls hl => ?_)
  have L4 : ∀ (fuel : Nat) (k : Nat) (hk : k ≤ n 2) (hfu : n 2 - k < fuel) (H : Heap) (locs : List Loc), va_P (dC, dI) vwCl (wG cI q n X) H → va_S Z ss.heap H locs → ∀ (ls : Array Slot), lv_has ls 3 [(0, .ref (q 0)), (1, .int (nI (sumN (fun b => pop4 (sSeen n A b (n 6 - 1))) k))), (2, .int (nI k))] → W pp l ee RR ss mm aa bb me cd H locs 0 0 QQ (F0 mm 4 ls []) := by
    intro fuel
    induction fuel with
    | zero => intro k hk hfu; exact absurd hfu (Nat.not_lt_zero _)
    | succ fuel ih =>
      intro k hk hfu H locs hP hS ls hl
      refine lv_iload_n hx hb dX0_partsSeenInAll_4 rfl (lv_at hl 2 rfl) ?_
      refine lv_aload_n hx hb dX0_partsSeenInAll_5 rfl (lv_at hl 0 rfl) ?_
      refine x_get (D := (dC, dI)) (ci := 0) (v := .int (nI (n 2))) (C := RX0) (T := TX0) (N := 17) hx hb hts hinX0 hown hK hP 0 rfl rfl 2 (Nat.le_of_ble_eq_true rfl) hf49 rfl rfl dX0_partsSeenInAll_6 ?_
      refine x_icmp_ge (tgt := 33) hx hb (by omega) (by omega) dX0_partsSeenInAll_9 (by decide) (fun c9 => ?_) (fun c9 => ?_)
      · skip
        refine lv_iload_n hx hb dX0_partsSeenInAll_33 rfl (lv_at hl 1 rfl) ?_
        exact hend _ _ _ _ _ (congrArg nI (show sumN (fun b => pop4 (sSeen n A b (n 6 - 1))) k = sumN (fun b => pop4 (sSeen n A b (n 6 - 1))) (n 2) from by congr 1; omega)) hS dX0_partsSeenInAll_34
      · skip
        refine lv_iload_n hx hb dX0_partsSeenInAll_12 rfl (lv_at hl 1 rfl) ?_
        refine lv_aload_n hx hb dX0_partsSeenInAll_13 rfl (lv_at hl 0 rfl) ?_
        refine lv_iload_n hx hb dX0_partsSeenInAll_14 rfl (lv_at hl 2 rfl) ?_
        refine lv_aload_n hx hb dX0_partsSeenInAll_15 rfl (lv_at hl 0 rfl) ?_
        refine x_get (D := (dC, dI)) (ci := 0) (v := .int (stI (n 6))) (C := RX0) (T := TX0) (N := 17) hx hb hts hinX0 hown hK hP 0 rfl rfl 15 (Nat.le_of_ble_eq_true rfl) hf36 rfl rfl dX0_partsSeenInAll_16 ?_
        refine x_top (stI_pos hst) ?_
        refine rsV_i (As := [.int (nI k), .int (nI (n 6 - 1))]) (rest := [.int (nI (sumN (fun b => pop4 (sSeen n A b (n 6 - 1))) k))]) ⟨hx, hb, hml, hown, hts⟩ (kX0_partsSeen l dC dI cI q n A X hW hR tH k (n 6 - 1) _ (by omega) (by omega)) (cwV 2 hts gX0_partsSeenInAll_X0_partsSeen rfl rfl rfl hdX0_partsSeen ⟨Nat.le_trans (Nat.le_of_ble_eq_true rfl) hRf, Nat.le_trans (Nat.le_of_ble_eq_true rfl) hRl⟩) (va_recv hK hP (ci := 0) (q0 := 0) rfl rfl) hK hP rfl hl.1 rfl (Nat.le_of_ble_eq_true rfl) dX0_partsSeenInAll_19 ⟨Nat.zero_le _, Nat.zero_le _⟩ hP hS hA hZT (fun H locs hP hS => ?_)
        refine roS_i (As := [.int (nI (sSeen n A k (n 6 - 1)))]) (rest := [.int (nI (sumN (fun b => pop4 (sSeen n A b (n 6 - 1))) k))]) ⟨hx, hb, hml, hown, hts⟩ (kJ6_bitCount_0f7a4 l dC dI (sSeen n A k (n 6 - 1)) _ (sSeen_lt _ _ _ _)) (va_cwS 1 hts gX0_partsSeenInAll_J6_bitCount_0f7a4 rfl rfl rfl hdJ6_bitCount_0f7a4 ⟨Nat.le_trans (Nat.le_of_ble_eq_true rfl) hRf, Nat.le_trans (Nat.le_of_ble_eq_true rfl) hRl⟩) (hK.sub [] rfl) (hP.sub [] rfl) rfl hl.1 rfl (Nat.le_of_ble_eq_true rfl) dX0_partsSeenInAll_22 ⟨Nat.zero_le _, Nat.zero_le _⟩ hP hS hA (fun H locs hP hS => ?_)
        refine x_iadd hx hb dX0_partsSeenInAll_25 ?_
        refine lv_istore_n (lv' := [(1, .int (nI ((sumN (fun b => pop4 (sSeen n A b (n 6 - 1))) k) + (pop4 (sSeen n A k (n 6 - 1)))))), (0, .ref (q 0)), (2, .int (nI k))]) hx hb dX0_partsSeenInAll_26 rfl hl (by decide) rfl (fun ls hl => ?_)
        refine lv_iinc (v := (nI (k + 1))) (lv' := [(2, .int (nI (k + 1))), (1, .int (nI ((sumN (fun b => pop4 (sSeen n A b (n 6 - 1))) k) + (pop4 (sSeen n A k (n 6 - 1)))))), (0, .ref (q 0))]) hx hb dX0_partsSeenInAll_27 hl (k := 2) rfl (nI_add _ _) (by decide) rfl (fun ls hl => ?_)
        refine lv_goto (tgt := 4) hx hb dX0_partsSeenInAll_30 (by decide) ?_
        exact ih (k + 1) (by omega) (by omega) _ _ hP hS _ (lv_sub hl [2, 1, 0] rfl)
  exact L4 _ 0 (by omega) (Nat.lt_succ_self _) _ _ hP hS _ (lv_sub hl [2, 1, 0] rfl)
set_option maxRecDepth 20000 in
theorem ggX0_hiders_X0_inTheWay : GoodIn wsX0_hiders wsX0_inTheWay := goodIn_r _ [8, 9, 10, 11, 12, 13, 7, 14, 15, 16, 17, 18, 19, 20, 21, 22, 23, 24, 25, 26, 27, 28, 29, 30, 31, 32, 33, 34, 35, 36, 37, 38, 39, 40, 41, 42, 43, 44, 45, 46, 47, 48, 49, 50, 51, 52] (by decide +kernel) (by decide +kernel)
set_option maxRecDepth 20000 in
theorem gX0_hiders_X0_inTheWay : GoodIn wsX0_hiders (wsV RX0 111 RX0 yX0_inTheWay wsX0_inTheWay) := goodIn_app (goodIn_of _ (by decide +kernel)) ggX0_hiders_X0_inTheWay
set_option maxHeartbeats 4000000 in
set_option maxRecDepth 100000 in
theorem kX0_hiders (l : Launch) (dC : Nat → ClassId) (dI : Nat → Nat → Nat) (cI : ClassId) (q n : Nat → Nat) (A : Nat → Nat → Nat) (X : Nat → Nat → Int32) (hW : WF n A) (hR : RG n A X) (b : Nat) (sz : Nat) (hst : 0 < n 6) (hb0 : b < n 2) : Met l yX0_hiders wsX0_hiders ({ frames := 3, cells := 0, slots := 0, locals := 77 }) (roP [.ref (q 0), .int (nI b)] sz (dC, dI) [(cI, .int)] (wG cI q n X)) (roQi (nI (sFoot n A b (n 4))) sz) 0 0 (va_A [] sz) := by
  refine ro_met_i (by decide) rfl (Nat.le_of_ble_eq_true rfl) ?_
  intro pp ee ss mm aa bb me cd RR QQ Z hx hb hml hown hts hRf hRl hP hK hA hS hend ls hl
  have hown : ss.vm.findClass RX0 = some mm.cls := hown
  have hRf : 3 ≤ RR.frames := hRf
  have hRl : 77 ≤ RR.locals := hRl
  have hl : lv_has ls 2 [(0, .ref (q 0)), (1, .int (nI b))] := hl
  obtain ⟨w0, w1, w2, w3, w4, w5, w6, w7, w8, wA0, wA1, wA2⟩ := id hW
  have wC : n 0 * n 1 ≤ 42 := Nat.mul_le_mul w0 w1
  have hf36 := hts (.fieldLink RX0 36 "StatueSquare$Ground" "statueCell" "I") (List.mem_of_getElem? (i := 1) rfl)
  have hinX0 : ∀ w ∈ u_ws RX0 TX0 17, w ∈ wsX0_hiders := fun _ h => List.mem_cons_of_mem _ (List.mem_append_right _ h)
  have hf78 := hts (.fieldLink RX0 78 "StatueSquare$Ground" "statueBlock" "I") (List.mem_of_getElem? (i := 2) rfl)
  have hf71 := hts (.fieldLink RX0 71 "StatueSquare$Ground" "yearNow" "I") (List.mem_of_getElem? (i := 3) rfl)
  refine lv_aload_n hx hb dX0_hiders_0 rfl (lv_at hl 0 rfl) ?_
  refine lv_iload_n hx hb dX0_hiders_1 rfl (lv_at hl 1 rfl) ?_
  refine lv_aload_n hx hb dX0_hiders_2 rfl (lv_at hl 0 rfl) ?_
  refine x_get (D := (dC, dI)) (ci := 0) (v := .int (stI (n 6))) (C := RX0) (T := TX0) (N := 17) hx hb hts hinX0 hown hK hP 0 rfl rfl 15 (Nat.le_of_ble_eq_true rfl) hf36 rfl rfl dX0_hiders_3 ?_
  refine x_top (stI_pos hst) ?_
  refine lv_aload_n hx hb dX0_hiders_6 rfl (lv_at hl 0 rfl) ?_
  refine x_get (D := (dC, dI)) (ci := 0) (v := .int (nI (n 7))) (C := RX0) (T := TX0) (N := 17) hx hb hts hinX0 hown hK hP 0 rfl rfl 16 (Nat.le_of_ble_eq_true rfl) hf78 rfl rfl dX0_hiders_7 ?_
  refine lv_iconst (v := nI 1) hx hb dX0_hiders_10 rfl ?_
  refine x_iadd hx hb dX0_hiders_11 ?_
  refine lv_aload_n hx hb dX0_hiders_12 rfl (lv_at hl 0 rfl) ?_
  refine x_get (D := (dC, dI)) (ci := 0) (v := .int (nI (n 4))) (C := RX0) (T := TX0) (N := 17) hx hb hts hinX0 hown hK hP 0 rfl rfl 13 (Nat.le_of_ble_eq_true rfl) hf71 rfl rfl dX0_hiders_13 ?_
  refine roV_i (As := [.int (nI b), .int (nI (n 6 - 1)), .int (nI ((n 7) + 1)), .int (nI (n 4))]) (rest := []) ⟨hx, hb, hml, hown, hts⟩ (kX0_inTheWay l dC dI cI q n A X hW hR b (n 6 - 1) ((n 7) + 1) (n 4) _ (by omega) (by omega) (by omega) (by omega)) (cwV 4 hts gX0_hiders_X0_inTheWay rfl rfl rfl hdX0_inTheWay ⟨Nat.le_trans (Nat.le_of_ble_eq_true rfl) hRf, Nat.le_trans (Nat.le_of_ble_eq_true rfl) hRl⟩) (va_recv hK hP (ci := 0) (q0 := 0) rfl rfl) hK hP rfl hl.1 rfl (Nat.le_of_ble_eq_true rfl) dX0_hiders_16 ⟨Nat.zero_le _, Nat.zero_le _⟩ hP hS hA (fun H locs hP hS => ?_)
  exact hend _ _ _ _ _ rfl hS dX0_hiders_19
theorem hdX0_hiders : yX0_hiders.cls = RX0 ∧ yX0_hiders.cls ≠ "java/lang/invoke/MethodHandle" ∧ yX0_hiders.cls ≠ "java/lang/invoke/VarHandle" ∧ (parseMethodDescriptor yX0_hiders.desc).map (fun d => d.parameters.length) = some 1 := by decide +kernel
set_option maxRecDepth 20000 in
theorem ggX0_allHiders_X0_hiders : GoodIn wsX0_allHiders wsX0_hiders := goodIn_r _ [6, 7, 8, 9, 10, 11, 12, 5, 13, 14, 15, 16, 17, 18, 19, 20, 21, 22, 23, 24, 25, 26, 27, 28, 29, 30, 31, 32, 33, 34, 35, 36, 37, 38, 39, 40, 41, 42, 43, 44, 45, 46, 47, 48, 49, 50, 51, 52, 53, 54, 55, 56, 57] (by decide +kernel) (by decide +kernel)
set_option maxRecDepth 20000 in
theorem gX0_allHiders_X0_hiders : GoodIn wsX0_allHiders (wsV RX0 123 RX0 yX0_hiders wsX0_hiders) := goodIn_app (goodIn_of _ (by decide +kernel)) ggX0_allHiders_X0_hiders
set_option maxHeartbeats 4000000 in
set_option maxRecDepth 100000 in
theorem kX0_allHiders (l : Launch) (dC : Nat → ClassId) (dI : Nat → Nat → Nat) (cI : ClassId) (q n : Nat → Nat) (A : Nat → Nat → Nat) (X : Nat → Nat → Int32) (hW : WF n A) (hR : RG n A X) (sz : Nat) (hst : 0 < n 6) : Met l yX0_allHiders wsX0_allHiders ({ frames := 4, cells := 0, slots := 0, locals := 98 }) (roP [.ref (q 0)] sz (dC, dI) [(cI, .int)] (wG cI q n X)) (roQi (nI (sHid n A)) sz) 0 0 (va_A [] sz) := by
  refine ro_met_i (by decide) rfl (Nat.le_of_ble_eq_true rfl) ?_
  intro pp ee ss mm aa bb me cd RR QQ Z hx hb hml hown hts hRf hRl hP hK hA hS hend ls hl
  have hown : ss.vm.findClass RX0 = some mm.cls := hown
  have hRf : 4 ≤ RR.frames := hRf
  have hRl : 98 ≤ RR.locals := hRl
  have hl : lv_has ls 3 [(0, .ref (q 0))] := hl
  obtain ⟨w0, w1, w2, w3, w4, w5, w6, w7, w8, wA0, wA1, wA2⟩ := id hW
  have wC : n 0 * n 1 ≤ 42 := Nat.mul_le_mul w0 w1
  have hf49 := hts (.fieldLink RX0 49 "StatueSquare$Ground" "benchCount" "I") (List.mem_of_getElem? (i := 1) rfl)
  have hinX0 : ∀ w ∈ u_ws RX0 TX0 17, w ∈ wsX0_allHiders := fun _ h => List.mem_cons_of_mem _ (List.mem_append_right _ h)
  refine lv_iconst (v := nI 0) hx hb dX0_allHiders_0 rfl ?_
  refine lv_istore_n (lv' := [(1, .int (nI 0)), (0, .ref (q 0))]) hx hb dX0_allHiders_1 rfl hl (by decide) rfl (fun ls hl => ?_)
  refine lv_iconst (v := nI 0) hx hb dX0_allHiders_2 rfl ?_
  refine lv_istore_n (lv' := [(2, .int (nI 0)), (1, .int (nI 0)), (0, .ref (q 0))]) hx hb dX0_allHiders_3 rfl hl (by decide) rfl (fun ls hl => ?_)
  have L4 : ∀ (fuel : Nat) (k : Nat) (hk : k ≤ n 2) (hfu : n 2 - k < fuel) (H : Heap) (locs : List Loc), va_P (dC, dI) vwCl (wG cI q n X) H → va_S Z ss.heap H locs → ∀ (ls : Array Slot), lv_has ls 3 [(0, .ref (q 0)), (1, .int (nI (orM (fun b => sFoot n A b (n 4)) k))), (2, .int (nI k))] → W pp l ee RR ss mm aa bb me cd H locs 0 0 QQ (F0 mm 4 ls []) := by
    intro fuel
    induction fuel with
    | zero => intro k hk hfu; exact absurd hfu (Nat.not_lt_zero _)
    | succ fuel ih =>
      intro k hk hfu H locs hP hS ls hl
      refine lv_iload_n hx hb dX0_allHiders_4 rfl (lv_at hl 2 rfl) ?_
      refine lv_aload_n hx hb dX0_allHiders_5 rfl (lv_at hl 0 rfl) ?_
      refine x_get (D := (dC, dI)) (ci := 0) (v := .int (nI (n 2))) (C := RX0) (T := TX0) (N := 17) hx hb hts hinX0 hown hK hP 0 rfl rfl 2 (Nat.le_of_ble_eq_true rfl) hf49 rfl rfl dX0_allHiders_6 ?_
      refine x_icmp_ge (tgt := 26) hx hb (by omega) (by omega) dX0_allHiders_9 (by decide) (fun c9 => ?_) (fun c9 => ?_)
      · skip
        refine lv_iload_n hx hb dX0_allHiders_26 rfl (lv_at hl 1 rfl) ?_
        exact hend _ _ _ _ _ (congrArg nI (show orM (fun b => sFoot n A b (n 4)) k = orM (fun b => sFoot n A b (n 4)) (n 2) from by congr 1; omega)) hS dX0_allHiders_27
      · skip
        refine lv_iload_n hx hb dX0_allHiders_12 rfl (lv_at hl 1 rfl) ?_
        refine lv_aload_n hx hb dX0_allHiders_13 rfl (lv_at hl 0 rfl) ?_
        refine lv_iload_n hx hb dX0_allHiders_14 rfl (lv_at hl 2 rfl) ?_
        refine roV_i (As := [.int (nI k)]) (rest := [.int (nI (orM (fun b => sFoot n A b (n 4)) k))]) ⟨hx, hb, hml, hown, hts⟩ (kX0_hiders l dC dI cI q n A X hW hR k _ (by omega) (by omega)) (cwV 1 hts gX0_allHiders_X0_hiders rfl rfl rfl hdX0_hiders ⟨Nat.le_trans (Nat.le_of_ble_eq_true rfl) hRf, Nat.le_trans (Nat.le_of_ble_eq_true rfl) hRl⟩) (va_recv hK hP (ci := 0) (q0 := 0) rfl rfl) hK hP rfl hl.1 rfl (Nat.le_of_ble_eq_true rfl) dX0_allHiders_15 ⟨Nat.zero_le _, Nat.zero_le _⟩ hP hS hA (fun H locs hP hS => ?_)
        refine x_ior hx hb dX0_allHiders_18 ?_
        refine lv_istore_n (lv' := [(1, .int (nI ((orM (fun b => sFoot n A b (n 4)) k) ||| (sFoot n A k (n 4))))), (0, .ref (q 0)), (2, .int (nI k))]) hx hb dX0_allHiders_19 rfl hl (by decide) rfl (fun ls hl => ?_)
        refine lv_iinc (v := (nI (k + 1))) (lv' := [(2, .int (nI (k + 1))), (1, .int (nI ((orM (fun b => sFoot n A b (n 4)) k) ||| (sFoot n A k (n 4))))), (0, .ref (q 0))]) hx hb dX0_allHiders_20 hl (k := 2) rfl (nI_add _ _) (by decide) rfl (fun ls hl => ?_)
        refine lv_goto (tgt := 4) hx hb dX0_allHiders_23 (by decide) ?_
        exact ih (k + 1) (by omega) (by omega) _ _ hP hS _ (lv_sub hl [2, 1, 0] rfl)
  exact L4 _ 0 (by omega) (Nat.lt_succ_self _) _ _ hP hS _ (lv_sub hl [2, 1, 0] rfl)
set_option maxHeartbeats 4000000 in
set_option maxRecDepth 100000 in
theorem kX0_costOf (l : Launch) (dC : Nat → ClassId) (dI : Nat → Nat → Nat) (cI : ClassId) (q n : Nat → Nat) (A : Nat → Nat → Nat) (X : Nat → Nat → Int32) (hW : WF n A) (hR : RG n A X) (ts : Nat) (sz : Nat) (hts0 : ts < 1024) : Met l yX0_costOf wsX0_costOf ({ frames := 0, cells := 0, slots := 0, locals := 0 }) (roP [.ref (q 0), .int (nI ts)] sz (dC, dI) [(cI, .int)] (wG cI q n X)) (roQi (nI (sCost n A ts)) sz) 0 0 (va_A [] sz) := by
  refine ro_met_i (by decide) rfl (Nat.le_of_ble_eq_true rfl) ?_
  intro pp ee ss mm aa bb me cd RR QQ Z hx hb hml hown hts hRf hRl hP hK hA hS hend ls hl
  have hown : ss.vm.findClass RX0 = some mm.cls := hown
  have hRf : 0 ≤ RR.frames := hRf
  have hRl : 0 ≤ RR.locals := hRl
  have hl : lv_has ls 4 [(0, .ref (q 0)), (1, .int (nI ts))] := hl
  obtain ⟨w0, w1, w2, w3, w4, w5, w6, w7, w8, wA0, wA1, wA2⟩ := id hW
  have wC : n 0 * n 1 ≤ 42 := Nat.mul_le_mul w0 w1
  have hf52 := hts (.fieldLink RX0 52 "StatueSquare$Ground" "thingCount" "I") (List.mem_of_getElem? (i := 1) rfl)
  have hinX0 : ∀ w ∈ u_ws RX0 TX0 17, w ∈ wsX0_costOf := fun _ h => List.mem_cons_of_mem _ (List.mem_append_right _ h)
  have hf33 := hts (.fieldLink RX0 33 "StatueSquare$Ground" "cost" "[I") (List.mem_of_getElem? (i := 2) rfl)
  refine lv_iconst (v := nI 0) hx hb dX0_costOf_0 rfl ?_
  refine lv_istore_n (lv' := [(2, .int (nI 0)), (0, .ref (q 0)), (1, .int (nI ts))]) hx hb dX0_costOf_1 rfl hl (by decide) rfl (fun ls hl => ?_)
  refine lv_iconst (v := nI 0) hx hb dX0_costOf_2 rfl ?_
  refine lv_istore_n (lv' := [(3, .int (nI 0)), (2, .int (nI 0)), (0, .ref (q 0)), (1, .int (nI ts))]) hx hb dX0_costOf_3 rfl hl (by decide) rfl (fun ls hl => ?_)
  have L4 : ∀ (fuel : Nat) (k : Nat) (hk : k ≤ n 3) (hfu : n 3 - k < fuel) (H : Heap) (locs : List Loc), va_P (dC, dI) vwCl (wG cI q n X) H → va_S Z ss.heap H locs → ∀ (ls : Array Slot), lv_has ls 4 [(0, .ref (q 0)), (1, .int (nI ts)), (2, .int (nI (sumN (fun t => if ts.testBit t then A 5 t else 0) k))), (3, .int (nI k))] → W pp l ee RR ss mm aa bb me cd H locs 0 0 QQ (F0 mm 4 ls []) := by
    intro fuel
    induction fuel with
    | zero => intro k hk hfu; exact absurd hfu (Nat.not_lt_zero _)
    | succ fuel ih =>
      intro k hk hfu H locs hP hS ls hl
      refine lv_iload_n hx hb dX0_costOf_4 rfl (lv_at hl 3 rfl) ?_
      refine lv_aload_n hx hb dX0_costOf_5 rfl (lv_at hl 0 rfl) ?_
      refine x_get (D := (dC, dI)) (ci := 0) (v := .int (nI (n 3))) (C := RX0) (T := TX0) (N := 17) hx hb hts hinX0 hown hK hP 0 rfl rfl 3 (Nat.le_of_ble_eq_true rfl) hf52 rfl rfl dX0_costOf_6 ?_
      refine x_icmp_ge (tgt := 35) hx hb (by omega) (by omega) dX0_costOf_9 (by decide) (fun c9 => ?_) (fun c9 => ?_)
      · skip
        refine lv_iload_n hx hb dX0_costOf_35 rfl (lv_at hl 2 rfl) ?_
        exact hend _ _ _ _ _ (congrArg nI (show sumN (fun t => if ts.testBit t then A 5 t else 0) k = sumN (fun t => if ts.testBit t then A 5 t else 0) (n 3) from by congr 1; omega)) hS dX0_costOf_36
      · skip
        refine lv_iload_n hx hb dX0_costOf_12 rfl (lv_at hl 1 rfl) ?_
        refine lv_iload_n hx hb dX0_costOf_13 rfl (lv_at hl 3 rfl) ?_
        refine x_ishr hx hb (by omega) (by omega) dX0_costOf_14 ?_
        refine lv_iconst (v := nI 1) hx hb dX0_costOf_15 rfl ?_
        refine x_iand hx hb dX0_costOf_16 ?_
        refine x_if_eq (tgt := 29) hx hb (and1_lt _) dX0_costOf_17 (by decide) (fun c17 => ?_) (fun c17 => ?_)
        · skip
          have hz : sumN (fun t => if ts.testBit t then A 5 t else 0) (k + 1) = sumN (fun t => if ts.testBit t then A 5 t else 0) k := by rw [sumN, tb_0.mp c17]; rfl
          refine lv_iinc (v := (nI (k + 1))) (lv' := [(3, .int (nI (k + 1))), (0, .ref (q 0)), (1, .int (nI ts)), (2, .int (nI (sumN (fun t => if ts.testBit t then A 5 t else 0) k)))]) hx hb dX0_costOf_29 hl (k := 3) rfl (nI_add _ _) (by decide) rfl (fun ls hl => ?_)
          refine lv_goto (tgt := 4) hx hb dX0_costOf_32 (by decide) ?_
          exact ih (k + 1) (by omega) (by omega) _ _ hP hS _ (by rw [hz]; exact lv_sub hl [1, 2, 3, 0] rfl)
        · skip
          have hz : sumN (fun t => if ts.testBit t then A 5 t else 0) (k + 1) = sumN (fun t => if ts.testBit t then A 5 t else 0) k + A 5 k := by rw [sumN, show ts.testBit k = true from by have := mt tb_0.mpr c17; simpa using this]; rfl
          refine lv_iload_n hx hb dX0_costOf_20 rfl (lv_at hl 2 rfl) ?_
          refine lv_aload_n hx hb dX0_costOf_21 rfl (lv_at hl 0 rfl) ?_
          refine x_get (D := (dC, dI)) (ci := 0) (v := .ref (q 8)) (C := RX0) (T := TX0) (N := 17) hx hb hts hinX0 hown hK hP 0 rfl rfl 11 (Nat.le_of_ble_eq_true rfl) hf33 rfl rfl dX0_costOf_22 ?_
          refine lv_iload_n hx hb dX0_costOf_25 rfl (lv_at hl 3 rfl) ?_
          refine x_iald (v := (nI (A 5 k))) hx hb hK hP 8 0 rfl rfl (by omega) (by decide) (hR.2.2 _ (by omega)).2.2.2 dX0_costOf_26 ?_
          refine x_iadd hx hb dX0_costOf_27 ?_
          refine lv_istore_n (lv' := [(2, .int (nI ((sumN (fun t => if ts.testBit t then A 5 t else 0) k) + (A 5 k)))), (0, .ref (q 0)), (1, .int (nI ts)), (3, .int (nI k))]) hx hb dX0_costOf_28 rfl hl (by decide) rfl (fun ls hl => ?_)
          refine lv_iinc (v := (nI (k + 1))) (lv' := [(3, .int (nI (k + 1))), (2, .int (nI ((sumN (fun t => if ts.testBit t then A 5 t else 0) k) + (A 5 k)))), (0, .ref (q 0)), (1, .int (nI ts))]) hx hb dX0_costOf_29 hl (k := 3) rfl (nI_add _ _) (by decide) rfl (fun ls hl => ?_)
          refine lv_goto (tgt := 4) hx hb dX0_costOf_32 (by decide) ?_
          exact ih (k + 1) (by omega) (by omega) _ _ hP hS _ (by rw [hz]; exact lv_sub hl [2, 3, 1, 0] rfl)
  exact L4 _ 0 (by omega) (Nat.lt_succ_self _) _ _ hP hS _ (lv_sub hl [2, 3, 1, 0] rfl)
set_option maxRecDepth 20000 in
theorem ggX0_complainers_X0_inTheWay : GoodIn wsX0_complainers wsX0_inTheWay := goodIn_r _ [8, 9, 10, 11, 12, 13, 7, 14, 15, 16, 17, 18, 19, 20, 21, 22, 23, 24, 25, 26, 27, 28, 29, 30, 31, 32, 33, 34, 35, 36, 37, 38, 39, 40, 41, 42, 43, 44, 45, 46, 47, 48, 49, 50, 51, 52] (by decide +kernel) (by decide +kernel)
set_option maxRecDepth 20000 in
theorem gX0_complainers_X0_inTheWay : GoodIn wsX0_complainers (wsV RX0 111 RX0 yX0_inTheWay wsX0_inTheWay) := goodIn_app (goodIn_of _ (by decide +kernel)) ggX0_complainers_X0_inTheWay
set_option maxHeartbeats 4000000 in
set_option maxRecDepth 100000 in
theorem kX0_complainers (l : Launch) (dC : Nat → ClassId) (dI : Nat → Nat → Nat) (cI : ClassId) (q n : Nat → Nat) (A : Nat → Nat → Nat) (X : Nat → Nat → Int32) (hW : WF n A) (hR : RG n A X) (wo : Nat) (y : Nat) (sz : Nat) (hst : 0 < n 6) (hy : y ≤ 30) : Met l yX0_complainers wsX0_complainers ({ frames := 3, cells := 0, slots := 0, locals := 77 }) (roP [.ref (q 0), .int (nI wo), .int (nI y)] sz (dC, dI) [(cI, .int)] (wG cI q n X)) (roQi (nI (sComp n A wo y)) sz) 0 0 (va_A [] sz) := by
  refine ro_met_i (by decide) rfl (Nat.le_of_ble_eq_true rfl) ?_
  intro pp ee ss mm aa bb me cd RR QQ Z hx hb hml hown hts hRf hRl hP hK hA hS hend ls hl
  have hown : ss.vm.findClass RX0 = some mm.cls := hown
  have hRf : 3 ≤ RR.frames := hRf
  have hRl : 77 ≤ RR.locals := hRl
  have hl : lv_has ls 5 [(0, .ref (q 0)), (1, .int (nI wo)), (2, .int (nI y))] := hl
  obtain ⟨w0, w1, w2, w3, w4, w5, w6, w7, w8, wA0, wA1, wA2⟩ := id hW
  have wC : n 0 * n 1 ≤ 42 := Nat.mul_le_mul w0 w1
  have hf49 := hts (.fieldLink RX0 49 "StatueSquare$Ground" "benchCount" "I") (List.mem_of_getElem? (i := 1) rfl)
  have hinX0 : ∀ w ∈ u_ws RX0 TX0 17, w ∈ wsX0_complainers := fun _ h => List.mem_cons_of_mem _ (List.mem_append_right _ h)
  have hf36 := hts (.fieldLink RX0 36 "StatueSquare$Ground" "statueCell" "I") (List.mem_of_getElem? (i := 2) rfl)
  have hf78 := hts (.fieldLink RX0 78 "StatueSquare$Ground" "statueBlock" "I") (List.mem_of_getElem? (i := 3) rfl)
  refine lv_iconst (v := nI 0) hx hb dX0_complainers_0 rfl ?_
  refine lv_istore_n (lv' := [(3, .int (nI 0)), (0, .ref (q 0)), (1, .int (nI wo)), (2, .int (nI y))]) hx hb dX0_complainers_1 rfl hl (by decide) rfl (fun ls hl => ?_)
  refine lv_iconst (v := nI 0) hx hb dX0_complainers_2 rfl ?_
  refine lv_istore (lv' := [(4, .int (nI 0)), (3, .int (nI 0)), (0, .ref (q 0)), (1, .int (nI wo)), (2, .int (nI y))]) hx hb dX0_complainers_3 hl (by decide) rfl (fun ls hl => ?_)
  have L5 : ∀ (fuel : Nat) (k : Nat) (hk : k ≤ n 2) (hfu : n 2 - k < fuel) (H : Heap) (locs : List Loc), va_P (dC, dI) vwCl (wG cI q n X) H → va_S Z ss.heap H locs → ∀ (ls : Array Slot), lv_has ls 5 [(0, .ref (q 0)), (1, .int (nI wo)), (2, .int (nI y)), (3, .int (nI (orB (fun b => decide (¬ andn (sFoot n A b y) wo = 0)) k))), (4, .int (nI k))] → W pp l ee RR ss mm aa bb me cd H locs 0 0 QQ (F0 mm 5 ls []) := by
    intro fuel
    induction fuel with
    | zero => intro k hk hfu; exact absurd hfu (Nat.not_lt_zero _)
    | succ fuel ih =>
      intro k hk hfu H locs hP hS ls hl
      refine lv_iload hx hb dX0_complainers_5 (lv_at hl 4 rfl) ?_
      refine lv_aload_n hx hb dX0_complainers_7 rfl (lv_at hl 0 rfl) ?_
      refine x_get (D := (dC, dI)) (ci := 0) (v := .int (nI (n 2))) (C := RX0) (T := TX0) (N := 17) hx hb hts hinX0 hown hK hP 0 rfl rfl 2 (Nat.le_of_ble_eq_true rfl) hf49 rfl rfl dX0_complainers_8 ?_
      refine x_icmp_ge (tgt := 51) hx hb (by omega) (by omega) dX0_complainers_11 (by decide) (fun c11 => ?_) (fun c11 => ?_)
      · skip
        refine lv_iload_n hx hb dX0_complainers_51 rfl (lv_at hl 3 rfl) ?_
        exact hend _ _ _ _ _ (congrArg nI (show orB (fun b => decide (¬ andn (sFoot n A b y) wo = 0)) k = orB (fun b => decide (¬ andn (sFoot n A b y) wo = 0)) (n 2) from by congr 1; omega)) hS dX0_complainers_52
      · skip
        refine lv_aload_n hx hb dX0_complainers_14 rfl (lv_at hl 0 rfl) ?_
        refine lv_iload hx hb dX0_complainers_15 (lv_at hl 4 rfl) ?_
        refine lv_aload_n hx hb dX0_complainers_17 rfl (lv_at hl 0 rfl) ?_
        refine x_get (D := (dC, dI)) (ci := 0) (v := .int (stI (n 6))) (C := RX0) (T := TX0) (N := 17) hx hb hts hinX0 hown hK hP 0 rfl rfl 15 (Nat.le_of_ble_eq_true rfl) hf36 rfl rfl dX0_complainers_18 ?_
        refine x_top (stI_pos hst) ?_
        refine lv_aload_n hx hb dX0_complainers_21 rfl (lv_at hl 0 rfl) ?_
        refine x_get (D := (dC, dI)) (ci := 0) (v := .int (nI (n 7))) (C := RX0) (T := TX0) (N := 17) hx hb hts hinX0 hown hK hP 0 rfl rfl 16 (Nat.le_of_ble_eq_true rfl) hf78 rfl rfl dX0_complainers_22 ?_
        refine lv_iconst (v := nI 1) hx hb dX0_complainers_25 rfl ?_
        refine x_iadd hx hb dX0_complainers_26 ?_
        refine lv_iload_n hx hb dX0_complainers_27 rfl (lv_at hl 2 rfl) ?_
        refine roV_i (As := [.int (nI k), .int (nI (n 6 - 1)), .int (nI ((n 7) + 1)), .int (nI y)]) (rest := []) ⟨hx, hb, hml, hown, hts⟩ (kX0_inTheWay l dC dI cI q n A X hW hR k (n 6 - 1) ((n 7) + 1) y _ (by omega) (by omega) (by omega) (by omega)) (cwV 4 hts gX0_complainers_X0_inTheWay rfl rfl rfl hdX0_inTheWay ⟨Nat.le_trans (Nat.le_of_ble_eq_true rfl) hRf, Nat.le_trans (Nat.le_of_ble_eq_true rfl) hRl⟩) (va_recv hK hP (ci := 0) (q0 := 0) rfl rfl) hK hP rfl hl.1 rfl (Nat.le_of_ble_eq_true rfl) dX0_complainers_28 ⟨Nat.zero_le _, Nat.zero_le _⟩ hP hS hA (fun H locs hP hS => ?_)
        refine lv_iload_n hx hb dX0_complainers_31 rfl (lv_at hl 1 rfl) ?_
        refine lv_iconst (v := -1) hx hb dX0_complainers_32 rfl ?_
        refine x_top (y := nI 4294967295) m1_nI ?_
        refine lv_ixor hx hb dX0_complainers_33 ?_
        refine x_top (y := nI (wo ^^^ 4294967295)) (nI_xor _ _) ?_
        refine x_iand hx hb dX0_complainers_34 ?_
        refine x_if_eq (tgt := 45) hx hb (Nat.lt_trans (andn_lt (wo := wo) (sWay_lt hW (by omega) (by omega))) (by decide)) dX0_complainers_35 (by decide) (fun c35 => ?_) (fun c35 => ?_)
        · skip
          have hz : (fun b => decide (¬ andn (sFoot n A b y) wo = 0)) k = false := decide_eq_false (fun q => q c35)
          refine lv_iinc (v := (nI (k + 1))) (lv' := [(4, .int (nI (k + 1))), (0, .ref (q 0)), (1, .int (nI wo)), (2, .int (nI y)), (3, .int (nI (orB (fun b => decide (¬ andn (sFoot n A b y) wo = 0)) k)))]) hx hb dX0_complainers_45 hl (k := 4) rfl (nI_add _ _) (by decide) rfl (fun ls hl => ?_)
          refine lv_goto (tgt := 5) hx hb dX0_complainers_48 (by decide) ?_
          exact ih (k + 1) (by omega) (by omega) _ _ hP hS _ (by rw [show orB (fun b => decide (¬ andn (sFoot n A b y) wo = 0)) (k + 1) = orB (fun b => decide (¬ andn (sFoot n A b y) wo = 0)) k from (orB_f hz).symm]; exact lv_sub hl [1, 2, 3, 4, 0] rfl)
        · skip
          have hz : (fun b => decide (¬ andn (sFoot n A b y) wo = 0)) k = true := decide_eq_true c35
          refine lv_iload_n hx hb dX0_complainers_38 rfl (lv_at hl 3 rfl) ?_
          refine lv_iconst (v := nI 1) hx hb dX0_complainers_39 rfl ?_
          refine lv_iload hx hb dX0_complainers_40 (lv_at hl 4 rfl) ?_
          refine x_shl1 hx hb (by omega) dX0_complainers_42 ?_
          refine x_ior hx hb dX0_complainers_43 ?_
          refine lv_istore_n (lv' := [(3, .int (nI ((orB (fun b => decide (¬ andn (sFoot n A b y) wo = 0)) k) ||| (2 ^ k)))), (0, .ref (q 0)), (1, .int (nI wo)), (2, .int (nI y)), (4, .int (nI k))]) hx hb dX0_complainers_44 rfl hl (by decide) rfl (fun ls hl => ?_)
          refine lv_iinc (v := (nI (k + 1))) (lv' := [(4, .int (nI (k + 1))), (3, .int (nI ((orB (fun b => decide (¬ andn (sFoot n A b y) wo = 0)) k) ||| (2 ^ k)))), (0, .ref (q 0)), (1, .int (nI wo)), (2, .int (nI y))]) hx hb dX0_complainers_45 hl (k := 4) rfl (nI_add _ _) (by decide) rfl (fun ls hl => ?_)
          refine lv_goto (tgt := 5) hx hb dX0_complainers_48 (by decide) ?_
          exact ih (k + 1) (by omega) (by omega) _ _ hP hS _ (by rw [show orB (fun b => decide (¬ andn (sFoot n A b y) wo = 0)) (k + 1) = ((orB (fun b => decide (¬ andn (sFoot n A b y) wo = 0)) k) ||| (2 ^ k)) from (orB_t hz).symm]; exact lv_sub hl [2, 3, 4, 1, 0] rfl)
  exact L5 _ 0 (by omega) (Nat.lt_succ_self _) _ _ hP hS _ (lv_sub hl [2, 3, 4, 1, 0] rfl)
theorem hdX0_complainers : yX0_complainers.cls = RX0 ∧ yX0_complainers.cls ≠ "java/lang/invoke/MethodHandle" ∧ yX0_complainers.cls ≠ "java/lang/invoke/VarHandle" ∧ (parseMethodDescriptor yX0_complainers.desc).map (fun d => d.parameters.length) = some 2 := by decide +kernel
set_option maxRecDepth 20000 in
theorem ggX0_benchesThatSeeWhole_X0_complainers : GoodIn wsX0_benchesThatSeeWhole wsX0_complainers := goodIn_r _ [7, 1, 8, 9, 10, 11, 12, 6, 13, 14, 15, 16, 17, 18, 19, 20, 21, 22, 23, 24, 25, 26, 27, 28, 29, 30, 31, 32, 33, 34, 35, 36, 37, 38, 39, 40, 41, 42, 43, 44, 45, 46, 47, 48, 49, 50, 51, 52, 53, 54, 55, 56, 57] (by decide +kernel) (by decide +kernel)
set_option maxRecDepth 20000 in
theorem gX0_benchesThatSeeWhole_X0_complainers : GoodIn wsX0_benchesThatSeeWhole (wsV RX0 126 RX0 yX0_complainers wsX0_complainers) := goodIn_app (goodIn_of _ (by decide +kernel)) ggX0_benchesThatSeeWhole_X0_complainers
set_option maxHeartbeats 4000000 in
set_option maxRecDepth 100000 in
theorem kX0_benchesThatSeeWhole (l : Launch) (dC : Nat → ClassId) (dI : Nat → Nat → Nat) (cI : ClassId) (q n : Nat → Nat) (A : Nat → Nat → Nat) (X : Nat → Nat → Int32) (hW : WF n A) (hR : RG n A X) (sz : Nat) (hst : 0 < n 6) : Met l yX0_benchesThatSeeWhole wsX0_benchesThatSeeWhole ({ frames := 4, cells := 0, slots := 0, locals := 101 }) (roP [.ref (q 0)] sz (dC, dI) [(cI, .int)] (wG cI q n X)) (roQi (nI (sWhole n A)) sz) 0 0 (va_A [] sz) := by
  refine ro_met_i (by decide) rfl (Nat.le_of_ble_eq_true rfl) ?_
  intro pp ee ss mm aa bb me cd RR QQ Z hx hb hml hown hts hRf hRl hP hK hA hS hend ls hl
  have hown : ss.vm.findClass RX0 = some mm.cls := hown
  have hRf : 4 ≤ RR.frames := hRf
  have hRl : 101 ≤ RR.locals := hRl
  have hl : lv_has ls 1 [(0, .ref (q 0))] := hl
  obtain ⟨w0, w1, w2, w3, w4, w5, w6, w7, w8, wA0, wA1, wA2⟩ := id hW
  have wC : n 0 * n 1 ≤ 42 := Nat.mul_le_mul w0 w1
  have hf49 := hts (.fieldLink RX0 49 "StatueSquare$Ground" "benchCount" "I") (List.mem_of_getElem? (i := 1) rfl)
  have hinX0 : ∀ w ∈ u_ws RX0 TX0 17, w ∈ wsX0_benchesThatSeeWhole := fun _ h => List.mem_cons_of_mem _ (List.mem_append_right _ h)
  have hf71 := hts (.fieldLink RX0 71 "StatueSquare$Ground" "yearNow" "I") (List.mem_of_getElem? (i := 2) rfl)
  refine lv_iconst (v := nI 1) hx hb dX0_benchesThatSeeWhole_0 rfl ?_
  refine lv_aload_n hx hb dX0_benchesThatSeeWhole_1 rfl (lv_at hl 0 rfl) ?_
  refine x_get (D := (dC, dI)) (ci := 0) (v := .int (nI (n 2))) (C := RX0) (T := TX0) (N := 17) hx hb hts hinX0 hown hK hP 0 rfl rfl 2 (Nat.le_of_ble_eq_true rfl) hf49 rfl rfl dX0_benchesThatSeeWhole_2 ?_
  refine x_shl1 hx hb (by omega) dX0_benchesThatSeeWhole_5 ?_
  refine lv_iconst (v := nI 1) hx hb dX0_benchesThatSeeWhole_6 rfl ?_
  refine x_isub hx hb (Nat.two_pow_pos _) dX0_benchesThatSeeWhole_7 ?_
  refine lv_aload_n hx hb dX0_benchesThatSeeWhole_8 rfl (lv_at hl 0 rfl) ?_
  refine lv_iconst (v := nI 0) hx hb dX0_benchesThatSeeWhole_9 rfl ?_
  refine lv_aload_n hx hb dX0_benchesThatSeeWhole_10 rfl (lv_at hl 0 rfl) ?_
  refine x_get (D := (dC, dI)) (ci := 0) (v := .int (nI (n 4))) (C := RX0) (T := TX0) (N := 17) hx hb hts hinX0 hown hK hP 0 rfl rfl 13 (Nat.le_of_ble_eq_true rfl) hf71 rfl rfl dX0_benchesThatSeeWhole_11 ?_
  refine roV_i (As := [.int (nI 0), .int (nI (n 4))]) (rest := [.int (nI ((2 ^ (n 2)) - 1))]) ⟨hx, hb, hml, hown, hts⟩ (kX0_complainers l dC dI cI q n A X hW hR 0 (n 4) _ (by omega) (by omega)) (cwV 2 hts gX0_benchesThatSeeWhole_X0_complainers rfl rfl rfl hdX0_complainers ⟨Nat.le_trans (Nat.le_of_ble_eq_true rfl) hRf, Nat.le_trans (Nat.le_of_ble_eq_true rfl) hRl⟩) (va_recv hK hP (ci := 0) (q0 := 0) rfl rfl) hK hP rfl hl.1 rfl (Nat.le_of_ble_eq_true rfl) dX0_benchesThatSeeWhole_14 ⟨Nat.zero_le _, Nat.zero_le _⟩ hP hS hA (fun H locs hP hS => ?_)
  refine lv_iconst (v := -1) hx hb dX0_benchesThatSeeWhole_17 rfl ?_
  refine x_top (y := nI 4294967295) m1_nI ?_
  refine lv_ixor hx hb dX0_benchesThatSeeWhole_18 ?_
  refine x_top (y := nI (sComp n A 0 (n 4) ^^^ 4294967295)) (nI_xor _ _) ?_
  refine x_iand hx hb dX0_benchesThatSeeWhole_19 ?_
  exact hend _ _ _ _ _ (congrArg nI (whole_of hW hst)) hS dX0_benchesThatSeeWhole_20
set_option maxRecDepth 20000 in
theorem ggX0_countWhole_X0_inTheWay : GoodIn wsX0_countWhole wsX0_inTheWay := goodIn_r _ [7, 8, 9, 10, 11, 12, 6, 13, 14, 15, 16, 17, 18, 19, 20, 21, 22, 23, 24, 25, 26, 27, 28, 29, 30, 31, 32, 33, 34, 35, 36, 37, 38, 39, 40, 41, 42, 43, 44, 45, 46, 47, 48, 49, 50, 51] (by decide +kernel) (by decide +kernel)
set_option maxRecDepth 20000 in
theorem gX0_countWhole_X0_inTheWay : GoodIn wsX0_countWhole (wsV RX0 111 RX0 yX0_inTheWay wsX0_inTheWay) := goodIn_app (goodIn_of _ (by decide +kernel)) ggX0_countWhole_X0_inTheWay
set_option maxHeartbeats 4000000 in
set_option maxRecDepth 100000 in
theorem kX0_countWhole (l : Launch) (dC : Nat → ClassId) (dI : Nat → Nat → Nat) (cI : ClassId) (q n : Nat → Nat) (A : Nat → Nat → Nat) (X : Nat → Nat → Int32) (hW : WF n A) (hR : RG n A X) (c : Nat) (bl : Nat) (sz : Nat) (hc : c < n 0 * n 1) (hbl : bl ≤ 9) : Met l yX0_countWhole wsX0_countWhole ({ frames := 3, cells := 0, slots := 0, locals := 77 }) (roP [.ref (q 0), .int (nI c), .int (nI bl)] sz (dC, dI) [(cI, .int)] (wG cI q n X)) (roQi (nI (sCnt n A c bl)) sz) 0 0 (va_A [] sz) := by
  refine ro_met_i (by decide) rfl (Nat.le_of_ble_eq_true rfl) ?_
  intro pp ee ss mm aa bb me cd RR QQ Z hx hb hml hown hts hRf hRl hP hK hA hS hend ls hl
  have hown : ss.vm.findClass RX0 = some mm.cls := hown
  have hRf : 3 ≤ RR.frames := hRf
  have hRl : 77 ≤ RR.locals := hRl
  have hl : lv_has ls 5 [(0, .ref (q 0)), (1, .int (nI c)), (2, .int (nI bl))] := hl
  obtain ⟨w0, w1, w2, w3, w4, w5, w6, w7, w8, wA0, wA1, wA2⟩ := id hW
  have wC : n 0 * n 1 ≤ 42 := Nat.mul_le_mul w0 w1
  have hf49 := hts (.fieldLink RX0 49 "StatueSquare$Ground" "benchCount" "I") (List.mem_of_getElem? (i := 1) rfl)
  have hinX0 : ∀ w ∈ u_ws RX0 TX0 17, w ∈ wsX0_countWhole := fun _ h => List.mem_cons_of_mem _ (List.mem_append_right _ h)
  have hf71 := hts (.fieldLink RX0 71 "StatueSquare$Ground" "yearNow" "I") (List.mem_of_getElem? (i := 2) rfl)
  refine lv_iconst (v := nI 0) hx hb dX0_countWhole_0 rfl ?_
  refine lv_istore_n (lv' := [(3, .int (nI 0)), (0, .ref (q 0)), (1, .int (nI c)), (2, .int (nI bl))]) hx hb dX0_countWhole_1 rfl hl (by decide) rfl (fun ls hl => ?_)
  refine lv_iconst (v := nI 0) hx hb dX0_countWhole_2 rfl ?_
  refine lv_istore (lv' := [(4, .int (nI 0)), (3, .int (nI 0)), (0, .ref (q 0)), (1, .int (nI c)), (2, .int (nI bl))]) hx hb dX0_countWhole_3 hl (by decide) rfl (fun ls hl => ?_)
  have L5 : ∀ (fuel : Nat) (k : Nat) (hk : k ≤ n 2) (hfu : n 2 - k < fuel) (H : Heap) (locs : List Loc), va_P (dC, dI) vwCl (wG cI q n X) H → va_S Z ss.heap H locs → ∀ (ls : Array Slot), lv_has ls 5 [(0, .ref (q 0)), (1, .int (nI c)), (2, .int (nI bl)), (3, .int (nI (cntB (fun b => decide (sWay n A b c (bl + 1) (n 4) = 0)) k))), (4, .int (nI k))] → W pp l ee RR ss mm aa bb me cd H locs 0 0 QQ (F0 mm 5 ls []) := by
    intro fuel
    induction fuel with
    | zero => intro k hk hfu; exact absurd hfu (Nat.not_lt_zero _)
    | succ fuel ih =>
      intro k hk hfu H locs hP hS ls hl
      refine lv_iload hx hb dX0_countWhole_5 (lv_at hl 4 rfl) ?_
      refine lv_aload_n hx hb dX0_countWhole_7 rfl (lv_at hl 0 rfl) ?_
      refine x_get (D := (dC, dI)) (ci := 0) (v := .int (nI (n 2))) (C := RX0) (T := TX0) (N := 17) hx hb hts hinX0 hown hK hP 0 rfl rfl 2 (Nat.le_of_ble_eq_true rfl) hf49 rfl rfl dX0_countWhole_8 ?_
      refine x_icmp_ge (tgt := 40) hx hb (by omega) (by omega) dX0_countWhole_11 (by decide) (fun c11 => ?_) (fun c11 => ?_)
      · skip
        refine lv_iload_n hx hb dX0_countWhole_40 rfl (lv_at hl 3 rfl) ?_
        exact hend _ _ _ _ _ (congrArg nI (show cntB (fun b => decide (sWay n A b c (bl + 1) (n 4) = 0)) k = cntB (fun b => decide (sWay n A b c (bl + 1) (n 4) = 0)) (n 2) from by congr 1; omega)) hS dX0_countWhole_41
      · skip
        refine lv_aload_n hx hb dX0_countWhole_14 rfl (lv_at hl 0 rfl) ?_
        refine lv_iload hx hb dX0_countWhole_15 (lv_at hl 4 rfl) ?_
        refine lv_iload_n hx hb dX0_countWhole_17 rfl (lv_at hl 1 rfl) ?_
        refine lv_iload_n hx hb dX0_countWhole_18 rfl (lv_at hl 2 rfl) ?_
        refine lv_iconst (v := nI 1) hx hb dX0_countWhole_19 rfl ?_
        refine x_iadd hx hb dX0_countWhole_20 ?_
        refine lv_aload_n hx hb dX0_countWhole_21 rfl (lv_at hl 0 rfl) ?_
        refine x_get (D := (dC, dI)) (ci := 0) (v := .int (nI (n 4))) (C := RX0) (T := TX0) (N := 17) hx hb hts hinX0 hown hK hP 0 rfl rfl 13 (Nat.le_of_ble_eq_true rfl) hf71 rfl rfl dX0_countWhole_22 ?_
        refine roV_i (As := [.int (nI k), .int (nI c), .int (nI (bl + 1)), .int (nI (n 4))]) (rest := []) ⟨hx, hb, hml, hown, hts⟩ (kX0_inTheWay l dC dI cI q n A X hW hR k c (bl + 1) (n 4) _ (by omega) (by omega) (by omega) (by omega)) (cwV 4 hts gX0_countWhole_X0_inTheWay rfl rfl rfl hdX0_inTheWay ⟨Nat.le_trans (Nat.le_of_ble_eq_true rfl) hRf, Nat.le_trans (Nat.le_of_ble_eq_true rfl) hRl⟩) (va_recv hK hP (ci := 0) (q0 := 0) rfl rfl) hK hP rfl hl.1 rfl (Nat.le_of_ble_eq_true rfl) dX0_countWhole_25 ⟨Nat.zero_le _, Nat.zero_le _⟩ hP hS hA (fun H locs hP hS => ?_)
        refine x_if_ne (tgt := 34) hx hb (Nat.lt_trans (sWay_lt hW (by omega) (by omega)) (by decide)) dX0_countWhole_28 (by decide) (fun c28 => ?_) (fun c28 => ?_)
        · skip
          have hz : (fun b => decide (sWay n A b c (bl + 1) (n 4) = 0)) k = false := decide_eq_false c28
          refine lv_iinc (v := (nI (k + 1))) (lv' := [(4, .int (nI (k + 1))), (0, .ref (q 0)), (1, .int (nI c)), (2, .int (nI bl)), (3, .int (nI (cntB (fun b => decide (sWay n A b c (bl + 1) (n 4) = 0)) k)))]) hx hb dX0_countWhole_34 hl (k := 4) rfl (nI_add _ _) (by decide) rfl (fun ls hl => ?_)
          refine lv_goto (tgt := 5) hx hb dX0_countWhole_37 (by decide) ?_
          exact ih (k + 1) (by omega) (by omega) _ _ hP hS _ (by rw [show cntB (fun b => decide (sWay n A b c (bl + 1) (n 4) = 0)) (k + 1) = cntB (fun b => decide (sWay n A b c (bl + 1) (n 4) = 0)) k from (cntB_f hz).symm]; exact lv_sub hl [1, 2, 3, 4, 0] rfl)
        · skip
          have hz : (fun b => decide (sWay n A b c (bl + 1) (n 4) = 0)) k = true := decide_eq_true c28
          refine lv_iinc (v := (nI (cntB (fun b => decide (sWay n A b c (bl + 1) (n 4) = 0)) k + 1))) (lv' := [(3, .int (nI (cntB (fun b => decide (sWay n A b c (bl + 1) (n 4) = 0)) k + 1))), (0, .ref (q 0)), (1, .int (nI c)), (2, .int (nI bl)), (4, .int (nI k))]) hx hb dX0_countWhole_31 hl (k := 3) rfl (nI_add _ _) (by decide) rfl (fun ls hl => ?_)
          refine lv_iinc (v := (nI (k + 1))) (lv' := [(4, .int (nI (k + 1))), (3, .int (nI (cntB (fun b => decide (sWay n A b c (bl + 1) (n 4) = 0)) k + 1))), (0, .ref (q 0)), (1, .int (nI c)), (2, .int (nI bl))]) hx hb dX0_countWhole_34 hl (k := 4) rfl (nI_add _ _) (by decide) rfl (fun ls hl => ?_)
          refine lv_goto (tgt := 5) hx hb dX0_countWhole_37 (by decide) ?_
          exact ih (k + 1) (by omega) (by omega) _ _ hP hS _ (by rw [show cntB (fun b => decide (sWay n A b c (bl + 1) (n 4) = 0)) (k + 1) = cntB (fun b => decide (sWay n A b c (bl + 1) (n 4) = 0)) k + 1 from (cntB_t hz).symm]; exact lv_sub hl [2, 3, 4, 1, 0] rfl)
  exact L5 _ 0 (by omega) (Nat.lt_succ_self _) _ _ hP hS _ (lv_sub hl [2, 3, 4, 1, 0] rfl)
set_option maxRecDepth 20000 in
theorem ggX0_thingsThatLeave_X0_isThere : GoodIn wsX0_thingsThatLeave wsX0_isThere := goodIn_r _ [7, 8, 42, 43, 44, 45, 46, 47, 48, 49, 50, 51, 52, 53, 54, 55, 56, 57, 58] (by decide +kernel) (by decide +kernel)
set_option maxRecDepth 20000 in
theorem gX0_thingsThatLeave_X0_isThere : GoodIn wsX0_thingsThatLeave (wsV RX0 101 RX0 yX0_isThere wsX0_isThere) := goodIn_app (goodIn_of _ (by decide +kernel)) ggX0_thingsThatLeave_X0_isThere
set_option maxRecDepth 20000 in
theorem ggX0_thingsThatLeave_X0_complainers : GoodIn wsX0_thingsThatLeave wsX0_complainers := goodIn_r _ [12, 13, 14, 15, 16, 17, 18, 6, 19, 20, 21, 22, 23, 24, 25, 26, 27, 28, 29, 30, 31, 32, 33, 34, 3, 4, 5, 7, 8, 35, 36, 37, 38, 39, 40, 41, 42, 43, 44, 45, 46, 47, 48, 49, 50, 51, 52, 53, 54, 55, 56, 57, 58] (by decide +kernel) (by decide +kernel)
set_option maxRecDepth 20000 in
theorem gX0_thingsThatLeave_X0_complainers : GoodIn wsX0_thingsThatLeave (wsV RX0 126 RX0 yX0_complainers wsX0_complainers) := goodIn_app (goodIn_of _ (by decide +kernel)) ggX0_thingsThatLeave_X0_complainers
set_option maxHeartbeats 4000000 in
set_option maxRecDepth 100000 in
theorem kX0_thingsThatLeave (l : Launch) (dC : Nat → ClassId) (dI : Nat → Nat → Nat) (cI : ClassId) (q n : Nat → Nat) (A : Nat → Nat → Nat) (X : Nat → Nat → Int32) (hW : WF n A) (hR : RG n A X) (told : Nat) (sz : Nat) (hst : 0 < n 6) (hto : told < 4096) : Met l yX0_thingsThatLeave wsX0_thingsThatLeave ({ frames := 4, cells := 0, slots := 0, locals := 101 }) (roP [.ref (q 0), .int (nI told)] sz (dC, dI) [(cI, .int)] (wG cI q n X)) (roQi (nI (sMoved n A told)) sz) 0 0 (va_A [] sz) := by
  refine ro_met_i (by decide) rfl (Nat.le_of_ble_eq_true rfl) ?_
  intro pp ee ss mm aa bb me cd RR QQ Z hx hb hml hown hts hRf hRl hP hK hA hS hend ls hl
  have hown : ss.vm.findClass RX0 = some mm.cls := hown
  have hRf : 4 ≤ RR.frames := hRf
  have hRl : 101 ≤ RR.locals := hRl
  have hl : lv_has ls 4 [(0, .ref (q 0)), (1, .int (nI told))] := hl
  obtain ⟨w0, w1, w2, w3, w4, w5, w6, w7, w8, wA0, wA1, wA2⟩ := id hW
  have wC : n 0 * n 1 ≤ 42 := Nat.mul_le_mul w0 w1
  have hf52 := hts (.fieldLink RX0 52 "StatueSquare$Ground" "thingCount" "I") (List.mem_of_getElem? (i := 1) rfl)
  have hinX0 : ∀ w ∈ u_ws RX0 TX0 17, w ∈ wsX0_thingsThatLeave := fun _ h => List.mem_cons_of_mem _ (List.mem_append_right _ h)
  have hf71 := hts (.fieldLink RX0 71 "StatueSquare$Ground" "yearNow" "I") (List.mem_of_getElem? (i := 2) rfl)
  refine lv_iconst (v := nI 0) hx hb dX0_thingsThatLeave_0 rfl ?_
  refine lv_istore_n (lv' := [(2, .int (nI 0)), (0, .ref (q 0)), (1, .int (nI told))]) hx hb dX0_thingsThatLeave_1 rfl hl (by decide) rfl (fun ls hl => ?_)
  refine lv_iconst (v := nI 0) hx hb dX0_thingsThatLeave_2 rfl ?_
  refine lv_istore_n (lv' := [(3, .int (nI 0)), (2, .int (nI 0)), (0, .ref (q 0)), (1, .int (nI told))]) hx hb dX0_thingsThatLeave_3 rfl hl (by decide) rfl (fun ls hl => ?_)
  have L4 : ∀ (fuel : Nat) (k : Nat) (hk : k ≤ n 3) (hfu : n 3 - k < fuel) (H : Heap) (locs : List Loc), va_P (dC, dI) vwCl (wG cI q n X) H → va_S Z ss.heap H locs → ∀ (ls : Array Slot), lv_has ls 4 [(0, .ref (q 0)), (1, .int (nI told)), (2, .int (nI (orB (fun t => sThere n t && decide (sComp n A (2 ^ t) (n 4) = told)) k))), (3, .int (nI k))] → W pp l ee RR ss mm aa bb me cd H locs 0 0 QQ (F0 mm 4 ls []) := by
    intro fuel
    induction fuel with
    | zero => intro k hk hfu; exact absurd hfu (Nat.not_lt_zero _)
    | succ fuel ih =>
      intro k hk hfu H locs hP hS ls hl
      refine lv_iload_n hx hb dX0_thingsThatLeave_4 rfl (lv_at hl 3 rfl) ?_
      refine lv_aload_n hx hb dX0_thingsThatLeave_5 rfl (lv_at hl 0 rfl) ?_
      refine x_get (D := (dC, dI)) (ci := 0) (v := .int (nI (n 3))) (C := RX0) (T := TX0) (N := 17) hx hb hts hinX0 hown hK hP 0 rfl rfl 3 (Nat.le_of_ble_eq_true rfl) hf52 rfl rfl dX0_thingsThatLeave_6 ?_
      refine x_icmp_ge (tgt := 47) hx hb (by omega) (by omega) dX0_thingsThatLeave_9 (by decide) (fun c9 => ?_) (fun c9 => ?_)
      · skip
        refine lv_iload_n hx hb dX0_thingsThatLeave_47 rfl (lv_at hl 2 rfl) ?_
        exact hend _ _ _ _ _ (congrArg nI (show orB (fun t => sThere n t && decide (sComp n A (2 ^ t) (n 4) = told)) k = orB (fun t => sThere n t && decide (sComp n A (2 ^ t) (n 4) = told)) (n 3) from by congr 1; omega)) hS dX0_thingsThatLeave_48
      · skip
        refine lv_aload_n hx hb dX0_thingsThatLeave_12 rfl (lv_at hl 0 rfl) ?_
        refine lv_iload_n hx hb dX0_thingsThatLeave_13 rfl (lv_at hl 3 rfl) ?_
        refine roV_i (As := [.int (nI k)]) (rest := []) ⟨hx, hb, hml, hown, hts⟩ (kX0_isThere l dC dI cI q n A X hW hR k _ (by omega)) (cwV 1 hts gX0_thingsThatLeave_X0_isThere rfl rfl rfl hdX0_isThere ⟨Nat.le_trans (Nat.le_of_ble_eq_true rfl) hRf, Nat.le_trans (Nat.le_of_ble_eq_true rfl) hRl⟩) (va_recv hK hP (ci := 0) (q0 := 0) rfl rfl) hK hP rfl hl.1 rfl (Nat.le_of_ble_eq_true rfl) dX0_thingsThatLeave_14 ⟨Nat.zero_le _, Nat.zero_le _⟩ hP hS hA (fun H locs hP hS => ?_)
        refine x_ifb_eq (tgt := 41) hx hb dX0_thingsThatLeave_17 (by decide) (fun c17 => ?_) (fun c17 => ?_)
        · skip
          have hz : (fun t => sThere n t && decide (sComp n A (2 ^ t) (n 4) = told)) k = false := by show (sThere n k && _) = false; rw [c17]; rfl
          refine lv_iinc (v := (nI (k + 1))) (lv' := [(3, .int (nI (k + 1))), (0, .ref (q 0)), (1, .int (nI told)), (2, .int (nI (orB (fun t => sThere n t && decide (sComp n A (2 ^ t) (n 4) = told)) k)))]) hx hb dX0_thingsThatLeave_41 hl (k := 3) rfl (nI_add _ _) (by decide) rfl (fun ls hl => ?_)
          refine lv_goto (tgt := 4) hx hb dX0_thingsThatLeave_44 (by decide) ?_
          exact ih (k + 1) (by omega) (by omega) _ _ hP hS _ (by rw [show orB (fun t => sThere n t && decide (sComp n A (2 ^ t) (n 4) = told)) (k + 1) = orB (fun t => sThere n t && decide (sComp n A (2 ^ t) (n 4) = told)) k from (orB_f hz).symm]; exact lv_sub hl [1, 2, 3, 0] rfl)
        · skip
          refine lv_aload_n hx hb dX0_thingsThatLeave_20 rfl (lv_at hl 0 rfl) ?_
          refine lv_iconst (v := nI 1) hx hb dX0_thingsThatLeave_21 rfl ?_
          refine lv_iload_n hx hb dX0_thingsThatLeave_22 rfl (lv_at hl 3 rfl) ?_
          refine x_shl1 hx hb (by omega) dX0_thingsThatLeave_23 ?_
          refine lv_aload_n hx hb dX0_thingsThatLeave_24 rfl (lv_at hl 0 rfl) ?_
          refine x_get (D := (dC, dI)) (ci := 0) (v := .int (nI (n 4))) (C := RX0) (T := TX0) (N := 17) hx hb hts hinX0 hown hK hP 0 rfl rfl 13 (Nat.le_of_ble_eq_true rfl) hf71 rfl rfl dX0_thingsThatLeave_25 ?_
          refine roV_i (As := [.int (nI (2 ^ k)), .int (nI (n 4))]) (rest := []) ⟨hx, hb, hml, hown, hts⟩ (kX0_complainers l dC dI cI q n A X hW hR (2 ^ k) (n 4) _ (by omega) (by omega)) (cwV 2 hts gX0_thingsThatLeave_X0_complainers rfl rfl rfl hdX0_complainers ⟨Nat.le_trans (Nat.le_of_ble_eq_true rfl) hRf, Nat.le_trans (Nat.le_of_ble_eq_true rfl) hRl⟩) (va_recv hK hP (ci := 0) (q0 := 0) rfl rfl) hK hP rfl hl.1 rfl (Nat.le_of_ble_eq_true rfl) dX0_thingsThatLeave_28 ⟨Nat.zero_le _, Nat.zero_le _⟩ hP hS hA (fun H locs hP hS => ?_)
          refine lv_iload_n hx hb dX0_thingsThatLeave_31 rfl (lv_at hl 1 rfl) ?_
          refine x_icmp_ne (tgt := 41) hx hb (Nat.lt_of_lt_of_le (orB_lt _ _) (Nat.pow_le_pow_right (by decide) (by omega))) (by omega) dX0_thingsThatLeave_32 (by decide) (fun c32 => ?_) (fun c32 => ?_)
          · skip
            have hz : (fun t => sThere n t && decide (sComp n A (2 ^ t) (n 4) = told)) k = false := by show (sThere n k && _) = false; rw [c17, decide_eq_false c32]; rfl
            refine lv_iinc (v := (nI (k + 1))) (lv' := [(3, .int (nI (k + 1))), (0, .ref (q 0)), (1, .int (nI told)), (2, .int (nI (orB (fun t => sThere n t && decide (sComp n A (2 ^ t) (n 4) = told)) k)))]) hx hb dX0_thingsThatLeave_41 hl (k := 3) rfl (nI_add _ _) (by decide) rfl (fun ls hl => ?_)
            refine lv_goto (tgt := 4) hx hb dX0_thingsThatLeave_44 (by decide) ?_
            exact ih (k + 1) (by omega) (by omega) _ _ hP hS _ (by rw [show orB (fun t => sThere n t && decide (sComp n A (2 ^ t) (n 4) = told)) (k + 1) = orB (fun t => sThere n t && decide (sComp n A (2 ^ t) (n 4) = told)) k from (orB_f hz).symm]; exact lv_sub hl [1, 2, 3, 0] rfl)
          · skip
            have hz : (fun t => sThere n t && decide (sComp n A (2 ^ t) (n 4) = told)) k = true := by show (sThere n k && _) = true; rw [c17, decide_eq_true c32]; rfl
            refine lv_iload_n hx hb dX0_thingsThatLeave_35 rfl (lv_at hl 2 rfl) ?_
            refine lv_iconst (v := nI 1) hx hb dX0_thingsThatLeave_36 rfl ?_
            refine lv_iload_n hx hb dX0_thingsThatLeave_37 rfl (lv_at hl 3 rfl) ?_
            refine x_shl1 hx hb (by omega) dX0_thingsThatLeave_38 ?_
            refine x_ior hx hb dX0_thingsThatLeave_39 ?_
            refine lv_istore_n (lv' := [(2, .int (nI ((orB (fun t => sThere n t && decide (sComp n A (2 ^ t) (n 4) = told)) k) ||| (2 ^ k)))), (0, .ref (q 0)), (1, .int (nI told)), (3, .int (nI k))]) hx hb dX0_thingsThatLeave_40 rfl hl (by decide) rfl (fun ls hl => ?_)
            refine lv_iinc (v := (nI (k + 1))) (lv' := [(3, .int (nI (k + 1))), (2, .int (nI ((orB (fun t => sThere n t && decide (sComp n A (2 ^ t) (n 4) = told)) k) ||| (2 ^ k)))), (0, .ref (q 0)), (1, .int (nI told))]) hx hb dX0_thingsThatLeave_41 hl (k := 3) rfl (nI_add _ _) (by decide) rfl (fun ls hl => ?_)
            refine lv_goto (tgt := 4) hx hb dX0_thingsThatLeave_44 (by decide) ?_
            exact ih (k + 1) (by omega) (by omega) _ _ hP hS _ (by rw [show orB (fun t => sThere n t && decide (sComp n A (2 ^ t) (n 4) = told)) (k + 1) = ((orB (fun t => sThere n t && decide (sComp n A (2 ^ t) (n 4) = told)) k) ||| (2 ^ k)) from (orB_t hz).symm]; exact lv_sub hl [2, 3, 1, 0] rfl)
  exact L4 _ 0 (by omega) (Nat.lt_succ_self _) _ _ hP hS _ (lv_sub hl [2, 3, 1, 0] rfl)
set_option maxRecDepth 20000 in
theorem ggX0_firstYearOfComplaint_X0_complainers : GoodIn wsX0_firstYearOfComplaint wsX0_complainers := goodIn_r _ [6, 7, 8, 9, 10, 11, 12, 5, 13, 14, 15, 16, 17, 18, 19, 20, 21, 22, 23, 24, 25, 26, 27, 28, 29, 30, 31, 32, 33, 34, 35, 36, 37, 38, 39, 40, 41, 42, 43, 44, 45, 46, 47, 48, 49, 50, 51, 52, 53, 54, 55, 56, 57] (by decide +kernel) (by decide +kernel)
set_option maxRecDepth 20000 in
theorem gX0_firstYearOfComplaint_X0_complainers : GoodIn wsX0_firstYearOfComplaint (wsV RX0 126 RX0 yX0_complainers wsX0_complainers) := goodIn_app (goodIn_of _ (by decide +kernel)) ggX0_firstYearOfComplaint_X0_complainers
set_option maxHeartbeats 4000000 in
set_option maxRecDepth 100000 in
theorem kX0_firstYearOfComplaint (l : Launch) (dC : Nat → ClassId) (dI : Nat → Nat → Nat) (cI : ClassId) (q n : Nat → Nat) (A : Nat → Nat → Nat) (X : Nat → Nat → Int32) (hW : WF n A) (hR : RG n A X) (sz : Nat) (hst : 0 < n 6) : Met l yX0_firstYearOfComplaint wsX0_firstYearOfComplaint ({ frames := 4, cells := 0, slots := 0, locals := 101 }) (roP [.ref (q 0)] sz (dC, dI) [(cI, .int)] (wG cI q n X)) (roQi (fyr n A (31 - n 4) (n 4)) sz) 0 0 (va_A [] sz) := by
  refine ro_met_i (by decide) rfl (Nat.le_of_ble_eq_true rfl) ?_
  intro pp ee ss mm aa bb me cd RR QQ Z hx hb hml hown hts hRf hRl hP hK hA hS hend ls hl
  have hown : ss.vm.findClass RX0 = some mm.cls := hown
  have hRf : 4 ≤ RR.frames := hRf
  have hRl : 101 ≤ RR.locals := hRl
  have hl : lv_has ls 2 [(0, .ref (q 0))] := hl
  obtain ⟨w0, w1, w2, w3, w4, w5, w6, w7, w8, wA0, wA1, wA2⟩ := id hW
  have wC : n 0 * n 1 ≤ 42 := Nat.mul_le_mul w0 w1
  have hf71 := hts (.fieldLink RX0 71 "StatueSquare$Ground" "yearNow" "I") (List.mem_of_getElem? (i := 1) rfl)
  have hinX0 : ∀ w ∈ u_ws RX0 TX0 17, w ∈ wsX0_firstYearOfComplaint := fun _ h => List.mem_cons_of_mem _ (List.mem_append_right _ h)
  refine lv_aload_n hx hb dX0_firstYearOfComplaint_0 rfl (lv_at hl 0 rfl) ?_
  refine x_get (D := (dC, dI)) (ci := 0) (v := .int (nI (n 4))) (C := RX0) (T := TX0) (N := 17) hx hb hts hinX0 hown hK hP 0 rfl rfl 13 (Nat.le_of_ble_eq_true rfl) hf71 rfl rfl dX0_firstYearOfComplaint_1 ?_
  refine lv_istore_n (lv' := [(1, .int (nI (n 4))), (0, .ref (q 0))]) hx hb dX0_firstYearOfComplaint_4 rfl hl (by decide) rfl (fun ls hl => ?_)
  have L5 : ∀ (fuel : Nat) (y : Nat) (hy : y ≤ 31) (hfy : fyr n A (31 - n 4) (n 4) = fyr n A (31 - y) y) (hfu : 31 - y < fuel) (H : Heap) (locs : List Loc), va_P (dC, dI) vwCl (wG cI q n X) H → va_S Z ss.heap H locs → ∀ (ls : Array Slot), lv_has ls 2 [(0, .ref (q 0)), (1, .int (nI y))] → W pp l ee RR ss mm aa bb me cd H locs 0 0 QQ (F0 mm 5 ls []) := by
    intro fuel
    induction fuel with
    | zero => intro y hy hfy hfu; exact absurd hfu (Nat.not_lt_zero _)
    | succ fuel ih =>
      intro y hy hfy hfu H locs hP hS ls hl
      refine lv_iload_n hx hb dX0_firstYearOfComplaint_5 rfl (lv_at hl 1 rfl) ?_
      refine lv_bipush (v := nI 30) hx hb dX0_firstYearOfComplaint_6 rfl ?_
      refine x_icmp_gt (tgt := 28) hx hb (by omega) (by omega) dX0_firstYearOfComplaint_8 (by decide) (fun c8 => ?_) (fun c8 => ?_)
      · skip
        refine lv_bipush (v := -9) hx hb dX0_firstYearOfComplaint_28 rfl ?_
        exact hend _ _ _ _ _ (by rw [hfy]; exact fyr_end _ (by omega)) hS dX0_firstYearOfComplaint_30
      · skip
        refine lv_aload_n hx hb dX0_firstYearOfComplaint_11 rfl (lv_at hl 0 rfl) ?_
        refine lv_iconst (v := nI 0) hx hb dX0_firstYearOfComplaint_12 rfl ?_
        refine lv_iload_n hx hb dX0_firstYearOfComplaint_13 rfl (lv_at hl 1 rfl) ?_
        refine roV_i (As := [.int (nI 0), .int (nI y)]) (rest := []) ⟨hx, hb, hml, hown, hts⟩ (kX0_complainers l dC dI cI q n A X hW hR 0 y _ (by omega) (by omega)) (cwV 2 hts gX0_firstYearOfComplaint_X0_complainers rfl rfl rfl hdX0_complainers ⟨Nat.le_trans (Nat.le_of_ble_eq_true rfl) hRf, Nat.le_trans (Nat.le_of_ble_eq_true rfl) hRl⟩) (va_recv hK hP (ci := 0) (q0 := 0) rfl rfl) hK hP rfl hl.1 rfl (Nat.le_of_ble_eq_true rfl) dX0_firstYearOfComplaint_14 ⟨Nat.zero_le _, Nat.zero_le _⟩ hP hS hA (fun H locs hP hS => ?_)
        refine x_if_eq (tgt := 22) hx hb (Nat.lt_of_lt_of_le (orB_lt _ _) (Nat.pow_le_pow_right (by decide) (by omega))) dX0_firstYearOfComplaint_17 (by decide) (fun c17 => ?_) (fun c17 => ?_)
        · skip
          refine lv_iinc (v := (nI (y + 1))) (lv' := [(1, .int (nI (y + 1))), (0, .ref (q 0))]) hx hb dX0_firstYearOfComplaint_22 hl (k := 1) rfl (nI_add _ _) (by decide) rfl (fun ls hl => ?_)
          refine lv_goto (tgt := 5) hx hb dX0_firstYearOfComplaint_25 (by decide) ?_
          exact ih (y + 1) (by omega) (by rw [hfy, show 31 - y = (31 - (y + 1)) + 1 from by omega, fyr, if_pos c17]) (by omega) _ _ hP hS _ (lv_sub hl [1, 0] rfl)
        · skip
          refine lv_iload_n hx hb dX0_firstYearOfComplaint_20 rfl (lv_at hl 1 rfl) ?_
          exact hend _ _ _ _ _ (by rw [hfy, show 31 - y = (31 - (y + 1)) + 1 from by omega, fyr, if_neg c17]) hS dX0_firstYearOfComplaint_21
  exact L5 _ (n 4) (by omega) rfl (Nat.lt_succ_self _) _ _ hP hS _ (lv_sub hl [1, 0] rfl)
set_option maxRecDepth 20000 in
theorem ggX0_isSeenFromAny_X0_partsSeen : GoodIn wsX0_isSeenFromAny wsX0_partsSeen := goodIn_r _ [6, 7, 8, 9, 10, 11, 12, 5, 13, 14, 15, 16, 17, 18, 19, 20, 21, 22, 23, 24, 25, 26, 27, 28, 29, 30, 31, 32, 33, 34, 35, 36, 37, 38, 39, 40, 41, 42, 43, 44, 45, 46, 47, 48, 49, 50, 51, 52, 53, 54, 55, 56, 57] (by decide +kernel) (by decide +kernel)
set_option maxRecDepth 20000 in
theorem gX0_isSeenFromAny_X0_partsSeen : GoodIn wsX0_isSeenFromAny (wsV RX0 115 RX0 yX0_partsSeen wsX0_partsSeen) := goodIn_app (goodIn_of _ (by decide +kernel)) ggX0_isSeenFromAny_X0_partsSeen
set_option maxHeartbeats 4000000 in
set_option maxRecDepth 100000 in
theorem kX0_isSeenFromAny (l : Launch) (dC : Nat → ClassId) (dI : Nat → Nat → Nat) (cI : ClassId) (q n : Nat → Nat) (A : Nat → Nat → Nat) (X : Nat → Nat → Int32) (hW : WF n A) (hR : RG n A X) (tH : Nat) (bs : Nat) (c : Nat) (sz : Nat) (hbs : bs < 4096) (hc : c < n 0 * n 1) : Met l yX0_isSeenFromAny wsX0_isSeenFromAny ({ frames := 4, cells := 0, slots := 0, locals := 101 }) (rsP tH [.ref (q 0), .int (nI bs), .int (nI c)] sz (dC, dI) [(cI, .int)] (wG cI q n X)) (roQi (bI (decide (¬ sAny n A bs c = 0))) sz) 0 0 (va_A [] sz) := by
  refine rs_met_z (by decide) rfl (Nat.le_of_ble_eq_true rfl) ?_
  intro pp ee ss mm aa bb me cd RR QQ Z hx hb hml hown hts hRf hRl hP hK hA hS hZT hend ls hl
  have hown : ss.vm.findClass RX0 = some mm.cls := hown
  have hRf : 4 ≤ RR.frames := hRf
  have hRl : 101 ≤ RR.locals := hRl
  have hl : lv_has ls 4 [(0, .ref (q 0)), (1, .int (nI bs)), (2, .int (nI c))] := hl
  obtain ⟨w0, w1, w2, w3, w4, w5, w6, w7, w8, wA0, wA1, wA2⟩ := id hW
  have wC : n 0 * n 1 ≤ 42 := Nat.mul_le_mul w0 w1
  have hf49 := hts (.fieldLink RX0 49 "StatueSquare$Ground" "benchCount" "I") (List.mem_of_getElem? (i := 1) rfl)
  have hinX0 : ∀ w ∈ u_ws RX0 TX0 17, w ∈ wsX0_isSeenFromAny := fun _ h => List.mem_cons_of_mem _ (List.mem_append_right _ h)
  refine lv_iconst (v := nI 0) hx hb dX0_isSeenFromAny_0 rfl ?_
  refine lv_istore_n (lv' := [(3, .int (nI 0)), (0, .ref (q 0)), (1, .int (nI bs)), (2, .int (nI c))]) hx hb dX0_isSeenFromAny_1 rfl hl (by decide) rfl (fun ls hl => ?_)
  have L2 : ∀ (fuel : Nat) (k : Nat) (hk : k ≤ n 2) (hno : orB (fun b => bs.testBit b && decide (¬ sSeen n A b c = 0)) k = 0) (hfu : n 2 - k < fuel) (H : Heap) (locs : List Loc), va_P (dC, dI) vwCl (wG cI q n X) H → va_S Z ss.heap H locs → ∀ (ls : Array Slot), lv_has ls 4 [(0, .ref (q 0)), (1, .int (nI bs)), (2, .int (nI c)), (3, .int (nI k))] → W pp l ee RR ss mm aa bb me cd H locs 0 0 QQ (F0 mm 2 ls []) := by
    intro fuel
    induction fuel with
    | zero => intro k hk hno hfu; exact absurd hfu (Nat.not_lt_zero _)
    | succ fuel ih =>
      intro k hk hno hfu H locs hP hS ls hl
      refine lv_iload_n hx hb dX0_isSeenFromAny_2 rfl (lv_at hl 3 rfl) ?_
      refine lv_aload_n hx hb dX0_isSeenFromAny_3 rfl (lv_at hl 0 rfl) ?_
      refine x_get (D := (dC, dI)) (ci := 0) (v := .int (nI (n 2))) (C := RX0) (T := TX0) (N := 17) hx hb hts hinX0 hown hK hP 0 rfl rfl 2 (Nat.le_of_ble_eq_true rfl) hf49 rfl rfl dX0_isSeenFromAny_4 ?_
      refine x_icmp_ge (tgt := 35) hx hb (by omega) (by omega) dX0_isSeenFromAny_7 (by decide) (fun c7 => ?_) (fun c7 => ?_)
      · skip
        refine lv_iconst (v := nI 0) hx hb dX0_isSeenFromAny_35 rfl ?_
        exact hend _ _ _ _ _ (n0_b (decide_eq_false (fun q => q (show orB (fun b => bs.testBit b && decide (¬ sSeen n A b c = 0)) (n 2) = 0 from by rw [show n 2 = k from by omega]; exact hno)))) hS dX0_isSeenFromAny_36
      · skip
        refine lv_iload_n hx hb dX0_isSeenFromAny_10 rfl (lv_at hl 1 rfl) ?_
        refine lv_iload_n hx hb dX0_isSeenFromAny_11 rfl (lv_at hl 3 rfl) ?_
        refine x_ishr hx hb (by omega) (by omega) dX0_isSeenFromAny_12 ?_
        refine lv_iconst (v := nI 1) hx hb dX0_isSeenFromAny_13 rfl ?_
        refine x_iand hx hb dX0_isSeenFromAny_14 ?_
        refine x_if_eq (tgt := 29) hx hb (and1_lt _) dX0_isSeenFromAny_15 (by decide) (fun c15 => ?_) (fun c15 => ?_)
        · skip
          have hz : (fun b => bs.testBit b && decide (¬ sSeen n A b c = 0)) k = false := by show (bs.testBit k && _) = false; rw [tb_0.mp c15]; rfl
          refine lv_iinc (v := (nI (k + 1))) (lv' := [(3, .int (nI (k + 1))), (0, .ref (q 0)), (1, .int (nI bs)), (2, .int (nI c))]) hx hb dX0_isSeenFromAny_29 hl (k := 3) rfl (nI_add _ _) (by decide) rfl (fun ls hl => ?_)
          refine lv_goto (tgt := 2) hx hb dX0_isSeenFromAny_32 (by decide) ?_
          exact ih (k + 1) (by omega) ((orB_f hz).symm.trans hno) (by omega) _ _ hP hS _ (lv_sub hl [1, 2, 3, 0] rfl)
        · skip
          have hbt : bs.testBit k = true := by have := mt tb_0.mpr c15; simpa using this
          refine lv_aload_n hx hb dX0_isSeenFromAny_18 rfl (lv_at hl 0 rfl) ?_
          refine lv_iload_n hx hb dX0_isSeenFromAny_19 rfl (lv_at hl 3 rfl) ?_
          refine lv_iload_n hx hb dX0_isSeenFromAny_20 rfl (lv_at hl 2 rfl) ?_
          refine rsV_i (As := [.int (nI k), .int (nI c)]) (rest := []) ⟨hx, hb, hml, hown, hts⟩ (kX0_partsSeen l dC dI cI q n A X hW hR tH k c _ (by omega) (by omega)) (cwV 2 hts gX0_isSeenFromAny_X0_partsSeen rfl rfl rfl hdX0_partsSeen ⟨Nat.le_trans (Nat.le_of_ble_eq_true rfl) hRf, Nat.le_trans (Nat.le_of_ble_eq_true rfl) hRl⟩) (va_recv hK hP (ci := 0) (q0 := 0) rfl rfl) hK hP rfl hl.1 rfl (Nat.le_of_ble_eq_true rfl) dX0_isSeenFromAny_21 ⟨Nat.zero_le _, Nat.zero_le _⟩ hP hS hA hZT (fun H locs hP hS => ?_)
          refine x_if_eq (tgt := 29) hx hb (Nat.lt_trans (sSeen_lt _ _ _ _) (by decide)) dX0_isSeenFromAny_24 (by decide) (fun c24 => ?_) (fun c24 => ?_)
          · skip
            have hz : (fun b => bs.testBit b && decide (¬ sSeen n A b c = 0)) k = false := by show (bs.testBit k && _) = false; rw [hbt, decide_eq_false (fun q => q c24)]; rfl
            refine lv_iinc (v := (nI (k + 1))) (lv' := [(3, .int (nI (k + 1))), (0, .ref (q 0)), (1, .int (nI bs)), (2, .int (nI c))]) hx hb dX0_isSeenFromAny_29 hl (k := 3) rfl (nI_add _ _) (by decide) rfl (fun ls hl => ?_)
            refine lv_goto (tgt := 2) hx hb dX0_isSeenFromAny_32 (by decide) ?_
            exact ih (k + 1) (by omega) ((orB_f hz).symm.trans hno) (by omega) _ _ hP hS _ (lv_sub hl [1, 2, 3, 0] rfl)
          · skip
            have hz : (fun b => bs.testBit b && decide (¬ sSeen n A b c = 0)) k = true := by show (bs.testBit k && _) = true; rw [hbt, decide_eq_true c24]; rfl
            refine lv_iconst (v := nI 1) hx hb dX0_isSeenFromAny_27 rfl ?_
            exact hend _ _ _ _ _ (n1_b (decide_eq_true (orB_ne hz (by omega)))) hS dX0_isSeenFromAny_28
  exact L2 _ 0 (by omega) rfl (Nat.lt_succ_self _) _ _ hP hS _ (lv_sub hl [1, 2, 3, 0] rfl)
theorem hdX0_countWhole : yX0_countWhole.cls = RX0 ∧ yX0_countWhole.cls ≠ "java/lang/invoke/MethodHandle" ∧ yX0_countWhole.cls ≠ "java/lang/invoke/VarHandle" ∧ (parseMethodDescriptor yX0_countWhole.desc).map (fun d => d.parameters.length) = some 2 := by decide +kernel
theorem hdX0_isFree : yX0_isFree.cls = RX0 ∧ yX0_isFree.cls ≠ "java/lang/invoke/MethodHandle" ∧ yX0_isFree.cls ≠ "java/lang/invoke/VarHandle" ∧ (parseMethodDescriptor yX0_isFree.desc).map (fun d => d.parameters.length) = some 1 := by decide +kernel
set_option maxRecDepth 20000 in
theorem ggX0_bestCell_X0_isFree : GoodIn wsX0_bestCell wsX0_isFree := goodIn_r _ [6, 7, 44, 45, 46, 47, 48, 49, 50, 51, 52, 53, 54, 55, 56, 57, 58, 59, 60] (by decide +kernel) (by decide +kernel)
set_option maxRecDepth 20000 in
theorem gX0_bestCell_X0_isFree : GoodIn wsX0_bestCell (wsV RX0 129 RX0 yX0_isFree wsX0_isFree) := goodIn_app (goodIn_of _ (by decide +kernel)) ggX0_bestCell_X0_isFree
set_option maxRecDepth 20000 in
theorem ggX0_bestCell_X0_countWhole : GoodIn wsX0_bestCell wsX0_countWhole := goodIn_r _ [11, 12, 13, 14, 15, 16, 5, 17, 18, 7, 19, 20, 21, 22, 23, 24, 25, 26, 27, 28, 29, 30, 31, 32, 33, 34, 35, 36, 37, 38, 39, 40, 41, 42, 43, 44, 45, 46, 47, 48, 49, 50, 51, 52, 53, 54, 55, 56, 57, 58, 59, 60] (by decide +kernel) (by decide +kernel)
set_option maxRecDepth 20000 in
theorem gX0_bestCell_X0_countWhole : GoodIn wsX0_bestCell (wsV RX0 132 RX0 yX0_countWhole wsX0_countWhole) := goodIn_app (goodIn_of _ (by decide +kernel)) ggX0_bestCell_X0_countWhole
set_option maxHeartbeats 4000000 in
set_option maxRecDepth 100000 in
theorem kX0_bestCell (l : Launch) (dC : Nat → ClassId) (dI : Nat → Nat → Nat) (cI : ClassId) (q n : Nat → Nat) (A : Nat → Nat → Nat) (X : Nat → Nat → Int32) (hW : WF n A) (hR : RG n A X) (bl : Nat) (sz : Nat) (hbl : bl ≤ 9) : Met l yX0_bestCell wsX0_bestCell ({ frames := 4, cells := 0, slots := 0, locals := 101 }) (roP [.ref (q 0), .int (nI bl)] sz (dC, dI) [(cI, .int)] (wG cI q n X)) (roQi (stI (sBest n A bl (n 0 * n 1)).1) sz) 0 0 (va_A [] sz) := by
  refine ro_met_i (by decide) rfl (Nat.le_of_ble_eq_true rfl) ?_
  intro pp ee ss mm aa bb me cd RR QQ Z hx hb hml hown hts hRf hRl hP hK hA hS hend ls hl
  have hown : ss.vm.findClass RX0 = some mm.cls := hown
  have hRf : 4 ≤ RR.frames := hRf
  have hRl : 101 ≤ RR.locals := hRl
  have hl : lv_has ls 6 [(0, .ref (q 0)), (1, .int (nI bl))] := hl
  obtain ⟨w0, w1, w2, w3, w4, w5, w6, w7, w8, wA0, wA1, wA2⟩ := id hW
  have wC : n 0 * n 1 ≤ 42 := Nat.mul_le_mul w0 w1
  have hcl : ∀ c, sCnt n A c bl ≤ 12 := fun c => Nat.le_trans (sCnt_le _ _ _ _) w2
  have hf46 := hts (.fieldLink RX0 46 "StatueSquare$Ground" "cellCount" "I") (List.mem_of_getElem? (i := 1) rfl)
  have hinX0 : ∀ w ∈ u_ws RX0 TX0 17, w ∈ wsX0_bestCell := fun _ h => List.mem_cons_of_mem _ (List.mem_append_right _ h)
  refine lv_bipush (v := -9) hx hb dX0_bestCell_0 rfl ?_
  refine lv_istore_n (lv' := [(2, .int (-9)), (0, .ref (q 0)), (1, .int (nI bl))]) hx hb dX0_bestCell_2 rfl hl (by decide) rfl (fun ls hl => ?_)
  refine lv_iconst (v := -1) hx hb dX0_bestCell_3 rfl ?_
  refine lv_istore_n (lv' := [(3, .int (-1)), (2, .int (-9)), (0, .ref (q 0)), (1, .int (nI bl))]) hx hb dX0_bestCell_4 rfl hl (by decide) rfl (fun ls hl => ?_)
  refine lv_iconst (v := nI 0) hx hb dX0_bestCell_5 rfl ?_
  refine lv_istore (lv' := [(4, .int (nI 0)), (3, .int (-1)), (2, .int (-9)), (0, .ref (q 0)), (1, .int (nI bl))]) hx hb dX0_bestCell_6 hl (by decide) rfl (fun ls hl => ?_)
  have L8 : ∀ (fuel : Nat) (k : Nat) (hk : k ≤ n 0 * n 1) (hfu : n 0 * n 1 - k < fuel) (H : Heap) (locs : List Loc), va_P (dC, dI) vwCl (wG cI q n X) H → va_S Z ss.heap H locs → ∀ (ls : Array Slot), lv_has ls 6 [(0, .ref (q 0)), (1, .int (nI bl)), (2, .int (stI (sBest n A bl k).1)), (3, .int (pI (sBest n A bl k).2)), (4, .int (nI k))] → W pp l ee RR ss mm aa bb me cd H locs 0 0 QQ (F0 mm 8 ls []) := by
    intro fuel
    induction fuel with
    | zero => intro k hk hfu; exact absurd hfu (Nat.not_lt_zero _)
    | succ fuel ih =>
      intro k hk hfu H locs hP hS ls hl
      have hbs := bst_le (fr := (fun c => decide (A 0 c = 0))) (ct := (fun c => sCnt n A c bl)) hcl k
      have hbs2 : (sBest n A bl k).2 ≤ 13 := hbs.2
      refine lv_iload hx hb dX0_bestCell_8 (lv_at hl 4 rfl) ?_
      refine lv_aload_n hx hb dX0_bestCell_10 rfl (lv_at hl 0 rfl) ?_
      refine x_get (D := (dC, dI)) (ci := 0) (v := .int (nI (n 0 * n 1))) (C := RX0) (T := TX0) (N := 17) hx hb hts hinX0 hown hK hP 0 rfl rfl 1 (Nat.le_of_ble_eq_true rfl) hf46 rfl rfl dX0_bestCell_11 ?_
      refine x_icmp_ge (tgt := 57) hx hb (by omega) (by omega) dX0_bestCell_14 (by decide) (fun c14 => ?_) (fun c14 => ?_)
      · skip
        refine lv_iload_n hx hb dX0_bestCell_57 rfl (lv_at hl 2 rfl) ?_
        exact hend _ _ _ _ _ (by rw [show n 0 * n 1 = k from by omega]) hS dX0_bestCell_58
      · skip
        refine lv_aload_n hx hb dX0_bestCell_17 rfl (lv_at hl 0 rfl) ?_
        refine lv_iload hx hb dX0_bestCell_18 (lv_at hl 4 rfl) ?_
        refine roV_i (As := [.int (nI k)]) (rest := []) ⟨hx, hb, hml, hown, hts⟩ (kX0_isFree l dC dI cI q n A X hW hR k _ (by omega)) (cwV 1 hts gX0_bestCell_X0_isFree rfl rfl rfl hdX0_isFree ⟨Nat.le_trans (Nat.le_of_ble_eq_true rfl) hRf, Nat.le_trans (Nat.le_of_ble_eq_true rfl) hRl⟩) (va_recv hK hP (ci := 0) (q0 := 0) rfl rfl) hK hP rfl hl.1 rfl (Nat.le_of_ble_eq_true rfl) dX0_bestCell_20 ⟨Nat.zero_le _, Nat.zero_le _⟩ hP hS hA (fun H locs hP hS => ?_)
        refine x_ifb_eq (tgt := 36) hx hb dX0_bestCell_23 (by decide) (fun c23 => ?_) (fun c23 => ?_)
        · skip
          have hnf : ¬ A 0 k = 0 := of_decide_eq_false c23
          refine lv_iconst (v := -1) hx hb dX0_bestCell_36 rfl ?_
          refine lv_istore (lv' := [(5, .int (-1)), (0, .ref (q 0)), (1, .int (nI bl)), (2, .int (stI (sBest n A bl k).1)), (3, .int (pI (sBest n A bl k).2)), (4, .int (nI k))]) hx hb dX0_bestCell_37 hl (by decide) rfl (fun ls hl => ?_)
          refine lv_iload hx hb dX0_bestCell_39 (lv_at hl 0 rfl) ?_
          refine lv_iload_n hx hb dX0_bestCell_41 rfl (lv_at hl 4 rfl) ?_
          refine lv_icmp_le (tgt := 51) hx hb dX0_bestCell_42 (by decide) (fun c42 => ?_) (fun c42 => ?_)
          · skip
            have hz : sBest n A bl (k + 1) = sBest n A bl k := if_neg (fun q => hnf (of_decide_eq_true q.1))
            refine lv_iinc (v := (nI (k + 1))) (lv' := [(4, .int (nI (k + 1))), (5, .int (-1)), (0, .ref (q 0)), (1, .int (nI bl)), (2, .int (stI (sBest n A bl k).1)), (3, .int (pI (sBest n A bl k).2))]) hx hb dX0_bestCell_51 hl (k := 5) rfl (nI_add _ _) (by decide) rfl (fun ls hl => ?_)
            refine lv_goto (tgt := 8) hx hb dX0_bestCell_54 (by decide) ?_
            exact ih (k + 1) (by omega) (by omega) _ _ hP hS _ (by rw [hz]; exact lv_sub hl [2, 3, 4, 5, 0] rfl)
          · skip
            exact absurd (pI_min (by omega)) c42
        · skip
          have hfr : A 0 k = 0 := of_decide_eq_true c23
          refine lv_aload_n hx hb dX0_bestCell_26 rfl (lv_at hl 0 rfl) ?_
          refine lv_iload hx hb dX0_bestCell_27 (lv_at hl 4 rfl) ?_
          refine lv_iload_n hx hb dX0_bestCell_29 rfl (lv_at hl 1 rfl) ?_
          refine roV_i (As := [.int (nI k), .int (nI bl)]) (rest := []) ⟨hx, hb, hml, hown, hts⟩ (kX0_countWhole l dC dI cI q n A X hW hR k bl _ (by omega) (by omega)) (cwV 2 hts gX0_bestCell_X0_countWhole rfl rfl rfl hdX0_countWhole ⟨Nat.le_trans (Nat.le_of_ble_eq_true rfl) hRf, Nat.le_trans (Nat.le_of_ble_eq_true rfl) hRl⟩) (va_recv hK hP (ci := 0) (q0 := 0) rfl rfl) hK hP rfl hl.1 rfl (Nat.le_of_ble_eq_true rfl) dX0_bestCell_30 ⟨Nat.zero_le _, Nat.zero_le _⟩ hP hS hA (fun H locs hP hS => ?_)
          refine lv_goto (tgt := 37) hx hb dX0_bestCell_33 (by decide) ?_
          refine lv_istore (lv' := [(5, .int (nI (sCnt n A k bl))), (0, .ref (q 0)), (1, .int (nI bl)), (2, .int (stI (sBest n A bl k).1)), (3, .int (pI (sBest n A bl k).2)), (4, .int (nI k))]) hx hb dX0_bestCell_37 hl (by decide) rfl (fun ls hl => ?_)
          refine lv_iload hx hb dX0_bestCell_39 (lv_at hl 0 rfl) ?_
          refine lv_iload_n hx hb dX0_bestCell_41 rfl (lv_at hl 4 rfl) ?_
          refine lv_icmp_le (tgt := 51) hx hb dX0_bestCell_42 (by decide) (fun c42 => ?_) (fun c42 => ?_)
          · skip
            have hz : sBest n A bl (k + 1) = sBest n A bl k := if_neg (fun q => by have := (pI_lt (by have := hcl k; omega) (by omega)).mp c42; have q2 : (sBest n A bl k).2 < sCnt n A k bl + 1 := q.2; omega)
            refine lv_iinc (v := (nI (k + 1))) (lv' := [(4, .int (nI (k + 1))), (5, .int (nI (sCnt n A k bl))), (0, .ref (q 0)), (1, .int (nI bl)), (2, .int (stI (sBest n A bl k).1)), (3, .int (pI (sBest n A bl k).2))]) hx hb dX0_bestCell_51 hl (k := 5) rfl (nI_add _ _) (by decide) rfl (fun ls hl => ?_)
            refine lv_goto (tgt := 8) hx hb dX0_bestCell_54 (by decide) ?_
            exact ih (k + 1) (by omega) (by omega) _ _ hP hS _ (by rw [hz]; exact lv_sub hl [2, 3, 4, 5, 0] rfl)
          · skip
            have hz : sBest n A bl (k + 1) = (k + 1, sCnt n A k bl + 1) := if_pos ⟨decide_eq_true hfr, show (sBest n A bl k).2 < sCnt n A k bl + 1 from by have := mt (pI_lt (by have := hcl k; omega) (by omega)).mpr c42; omega⟩
            refine lv_iload hx hb dX0_bestCell_45 (lv_at hl 5 rfl) ?_
            refine lv_istore_n (lv' := [(2, .int (nI k)), (5, .int (nI (sCnt n A k bl))), (0, .ref (q 0)), (1, .int (nI bl)), (3, .int (pI (sBest n A bl k).2)), (4, .int (nI k))]) hx hb dX0_bestCell_47 rfl hl (by decide) rfl (fun ls hl => ?_)
            refine lv_iload hx hb dX0_bestCell_48 (lv_at hl 1 rfl) ?_
            refine lv_istore_n (lv' := [(3, .int (nI (sCnt n A k bl))), (2, .int (nI k)), (5, .int (nI (sCnt n A k bl))), (0, .ref (q 0)), (1, .int (nI bl)), (4, .int (nI k))]) hx hb dX0_bestCell_50 rfl hl (by decide) rfl (fun ls hl => ?_)
            refine lv_iinc (v := (nI (k + 1))) (lv' := [(4, .int (nI (k + 1))), (3, .int (nI (sCnt n A k bl))), (2, .int (nI k)), (5, .int (nI (sCnt n A k bl))), (0, .ref (q 0)), (1, .int (nI bl))]) hx hb dX0_bestCell_51 hl (k := 5) rfl (nI_add _ _) (by decide) rfl (fun ls hl => ?_)
            refine lv_goto (tgt := 8) hx hb dX0_bestCell_54 (by decide) ?_
            exact ih (k + 1) (by omega) (by omega) _ _ hP hS _ (by rw [hz]; exact lv_sub hl [4, 5, 2, 1, 0] rfl)
  exact L8 _ 0 (by omega) (Nat.lt_succ_self _) _ _ hP hS _ (lv_sub hl [3, 4, 2, 1, 0] rfl)
set_option maxRecDepth 20000 in
theorem ggX0_leastBlock_X0_countWhole : GoodIn wsX0_leastBlock wsX0_countWhole := goodIn_r _ [5, 6, 7, 8, 9, 10, 4, 11, 12, 13, 14, 15, 16, 17, 18, 19, 20, 21, 22, 23, 24, 25, 26, 27, 28, 29, 30, 31, 32, 33, 34, 35, 36, 37, 38, 39, 40, 41, 42, 43, 44, 45, 46, 47, 48, 49, 50, 51, 52, 53, 54, 55] (by decide +kernel) (by decide +kernel)
set_option maxRecDepth 20000 in
theorem gX0_leastBlock_X0_countWhole : GoodIn wsX0_leastBlock (wsV RX0 132 RX0 yX0_countWhole wsX0_countWhole) := goodIn_app (goodIn_of _ (by decide +kernel)) ggX0_leastBlock_X0_countWhole
set_option maxHeartbeats 4000000 in
set_option maxRecDepth 100000 in
theorem kX0_leastBlock (l : Launch) (dC : Nat → ClassId) (dI : Nat → Nat → Nat) (cI : ClassId) (q n : Nat → Nat) (A : Nat → Nat → Nat) (X : Nat → Nat → Int32) (hW : WF n A) (hR : RG n A X) (c : Nat) (sz : Nat) (hc : c < n 0 * n 1) : Met l yX0_leastBlock wsX0_leastBlock ({ frames := 4, cells := 0, slots := 0, locals := 101 }) (roP [.ref (q 0), .int (nI c)] sz (dC, dI) [(cI, .int)] (wG cI q n X)) (roQi (nI ((sLeast n A c 10).1 - 1)) sz) 0 0 (va_A [] sz) := by
  refine ro_met_i (by decide) rfl (Nat.le_of_ble_eq_true rfl) ?_
  intro pp ee ss mm aa bb me cd RR QQ Z hx hb hml hown hts hRf hRl hP hK hA hS hend ls hl
  have hown : ss.vm.findClass RX0 = some mm.cls := hown
  have hRf : 4 ≤ RR.frames := hRf
  have hRl : 101 ≤ RR.locals := hRl
  have hl : lv_has ls 6 [(0, .ref (q 0)), (1, .int (nI c))] := hl
  obtain ⟨w0, w1, w2, w3, w4, w5, w6, w7, w8, wA0, wA1, wA2⟩ := id hW
  have wC : n 0 * n 1 ≤ 42 := Nat.mul_le_mul w0 w1
  have hcl : ∀ bl, sCnt n A c bl ≤ 12 := fun bl => Nat.le_trans (sCnt_le _ _ _ _) w2
  refine lv_iconst (v := nI 0) hx hb dX0_leastBlock_0 rfl ?_
  refine lv_istore_n (lv' := [(2, .int (nI 0)), (0, .ref (q 0)), (1, .int (nI c))]) hx hb dX0_leastBlock_1 rfl hl (by decide) rfl (fun ls hl => ?_)
  refine lv_iconst (v := -1) hx hb dX0_leastBlock_2 rfl ?_
  refine lv_istore_n (lv' := [(3, .int (-1)), (2, .int (nI 0)), (0, .ref (q 0)), (1, .int (nI c))]) hx hb dX0_leastBlock_3 rfl hl (by decide) rfl (fun ls hl => ?_)
  refine lv_iconst (v := nI 0) hx hb dX0_leastBlock_4 rfl ?_
  refine lv_istore (lv' := [(4, .int (nI 0)), (3, .int (-1)), (2, .int (nI 0)), (0, .ref (q 0)), (1, .int (nI c))]) hx hb dX0_leastBlock_5 hl (by decide) rfl (fun ls hl => ?_)
  have L7 : ∀ (fuel : Nat) (k : Nat) (hk : k ≤ 10) (hfu : 10 - k < fuel) (H : Heap) (locs : List Loc), va_P (dC, dI) vwCl (wG cI q n X) H → va_S Z ss.heap H locs → ∀ (ls : Array Slot), lv_has ls 6 [(0, .ref (q 0)), (1, .int (nI c)), (2, .int (nI ((sLeast n A c k).1 - 1))), (3, .int (pI (sLeast n A c k).2)), (4, .int (nI k))] → W pp l ee RR ss mm aa bb me cd H locs 0 0 QQ (F0 mm 7 ls []) := by
    intro fuel
    induction fuel with
    | zero => intro k hk hfu; exact absurd hfu (Nat.not_lt_zero _)
    | succ fuel ih =>
      intro k hk hfu H locs hP hS ls hl
      have hbs := bst_le (fr := (fun _ => true)) (ct := (fun bl => sCnt n A c bl)) hcl k
      have hbs2 : (sLeast n A c k).2 ≤ 13 := hbs.2
      refine lv_iload hx hb dX0_leastBlock_7 (lv_at hl 4 rfl) ?_
      refine lv_bipush (v := nI 9) hx hb dX0_leastBlock_9 rfl ?_
      refine x_icmp_gt (tgt := 41) hx hb (by omega) (by omega) dX0_leastBlock_11 (by decide) (fun c11 => ?_) (fun c11 => ?_)
      · skip
        refine lv_iload_n hx hb dX0_leastBlock_41 rfl (lv_at hl 2 rfl) ?_
        exact hend _ _ _ _ _ (by rw [show k = 10 from by omega]) hS dX0_leastBlock_42
      · skip
        refine lv_aload_n hx hb dX0_leastBlock_14 rfl (lv_at hl 0 rfl) ?_
        refine lv_iload_n hx hb dX0_leastBlock_15 rfl (lv_at hl 1 rfl) ?_
        refine lv_iload hx hb dX0_leastBlock_16 (lv_at hl 4 rfl) ?_
        refine roV_i (As := [.int (nI c), .int (nI k)]) (rest := []) ⟨hx, hb, hml, hown, hts⟩ (kX0_countWhole l dC dI cI q n A X hW hR c k _ (by omega) (by omega)) (cwV 2 hts gX0_leastBlock_X0_countWhole rfl rfl rfl hdX0_countWhole ⟨Nat.le_trans (Nat.le_of_ble_eq_true rfl) hRf, Nat.le_trans (Nat.le_of_ble_eq_true rfl) hRl⟩) (va_recv hK hP (ci := 0) (q0 := 0) rfl rfl) hK hP rfl hl.1 rfl (Nat.le_of_ble_eq_true rfl) dX0_leastBlock_18 ⟨Nat.zero_le _, Nat.zero_le _⟩ hP hS hA (fun H locs hP hS => ?_)
        refine lv_istore (lv' := [(5, .int (nI (sCnt n A c k))), (0, .ref (q 0)), (1, .int (nI c)), (2, .int (nI ((sLeast n A c k).1 - 1))), (3, .int (pI (sLeast n A c k).2)), (4, .int (nI k))]) hx hb dX0_leastBlock_21 hl (by decide) rfl (fun ls hl => ?_)
        refine lv_iload hx hb dX0_leastBlock_23 (lv_at hl 0 rfl) ?_
        refine lv_iload_n hx hb dX0_leastBlock_25 rfl (lv_at hl 4 rfl) ?_
        refine lv_icmp_le (tgt := 35) hx hb dX0_leastBlock_26 (by decide) (fun c26 => ?_) (fun c26 => ?_)
        · skip
          have hz : sLeast n A c (k + 1) = sLeast n A c k := if_neg (fun q => by have := (pI_lt (by have := hcl k; omega) (by omega)).mp c26; have q2 : (sLeast n A c k).2 < sCnt n A c k + 1 := q.2; omega)
          refine lv_iinc (v := (nI (k + 1))) (lv' := [(4, .int (nI (k + 1))), (5, .int (nI (sCnt n A c k))), (0, .ref (q 0)), (1, .int (nI c)), (2, .int (nI ((sLeast n A c k).1 - 1))), (3, .int (pI (sLeast n A c k).2))]) hx hb dX0_leastBlock_35 hl (k := 5) rfl (nI_add _ _) (by decide) rfl (fun ls hl => ?_)
          refine lv_goto (tgt := 7) hx hb dX0_leastBlock_38 (by decide) ?_
          exact ih (k + 1) (by omega) (by omega) _ _ hP hS _ (by rw [hz]; exact lv_sub hl [2, 3, 4, 5, 0] rfl)
        · skip
          have hz : sLeast n A c (k + 1) = (k + 1, sCnt n A c k + 1) := if_pos ⟨rfl, show (sLeast n A c k).2 < sCnt n A c k + 1 from by have := mt (pI_lt (by have := hcl k; omega) (by omega)).mpr c26; omega⟩
          refine lv_iload hx hb dX0_leastBlock_29 (lv_at hl 5 rfl) ?_
          refine lv_istore_n (lv' := [(2, .int (nI k)), (5, .int (nI (sCnt n A c k))), (0, .ref (q 0)), (1, .int (nI c)), (3, .int (pI (sLeast n A c k).2)), (4, .int (nI k))]) hx hb dX0_leastBlock_31 rfl hl (by decide) rfl (fun ls hl => ?_)
          refine lv_iload hx hb dX0_leastBlock_32 (lv_at hl 1 rfl) ?_
          refine lv_istore_n (lv' := [(3, .int (nI (sCnt n A c k))), (2, .int (nI k)), (5, .int (nI (sCnt n A c k))), (0, .ref (q 0)), (1, .int (nI c)), (4, .int (nI k))]) hx hb dX0_leastBlock_34 rfl hl (by decide) rfl (fun ls hl => ?_)
          refine lv_iinc (v := (nI (k + 1))) (lv' := [(4, .int (nI (k + 1))), (3, .int (nI (sCnt n A c k))), (2, .int (nI k)), (5, .int (nI (sCnt n A c k))), (0, .ref (q 0)), (1, .int (nI c))]) hx hb dX0_leastBlock_35 hl (k := 5) rfl (nI_add _ _) (by decide) rfl (fun ls hl => ?_)
          refine lv_goto (tgt := 7) hx hb dX0_leastBlock_38 (by decide) ?_
          exact ih (k + 1) (by omega) (by omega) _ _ hP hS _ (by rw [hz]; exact lv_sub hl [4, 5, 2, 1, 0] rfl)
  exact L7 _ 0 (by omega) (Nat.lt_succ_self _) _ _ hP hS _ (lv_sub hl [3, 4, 2, 1, 0] rfl)
theorem hdX0_benchesThatSeeWhole : yX0_benchesThatSeeWhole.cls = RX0 ∧ yX0_benchesThatSeeWhole.cls ≠ "java/lang/invoke/MethodHandle" ∧ yX0_benchesThatSeeWhole.cls ≠ "java/lang/invoke/VarHandle" ∧ (parseMethodDescriptor yX0_benchesThatSeeWhole.desc).map (fun d => d.parameters.length) = some 0 := by decide +kernel
theorem hdX0_isSeenFromAny : yX0_isSeenFromAny.cls = RX0 ∧ yX0_isSeenFromAny.cls ≠ "java/lang/invoke/MethodHandle" ∧ yX0_isSeenFromAny.cls ≠ "java/lang/invoke/VarHandle" ∧ (parseMethodDescriptor yX0_isSeenFromAny.desc).map (fun d => d.parameters.length) = some 2 := by decide +kernel
set_option maxRecDepth 20000 in
theorem ggX0_unseenCells_X0_benchesThatSeeWhole : GoodIn wsX0_unseenCells wsX0_benchesThatSeeWhole := goodIn_r _ [7, 8, 9, 10, 11, 12, 6, 13, 2, 14, 15, 16, 17, 18, 19, 20, 21, 22, 23, 24, 25, 26, 27, 28, 29, 30, 31, 32, 33, 34, 35, 36, 37, 38, 39, 40, 41, 42, 43, 44, 45, 59, 60, 61, 62, 63, 64, 65, 66, 67, 68, 69, 70, 71, 72, 73, 74, 75] (by decide +kernel) (by decide +kernel)
set_option maxRecDepth 20000 in
theorem gX0_unseenCells_X0_benchesThatSeeWhole : GoodIn wsX0_unseenCells (wsV RX0 135 RX0 yX0_benchesThatSeeWhole wsX0_benchesThatSeeWhole) := goodIn_app (goodIn_of _ (by decide +kernel)) ggX0_unseenCells_X0_benchesThatSeeWhole
set_option maxRecDepth 20000 in
theorem ggX0_unseenCells_X0_isFree : GoodIn wsX0_unseenCells wsX0_isFree := goodIn_r _ [49, 20, 59, 60, 61, 62, 63, 64, 65, 66, 67, 68, 69, 70, 71, 72, 73, 74, 75] (by decide +kernel) (by decide +kernel)
set_option maxRecDepth 20000 in
theorem gX0_unseenCells_X0_isFree : GoodIn wsX0_unseenCells (wsV RX0 129 RX0 yX0_isFree wsX0_isFree) := goodIn_app (goodIn_of _ (by decide +kernel)) ggX0_unseenCells_X0_isFree
set_option maxRecDepth 20000 in
theorem ggX0_unseenCells_X0_isSeenFromAny : GoodIn wsX0_unseenCells wsX0_isSeenFromAny := goodIn_r _ [53, 8, 54, 55, 56, 6, 57, 14, 58, 9, 15, 16, 17, 18, 19, 20, 21, 22, 23, 24, 25, 26, 27, 28, 29, 30, 31, 32, 33, 34, 35, 36, 37, 38, 39, 40, 41, 42, 43, 44, 45, 59, 60, 61, 62, 63, 64, 65, 66, 67, 68, 69, 70, 71, 72, 73, 74, 75] (by decide +kernel) (by decide +kernel)
set_option maxRecDepth 20000 in
theorem gX0_unseenCells_X0_isSeenFromAny : GoodIn wsX0_unseenCells (wsV RX0 139 RX0 yX0_isSeenFromAny wsX0_isSeenFromAny) := goodIn_app (goodIn_of _ (by decide +kernel)) ggX0_unseenCells_X0_isSeenFromAny
set_option maxHeartbeats 4000000 in
set_option maxRecDepth 100000 in
theorem kX0_unseenCells (l : Launch) (dC : Nat → ClassId) (dI : Nat → Nat → Nat) (cI : ClassId) (q n : Nat → Nat) (A : Nat → Nat → Nat) (X : Nat → Nat → Int32) (hW : WF n A) (hR : RG n A X) (tH : Nat) (sz : Nat) (hst : 0 < n 6) : Met l yX0_unseenCells wsX0_unseenCells ({ frames := 5, cells := 0, slots := 0, locals := 124 }) (rsP tH [.ref (q 0)] sz (dC, dI) [(cI, .int)] (wG cI q n X)) (roQl (lN (sSec n A)) sz) 0 0 (va_A [] sz) := by
  refine rs_met_l (by decide) rfl (Nat.le_of_ble_eq_true rfl) ?_
  intro pp ee ss mm aa bb me cd RR QQ Z hx hb hml hown hts hRf hRl hP hK hA hS hZT hend ls hl
  have hown : ss.vm.findClass RX0 = some mm.cls := hown
  have hRf : 5 ≤ RR.frames := hRf
  have hRl : 124 ≤ RR.locals := hRl
  have hl : lv_has ls 5 [(0, .ref (q 0))] := hl
  obtain ⟨w0, w1, w2, w3, w4, w5, w6, w7, w8, wA0, wA1, wA2⟩ := id hW
  have wC : n 0 * n 1 ≤ 42 := Nat.mul_le_mul w0 w1
  have hf46 := hts (.fieldLink RX0 46 "StatueSquare$Ground" "cellCount" "I") (List.mem_of_getElem? (i := 1) rfl)
  have hinX0 : ∀ w ∈ u_ws RX0 TX0 17, w ∈ wsX0_unseenCells := fun _ h => List.mem_cons_of_mem _ (List.mem_append_right _ h)
  have hf36 := hts (.fieldLink RX0 36 "StatueSquare$Ground" "statueCell" "I") (List.mem_of_getElem? (i := 2) rfl)
  refine lv_aload_n hx hb dX0_unseenCells_0 rfl (lv_at hl 0 rfl) ?_
  refine roV_i (As := []) (rest := []) ⟨hx, hb, hml, hown, hts⟩ (kX0_benchesThatSeeWhole l dC dI cI q n A X hW hR  _ (by omega)) (cwV 0 hts gX0_unseenCells_X0_benchesThatSeeWhole rfl rfl rfl hdX0_benchesThatSeeWhole ⟨Nat.le_trans (Nat.le_of_ble_eq_true rfl) hRf, Nat.le_trans (Nat.le_of_ble_eq_true rfl) hRl⟩) (va_recv hK hP (ci := 0) (q0 := 0) rfl rfl) hK hP rfl hl.1 rfl (Nat.le_of_ble_eq_true rfl) dX0_unseenCells_1 ⟨Nat.zero_le _, Nat.zero_le _⟩ hP hS hA (fun H locs hP hS => ?_)
  refine lv_istore_n (lv' := [(1, .int (nI (sWhole n A))), (0, .ref (q 0))]) hx hb dX0_unseenCells_4 rfl hl (by decide) rfl (fun ls hl => ?_)
  refine lv_lconst (v := 0) hx hb dX0_unseenCells_5 rfl ?_
  refine lv_lstore_n (lv' := [(2, .long 0), (1, .int (nI (sWhole n A))), (0, .ref (q 0))]) hx hb dX0_unseenCells_6 rfl hl (by decide) rfl (fun ls hl => ?_)
  refine lv_iconst (v := nI 0) hx hb dX0_unseenCells_7 rfl ?_
  refine lv_istore (lv' := [(4, .int (nI 0)), (2, .long 0), (1, .int (nI (sWhole n A))), (0, .ref (q 0))]) hx hb dX0_unseenCells_8 hl (by decide) rfl (fun ls hl => ?_)
  have L10 : ∀ (fuel : Nat) (k : Nat) (hk : k ≤ n 0 * n 1) (hfu : n 0 * n 1 - k < fuel) (H : Heap) (locs : List Loc), va_P (dC, dI) vwCl (wG cI q n X) H → va_S Z ss.heap H locs → ∀ (ls : Array Slot), lv_has ls 5 [(0, .ref (q 0)), (1, .int (nI (sWhole n A))), (2, .long (lN (orB (fun c => decide (A 0 c = 0) && (decide (¬ c = n 6 - 1) && decide (sAny n A (sWhole n A) c = 0))) k))), (4, .int (nI k))] → W pp l ee RR ss mm aa bb me cd H locs 0 0 QQ (F0 mm 10 ls []) := by
    intro fuel
    induction fuel with
    | zero => intro k hk hfu; exact absurd hfu (Nat.not_lt_zero _)
    | succ fuel ih =>
      intro k hk hfu H locs hP hS ls hl
      refine lv_iload hx hb dX0_unseenCells_10 (lv_at hl 3 rfl) ?_
      refine lv_aload_n hx hb dX0_unseenCells_12 rfl (lv_at hl 0 rfl) ?_
      refine x_get (D := (dC, dI)) (ci := 0) (v := .int (nI (n 0 * n 1))) (C := RX0) (T := TX0) (N := 17) hx hb hts hinX0 hown hK hP 0 rfl rfl 1 (Nat.le_of_ble_eq_true rfl) hf46 rfl rfl dX0_unseenCells_13 ?_
      refine x_icmp_ge (tgt := 60) hx hb (by omega) (by omega) dX0_unseenCells_16 (by decide) (fun c16 => ?_) (fun c16 => ?_)
      · skip
        refine lv_lload_n hx hb dX0_unseenCells_60 rfl (lv_at hl 2 rfl) ?_
        exact hend _ _ _ _ _ (by rw [show sSec n A = orB (fun c => decide (A 0 c = 0) && (decide (¬ c = n 6 - 1) && decide (sAny n A (sWhole n A) c = 0))) k from by rw [show k = n 0 * n 1 from by omega]; rfl]) hS dX0_unseenCells_61
      · skip
        refine lv_aload_n hx hb dX0_unseenCells_19 rfl (lv_at hl 0 rfl) ?_
        refine lv_iload hx hb dX0_unseenCells_20 (lv_at hl 3 rfl) ?_
        refine roV_i (As := [.int (nI k)]) (rest := []) ⟨hx, hb, hml, hown, hts⟩ (kX0_isFree l dC dI cI q n A X hW hR k _ (by omega)) (cwV 1 hts gX0_unseenCells_X0_isFree rfl rfl rfl hdX0_isFree ⟨Nat.le_trans (Nat.le_of_ble_eq_true rfl) hRf, Nat.le_trans (Nat.le_of_ble_eq_true rfl) hRl⟩) (va_recv hK hP (ci := 0) (q0 := 0) rfl rfl) hK hP rfl hl.1 rfl (Nat.le_of_ble_eq_true rfl) dX0_unseenCells_22 ⟨Nat.zero_le _, Nat.zero_le _⟩ hP hS hA (fun H locs hP hS => ?_)
        refine x_ifb_eq (tgt := 54) hx hb dX0_unseenCells_25 (by decide) (fun c25 => ?_) (fun c25 => ?_)
        · skip
          have hz : (fun c => decide (A 0 c = 0) && (decide (¬ c = n 6 - 1) && decide (sAny n A (sWhole n A) c = 0))) k = false := by show (decide (A 0 k = 0) && _) = false; rw [c25]; rfl
          refine lv_iinc (v := (nI (k + 1))) (lv' := [(4, .int (nI (k + 1))), (0, .ref (q 0)), (1, .int (nI (sWhole n A))), (2, .long (lN (orB (fun c => decide (A 0 c = 0) && (decide (¬ c = n 6 - 1) && decide (sAny n A (sWhole n A) c = 0))) k)))]) hx hb dX0_unseenCells_54 hl (k := 3) rfl (nI_add _ _) (by decide) rfl (fun ls hl => ?_)
          refine lv_goto (tgt := 10) hx hb dX0_unseenCells_57 (by decide) ?_
          exact ih (k + 1) (by omega) (by omega) _ _ hP hS _ (by rw [show lN (orB (fun c => decide (A 0 c = 0) && (decide (¬ c = n 6 - 1) && decide (sAny n A (sWhole n A) c = 0))) (k + 1)) = lN (orB (fun c => decide (A 0 c = 0) && (decide (¬ c = n 6 - 1) && decide (sAny n A (sWhole n A) c = 0))) k) from congrArg lN (orB_f (k := k) hz).symm]; exact lv_sub hl [1, 2, 3, 0] rfl)
        · skip
          refine lv_iload hx hb dX0_unseenCells_28 (lv_at hl 3 rfl) ?_
          refine lv_aload_n hx hb dX0_unseenCells_30 rfl (lv_at hl 0 rfl) ?_
          refine x_get (D := (dC, dI)) (ci := 0) (v := .int (stI (n 6))) (C := RX0) (T := TX0) (N := 17) hx hb hts hinX0 hown hK hP 0 rfl rfl 15 (Nat.le_of_ble_eq_true rfl) hf36 rfl rfl dX0_unseenCells_31 ?_
          refine x_top (stI_pos hst) ?_
          refine x_icmp_eq (tgt := 54) hx hb (by omega) (by omega) dX0_unseenCells_34 (by decide) (fun c34 => ?_) (fun c34 => ?_)
          · skip
            have hz : (fun c => decide (A 0 c = 0) && (decide (¬ c = n 6 - 1) && decide (sAny n A (sWhole n A) c = 0))) k = false := by show (decide (A 0 k = 0) && (decide (¬ k = n 6 - 1) && _)) = false; rw [c25, decide_eq_false (fun q => q c34)]; rfl
            refine lv_iinc (v := (nI (k + 1))) (lv' := [(4, .int (nI (k + 1))), (0, .ref (q 0)), (1, .int (nI (sWhole n A))), (2, .long (lN (orB (fun c => decide (A 0 c = 0) && (decide (¬ c = n 6 - 1) && decide (sAny n A (sWhole n A) c = 0))) k)))]) hx hb dX0_unseenCells_54 hl (k := 3) rfl (nI_add _ _) (by decide) rfl (fun ls hl => ?_)
            refine lv_goto (tgt := 10) hx hb dX0_unseenCells_57 (by decide) ?_
            exact ih (k + 1) (by omega) (by omega) _ _ hP hS _ (by rw [show lN (orB (fun c => decide (A 0 c = 0) && (decide (¬ c = n 6 - 1) && decide (sAny n A (sWhole n A) c = 0))) (k + 1)) = lN (orB (fun c => decide (A 0 c = 0) && (decide (¬ c = n 6 - 1) && decide (sAny n A (sWhole n A) c = 0))) k) from congrArg lN (orB_f (k := k) hz).symm]; exact lv_sub hl [1, 2, 3, 0] rfl)
          · skip
            refine lv_aload_n hx hb dX0_unseenCells_37 rfl (lv_at hl 0 rfl) ?_
            refine lv_iload_n hx hb dX0_unseenCells_38 rfl (lv_at hl 1 rfl) ?_
            refine lv_iload hx hb dX0_unseenCells_39 (lv_at hl 3 rfl) ?_
            refine rsV_i (As := [.int (nI (sWhole n A)), .int (nI k)]) (rest := []) ⟨hx, hb, hml, hown, hts⟩ (kX0_isSeenFromAny l dC dI cI q n A X hW hR tH (sWhole n A) k _ (Nat.lt_of_lt_of_le (orB_lt _ _) (Nat.pow_le_pow_right (by decide) w2)) (by omega)) (cwV 2 hts gX0_unseenCells_X0_isSeenFromAny rfl rfl rfl hdX0_isSeenFromAny ⟨Nat.le_trans (Nat.le_of_ble_eq_true rfl) hRf, Nat.le_trans (Nat.le_of_ble_eq_true rfl) hRl⟩) (va_recv hK hP (ci := 0) (q0 := 0) rfl rfl) hK hP rfl hl.1 rfl (Nat.le_of_ble_eq_true rfl) dX0_unseenCells_41 ⟨Nat.zero_le _, Nat.zero_le _⟩ hP hS hA hZT (fun H locs hP hS => ?_)
            refine x_ifb_ne (tgt := 54) hx hb dX0_unseenCells_44 (by decide) (fun c44 => ?_) (fun c44 => ?_)
            · skip
              have hz : (fun c => decide (A 0 c = 0) && (decide (¬ c = n 6 - 1) && decide (sAny n A (sWhole n A) c = 0))) k = false := by show (decide (A 0 k = 0) && (decide (¬ k = n 6 - 1) && decide (sAny n A (sWhole n A) k = 0))) = false; rw [c25, decide_eq_true c34, decide_eq_false (of_decide_eq_true c44)]; rfl
              refine lv_iinc (v := (nI (k + 1))) (lv' := [(4, .int (nI (k + 1))), (0, .ref (q 0)), (1, .int (nI (sWhole n A))), (2, .long (lN (orB (fun c => decide (A 0 c = 0) && (decide (¬ c = n 6 - 1) && decide (sAny n A (sWhole n A) c = 0))) k)))]) hx hb dX0_unseenCells_54 hl (k := 3) rfl (nI_add _ _) (by decide) rfl (fun ls hl => ?_)
              refine lv_goto (tgt := 10) hx hb dX0_unseenCells_57 (by decide) ?_
              exact ih (k + 1) (by omega) (by omega) _ _ hP hS _ (by rw [show lN (orB (fun c => decide (A 0 c = 0) && (decide (¬ c = n 6 - 1) && decide (sAny n A (sWhole n A) c = 0))) (k + 1)) = lN (orB (fun c => decide (A 0 c = 0) && (decide (¬ c = n 6 - 1) && decide (sAny n A (sWhole n A) c = 0))) k) from congrArg lN (orB_f (k := k) hz).symm]; exact lv_sub hl [1, 2, 3, 0] rfl)
            · skip
              have hz : (fun c => decide (A 0 c = 0) && (decide (¬ c = n 6 - 1) && decide (sAny n A (sWhole n A) c = 0))) k = true := by show (decide (A 0 k = 0) && (decide (¬ k = n 6 - 1) && decide (sAny n A (sWhole n A) k = 0))) = true; rw [c25, decide_eq_true c34, decide_eq_true (Classical.not_not.mp (of_decide_eq_false c44))]; rfl
              refine lv_lload_n hx hb dX0_unseenCells_47 rfl (lv_at hl 2 rfl) ?_
              refine lv_lconst (v := 1) hx hb dX0_unseenCells_48 rfl ?_
              refine lv_iload hx hb dX0_unseenCells_49 (lv_at hl 3 rfl) ?_
              refine lv_lshl hx hb dX0_unseenCells_51 rfl ?_
              refine lv_lor hx hb dX0_unseenCells_52 ?_
              refine x_topl (y := (lN (orB (fun c => decide (A 0 c = 0) && (decide (¬ c = n 6 - 1) && decide (sAny n A (sWhole n A) c = 0))) (k + 1)))) (sec_or hz (by omega)) ?_
              refine lv_lstore_n (lv' := [(2, .long (lN (orB (fun c => decide (A 0 c = 0) && (decide (¬ c = n 6 - 1) && decide (sAny n A (sWhole n A) c = 0))) (k + 1)))), (0, .ref (q 0)), (1, .int (nI (sWhole n A))), (4, .int (nI k))]) hx hb dX0_unseenCells_53 rfl hl (by decide) rfl (fun ls hl => ?_)
              refine lv_iinc (v := (nI (k + 1))) (lv' := [(4, .int (nI (k + 1))), (2, .long (lN (orB (fun c => decide (A 0 c = 0) && (decide (¬ c = n 6 - 1) && decide (sAny n A (sWhole n A) c = 0))) (k + 1)))), (0, .ref (q 0)), (1, .int (nI (sWhole n A)))]) hx hb dX0_unseenCells_54 hl (k := 3) rfl (nI_add _ _) (by decide) rfl (fun ls hl => ?_)
              refine lv_goto (tgt := 10) hx hb dX0_unseenCells_57 (by decide) ?_
              exact ih (k + 1) (by omega) (by omega) _ _ hP hS _ (lv_sub hl [2, 3, 1, 0] rfl)
  exact L10 _ 0 (by omega) (Nat.lt_succ_self _) _ _ hP hS _ (lv_sub hl [3, 2, 1, 0] rfl)
set_option maxRecDepth 20000 in
theorem ggX0_partsLitBy_X0_isThere : GoodIn wsX0_partsLitBy wsX0_isThere := goodIn_r _ [17, 18, 25, 26, 27, 28, 29, 30, 31, 32, 33, 34, 35, 36, 37, 38, 39, 40, 41] (by decide +kernel) (by decide +kernel)
set_option maxRecDepth 20000 in
theorem gX0_partsLitBy_X0_isThere : GoodIn wsX0_partsLitBy (wsV RX0 101 RX0 yX0_isThere wsX0_isThere) := goodIn_app (goodIn_of _ (by decide +kernel)) ggX0_partsLitBy_X0_isThere
set_option maxRecDepth 20000 in
theorem ggX0_partsLitBy_X0_tallIn : GoodIn wsX0_partsLitBy wsX0_tallIn := goodIn_r _ [22, 23, 9, 24, 25, 26, 27, 28, 29, 30, 31, 32, 33, 34, 35, 36, 37, 38, 39, 40, 41] (by decide +kernel) (by decide +kernel)
set_option maxRecDepth 20000 in
theorem gX0_partsLitBy_X0_tallIn : GoodIn wsX0_partsLitBy (wsV RX0 105 RX0 yX0_tallIn wsX0_tallIn) := goodIn_app (goodIn_of _ (by decide +kernel)) ggX0_partsLitBy_X0_tallIn
set_option maxHeartbeats 4000000 in
set_option maxRecDepth 100000 in
theorem kX0_partsLitBy (l : Launch) (dC : Nat → ClassId) (dI : Nat → Nat → Nat) (cI : ClassId) (q n : Nat → Nat) (A : Nat → Nat → Nat) (X : Nat → Nat → Int32) (hW : WF n A) (hR : RG n A X) (tH : Nat) (t : Nat) (sz : Nat) (hst : 0 < n 6) (ht : t < n 3) : Met l yX0_partsLitBy wsX0_partsLitBy ({ frames := 1, cells := 0, slots := 0, locals := 23 }) (rsP tH [.ref (q 0), .int (nI t)] sz (dC, dI) [(cI, .int)] (wG cI q n X)) (roQi (nI (sLit n A t)) sz) 0 0 (va_A [] sz) := by
  refine rs_met_i (by decide) rfl (Nat.le_of_ble_eq_true rfl) ?_
  intro pp ee ss mm aa bb me cd RR QQ Z hx hb hml hown hts hRf hRl hP hK hA hS hZT hend ls hl
  have hown : ss.vm.findClass RX0 = some mm.cls := hown
  have hRf : 1 ≤ RR.frames := hRf
  have hRl : 23 ≤ RR.locals := hRl
  have hl : lv_has ls 7 [(0, .ref (q 0)), (1, .int (nI t))] := hl
  obtain ⟨w0, w1, w2, w3, w4, w5, w6, w7, w8, wA0, wA1, wA2⟩ := id hW
  have wC : n 0 * n 1 ≤ 42 := Nat.mul_le_mul w0 w1
  have wt := wA2 t ht
  have b1 : A 3 t / n 1 ≤ 42 := Nat.le_trans (Nat.div_le_self _ _) (by omega)
  have b2 : (n 6 - 1) / n 1 ≤ 42 := Nat.le_trans (Nat.div_le_self _ _) (by omega)
  have b3 : A 3 t % n 1 ≤ 42 := Nat.le_trans (Nat.mod_le _ _) (by omega)
  have b4 : (n 6 - 1) % n 1 ≤ 42 := Nat.le_trans (Nat.mod_le _ _) (by omega)
  have b5 : dd (A 3 t / n 1) ((n 6 - 1) / n 1) ≤ 42 := dd_le b1 b2
  have b6 : dd (A 3 t % n 1) ((n 6 - 1) % n 1) ≤ 42 := dd_le b3 b4
  have b7 : sTall n A (n 4) t ≤ 20 := sTall_le (by omega) w4
  have hf15 := hts (.fieldLink RX0 15 "StatueSquare$Ground" "rowOf" "[I") (List.mem_of_getElem? (i := 1) rfl)
  have hinX0 : ∀ w ∈ u_ws RX0 TX0 17, w ∈ wsX0_partsLitBy := fun _ h => List.mem_cons_of_mem _ (List.mem_append_right _ h)
  have hf27 := hts (.fieldLink RX0 27 "StatueSquare$Ground" "thingCell" "[I") (List.mem_of_getElem? (i := 2) rfl)
  have hf36 := hts (.fieldLink RX0 36 "StatueSquare$Ground" "statueCell" "I") (List.mem_of_getElem? (i := 3) rfl)
  have hl88 := hts (.methodLink RX0 88 Lib.Math.abs.name) (List.mem_of_getElem? (i := 4) rfl)
  have hsabs := hts (.static Lib.Math.abs.name) (List.mem_of_getElem? (i := 5) rfl)
  have hiMath := hts (.initialized "java/lang/Math") (List.mem_of_getElem? (i := 6) rfl)
  have hcabs := hts (.code Lib.Math.abs.name Lib.Math.abs.code 1 (some .int)) (List.mem_of_getElem? (i := 7) rfl)
  have hf18 := hts (.fieldLink RX0 18 "StatueSquare$Ground" "columnOf" "[I") (List.mem_of_getElem? (i := 8) rfl)
  have hf24 := hts (.fieldLink RX0 24 "StatueSquare$Ground" "kind" "[I") (List.mem_of_getElem? (i := 9) rfl)
  have hf78 := hts (.fieldLink RX0 78 "StatueSquare$Ground" "statueBlock" "I") (List.mem_of_getElem? (i := 10) rfl)
  have hf108 := hts (.fieldLink RX0 108 "StatueSquare$Ground" "PART_HEIGHTS" "[I") (List.mem_of_getElem? (i := 11) rfl)
  have hf71 := hts (.fieldLink RX0 71 "StatueSquare$Ground" "yearNow" "I") (List.mem_of_getElem? (i := 12) rfl)
  refine lv_aload_n hx hb dX0_partsLitBy_0 rfl (lv_at hl 0 rfl) ?_
  refine x_get (D := (dC, dI)) (ci := 0) (v := .ref (q 2)) (C := RX0) (T := TX0) (N := 17) hx hb hts hinX0 hown hK hP 0 rfl rfl 5 (Nat.le_of_ble_eq_true rfl) hf15 rfl rfl dX0_partsLitBy_1 ?_
  refine lv_aload_n hx hb dX0_partsLitBy_4 rfl (lv_at hl 0 rfl) ?_
  refine x_get (D := (dC, dI)) (ci := 0) (v := .ref (q 6)) (C := RX0) (T := TX0) (N := 17) hx hb hts hinX0 hown hK hP 0 rfl rfl 9 (Nat.le_of_ble_eq_true rfl) hf27 rfl rfl dX0_partsLitBy_5 ?_
  refine lv_iload_n hx hb dX0_partsLitBy_8 rfl (lv_at hl 1 rfl) ?_
  refine x_iald (v := (nI (A 3 t))) hx hb hK hP 6 0 rfl rfl (by omega) (by decide) (hR.2.2 _ (by omega)).2.1 dX0_partsLitBy_9 ?_
  refine x_iald (v := (nI ((A 3 t) / n 1))) hx hb hK hP 2 0 rfl rfl (by omega) (by decide) (hR.1 _ (by omega)).2.1 dX0_partsLitBy_10 ?_
  refine lv_aload_n hx hb dX0_partsLitBy_11 rfl (lv_at hl 0 rfl) ?_
  refine x_get (D := (dC, dI)) (ci := 0) (v := .ref (q 2)) (C := RX0) (T := TX0) (N := 17) hx hb hts hinX0 hown hK hP 0 rfl rfl 5 (Nat.le_of_ble_eq_true rfl) hf15 rfl rfl dX0_partsLitBy_12 ?_
  refine lv_aload_n hx hb dX0_partsLitBy_15 rfl (lv_at hl 0 rfl) ?_
  refine x_get (D := (dC, dI)) (ci := 0) (v := .int (stI (n 6))) (C := RX0) (T := TX0) (N := 17) hx hb hts hinX0 hown hK hP 0 rfl rfl 15 (Nat.le_of_ble_eq_true rfl) hf36 rfl rfl dX0_partsLitBy_16 ?_
  refine x_top (stI_pos hst) ?_
  refine x_iald (v := (nI ((n 6 - 1) / n 1))) hx hb hK hP 2 0 rfl rfl (by omega) (by decide) (hR.1 _ (by omega)).2.1 dX0_partsLitBy_19 ?_
  refine lv_isub hx hb dX0_partsLitBy_20 ?_
  refine va_mabs hx hb (hml.trans hl.1.symm) hown hl88 hsabs hiMath hcabs (Nat.le_trans (Nat.le_of_ble_eq_true rfl) hRf) (Nat.le_trans (Nat.le_of_ble_eq_true rfl) hRl) (Nat.zero_le _) (Nat.zero_le _) dX0_partsLitBy_21 ?_
  refine x_top (y := (nI (dd (A 3 t / n 1) ((n 6 - 1) / n 1)))) (abs_sub (by omega) (by omega)) ?_
  refine lv_istore_n (lv' := [(2, .int (nI (dd (A 3 t / n 1) ((n 6 - 1) / n 1)))), (0, .ref (q 0)), (1, .int (nI t))]) hx hb dX0_partsLitBy_24 rfl hl (by decide) rfl (fun ls hl => ?_)
  refine lv_aload_n hx hb dX0_partsLitBy_25 rfl (lv_at hl 1 rfl) ?_
  refine x_get (D := (dC, dI)) (ci := 0) (v := .ref (q 3)) (C := RX0) (T := TX0) (N := 17) hx hb hts hinX0 hown hK hP 0 rfl rfl 6 (Nat.le_of_ble_eq_true rfl) hf18 rfl rfl dX0_partsLitBy_26 ?_
  refine lv_aload_n hx hb dX0_partsLitBy_29 rfl (lv_at hl 1 rfl) ?_
  refine x_get (D := (dC, dI)) (ci := 0) (v := .ref (q 6)) (C := RX0) (T := TX0) (N := 17) hx hb hts hinX0 hown hK hP 0 rfl rfl 9 (Nat.le_of_ble_eq_true rfl) hf27 rfl rfl dX0_partsLitBy_30 ?_
  refine lv_iload_n hx hb dX0_partsLitBy_33 rfl (lv_at hl 2 rfl) ?_
  refine x_iald (v := (nI (A 3 t))) hx hb hK hP 6 0 rfl rfl (by omega) (by decide) (hR.2.2 _ (by omega)).2.1 dX0_partsLitBy_34 ?_
  refine x_iald (v := (nI ((A 3 t) % n 1))) hx hb hK hP 3 0 rfl rfl (by omega) (by decide) (hR.1 _ (by omega)).2.2 dX0_partsLitBy_35 ?_
  refine lv_aload_n hx hb dX0_partsLitBy_36 rfl (lv_at hl 1 rfl) ?_
  refine x_get (D := (dC, dI)) (ci := 0) (v := .ref (q 3)) (C := RX0) (T := TX0) (N := 17) hx hb hts hinX0 hown hK hP 0 rfl rfl 6 (Nat.le_of_ble_eq_true rfl) hf18 rfl rfl dX0_partsLitBy_37 ?_
  refine lv_aload_n hx hb dX0_partsLitBy_40 rfl (lv_at hl 1 rfl) ?_
  refine x_get (D := (dC, dI)) (ci := 0) (v := .int (stI (n 6))) (C := RX0) (T := TX0) (N := 17) hx hb hts hinX0 hown hK hP 0 rfl rfl 15 (Nat.le_of_ble_eq_true rfl) hf36 rfl rfl dX0_partsLitBy_41 ?_
  refine x_top (stI_pos hst) ?_
  refine x_iald (v := (nI ((n 6 - 1) % n 1))) hx hb hK hP 3 0 rfl rfl (by omega) (by decide) (hR.1 _ (by omega)).2.2 dX0_partsLitBy_44 ?_
  refine lv_isub hx hb dX0_partsLitBy_45 ?_
  refine va_mabs hx hb (hml.trans hl.1.symm) hown hl88 hsabs hiMath hcabs (Nat.le_trans (Nat.le_of_ble_eq_true rfl) hRf) (Nat.le_trans (Nat.le_of_ble_eq_true rfl) hRl) (Nat.zero_le _) (Nat.zero_le _) dX0_partsLitBy_46 ?_
  refine x_top (y := (nI (dd (A 3 t % n 1) ((n 6 - 1) % n 1)))) (abs_sub (by omega) (by omega)) ?_
  refine lv_istore_n (lv' := [(3, .int (nI (dd (A 3 t % n 1) ((n 6 - 1) % n 1)))), (2, .int (nI (dd (A 3 t / n 1) ((n 6 - 1) / n 1)))), (0, .ref (q 0)), (1, .int (nI t))]) hx hb dX0_partsLitBy_49 rfl hl (by decide) rfl (fun ls hl => ?_)
  refine lv_iload_n hx hb dX0_partsLitBy_50 rfl (lv_at hl 1 rfl) ?_
  refine lv_iconst (v := nI 3) hx hb dX0_partsLitBy_51 rfl ?_
  refine x_icmp_gt (tgt := 64) hx hb (by omega) (by omega) dX0_partsLitBy_52 (by decide) (fun c52 => ?_) (fun c52 => ?_)
  · skip
    refine lv_iconst (v := nI 0) hx hb dX0_partsLitBy_64 rfl ?_
    refine x_top (y := bI (decide (dd (A 3 t / n 1) ((n 6 - 1) / n 1) ≤ 3 ∧ dd (A 3 t % n 1) ((n 6 - 1) % n 1) ≤ 3))) (n0_b (decide_eq_false (fun q => by omega))) ?_
    refine lv_istore (lv' := [(4, .int (bI (decide (dd (A 3 t / n 1) ((n 6 - 1) / n 1) ≤ 3 ∧ dd (A 3 t % n 1) ((n 6 - 1) % n 1) ≤ 3)))), (3, .int (nI (dd (A 3 t % n 1) ((n 6 - 1) % n 1)))), (2, .int (nI (dd (A 3 t / n 1) ((n 6 - 1) / n 1)))), (0, .ref (q 0)), (1, .int (nI t))]) hx hb dX0_partsLitBy_65 hl (by decide) rfl (fun ls hl => ?_)
    refine lv_aload_n hx hb dX0_partsLitBy_67 rfl (lv_at hl 3 rfl) ?_
    refine x_get (D := (dC, dI)) (ci := 0) (v := .ref (q 5)) (C := RX0) (T := TX0) (N := 17) hx hb hts hinX0 hown hK hP 0 rfl rfl 8 (Nat.le_of_ble_eq_true rfl) hf24 rfl rfl dX0_partsLitBy_68 ?_
    refine lv_iload_n hx hb dX0_partsLitBy_71 rfl (lv_at hl 4 rfl) ?_
    refine x_iald (v := (nI (A 2 t))) hx hb hK hP 5 0 rfl rfl (by omega) (by decide) (hR.2.2 _ (by omega)).1 dX0_partsLitBy_72 ?_
    refine x_if_ne (tgt := 89) hx hb (by omega) dX0_partsLitBy_73 (by decide) (fun c73 => ?_) (fun c73 => ?_)
    · skip
      refine lv_iconst (v := nI 0) hx hb dX0_partsLitBy_89 rfl ?_
      exact hend _ _ _ _ _ (congrArg nI (if_neg (fun q => by first | exact absurd q.1 c73 | exact absurd q.2.1 (by rw [c81]; decide) | exact absurd q.2.2 (of_decide_eq_false c86)) : sLit n A t = 0).symm) hS dX0_partsLitBy_90
    · skip
      refine lv_aload_n hx hb dX0_partsLitBy_76 rfl (lv_at hl 3 rfl) ?_
      refine lv_iload_n hx hb dX0_partsLitBy_77 rfl (lv_at hl 4 rfl) ?_
      refine roV_i (As := [.int (nI t)]) (rest := []) ⟨hx, hb, hml, hown, hts⟩ (kX0_isThere l dC dI cI q n A X hW hR t _ (by omega)) (cwV 1 hts gX0_partsLitBy_X0_isThere rfl rfl rfl hdX0_isThere ⟨Nat.le_trans (Nat.le_of_ble_eq_true rfl) hRf, Nat.le_trans (Nat.le_of_ble_eq_true rfl) hRl⟩) (va_recv hK hP (ci := 0) (q0 := 0) rfl rfl) hK hP rfl hl.1 rfl (Nat.le_of_ble_eq_true rfl) dX0_partsLitBy_78 ⟨Nat.zero_le _, Nat.zero_le _⟩ hP hS hA (fun H locs hP hS => ?_)
      refine x_ifb_eq (tgt := 89) hx hb dX0_partsLitBy_81 (by decide) (fun c81 => ?_) (fun c81 => ?_)
      · skip
        refine lv_iconst (v := nI 0) hx hb dX0_partsLitBy_89 rfl ?_
        exact hend _ _ _ _ _ (congrArg nI (if_neg (fun q => by first | exact absurd q.1 c73 | exact absurd q.2.1 (by rw [c81]; decide) | exact absurd q.2.2 (of_decide_eq_false c86)) : sLit n A t = 0).symm) hS dX0_partsLitBy_90
      · skip
        refine lv_iload hx hb dX0_partsLitBy_84 (lv_at hl 0 rfl) ?_
        refine x_ifb_ne (tgt := 91) hx hb dX0_partsLitBy_86 (by decide) (fun c86 => ?_) (fun c86 => ?_)
        · skip
          have hnr := of_decide_eq_true c86
          refine lv_iconst (v := nI 0) hx hb dX0_partsLitBy_91 rfl ?_
          refine lv_istore (lv' := [(5, .int (nI 0)), (4, .int (bI (decide (dd (A 3 t / n 1) ((n 6 - 1) / n 1) ≤ 3 ∧ dd (A 3 t % n 1) ((n 6 - 1) % n 1) ≤ 3)))), (3, .int (nI (dd (A 3 t % n 1) ((n 6 - 1) % n 1)))), (2, .int (nI (dd (A 3 t / n 1) ((n 6 - 1) / n 1)))), (0, .ref (q 0)), (1, .int (nI t))]) hx hb dX0_partsLitBy_92 hl (by decide) rfl (fun ls hl => ?_)
          refine lv_iconst (v := nI 0) hx hb dX0_partsLitBy_94 rfl ?_
          refine lv_istore (lv' := [(6, .int (nI 0)), (5, .int (nI 0)), (4, .int (bI (decide (dd (A 3 t / n 1) ((n 6 - 1) / n 1) ≤ 3 ∧ dd (A 3 t % n 1) ((n 6 - 1) % n 1) ≤ 3)))), (3, .int (nI (dd (A 3 t % n 1) ((n 6 - 1) % n 1)))), (2, .int (nI (dd (A 3 t / n 1) ((n 6 - 1) / n 1)))), (0, .ref (q 0)), (1, .int (nI t))]) hx hb dX0_partsLitBy_95 hl (by decide) rfl (fun ls hl => ?_)
          have L97 : ∀ (fuel : Nat) (k : Nat) (hk : k ≤ 4) (hfu : 4 - k < fuel) (H : Heap) (locs : List Loc), va_P (dC, dI) vwCl (wG cI q n X) H → va_S Z ss.heap H locs → ∀ (ls : Array Slot), lv_has ls 7 [(0, .ref (q 0)), (1, .int (nI t)), (5, .int (nI (orB (fun p => decide (n 7 + (1 + 2 * p) ≤ sTall n A (n 4) t)) k))), (6, .int (nI k))] → W pp l ee RR ss mm aa bb me cd H locs 0 0 QQ (F0 mm 97 ls []) := by
            intro fuel
            induction fuel with
            | zero => intro k hk hfu; exact absurd hfu (Nat.not_lt_zero _)
            | succ fuel ih =>
              intro k hk hfu H locs hP hS ls hl
              refine lv_iload hx hb dX0_partsLitBy_97 (lv_at hl 3 rfl) ?_
              refine lv_iconst (v := nI 4) hx hb dX0_partsLitBy_99 rfl ?_
              refine x_icmp_ge (tgt := 141) hx hb (by omega) (by omega) dX0_partsLitBy_100 (by decide) (fun c100 => ?_) (fun c100 => ?_)
              · skip
                refine lv_iload hx hb dX0_partsLitBy_141 (lv_at hl 2 rfl) ?_
                exact hend _ _ _ _ _ (congrArg nI (show orB (fun p => decide (n 7 + (1 + 2 * p) ≤ sTall n A (n 4) t)) k = sLit n A t from by rw [show k = 4 from by omega]; exact (if_pos ⟨c73, c81, hnr⟩ : sLit n A t = sLitP n A t).symm)) hS dX0_partsLitBy_143
              · skip
                refine lv_aload_n hx hb dX0_partsLitBy_103 rfl (lv_at hl 0 rfl) ?_
                refine x_get (D := (dC, dI)) (ci := 0) (v := .int (nI (n 7))) (C := RX0) (T := TX0) (N := 17) hx hb hts hinX0 hown hK hP 0 rfl rfl 16 (Nat.le_of_ble_eq_true rfl) hf78 rfl rfl dX0_partsLitBy_104 ?_
                refine x_getph hx hb hZT hS hown hf108 dX0_partsLitBy_107 ?_
                refine lv_iload hx hb dX0_partsLitBy_110 (lv_at hl 3 rfl) ?_
                refine x_phald hx hb hZT hS (by omega) dX0_partsLitBy_112 ?_
                refine x_iadd hx hb dX0_partsLitBy_113 ?_
                refine lv_aload_n hx hb dX0_partsLitBy_114 rfl (lv_at hl 0 rfl) ?_
                refine lv_iload_n hx hb dX0_partsLitBy_115 rfl (lv_at hl 1 rfl) ?_
                refine lv_aload_n hx hb dX0_partsLitBy_116 rfl (lv_at hl 0 rfl) ?_
                refine x_get (D := (dC, dI)) (ci := 0) (v := .int (nI (n 4))) (C := RX0) (T := TX0) (N := 17) hx hb hts hinX0 hown hK hP 0 rfl rfl 13 (Nat.le_of_ble_eq_true rfl) hf71 rfl rfl dX0_partsLitBy_117 ?_
                refine roV_i (As := [.int (nI t), .int (nI (n 4))]) (rest := [.int (nI ((n 7) + (1 + 2 * k)))]) ⟨hx, hb, hml, hown, hts⟩ (kX0_tallIn l dC dI cI q n A X hW hR t (n 4) _ (by omega) (by omega)) (cwV 2 hts gX0_partsLitBy_X0_tallIn rfl rfl rfl hdX0_tallIn ⟨Nat.le_trans (Nat.le_of_ble_eq_true rfl) hRf, Nat.le_trans (Nat.le_of_ble_eq_true rfl) hRl⟩) (va_recv hK hP (ci := 0) (q0 := 0) rfl rfl) hK hP rfl hl.1 rfl (Nat.le_of_ble_eq_true rfl) dX0_partsLitBy_120 ⟨Nat.zero_le _, Nat.zero_le _⟩ hP hS hA (fun H locs hP hS => ?_)
                refine x_icmp_gt (tgt := 135) hx hb (by omega) (by omega) dX0_partsLitBy_123 (by decide) (fun c123 => ?_) (fun c123 => ?_)
                · skip
                  have hz : (fun p => decide (n 7 + (1 + 2 * p) ≤ sTall n A (n 4) t)) k = false := decide_eq_false (by omega)
                  refine lv_iinc (v := (nI (k + 1))) (lv' := [(6, .int (nI (k + 1))), (0, .ref (q 0)), (1, .int (nI t)), (5, .int (nI (orB (fun p => decide (n 7 + (1 + 2 * p) ≤ sTall n A (n 4) t)) k)))]) hx hb dX0_partsLitBy_135 hl (k := 3) rfl (nI_add _ _) (by decide) rfl (fun ls hl => ?_)
                  refine lv_goto (tgt := 97) hx hb dX0_partsLitBy_138 (by decide) ?_
                  exact ih (k + 1) (by omega) (by omega) _ _ hP hS _ (by rw [show orB (fun p => decide (n 7 + (1 + 2 * p) ≤ sTall n A (n 4) t)) (k + 1) = orB (fun p => decide (n 7 + (1 + 2 * p) ≤ sTall n A (n 4) t)) k from (orB_f hz).symm]; exact lv_sub hl [1, 2, 3, 0] rfl)
                · skip
                  have hz : (fun p => decide (n 7 + (1 + 2 * p) ≤ sTall n A (n 4) t)) k = true := decide_eq_true (by omega)
                  refine lv_iload hx hb dX0_partsLitBy_126 (lv_at hl 2 rfl) ?_
                  refine lv_iconst (v := nI 1) hx hb dX0_partsLitBy_128 rfl ?_
                  refine lv_iload hx hb dX0_partsLitBy_129 (lv_at hl 3 rfl) ?_
                  refine x_shl1 hx hb (by omega) dX0_partsLitBy_131 ?_
                  refine x_ior hx hb dX0_partsLitBy_132 ?_
                  refine lv_istore (lv' := [(5, .int (nI ((orB (fun p => decide (n 7 + (1 + 2 * p) ≤ sTall n A (n 4) t)) k) ||| (2 ^ k)))), (0, .ref (q 0)), (1, .int (nI t)), (6, .int (nI k))]) hx hb dX0_partsLitBy_133 hl (by decide) rfl (fun ls hl => ?_)
                  refine lv_iinc (v := (nI (k + 1))) (lv' := [(6, .int (nI (k + 1))), (5, .int (nI ((orB (fun p => decide (n 7 + (1 + 2 * p) ≤ sTall n A (n 4) t)) k) ||| (2 ^ k)))), (0, .ref (q 0)), (1, .int (nI t))]) hx hb dX0_partsLitBy_135 hl (k := 3) rfl (nI_add _ _) (by decide) rfl (fun ls hl => ?_)
                  refine lv_goto (tgt := 97) hx hb dX0_partsLitBy_138 (by decide) ?_
                  exact ih (k + 1) (by omega) (by omega) _ _ hP hS _ (by rw [show orB (fun p => decide (n 7 + (1 + 2 * p) ≤ sTall n A (n 4) t)) (k + 1) = ((orB (fun p => decide (n 7 + (1 + 2 * p) ≤ sTall n A (n 4) t)) k) ||| (2 ^ k)) from (orB_t hz).symm]; exact lv_sub hl [2, 3, 1, 0] rfl)
          exact L97 _ 0 (by omega) (Nat.lt_succ_self _) _ _ hP hS _ (lv_sub hl [5, 6, 1, 0] rfl)
        · skip
          refine lv_iconst (v := nI 0) hx hb dX0_partsLitBy_89 rfl ?_
          exact hend _ _ _ _ _ (congrArg nI (if_neg (fun q => by first | exact absurd q.1 c73 | exact absurd q.2.1 (by rw [c81]; decide) | exact absurd q.2.2 (of_decide_eq_false c86)) : sLit n A t = 0).symm) hS dX0_partsLitBy_90
  · skip
    refine lv_iload_n hx hb dX0_partsLitBy_55 rfl (lv_at hl 0 rfl) ?_
    refine lv_iconst (v := nI 3) hx hb dX0_partsLitBy_56 rfl ?_
    refine x_icmp_gt (tgt := 64) hx hb (by omega) (by omega) dX0_partsLitBy_57 (by decide) (fun c57 => ?_) (fun c57 => ?_)
    · skip
      refine lv_iconst (v := nI 0) hx hb dX0_partsLitBy_64 rfl ?_
      refine x_top (y := bI (decide (dd (A 3 t / n 1) ((n 6 - 1) / n 1) ≤ 3 ∧ dd (A 3 t % n 1) ((n 6 - 1) % n 1) ≤ 3))) (n0_b (decide_eq_false (fun q => by omega))) ?_
      refine lv_istore (lv' := [(4, .int (bI (decide (dd (A 3 t / n 1) ((n 6 - 1) / n 1) ≤ 3 ∧ dd (A 3 t % n 1) ((n 6 - 1) % n 1) ≤ 3)))), (3, .int (nI (dd (A 3 t % n 1) ((n 6 - 1) % n 1)))), (2, .int (nI (dd (A 3 t / n 1) ((n 6 - 1) / n 1)))), (0, .ref (q 0)), (1, .int (nI t))]) hx hb dX0_partsLitBy_65 hl (by decide) rfl (fun ls hl => ?_)
      refine lv_aload_n hx hb dX0_partsLitBy_67 rfl (lv_at hl 3 rfl) ?_
      refine x_get (D := (dC, dI)) (ci := 0) (v := .ref (q 5)) (C := RX0) (T := TX0) (N := 17) hx hb hts hinX0 hown hK hP 0 rfl rfl 8 (Nat.le_of_ble_eq_true rfl) hf24 rfl rfl dX0_partsLitBy_68 ?_
      refine lv_iload_n hx hb dX0_partsLitBy_71 rfl (lv_at hl 4 rfl) ?_
      refine x_iald (v := (nI (A 2 t))) hx hb hK hP 5 0 rfl rfl (by omega) (by decide) (hR.2.2 _ (by omega)).1 dX0_partsLitBy_72 ?_
      refine x_if_ne (tgt := 89) hx hb (by omega) dX0_partsLitBy_73 (by decide) (fun c73 => ?_) (fun c73 => ?_)
      · skip
        refine lv_iconst (v := nI 0) hx hb dX0_partsLitBy_89 rfl ?_
        exact hend _ _ _ _ _ (congrArg nI (if_neg (fun q => by first | exact absurd q.1 c73 | exact absurd q.2.1 (by rw [c81]; decide) | exact absurd q.2.2 (of_decide_eq_false c86)) : sLit n A t = 0).symm) hS dX0_partsLitBy_90
      · skip
        refine lv_aload_n hx hb dX0_partsLitBy_76 rfl (lv_at hl 3 rfl) ?_
        refine lv_iload_n hx hb dX0_partsLitBy_77 rfl (lv_at hl 4 rfl) ?_
        refine roV_i (As := [.int (nI t)]) (rest := []) ⟨hx, hb, hml, hown, hts⟩ (kX0_isThere l dC dI cI q n A X hW hR t _ (by omega)) (cwV 1 hts gX0_partsLitBy_X0_isThere rfl rfl rfl hdX0_isThere ⟨Nat.le_trans (Nat.le_of_ble_eq_true rfl) hRf, Nat.le_trans (Nat.le_of_ble_eq_true rfl) hRl⟩) (va_recv hK hP (ci := 0) (q0 := 0) rfl rfl) hK hP rfl hl.1 rfl (Nat.le_of_ble_eq_true rfl) dX0_partsLitBy_78 ⟨Nat.zero_le _, Nat.zero_le _⟩ hP hS hA (fun H locs hP hS => ?_)
        refine x_ifb_eq (tgt := 89) hx hb dX0_partsLitBy_81 (by decide) (fun c81 => ?_) (fun c81 => ?_)
        · skip
          refine lv_iconst (v := nI 0) hx hb dX0_partsLitBy_89 rfl ?_
          exact hend _ _ _ _ _ (congrArg nI (if_neg (fun q => by first | exact absurd q.1 c73 | exact absurd q.2.1 (by rw [c81]; decide) | exact absurd q.2.2 (of_decide_eq_false c86)) : sLit n A t = 0).symm) hS dX0_partsLitBy_90
        · skip
          refine lv_iload hx hb dX0_partsLitBy_84 (lv_at hl 0 rfl) ?_
          refine x_ifb_ne (tgt := 91) hx hb dX0_partsLitBy_86 (by decide) (fun c86 => ?_) (fun c86 => ?_)
          · skip
            have hnr := of_decide_eq_true c86
            refine lv_iconst (v := nI 0) hx hb dX0_partsLitBy_91 rfl ?_
            refine lv_istore (lv' := [(5, .int (nI 0)), (4, .int (bI (decide (dd (A 3 t / n 1) ((n 6 - 1) / n 1) ≤ 3 ∧ dd (A 3 t % n 1) ((n 6 - 1) % n 1) ≤ 3)))), (3, .int (nI (dd (A 3 t % n 1) ((n 6 - 1) % n 1)))), (2, .int (nI (dd (A 3 t / n 1) ((n 6 - 1) / n 1)))), (0, .ref (q 0)), (1, .int (nI t))]) hx hb dX0_partsLitBy_92 hl (by decide) rfl (fun ls hl => ?_)
            refine lv_iconst (v := nI 0) hx hb dX0_partsLitBy_94 rfl ?_
            refine lv_istore (lv' := [(6, .int (nI 0)), (5, .int (nI 0)), (4, .int (bI (decide (dd (A 3 t / n 1) ((n 6 - 1) / n 1) ≤ 3 ∧ dd (A 3 t % n 1) ((n 6 - 1) % n 1) ≤ 3)))), (3, .int (nI (dd (A 3 t % n 1) ((n 6 - 1) % n 1)))), (2, .int (nI (dd (A 3 t / n 1) ((n 6 - 1) / n 1)))), (0, .ref (q 0)), (1, .int (nI t))]) hx hb dX0_partsLitBy_95 hl (by decide) rfl (fun ls hl => ?_)
            have L97 : ∀ (fuel : Nat) (k : Nat) (hk : k ≤ 4) (hfu : 4 - k < fuel) (H : Heap) (locs : List Loc), va_P (dC, dI) vwCl (wG cI q n X) H → va_S Z ss.heap H locs → ∀ (ls : Array Slot), lv_has ls 7 [(0, .ref (q 0)), (1, .int (nI t)), (5, .int (nI (orB (fun p => decide (n 7 + (1 + 2 * p) ≤ sTall n A (n 4) t)) k))), (6, .int (nI k))] → W pp l ee RR ss mm aa bb me cd H locs 0 0 QQ (F0 mm 97 ls []) := by
              intro fuel
              induction fuel with
              | zero => intro k hk hfu; exact absurd hfu (Nat.not_lt_zero _)
              | succ fuel ih =>
                intro k hk hfu H locs hP hS ls hl
                refine lv_iload hx hb dX0_partsLitBy_97 (lv_at hl 3 rfl) ?_
                refine lv_iconst (v := nI 4) hx hb dX0_partsLitBy_99 rfl ?_
                refine x_icmp_ge (tgt := 141) hx hb (by omega) (by omega) dX0_partsLitBy_100 (by decide) (fun c100 => ?_) (fun c100 => ?_)
                · skip
                  refine lv_iload hx hb dX0_partsLitBy_141 (lv_at hl 2 rfl) ?_
                  exact hend _ _ _ _ _ (congrArg nI (show orB (fun p => decide (n 7 + (1 + 2 * p) ≤ sTall n A (n 4) t)) k = sLit n A t from by rw [show k = 4 from by omega]; exact (if_pos ⟨c73, c81, hnr⟩ : sLit n A t = sLitP n A t).symm)) hS dX0_partsLitBy_143
                · skip
                  refine lv_aload_n hx hb dX0_partsLitBy_103 rfl (lv_at hl 0 rfl) ?_
                  refine x_get (D := (dC, dI)) (ci := 0) (v := .int (nI (n 7))) (C := RX0) (T := TX0) (N := 17) hx hb hts hinX0 hown hK hP 0 rfl rfl 16 (Nat.le_of_ble_eq_true rfl) hf78 rfl rfl dX0_partsLitBy_104 ?_
                  refine x_getph hx hb hZT hS hown hf108 dX0_partsLitBy_107 ?_
                  refine lv_iload hx hb dX0_partsLitBy_110 (lv_at hl 3 rfl) ?_
                  refine x_phald hx hb hZT hS (by omega) dX0_partsLitBy_112 ?_
                  refine x_iadd hx hb dX0_partsLitBy_113 ?_
                  refine lv_aload_n hx hb dX0_partsLitBy_114 rfl (lv_at hl 0 rfl) ?_
                  refine lv_iload_n hx hb dX0_partsLitBy_115 rfl (lv_at hl 1 rfl) ?_
                  refine lv_aload_n hx hb dX0_partsLitBy_116 rfl (lv_at hl 0 rfl) ?_
                  refine x_get (D := (dC, dI)) (ci := 0) (v := .int (nI (n 4))) (C := RX0) (T := TX0) (N := 17) hx hb hts hinX0 hown hK hP 0 rfl rfl 13 (Nat.le_of_ble_eq_true rfl) hf71 rfl rfl dX0_partsLitBy_117 ?_
                  refine roV_i (As := [.int (nI t), .int (nI (n 4))]) (rest := [.int (nI ((n 7) + (1 + 2 * k)))]) ⟨hx, hb, hml, hown, hts⟩ (kX0_tallIn l dC dI cI q n A X hW hR t (n 4) _ (by omega) (by omega)) (cwV 2 hts gX0_partsLitBy_X0_tallIn rfl rfl rfl hdX0_tallIn ⟨Nat.le_trans (Nat.le_of_ble_eq_true rfl) hRf, Nat.le_trans (Nat.le_of_ble_eq_true rfl) hRl⟩) (va_recv hK hP (ci := 0) (q0 := 0) rfl rfl) hK hP rfl hl.1 rfl (Nat.le_of_ble_eq_true rfl) dX0_partsLitBy_120 ⟨Nat.zero_le _, Nat.zero_le _⟩ hP hS hA (fun H locs hP hS => ?_)
                  refine x_icmp_gt (tgt := 135) hx hb (by omega) (by omega) dX0_partsLitBy_123 (by decide) (fun c123 => ?_) (fun c123 => ?_)
                  · skip
                    have hz : (fun p => decide (n 7 + (1 + 2 * p) ≤ sTall n A (n 4) t)) k = false := decide_eq_false (by omega)
                    refine lv_iinc (v := (nI (k + 1))) (lv' := [(6, .int (nI (k + 1))), (0, .ref (q 0)), (1, .int (nI t)), (5, .int (nI (orB (fun p => decide (n 7 + (1 + 2 * p) ≤ sTall n A (n 4) t)) k)))]) hx hb dX0_partsLitBy_135 hl (k := 3) rfl (nI_add _ _) (by decide) rfl (fun ls hl => ?_)
                    refine lv_goto (tgt := 97) hx hb dX0_partsLitBy_138 (by decide) ?_
                    exact ih (k + 1) (by omega) (by omega) _ _ hP hS _ (by rw [show orB (fun p => decide (n 7 + (1 + 2 * p) ≤ sTall n A (n 4) t)) (k + 1) = orB (fun p => decide (n 7 + (1 + 2 * p) ≤ sTall n A (n 4) t)) k from (orB_f hz).symm]; exact lv_sub hl [1, 2, 3, 0] rfl)
                  · skip
                    have hz : (fun p => decide (n 7 + (1 + 2 * p) ≤ sTall n A (n 4) t)) k = true := decide_eq_true (by omega)
                    refine lv_iload hx hb dX0_partsLitBy_126 (lv_at hl 2 rfl) ?_
                    refine lv_iconst (v := nI 1) hx hb dX0_partsLitBy_128 rfl ?_
                    refine lv_iload hx hb dX0_partsLitBy_129 (lv_at hl 3 rfl) ?_
                    refine x_shl1 hx hb (by omega) dX0_partsLitBy_131 ?_
                    refine x_ior hx hb dX0_partsLitBy_132 ?_
                    refine lv_istore (lv' := [(5, .int (nI ((orB (fun p => decide (n 7 + (1 + 2 * p) ≤ sTall n A (n 4) t)) k) ||| (2 ^ k)))), (0, .ref (q 0)), (1, .int (nI t)), (6, .int (nI k))]) hx hb dX0_partsLitBy_133 hl (by decide) rfl (fun ls hl => ?_)
                    refine lv_iinc (v := (nI (k + 1))) (lv' := [(6, .int (nI (k + 1))), (5, .int (nI ((orB (fun p => decide (n 7 + (1 + 2 * p) ≤ sTall n A (n 4) t)) k) ||| (2 ^ k)))), (0, .ref (q 0)), (1, .int (nI t))]) hx hb dX0_partsLitBy_135 hl (k := 3) rfl (nI_add _ _) (by decide) rfl (fun ls hl => ?_)
                    refine lv_goto (tgt := 97) hx hb dX0_partsLitBy_138 (by decide) ?_
                    exact ih (k + 1) (by omega) (by omega) _ _ hP hS _ (by rw [show orB (fun p => decide (n 7 + (1 + 2 * p) ≤ sTall n A (n 4) t)) (k + 1) = ((orB (fun p => decide (n 7 + (1 + 2 * p) ≤ sTall n A (n 4) t)) k) ||| (2 ^ k)) from (orB_t hz).symm]; exact lv_sub hl [2, 3, 1, 0] rfl)
            exact L97 _ 0 (by omega) (Nat.lt_succ_self _) _ _ hP hS _ (lv_sub hl [5, 6, 1, 0] rfl)
          · skip
            refine lv_iconst (v := nI 0) hx hb dX0_partsLitBy_89 rfl ?_
            exact hend _ _ _ _ _ (congrArg nI (if_neg (fun q => by first | exact absurd q.1 c73 | exact absurd q.2.1 (by rw [c81]; decide) | exact absurd q.2.2 (of_decide_eq_false c86)) : sLit n A t = 0).symm) hS dX0_partsLitBy_90
    · skip
      refine lv_iconst (v := nI 1) hx hb dX0_partsLitBy_60 rfl ?_
      refine lv_goto (tgt := 65) hx hb dX0_partsLitBy_61 (by decide) ?_
      refine x_top (y := bI (decide (dd (A 3 t / n 1) ((n 6 - 1) / n 1) ≤ 3 ∧ dd (A 3 t % n 1) ((n 6 - 1) % n 1) ≤ 3))) (n1_b (decide_eq_true ⟨c52, c57⟩)) ?_
      refine lv_istore (lv' := [(4, .int (bI (decide (dd (A 3 t / n 1) ((n 6 - 1) / n 1) ≤ 3 ∧ dd (A 3 t % n 1) ((n 6 - 1) % n 1) ≤ 3)))), (3, .int (nI (dd (A 3 t % n 1) ((n 6 - 1) % n 1)))), (2, .int (nI (dd (A 3 t / n 1) ((n 6 - 1) / n 1)))), (0, .ref (q 0)), (1, .int (nI t))]) hx hb dX0_partsLitBy_65 hl (by decide) rfl (fun ls hl => ?_)
      refine lv_aload_n hx hb dX0_partsLitBy_67 rfl (lv_at hl 3 rfl) ?_
      refine x_get (D := (dC, dI)) (ci := 0) (v := .ref (q 5)) (C := RX0) (T := TX0) (N := 17) hx hb hts hinX0 hown hK hP 0 rfl rfl 8 (Nat.le_of_ble_eq_true rfl) hf24 rfl rfl dX0_partsLitBy_68 ?_
      refine lv_iload_n hx hb dX0_partsLitBy_71 rfl (lv_at hl 4 rfl) ?_
      refine x_iald (v := (nI (A 2 t))) hx hb hK hP 5 0 rfl rfl (by omega) (by decide) (hR.2.2 _ (by omega)).1 dX0_partsLitBy_72 ?_
      refine x_if_ne (tgt := 89) hx hb (by omega) dX0_partsLitBy_73 (by decide) (fun c73 => ?_) (fun c73 => ?_)
      · skip
        refine lv_iconst (v := nI 0) hx hb dX0_partsLitBy_89 rfl ?_
        exact hend _ _ _ _ _ (congrArg nI (if_neg (fun q => by first | exact absurd q.1 c73 | exact absurd q.2.1 (by rw [c81]; decide) | exact absurd q.2.2 (of_decide_eq_false c86)) : sLit n A t = 0).symm) hS dX0_partsLitBy_90
      · skip
        refine lv_aload_n hx hb dX0_partsLitBy_76 rfl (lv_at hl 3 rfl) ?_
        refine lv_iload_n hx hb dX0_partsLitBy_77 rfl (lv_at hl 4 rfl) ?_
        refine roV_i (As := [.int (nI t)]) (rest := []) ⟨hx, hb, hml, hown, hts⟩ (kX0_isThere l dC dI cI q n A X hW hR t _ (by omega)) (cwV 1 hts gX0_partsLitBy_X0_isThere rfl rfl rfl hdX0_isThere ⟨Nat.le_trans (Nat.le_of_ble_eq_true rfl) hRf, Nat.le_trans (Nat.le_of_ble_eq_true rfl) hRl⟩) (va_recv hK hP (ci := 0) (q0 := 0) rfl rfl) hK hP rfl hl.1 rfl (Nat.le_of_ble_eq_true rfl) dX0_partsLitBy_78 ⟨Nat.zero_le _, Nat.zero_le _⟩ hP hS hA (fun H locs hP hS => ?_)
        refine x_ifb_eq (tgt := 89) hx hb dX0_partsLitBy_81 (by decide) (fun c81 => ?_) (fun c81 => ?_)
        · skip
          refine lv_iconst (v := nI 0) hx hb dX0_partsLitBy_89 rfl ?_
          exact hend _ _ _ _ _ (congrArg nI (if_neg (fun q => by first | exact absurd q.1 c73 | exact absurd q.2.1 (by rw [c81]; decide) | exact absurd q.2.2 (of_decide_eq_false c86)) : sLit n A t = 0).symm) hS dX0_partsLitBy_90
        · skip
          refine lv_iload hx hb dX0_partsLitBy_84 (lv_at hl 0 rfl) ?_
          refine x_ifb_ne (tgt := 91) hx hb dX0_partsLitBy_86 (by decide) (fun c86 => ?_) (fun c86 => ?_)
          · skip
            have hnr := of_decide_eq_true c86
            refine lv_iconst (v := nI 0) hx hb dX0_partsLitBy_91 rfl ?_
            refine lv_istore (lv' := [(5, .int (nI 0)), (4, .int (bI (decide (dd (A 3 t / n 1) ((n 6 - 1) / n 1) ≤ 3 ∧ dd (A 3 t % n 1) ((n 6 - 1) % n 1) ≤ 3)))), (3, .int (nI (dd (A 3 t % n 1) ((n 6 - 1) % n 1)))), (2, .int (nI (dd (A 3 t / n 1) ((n 6 - 1) / n 1)))), (0, .ref (q 0)), (1, .int (nI t))]) hx hb dX0_partsLitBy_92 hl (by decide) rfl (fun ls hl => ?_)
            refine lv_iconst (v := nI 0) hx hb dX0_partsLitBy_94 rfl ?_
            refine lv_istore (lv' := [(6, .int (nI 0)), (5, .int (nI 0)), (4, .int (bI (decide (dd (A 3 t / n 1) ((n 6 - 1) / n 1) ≤ 3 ∧ dd (A 3 t % n 1) ((n 6 - 1) % n 1) ≤ 3)))), (3, .int (nI (dd (A 3 t % n 1) ((n 6 - 1) % n 1)))), (2, .int (nI (dd (A 3 t / n 1) ((n 6 - 1) / n 1)))), (0, .ref (q 0)), (1, .int (nI t))]) hx hb dX0_partsLitBy_95 hl (by decide) rfl (fun ls hl => ?_)
            have L97 : ∀ (fuel : Nat) (k : Nat) (hk : k ≤ 4) (hfu : 4 - k < fuel) (H : Heap) (locs : List Loc), va_P (dC, dI) vwCl (wG cI q n X) H → va_S Z ss.heap H locs → ∀ (ls : Array Slot), lv_has ls 7 [(0, .ref (q 0)), (1, .int (nI t)), (5, .int (nI (orB (fun p => decide (n 7 + (1 + 2 * p) ≤ sTall n A (n 4) t)) k))), (6, .int (nI k))] → W pp l ee RR ss mm aa bb me cd H locs 0 0 QQ (F0 mm 97 ls []) := by
              intro fuel
              induction fuel with
              | zero => intro k hk hfu; exact absurd hfu (Nat.not_lt_zero _)
              | succ fuel ih =>
                intro k hk hfu H locs hP hS ls hl
                refine lv_iload hx hb dX0_partsLitBy_97 (lv_at hl 3 rfl) ?_
                refine lv_iconst (v := nI 4) hx hb dX0_partsLitBy_99 rfl ?_
                refine x_icmp_ge (tgt := 141) hx hb (by omega) (by omega) dX0_partsLitBy_100 (by decide) (fun c100 => ?_) (fun c100 => ?_)
                · skip
                  refine lv_iload hx hb dX0_partsLitBy_141 (lv_at hl 2 rfl) ?_
                  exact hend _ _ _ _ _ (congrArg nI (show orB (fun p => decide (n 7 + (1 + 2 * p) ≤ sTall n A (n 4) t)) k = sLit n A t from by rw [show k = 4 from by omega]; exact (if_pos ⟨c73, c81, hnr⟩ : sLit n A t = sLitP n A t).symm)) hS dX0_partsLitBy_143
                · skip
                  refine lv_aload_n hx hb dX0_partsLitBy_103 rfl (lv_at hl 0 rfl) ?_
                  refine x_get (D := (dC, dI)) (ci := 0) (v := .int (nI (n 7))) (C := RX0) (T := TX0) (N := 17) hx hb hts hinX0 hown hK hP 0 rfl rfl 16 (Nat.le_of_ble_eq_true rfl) hf78 rfl rfl dX0_partsLitBy_104 ?_
                  refine x_getph hx hb hZT hS hown hf108 dX0_partsLitBy_107 ?_
                  refine lv_iload hx hb dX0_partsLitBy_110 (lv_at hl 3 rfl) ?_
                  refine x_phald hx hb hZT hS (by omega) dX0_partsLitBy_112 ?_
                  refine x_iadd hx hb dX0_partsLitBy_113 ?_
                  refine lv_aload_n hx hb dX0_partsLitBy_114 rfl (lv_at hl 0 rfl) ?_
                  refine lv_iload_n hx hb dX0_partsLitBy_115 rfl (lv_at hl 1 rfl) ?_
                  refine lv_aload_n hx hb dX0_partsLitBy_116 rfl (lv_at hl 0 rfl) ?_
                  refine x_get (D := (dC, dI)) (ci := 0) (v := .int (nI (n 4))) (C := RX0) (T := TX0) (N := 17) hx hb hts hinX0 hown hK hP 0 rfl rfl 13 (Nat.le_of_ble_eq_true rfl) hf71 rfl rfl dX0_partsLitBy_117 ?_
                  refine roV_i (As := [.int (nI t), .int (nI (n 4))]) (rest := [.int (nI ((n 7) + (1 + 2 * k)))]) ⟨hx, hb, hml, hown, hts⟩ (kX0_tallIn l dC dI cI q n A X hW hR t (n 4) _ (by omega) (by omega)) (cwV 2 hts gX0_partsLitBy_X0_tallIn rfl rfl rfl hdX0_tallIn ⟨Nat.le_trans (Nat.le_of_ble_eq_true rfl) hRf, Nat.le_trans (Nat.le_of_ble_eq_true rfl) hRl⟩) (va_recv hK hP (ci := 0) (q0 := 0) rfl rfl) hK hP rfl hl.1 rfl (Nat.le_of_ble_eq_true rfl) dX0_partsLitBy_120 ⟨Nat.zero_le _, Nat.zero_le _⟩ hP hS hA (fun H locs hP hS => ?_)
                  refine x_icmp_gt (tgt := 135) hx hb (by omega) (by omega) dX0_partsLitBy_123 (by decide) (fun c123 => ?_) (fun c123 => ?_)
                  · skip
                    have hz : (fun p => decide (n 7 + (1 + 2 * p) ≤ sTall n A (n 4) t)) k = false := decide_eq_false (by omega)
                    refine lv_iinc (v := (nI (k + 1))) (lv' := [(6, .int (nI (k + 1))), (0, .ref (q 0)), (1, .int (nI t)), (5, .int (nI (orB (fun p => decide (n 7 + (1 + 2 * p) ≤ sTall n A (n 4) t)) k)))]) hx hb dX0_partsLitBy_135 hl (k := 3) rfl (nI_add _ _) (by decide) rfl (fun ls hl => ?_)
                    refine lv_goto (tgt := 97) hx hb dX0_partsLitBy_138 (by decide) ?_
                    exact ih (k + 1) (by omega) (by omega) _ _ hP hS _ (by rw [show orB (fun p => decide (n 7 + (1 + 2 * p) ≤ sTall n A (n 4) t)) (k + 1) = orB (fun p => decide (n 7 + (1 + 2 * p) ≤ sTall n A (n 4) t)) k from (orB_f hz).symm]; exact lv_sub hl [1, 2, 3, 0] rfl)
                  · skip
                    have hz : (fun p => decide (n 7 + (1 + 2 * p) ≤ sTall n A (n 4) t)) k = true := decide_eq_true (by omega)
                    refine lv_iload hx hb dX0_partsLitBy_126 (lv_at hl 2 rfl) ?_
                    refine lv_iconst (v := nI 1) hx hb dX0_partsLitBy_128 rfl ?_
                    refine lv_iload hx hb dX0_partsLitBy_129 (lv_at hl 3 rfl) ?_
                    refine x_shl1 hx hb (by omega) dX0_partsLitBy_131 ?_
                    refine x_ior hx hb dX0_partsLitBy_132 ?_
                    refine lv_istore (lv' := [(5, .int (nI ((orB (fun p => decide (n 7 + (1 + 2 * p) ≤ sTall n A (n 4) t)) k) ||| (2 ^ k)))), (0, .ref (q 0)), (1, .int (nI t)), (6, .int (nI k))]) hx hb dX0_partsLitBy_133 hl (by decide) rfl (fun ls hl => ?_)
                    refine lv_iinc (v := (nI (k + 1))) (lv' := [(6, .int (nI (k + 1))), (5, .int (nI ((orB (fun p => decide (n 7 + (1 + 2 * p) ≤ sTall n A (n 4) t)) k) ||| (2 ^ k)))), (0, .ref (q 0)), (1, .int (nI t))]) hx hb dX0_partsLitBy_135 hl (k := 3) rfl (nI_add _ _) (by decide) rfl (fun ls hl => ?_)
                    refine lv_goto (tgt := 97) hx hb dX0_partsLitBy_138 (by decide) ?_
                    exact ih (k + 1) (by omega) (by omega) _ _ hP hS _ (by rw [show orB (fun p => decide (n 7 + (1 + 2 * p) ≤ sTall n A (n 4) t)) (k + 1) = ((orB (fun p => decide (n 7 + (1 + 2 * p) ≤ sTall n A (n 4) t)) k) ||| (2 ^ k)) from (orB_t hz).symm]; exact lv_sub hl [2, 3, 1, 0] rfl)
            exact L97 _ 0 (by omega) (Nat.lt_succ_self _) _ _ hP hS _ (lv_sub hl [5, 6, 1, 0] rfl)
          · skip
            refine lv_iconst (v := nI 0) hx hb dX0_partsLitBy_89 rfl ?_
            exact hend _ _ _ _ _ (congrArg nI (if_neg (fun q => by first | exact absurd q.1 c73 | exact absurd q.2.1 (by rw [c81]; decide) | exact absurd q.2.2 (of_decide_eq_false c86)) : sLit n A t = 0).symm) hS dX0_partsLitBy_90
theorem hdX0_partsLitBy : yX0_partsLitBy.cls = RX0 ∧ yX0_partsLitBy.cls ≠ "java/lang/invoke/MethodHandle" ∧ yX0_partsLitBy.cls ≠ "java/lang/invoke/VarHandle" ∧ (parseMethodDescriptor yX0_partsLitBy.desc).map (fun d => d.parameters.length) = some 1 := by decide +kernel
set_option maxRecDepth 20000 in
theorem ggX0_partsLitByAny_X0_partsLitBy : GoodIn wsX0_partsLitByAny wsX0_partsLitBy := goodIn_r _ [6, 7, 8, 9, 10, 11, 12, 13, 14, 15, 16, 17, 18, 19, 20, 21, 5, 22, 23, 24, 25, 26, 27, 28, 29, 30, 31, 32, 33, 34, 35, 36, 37, 38, 39, 40, 41, 42, 43, 44, 45, 46] (by decide +kernel) (by decide +kernel)
set_option maxRecDepth 20000 in
theorem gX0_partsLitByAny_X0_partsLitBy : GoodIn wsX0_partsLitByAny (wsV RX0 143 RX0 yX0_partsLitBy wsX0_partsLitBy) := goodIn_app (goodIn_of _ (by decide +kernel)) ggX0_partsLitByAny_X0_partsLitBy
set_option maxHeartbeats 4000000 in
set_option maxRecDepth 100000 in
theorem kX0_partsLitByAny (l : Launch) (dC : Nat → ClassId) (dI : Nat → Nat → Nat) (cI : ClassId) (q n : Nat → Nat) (A : Nat → Nat → Nat) (X : Nat → Nat → Int32) (hW : WF n A) (hR : RG n A X) (tH : Nat) (sz : Nat) (hst : 0 < n 6) : Met l yX0_partsLitByAny wsX0_partsLitByAny ({ frames := 2, cells := 0, slots := 0, locals := 49 }) (rsP tH [.ref (q 0)] sz (dC, dI) [(cI, .int)] (wG cI q n X)) (roQi (nI (sLits n A)) sz) 0 0 (va_A [] sz) := by
  refine rs_met_i (by decide) rfl (Nat.le_of_ble_eq_true rfl) ?_
  intro pp ee ss mm aa bb me cd RR QQ Z hx hb hml hown hts hRf hRl hP hK hA hS hZT hend ls hl
  have hown : ss.vm.findClass RX0 = some mm.cls := hown
  have hRf : 2 ≤ RR.frames := hRf
  have hRl : 49 ≤ RR.locals := hRl
  have hl : lv_has ls 3 [(0, .ref (q 0))] := hl
  obtain ⟨w0, w1, w2, w3, w4, w5, w6, w7, w8, wA0, wA1, wA2⟩ := id hW
  have wC : n 0 * n 1 ≤ 42 := Nat.mul_le_mul w0 w1
  have hf52 := hts (.fieldLink RX0 52 "StatueSquare$Ground" "thingCount" "I") (List.mem_of_getElem? (i := 1) rfl)
  have hinX0 : ∀ w ∈ u_ws RX0 TX0 17, w ∈ wsX0_partsLitByAny := fun _ h => List.mem_cons_of_mem _ (List.mem_append_right _ h)
  refine lv_iconst (v := nI 0) hx hb dX0_partsLitByAny_0 rfl ?_
  refine lv_istore_n (lv' := [(1, .int (nI 0)), (0, .ref (q 0))]) hx hb dX0_partsLitByAny_1 rfl hl (by decide) rfl (fun ls hl => ?_)
  refine lv_iconst (v := nI 0) hx hb dX0_partsLitByAny_2 rfl ?_
  refine lv_istore_n (lv' := [(2, .int (nI 0)), (1, .int (nI 0)), (0, .ref (q 0))]) hx hb dX0_partsLitByAny_3 rfl hl (by decide) rfl (fun ls hl => ?_)
  have L4 : ∀ (fuel : Nat) (k : Nat) (hk : k ≤ n 3) (hfu : n 3 - k < fuel) (H : Heap) (locs : List Loc), va_P (dC, dI) vwCl (wG cI q n X) H → va_S Z ss.heap H locs → ∀ (ls : Array Slot), lv_has ls 3 [(0, .ref (q 0)), (1, .int (nI (orM (sLit n A) k))), (2, .int (nI k))] → W pp l ee RR ss mm aa bb me cd H locs 0 0 QQ (F0 mm 4 ls []) := by
    intro fuel
    induction fuel with
    | zero => intro k hk hfu; exact absurd hfu (Nat.not_lt_zero _)
    | succ fuel ih =>
      intro k hk hfu H locs hP hS ls hl
      refine lv_iload_n hx hb dX0_partsLitByAny_4 rfl (lv_at hl 2 rfl) ?_
      refine lv_aload_n hx hb dX0_partsLitByAny_5 rfl (lv_at hl 0 rfl) ?_
      refine x_get (D := (dC, dI)) (ci := 0) (v := .int (nI (n 3))) (C := RX0) (T := TX0) (N := 17) hx hb hts hinX0 hown hK hP 0 rfl rfl 3 (Nat.le_of_ble_eq_true rfl) hf52 rfl rfl dX0_partsLitByAny_6 ?_
      refine x_icmp_ge (tgt := 26) hx hb (by omega) (by omega) dX0_partsLitByAny_9 (by decide) (fun c9 => ?_) (fun c9 => ?_)
      · skip
        refine lv_iload_n hx hb dX0_partsLitByAny_26 rfl (lv_at hl 1 rfl) ?_
        exact hend _ _ _ _ _ (congrArg nI (show orM (sLit n A) k = orM (sLit n A) (n 3) from by congr 1; omega)) hS dX0_partsLitByAny_27
      · skip
        refine lv_iload_n hx hb dX0_partsLitByAny_12 rfl (lv_at hl 1 rfl) ?_
        refine lv_aload_n hx hb dX0_partsLitByAny_13 rfl (lv_at hl 0 rfl) ?_
        refine lv_iload_n hx hb dX0_partsLitByAny_14 rfl (lv_at hl 2 rfl) ?_
        refine rsV_i (As := [.int (nI k)]) (rest := [.int (nI (orM (sLit n A) k))]) ⟨hx, hb, hml, hown, hts⟩ (kX0_partsLitBy l dC dI cI q n A X hW hR tH k _ (by omega) (by omega)) (cwV 1 hts gX0_partsLitByAny_X0_partsLitBy rfl rfl rfl hdX0_partsLitBy ⟨Nat.le_trans (Nat.le_of_ble_eq_true rfl) hRf, Nat.le_trans (Nat.le_of_ble_eq_true rfl) hRl⟩) (va_recv hK hP (ci := 0) (q0 := 0) rfl rfl) hK hP rfl hl.1 rfl (Nat.le_of_ble_eq_true rfl) dX0_partsLitByAny_15 ⟨Nat.zero_le _, Nat.zero_le _⟩ hP hS hA hZT (fun H locs hP hS => ?_)
        refine x_ior hx hb dX0_partsLitByAny_18 ?_
        refine lv_istore_n (lv' := [(1, .int (nI ((orM (sLit n A) k) ||| (sLit n A k)))), (0, .ref (q 0)), (2, .int (nI k))]) hx hb dX0_partsLitByAny_19 rfl hl (by decide) rfl (fun ls hl => ?_)
        refine lv_iinc (v := (nI (k + 1))) (lv' := [(2, .int (nI (k + 1))), (1, .int (nI ((orM (sLit n A) k) ||| (sLit n A k)))), (0, .ref (q 0))]) hx hb dX0_partsLitByAny_20 hl (k := 2) rfl (nI_add _ _) (by decide) rfl (fun ls hl => ?_)
        refine lv_goto (tgt := 4) hx hb dX0_partsLitByAny_23 (by decide) ?_
        exact ih (k + 1) (by omega) (by omega) _ _ hP hS _ (lv_sub hl [2, 1, 0] rfl)
  exact L4 _ 0 (by omega) (Nat.lt_succ_self _) _ _ hP hS _ (lv_sub hl [2, 1, 0] rfl)
theorem hdX0_partsLitByAny : yX0_partsLitByAny.cls = RX0 ∧ yX0_partsLitByAny.cls ≠ "java/lang/invoke/MethodHandle" ∧ yX0_partsLitByAny.cls ≠ "java/lang/invoke/VarHandle" ∧ (parseMethodDescriptor yX0_partsLitByAny.desc).map (fun d => d.parameters.length) = some 0 := by decide +kernel
set_option maxRecDepth 20000 in
theorem ggX0_fewestLamps_X0_partsLitByAny : GoodIn wsX0_fewestLamps wsX0_partsLitByAny := goodIn_r _ [6, 1, 7, 8, 9, 5, 10, 11, 12, 13, 14, 15, 16, 17, 18, 19, 20, 21, 22, 23, 24, 25, 26, 27, 28, 29, 30, 31, 32, 33, 34, 35, 36, 37, 38, 39, 40, 41, 42, 43, 44, 45, 46, 47, 48, 49, 50] (by decide +kernel) (by decide +kernel)
set_option maxRecDepth 20000 in
theorem gX0_fewestLamps_X0_partsLitByAny : GoodIn wsX0_fewestLamps (wsV RX0 146 RX0 yX0_partsLitByAny wsX0_partsLitByAny) := goodIn_app (goodIn_of _ (by decide +kernel)) ggX0_fewestLamps_X0_partsLitByAny
set_option maxRecDepth 20000 in
theorem ggX0_fewestLamps_X0_partsLitBy : GoodIn wsX0_fewestLamps wsX0_partsLitBy := goodIn_r _ [10, 11, 12, 13, 14, 15, 16, 17, 18, 19, 20, 21, 22, 23, 24, 25, 5, 26, 27, 28, 29, 30, 31, 32, 33, 34, 35, 36, 37, 38, 39, 40, 41, 42, 43, 44, 45, 46, 47, 48, 49, 50] (by decide +kernel) (by decide +kernel)
set_option maxRecDepth 20000 in
theorem gX0_fewestLamps_X0_partsLitBy : GoodIn wsX0_fewestLamps (wsV RX0 143 RX0 yX0_partsLitBy wsX0_partsLitBy) := goodIn_app (goodIn_of _ (by decide +kernel)) ggX0_fewestLamps_X0_partsLitBy
set_option maxHeartbeats 4000000 in
set_option maxRecDepth 100000 in
theorem kX0_fewestLamps (l : Launch) (dC : Nat → ClassId) (dI : Nat → Nat → Nat) (cI : ClassId) (q n : Nat → Nat) (A : Nat → Nat → Nat) (X : Nat → Nat → Int32) (hW : WF n A) (hR : RG n A X) (tH : Nat) (sz : Nat) (hst : 0 < n 6) : Met l yX0_fewestLamps wsX0_fewestLamps ({ frames := 3, cells := 0, slots := 0, locals := 71 }) (rsP tH [.ref (q 0)] sz (dC, dI) [(cI, .int)] (wG cI q n X)) (roQi (nI (sFew n A)) sz) 0 0 (va_A [] sz) := by
  refine rs_met_i (by decide) rfl (Nat.le_of_ble_eq_true rfl) ?_
  intro pp ee ss mm aa bb me cd RR QQ Z hx hb hml hown hts hRf hRl hP hK hA hS hZT hend ls hl
  have hown : ss.vm.findClass RX0 = some mm.cls := hown
  have hRf : 3 ≤ RR.frames := hRf
  have hRl : 71 ≤ RR.locals := hRl
  have hl : lv_has ls 3 [(0, .ref (q 0))] := hl
  obtain ⟨w0, w1, w2, w3, w4, w5, w6, w7, w8, wA0, wA1, wA2⟩ := id hW
  have wC : n 0 * n 1 ≤ 42 := Nat.mul_le_mul w0 w1
  have hl16 : sLits n A < 2 ^ 4 := orM_lt (fun i _ => sLit_lt n A i)
  have hf52 := hts (.fieldLink RX0 52 "StatueSquare$Ground" "thingCount" "I") (List.mem_of_getElem? (i := 1) rfl)
  have hinX0 : ∀ w ∈ u_ws RX0 TX0 17, w ∈ wsX0_fewestLamps := fun _ h => List.mem_cons_of_mem _ (List.mem_append_right _ h)
  refine lv_aload_n hx hb dX0_fewestLamps_0 rfl (lv_at hl 0 rfl) ?_
  refine rsV_i (As := []) (rest := []) ⟨hx, hb, hml, hown, hts⟩ (kX0_partsLitByAny l dC dI cI q n A X hW hR tH _ (by omega)) (cwV 0 hts gX0_fewestLamps_X0_partsLitByAny rfl rfl rfl hdX0_partsLitByAny ⟨Nat.le_trans (Nat.le_of_ble_eq_true rfl) hRf, Nat.le_trans (Nat.le_of_ble_eq_true rfl) hRl⟩) (va_recv hK hP (ci := 0) (q0 := 0) rfl rfl) hK hP rfl hl.1 rfl (Nat.le_of_ble_eq_true rfl) dX0_fewestLamps_1 ⟨Nat.zero_le _, Nat.zero_le _⟩ hP hS hA hZT (fun H locs hP hS => ?_)
  refine lv_istore_n (lv' := [(1, .int (nI (sLits n A))), (0, .ref (q 0))]) hx hb dX0_fewestLamps_4 rfl hl (by decide) rfl (fun ls hl => ?_)
  refine lv_iload_n hx hb dX0_fewestLamps_5 rfl (lv_at hl 0 rfl) ?_
  refine x_if_ne (tgt := 11) hx hb (Nat.lt_trans hl16 (by decide)) dX0_fewestLamps_6 (by decide) (fun c6 => ?_) (fun c6 => ?_)
  · skip
    refine lv_iconst (v := nI 0) hx hb dX0_fewestLamps_11 rfl ?_
    refine lv_istore_n (lv' := [(2, .int (nI 0)), (1, .int (nI (sLits n A))), (0, .ref (q 0))]) hx hb dX0_fewestLamps_12 rfl hl (by decide) rfl (fun ls hl => ?_)
    have L13 : ∀ (fuel : Nat) (k : Nat) (hk : k ≤ n 3) (hno : ∀ j, j < k → (fun t => decide (sLit n A t = sLits n A)) j = false) (hfu : n 3 - k < fuel) (H : Heap) (locs : List Loc), va_P (dC, dI) vwCl (wG cI q n X) H → va_S Z ss.heap H locs → ∀ (ls : Array Slot), lv_has ls 3 [(0, .ref (q 0)), (1, .int (nI (sLits n A))), (2, .int (nI k))] → W pp l ee RR ss mm aa bb me cd H locs 0 0 QQ (F0 mm 13 ls []) := by
      intro fuel
      induction fuel with
      | zero => intro k hk hno hfu; exact absurd hfu (Nat.not_lt_zero _)
      | succ fuel ih =>
        intro k hk hno hfu H locs hP hS ls hl
        refine lv_iload_n hx hb dX0_fewestLamps_13 rfl (lv_at hl 2 rfl) ?_
        refine lv_aload_n hx hb dX0_fewestLamps_14 rfl (lv_at hl 0 rfl) ?_
        refine x_get (D := (dC, dI)) (ci := 0) (v := .int (nI (n 3))) (C := RX0) (T := TX0) (N := 17) hx hb hts hinX0 hown hK hP 0 rfl rfl 3 (Nat.le_of_ble_eq_true rfl) hf52 rfl rfl dX0_fewestLamps_15 ?_
        refine x_icmp_ge (tgt := 40) hx hb (by omega) (by omega) dX0_fewestLamps_18 (by decide) (fun c18 => ?_) (fun c18 => ?_)
        · skip
          refine lv_iconst (v := nI 0) hx hb dX0_fewestLamps_40 rfl ?_
          exact hend _ _ _ _ _ (congrArg nI (show 0 = sFew n A from ((if_neg c6 : sFew n A = _).trans (by rw [fstB_no (fun j hj => hno j (by omega))]; rfl)).symm)) hS dX0_fewestLamps_41
        · skip
          refine lv_aload_n hx hb dX0_fewestLamps_21 rfl (lv_at hl 0 rfl) ?_
          refine lv_iload_n hx hb dX0_fewestLamps_22 rfl (lv_at hl 2 rfl) ?_
          refine rsV_i (As := [.int (nI k)]) (rest := []) ⟨hx, hb, hml, hown, hts⟩ (kX0_partsLitBy l dC dI cI q n A X hW hR tH k _ (by omega) (by omega)) (cwV 1 hts gX0_fewestLamps_X0_partsLitBy rfl rfl rfl hdX0_partsLitBy ⟨Nat.le_trans (Nat.le_of_ble_eq_true rfl) hRf, Nat.le_trans (Nat.le_of_ble_eq_true rfl) hRl⟩) (va_recv hK hP (ci := 0) (q0 := 0) rfl rfl) hK hP rfl hl.1 rfl (Nat.le_of_ble_eq_true rfl) dX0_fewestLamps_23 ⟨Nat.zero_le _, Nat.zero_le _⟩ hP hS hA hZT (fun H locs hP hS => ?_)
          refine lv_iload_n hx hb dX0_fewestLamps_26 rfl (lv_at hl 1 rfl) ?_
          refine x_icmp_ne (tgt := 34) hx hb (Nat.lt_trans (sLit_lt _ _ _) (by decide)) (Nat.lt_trans hl16 (by decide)) dX0_fewestLamps_27 (by decide) (fun c27 => ?_) (fun c27 => ?_)
          · skip
            refine lv_iinc (v := (nI (k + 1))) (lv' := [(2, .int (nI (k + 1))), (0, .ref (q 0)), (1, .int (nI (sLits n A)))]) hx hb dX0_fewestLamps_34 hl (k := 2) rfl (nI_add _ _) (by decide) rfl (fun ls hl => ?_)
            refine lv_goto (tgt := 13) hx hb dX0_fewestLamps_37 (by decide) ?_
            exact ih (k + 1) (by omega) (fun j h => if e : j = k then e ▸ decide_eq_false c27 else hno j (by omega)) (by omega) _ _ hP hS _ (lv_sub hl [1, 2, 0] rfl)
          · skip
            refine lv_iconst (v := nI 1) hx hb dX0_fewestLamps_30 rfl ?_
            refine lv_iload_n hx hb dX0_fewestLamps_31 rfl (lv_at hl 2 rfl) ?_
            refine x_shl1 hx hb (by omega) dX0_fewestLamps_32 ?_
            exact hend _ _ _ _ _ (congrArg nI (show 2 ^ k = sFew n A from ((if_neg c6 : sFew n A = _).trans (by rw [fstB_yes hno (decide_eq_true c27) (by omega)]; rfl)).symm)) hS dX0_fewestLamps_33
    exact L13 _ 0 (by omega) (fun j h => absurd h (Nat.not_lt_zero _)) (Nat.lt_succ_self _) _ _ hP hS _ (lv_sub hl [2, 1, 0] rfl)
  · skip
    refine lv_iconst (v := nI 0) hx hb dX0_fewestLamps_9 rfl ?_
    exact hend _ _ _ _ _ (congrArg nI (if_pos c6 : sFew n A = 0).symm) hS dX0_fewestLamps_10
