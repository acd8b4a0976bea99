theorem map_of_filter {α : Type} {ws : List α} : ∀ {is : List Nat}, is.all (fun i => decide (i < ws.length)) = true → is.map (fun i => ws[i]?) = (is.filterMap (fun i => ws[i]?)).map some
  | [], _ => rfl
  | i :: is, h => by
    rw [List.all_cons, Bool.and_eq_true] at h
    have hi := of_decide_eq_true h.1
    have e : ws[i]? = some ws[i] := List.getElem?_eq_getElem hi
    rw [List.map_cons, List.filterMap_cons, map_of_filter h.2, e]
    rfl
section CALLW
variable {p : Program} {l : Launch} {e : Env} {R : Room} {s : State} {m : MethodId} {args : Array Value} {below : List Frame} {meth : Method} {c : Code} {H : Heap} {locs : List Loc} {cells slots : Nat} {Q : State → Prop} {A : Nat → Prop}
variable {y : MethodName} {bytes cc : ByteArray} {maxL nL n index pc b : Nat} {ret : Option FieldType} {ws : List Cond} {rm : Room} {Ts : List Cond} {own C : String} {As rest st : List Value} {ls : Array Slot} {D : va_G} {tc : List (ClassId × FieldType)} {wc w1 wd : va_W}
theorem rwW_i {v : Int32} {wn : va_W} (S : CallFix p m c cc nL s args Ts own) (hM : Met l y ws rm (rwP (.ref b :: As) H.size D tc wc) (rwQi v D wc w1 H.size) 0 0 (va_A wc H.size)) (cw : CallW R s args own C index y bytes maxL ret ws rm 0 0 n)
    (hrec : ∃ cellB : Cell, H[b]? = some cellB ∧ cellB.vm.isStatics = false ∧ s.vm.findClass C = some cellB.cls) (hKc : va_K D vwCl tc s) (hn : As.length = n) (hsize : ls.size = nL) (hst : st = As.reverse ++ .ref b :: rest) (hroom : (rest.map fun v => v.category).sum ≤ 8) (hdg : decode cc pc = .ok (.invokevirtual index, 3)) (hcap : cells ≤ R.cells ∧ slots ≤ R.slots)
    (hP : va_P D vwCl wd H) (hD : va_D A wd) (hS : va_S A s.heap H locs) (hA : ∀ q, s.heap.size ≤ q → A q)
    (isC isR isN : List Nat) (hC : isC.map (fun i => wd[i]?) = wc.map some) (hR : isR.all (fun i => decide (i < wd.length)) = true) (hnC : va_nd isC = true) (hnR : va_nd isR = true) (hdis : ∀ i ∈ isR, i ∉ isC) (hsame : w1.map (fun q => q.1) = wc.map (fun q => q.1)) (hN : isN.filterMap (fun i => (isR.filterMap (fun i => wd[i]?) ++ w1)[i]?) = wn)
    (kk : ∀ (H1 : Heap) (locs1 : List Loc), va_P D vwCl wn H1 → va_S A s.heap H1 locs1 → W p l e R s m args below meth c H1 locs1 cells slots Q (F0 m (pc + 3) ls (.int v :: rest))) : W p l e R s m args below meth c H locs cells slots Q (F0 m pc ls st) := rwV_i S hM cw hrec hKc hn hsize hst hroom hdg hcap hP hD hS hA isC isR isN hC (map_of_filter hR) hnC hnR hdis hsame hN kk
theorem rwW_l {v : Int64} {wn : va_W} (S : CallFix p m c cc nL s args Ts own) (hM : Met l y ws rm (rwP (.ref b :: As) H.size D tc wc) (rwQl v D wc w1 H.size) 0 0 (va_A wc H.size)) (cw : CallW R s args own C index y bytes maxL ret ws rm 0 0 n)
    (hrec : ∃ cellB : Cell, H[b]? = some cellB ∧ cellB.vm.isStatics = false ∧ s.vm.findClass C = some cellB.cls) (hKc : va_K D vwCl tc s) (hn : As.length = n) (hsize : ls.size = nL) (hst : st = As.reverse ++ .ref b :: rest) (hroom : (rest.map fun v => v.category).sum ≤ 8) (hdg : decode cc pc = .ok (.invokevirtual index, 3)) (hcap : cells ≤ R.cells ∧ slots ≤ R.slots)
    (hP : va_P D vwCl wd H) (hD : va_D A wd) (hS : va_S A s.heap H locs) (hA : ∀ q, s.heap.size ≤ q → A q)
    (isC isR isN : List Nat) (hC : isC.map (fun i => wd[i]?) = wc.map some) (hR : isR.all (fun i => decide (i < wd.length)) = true) (hnC : va_nd isC = true) (hnR : va_nd isR = true) (hdis : ∀ i ∈ isR, i ∉ isC) (hsame : w1.map (fun q => q.1) = wc.map (fun q => q.1)) (hN : isN.filterMap (fun i => (isR.filterMap (fun i => wd[i]?) ++ w1)[i]?) = wn)
    (kk : ∀ (H1 : Heap) (locs1 : List Loc), va_P D vwCl wn H1 → va_S A s.heap H1 locs1 → W p l e R s m args below meth c H1 locs1 cells slots Q (F0 m (pc + 3) ls (.long v :: rest))) : W p l e R s m args below meth c H locs cells slots Q (F0 m pc ls st) := rwV_l S hM cw hrec hKc hn hsize hst hroom hdg hcap hP hD hS hA isC isR isN hC (map_of_filter hR) hnC hnR hdis hsame hN kk
theorem rwW_v {wn : va_W} (S : CallFix p m c cc nL s args Ts own) (hM : Met l y ws rm (rwP (.ref b :: As) H.size D tc wc) (rwQv D wc w1 H.size) 0 0 (va_A wc H.size)) (cw : CallW R s args own C index y bytes maxL ret ws rm 0 0 n)
    (hrec : ∃ cellB : Cell, H[b]? = some cellB ∧ cellB.vm.isStatics = false ∧ s.vm.findClass C = some cellB.cls) (hKc : va_K D vwCl tc s) (hn : As.length = n) (hsize : ls.size = nL) (hst : st = As.reverse ++ .ref b :: rest) (hroom : (rest.map fun v => v.category).sum ≤ 8) (hdg : decode cc pc = .ok (.invokevirtual index, 3)) (hcap : cells ≤ R.cells ∧ slots ≤ R.slots)
    (hP : va_P D vwCl wd H) (hD : va_D A wd) (hS : va_S A s.heap H locs) (hA : ∀ q, s.heap.size ≤ q → A q)
    (isC isR isN : List Nat) (hC : isC.map (fun i => wd[i]?) = wc.map some) (hR : isR.all (fun i => decide (i < wd.length)) = true) (hnC : va_nd isC = true) (hnR : va_nd isR = true) (hdis : ∀ i ∈ isR, i ∉ isC) (hsame : w1.map (fun q => q.1) = wc.map (fun q => q.1)) (hN : isN.filterMap (fun i => (isR.filterMap (fun i => wd[i]?) ++ w1)[i]?) = wn)
    (kk : ∀ (H1 : Heap) (locs1 : List Loc), va_P D vwCl wn H1 → va_S A s.heap H1 locs1 → W p l e R s m args below meth c H1 locs1 cells slots Q (F0 m (pc + 3) ls rest)) : W p l e R s m args below meth c H locs cells slots Q (F0 m pc ls st) := rwV_v S hM cw hrec hKc hn hsize hst hroom hdg hcap hP hD hS hA isC isR isN hC (map_of_filter hR) hnC hnR hdis hsame hN kk
end CALLW
