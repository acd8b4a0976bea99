/-! contracts that read the table of the parts' heights -/
def phF : Nat → Value := fun j => .int (nI (1 + 2 * j))
def hpS (tH : Nat) (B : Nat → Prop) (U : State) (H : Heap) : Prop := va_Z "StatueSquare$Ground" "PART_HEIGHTS" "[I" (.ref tH) B U H ∧ va_T .int tH 4 phF B U H
theorem hpS.moved {tH : Nat} {B : Nat → Prop} {u U : State} {H : Heap} (hvm : u.vm.Alike U.vm) (h : hpS tH B u H) : hpS tH B U H := ⟨h.1.moved hvm, h.2.moved hvm⟩
theorem hpS.kept {tH : Nat} {B : Nat → Prop} {U : State} {H H1 : Heap} (h : hpS tH B U H) (hq : ∀ a : Nat, a < H.size → ¬ B a → H1[a]? = H[a]?) : hpS tH B U H1 := ⟨h.1.kept hq, h.2.kept hq⟩
theorem hpS.narrow {tH : Nat} {B C : Nat → Prop} {U : State} {H : Heap} (h : hpS tH B U H) (hAB : ∀ q, C q → B q) : hpS tH C U H := ⟨h.1.narrow hAB, h.2.narrow hAB⟩
abbrev rsP (tH : Nat) (av : List Value) (sz : Nat) (D : va_G) (tys : List (ClassId × FieldType)) (wd : va_W) : Array Value → State → Prop := va_Pc av (fun U => U.heap.size = sz ∧ va_P D vwCl wd U.heap ∧ va_K D vwCl tys U ∧ hpS tH (va_A [] sz) U U.heap)
theorem blind_rs {tH : Nat} {av : List Value} {sz : Nat} {D : va_G} {tys : List (ClassId × FieldType)} {wd : va_W} : FrameBlind (rsP tH av sz D tys wd) := fun a U g mk q => by
  obtain ⟨q0, q1, qP, qK, qS⟩ := q
  exact ⟨q0, q1, qP, va_K.moved (u := U) (U := U.calling g mk a) (Vm.Alike.refl U.vm) qK, hpS.moved (u := U) (U := U.calling g mk a) (Vm.Alike.refl U.vm) qS⟩
section METS
variable {l : Launch} {y : MethodName} {ws ws' : List Cond} {rm : Room} {cc : ByteArray} {maxL sz tH : Nat} {D : va_G} {tys : List (ClassId × FieldType)} {wd w' : va_W} {av : List Value}
theorem rs_met_i {v : Int32} (hy : plainName y.cls = true) (hw : ws = Cond.code y cc maxL (some .int) :: ws') (hn : (lg_sl av).length ≤ maxL)
    (body : ∀ (p : Program) (e : Env) (s : State) (m : MethodId) (args : Array Value) (below : List Frame) (meth : Method) (c : Code) (R : Room) (Q : State → Prop) (A : Nat → Prop),
      p.tables.exec = Jvm.exec → c.code = cc → c.maxLocals = maxL → s.vm.findClass y.cls = some m.cls → (∀ w ∈ ws, w.before args s = true) → rm.frames ≤ R.frames → rm.locals ≤ R.locals →
      va_P D vwCl wd s.heap → va_K D vwCl tys s → (∀ q, s.heap.size ≤ q → A q) → va_S A s.heap s.heap [] → hpS tH A s s.heap →
      (∀ (r : Int32) (H : Heap) (locs : List Loc) (pc : Nat) (ls : Array Slot), r = v → va_S A s.heap H locs → decode cc pc = .ok (.ireturn, 1) → W p l e R s m args below meth c H locs 0 0 Q (F0 m pc ls [.int r])) →
      ∀ ls, lv_has ls maxL (lv_args 0 av) → W p l e R s m args below meth c s.heap [] 0 0 Q (F0 m 0 ls [])) : Met l y ws rm (rsP tH av sz D tys wd) (roQi v sz) 0 0 (va_A [] sz) := by
  refine Met.ofW (cc := cc) (maxL := maxL) (ret := some .int) hy hw ?_
  intro p e s m args below meth c s₁ B hml hv
  obtain ⟨rfl, hsz, hP, hK, hZT⟩ := hv
  subst hsz
  rw [lg_entry_eq]
  exact body p e s m av.toArray below meth c (headSpec ws rm).room _ (va_A [] s.heap.size) B.exec B.bytes hml (findClass_of_methodNamed B.named) (atoms_spec (ws := ws) B.pre) (Nat.le_refl _) (Nat.le_refl _) hP hK (fun q h => Or.inr h) va_S.rf hZT
    (fun r H locs pc ls hp hS hd => W.iret B.exec B.bytes B.returns (fun t ht hW => ⟨⟨r, (), rfl, hp, trivial⟩, hS.F ht⟩) hS.2.2 hd B.notSynchronized) _ (lv_entry av hn)
theorem rs_met_z {v : Bool} (hy : plainName y.cls = true) (hw : ws = Cond.code y cc maxL (some .boolean) :: ws') (hn : (lg_sl av).length ≤ maxL)
    (body : ∀ (p : Program) (e : Env) (s : State) (m : MethodId) (args : Array Value) (below : List Frame) (meth : Method) (c : Code) (R : Room) (Q : State → Prop) (A : Nat → Prop),
      p.tables.exec = Jvm.exec → c.code = cc → c.maxLocals = maxL → s.vm.findClass y.cls = some m.cls → (∀ w ∈ ws, w.before args s = true) → rm.frames ≤ R.frames → rm.locals ≤ R.locals →
      va_P D vwCl wd s.heap → va_K D vwCl tys s → (∀ q, s.heap.size ≤ q → A q) → va_S A s.heap s.heap [] → hpS tH A s s.heap →
      (∀ (r : Int32) (H : Heap) (locs : List Loc) (pc : Nat) (ls : Array Slot), r = bI v → va_S A s.heap H locs → decode cc pc = .ok (.ireturn, 1) → W p l e R s m args below meth c H locs 0 0 Q (F0 m pc ls [.int r])) →
      ∀ ls, lv_has ls maxL (lv_args 0 av) → W p l e R s m args below meth c s.heap [] 0 0 Q (F0 m 0 ls [])) : Met l y ws rm (rsP tH av sz D tys wd) (roQi (bI v) sz) 0 0 (va_A [] sz) := by
  refine Met.ofW (cc := cc) (maxL := maxL) (ret := some .boolean) hy hw ?_
  intro p e s m args below meth c s₁ B hml hv
  obtain ⟨rfl, hsz, hP, hK, hZT⟩ := hv
  subst hsz
  rw [lg_entry_eq]
  exact body p e s m av.toArray below meth c (headSpec ws rm).room _ (va_A [] s.heap.size) B.exec B.bytes hml (findClass_of_methodNamed B.named) (atoms_spec (ws := ws) B.pre) (Nat.le_refl _) (Nat.le_refl _) hP hK (fun q h => Or.inr h) va_S.rf hZT
    (fun r H locs pc ls hp hS hd => W.zret B.exec B.bytes B.returns (by rw [hp]; exact bI_nar v) (fun t ht hW => ⟨⟨r, (), rfl, hp, trivial⟩, hS.F ht⟩) hS.2.2 hd B.notSynchronized) _ (lv_entry av hn)
theorem rs_met_l {v : Int64} (hy : plainName y.cls = true) (hw : ws = Cond.code y cc maxL (some .long) :: ws') (hn : (lg_sl av).length ≤ maxL)
    (body : ∀ (p : Program) (e : Env) (s : State) (m : MethodId) (args : Array Value) (below : List Frame) (meth : Method) (c : Code) (R : Room) (Q : State → Prop) (A : Nat → Prop),
      p.tables.exec = Jvm.exec → c.code = cc → c.maxLocals = maxL → s.vm.findClass y.cls = some m.cls → (∀ w ∈ ws, w.before args s = true) → rm.frames ≤ R.frames → rm.locals ≤ R.locals →
      va_P D vwCl wd s.heap → va_K D vwCl tys s → (∀ q, s.heap.size ≤ q → A q) → va_S A s.heap s.heap [] → hpS tH A s s.heap →
      (∀ (r : Int64) (H : Heap) (locs : List Loc) (pc : Nat) (ls : Array Slot), r = v → va_S A s.heap H locs → decode cc pc = .ok (.lreturn, 1) → W p l e R s m args below meth c H locs 0 0 Q (F0 m pc ls [.long r])) →
      ∀ ls, lv_has ls maxL (lv_args 0 av) → W p l e R s m args below meth c s.heap [] 0 0 Q (F0 m 0 ls [])) : Met l y ws rm (rsP tH av sz D tys wd) (roQl v sz) 0 0 (va_A [] sz) := by
  refine Met.ofW (cc := cc) (maxL := maxL) (ret := some .long) hy hw ?_
  intro p e s m args below meth c s₁ B hml hv
  obtain ⟨rfl, hsz, hP, hK, hZT⟩ := hv
  subst hsz
  rw [lg_entry_eq]
  exact body p e s m av.toArray below meth c (headSpec ws rm).room _ (va_A [] s.heap.size) B.exec B.bytes hml (findClass_of_methodNamed B.named) (atoms_spec (ws := ws) B.pre) (Nat.le_refl _) (Nat.le_refl _) hP hK (fun q h => Or.inr h) va_S.rf hZT
    (fun r H locs pc ls hp hS hd => W.lret B.exec B.bytes B.returns (fun t ht hW => ⟨⟨r, (), rfl, hp, trivial⟩, hS.F ht⟩) hS.2.2 hd B.notSynchronized) _ (lv_entry av hn)
end METS
section CALLS
variable {p : Program} {l : Launch} {e : Env} {R : Room} {s : State} {m : MethodId} {args : Array Value} {below : List Frame} {meth : Method} {c : Code} {H : Heap} {locs : List Loc} {cells slots : Nat} {Q : State → Prop} {A : Nat → Prop}
variable {y : MethodName} {bytes cc : ByteArray} {maxL nL n index pc b tH : Nat} {ret : Option FieldType} {ws : List Cond} {rm : Room} {Ts : List Cond} {own C : String} {As rest st : List Value} {ls : Array Slot} {D : va_G} {tc : List (ClassId × FieldType)} {wc w1 wd : va_W}
theorem rsV_i {v : Int32} (S : CallFix p m c cc nL s args Ts own) (hM : Met l y ws rm (rsP tH (.ref b :: As) H.size D tc wc) (roQi v H.size) 0 0 (va_A [] H.size)) (cw : CallW R s args own C index y bytes maxL ret ws rm 0 0 n)
    (hrec : ∃ cellB : Cell, H[b]? = some cellB ∧ cellB.vm.isStatics = false ∧ s.vm.findClass C = some cellB.cls) (hKc : va_K D vwCl tc s) (hPc : va_P D vwCl wc H) (hn : As.length = n) (hsize : ls.size = nL) (hst : st = As.reverse ++ .ref b :: rest) (hroom : (rest.map fun v => v.category).sum ≤ 8) (hdg : decode cc pc = .ok (.invokevirtual index, 3)) (hcap : cells ≤ R.cells ∧ slots ≤ R.slots)
    (hP : va_P D vwCl wd H) (hS : va_S A s.heap H locs) (hA : ∀ q, s.heap.size ≤ q → A q) (hZT : hpS tH A s s.heap)
    (kk : ∀ (H1 : Heap) (locs1 : List Loc), va_P D vwCl wd H1 → va_S A s.heap H1 locs1 → W p l e R s m args below meth c H1 locs1 cells slots Q (F0 m (pc + 3) ls (.int v :: rest))) : W p l e R s m args below meth c H locs cells slots Q (F0 m pc ls st) := by
  refine va_calli (va_runV S hM cw ⟨blind_rs, hrec, fun U hU hW => ⟨rfl, by rw [hU], by rw [hU]; exact hPc, va_K.moved hW.alike hKc, by rw [hU]; exact ((hZT.kept hS.2.1).moved hW.alike).narrow (freeA hS hA)⟩⟩ rfl hn hsize hst (lv_room (m := m) (pc := pc) (ls := ls) (rest := st) hroom) hdg hcap) hS (fun q _ h => freeA hS hA q h) (freeA hS hA) (fun r u t H1 locs1 ht hvm hw hB hz hk hS1 => ?_)
  subst hw
  exact kk H1 locs1 (keptA hP hk) hS1
theorem rsV_l {v : Int64} (S : CallFix p m c cc nL s args Ts own) (hM : Met l y ws rm (rsP tH (.ref b :: As) H.size D tc wc) (roQl v H.size) 0 0 (va_A [] H.size)) (cw : CallW R s args own C index y bytes maxL ret ws rm 0 0 n)
    (hrec : ∃ cellB : Cell, H[b]? = some cellB ∧ cellB.vm.isStatics = false ∧ s.vm.findClass C = some cellB.cls) (hKc : va_K D vwCl tc s) (hPc : va_P D vwCl wc H) (hn : As.length = n) (hsize : ls.size = nL) (hst : st = As.reverse ++ .ref b :: rest) (hroom : (rest.map fun v => v.category).sum ≤ 8) (hdg : decode cc pc = .ok (.invokevirtual index, 3)) (hcap : cells ≤ R.cells ∧ slots ≤ R.slots)
    (hP : va_P D vwCl wd H) (hS : va_S A s.heap H locs) (hA : ∀ q, s.heap.size ≤ q → A q) (hZT : hpS tH A s s.heap)
    (kk : ∀ (H1 : Heap) (locs1 : List Loc), va_P D vwCl wd H1 → va_S A s.heap H1 locs1 → W p l e R s m args below meth c H1 locs1 cells slots Q (F0 m (pc + 3) ls (.long v :: rest))) : W p l e R s m args below meth c H locs cells slots Q (F0 m pc ls st) := by
  refine va_calll (va_runV S hM cw ⟨blind_rs, hrec, fun U hU hW => ⟨rfl, by rw [hU], by rw [hU]; exact hPc, va_K.moved hW.alike hKc, by rw [hU]; exact ((hZT.kept hS.2.1).moved hW.alike).narrow (freeA hS hA)⟩⟩ rfl hn hsize hst (lv_room (m := m) (pc := pc) (ls := ls) (rest := st) hroom) hdg hcap) hS (fun q _ h => freeA hS hA q h) (freeA hS hA) (fun r u t H1 locs1 ht hvm hw hB hz hk hS1 => ?_)
  subst hw
  exact kk H1 locs1 (keptA hP hk) hS1
theorem x_getph {own : String} (hx : p.tables.exec = Jvm.exec) (hb : c.code = cc) (hZT : hpS tH A s s.heap) (hS : va_S A s.heap H locs) (hown : s.vm.findClass own = some m.cls) (hlink : (Cond.fieldLink own index "StatueSquare$Ground" "PART_HEIGHTS" "[I").before args s = true) (hdg : decode cc pc = .ok (.getstatic index, 3))
    (kk : W p l e R s m args below meth c H locs cells slots Q (F0 m (pc + 3) ls (.ref tH :: rest))) : W p l e R s m args below meth c H locs cells slots Q (F0 m pc ls rest) := va_gets hx hb hZT.1 hS hown hlink (fun _ h => h) hdg kk
theorem x_phald (hx : p.tables.exec = Jvm.exec) (hb : c.code = cc) (hZT : hpS tH A s s.heap) (hS : va_S A s.heap H locs) {j : Nat} (hj : j < 4) (hdg : decode cc pc = .ok (.iaload, 1))
    (kk : W p l e R s m args below meth c H locs cells slots Q (F0 m (pc + 1) ls (.int (nI (1 + 2 * j)) :: rest))) : W p l e R s m args below meth c H locs cells slots Q (F0 m pc ls (.int (nI j) :: .ref tH :: rest)) := va_ti hx hb hZT.2 hS (vp_in_nI hj (by decide)) (by rw [nI_clamp (by omega)]; rfl) hdg kk
end CALLS
theorem pk_dec {k : Nat} (h : 0 < k) : nI k + Int32.ofInt (-1) = nI (k - 1) := sb_m1 h
theorem mod_b {a k N : Nat} (h : a < N) : a % k < N := Nat.lt_of_le_of_lt (Nat.mod_le _ _) h
