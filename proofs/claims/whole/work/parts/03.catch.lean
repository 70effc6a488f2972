/-! A THROW OF A NEW EXCEPTION WITH A WRITTEN TEXT; a catch, its class resolved or not yet. -/
theorem zt_same {s U : State} {k n : Nat} (h : s.sameButNew ({ U with vm := s.vm } : State) [] k n) : s.heap.size ≤ U.heap.size ∧ ∀ q : Nat, q < s.heap.size → U.heap[q]? = s.heap[q]? := by
  obtain ⟨-, h2, -, -, -, h6⟩ := h
  refine ⟨h2, fun q hq => ?_⟩
  obtain ⟨c', q1, q2, q3, q4⟩ := h6 q s.heap[q] (Array.getElem?_eq_getElem hq)
  have hs : c'.slots = s.heap[q].slots := Array.ext_getElem? fun i => q4 i (by simp)
  have hc : c' = s.heap[q] := by rw [q2, hs]
  rw [Array.getElem?_eq_getElem hq, ← hc]
  exact q1
/-- an exception of the class cls is under way: it is new, nothing old has changed -/
def zt_Th (cls : String) (st t : State) (x : Nat) : Prop := (∃ ce : Cell, t.heap[x]? = some ce ∧ ce.vm.isStatics = false ∧ t.vm.findClass cls = some ce.cls) ∧ st.heap.size ≤ t.heap.size ∧ ∀ q : Nat, q < st.heap.size → t.heap[q]? = st.heap[q]?
/-- Throwable's two statics hold references -/
def zt_St (U : State) : Prop := (Cond.isRef (.static Bundle.tN "UNASSIGNED_STACK" Bundle.steD)).before #[] U = true ∧ (Cond.isRef (.static Bundle.tN "SUPPRESSED_SENTINEL" Bundle.listD)).before #[] U = true
section ZTN
variable {p : Program} {l : Launch} {e : Env} {R : Room} {s : State} {m : MethodId} {args : Array Value} {below : List Frame} {meth : Method} {c : Code} {H : Heap} {cells slots : Nat} {Q : State → Prop}
theorem zt_new {Qc : Array Value → State → Outcome → State → Prop} {free : Addr → Prop} {cc : ByteArray} (hx : p.tables.exec = Jvm.exec) (hb : c.code = cc) (htr : e.platform.stackTraces = false) {own cls tx : String} {names : List String} {icl ik ic : Nat}
    (hown : s.vm.findClass own = some m.cls) (hcls : Bundle.fit cls = true) (hnames : ∀ n ∈ names, Bundle.fit n = true) (h : ∀ a ∈ Bundle.ownAtoms own ic cls names, a.before args s = true)
    (hcl : (Cond.classLink own icl cls).before args s = true) (hins : (Cond.instantiable cls 6).before args s = true) (hini : (Cond.initialized cls).before args s = true) (htx : (Cond.stringRef own ik tx).before args s = true)
    {pc : Nat} {ls : Array Slot} {nL : Nat} (hsz : ls.size = nL) (hml : c.maxLocals = nL) (hd0 : decode cc pc = .ok (.new icl, 3)) (hd3 : decode cc (pc + 3) = .ok (.dup, 1)) (hd4 : decode cc (pc + 3 + 1) = .ok (.ldc ik, 2)) (hd6 : decode cc (pc + 3 + 1 + 2) = .ok (.invokespecial ic, 3)) (hd9 : decode cc (pc + 3 + 1 + 2 + 3) = .ok (.athrow, 1))
    (hout : ∀ z ∈ c.exceptionTable.toList, ∀ pc, covers z pc = false) (hlocks : meth.locks = false) (hsH : H = s.heap)
    (hcells : cells + 1 ≤ R.cells) (hslots : slots + 6 ≤ R.slots) (hRf : names.length + 3 < R.frames) (hRl : 1 + (13 * (names.length + 1) + 42) ≤ R.locals)
    (hq : ∀ (x : Nat) (t : State), zt_Th cls s t x → s.WarmedH t.vm → Qc args s (.threw x) t) {mc ms : Nat} (hc1 : cells + 1 ≤ 1) (hs1 : slots + 6 ≤ 6) :
    W p l e R s m args below meth c H [] cells slots (ZQ below Qc args s mc ms free) (F0 m pc ls []) := by
  subst hsH
  refine W.newc hx hb hown hcl hins hini rfl hd0 hcells hslots (fun cC kC h1 h2 h3 h4 => ?_)
  refine lv_dup hx hb hd3 rfl ?_
  obtain ⟨k, cf, i, a', -, -, -, -, -, hev⟩ := Cond.stringRef_spec hown htx
  intro T hT X
  have hst : ∀ target, Steps p.tables e below (T.setTop (F0 m (pc + 3 + 1 + 2) ls (.ref a' :: .ref s.heap.size :: .ref s.heap.size :: []))) target → Steps p.tables e below (T.setTop (F0 m (pc + 3 + 1) ls (.ref s.heap.size :: .ref s.heap.size :: []))) target :=
    fun target h9 => X.ldcString hx hown htx hev (g := F0 m (pc + 3 + 1) ls (.ref s.heap.size :: .ref s.heap.size :: [])) rfl (by rw [hb]; exact hd4) target h9
  have hcell : T.heap[s.heap.size]? = some (freshCell cC kC) := by rw [hT]; simp [freshCell]
  obtain ⟨U, u1, u2, u3, u4, u5, ce, u6, u7⟩ := X.ctorThrowS hx htr (own := own) (cls := cls) (names := names) (ic := ic) hown hcls hnames h (fun x hx => by cases hx) h1 h2 hcell (Nat.le_refl _) (msg := .ref a') rfl
    (g := F0 m (pc + 3 + 1 + 2) ls (.ref a' :: .ref s.heap.size :: .ref s.heap.size :: [])) rfl (by rw [hml]; exact hsz) rfl rfl (rest := []) rfl (by rw [hb]; exact hd6) (by rw [hb]; exact hd9) (fun z hz => hout z hz _) hRf (by show 2 * 0 + 1 + _ ≤ _; omega) hlocks
  have hal : s.vm.Alike U.vm := u4.alike
  refine ⟨U, hst U u1, .threw s.heap.size, u2, u3, hq _ U ⟨⟨ce, u6, by rw [u7.vm]; rfl, by rw [hal.findClass]; exact u7.cls⟩, zt_same u5⟩ u4, [], ⟨u4, u5.mono hc1 hs1⟩, fun q h => by cases h⟩
end ZTN
section ZTK
variable {E : CtlPost} {e : Env} {d : Bool} {acts : List Action} {s : State} {f : JFrame} {a : Addr} {Q : Handler → Pre}
theorem zk_cold {x : ExceptionTableEntry} {t : List ExceptionTableEntry} {c : ClassId} {vm' : Vm} {cell : Cell} (hx : covers x f.pc = true) (h0 : x.catchType ≠ 0) (hg : (Jvm.resolveClass f.method.cls x.catchType).Gives e.toSetting s.vm (.ok c) vm') (hsz : vm'.classes.size ≤ s.vm.classes.size)
    (hcell : s.heap[a]? = some cell) (hobj : ∀ k, cell.vm ≠ .statics k) (hk : ∃ k, vm'.classes[cell.cls]? = some k) (hc : ∃ k, vm'.classes[c]? = some k) :
    wp (findHandler.go f a (x :: t)) Q E e d acts s ↔ if vm'.assignable cell.cls c = true then Q (.found x.handlerPc) d acts (s.setVm vm') else wp (findHandler.go f a t) Q E e d acts (s.setVm vm') := by
  obtain ⟨ha, ht⟩ := hg.op (op := VmOp.resolveClass f.method.cls x.catchType) rfl
  simp only [covers] at hx
  cases hfit : vm'.assignable cell.cls c <;>
    simp [findHandler.go, hx, h0, ha, ht, hsz, hcell, hobj, hk, hc, hfit, VmOp.dirties, VmOp.acts]
theorem zk_step {s' : State} {r : List Frame} {pc : Nat} (hfind : ∀ (Q : Handler → Pre) (E : CtlPost) (d : Bool) (acts : List Action), wp (findHandler f a) Q E e d acts s ↔ Q (.found pc) d acts s') :
    (stepThrowing e s a (.java f :: r)).Is (s'.setFrames (.java { f with pc := pc, stack := [.ref a] } :: r)) [] := by
  simp only [stepThrowing, searchFrame, vmDo]
  generalize hr : Sem.go _ e false [] s = res
  obtain ⟨as, rfl, ha⟩ := Sem.eq_ok_of hr (a := Handler.found pc) (s' := s') (acts' := []) (by simp [hfind _ _ _ _])
  exact ⟨rfl, ha⟩
end ZTK
theorem zk_caught {tb : Tables} {e : Env} {s target : State} {g : JFrame} {c : Code} {below : List Frame} {a : Addr} (h : At s g.method c below) {vm' : Vm} {pc : Nat}
    (hfind : ∀ (Q : Handler → Pre) (E : CtlPost) (d : Bool) (acts : List Action), wp (findHandler g a) Q E e d acts ((s.setTop g).pushFrame (.throwing a)) ↔ Q (.found pc) d acts (((s.setTop g).pushFrame (.throwing a)).setVm vm'))
    (hrest : Steps tb e below ((s.setVm vm').setTop { g with pc := pc, stack := [.ref a] }) target) : Steps tb e below ((s.setTop g).pushFrame (.throwing a)) target := by
  obtain ⟨hgo, hw⟩ := h.throwing a
  refine Steps.head hgo hw ?_
  rw [stepThread_throwing (frames_entered h.top _), (zk_step hfind).1]
  obtain ⟨g₀, hg⟩ := Option.isSome_iff_exists.mp h.top
  obtain ⟨r, hr⟩ := State.topJava?_eq_some.mp hg
  have hr' : (s.setVm vm').frames = .java g₀ :: r := hr
  rw [State.setTop_of_frames _ hr'] at hrest
  have e1 : (((s.setTop g).pushFrame (.throwing a)).setVm vm').setFrames (.java { g with pc := pc, stack := [.ref a] } :: s.frames.tail) = (s.setVm vm').setFrames (.java { g with pc := pc, stack := [.ref a] } :: r) := by
    rw [hr, State.pushFrame, State.setTop_of_frames _ hr, State.setFrames_setFrames]
    show ((s.setFrames _).setFrames _).setVm vm' = _
    rw [State.setFrames_setFrames]
    rfl
  rw [e1]
  exact hrest
section ZTL
variable {p : Program} {l : Launch} {e : Env} {R : Room} {s : State} {m : MethodId} {args : Array Value} {below : List Frame} {meth : Method} {c : Code} {H : Heap} {locs : List Loc} {cells slots : Nat} {Q : State → Prop}
/-- the first entry of the table takes it -/
theorem zk_catch1 {own nm : String} {x pc hp ct sp ep : Nat} {hs : List (Nat × Nat × Nat × Nat)} {ls : Array Slot} {st : List Value} (hown : s.vm.findClass own = some m.cls) (htab : c.exceptionTable.toList.map (fun h => (h.startPc, h.endPc, h.handlerPc, h.catchType)) = (sp, ep, hp, ct) :: hs)
    (hcov : (decide (sp ≤ pc) && decide (pc < ep)) = true) (hct : ct ≠ 0) (hlink : (Cond.classLink own ct nm).before args s = true) (hr : ∃ cell : Cell, H[x]? = some cell ∧ cell.vm.isStatics = false ∧ s.vm.findClass nm = some cell.cls)
    (kk : W p l e R s m args below meth c H locs cells slots Q (F0 m hp ls [.ref x])) : WT p l e R s m args below meth c H locs cells slots Q (F0 m pc ls st) x := by
  intro T hT X
  obtain ⟨cell, h1, h2, h3⟩ := hr
  have hpl : e.platform.magicAccessors = ({} : Platform).magicAccessors := by rw [X.admits.platform]
  obtain ⟨c', hc', hcl⟩ := Cond.classLink_spec hown hlink e.platform hpl
  cases h3.symm.trans hc'
  obtain ⟨dk, _, _, kt, hd, _, _, _, _, hkt, _, hopen⟩ := hcl.here
  have hcl₀ := X.warmed.classLinks hcl
  have hW' : s.WarmedH (T.vm.noted m.cls ct (.cls cell.cls)) := X.warmed.noted hd hopen (State.rightAt_cls hcl)
  obtain ⟨kt', hkt', -⟩ := hW'.alike.2.2 _ _ hkt
  obtain ⟨t, a1, b1⟩ := kk (T.setVm (T.vm.noted m.cls ct (.cls cell.cls))) hT (X.noted hW')
  refine ⟨t, ?_, b1⟩
  refine zk_caught (g := F0 m pc ls st) X.here (vm' := T.vm.noted m.cls ct (.cls cell.cls)) (pc := hp) ?_ a1
  intro Q' E d acts
  cases htl : c.exceptionTable.toList with
  | nil => rw [htl] at htab; cases htab
  | cons z zs =>
    rw [htl, List.map_cons, List.cons.injEq] at htab
    obtain ⟨hz, -⟩ := htab
    simp only [Prod.mk.injEq] at hz
    obtain ⟨z1, z2, z3, z4⟩ := hz
    subst z1; subst z2; subst z3; subst z4
    rw [W.findHandler_eq (meth := meth) (code := c) X.method' X.code, htl]
    rw [zk_cold (c := cell.cls) (cell := cell) (vm' := T.vm.noted m.cls z.catchType (.cls cell.cls)) hcov hct (resolveClass_links e.toSetting hcl₀) (by show (T.vm.noted m.cls z.catchType (.cls cell.cls)).classes.size ≤ T.vm.classes.size; simp [Vm.noted]) (by show T.heap[x]? = _; rw [hT]; exact h1) (VmData.ne_statics_of h2) ⟨kt', hkt'⟩ ⟨kt', hkt'⟩, if_pos (va_asg _ _)]
/-- the first entry lets it pass, the second takes it -/
theorem zk_catch2 {own nm nm1 : String} {x pc hp ct sp ep hp1 ct1 sp1 ep1 : Nat} {hs : List (Nat × Nat × Nat × Nat)} {ls : Array Slot} {st : List Value} (hown : s.vm.findClass own = some m.cls) (htab : c.exceptionTable.toList.map (fun h => (h.startPc, h.endPc, h.handlerPc, h.catchType)) = (sp1, ep1, hp1, ct1) :: (sp, ep, hp, ct) :: hs)
    (hcov1 : (decide (sp1 ≤ pc) && decide (pc < ep1)) = true) (hct1 : ct1 ≠ 0) (hlink1 : (Cond.classLink own ct1 nm1).before args s = true) (hnc : va_Nc nm nm1 s)
    (hcov : (decide (sp ≤ pc) && decide (pc < ep)) = true) (hct : ct ≠ 0) (hlink : (Cond.classLink own ct nm).before args s = true) (hr : ∃ cell : Cell, H[x]? = some cell ∧ cell.vm.isStatics = false ∧ s.vm.findClass nm = some cell.cls)
    (kk : W p l e R s m args below meth c H locs cells slots Q (F0 m hp ls [.ref x])) : WT p l e R s m args below meth c H locs cells slots Q (F0 m pc ls st) x := by
  intro T hT X
  obtain ⟨cell, h1, h2, h3⟩ := hr
  have hpl : e.platform.magicAccessors = ({} : Platform).magicAccessors := by rw [X.admits.platform]
  obtain ⟨cn, c1, f1, f2, f3⟩ := hnc
  cases h3.symm.trans f1
  obtain ⟨c1', hc1', hcl1⟩ := Cond.classLink_spec hown hlink1 e.platform hpl
  cases f2.symm.trans hc1'
  obtain ⟨c', hc', hcl⟩ := Cond.classLink_spec hown hlink e.platform hpl
  cases h3.symm.trans hc'
  obtain ⟨dk1, _, _, kt1, hd1, _, _, _, _, hkt1, _, hopen1⟩ := hcl1.here
  obtain ⟨dk, _, _, kt, hd, _, _, _, _, hkt, _, hopen⟩ := hcl.here
  have hcl₁ := X.warmed.classLinks hcl1
  have hW1 : s.WarmedH (T.vm.noted m.cls ct1 (.cls c1)) := X.warmed.noted hd1 hopen1 (State.rightAt_cls hcl1)
  have hcl₀ := hW1.classLinks hcl
  have hW' : s.WarmedH ((T.vm.noted m.cls ct1 (.cls c1)).noted m.cls ct (.cls cell.cls)) := hW1.noted hd hopen (State.rightAt_cls hcl)
  obtain ⟨kt', hkt', -⟩ := hW'.alike.2.2 _ _ hkt
  obtain ⟨ka, hka, -⟩ := hW1.alike.2.2 _ _ hkt
  obtain ⟨kb, hkb, -⟩ := hW1.alike.2.2 _ _ hkt1
  have hno : (T.vm.noted m.cls ct1 (.cls c1)).assignable cell.cls c1 = false := by rw [hW1.alike.assignable]; exact f3
  obtain ⟨t, a1, b1⟩ := kk (T.setVm ((T.vm.noted m.cls ct1 (.cls c1)).noted m.cls ct (.cls cell.cls))) hT (X.noted hW')
  refine ⟨t, ?_, b1⟩
  refine zk_caught (g := F0 m pc ls st) X.here (vm' := (T.vm.noted m.cls ct1 (.cls c1)).noted m.cls ct (.cls cell.cls)) (pc := hp) ?_ a1
  intro Q' E d acts
  cases htl : c.exceptionTable.toList with
  | nil => rw [htl] at htab; cases htab
  | cons z zs =>
    cases zs with
    | nil => rw [htl] at htab; cases htab
    | cons w ws =>
      rw [htl, List.map_cons, List.map_cons, List.cons.injEq, List.cons.injEq] at htab
      obtain ⟨hz, hw, -⟩ := htab
      simp only [Prod.mk.injEq] at hz hw
      obtain ⟨z1, z2, z3, z4⟩ := hz
      obtain ⟨w1, w2, w3, w4⟩ := hw
      subst z1; subst z2; subst z3; subst z4; subst w1; subst w2; subst w3; subst w4
      rw [W.findHandler_eq (meth := meth) (code := c) X.method' X.code, htl]
      rw [zk_cold (c := c1) (cell := cell) (vm' := T.vm.noted m.cls z.catchType (.cls c1)) hcov1 hct1 (resolveClass_links e.toSetting hcl₁) (by show (T.vm.noted m.cls z.catchType (.cls c1)).classes.size ≤ T.vm.classes.size; simp [Vm.noted]) (by show T.heap[x]? = _; rw [hT]; exact h1) (VmData.ne_statics_of h2) ⟨ka, hka⟩ ⟨kb, hkb⟩, if_neg (by rw [hno]; decide)]
      rw [zk_cold (c := cell.cls) (cell := cell) (vm' := (T.vm.noted m.cls z.catchType (.cls c1)).noted m.cls w.catchType (.cls cell.cls)) hcov hct (resolveClass_links e.toSetting hcl₀) (by show ((T.vm.noted m.cls z.catchType (.cls c1)).noted m.cls w.catchType (.cls cell.cls)).classes.size ≤ (T.vm.noted m.cls z.catchType (.cls c1)).classes.size; simp [Vm.noted]) (by show T.heap[x]? = _; rw [hT]; exact h1) (VmData.ne_statics_of h2) ⟨kt', hkt'⟩ ⟨kt', hkt'⟩, if_pos (va_asg _ _)]
      rfl
end ZTL
