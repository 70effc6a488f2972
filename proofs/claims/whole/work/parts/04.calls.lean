/-! CALLS, with the one list of words; what a method starts from -/
def zw (y : MethodName) (b : ByteArray) (n : Nat) (r : Option FieldType) : List Cond := Cond.code y b n r :: BG
def zwW (y : MethodName) (b : ByteArray) (n : Nat) (r : Option FieldType) (hh : List (Nat × Nat × Nat × Nat)) : List Cond := Cond.codeWith y b n r hh :: BG
theorem zw_pay {args : Array Value} {s : State} {c0 : Cond} (htB : ∀ w ∈ BG, w.before args s = true) (hc : c0 ∈ BG) : ∀ w ∈ c0 :: BG, ∀ (a' : Array Value) (U : State), s.WarmedH U.vm → w.before a' U = true := by
  intro w hw a' U hW
  have h : w ∈ BG := (List.mem_cons.mp hw).elim (fun e => e ▸ hc) id
  exact zw_move hW (List.all_eq_true.mp BG_all w h) (htB w h)
def zB (D : va_G) (ws : va_W) (tys : List (ClassId × FieldType)) (U : State) : Prop := va_P D vwCl ws U.heap ∧ va_K D vwCl tys U
def zPre (As : List Value) (D : va_G) (ws : va_W) (tys : List (ClassId × FieldType)) : Array Value → State → Prop := va_Pc As (zB D ws tys)
theorem zPre_blind {As : List Value} {D : va_G} {ws : va_W} {tys : List (ClassId × FieldType)} : FrameBlind (zPre As D ws tys) := fun a U g mk q => ⟨q.1, q.2.1, va_K.moved (u := U) (U := U.calling g mk a) (Vm.Alike.refl U.vm) q.2.2⟩
theorem zPre_ok {As : List Value} {D : va_G} {ws : va_W} {tys : List (ClassId × FieldType)} {s : State} {H : Heap} (hP : va_P D vwCl ws H) (hK : va_K D vwCl tys s) : ∀ U : State, U.heap = H → s.WarmedH U.vm → zPre As D ws tys As.toArray U :=
  fun U hU hW => ⟨rfl, by rw [hU]; exact hP, va_K.moved hW.alike hK⟩
/-- Throwable's two statics: they lie there, and hold references -/
def zt_S4 (U : State) : Prop := (Cond.isRef (.static Bundle.tN "UNASSIGNED_STACK" Bundle.steD)).before #[] U = true ∧ (Cond.isRef (.static Bundle.tN "SUPPRESSED_SENTINEL" Bundle.listD)).before #[] U = true ∧
  (Cond.laysStatic Bundle.tN "UNASSIGNED_STACK" Bundle.steD).before #[] U = true ∧ (Cond.laysStatic Bundle.tN "SUPPRESSED_SENTINEL" Bundle.listD).before #[] U = true
theorem zt_ref {C n d : String} {A : Nat → Prop} {s : State} {args : Array Value} (h : va_Zq C n d A s s.heap) : (Cond.isRef (.static C n d)).before args s = true := by
  have key : ∀ v : Value, v.isRef = true → va_Z C n d v A s s.heap → (Cond.isRef (.static C n d)).before args s = true := by
    intro v hv h
    obtain ⟨cf, kf, fi, f, a, cell, h1, h2, h3, h4, h5, h6, h7, -⟩ := h
    have he : (Term.static C n d).eval args s none [] s = some v := by
      simp [Term.eval, State.fieldNamed?, h1, h2, h4, h5, h6, h7]
    simp only [Cond.before, Cond.holds, Cond.value, he]
    cases v <;> simp_all [Value.isRef]
  rcases h with h | ⟨t, h⟩
  · exact key _ rfl h
  · exact key _ rfl h
theorem zt_lays {C n d : String} {s U : State} {a a' : Array Value} (h : (Cond.laysStatic C n d).before a s = true) (hal : s.vm.Alike U.vm) (hq : ∀ q : Nat, q < s.heap.size → U.heap[q]? = s.heap[q]?) : (Cond.laysStatic C n d).before a' U = true := by
  obtain ⟨c, k, i, f, ad, cell, h1, h2, h3, h4, h5, h6, h7, h8, h9⟩ := Cond.laysStatic_spec h
  obtain ⟨k', hi', he⟩ := State.fieldFound?_setVm hal h2
  show (Cond.laysStatic C n d).holds a' U none U [] = true
  exact Cond.laysStatic_of (by rw [hal.findClass]; exact h1) hi' h3 (by rw [he]; exact h4) (by rw [hq ad (Array.getElem?_eq_some_iff.mp h5).1]; exact h5) h6 h7 h8 (by rw [he]; exact h9)
theorem zt_stat {C n d : String} {s U : State} {a a' : Array Value} (hi : (Cond.initialized C).before a s = true) (hl : (Cond.laysStatic C n d).before a s = true) (h : (Cond.isRef (.static C n d)).before a s = true) (hal : s.vm.Alike U.vm) (hq : ∀ q : Nat, q < s.heap.size → U.heap[q]? = s.heap[q]?) : (Cond.isRef (.static C n d)).before a' U = true := by
  have h1 : va_Zq C n d (fun _ => False) s s.heap := va_Zqof hl hi h (fun _ _ h => h)
  have h2 : va_Zq C n d (fun _ => False) U s.heap := va_Zq.moved hal h1
  exact zt_ref (va_Zq.kept h2 (fun q hlt _ => hq q hlt))
theorem zt_kept {s U : State} {a : Array Value} (hi : (Cond.initialized Bundle.tN).before a s = true) (h : zt_S4 s) (hal : s.vm.Alike U.vm) (hq : ∀ q : Nat, q < s.heap.size → U.heap[q]? = s.heap[q]?) : zt_S4 U :=
  ⟨zt_stat (a := #[]) hi h.2.2.1 h.1 hal hq, zt_stat (a := #[]) hi h.2.2.2 h.2.1 hal hq, zt_lays h.2.2.1 hal hq, zt_lays h.2.2.2 hal hq⟩
def zPreT (As : List Value) (D : va_G) (ws : va_W) (tys : List (ClassId × FieldType)) : Array Value → State → Prop := va_Pc As (fun U => zB D ws tys U ∧ zt_S4 U)
theorem zPreT_blind {As : List Value} {D : va_G} {ws : va_W} {tys : List (ClassId × FieldType)} : FrameBlind (zPreT As D ws tys) := fun a U g mk q => ⟨q.1, ⟨q.2.1.1, va_K.moved (u := U) (U := U.calling g mk a) (Vm.Alike.refl U.vm) q.2.1.2⟩, q.2.2⟩
theorem zm_init : Cond.initialized Bundle.tN ∈ BG := by decide +kernel
theorem zPreT_ok {As : List Value} {D : va_G} {ws : va_W} {tys : List (ClassId × FieldType)} {s : State} {args : Array Value} {H : Heap} (htB : ∀ w ∈ BG, w.before args s = true) (hP : va_P D vwCl ws H) (hK : va_K D vwCl tys s) (hSt : zt_S4 s) (hq : ∀ q : Nat, q < s.heap.size → H[q]? = s.heap[q]?) : ∀ U : State, U.heap = H → s.WarmedH U.vm → zPreT As D ws tys As.toArray U :=
  fun U hU hW => ⟨rfl, ⟨by rw [hU]; exact hP, va_K.moved hW.alike hK⟩, zt_kept (htB _ zm_init) hSt hW.alike (fun q h => by rw [hU]; exact hq q h)⟩
/-- the words of a throw of cls, by the two lists -/
def zt_is4 (w : Cond) : Bool := decide (w = .isRef (.static Bundle.tN "UNASSIGNED_STACK" Bundle.steD)) || decide (w = .isRef (.static Bundle.tN "SUPPRESSED_SENTINEL" Bundle.listD)) || decide (w = .laysStatic Bundle.tN "UNASSIGNED_STACK" Bundle.steD) || decide (w = .laysStatic Bundle.tN "SUPPRESSED_SENTINEL" Bundle.listD)
theorem zt_words {L : List Cond} {args : Array Value} {s : State} (h : L.all (fun w => zt_is4 w || decide (w ∈ BG)) = true) (htB : ∀ w ∈ BG, w.before args s = true) (hSt : zt_S4 s) : ∀ a ∈ L, a.before args s = true := by
  intro w hw
  have h1 := List.all_eq_true.mp h w hw
  simp only [zt_is4, Bool.or_eq_true, decide_eq_true_eq] at h1
  rcases h1 with (((h1 | h1) | h1) | h1) | h1
  · rw [h1]; exact hSt.1
  · rw [h1]; exact hSt.2.1
  · rw [h1]; exact zt_lays hSt.2.2.1 (Vm.Alike.refl s.vm) (fun _ _ => rfl)
  · rw [h1]; exact zt_lays hSt.2.2.2 (Vm.Alike.refl s.vm) (fun _ _ => rfl)
  · exact htB w h1
def zIAE : String := "java/lang/IllegalArgumentException"
def zISE : String := "java/lang/IllegalStateException"
def zUp : List String := ["java/lang/RuntimeException", "java/lang/Exception"]
section ZR
variable {p : Program} {l : Launch} {e : Env} {R : Room} {s : State} {m : MethodId} {args : Array Value} {below : List Frame} {meth : Method} {c : Code} {H : Heap} {locs : List Loc} {cells slots : Nat} {Q : State → Prop}
variable {y : MethodName} {b cc : ByteArray} {maxL nL mc ms n index : Nat} {ret : Option FieldType} {rm : Room} {Qc : Array Value → State → Outcome → State → Prop} {free : Addr → Prop} {own C host : String} {o : Addr} {As rest : List Value} {g : JFrame} {D : va_G} {ws : va_W} {tys : List (ClassId × FieldType)}
theorem zc_B (htB : ∀ w ∈ BG, w.before args s = true) (hc : Cond.code y b maxL ret ∈ BG) (hl : Cond.methodLink own index y ∈ BG) (hi : Cond.initialized y.cls ∈ BG) (hrc : rm.cells = mc) (hrs : rm.slots = ms)
    (hd : y.cls ≠ "java/lang/invoke/MethodHandle" ∧ y.cls ≠ "java/lang/invoke/VarHandle" ∧ (parseMethodDescriptor y.desc).map (fun d => d.parameters.length) = some n) (hR : rm.frames + 1 ≤ R.frames ∧ 8 + (maxL + 11) + rm.locals ≤ R.locals) : CallB R s args own index y b maxL ret (zw y b maxL ret) rm mc ms n :=
  ⟨hrc, hrs, hR.1, hR.2, zw_pay htB hc, List.mem_cons_self, htB _ hc, htB _ hi, ⟨hd.1, hd.2.1⟩, fun sig h => by have h2 := hd.2.2; rw [h] at h2; exact (Option.some.inj h2).symm, htB _ hl⟩
theorem zc_N (htB : ∀ w ∈ BG, w.before args s = true) (hc : Cond.code y b maxL ret ∈ BG) (hl : Cond.methodLinkNest own index y host ∈ BG) (hi : Cond.initialized y.cls ∈ BG) (hrc : rm.cells = mc) (hrs : rm.slots = ms)
    (hd : y.cls ≠ "java/lang/invoke/MethodHandle" ∧ y.cls ≠ "java/lang/invoke/VarHandle" ∧ (parseMethodDescriptor y.desc).map (fun d => d.parameters.length) = some n) (hR : rm.frames + 1 ≤ R.frames ∧ 8 + (maxL + 11) + rm.locals ≤ R.locals) : va_CN R s args own index y host b maxL ret (zw y b maxL ret) rm mc ms n :=
  ⟨⟨hrc, hrs, hR.1, hR.2, zw_pay htB hc, List.mem_cons_self⟩, htB _ hc, htB _ hi, ⟨hd.1, hd.2.1⟩, fun sig h => by have h2 := hd.2.2; rw [h] at h2; exact (Option.some.inj h2).symm, htB _ hl⟩
theorem zr_S (S : CallFix p m c cc nL s args BG own) (hM : Met l y (zw y b maxL ret) rm (zPre As D ws tys) Qc mc ms free) (hc : Cond.code y b maxL ret ∈ BG) (hl : Cond.methodLink own index y ∈ BG) (hst : Cond.static y ∈ BG) (hi : Cond.initialized y.cls ∈ BG) (hrc : rm.cells = mc) (hrs : rm.slots = ms)
    (hd : y.cls ≠ "java/lang/invoke/MethodHandle" ∧ y.cls ≠ "java/lang/invoke/VarHandle" ∧ (parseMethodDescriptor y.desc).map (fun d => d.parameters.length) = some n) (hR : rm.frames + 1 ≤ R.frames ∧ 8 + (maxL + 11) + rm.locals ≤ R.locals) (hP : va_P D vwCl ws H) (hK : va_K D vwCl tys s)
    (hg : g.method = m) (hn : As.length = n) (hsize : g.locals.size = nL) (hstack : g.stack = As.reverse ++ rest) (hW : 2 * g.monitorRoom + (rest.map fun v => v.category).sum ≤ 8) (hdg : decode cc g.pc = .ok (.invokestatic index, 3)) (hf : cells + mc ≤ R.cells ∧ slots + ms ≤ R.slots) :
    va_Run p l e R s m args below meth c H locs cells slots mc ms g rest (Qc As.toArray) free :=
  va_runS S hM ⟨zc_B S.2.2.2.2 hc hl hi hrc hrs hd hR, S.2.2.2.2 _ hst⟩ ⟨zPre_blind, zPre_ok hP hK⟩ hg hn hsize hstack hW hdg hf
theorem zr_SN (S : CallFix p m c cc nL s args BG own) (hM : Met l y (zw y b maxL ret) rm (zPre As D ws tys) Qc mc ms free) (hc : Cond.code y b maxL ret ∈ BG) (hl : Cond.methodLinkNest own index y host ∈ BG) (hst : Cond.static y ∈ BG) (hi : Cond.initialized y.cls ∈ BG) (hrc : rm.cells = mc) (hrs : rm.slots = ms)
    (hd : y.cls ≠ "java/lang/invoke/MethodHandle" ∧ y.cls ≠ "java/lang/invoke/VarHandle" ∧ (parseMethodDescriptor y.desc).map (fun d => d.parameters.length) = some n) (hR : rm.frames + 1 ≤ R.frames ∧ 8 + (maxL + 11) + rm.locals ≤ R.locals) (hP : va_P D vwCl ws H) (hK : va_K D vwCl tys s)
    (hg : g.method = m) (hn : As.length = n) (hsize : g.locals.size = nL) (hstack : g.stack = As.reverse ++ rest) (hW : 2 * g.monitorRoom + (rest.map fun v => v.category).sum ≤ 8) (hdg : decode cc g.pc = .ok (.invokestatic index, 3)) (hf : cells + mc ≤ R.cells ∧ slots + ms ≤ R.slots) :
    va_Run p l e R s m args below meth c H locs cells slots mc ms g rest (Qc As.toArray) free :=
  va_runSN S hM ⟨zc_N S.2.2.2.2 hc hl hi hrc hrs hd hR, S.2.2.2.2 _ hst, trivial⟩ ⟨zPre_blind, zPre_ok hP hK⟩ hg hn hsize hstack hW hdg hf
theorem zr_V {ci : Nat} {q : vw_C} {fs : List Value} {wr : va_W} (S : CallFix p m c cc nL s args BG own) (hM : Met l y (zw y b maxL ret) rm (zPre (.ref o :: As) D ((o, .inr (ci, fs)) :: wr) tys) Qc mc ms free) (hc : Cond.code y b maxL ret ∈ BG) (hl : Cond.methodLink own index y ∈ BG) (hin : Cond.instanceMethod y ∈ BG) (hse : Cond.selects q.1 y y ∈ BG) (hi : Cond.initialized y.cls ∈ BG) (hrc : rm.cells = mc) (hrs : rm.slots = ms)
    (hd : y.cls ≠ "java/lang/invoke/MethodHandle" ∧ y.cls ≠ "java/lang/invoke/VarHandle" ∧ (parseMethodDescriptor y.desc).map (fun d => d.parameters.length) = some n) (hR : rm.frames + 1 ≤ R.frames ∧ 8 + (maxL + 11) + rm.locals ≤ R.locals) (hP : va_P D vwCl ((o, .inr (ci, fs)) :: wr) H) (hK : va_K D vwCl tys s) (hci : vwCl[ci]? = some q)
    (hg : g.method = m) (hn : As.length = n) (hsize : g.locals.size = nL) (hstack : g.stack = As.reverse ++ .ref o :: rest) (hW : 2 * g.monitorRoom + (rest.map fun v => v.category).sum ≤ 8) (hdg : decode cc g.pc = .ok (.invokevirtual index, 3)) (hf : cells + mc ≤ R.cells ∧ slots + ms ≤ R.slots) :
    va_Run p l e R s m args below meth c H locs cells slots mc ms g rest (Qc (Value.ref o :: As).toArray) free :=
  va_runV (C := q.1) S hM ⟨zc_B S.2.2.2.2 hc hl hi hrc hrs hd hR, S.2.2.2.2 _ hin, S.2.2.2.2 _ hse⟩ ⟨zPre_blind, va_recv hK hP hci (q0 := 0) rfl, zPre_ok hP hK⟩ hg hn hsize hstack hW hdg hf
theorem zr_I (S : CallFix p m c cc nL s args BG own) (hM : Met l y (zw y b maxL none) rm (zPre (.ref o :: As) D ws tys) Qc mc ms free) (hc : Cond.code y b maxL none ∈ BG) (hl : Cond.methodLink own index y ∈ BG) (hin : Cond.instanceMethod y ∈ BG) (hnm : y.name = "<init>") (hi : Cond.initialized y.cls ∈ BG) (hrc : rm.cells = mc) (hrs : rm.slots = ms)
    (hd : y.cls ≠ "java/lang/invoke/MethodHandle" ∧ y.cls ≠ "java/lang/invoke/VarHandle" ∧ (parseMethodDescriptor y.desc).map (fun d => d.parameters.length) = some n) (hR : rm.frames + 1 ≤ R.frames ∧ 8 + (maxL + 11) + rm.locals ≤ R.locals) (hP : va_P D vwCl ws H) (hK : va_K D vwCl tys s)
    (hg : g.method = m) (hn : As.length = n) (hsize : g.locals.size = nL) (hstack : g.stack = As.reverse ++ .ref o :: rest) (hW : 2 * g.monitorRoom + (rest.map fun v => v.category).sum ≤ 8) (hdg : decode cc g.pc = .ok (.invokespecial index, 3)) (hf : cells + mc ≤ R.cells ∧ slots + ms ≤ R.slots) :
    va_Run p l e R s m args below meth c H locs cells slots mc ms g rest (Qc (Value.ref o :: As).toArray) free :=
  va_runI S hM ⟨zc_B S.2.2.2.2 hc hl hi hrc hrs hd hR, hnm, S.2.2.2.2 _ hin⟩ ⟨zPre_blind, zPre_ok hP hK⟩ hg hn hsize hstack hW hdg hf
theorem zr_IN (S : CallFix p m c cc nL s args BG own) (hM : Met l y (zw y b maxL none) rm (zPre (.ref o :: As) D ws tys) Qc mc ms free) (hc : Cond.code y b maxL none ∈ BG) (hl : Cond.methodLinkNest own index y host ∈ BG) (hin : Cond.instanceMethod y ∈ BG) (hnm : y.name = "<init>") (hi : Cond.initialized y.cls ∈ BG) (hrc : rm.cells = mc) (hrs : rm.slots = ms)
    (hd : y.cls ≠ "java/lang/invoke/MethodHandle" ∧ y.cls ≠ "java/lang/invoke/VarHandle" ∧ (parseMethodDescriptor y.desc).map (fun d => d.parameters.length) = some n) (hR : rm.frames + 1 ≤ R.frames ∧ 8 + (maxL + 11) + rm.locals ≤ R.locals) (hP : va_P D vwCl ws H) (hK : va_K D vwCl tys s)
    (hg : g.method = m) (hn : As.length = n) (hsize : g.locals.size = nL) (hstack : g.stack = As.reverse ++ .ref o :: rest) (hW : 2 * g.monitorRoom + (rest.map fun v => v.category).sum ≤ 8) (hdg : decode cc g.pc = .ok (.invokespecial index, 3)) (hf : cells + mc ≤ R.cells ∧ slots + ms ≤ R.slots) :
    va_Run p l e R s m args below meth c H locs cells slots mc ms g rest (Qc (Value.ref o :: As).toArray) free :=
  va_runIN S hM ⟨zc_N S.2.2.2.2 hc hl hi hrc hrs hd hR, hnm, S.2.2.2.2 _ hin⟩ ⟨zPre_blind, zPre_ok hP hK⟩ hg hn hsize hstack hW hdg hf
/-- calls of methods that may throw -/
theorem zr_TS (S : CallFix p m c cc nL s args BG own) (hM : MetT l y (zw y b maxL ret) rm (zPreT As D ws tys) Qc mc ms free) (hc : Cond.code y b maxL ret ∈ BG) (hl : Cond.methodLink own index y ∈ BG) (hst : Cond.static y ∈ BG) (hi : Cond.initialized y.cls ∈ BG)
    (hd : y.cls ≠ "java/lang/invoke/MethodHandle" ∧ y.cls ≠ "java/lang/invoke/VarHandle" ∧ (parseMethodDescriptor y.desc).map (fun d => d.parameters.length) = some n) (hR : rm.frames + 1 ≤ R.frames ∧ 8 + (maxL + 11) + rm.locals ≤ R.locals) (hP : va_P D vwCl ws H) (hK : va_K D vwCl tys s) (hSt : zt_S4 s) (hq : ∀ q : Nat, q < s.heap.size → H[q]? = s.heap[q]?)
    (hg : g.method = m) (hn : As.length = n) (hsize : g.locals.size = nL) (hstack : g.stack = As.reverse ++ rest) (hW : 2 * g.monitorRoom + (rest.map fun v => v.category).sum ≤ 8) (hdg : decode cc g.pc = .ok (.invokestatic index, 3)) (hf : cells + rm.cells ≤ R.cells ∧ slots + rm.slots ≤ R.slots) :
    zt_Run p l e R s m args below meth c H locs cells slots mc ms g rest (Qc As.toArray) free :=
  zt_runS S hM ⟨zc_B S.2.2.2.2 hc hl hi rfl rfl hd hR, S.2.2.2.2 _ hst⟩ ⟨zPreT_blind, zPreT_ok S.2.2.2.2 hP hK hSt hq⟩ hg hn hsize hstack hW hdg hf
theorem zr_TV {ci : Nat} {q : vw_C} {fs : List Value} {wr : va_W} (S : CallFix p m c cc nL s args BG own) (hM : MetT l y (zw y b maxL ret) rm (zPreT (.ref o :: As) D ((o, .inr (ci, fs)) :: wr) tys) Qc mc ms free) (hc : Cond.code y b maxL ret ∈ BG) (hl : Cond.methodLink own index y ∈ BG) (hin : Cond.instanceMethod y ∈ BG) (hse : Cond.selects q.1 y y ∈ BG) (hi : Cond.initialized y.cls ∈ BG)
    (hd : y.cls ≠ "java/lang/invoke/MethodHandle" ∧ y.cls ≠ "java/lang/invoke/VarHandle" ∧ (parseMethodDescriptor y.desc).map (fun d => d.parameters.length) = some n) (hR : rm.frames + 1 ≤ R.frames ∧ 8 + (maxL + 11) + rm.locals ≤ R.locals) (hP : va_P D vwCl ((o, .inr (ci, fs)) :: wr) H) (hK : va_K D vwCl tys s) (hSt : zt_S4 s) (hq : ∀ q : Nat, q < s.heap.size → H[q]? = s.heap[q]?) (hci : vwCl[ci]? = some q)
    (hg : g.method = m) (hn : As.length = n) (hsize : g.locals.size = nL) (hstack : g.stack = As.reverse ++ .ref o :: rest) (hW : 2 * g.monitorRoom + (rest.map fun v => v.category).sum ≤ 8) (hdg : decode cc g.pc = .ok (.invokevirtual index, 3)) (hf : cells + rm.cells ≤ R.cells ∧ slots + rm.slots ≤ R.slots) :
    zt_Run p l e R s m args below meth c H locs cells slots mc ms g rest (Qc (Value.ref o :: As).toArray) free :=
  zt_runV (C := q.1) S hM ⟨zc_B S.2.2.2.2 hc hl hi rfl rfl hd hR, S.2.2.2.2 _ hin, S.2.2.2.2 _ hse⟩ ⟨zPreT_blind, va_recv hK hP hci (q0 := 0) rfl, zPreT_ok S.2.2.2.2 hP hK hSt hq⟩ hg hn hsize hstack hW hdg hf
end ZR
theorem zw_IAE : (Bundle.ownAtoms R_CD 155 zIAE zUp).all (fun w => zt_is4 w || decide (w ∈ BG)) = true := by decide +kernel
