/-! THE CLAIM OUT OF ONE WALK OF THE LAW'S BODY. Your part is whole_start (and what it stands on); all else here is the same for every law, but numbers. -/
def R_law : String := "CardDirectoryLaw"
def lw_P (b : Addr) (xs : List Int32) (args : Array Value) (s : State) : Prop := args = #[.ref b] ∧ s.IntsAt b xs ∧ xs.length ≤ 2050 ∧ (Jvm.Cond.and given_1 narrow_1).before args s = true
def lw_Q (_ : Array Value) (s : State) (o : Outcome) (t : State) : Prop := o = .returned (some (.int 1)) ∧ Framed s o t [] 1059 10413
def lw_Z (below : List Frame) (a : Array Value) (s : State) : State → Prop := fun t => ∃ o, t.status = .running ∧ Ended t below o ∧ lw_Q a s o t
/-- the law's own end, with 1 on the stack, nothing written that was there before, its room as the claim has it -/
theorem lw_ret {p : Program} {l : Launch} {e : Env} {s : State} {m : MethodId} {below : List Frame} {meth : Method} {c : Code} {b : Nat} (hx : p.tables.exec = Jvm.exec) (hb : c.code = code) (hr : meth.sig.returnType = ret) (hlocks : meth.locks = false) {pc : Nat} {H : Heap} {ls : Array Slot} (hdg : decode code pc = .ok (.ireturn, 1)) : W p l e room_1 s m #[Value.ref b] below meth c H [] 1059 10413 (lw_Z below #[Value.ref b] s) (F0 m pc ls [.int 1]) := by
  intro T hT X
  obtain ⟨fs, hret, hrun, hended, hW, hframe⟩ := X.leave (v := some (.int 1)) (hlocks := hlocks) (fun h => by rw [hr] at h; cases h)
  have hmeth' : T.vm.method? m = some meth := X.method'
  refine ⟨T.setFrames fs, ?_, .returned (some (.int 1)), hrun, hended, rfl, ⟨_, rfl⟩, hW, hframe⟩
  jvm_step X.here [X.here.top, hx, hb, hdg, hmeth', hr, ret, narrow_b1]
  (try refine ⟨rfl, ?_⟩); (try refine ⟨rfl, ?_⟩)
  first | (intro acts; rw [hret _ acts rfl rfl rfl]) | rw [hret _ _ rfl rfl rfl]
  exact Steps.refl _
/-- what holds at the law's entry: the machine, the code, the tables' words (any of lw_tbl by 'hts w (by decide +kernel)'), the script of L ints xs at the cell b, what the Statement gives of the start (any of its parts by flat_of_before) -/
def lw_At (p : Program) (s : State) (m : MethodId) (meth : Method) (c : Code) (b L : Nat) (xs : Nat → Int32) : Prop :=
  p.tables.exec = Jvm.exec ∧ c.code = code ∧ meth.sig.returnType = ret ∧ c.maxLocals = 8 ∧ s.vm.findClass R_law = some m.cls ∧ (∀ w ∈ lw_tbl, w.before #[Value.ref b] s = true) ∧ va_X b L xs s s.heap ∧ b < s.heap.size ∧ meth.locks = false ∧ (Jvm.Cond.and given_1 narrow_1).before #[Value.ref b] s = true
set_option maxHeartbeats 4000000 in
set_option maxRecDepth 100000 in
theorem x_MO_thrown (l : Launch) (dC : Nat → ClassId) (dI : Nat → Nat → Nat) (hM : Nat) (co : Int32) (f1 f2 f3 f4 f5 f6 f7 f8 f9 f10 f11 f12 f13 f14 f15 : Value) : Met l y_MO_thrown (zw y_MO_thrown b_MO_thrown 1 (some .int)) ({ frames := 0, cells := 0, slots := 0, locals := 0 }) (zPre [.ref hM] (dC, dI) [(hM, .inr (4, [.int co, f1, f2, f3, f4, f5, f6, f7, f8, f9, f10, f11, f12, f13, f14, f15]))] []) (vp_Si (fun r => r = co)) 0 0 (fun _ => False) := by
  refine Met.ofW (cc := b_MO_thrown) (maxL := 1) (ret := (some .int)) (by decide) rfl ?_
  intro p e s m args below meth c s₁ B hml hv
  obtain ⟨rfl, hP, hK⟩ := hv
  have hx := B.exec
  have hb := B.bytes
  have hr := B.returns
  have hts := atoms_spec (ws := (zw y_MO_thrown b_MO_thrown 1 (some .int))) B.pre
  have htB : ∀ w ∈ BG, w.before ([.ref hM] : List Value).toArray s = true := fun w h => hts w (List.mem_cons_of_mem _ h)
  have hown : s.vm.findClass R_MO = some m.cls := findClass_of_methodNamed B.named
  have hlocks := B.notSynchronized
  have CF : CallFix p m c b_MO_thrown 1 s ([.ref hM] : List Value).toArray BG R_MO := ⟨hx, hb, hml, hown, htB⟩
  have hP : va_P (dC, dI) vwCl [(hM, .inr (4, [.int co, f1, f2, f3, f4, f5, f6, f7, f8, f9, f10, f11, f12, f13, f14, f15]))] s.heap := hP
  have hl := lv_entry [.ref hM] (n := 1) (Nat.le_of_ble_eq_true rfl)
  rw [lg_entry_eq]
  generalize (lg_sl [.ref hM] ++ List.replicate (1 - (lg_sl [.ref hM]).length) Slot.unset).toArray = ls at hl ⊢
  have hl : lv_has ls 1 [(0, .ref hM)] := hl
  refine lv_aload_n hx hb d_MO_thrown_0 rfl (lv_at hl 0 rfl) ?_
  refine va_get (D := (dC, dI)) (ci := 4) (v := .int co) (C := R_MO) (T := T_MO) (N := 16) hx hb htB i_MO hown hK hP 0 rfl rfl 0 (by decide) (htB _ lf_MO_46) (fun _ h9 => h9) rfl d_MO_thrown_1 ?_
  exact W.iret (v := co) hx hb hr (fun t ht hW => ⟨_, rfl, rfl, ht⟩) (fun _ h => by cases h) d_MO_thrown_4
def zPreX (As : List Value) (b L : Nat) (xs : Nat → Int32) : Array Value → State → Prop := va_Pc As (fun U => va_X b L xs U U.heap)
theorem zPreX_blind {As : List Value} {b L : Nat} {xs : Nat → Int32} : FrameBlind (zPreX As b L xs) := fun a U g mk q => ⟨q.1, va_X.moved (u := U) (U := U.calling g mk a) (Vm.Alike.refl U.vm) q.2⟩
theorem zPreX_ok {As : List Value} {b L : Nat} {xs : Nat → Int32} {s : State} {H : Heap} (hX : va_X b L xs s H) : ∀ U : State, U.heap = H → s.WarmedH U.vm → zPreX As b L xs As.toArray U :=
  fun U hU hW => ⟨rfl, by show va_X b L xs U U.heap; rw [hU]; exact va_X.moved hW.alike hX⟩
section ZRX
variable {p : Program} {l : Launch} {e : Env} {R : Room} {s : State} {m : MethodId} {args : Array Value} {below : List Frame} {meth : Method} {c : Code} {H : Heap} {locs : List Loc} {cells slots : Nat}
variable {y : MethodName} {b cc : ByteArray} {maxL nL mc ms n index : Nat} {ret : Option FieldType} {rm : Room} {Qc : Array Value → State → Outcome → State → Prop} {free : Addr → Prop} {own : String} {As rest : List Value} {g : JFrame} {b0 L0 : Nat} {xs : Nat → Int32}
theorem zrx_S (S : CallFix p m c cc nL s args BG own) (hM : Met l y (zw y b maxL ret) rm (zPreX As b0 L0 xs) Qc mc ms free) (hc : Cond.code y b maxL ret ∈ BG) (hl : Cond.methodLink own index y ∈ BG) (hst : Cond.static y ∈ BG) (hi : Cond.initialized y.cls ∈ BG) (hrc : rm.cells = mc) (hrs : rm.slots = ms)
    (hd : y.cls ≠ "java/lang/invoke/MethodHandle" ∧ y.cls ≠ "java/lang/invoke/VarHandle" ∧ (parseMethodDescriptor y.desc).map (fun d => d.parameters.length) = some n) (hR : rm.frames + 1 ≤ R.frames ∧ 8 + (maxL + 11) + rm.locals ≤ R.locals) (hX : va_X b0 L0 xs s H)
    (hg : g.method = m) (hn : As.length = n) (hsize : g.locals.size = nL) (hstack : g.stack = As.reverse ++ rest) (hW : 2 * g.monitorRoom + (rest.map fun v => v.category).sum ≤ 8) (hdg : decode cc g.pc = .ok (.invokestatic index, 3)) (hf : cells + mc ≤ R.cells ∧ slots + ms ≤ R.slots) :
    va_Run p l e R s m args below meth c H locs cells slots mc ms g rest (Qc As.toArray) free :=
  va_runS S hM ⟨zc_B S.2.2.2.2 hc hl hi hrc hrs hd hR, S.2.2.2.2 _ hst⟩ ⟨zPreX_blind, zPreX_ok hX⟩ hg hn hsize hstack hW hdg hf
end ZRX
set_option maxHeartbeats 4000000 in
set_option maxRecDepth 100000 in
theorem c_LW_cell (l : Launch) (dC : Nat → ClassId) (dI : Nat → Nat → Nat) (b L : Nat) (xs : Nat → Int32) (hL : L ≤ 2050) (k : Nat) (hk : k < 2 ^ 31) : Met l y_LW_cell (zw y_LW_cell b_LW_cell 2 (some .int)) ({ frames := 0, cells := 0, slots := 0, locals := 0 }) (zPreX [.ref b, .int (nI k)] b L xs) (vp_Si (fun r => r = if k < L then xs k else 0)) 0 0 (fun _ => False) := by
  refine Met.ofW (cc := b_LW_cell) (maxL := 2) (ret := (some .int)) (by decide) rfl ?_
  intro p e s m args below meth c s₁ B hml hv
  obtain ⟨rfl, hXs⟩ := hv
  have hx := B.exec
  have hb := B.bytes
  have hr := B.returns
  have hts := atoms_spec (ws := (zw y_LW_cell b_LW_cell 2 (some .int))) B.pre
  have htB : ∀ w ∈ BG, w.before ([.ref b, .int (nI k)] : List Value).toArray s = true := fun w h => hts w (List.mem_cons_of_mem _ h)
  have hown : s.vm.findClass R_LW = some m.cls := findClass_of_methodNamed B.named
  have hlocks := B.notSynchronized
  have CF : CallFix p m c b_LW_cell 2 s ([.ref b, .int (nI k)] : List Value).toArray BG R_LW := ⟨hx, hb, hml, hown, htB⟩
  have hl := lv_entry [.ref b, .int (nI k)] (n := 2) (Nat.le_of_ble_eq_true rfl)
  rw [lg_entry_eq]
  generalize (lg_sl [.ref b, .int (nI k)] ++ List.replicate (2 - (lg_sl [.ref b, .int (nI k)]).length) Slot.unset).toArray = ls at hl ⊢
  have hl : lv_has ls 2 [(0, .ref b), (1, .int (nI k))] := hl
  have hbl : b < s.heap.size := by obtain ⟨scr, h1, -⟩ := hXs; exact (Array.getElem?_eq_some_iff.mp h1).1
  have hS : va_S (fun _ => False) s.heap s.heap [] := va_S.rf
  refine lv_iload_n hx hb d_LW_cell_0 rfl (lv_at hl 1 rfl) ?_
  refine lv_aload_n hx hb d_LW_cell_1 rfl (lv_at hl 0 rfl) ?_
  refine va_slen hx hb hXs hbl (fun h => h) hS d_LW_cell_2 ?_
  show W p l e _ s m _ below meth c _ _ _ _ _ (F0 m 3 ls [.int (nI L), .int (nI k)])
  refine lv_icmp_ge (tgt := 12) hx hb d_LW_cell_3 (by decide) (fun c_3 => ?_) (fun c_3 => ?_)
  · have hkL : ¬ k < L := fun h => absurd c_3 (nI_ge h (by omega))
    refine lv_iconst (v := 0) hx hb d_LW_cell_12 (by decide) ?_
    exact W.iret (v := 0) hx hb hr (fun t ht hW => ⟨_, rfl, by rw [if_neg hkL], ht⟩) (fun _ h => by cases h) d_LW_cell_13
  · have hkL : k < L := Nat.not_le.mp (fun h => c_3 (nI_le h (by omega)))
    refine lv_aload_n hx hb d_LW_cell_6 rfl (lv_at hl 0 rfl) ?_
    refine lv_iload_n hx hb d_LW_cell_7 rfl (lv_at hl 1 rfl) ?_
    refine va_sld hx hb hXs hbl (fun h => h) hS (vp_in_nI hkL (by omega)) d_LW_cell_8 ?_
    rw [nI_clamp (by omega)]
    refine lv_goto (tgt := 13) hx hb d_LW_cell_9 (by decide) ?_
    exact W.iret (v := xs k) hx hb hr (fun t ht hW => ⟨_, rfl, by rw [if_pos hkL], ht⟩) (fun _ h => by cases h) d_LW_cell_13
