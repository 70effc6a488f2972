/-! THE CONSTRUCTORS -/
def R_AR : String := "java/util/Arrays"
abbrev b_AR_fill : ByteArray := prog_14_method_103_code
def y_AR_fill : MethodName := ⟨R_AR, "fill", "([II)V"⟩
theorem mc_AR_fill : Cond.code y_AR_fill b_AR_fill 4 none ∈ BG := by decide +kernel
theorem mt_AR_fill : Cond.static y_AR_fill ∈ BG := by decide +kernel
theorem ni_AR : Cond.initialized R_AR ∈ BG := by decide +kernel
theorem zD_1 {a : Nat} {e : va_E} : va_D (fun _ => True) [(a, e)] := by
  refine ⟨fun i j p q hi hj _ => ?_, fun _ _ _ => trivial⟩
  have h1 := (List.getElem?_eq_some_iff.mp hi).1
  have h2 := (List.getElem?_eq_some_iff.mp hj).1
  simp at h1 h2
  omega
/-- as zPre, with the number of cells that there are -/
def zPreN (As : List Value) (sz : Nat) (D : va_G) (ws : va_W) (tys : List (ClassId × FieldType)) : Array Value → State → Prop := va_Pc As (fun U => U.heap.size = sz ∧ zB D ws tys U)
theorem zPreN_blind {As : List Value} {sz : Nat} {D : va_G} {ws : va_W} {tys : List (ClassId × FieldType)} : FrameBlind (zPreN As sz D ws tys) := fun a U g mk q => ⟨q.1, q.2.1, q.2.2.1, va_K.moved (u := U) (U := U.calling g mk a) (Vm.Alike.refl U.vm) q.2.2.2⟩
theorem zPreN_ok {As : List Value} {sz : Nat} {D : va_G} {ws : va_W} {tys : List (ClassId × FieldType)} {s : State} {H : Heap} (hsz : H.size = sz) (hP : va_P D vwCl ws H) (hK : va_K D vwCl tys s) : ∀ U : State, U.heap = H → s.WarmedH U.vm → zPreN As sz D ws tys As.toArray U :=
  fun U hU hW => ⟨rfl, by rw [hU]; exact hsz, by rw [hU]; exact hP, va_K.moved hW.alike hK⟩
section ZRN
variable {p : Program} {l : Launch} {e : Env} {R : Room} {s : State} {m : MethodId} {args : Array Value} {below : List Frame} {meth : Method} {c : Code} {H : Heap} {locs : List Loc} {cells slots : Nat} {Q : State → Prop}
variable {y : MethodName} {b cc : ByteArray} {maxL nL mc ms n index : Nat} {rm : Room} {Qc : Array Value → State → Outcome → State → Prop} {free : Addr → Prop} {own host : String} {o sz : Nat} {As rest : List Value} {g : JFrame} {D : va_G} {ws : va_W} {tys : List (ClassId × FieldType)}
theorem zrn_I (S : CallFix p m c cc nL s args BG own) (hM : Met l y (zw y b maxL none) rm (zPreN (.ref o :: As) sz D ws tys) Qc mc ms free) (hc : Cond.code y b maxL none ∈ BG) (hl : Cond.methodLink own index y ∈ BG) (hin : Cond.instanceMethod y ∈ BG) (hnm : y.name = "<init>") (hi : Cond.initialized y.cls ∈ BG) (hrc : rm.cells = mc) (hrs : rm.slots = ms)
    (hd : y.cls ≠ "java/lang/invoke/MethodHandle" ∧ y.cls ≠ "java/lang/invoke/VarHandle" ∧ (parseMethodDescriptor y.desc).map (fun d => d.parameters.length) = some n) (hR : rm.frames + 1 ≤ R.frames ∧ 8 + (maxL + 11) + rm.locals ≤ R.locals) (hsz : H.size = sz) (hP : va_P D vwCl ws H) (hK : va_K D vwCl tys s)
    (hg : g.method = m) (hn : As.length = n) (hsize : g.locals.size = nL) (hstack : g.stack = As.reverse ++ .ref o :: rest) (hW : 2 * g.monitorRoom + (rest.map fun v => v.category).sum ≤ 8) (hdg : decode cc g.pc = .ok (.invokespecial index, 3)) (hf : cells + mc ≤ R.cells ∧ slots + ms ≤ R.slots) :
    va_Run p l e R s m args below meth c H locs cells slots mc ms g rest (Qc (Value.ref o :: As).toArray) free :=
  va_runI S hM ⟨zc_B S.2.2.2.2 hc hl hi hrc hrs hd hR, hnm, S.2.2.2.2 _ hin⟩ ⟨zPreN_blind, zPreN_ok hsz hP hK⟩ hg hn hsize hstack hW hdg hf
theorem zrn_IN (S : CallFix p m c cc nL s args BG own) (hM : Met l y (zw y b maxL none) rm (zPreN (.ref o :: As) sz D ws tys) Qc mc ms free) (hc : Cond.code y b maxL none ∈ BG) (hl : Cond.methodLinkNest own index y host ∈ BG) (hin : Cond.instanceMethod y ∈ BG) (hnm : y.name = "<init>") (hi : Cond.initialized y.cls ∈ BG) (hrc : rm.cells = mc) (hrs : rm.slots = ms)
    (hd : y.cls ≠ "java/lang/invoke/MethodHandle" ∧ y.cls ≠ "java/lang/invoke/VarHandle" ∧ (parseMethodDescriptor y.desc).map (fun d => d.parameters.length) = some n) (hR : rm.frames + 1 ≤ R.frames ∧ 8 + (maxL + 11) + rm.locals ≤ R.locals) (hsz : H.size = sz) (hP : va_P D vwCl ws H) (hK : va_K D vwCl tys s)
    (hg : g.method = m) (hn : As.length = n) (hsize : g.locals.size = nL) (hstack : g.stack = As.reverse ++ .ref o :: rest) (hW : 2 * g.monitorRoom + (rest.map fun v => v.category).sum ≤ 8) (hdg : decode cc g.pc = .ok (.invokespecial index, 3)) (hf : cells + mc ≤ R.cells ∧ slots + ms ≤ R.slots) :
    va_Run p l e R s m args below meth c H locs cells slots mc ms g rest (Qc (Value.ref o :: As).toArray) free :=
  va_runIN S hM ⟨zc_N S.2.2.2.2 hc hl hi hrc hrs hd hR, hnm, S.2.2.2.2 _ hin⟩ ⟨zPreN_blind, zPreN_ok hsz hP hK⟩ hg hn hsize hstack hW hdg hf
end ZRN
/-- the first i places hold v -/
def zn_fill (v : Int32) (i : Nat) : Nat → Int32 := fun j => if j < i then v else 0
theorem zn_fill0 (v : Int32) : zn_fill v 0 = fun _ => 0 := by funext j; unfold zn_fill; rw [if_neg (by omega)]
theorem zn_fillS (v : Int32) (i : Nat) : upd (zn_fill v i) i v = zn_fill v (i + 1) := by
  funext j
  by_cases e : j = i
  · subst e; rw [pk_us]; unfold zn_fill; rw [if_pos (by omega)]
  · rw [pk_un e]; unfold zn_fill
    by_cases h : j < i
    · rw [if_pos h, if_pos (by omega)]
    · rw [if_neg h, if_neg (by omega)]
/-- between 1 and k -/
def zn_cl (w k : Int32) : Int32 := if 1 < (if k < w then k else w) then (if k < w then k else w) else 1
theorem zn_cl_eq {w : Int32} {k : Nat} (h1 : 1 < k) (hk : k < 2 ^ 31) : (if w < 1 then 1 else if nI k < w then nI k else w) = zn_cl w (nI k) := by
  unfold zn_cl
  by_cases h2 : nI k < w
  · rw [if_pos h2, if_pos (show (1 : Int32) < nI k from nI_lt (a := 1) h1 hk)]
    have h3 : ¬ w < 1 := fun h => absurd (Int32.lt_trans h2 h) (nI_nlt (b := 1) (by omega) hk)
    rw [if_neg h3]
  · rw [if_neg h2]
    by_cases h3 : w < 1
    · rw [if_pos h3, if_neg (fun h => absurd (Int32.lt_trans h h3) (by decide))]
    · rw [if_neg h3]
      by_cases h4 : 1 < w
      · rw [if_pos h4]
      · rw [if_neg h4]
        exact Int32.le_antisymm (Int32.not_lt.mp h4) (Int32.not_lt.mp h3)
theorem zn_cl_in (w : Int32) {k : Nat} (h1 : 1 < k) (hk : k < 2 ^ 31) : 1 ≤ (zn_cl w (nI k)).toInt ∧ (zn_cl w (nI k)).toInt ≤ k := by
  unfold zn_cl
  have ek := nI_toInt hk
  have e1 : (1 : Int32).toInt = 1 := rfl
  by_cases h2 : nI k < w
  · rw [if_pos h2, if_pos (show (1 : Int32) < nI k from nI_lt (a := 1) h1 hk), ek]; omega
  · rw [if_neg h2]
    have h3 := Int32.le_iff_toInt_le.mp (Int32.not_lt.mp h2)
    by_cases h4 : 1 < w
    · rw [if_pos h4]
      have h5 := Int32.lt_iff_toInt_lt.mp h4
      omega
    · rw [if_neg h4]; omega
theorem d_AR_fill_0 : decode b_AR_fill 0 = .ok (.iconst 0, 1) := by decide +kernel
theorem d_AR_fill_1 : decode b_AR_fill 1 = .ok (.istore_n 2, 1) := by decide +kernel
theorem d_AR_fill_2 : decode b_AR_fill 2 = .ok (.aload_n 0, 1) := by decide +kernel
theorem d_AR_fill_3 : decode b_AR_fill 3 = .ok (.arraylength, 1) := by decide +kernel
theorem d_AR_fill_4 : decode b_AR_fill 4 = .ok (.istore_n 3, 1) := by decide +kernel
theorem d_AR_fill_5 : decode b_AR_fill 5 = .ok (.iload_n 2, 1) := by decide +kernel
theorem d_AR_fill_6 : decode b_AR_fill 6 = .ok (.iload_n 3, 1) := by decide +kernel
theorem d_AR_fill_7 : decode b_AR_fill 7 = .ok (.if_icmp .ge 13, 3) := by decide +kernel
theorem d_AR_fill_10 : decode b_AR_fill 10 = .ok (.aload_n 0, 1) := by decide +kernel
theorem d_AR_fill_11 : decode b_AR_fill 11 = .ok (.iload_n 2, 1) := by decide +kernel
theorem d_AR_fill_12 : decode b_AR_fill 12 = .ok (.iload_n 1, 1) := by decide +kernel
theorem d_AR_fill_13 : decode b_AR_fill 13 = .ok (.iastore, 1) := by decide +kernel
theorem d_AR_fill_14 : decode b_AR_fill 14 = .ok (.iinc 2 1, 3) := by decide +kernel
theorem d_AR_fill_17 : decode b_AR_fill 17 = .ok (.goto (-12), 3) := by decide +kernel
theorem d_AR_fill_20 : decode b_AR_fill 20 = .ok (.return_, 1) := by decide +kernel
set_option maxHeartbeats 4000000 in
set_option maxRecDepth 100000 in
theorem c_AR_fill (l : Launch) (dC : Nat → ClassId) (dI : Nat → Nat → Nat) (hu : Nat) (cU : ClassId) (v : Int32) (hD0 : va_D (fun _ => True) [(hu, .inl (cU, 512, .inl (fun _ => 0)))]) : Met l y_AR_fill (zw y_AR_fill b_AR_fill 4 none) ({ frames := 0, cells := 0, slots := 0, locals := 0 }) (zPre [.ref hu, .int v] (dC, dI) [(hu, .inl (cU, 512, .inl (fun _ => 0)))] [(cU, .int)]) (va_Qv (fun (_ : Unit) => True) (fun (_ : Unit) (t : State) => va_P (dC, dI) vwCl [(hu, .inl (cU, 512, .inl (zn_fill v 512)))] t.heap) (zA [(hu, .inl (cU, 512, .inl (fun _ => 0)))])) 0 0 (zA [(hu, .inl (cU, 512, .inl (fun _ => 0)))]) := by
  refine Met.ofW (cc := b_AR_fill) (maxL := 4) (ret := none) (by decide) rfl ?_
  intro p e s m args below meth c s₁ B hml hv
  obtain ⟨rfl, hP, hK⟩ := hv
  have hx := B.exec
  have hb := B.bytes
  have hr := B.returns
  have hts := atoms_spec (ws := (zw y_AR_fill b_AR_fill 4 none)) B.pre
  have htB : ∀ w ∈ BG, w.before ([.ref hu, .int v] : List Value).toArray s = true := fun w h => hts w (List.mem_cons_of_mem _ h)
  have hown : s.vm.findClass R_AR = some m.cls := findClass_of_methodNamed B.named
  have hlocks := B.notSynchronized
  have CF : CallFix p m c b_AR_fill 4 s ([.ref hu, .int v] : List Value).toArray BG R_AR := ⟨hx, hb, hml, hown, htB⟩
  have hP : va_P (dC, dI) vwCl [(hu, .inl (cU, 512, .inl (fun _ => 0)))] s.heap := hP
  have hl := lv_entry [.ref hu, .int v] (n := 4) (Nat.le_of_ble_eq_true rfl)
  rw [lg_entry_eq]
  generalize (lg_sl [.ref hu, .int v] ++ List.replicate (4 - (lg_sl [.ref hu, .int v]).length) Slot.unset).toArray = ls at hl ⊢
  have hl : lv_has ls 4 [(0, .ref hu), (1, .int v)] := hl
  have hD : va_D (zA [(hu, .inl (cU, 512, .inl (fun _ => 0)))]) [(hu, .inl (cU, 512, .inl (fun _ => 0)))] := zA_of hD0
  have hS : va_S (zA [(hu, .inl (cU, 512, .inl (fun _ => 0)))]) s.heap s.heap [] := va_S.rf
  generalize zA [(hu, .inl (cU, 512, .inl (fun _ => 0)))] = A at hD hS ⊢
  refine lv_iconst (v := 0) hx hb d_AR_fill_0 (by decide) ?_
  refine lv_istore_n (lv' := [(2, .int 0), (0, .ref hu), (1, .int v)]) hx hb d_AR_fill_1 rfl hl (by decide) rfl (fun ls hl => ?_)
  refine lv_aload_n hx hb d_AR_fill_2 rfl (lv_at hl 1 rfl) ?_
  refine va_alen (v := nI 512) hx hb hK hP 0 0 rfl rfl rfl d_AR_fill_3 ?_
  refine lv_istore_n (lv' := [(3, .int (nI 512)), (2, .int 0), (0, .ref hu), (1, .int v)]) hx hb d_AR_fill_4 rfl hl (by decide) rfl (fun ls hl => ?_)
  have hw0 : va_D A [(hu, .inl (cU, 512, .inl (fun _ => 0)))] := hD
  have loop : ∀ (k i : Nat) (H : Heap) (locs : List Loc) (ls : Array Slot), i + k = 512 → va_P (dC, dI) vwCl [(hu, .inl (cU, 512, .inl (zn_fill v i)))] H → va_S A s.heap H locs → lv_has ls 4 [(2, .int (nI i)), (3, .int (nI 512)), (0, .ref hu), (1, .int v)] → W p l e (headSpec (zw y_AR_fill b_AR_fill 4 none) ({ frames := 0, cells := 0, slots := 0, locals := 0 })).room s m ([.ref hu, .int v] : List Value).toArray below meth c H locs 0 0 (MQ below (va_Qv (fun (_ : Unit) => True) (fun (_ : Unit) (t : State) => va_P (dC, dI) vwCl [(hu, .inl (cU, 512, .inl (zn_fill v 512)))] t.heap) A) ([.ref hu, .int v] : List Value).toArray s 0 0 A) (F0 m 5 ls []) := by
    intro k
    induction k with
    | zero =>
      intro i H locs ls hi hP hS hl
      have hD : va_D A [(hu, .inl (cU, 512, .inl (zn_fill v i)))] := zD_of (ws := [(hu, .inl (cU, 512, .inl (fun _ => 0)))]) rfl hw0
      refine lv_iload_n hx hb d_AR_fill_5 rfl (lv_at hl 0 rfl) ?_
      refine lv_iload_n hx hb d_AR_fill_6 rfl (lv_at hl 1 rfl) ?_
      refine lv_icmp_ge (tgt := 20) hx hb d_AR_fill_7 (by decide) (fun c_7 => ?_) (fun c_7 => ?_)
      · rw [show i = 512 by omega] at hP
        exact W.vret hx hb hr (fun t ht hW => ⟨⟨(), rfl, trivial, by show va_P _ _ _ t.heap; rw [ht]; exact hP⟩, hS.F ht⟩) hS.2.2 d_AR_fill_20
      · exact absurd (nI_le (show 512 ≤ i by omega) (by omega)) c_7
    | succ k ih =>
      intro i H locs ls hi hP hS hl
      have hD : va_D A [(hu, .inl (cU, 512, .inl (zn_fill v i)))] := zD_of (ws := [(hu, .inl (cU, 512, .inl (fun _ => 0)))]) rfl hw0
      have b_13 : vp_in (nI i) 512 := vp_in_nI (by omega) (by omega)
      refine lv_iload_n hx hb d_AR_fill_5 rfl (lv_at hl 0 rfl) ?_
      refine lv_iload_n hx hb d_AR_fill_6 rfl (lv_at hl 1 rfl) ?_
      refine lv_icmp_ge (tgt := 20) hx hb d_AR_fill_7 (by decide) (fun c_7 => ?_) (fun c_7 => ?_)
      · exact absurd c_7 (nI_ge (show i < 512 by omega) (by omega))
      · refine lv_aload_n hx hb d_AR_fill_10 rfl (lv_at hl 2 rfl) ?_
        refine lv_iload_n hx hb d_AR_fill_11 rfl (lv_at hl 0 rfl) ?_
        refine lv_iload_n hx hb d_AR_fill_12 rfl (lv_at hl 3 rfl) ?_
        refine va_iast hx hb hK hP hD hS 0 0 rfl rfl b_13 d_AR_fill_13 (fun H locs hP hD hS => ?_)
        have hP : va_P (dC, dI) vwCl [(hu, .inl (cU, 512, .inl (upd (zn_fill v i) (nI i).toNatClampNeg v)))] H := hP
        have hD : va_D A [(hu, .inl (cU, 512, .inl (upd (zn_fill v i) (nI i).toNatClampNeg v)))] := hD
        rw [nI_clamp (n := i) (by omega)] at hP hD
        refine lv_iinc (v := (nI i) + 1) (lv' := [(2, .int ((nI i) + 1)), (3, .int (nI 512)), (0, .ref hu), (1, .int v)]) hx hb d_AR_fill_14 hl (k := 0) rfl rfl (by decide) rfl (fun ls hl => ?_)
        refine lv_goto (tgt := 5) hx hb d_AR_fill_17 (by decide) ?_
        rw [zn_fillS] at hP
        rw [nI_1] at hl
        exact ih (i + 1) _ _ ls (by omega) hP hS (lv_sub hl [0, 1, 2, 3] rfl)
  refine loop 512 0 _ _ ls (by omega) ?_ hS (lv_sub hl [1, 0, 2, 3] rfl)
  rw [zn_fill0]
  exact hP
set_option maxHeartbeats 4000000 in
set_option maxRecDepth 100000 in
theorem c_RT_init (l : Launch) (dC : Nat → ClassId) (dI : Nat → Nat → Nat) (hR : Nat) (sz : Nat) : Met l y_RT_init (zw y_RT_init b_RT_init 1 none) ({ frames := 1, cells := 3, slots := 120, locals := 12 }) (zPreN [.ref hR] sz (dC, dI) [(hR, .inr (2, [.null, .null, .null, .int 0]))] []) (va_Qv (fun (_ : Unit) => True) (fun (_ : Unit) (t : State) => ∃ hp0 hq0 hi0 : Nat, ∃ cP0 cQ0 cS0 : ClassId, va_P (dC, dI) vwCl [(hR, .inr (2, [.ref hp0, .ref hq0, .ref hi0, .int 0])), (hp0, .inl (cP0, 40, .inl (fun _ => 0))), (hq0, .inl (cQ0, 40, .inl (fun _ => 0))), (hi0, .inl (cS0, 40, .inl (fun _ => 0)))] t.heap ∧ va_K (dC, dI) vwCl [(cP0, .int), (cQ0, .int), (cS0, .int)] t ∧ va_D (va_A [(hR, .inr (2, [.null, .null, .null, .int 0]))] sz) [(hR, .inr (2, [.ref hp0, .ref hq0, .ref hi0, .int 0])), (hp0, .inl (cP0, 40, .inl (fun _ => 0))), (hq0, .inl (cQ0, 40, .inl (fun _ => 0))), (hi0, .inl (cS0, 40, .inl (fun _ => 0)))]) (va_A [(hR, .inr (2, [.null, .null, .null, .int 0]))] sz)) 3 120 (va_A [(hR, .inr (2, [.null, .null, .null, .int 0]))] sz) := by
  refine Met.ofW (cc := b_RT_init) (maxL := 1) (ret := none) (by decide) rfl ?_
  intro p e s m args below meth c s₁ B hml hv
  obtain ⟨rfl, hsz, hP, hK⟩ := hv
  subst hsz
  have hx := B.exec
  have hb := B.bytes
  have hr := B.returns
  have hts := atoms_spec (ws := (zw y_RT_init b_RT_init 1 none)) B.pre
  have htB : ∀ w ∈ BG, w.before ([.ref hR] : List Value).toArray s = true := fun w h => hts w (List.mem_cons_of_mem _ h)
  have hown : s.vm.findClass R_RT = some m.cls := findClass_of_methodNamed B.named
  have hlocks := B.notSynchronized
  have hin : meth.name = "<init>" := (name_of_methodNamed B.named B.method).1
  have CF : CallFix p m c b_RT_init 1 s ([.ref hR] : List Value).toArray BG R_RT := ⟨hx, hb, hml, hown, htB⟩
  have hP : va_P (dC, dI) vwCl [(hR, .inr (2, [.null, .null, .null, .int 0]))] s.heap := hP
  have hl := lv_entry [.ref hR] (n := 1) (Nat.le_of_ble_eq_true rfl)
  rw [lg_entry_eq]
  generalize (lg_sl [.ref hR] ++ List.replicate (1 - (lg_sl [.ref hR]).length) Slot.unset).toArray = ls at hl ⊢
  have hl : lv_has ls 1 [(0, .ref hR)] := hl
  have hD : va_D (va_A [(hR, .inr (2, [.null, .null, .null, .int 0]))] s.heap.size) [(hR, .inr (2, [.null, .null, .null, .int 0]))] := va_D.self zD_1
  generalize hAe : va_A [(hR, .inr (2, [.null, .null, .null, .int 0]))] s.heap.size = A at hD ⊢
  have hA : ∀ q : Nat, s.heap.size ≤ q → A q := fun q h => by rw [← hAe]; exact Or.inr h
  have hS : va_S A s.heap s.heap [] := va_S.rf
  have hK : va_K (dC, dI) vwCl [] s := hK
  refine lv_aload_n hx hb d_RT_init_0 rfl (lv_at hl 0 rfl) ?_
  refine W.objInit hx hb hown (htB _ lk_RT_3) (htB _ mi_obj) (htB _ mc_obj) rfl (by rw [hml]; exact hl.1) rfl d_RT_init_1 (Nat.le_of_ble_eq_true rfl) (Nat.le_of_ble_eq_true rfl) ?_
  refine lv_aload_n hx hb d_RT_init_4 rfl (lv_at hl 0 rfl) ?_
  refine lv_bipush (v := 40) hx hb d_RT_init_5 (by decide) ?_
  refine va_newa (atype := .int) (a0 := (40, .inl (fun _ => 0))) (ty := .int) (N' := 40) hx hb (htB _ ma_int) rfl hK hP hD hS hA (fun _ => rfl) (by decide) rfl (by decide) (Nat.le_of_ble_eq_true rfl) (Nat.le_of_ble_eq_true rfl) d_RT_init_7 (fun q_7 c_7A H hK hP hD hS => ?_)
  have hP : va_P (dC, dI) vwCl [(hR, .inr (2, [.null, .null, .null, .int 0])), (q_7, .inl (c_7A, 40, .inl (fun _ => 0)))] H := hP
  have hD : va_D A [(hR, .inr (2, [.null, .null, .null, .int 0])), (q_7, .inl (c_7A, 40, .inl (fun _ => 0)))] := hD
  have hK : va_K (dC, dI) vwCl [(c_7A, .int)] s := hK
  refine va_putF (D := (dC, dI)) (ci := 2) (v := .ref q_7) (ty := (.array .int)) (C := R_RT) (T := T_RT) (N := 4) hx hb htB i_RT t_RT tk_RT n_RT hown hK hP hD hS 0 rfl rfl 0 (by decide) (htB _ lf_RT_11) (fun _ h9 => h9) rfl hin rfl (by decide +kernel) rfl rfl (Nat.le_of_ble_eq_true rfl) d_RT_init_9 (fun H locs hP hD hS => ?_)
  have hP : va_P (dC, dI) vwCl [(hR, .inr (2, [.ref q_7, .null, .null, .int 0])), (q_7, .inl (c_7A, 40, .inl (fun _ => 0)))] H := hP
  have hD : va_D A [(hR, .inr (2, [.ref q_7, .null, .null, .int 0])), (q_7, .inl (c_7A, 40, .inl (fun _ => 0)))] := hD
  refine lv_aload_n hx hb d_RT_init_12 rfl (lv_at hl 0 rfl) ?_
  refine lv_bipush (v := 40) hx hb d_RT_init_13 (by decide) ?_
  refine va_newa (atype := .int) (a0 := (40, .inl (fun _ => 0))) (ty := .int) (N' := 40) hx hb (htB _ ma_int) rfl hK hP hD hS hA (fun _ => rfl) (by decide) rfl (by decide) (Nat.le_of_ble_eq_true rfl) (Nat.le_of_ble_eq_true rfl) d_RT_init_15 (fun q_15 c_15A H hK hP hD hS => ?_)
  have hP : va_P (dC, dI) vwCl [(hR, .inr (2, [.ref q_7, .null, .null, .int 0])), (q_7, .inl (c_7A, 40, .inl (fun _ => 0))), (q_15, .inl (c_15A, 40, .inl (fun _ => 0)))] H := hP
  have hD : va_D A [(hR, .inr (2, [.ref q_7, .null, .null, .int 0])), (q_7, .inl (c_7A, 40, .inl (fun _ => 0))), (q_15, .inl (c_15A, 40, .inl (fun _ => 0)))] := hD
  have hK : va_K (dC, dI) vwCl [(c_7A, .int), (c_15A, .int)] s := hK
  refine va_putF (D := (dC, dI)) (ci := 2) (v := .ref q_15) (ty := (.array .int)) (C := R_RT) (T := T_RT) (N := 4) hx hb htB i_RT t_RT tk_RT n_RT hown hK hP hD hS 0 rfl rfl 1 (by decide) (htB _ lf_RT_15) (fun _ h9 => h9) rfl hin rfl (by decide +kernel) rfl rfl (Nat.le_of_ble_eq_true rfl) d_RT_init_17 (fun H locs hP hD hS => ?_)
  have hP : va_P (dC, dI) vwCl [(hR, .inr (2, [.ref q_7, .ref q_15, .null, .int 0])), (q_7, .inl (c_7A, 40, .inl (fun _ => 0))), (q_15, .inl (c_15A, 40, .inl (fun _ => 0)))] H := hP
  have hD : va_D A [(hR, .inr (2, [.ref q_7, .ref q_15, .null, .int 0])), (q_7, .inl (c_7A, 40, .inl (fun _ => 0))), (q_15, .inl (c_15A, 40, .inl (fun _ => 0)))] := hD
  refine lv_aload_n hx hb d_RT_init_20 rfl (lv_at hl 0 rfl) ?_
  refine lv_bipush (v := 40) hx hb d_RT_init_21 (by decide) ?_
  refine va_newa (atype := .int) (a0 := (40, .inl (fun _ => 0))) (ty := .int) (N' := 40) hx hb (htB _ ma_int) rfl hK hP hD hS hA (fun _ => rfl) (by decide) rfl (by decide) (Nat.le_of_ble_eq_true rfl) (Nat.le_of_ble_eq_true rfl) d_RT_init_23 (fun q_23 c_23A H hK hP hD hS => ?_)
  have hP : va_P (dC, dI) vwCl [(hR, .inr (2, [.ref q_7, .ref q_15, .null, .int 0])), (q_7, .inl (c_7A, 40, .inl (fun _ => 0))), (q_15, .inl (c_15A, 40, .inl (fun _ => 0))), (q_23, .inl (c_23A, 40, .inl (fun _ => 0)))] H := hP
  have hD : va_D A [(hR, .inr (2, [.ref q_7, .ref q_15, .null, .int 0])), (q_7, .inl (c_7A, 40, .inl (fun _ => 0))), (q_15, .inl (c_15A, 40, .inl (fun _ => 0))), (q_23, .inl (c_23A, 40, .inl (fun _ => 0)))] := hD
  have hK : va_K (dC, dI) vwCl [(c_7A, .int), (c_15A, .int), (c_23A, .int)] s := hK
  refine va_putF (D := (dC, dI)) (ci := 2) (v := .ref q_23) (ty := (.array .int)) (C := R_RT) (T := T_RT) (N := 4) hx hb htB i_RT t_RT tk_RT n_RT hown hK hP hD hS 0 rfl rfl 2 (by decide) (htB _ lf_RT_18) (fun _ h9 => h9) rfl hin rfl (by decide +kernel) rfl rfl (Nat.le_of_ble_eq_true rfl) d_RT_init_25 (fun H locs hP hD hS => ?_)
  have hP : va_P (dC, dI) vwCl [(hR, .inr (2, [.ref q_7, .ref q_15, .ref q_23, .int 0])), (q_7, .inl (c_7A, 40, .inl (fun _ => 0))), (q_15, .inl (c_15A, 40, .inl (fun _ => 0))), (q_23, .inl (c_23A, 40, .inl (fun _ => 0)))] H := hP
  have hD : va_D A [(hR, .inr (2, [.ref q_7, .ref q_15, .ref q_23, .int 0])), (q_7, .inl (c_7A, 40, .inl (fun _ => 0))), (q_15, .inl (c_15A, 40, .inl (fun _ => 0))), (q_23, .inl (c_23A, 40, .inl (fun _ => 0)))] := hD
  refine lv_aload_n hx hb d_RT_init_28 rfl (lv_at hl 0 rfl) ?_
  refine lv_iconst (v := 0) hx hb d_RT_init_29 (by decide) ?_
  refine va_put (D := (dC, dI)) (ci := 2) (v := .int 0) (ty := .int) (C := R_RT) (T := T_RT) (N := 4) hx hb htB i_RT t_RT tk_RT n_RT hown hK hP hD hS 0 rfl rfl 3 (by decide) (htB _ lf_RT_21) (fun _ h9 => h9) rfl (by decide +kernel) rfl rfl (Nat.le_of_ble_eq_true rfl) d_RT_init_30 (fun H locs hP hD hS => ?_)
  have hP : va_P (dC, dI) vwCl [(hR, .inr (2, [.ref q_7, .ref q_15, .ref q_23, .int 0])), (q_7, .inl (c_7A, 40, .inl (fun _ => 0))), (q_15, .inl (c_15A, 40, .inl (fun _ => 0))), (q_23, .inl (c_23A, 40, .inl (fun _ => 0)))] H := hP
  have hD : va_D A [(hR, .inr (2, [.ref q_7, .ref q_15, .ref q_23, .int 0])), (q_7, .inl (c_7A, 40, .inl (fun _ => 0))), (q_15, .inl (c_15A, 40, .inl (fun _ => 0))), (q_23, .inl (c_23A, 40, .inl (fun _ => 0)))] := hD
  refine W.widen (k := 3) (n := 120) (by omega) (by omega) ?_
  exact W.vret hx hb hr (fun t ht hW => ⟨⟨(), rfl, trivial, q_7, q_15, q_23, c_7A, c_15A, c_23A, by rw [ht]; exact hP, va_K.moved hW.alike hK, by first | exact hD | (rw [← hAe] at hD; exact hD)⟩, hS.F ht⟩) hS.2.2 d_RT_init_33
set_option maxHeartbeats 4000000 in
set_option maxRecDepth 100000 in
theorem c_CT_init (l : Launch) (dC : Nat → ClassId) (dI : Nat → Nat → Nat) (hC : Nat) (sz : Nat) : Met l y_CT_init (zw y_CT_init b_CT_init 1 none) ({ frames := 1, cells := 3, slots := 300, locals := 12 }) (zPreN [.ref hC] sz (dC, dI) [(hC, .inr (1, [.null, .null, .null, .int 0]))] []) (va_Qv (fun (_ : Unit) => True) (fun (_ : Unit) (t : State) => ∃ hn0 ha0 hk0 : Nat, ∃ cN0 cA0 cK0 : ClassId, va_P (dC, dI) vwCl [(hC, .inr (1, [.ref hn0, .ref ha0, .ref hk0, .int 0])), (hn0, .inl (cN0, 100, .inr (.inl (fun _ => 0)))), (ha0, .inl (cA0, 100, .inl (fun _ => 0))), (hk0, .inl (cK0, 100, .inl (fun _ => 0)))] t.heap ∧ va_K (dC, dI) vwCl [(cN0, .long), (cA0, .int), (cK0, .boolean)] t ∧ va_D (va_A [(hC, .inr (1, [.null, .null, .null, .int 0]))] sz) [(hC, .inr (1, [.ref hn0, .ref ha0, .ref hk0, .int 0])), (hn0, .inl (cN0, 100, .inr (.inl (fun _ => 0)))), (ha0, .inl (cA0, 100, .inl (fun _ => 0))), (hk0, .inl (cK0, 100, .inl (fun _ => 0)))]) (va_A [(hC, .inr (1, [.null, .null, .null, .int 0]))] sz)) 3 300 (va_A [(hC, .inr (1, [.null, .null, .null, .int 0]))] sz) := by
  refine Met.ofW (cc := b_CT_init) (maxL := 1) (ret := none) (by decide) rfl ?_
  intro p e s m args below meth c s₁ B hml hv
  obtain ⟨rfl, hsz, hP, hK⟩ := hv
  subst hsz
  have hx := B.exec
  have hb := B.bytes
  have hr := B.returns
  have hts := atoms_spec (ws := (zw y_CT_init b_CT_init 1 none)) B.pre
  have htB : ∀ w ∈ BG, w.before ([.ref hC] : List Value).toArray s = true := fun w h => hts w (List.mem_cons_of_mem _ h)
  have hown : s.vm.findClass R_CT = some m.cls := findClass_of_methodNamed B.named
  have hlocks := B.notSynchronized
  have hin : meth.name = "<init>" := (name_of_methodNamed B.named B.method).1
  have CF : CallFix p m c b_CT_init 1 s ([.ref hC] : List Value).toArray BG R_CT := ⟨hx, hb, hml, hown, htB⟩
  have hP : va_P (dC, dI) vwCl [(hC, .inr (1, [.null, .null, .null, .int 0]))] s.heap := hP
  have hl := lv_entry [.ref hC] (n := 1) (Nat.le_of_ble_eq_true rfl)
  rw [lg_entry_eq]
  generalize (lg_sl [.ref hC] ++ List.replicate (1 - (lg_sl [.ref hC]).length) Slot.unset).toArray = ls at hl ⊢
  have hl : lv_has ls 1 [(0, .ref hC)] := hl
  have hD : va_D (va_A [(hC, .inr (1, [.null, .null, .null, .int 0]))] s.heap.size) [(hC, .inr (1, [.null, .null, .null, .int 0]))] := va_D.self zD_1
  generalize hAe : va_A [(hC, .inr (1, [.null, .null, .null, .int 0]))] s.heap.size = A at hD ⊢
  have hA : ∀ q : Nat, s.heap.size ≤ q → A q := fun q h => by rw [← hAe]; exact Or.inr h
  have hS : va_S A s.heap s.heap [] := va_S.rf
  have hK : va_K (dC, dI) vwCl [] s := hK
  refine lv_aload_n hx hb d_CT_init_0 rfl (lv_at hl 0 rfl) ?_
  refine W.objInit hx hb hown (htB _ lk_CT_3) (htB _ mi_obj) (htB _ mc_obj) rfl (by rw [hml]; exact hl.1) rfl d_CT_init_1 (Nat.le_of_ble_eq_true rfl) (Nat.le_of_ble_eq_true rfl) ?_
  refine lv_aload_n hx hb d_CT_init_4 rfl (lv_at hl 0 rfl) ?_
  refine lv_bipush (v := 100) hx hb d_CT_init_5 (by decide) ?_
  refine va_newa (atype := .long) (a0 := (100, .inr (.inl (fun _ => 0)))) (ty := .long) (N' := 100) hx hb (htB _ ma_long) rfl hK hP hD hS hA (fun _ => rfl) (by decide) rfl (by decide) (Nat.le_of_ble_eq_true rfl) (Nat.le_of_ble_eq_true rfl) d_CT_init_7 (fun q_7 c_7A H hK hP hD hS => ?_)
  have hP : va_P (dC, dI) vwCl [(hC, .inr (1, [.null, .null, .null, .int 0])), (q_7, .inl (c_7A, 100, .inr (.inl (fun _ => 0))))] H := hP
  have hD : va_D A [(hC, .inr (1, [.null, .null, .null, .int 0])), (q_7, .inl (c_7A, 100, .inr (.inl (fun _ => 0))))] := hD
  have hK : va_K (dC, dI) vwCl [(c_7A, .long)] s := hK
  refine va_putF (D := (dC, dI)) (ci := 1) (v := .ref q_7) (ty := (.array .long)) (C := R_CT) (T := T_CT) (N := 4) hx hb htB i_CT t_CT tk_CT n_CT hown hK hP hD hS 0 rfl rfl 0 (by decide) (htB _ lf_CT_11) (fun _ h9 => h9) rfl hin rfl (by decide +kernel) rfl rfl (Nat.le_of_ble_eq_true rfl) d_CT_init_9 (fun H locs hP hD hS => ?_)
  have hP : va_P (dC, dI) vwCl [(hC, .inr (1, [.ref q_7, .null, .null, .int 0])), (q_7, .inl (c_7A, 100, .inr (.inl (fun _ => 0))))] H := hP
  have hD : va_D A [(hC, .inr (1, [.ref q_7, .null, .null, .int 0])), (q_7, .inl (c_7A, 100, .inr (.inl (fun _ => 0))))] := hD
  refine lv_aload_n hx hb d_CT_init_12 rfl (lv_at hl 0 rfl) ?_
  refine lv_bipush (v := 100) hx hb d_CT_init_13 (by decide) ?_
  refine va_newa (atype := .int) (a0 := (100, .inl (fun _ => 0))) (ty := .int) (N' := 100) hx hb (htB _ ma_int) rfl hK hP hD hS hA (fun _ => rfl) (by decide) rfl (by decide) (Nat.le_of_ble_eq_true rfl) (Nat.le_of_ble_eq_true rfl) d_CT_init_15 (fun q_15 c_15A H hK hP hD hS => ?_)
  have hP : va_P (dC, dI) vwCl [(hC, .inr (1, [.ref q_7, .null, .null, .int 0])), (q_7, .inl (c_7A, 100, .inr (.inl (fun _ => 0)))), (q_15, .inl (c_15A, 100, .inl (fun _ => 0)))] H := hP
  have hD : va_D A [(hC, .inr (1, [.ref q_7, .null, .null, .int 0])), (q_7, .inl (c_7A, 100, .inr (.inl (fun _ => 0)))), (q_15, .inl (c_15A, 100, .inl (fun _ => 0)))] := hD
  have hK : va_K (dC, dI) vwCl [(c_7A, .long), (c_15A, .int)] s := hK
  refine va_putF (D := (dC, dI)) (ci := 1) (v := .ref q_15) (ty := (.array .int)) (C := R_CT) (T := T_CT) (N := 4) hx hb htB i_CT t_CT tk_CT n_CT hown hK hP hD hS 0 rfl rfl 1 (by decide) (htB _ lf_CT_15) (fun _ h9 => h9) rfl hin rfl (by decide +kernel) rfl rfl (Nat.le_of_ble_eq_true rfl) d_CT_init_17 (fun H locs hP hD hS => ?_)
  have hP : va_P (dC, dI) vwCl [(hC, .inr (1, [.ref q_7, .ref q_15, .null, .int 0])), (q_7, .inl (c_7A, 100, .inr (.inl (fun _ => 0)))), (q_15, .inl (c_15A, 100, .inl (fun _ => 0)))] H := hP
  have hD : va_D A [(hC, .inr (1, [.ref q_7, .ref q_15, .null, .int 0])), (q_7, .inl (c_7A, 100, .inr (.inl (fun _ => 0)))), (q_15, .inl (c_15A, 100, .inl (fun _ => 0)))] := hD
  refine lv_aload_n hx hb d_CT_init_20 rfl (lv_at hl 0 rfl) ?_
  refine lv_bipush (v := 100) hx hb d_CT_init_21 (by decide) ?_
  refine va_newa (atype := .boolean) (a0 := (100, .inl (fun _ => 0))) (ty := .boolean) (N' := 100) hx hb (htB _ ma_bool) rfl hK hP hD hS hA (fun _ => rfl) (by decide) rfl (by decide) (Nat.le_of_ble_eq_true rfl) (Nat.le_of_ble_eq_true rfl) d_CT_init_23 (fun q_23 c_23A H hK hP hD hS => ?_)
  have hP : va_P (dC, dI) vwCl [(hC, .inr (1, [.ref q_7, .ref q_15, .null, .int 0])), (q_7, .inl (c_7A, 100, .inr (.inl (fun _ => 0)))), (q_15, .inl (c_15A, 100, .inl (fun _ => 0))), (q_23, .inl (c_23A, 100, .inl (fun _ => 0)))] H := hP
  have hD : va_D A [(hC, .inr (1, [.ref q_7, .ref q_15, .null, .int 0])), (q_7, .inl (c_7A, 100, .inr (.inl (fun _ => 0)))), (q_15, .inl (c_15A, 100, .inl (fun _ => 0))), (q_23, .inl (c_23A, 100, .inl (fun _ => 0)))] := hD
  have hK : va_K (dC, dI) vwCl [(c_7A, .long), (c_15A, .int), (c_23A, .boolean)] s := hK
  refine va_putF (D := (dC, dI)) (ci := 1) (v := .ref q_23) (ty := (.array .boolean)) (C := R_CT) (T := T_CT) (N := 4) hx hb htB i_CT t_CT tk_CT n_CT hown hK hP hD hS 0 rfl rfl 2 (by decide) (htB _ lf_CT_19) (fun _ h9 => h9) rfl hin rfl (by decide +kernel) rfl rfl (Nat.le_of_ble_eq_true rfl) d_CT_init_25 (fun H locs hP hD hS => ?_)
  have hP : va_P (dC, dI) vwCl [(hC, .inr (1, [.ref q_7, .ref q_15, .ref q_23, .int 0])), (q_7, .inl (c_7A, 100, .inr (.inl (fun _ => 0)))), (q_15, .inl (c_15A, 100, .inl (fun _ => 0))), (q_23, .inl (c_23A, 100, .inl (fun _ => 0)))] H := hP
  have hD : va_D A [(hC, .inr (1, [.ref q_7, .ref q_15, .ref q_23, .int 0])), (q_7, .inl (c_7A, 100, .inr (.inl (fun _ => 0)))), (q_15, .inl (c_15A, 100, .inl (fun _ => 0))), (q_23, .inl (c_23A, 100, .inl (fun _ => 0)))] := hD
  refine lv_aload_n hx hb d_CT_init_28 rfl (lv_at hl 0 rfl) ?_
  refine lv_iconst (v := 0) hx hb d_CT_init_29 (by decide) ?_
  refine va_put (D := (dC, dI)) (ci := 1) (v := .int 0) (ty := .int) (C := R_CT) (T := T_CT) (N := 4) hx hb htB i_CT t_CT tk_CT n_CT hown hK hP hD hS 0 rfl rfl 3 (by decide) (htB _ lf_CT_23) (fun _ h9 => h9) rfl (by decide +kernel) rfl rfl (Nat.le_of_ble_eq_true rfl) d_CT_init_30 (fun H locs hP hD hS => ?_)
  have hP : va_P (dC, dI) vwCl [(hC, .inr (1, [.ref q_7, .ref q_15, .ref q_23, .int 0])), (q_7, .inl (c_7A, 100, .inr (.inl (fun _ => 0)))), (q_15, .inl (c_15A, 100, .inl (fun _ => 0))), (q_23, .inl (c_23A, 100, .inl (fun _ => 0)))] H := hP
  have hD : va_D A [(hC, .inr (1, [.ref q_7, .ref q_15, .ref q_23, .int 0])), (q_7, .inl (c_7A, 100, .inr (.inl (fun _ => 0)))), (q_15, .inl (c_15A, 100, .inl (fun _ => 0))), (q_23, .inl (c_23A, 100, .inl (fun _ => 0)))] := hD
  refine W.widen (k := 3) (n := 300) (by omega) (by omega) ?_
  exact W.vret hx hb hr (fun t ht hW => ⟨⟨(), rfl, trivial, q_7, q_15, q_23, c_7A, c_15A, c_23A, by rw [ht]; exact hP, va_K.moved hW.alike hK, by first | exact hD | (rw [← hAe] at hD; exact hD)⟩, hS.F ht⟩) hS.2.2 d_CT_init_33
set_option maxHeartbeats 4000000 in
set_option maxRecDepth 100000 in
theorem c_AT_init (l : Launch) (dC : Nat → ClassId) (dI : Nat → Nat → Nat) (hT : Nat) (sz : Nat) : Met l y_AT_init (zw y_AT_init b_AT_init 1 none) ({ frames := 1, cells := 3, slots := 640, locals := 23 }) (zPreN [.ref hT] sz (dC, dI) [(hT, .inr (0, [.null, .null, .null, .int 0]))] []) (va_Qv (fun (_ : Unit) => True) (fun (_ : Unit) (t : State) => ∃ hs0 hu0 ho0 : Nat, ∃ cI0 cU0 cO0 : ClassId, va_P (dC, dI) vwCl [(hT, .inr (0, [.ref hs0, .ref hu0, .ref ho0, .int 0])), (hs0, .inl (cI0, 64, .inl (fun _ => 0))), (hu0, .inl (cU0, 512, .inl (zn_fill (-5001) 512))), (ho0, .inl (cO0, 64, .inl (fun _ => 0)))] t.heap ∧ va_K (dC, dI) vwCl [(cI0, .int), (cU0, .int), (cO0, .int)] t ∧ va_D (va_A [(hT, .inr (0, [.null, .null, .null, .int 0]))] sz) [(hT, .inr (0, [.ref hs0, .ref hu0, .ref ho0, .int 0])), (hs0, .inl (cI0, 64, .inl (fun _ => 0))), (hu0, .inl (cU0, 512, .inl (zn_fill (-5001) 512))), (ho0, .inl (cO0, 64, .inl (fun _ => 0)))]) (va_A [(hT, .inr (0, [.null, .null, .null, .int 0]))] sz)) 3 640 (va_A [(hT, .inr (0, [.null, .null, .null, .int 0]))] sz) := by
  refine Met.ofW (cc := b_AT_init) (maxL := 1) (ret := none) (by decide) rfl ?_
  intro p e s m args below meth c s₁ B hml hv
  obtain ⟨rfl, hsz, hP, hK⟩ := hv
  subst hsz
  have hx := B.exec
  have hb := B.bytes
  have hr := B.returns
  have hts := atoms_spec (ws := (zw y_AT_init b_AT_init 1 none)) B.pre
  have htB : ∀ w ∈ BG, w.before ([.ref hT] : List Value).toArray s = true := fun w h => hts w (List.mem_cons_of_mem _ h)
  have hown : s.vm.findClass R_AT = some m.cls := findClass_of_methodNamed B.named
  have hlocks := B.notSynchronized
  have hin : meth.name = "<init>" := (name_of_methodNamed B.named B.method).1
  have CF : CallFix p m c b_AT_init 1 s ([.ref hT] : List Value).toArray BG R_AT := ⟨hx, hb, hml, hown, htB⟩
  have hP : va_P (dC, dI) vwCl [(hT, .inr (0, [.null, .null, .null, .int 0]))] s.heap := hP
  have hl := lv_entry [.ref hT] (n := 1) (Nat.le_of_ble_eq_true rfl)
  rw [lg_entry_eq]
  generalize (lg_sl [.ref hT] ++ List.replicate (1 - (lg_sl [.ref hT]).length) Slot.unset).toArray = ls at hl ⊢
  have hl : lv_has ls 1 [(0, .ref hT)] := hl
  have hD : va_D (va_A [(hT, .inr (0, [.null, .null, .null, .int 0]))] s.heap.size) [(hT, .inr (0, [.null, .null, .null, .int 0]))] := va_D.self zD_1
  generalize hAe : va_A [(hT, .inr (0, [.null, .null, .null, .int 0]))] s.heap.size = A at hD ⊢
  have hA : ∀ q : Nat, s.heap.size ≤ q → A q := fun q h => by rw [← hAe]; exact Or.inr h
  have hS : va_S A s.heap s.heap [] := va_S.rf
  have hK : va_K (dC, dI) vwCl [] s := hK
  refine lv_aload_n hx hb d_AT_init_0 rfl (lv_at hl 0 rfl) ?_
  refine W.objInit hx hb hown (htB _ lk_AT_3) (htB _ mi_obj) (htB _ mc_obj) rfl (by rw [hml]; exact hl.1) rfl d_AT_init_1 (Nat.le_of_ble_eq_true rfl) (Nat.le_of_ble_eq_true rfl) ?_
  refine lv_aload_n hx hb d_AT_init_4 rfl (lv_at hl 0 rfl) ?_
  refine lv_bipush (v := 64) hx hb d_AT_init_5 (by decide) ?_
  refine va_newa (atype := .int) (a0 := (64, .inl (fun _ => 0))) (ty := .int) (N' := 64) hx hb (htB _ ma_int) rfl hK hP hD hS hA (fun _ => rfl) (by decide) rfl (by decide) (Nat.le_of_ble_eq_true rfl) (Nat.le_of_ble_eq_true rfl) d_AT_init_7 (fun q_7 c_7A H hK hP hD hS => ?_)
  have hP : va_P (dC, dI) vwCl [(hT, .inr (0, [.null, .null, .null, .int 0])), (q_7, .inl (c_7A, 64, .inl (fun _ => 0)))] H := hP
  have hD : va_D A [(hT, .inr (0, [.null, .null, .null, .int 0])), (q_7, .inl (c_7A, 64, .inl (fun _ => 0)))] := hD
  have hK : va_K (dC, dI) vwCl [(c_7A, .int)] s := hK
  refine va_putF (D := (dC, dI)) (ci := 0) (v := .ref q_7) (ty := (.array .int)) (C := R_AT) (T := T_AT) (N := 4) hx hb htB i_AT t_AT tk_AT n_AT hown hK hP hD hS 0 rfl rfl 0 (by decide) (htB _ lf_AT_11) (fun _ h9 => h9) rfl hin rfl (by decide +kernel) rfl rfl (Nat.le_of_ble_eq_true rfl) d_AT_init_9 (fun H locs hP hD hS => ?_)
  have hP : va_P (dC, dI) vwCl [(hT, .inr (0, [.ref q_7, .null, .null, .int 0])), (q_7, .inl (c_7A, 64, .inl (fun _ => 0)))] H := hP
  have hD : va_D A [(hT, .inr (0, [.ref q_7, .null, .null, .int 0])), (q_7, .inl (c_7A, 64, .inl (fun _ => 0)))] := hD
  refine lv_aload_n hx hb d_AT_init_12 rfl (lv_at hl 0 rfl) ?_
  refine lv_sipush (v := 512) hx hb d_AT_init_13 (by decide) ?_
  refine va_newa (atype := .int) (a0 := (512, .inl (fun _ => 0))) (ty := .int) (N' := 512) hx hb (htB _ ma_int) rfl hK hP hD hS hA (fun _ => rfl) (by decide) rfl (by decide) (Nat.le_of_ble_eq_true rfl) (Nat.le_of_ble_eq_true rfl) d_AT_init_16 (fun q_16 c_16A H hK hP hD hS => ?_)
  have hP : va_P (dC, dI) vwCl [(hT, .inr (0, [.ref q_7, .null, .null, .int 0])), (q_7, .inl (c_7A, 64, .inl (fun _ => 0))), (q_16, .inl (c_16A, 512, .inl (fun _ => 0)))] H := hP
  have hD : va_D A [(hT, .inr (0, [.ref q_7, .null, .null, .int 0])), (q_7, .inl (c_7A, 64, .inl (fun _ => 0))), (q_16, .inl (c_16A, 512, .inl (fun _ => 0)))] := hD
  have hK : va_K (dC, dI) vwCl [(c_7A, .int), (c_16A, .int)] s := hK
  refine va_putF (D := (dC, dI)) (ci := 0) (v := .ref q_16) (ty := (.array .int)) (C := R_AT) (T := T_AT) (N := 4) hx hb htB i_AT t_AT tk_AT n_AT hown hK hP hD hS 0 rfl rfl 1 (by decide) (htB _ lf_AT_15) (fun _ h9 => h9) rfl hin rfl (by decide +kernel) rfl rfl (Nat.le_of_ble_eq_true rfl) d_AT_init_18 (fun H locs hP hD hS => ?_)
  have hP : va_P (dC, dI) vwCl [(hT, .inr (0, [.ref q_7, .ref q_16, .null, .int 0])), (q_7, .inl (c_7A, 64, .inl (fun _ => 0))), (q_16, .inl (c_16A, 512, .inl (fun _ => 0)))] H := hP
  have hD : va_D A [(hT, .inr (0, [.ref q_7, .ref q_16, .null, .int 0])), (q_7, .inl (c_7A, 64, .inl (fun _ => 0))), (q_16, .inl (c_16A, 512, .inl (fun _ => 0)))] := hD
  refine lv_aload_n hx hb d_AT_init_21 rfl (lv_at hl 0 rfl) ?_
  refine lv_bipush (v := 64) hx hb d_AT_init_22 (by decide) ?_
  refine va_newa (atype := .int) (a0 := (64, .inl (fun _ => 0))) (ty := .int) (N' := 64) hx hb (htB _ ma_int) rfl hK hP hD hS hA (fun _ => rfl) (by decide) rfl (by decide) (Nat.le_of_ble_eq_true rfl) (Nat.le_of_ble_eq_true rfl) d_AT_init_24 (fun q_24 c_24A H hK hP hD hS => ?_)
  have hP : va_P (dC, dI) vwCl [(hT, .inr (0, [.ref q_7, .ref q_16, .null, .int 0])), (q_7, .inl (c_7A, 64, .inl (fun _ => 0))), (q_16, .inl (c_16A, 512, .inl (fun _ => 0))), (q_24, .inl (c_24A, 64, .inl (fun _ => 0)))] H := hP
  have hD : va_D A [(hT, .inr (0, [.ref q_7, .ref q_16, .null, .int 0])), (q_7, .inl (c_7A, 64, .inl (fun _ => 0))), (q_16, .inl (c_16A, 512, .inl (fun _ => 0))), (q_24, .inl (c_24A, 64, .inl (fun _ => 0)))] := hD
  have hK : va_K (dC, dI) vwCl [(c_7A, .int), (c_16A, .int), (c_24A, .int)] s := hK
  refine va_putF (D := (dC, dI)) (ci := 0) (v := .ref q_24) (ty := (.array .int)) (C := R_AT) (T := T_AT) (N := 4) hx hb htB i_AT t_AT tk_AT n_AT hown hK hP hD hS 0 rfl rfl 2 (by decide) (htB _ lf_AT_18) (fun _ h9 => h9) rfl hin rfl (by decide +kernel) rfl rfl (Nat.le_of_ble_eq_true rfl) d_AT_init_26 (fun H locs hP hD hS => ?_)
  have hP : va_P (dC, dI) vwCl [(hT, .inr (0, [.ref q_7, .ref q_16, .ref q_24, .int 0])), (q_7, .inl (c_7A, 64, .inl (fun _ => 0))), (q_16, .inl (c_16A, 512, .inl (fun _ => 0))), (q_24, .inl (c_24A, 64, .inl (fun _ => 0)))] H := hP
  have hD : va_D A [(hT, .inr (0, [.ref q_7, .ref q_16, .ref q_24, .int 0])), (q_7, .inl (c_7A, 64, .inl (fun _ => 0))), (q_16, .inl (c_16A, 512, .inl (fun _ => 0))), (q_24, .inl (c_24A, 64, .inl (fun _ => 0)))] := hD
  refine lv_aload_n hx hb d_AT_init_29 rfl (lv_at hl 0 rfl) ?_
  refine lv_iconst (v := 0) hx hb d_AT_init_30 (by decide) ?_
  refine va_put (D := (dC, dI)) (ci := 0) (v := .int 0) (ty := .int) (C := R_AT) (T := T_AT) (N := 4) hx hb htB i_AT t_AT tk_AT n_AT hown hK hP hD hS 0 rfl rfl 3 (by decide) (htB _ lf_AT_21) (fun _ h9 => h9) rfl (by decide +kernel) rfl rfl (Nat.le_of_ble_eq_true rfl) d_AT_init_31 (fun H locs hP hD hS => ?_)
  have hP : va_P (dC, dI) vwCl [(hT, .inr (0, [.ref q_7, .ref q_16, .ref q_24, .int 0])), (q_7, .inl (c_7A, 64, .inl (fun _ => 0))), (q_16, .inl (c_16A, 512, .inl (fun _ => 0))), (q_24, .inl (c_24A, 64, .inl (fun _ => 0)))] H := hP
  have hD : va_D A [(hT, .inr (0, [.ref q_7, .ref q_16, .ref q_24, .int 0])), (q_7, .inl (c_7A, 64, .inl (fun _ => 0))), (q_16, .inl (c_16A, 512, .inl (fun _ => 0))), (q_24, .inl (c_24A, 64, .inl (fun _ => 0)))] := hD
  refine lv_aload_n hx hb d_AT_init_34 rfl (lv_at hl 0 rfl) ?_
  refine va_get (D := (dC, dI)) (ci := 0) (v := .ref q_16) (C := R_AT) (T := T_AT) (N := 4) hx hb htB i_AT hown hK hP 0 rfl rfl 1 (by decide) (htB _ lf_AT_15) (fun _ h9 => h9) rfl d_AT_init_35 ?_
  refine lv_sipush (v := (-5001)) hx hb d_AT_init_38 (by decide) ?_
  refine va_callv (zr_S (n := 2) (As := [.ref q_16, .int (-5001)]) (rest := []) CF (c_AR_fill l dC dI q_16 c_16A (-5001) ((hD.sub (ws' := [(q_16, .inl (c_16A, 512, .inl (fun _ => 0)))]) [2] (by decide) rfl).weaken (fun _ _ _ _ => trivial))) mc_AR_fill (show Cond.methodLink R_AT 25 y_AR_fill ∈ BG from lk_AT_25) mt_AR_fill ni_AR rfl rfl (by decide +kernel) ⟨Nat.le_of_ble_eq_true rfl, Nat.le_of_ble_eq_true rfl⟩ (hP.sub (ws' := [(q_16, .inl (c_16A, 512, .inl (fun _ => 0)))]) [2] rfl) (hK.sub (tys' := [(c_16A, .int)]) [1] rfl) rfl rfl hl.1 rfl (lv_room (Nat.le_of_ble_eq_true rfl)) d_AT_init_41 ⟨Nat.le_of_ble_eq_true rfl, Nat.le_of_ble_eq_true rfl⟩) hS (fun q _ h => zA_sub hD (wc := [(q_16, .inl (c_16A, 512, .inl (fun _ => 0)))]) [2] rfl h) (fun q h => zA_sub hD (wc := [(q_16, .inl (c_16A, 512, .inl (fun _ => 0)))]) [2] rfl h) (fun u t H1 locs1 ht hvm hw_41 hB hz hk9 hS => ?_)
  have hP1 : va_P (dC, dI) vwCl [(q_16, .inl (c_16A, 512, .inl (zn_fill (-5001) 512)))] H1 := by
    have h9 : va_P (dC, dI) vwCl [(q_16, .inl (c_16A, 512, .inl (zn_fill (-5001) 512)))] t.heap := hB
    rw [ht] at h9
    exact h9
  have hP : va_P (dC, dI) vwCl [(hT, .inr (0, [.ref q_7, .ref q_16, .ref q_24, .int 0])), (q_7, .inl (c_7A, 64, .inl (fun _ => 0))), (q_16, .inl (c_16A, 512, .inl (zn_fill (-5001) 512))), (q_24, .inl (c_24A, 64, .inl (fun _ => 0)))] H1 := zj (wc := [(q_16, .inl (c_16A, 512, .inl (fun _ => 0)))]) hP hD [2] rfl hP1 hk9 rfl rfl
  have hD : va_D A [(hT, .inr (0, [.ref q_7, .ref q_16, .ref q_24, .int 0])), (q_7, .inl (c_7A, 64, .inl (fun _ => 0))), (q_16, .inl (c_16A, 512, .inl (zn_fill (-5001) 512))), (q_24, .inl (c_24A, 64, .inl (fun _ => 0)))] := zD_of (ws := [(hT, .inr (0, [.ref q_7, .ref q_16, .ref q_24, .int 0])), (q_7, .inl (c_7A, 64, .inl (fun _ => 0))), (q_16, .inl (c_16A, 512, .inl (fun _ => 0))), (q_24, .inl (c_24A, 64, .inl (fun _ => 0)))]) rfl hD
  generalize H1 = H at hP hS ⊢
  refine W.widen (k := 3) (n := 640) (by omega) (by omega) ?_
  exact W.vret hx hb hr (fun t ht hW => ⟨⟨(), rfl, trivial, q_7, q_16, q_24, c_7A, c_16A, c_24A, by rw [ht]; exact hP, va_K.moved hW.alike hK, by first | exact hD | (rw [← hAe] at hD; exact hD)⟩, hS.F ht⟩) hS.2.2 d_AT_init_44
