/-- how many of the n places from b on hold t or more -/
def zu_cnt (f : Nat → Int32) (t : Int32) (b : Nat) : Nat → Nat
  | 0 => 0
  | n + 1 => zu_cnt f t b n + (if t ≤ f (b + n) then 1 else 0)
theorem zu_le (f : Nat → Int32) (t : Int32) (b n : Nat) : zu_cnt f t b n ≤ n := by
  induction n with
  | zero => simp [zu_cnt]
  | succ n ih => simp only [zu_cnt]; split <;> omega
set_option maxHeartbeats 4000000 in
set_option maxRecDepth 100000 in
theorem c_AT_issuerOf (l : Launch) (dC : Nat → ClassId) (dI : Nat → Nat → Nat) (hT hs hu ho : Nat) (cI cU cO : ClassId) (ac : Nat) (ai ut ol : Nat → Int32) (hac : ac ≤ 64) (j : Nat) (hj : j < ac) : Met l y_AT_issuerOf (zw y_AT_issuerOf b_AT_issuerOf 2 (some .int)) ({ frames := 1, cells := 0, slots := 0, locals := 21 }) (zPre [.ref hT, .int (nI j)] (dC, dI) [(hT, .inr (0, [.ref hs, .ref hu, .ref ho, .int (nI ac)])), (hs, .inl (cI, 64, .inl ai)), (hu, .inl (cU, 512, .inl ut)), (ho, .inl (cO, 64, .inl ol))] [(cI, .int), (cU, .int), (cO, .int)]) (vp_Si (fun r => r = ai j)) 0 0 (fun _ => False) := by
  refine Met.ofW (cc := b_AT_issuerOf) (maxL := 2) (ret := (some .int)) (by decide) rfl ?_
  intro p e s m args below meth c s₁ B hml hv
  obtain ⟨rfl, hP, hK⟩ := hv
  have hx := B.exec
  have hb := B.bytes
  have hr := B.returns
  have hts := atoms_spec (ws := (zw y_AT_issuerOf b_AT_issuerOf 2 (some .int))) B.pre
  have htB : ∀ w ∈ BG, w.before ([.ref hT, .int (nI j)] : List Value).toArray s = true := fun w h => hts w (List.mem_cons_of_mem _ h)
  have hown : s.vm.findClass R_AT = some m.cls := findClass_of_methodNamed B.named
  have hlocks := B.notSynchronized
  have CF : CallFix p m c b_AT_issuerOf 2 s ([.ref hT, .int (nI j)] : List Value).toArray BG R_AT := ⟨hx, hb, hml, hown, htB⟩
  have hP : va_P (dC, dI) vwCl [(hT, .inr (0, [.ref hs, .ref hu, .ref ho, .int (nI ac)])), (hs, .inl (cI, 64, .inl ai)), (hu, .inl (cU, 512, .inl ut)), (ho, .inl (cO, 64, .inl ol))] s.heap := hP
  have hl := lv_entry [.ref hT, .int (nI j)] (n := 2) (Nat.le_of_ble_eq_true rfl)
  rw [lg_entry_eq]
  generalize (lg_sl [.ref hT, .int (nI j)] ++ List.replicate (2 - (lg_sl [.ref hT, .int (nI j)]).length) Slot.unset).toArray = ls at hl ⊢
  have hl : lv_has ls 2 [(0, .ref hT), (1, .int (nI j))] := hl
  have b_13 : vp_in (nI j) 64 := vp_in_nI (by omega) (by omega)
  refine lv_aload_n hx hb d_AT_issuerOf_0 rfl (lv_at hl 0 rfl) ?_
  refine lv_iload_n hx hb d_AT_issuerOf_1 rfl (lv_at hl 1 rfl) ?_
  refine vp_callSi (va_Run.run (zr_V (n := 1) (As := [.int (nI j)]) (rest := []) CF (c_AT_has l dC dI hT hs hu ho cI cU cO ac ai ut ol hac (nI j)) mc_AT_has lk_AT_31 mi_AT_has ms_AT_has ni_AT rfl rfl (by decide +kernel) ⟨Nat.le_of_ble_eq_true rfl, Nat.le_of_ble_eq_true rfl⟩ (hP.sub (ws' := [(hT, .inr (0, [.ref hs, .ref hu, .ref ho, .int (nI ac)])), (hs, .inl (cI, 64, .inl ai)), (hu, .inl (cU, 512, .inl ut)), (ho, .inl (cO, 64, .inl ol))]) [0, 1, 2, 3] rfl) (hK.sub (tys' := [(cI, .int), (cU, .int), (cO, .int)]) [0, 1, 2] rfl) rfl rfl rfl hl.1 rfl (lv_room (Nat.le_of_ble_eq_true rfl)) d_AT_issuerOf_2 ⟨Nat.zero_le _, Nat.zero_le _⟩)) (fun r_2 h_2 => ?_)
  rw [if_pos (show 0 ≤ (nI j).toInt ∧ (nI j).toInt < ac by rw [nI_toInt (by omega)]; omega)] at h_2
  subst h_2
  refine lv_if_eq (tgt := 17) hx hb d_AT_issuerOf_5 (by decide) (fun c_5 => ?_) (fun c_5 => ?_)
  · exact absurd c_5 (by decide)
  · refine lv_aload_n hx hb d_AT_issuerOf_8 rfl (lv_at hl 0 rfl) ?_
    refine va_get (D := (dC, dI)) (ci := 0) (v := .ref hs) (C := R_AT) (T := T_AT) (N := 4) hx hb htB i_AT hown hK hP 0 rfl rfl 0 (by decide) (htB _ lf_AT_11) (fun _ h9 => h9) rfl d_AT_issuerOf_9 ?_
    refine lv_iload_n hx hb d_AT_issuerOf_12 rfl (lv_at hl 1 rfl) ?_
    refine va_iald hx hb hK hP 1 0 rfl rfl b_13 d_AT_issuerOf_13 ?_
    rw [nI_clamp (n := j) (by omega)]
    refine lv_goto (tgt := 18) hx hb d_AT_issuerOf_14 (by decide) ?_
    exact W.iret (v := ai j) hx hb hr (fun t ht hW => ⟨_, rfl, rfl, ht⟩) (fun _ h => by cases h) d_AT_issuerOf_18
set_option maxHeartbeats 4000000 in
set_option maxRecDepth 100000 in
theorem c_CT_numberOf (l : Launch) (dC : Nat → ClassId) (dI : Nat → Nat → Nat) (hC hn ha hk : Nat) (cN cA cK : ClassId) (cc : Nat) (cn : Nat → Int64) (ca cb : Nat → Int32) (hcc : cc ≤ 100) (j : Nat) (hj : j < cc) : Met l y_CT_numberOf (zw y_CT_numberOf b_CT_numberOf 2 (some .long)) ({ frames := 1, cells := 0, slots := 0, locals := 21 }) (zPre [.ref hC, .int (nI j)] (dC, dI) [(hC, .inr (1, [.ref hn, .ref ha, .ref hk, .int (nI cc)])), (hn, .inl (cN, 100, .inr (.inl cn))), (ha, .inl (cA, 100, .inl ca)), (hk, .inl (cK, 100, .inl cb))] [(cN, .long), (cA, .int), (cK, .boolean)]) (vp_Sl (fun r => r = cn j)) 0 0 (fun _ => False) := by
  refine Met.ofW (cc := b_CT_numberOf) (maxL := 2) (ret := (some .long)) (by decide) rfl ?_
  intro p e s m args below meth c s₁ B hml hv
  obtain ⟨rfl, hP, hK⟩ := hv
  have hx := B.exec
  have hb := B.bytes
  have hr := B.returns
  have hts := atoms_spec (ws := (zw y_CT_numberOf b_CT_numberOf 2 (some .long))) B.pre
  have htB : ∀ w ∈ BG, w.before ([.ref hC, .int (nI j)] : List Value).toArray s = true := fun w h => hts w (List.mem_cons_of_mem _ h)
  have hown : s.vm.findClass R_CT = some m.cls := findClass_of_methodNamed B.named
  have hlocks := B.notSynchronized
  have CF : CallFix p m c b_CT_numberOf 2 s ([.ref hC, .int (nI j)] : List Value).toArray BG R_CT := ⟨hx, hb, hml, hown, htB⟩
  have hP : va_P (dC, dI) vwCl [(hC, .inr (1, [.ref hn, .ref ha, .ref hk, .int (nI cc)])), (hn, .inl (cN, 100, .inr (.inl cn))), (ha, .inl (cA, 100, .inl ca)), (hk, .inl (cK, 100, .inl cb))] s.heap := hP
  have hl := lv_entry [.ref hC, .int (nI j)] (n := 2) (Nat.le_of_ble_eq_true rfl)
  rw [lg_entry_eq]
  generalize (lg_sl [.ref hC, .int (nI j)] ++ List.replicate (2 - (lg_sl [.ref hC, .int (nI j)]).length) Slot.unset).toArray = ls at hl ⊢
  have hl : lv_has ls 2 [(0, .ref hC), (1, .int (nI j))] := hl
  have b_13 : vp_in (nI j) 100 := vp_in_nI (by omega) (by omega)
  refine lv_aload_n hx hb d_CT_numberOf_0 rfl (lv_at hl 0 rfl) ?_
  refine lv_iload_n hx hb d_CT_numberOf_1 rfl (lv_at hl 1 rfl) ?_
  refine vp_callSi (va_Run.run (zr_V (n := 1) (As := [.int (nI j)]) (rest := []) CF (c_CT_has l dC dI hC hn ha hk cN cA cK cc cn ca cb hcc (nI j)) mc_CT_has lk_CT_27 mi_CT_has ms_CT_has ni_CT rfl rfl (by decide +kernel) ⟨Nat.le_of_ble_eq_true rfl, Nat.le_of_ble_eq_true rfl⟩ (hP.sub (ws' := [(hC, .inr (1, [.ref hn, .ref ha, .ref hk, .int (nI cc)])), (hn, .inl (cN, 100, .inr (.inl cn))), (ha, .inl (cA, 100, .inl ca)), (hk, .inl (cK, 100, .inl cb))]) [0, 1, 2, 3] rfl) (hK.sub (tys' := [(cN, .long), (cA, .int), (cK, .boolean)]) [0, 1, 2] rfl) rfl rfl rfl hl.1 rfl (lv_room (Nat.le_of_ble_eq_true rfl)) d_CT_numberOf_2 ⟨Nat.zero_le _, Nat.zero_le _⟩)) (fun r_2 h_2 => ?_)
  rw [if_pos (show 0 ≤ (nI j).toInt ∧ (nI j).toInt < cc by rw [nI_toInt (by omega)]; omega)] at h_2
  subst h_2
  refine lv_if_eq (tgt := 17) hx hb d_CT_numberOf_5 (by decide) (fun c_5 => ?_) (fun c_5 => ?_)
  · exact absurd c_5 (by decide)
  · refine lv_aload_n hx hb d_CT_numberOf_8 rfl (lv_at hl 0 rfl) ?_
    refine va_get (D := (dC, dI)) (ci := 1) (v := .ref hn) (C := R_CT) (T := T_CT) (N := 4) hx hb htB i_CT hown hK hP 0 rfl rfl 0 (by decide) (htB _ lf_CT_11) (fun _ h9 => h9) rfl d_CT_numberOf_9 ?_
    refine lv_iload_n hx hb d_CT_numberOf_12 rfl (lv_at hl 1 rfl) ?_
    refine va_lald hx hb hK hP 1 0 rfl rfl b_13 d_CT_numberOf_13 ?_
    rw [nI_clamp (n := j) (by omega)]
    refine lv_goto (tgt := 18) hx hb d_CT_numberOf_14 (by decide) ?_
    exact W.lret (v := cn j) hx hb hr (fun t ht hW => ⟨_, rfl, rfl, ht⟩) (fun _ h => by cases h) d_CT_numberOf_18
set_option maxHeartbeats 4000000 in
set_option maxRecDepth 100000 in
theorem c_CT_accountOf (l : Launch) (dC : Nat → ClassId) (dI : Nat → Nat → Nat) (hC hn ha hk : Nat) (cN cA cK : ClassId) (cc : Nat) (cn : Nat → Int64) (ca cb : Nat → Int32) (hcc : cc ≤ 100) (j : Nat) (hj : j < cc) : Met l y_CT_accountOf (zw y_CT_accountOf b_CT_accountOf 2 (some .int)) ({ frames := 1, cells := 0, slots := 0, locals := 21 }) (zPre [.ref hC, .int (nI j)] (dC, dI) [(hC, .inr (1, [.ref hn, .ref ha, .ref hk, .int (nI cc)])), (hn, .inl (cN, 100, .inr (.inl cn))), (ha, .inl (cA, 100, .inl ca)), (hk, .inl (cK, 100, .inl cb))] [(cN, .long), (cA, .int), (cK, .boolean)]) (vp_Si (fun r => r = ca j)) 0 0 (fun _ => False) := by
  refine Met.ofW (cc := b_CT_accountOf) (maxL := 2) (ret := (some .int)) (by decide) rfl ?_
  intro p e s m args below meth c s₁ B hml hv
  obtain ⟨rfl, hP, hK⟩ := hv
  have hx := B.exec
  have hb := B.bytes
  have hr := B.returns
  have hts := atoms_spec (ws := (zw y_CT_accountOf b_CT_accountOf 2 (some .int))) B.pre
  have htB : ∀ w ∈ BG, w.before ([.ref hC, .int (nI j)] : List Value).toArray s = true := fun w h => hts w (List.mem_cons_of_mem _ h)
  have hown : s.vm.findClass R_CT = some m.cls := findClass_of_methodNamed B.named
  have hlocks := B.notSynchronized
  have CF : CallFix p m c b_CT_accountOf 2 s ([.ref hC, .int (nI j)] : List Value).toArray BG R_CT := ⟨hx, hb, hml, hown, htB⟩
  have hP : va_P (dC, dI) vwCl [(hC, .inr (1, [.ref hn, .ref ha, .ref hk, .int (nI cc)])), (hn, .inl (cN, 100, .inr (.inl cn))), (ha, .inl (cA, 100, .inl ca)), (hk, .inl (cK, 100, .inl cb))] s.heap := hP
  have hl := lv_entry [.ref hC, .int (nI j)] (n := 2) (Nat.le_of_ble_eq_true rfl)
  rw [lg_entry_eq]
  generalize (lg_sl [.ref hC, .int (nI j)] ++ List.replicate (2 - (lg_sl [.ref hC, .int (nI j)]).length) Slot.unset).toArray = ls at hl ⊢
  have hl : lv_has ls 2 [(0, .ref hC), (1, .int (nI j))] := hl
  have b_13 : vp_in (nI j) 100 := vp_in_nI (by omega) (by omega)
  refine lv_aload_n hx hb d_CT_accountOf_0 rfl (lv_at hl 0 rfl) ?_
  refine lv_iload_n hx hb d_CT_accountOf_1 rfl (lv_at hl 1 rfl) ?_
  refine vp_callSi (va_Run.run (zr_V (n := 1) (As := [.int (nI j)]) (rest := []) CF (c_CT_has l dC dI hC hn ha hk cN cA cK cc cn ca cb hcc (nI j)) mc_CT_has lk_CT_27 mi_CT_has ms_CT_has ni_CT rfl rfl (by decide +kernel) ⟨Nat.le_of_ble_eq_true rfl, Nat.le_of_ble_eq_true rfl⟩ (hP.sub (ws' := [(hC, .inr (1, [.ref hn, .ref ha, .ref hk, .int (nI cc)])), (hn, .inl (cN, 100, .inr (.inl cn))), (ha, .inl (cA, 100, .inl ca)), (hk, .inl (cK, 100, .inl cb))]) [0, 1, 2, 3] rfl) (hK.sub (tys' := [(cN, .long), (cA, .int), (cK, .boolean)]) [0, 1, 2] rfl) rfl rfl rfl hl.1 rfl (lv_room (Nat.le_of_ble_eq_true rfl)) d_CT_accountOf_2 ⟨Nat.zero_le _, Nat.zero_le _⟩)) (fun r_2 h_2 => ?_)
  rw [if_pos (show 0 ≤ (nI j).toInt ∧ (nI j).toInt < cc by rw [nI_toInt (by omega)]; omega)] at h_2
  subst h_2
  refine lv_if_eq (tgt := 17) hx hb d_CT_accountOf_5 (by decide) (fun c_5 => ?_) (fun c_5 => ?_)
  · exact absurd c_5 (by decide)
  · refine lv_aload_n hx hb d_CT_accountOf_8 rfl (lv_at hl 0 rfl) ?_
    refine va_get (D := (dC, dI)) (ci := 1) (v := .ref ha) (C := R_CT) (T := T_CT) (N := 4) hx hb htB i_CT hown hK hP 0 rfl rfl 1 (by decide) (htB _ lf_CT_15) (fun _ h9 => h9) rfl d_CT_accountOf_9 ?_
    refine lv_iload_n hx hb d_CT_accountOf_12 rfl (lv_at hl 1 rfl) ?_
    refine va_iald hx hb hK hP 2 1 rfl rfl b_13 d_CT_accountOf_13 ?_
    rw [nI_clamp (n := j) (by omega)]
    refine lv_goto (tgt := 18) hx hb d_CT_accountOf_14 (by decide) ?_
    exact W.iret (v := ca j) hx hb hr (fun t ht hW => ⟨_, rfl, rfl, ht⟩) (fun _ h => by cases h) d_CT_accountOf_18
set_option maxHeartbeats 4000000 in
set_option maxRecDepth 100000 in
theorem c_CT_isBlocked (l : Launch) (dC : Nat → ClassId) (dI : Nat → Nat → Nat) (hC hn ha hk : Nat) (cN cA cK : ClassId) (cc : Nat) (cn : Nat → Int64) (ca cb : Nat → Int32) (hcc : cc ≤ 100) (j : Nat) (hj : j < cc) : Met l y_CT_isBlocked (zw y_CT_isBlocked b_CT_isBlocked 2 (some .boolean)) ({ frames := 1, cells := 0, slots := 0, locals := 21 }) (zPre [.ref hC, .int (nI j)] (dC, dI) [(hC, .inr (1, [.ref hn, .ref ha, .ref hk, .int (nI cc)])), (hn, .inl (cN, 100, .inr (.inl cn))), (ha, .inl (cA, 100, .inl ca)), (hk, .inl (cK, 100, .inl cb))] [(cN, .long), (cA, .int), (cK, .boolean)]) (vp_Si (fun r => r = if cb j = 0 then 0 else 1)) 0 0 (fun _ => False) := by
  refine Met.ofW (cc := b_CT_isBlocked) (maxL := 2) (ret := (some .boolean)) (by decide) rfl ?_
  intro p e s m args below meth c s₁ B hml hv
  obtain ⟨rfl, hP, hK⟩ := hv
  have hx := B.exec
  have hb := B.bytes
  have hr := B.returns
  have hts := atoms_spec (ws := (zw y_CT_isBlocked b_CT_isBlocked 2 (some .boolean))) B.pre
  have htB : ∀ w ∈ BG, w.before ([.ref hC, .int (nI j)] : List Value).toArray s = true := fun w h => hts w (List.mem_cons_of_mem _ h)
  have hown : s.vm.findClass R_CT = some m.cls := findClass_of_methodNamed B.named
  have hlocks := B.notSynchronized
  have CF : CallFix p m c b_CT_isBlocked 2 s ([.ref hC, .int (nI j)] : List Value).toArray BG R_CT := ⟨hx, hb, hml, hown, htB⟩
  have hP : va_P (dC, dI) vwCl [(hC, .inr (1, [.ref hn, .ref ha, .ref hk, .int (nI cc)])), (hn, .inl (cN, 100, .inr (.inl cn))), (ha, .inl (cA, 100, .inl ca)), (hk, .inl (cK, 100, .inl cb))] s.heap := hP
  have hl := lv_entry [.ref hC, .int (nI j)] (n := 2) (Nat.le_of_ble_eq_true rfl)
  rw [lg_entry_eq]
  generalize (lg_sl [.ref hC, .int (nI j)] ++ List.replicate (2 - (lg_sl [.ref hC, .int (nI j)]).length) Slot.unset).toArray = ls at hl ⊢
  have hl : lv_has ls 2 [(0, .ref hC), (1, .int (nI j))] := hl
  have b_13 : vp_in (nI j) 100 := vp_in_nI (by omega) (by omega)
  refine lv_aload_n hx hb d_CT_isBlocked_0 rfl (lv_at hl 0 rfl) ?_
  refine lv_iload_n hx hb d_CT_isBlocked_1 rfl (lv_at hl 1 rfl) ?_
  refine vp_callSi (va_Run.run (zr_V (n := 1) (As := [.int (nI j)]) (rest := []) CF (c_CT_has l dC dI hC hn ha hk cN cA cK cc cn ca cb hcc (nI j)) mc_CT_has lk_CT_27 mi_CT_has ms_CT_has ni_CT rfl rfl (by decide +kernel) ⟨Nat.le_of_ble_eq_true rfl, Nat.le_of_ble_eq_true rfl⟩ (hP.sub (ws' := [(hC, .inr (1, [.ref hn, .ref ha, .ref hk, .int (nI cc)])), (hn, .inl (cN, 100, .inr (.inl cn))), (ha, .inl (cA, 100, .inl ca)), (hk, .inl (cK, 100, .inl cb))]) [0, 1, 2, 3] rfl) (hK.sub (tys' := [(cN, .long), (cA, .int), (cK, .boolean)]) [0, 1, 2] rfl) rfl rfl rfl hl.1 rfl (lv_room (Nat.le_of_ble_eq_true rfl)) d_CT_isBlocked_2 ⟨Nat.zero_le _, Nat.zero_le _⟩)) (fun r_2 h_2 => ?_)
  rw [if_pos (show 0 ≤ (nI j).toInt ∧ (nI j).toInt < cc by rw [nI_toInt (by omega)]; omega)] at h_2
  subst h_2
  refine lv_if_eq (tgt := 21) hx hb d_CT_isBlocked_5 (by decide) (fun c_5 => ?_) (fun c_5 => ?_)
  · exact absurd c_5 (by decide)
  · refine lv_aload_n hx hb d_CT_isBlocked_8 rfl (lv_at hl 0 rfl) ?_
    refine va_get (D := (dC, dI)) (ci := 1) (v := .ref hk) (C := R_CT) (T := T_CT) (N := 4) hx hb htB i_CT hown hK hP 0 rfl rfl 2 (by decide) (htB _ lf_CT_19) (fun _ h9 => h9) rfl d_CT_isBlocked_9 ?_
    refine lv_iload_n hx hb d_CT_isBlocked_12 rfl (lv_at hl 1 rfl) ?_
    refine va_zald hx hb hK hP 3 2 rfl rfl b_13 d_CT_isBlocked_13 ?_
    rw [nI_clamp (n := j) (by omega)]
    refine lv_if_eq (tgt := 21) hx hb d_CT_isBlocked_14 (by decide) (fun c_14 => ?_) (fun c_14 => ?_)
    · refine lv_iconst (v := 0) hx hb d_CT_isBlocked_21 (by decide) ?_
      exact W.zret (v := 0) (ty := .boolean) hx hb hr rfl (fun t ht hW => ⟨_, rfl, by rw [if_pos c_14], ht⟩) (fun _ h => by cases h) d_CT_isBlocked_22
    · refine lv_iconst (v := 1) hx hb d_CT_isBlocked_17 (by decide) ?_
      refine lv_goto (tgt := 22) hx hb d_CT_isBlocked_18 (by decide) ?_
      exact W.zret (v := 1) (ty := .boolean) hx hb hr rfl (fun t ht hW => ⟨_, rfl, by rw [if_neg c_14], ht⟩) (fun _ h => by cases h) d_CT_isBlocked_22
set_option maxHeartbeats 4000000 in
set_option maxRecDepth 100000 in
theorem c_AT_usesSince (l : Launch) (dC : Nat → ClassId) (dI : Nat → Nat → Nat) (hT hs hu ho : Nat) (cI cU cO : ClassId) (ac : Nat) (ai ut ol : Nat → Int32) (hac : ac ≤ 64) (j : Nat) (hj : j < ac) (T : Int32) : Met l y_AT_usesSince (zw y_AT_usesSince b_AT_usesSince 6 (some .int)) ({ frames := 1, cells := 0, slots := 0, locals := 21 }) (zPre [.ref hT, .int (nI j), .int T] (dC, dI) [(hT, .inr (0, [.ref hs, .ref hu, .ref ho, .int (nI ac)])), (hs, .inl (cI, 64, .inl ai)), (hu, .inl (cU, 512, .inl ut)), (ho, .inl (cO, 64, .inl ol))] [(cI, .int), (cU, .int), (cO, .int)]) (vp_Si (fun r => r = nI (zu_cnt ut T (8 * j) 8))) 0 0 (fun _ => False) := by
  refine Met.ofW (cc := b_AT_usesSince) (maxL := 6) (ret := (some .int)) (by decide) rfl ?_
  intro p e s m args below meth c s₁ B hml hv
  obtain ⟨rfl, hP, hK⟩ := hv
  have hx := B.exec
  have hb := B.bytes
  have hr := B.returns
  have hts := atoms_spec (ws := (zw y_AT_usesSince b_AT_usesSince 6 (some .int))) B.pre
  have htB : ∀ w ∈ BG, w.before ([.ref hT, .int (nI j), .int T] : List Value).toArray s = true := fun w h => hts w (List.mem_cons_of_mem _ h)
  have hown : s.vm.findClass R_AT = some m.cls := findClass_of_methodNamed B.named
  have hlocks := B.notSynchronized
  have CF : CallFix p m c b_AT_usesSince 6 s ([.ref hT, .int (nI j), .int T] : List Value).toArray BG R_AT := ⟨hx, hb, hml, hown, htB⟩
  have hP : va_P (dC, dI) vwCl [(hT, .inr (0, [.ref hs, .ref hu, .ref ho, .int (nI ac)])), (hs, .inl (cI, 64, .inl ai)), (hu, .inl (cU, 512, .inl ut)), (ho, .inl (cO, 64, .inl ol))] s.heap := hP
  have hl := lv_entry [.ref hT, .int (nI j), .int T] (n := 6) (Nat.le_of_ble_eq_true rfl)
  rw [lg_entry_eq]
  generalize (lg_sl [.ref hT, .int (nI j), .int T] ++ List.replicate (6 - (lg_sl [.ref hT, .int (nI j), .int T]).length) Slot.unset).toArray = ls at hl ⊢
  have hl : lv_has ls 6 [(0, .ref hT), (1, .int (nI j)), (2, .int T)] := hl
  refine lv_aload_n hx hb d_AT_usesSince_0 rfl (lv_at hl 0 rfl) ?_
  refine lv_iload_n hx hb d_AT_usesSince_1 rfl (lv_at hl 1 rfl) ?_
  refine vp_callSi (va_Run.run (zr_V (n := 1) (As := [.int (nI j)]) (rest := []) CF (c_AT_has l dC dI hT hs hu ho cI cU cO ac ai ut ol hac (nI j)) mc_AT_has lk_AT_31 mi_AT_has ms_AT_has ni_AT rfl rfl (by decide +kernel) ⟨Nat.le_of_ble_eq_true rfl, Nat.le_of_ble_eq_true rfl⟩ (hP.sub (ws' := [(hT, .inr (0, [.ref hs, .ref hu, .ref ho, .int (nI ac)])), (hs, .inl (cI, 64, .inl ai)), (hu, .inl (cU, 512, .inl ut)), (ho, .inl (cO, 64, .inl ol))]) [0, 1, 2, 3] rfl) (hK.sub (tys' := [(cI, .int), (cU, .int), (cO, .int)]) [0, 1, 2] rfl) rfl rfl rfl hl.1 rfl (lv_room (Nat.le_of_ble_eq_true rfl)) d_AT_usesSince_2 ⟨Nat.zero_le _, Nat.zero_le _⟩)) (fun r_2 h_2 => ?_)
  rw [if_pos (show 0 ≤ (nI j).toInt ∧ (nI j).toInt < ac by rw [nI_toInt (by omega)]; omega)] at h_2
  subst h_2
  refine lv_if_ne (tgt := 10) hx hb d_AT_usesSince_5 (by decide) (fun c_5 => ?_) (fun c_5 => ?_)
  · refine lv_iconst (v := 0) hx hb d_AT_usesSince_10 (by decide) ?_
    refine lv_istore_n (lv' := [(3, .int 0), (0, .ref hT), (1, .int (nI j)), (2, .int T)]) hx hb d_AT_usesSince_11 rfl hl (by decide) rfl (fun ls hl => ?_)
    refine lv_iload_n hx hb d_AT_usesSince_12 rfl (lv_at hl 2 rfl) ?_
    refine lv_bipush (v := 8) hx hb d_AT_usesSince_13 (by decide) ?_
    refine lv_imul hx hb d_AT_usesSince_15 ?_
    rw [show ((nI j) * 8 : Int32) = nI (8 * j) from by rw [Nat.mul_comm]; exact pk_mul j 8]
    refine lv_istore (lv' := [(4, .int (nI (8 * j))), (3, .int 0), (0, .ref hT), (1, .int (nI j)), (2, .int T)]) hx hb d_AT_usesSince_16 hl (by decide) rfl (fun ls hl => ?_)
    refine lv_iload hx hb d_AT_usesSince_18 (lv_at hl 0 rfl) ?_
    refine lv_istore (lv' := [(5, .int (nI (8 * j))), (4, .int (nI (8 * j))), (3, .int 0), (0, .ref hT), (1, .int (nI j)), (2, .int T)]) hx hb d_AT_usesSince_20 hl (by decide) rfl (fun ls hl => ?_)
    have loop : ∀ (k i : Nat) (ls : Array Slot), i + k = 8 → lv_has ls 6 [(5, .int (nI (8 * j + i))), (4, .int (nI (8 * j))), (3, .int (nI (zu_cnt ut T (8 * j) i))), (0, .ref hT), (2, .int T)] → W p l e (headSpec (zw y_AT_usesSince b_AT_usesSince 6 (some .int)) ({ frames := 1, cells := 0, slots := 0, locals := 21 })).room s m ([.ref hT, .int (nI j), .int T] : List Value).toArray below meth c s.heap [] 0 0 (MQ below (vp_Si (fun r => r = nI (zu_cnt ut T (8 * j) 8))) ([.ref hT, .int (nI j), .int T] : List Value).toArray s 0 0 (fun _ => False)) (F0 m 22 ls []) := by
      intro k
      induction k with
      | zero =>
        intro i ls hi hl
        refine lv_iload hx hb d_AT_usesSince_22 (lv_at hl 0 rfl) ?_
        refine lv_iload hx hb d_AT_usesSince_24 (lv_at hl 1 rfl) ?_
        refine lv_bipush (v := 8) hx hb d_AT_usesSince_26 (by decide) ?_
        refine lv_iadd hx hb d_AT_usesSince_28 ?_
        rw [show ((nI (8 * j)) + 8 : Int32) = nI (8 * j + 8) from nI_add (8 * j) 8]
        refine lv_icmp_ge (tgt := 52) hx hb d_AT_usesSince_29 (by decide) (fun c_29 => ?_) (fun c_29 => ?_)
        · refine lv_iload_n hx hb d_AT_usesSince_52 rfl (lv_at hl 2 rfl) ?_
          exact W.iret (v := nI (zu_cnt ut T (8 * j) i)) hx hb hr (fun t ht hW => ⟨_, rfl, by rw [show i = 8 by omega], ht⟩) (fun _ h => by cases h) d_AT_usesSince_53
        · exact absurd (nI_le (show 8 * j + 8 ≤ 8 * j + i by omega) (by omega)) c_29
      | succ k ih =>
        intro i ls hi hl
        have b_38 : vp_in (nI (8 * j + i)) 512 := vp_in_nI (by omega) (by omega)
        refine lv_iload hx hb d_AT_usesSince_22 (lv_at hl 0 rfl) ?_
        refine lv_iload hx hb d_AT_usesSince_24 (lv_at hl 1 rfl) ?_
        refine lv_bipush (v := 8) hx hb d_AT_usesSince_26 (by decide) ?_
        refine lv_iadd hx hb d_AT_usesSince_28 ?_
        rw [show ((nI (8 * j)) + 8 : Int32) = nI (8 * j + 8) from nI_add (8 * j) 8]
        refine lv_icmp_ge (tgt := 52) hx hb d_AT_usesSince_29 (by decide) (fun c_29 => ?_) (fun c_29 => ?_)
        · exact absurd c_29 (nI_ge (show 8 * j + i < 8 * j + 8 by omega) (by omega))
        · refine lv_aload_n hx hb d_AT_usesSince_32 rfl (lv_at hl 3 rfl) ?_
          refine va_get (D := (dC, dI)) (ci := 0) (v := .ref hu) (C := R_AT) (T := T_AT) (N := 4) hx hb htB i_AT hown hK hP 0 rfl rfl 1 (by decide) (htB _ lf_AT_15) (fun _ h9 => h9) rfl d_AT_usesSince_33 ?_
          refine lv_iload hx hb d_AT_usesSince_36 (lv_at hl 0 rfl) ?_
          refine va_iald hx hb hK hP 2 1 rfl rfl b_38 d_AT_usesSince_38 ?_
          rw [nI_clamp (n := (8 * j + i)) (by omega)]
          refine lv_iload_n hx hb d_AT_usesSince_39 rfl (lv_at hl 4 rfl) ?_
          refine lv_icmp_lt (tgt := 46) hx hb d_AT_usesSince_40 (by decide) (fun c_40 => ?_) (fun c_40 => ?_)
          · refine lv_iinc (v := (nI (8 * j + i)) + 1) (lv' := [(5, .int ((nI (8 * j + i)) + 1)), (4, .int (nI (8 * j))), (3, .int (nI (zu_cnt ut T (8 * j) i))), (0, .ref hT), (2, .int T)]) hx hb d_AT_usesSince_46 hl (k := 0) rfl rfl (by decide) rfl (fun ls hl => ?_)
            refine lv_goto (tgt := 22) hx hb d_AT_usesSince_49 (by decide) ?_
            rw [nI_1] at hl
            have ez : zu_cnt ut T (8 * j) (i + 1) = zu_cnt ut T (8 * j) i := by simp only [zu_cnt]; rw [if_neg (fun h => absurd c_40 (Int32.not_lt.mpr h))]; rfl
            refine ih (i + 1) ls (by omega) ?_
            rw [ez]
            exact lv_sub hl [0, 1, 2, 3, 4] rfl
          · refine lv_iinc (v := (nI (zu_cnt ut T (8 * j) i)) + 1) (lv' := [(3, .int ((nI (zu_cnt ut T (8 * j) i)) + 1)), (5, .int (nI (8 * j + i))), (4, .int (nI (8 * j))), (0, .ref hT), (2, .int T)]) hx hb d_AT_usesSince_43 hl (k := 2) rfl rfl (by decide) rfl (fun ls hl => ?_)
            refine lv_iinc (v := (nI (8 * j + i)) + 1) (lv' := [(5, .int ((nI (8 * j + i)) + 1)), (3, .int ((nI (zu_cnt ut T (8 * j) i)) + 1)), (4, .int (nI (8 * j))), (0, .ref hT), (2, .int T)]) hx hb d_AT_usesSince_46 hl (k := 1) rfl rfl (by decide) rfl (fun ls hl => ?_)
            refine lv_goto (tgt := 22) hx hb d_AT_usesSince_49 (by decide) ?_
            rw [nI_1, nI_1] at hl
            have ez : zu_cnt ut T (8 * j) (i + 1) = zu_cnt ut T (8 * j) i + 1 := by simp only [zu_cnt]; rw [if_pos (Int32.not_lt.mp c_40)]
            refine ih (i + 1) ls (by omega) ?_
            rw [ez]
            exact lv_sub hl [0, 2, 1, 3, 4] rfl
    exact loop 8 0 ls (by omega) (lv_sub hl [0, 1, 2, 3, 5] rfl)
  · exact absurd c_5 (by decide)
set_option maxHeartbeats 4000000 in
set_option maxRecDepth 100000 in
theorem c_AT_noteUse (l : Launch) (dC : Nat → ClassId) (dI : Nat → Nat → Nat) (hT hs hu ho : Nat) (cI cU cO : ClassId) (ac : Nat) (ai ut ol : Nat → Int32) (hac : ac ≤ 64) (j o : Nat) (hj : j < ac) (ho8 : o < 8) (hol : ol j = nI o) (T : Int32) (hD0 : va_D (fun _ => True) [(hT, .inr (0, [.ref hs, .ref hu, .ref ho, .int (nI ac)])), (hs, .inl (cI, 64, .inl ai)), (hu, .inl (cU, 512, .inl ut)), (ho, .inl (cO, 64, .inl ol))]) : Met l y_AT_noteUse (zw y_AT_noteUse b_AT_noteUse 4 none) ({ frames := 1, cells := 0, slots := 0, locals := 21 }) (zPre [.ref hT, .int (nI j), .int T] (dC, dI) [(hT, .inr (0, [.ref hs, .ref hu, .ref ho, .int (nI ac)])), (hs, .inl (cI, 64, .inl ai)), (hu, .inl (cU, 512, .inl ut)), (ho, .inl (cO, 64, .inl ol))] [(cI, .int), (cU, .int), (cO, .int)]) (va_Qv (fun (_ : Unit) => True) (fun (_ : Unit) (t : State) => va_P (dC, dI) vwCl [(hT, .inr (0, [.ref hs, .ref hu, .ref ho, .int (nI ac)])), (hs, .inl (cI, 64, .inl ai)), (hu, .inl (cU, 512, .inl (upd ut (8 * j + o) T))), (ho, .inl (cO, 64, .inl (upd ol j (nI ((o + 1) % 8)))))] t.heap) (zA [(hT, .inr (0, [.ref hs, .ref hu, .ref ho, .int (nI ac)])), (hs, .inl (cI, 64, .inl ai)), (hu, .inl (cU, 512, .inl ut)), (ho, .inl (cO, 64, .inl ol))])) 0 0 (zA [(hT, .inr (0, [.ref hs, .ref hu, .ref ho, .int (nI ac)])), (hs, .inl (cI, 64, .inl ai)), (hu, .inl (cU, 512, .inl ut)), (ho, .inl (cO, 64, .inl ol))]) := by
  refine Met.ofW (cc := b_AT_noteUse) (maxL := 4) (ret := none) (by decide) rfl ?_
  intro p e s m args below meth c s₁ B hml hv
  obtain ⟨rfl, hP, hK⟩ := hv
  have hx := B.exec
  have hb := B.bytes
  have hr := B.returns
  have hts := atoms_spec (ws := (zw y_AT_noteUse b_AT_noteUse 4 none)) B.pre
  have htB : ∀ w ∈ BG, w.before ([.ref hT, .int (nI j), .int T] : List Value).toArray s = true := fun w h => hts w (List.mem_cons_of_mem _ h)
  have hown : s.vm.findClass R_AT = some m.cls := findClass_of_methodNamed B.named
  have hlocks := B.notSynchronized
  have CF : CallFix p m c b_AT_noteUse 4 s ([.ref hT, .int (nI j), .int T] : List Value).toArray BG R_AT := ⟨hx, hb, hml, hown, htB⟩
  have hP : va_P (dC, dI) vwCl [(hT, .inr (0, [.ref hs, .ref hu, .ref ho, .int (nI ac)])), (hs, .inl (cI, 64, .inl ai)), (hu, .inl (cU, 512, .inl ut)), (ho, .inl (cO, 64, .inl ol))] s.heap := hP
  have hl := lv_entry [.ref hT, .int (nI j), .int T] (n := 4) (Nat.le_of_ble_eq_true rfl)
  rw [lg_entry_eq]
  generalize (lg_sl [.ref hT, .int (nI j), .int T] ++ List.replicate (4 - (lg_sl [.ref hT, .int (nI j), .int T]).length) Slot.unset).toArray = ls at hl ⊢
  have hl : lv_has ls 4 [(0, .ref hT), (1, .int (nI j)), (2, .int T)] := hl
  have hD : va_D (zA [(hT, .inr (0, [.ref hs, .ref hu, .ref ho, .int (nI ac)])), (hs, .inl (cI, 64, .inl ai)), (hu, .inl (cU, 512, .inl ut)), (ho, .inl (cO, 64, .inl ol))]) [(hT, .inr (0, [.ref hs, .ref hu, .ref ho, .int (nI ac)])), (hs, .inl (cI, 64, .inl ai)), (hu, .inl (cU, 512, .inl ut)), (ho, .inl (cO, 64, .inl ol))] := zA_of hD0
  have hS : va_S (zA [(hT, .inr (0, [.ref hs, .ref hu, .ref ho, .int (nI ac)])), (hs, .inl (cI, 64, .inl ai)), (hu, .inl (cU, 512, .inl ut)), (ho, .inl (cO, 64, .inl ol))]) s.heap s.heap [] := va_S.rf
  generalize zA [(hT, .inr (0, [.ref hs, .ref hu, .ref ho, .int (nI ac)])), (hs, .inl (cI, 64, .inl ai)), (hu, .inl (cU, 512, .inl ut)), (ho, .inl (cO, 64, .inl ol))] = A at hD hS ⊢
  have b_14 : vp_in (nI j) 64 := vp_in_nI (by omega) (by omega)
  have b_49 := b_14
  have b_37 : vp_in (nI (8 * j + o)) 512 := vp_in_nI (by omega) (by omega)
  refine lv_aload_n hx hb d_AT_noteUse_0 rfl (lv_at hl 0 rfl) ?_
  refine lv_iload_n hx hb d_AT_noteUse_1 rfl (lv_at hl 1 rfl) ?_
  refine vp_callSi (va_Run.run (zr_V (n := 1) (As := [.int (nI j)]) (rest := []) CF (c_AT_has l dC dI hT hs hu ho cI cU cO ac ai ut ol hac (nI j)) mc_AT_has lk_AT_31 mi_AT_has ms_AT_has ni_AT rfl rfl (by decide +kernel) ⟨Nat.le_of_ble_eq_true rfl, Nat.le_of_ble_eq_true rfl⟩ (hP.sub (ws' := [(hT, .inr (0, [.ref hs, .ref hu, .ref ho, .int (nI ac)])), (hs, .inl (cI, 64, .inl ai)), (hu, .inl (cU, 512, .inl ut)), (ho, .inl (cO, 64, .inl ol))]) [0, 1, 2, 3] rfl) (hK.sub (tys' := [(cI, .int), (cU, .int), (cO, .int)]) [0, 1, 2] rfl) rfl rfl rfl hl.1 rfl (lv_room (Nat.le_of_ble_eq_true rfl)) d_AT_noteUse_2 ⟨Nat.zero_le _, Nat.zero_le _⟩)) (fun r_2 h_2 => ?_)
  rw [if_pos (show 0 ≤ (nI j).toInt ∧ (nI j).toInt < ac by rw [nI_toInt (by omega)]; omega)] at h_2
  subst h_2
  refine lv_if_ne (tgt := 9) hx hb d_AT_noteUse_5 (by decide) (fun c_5 => ?_) (fun c_5 => ?_)
  · refine lv_aload_n hx hb d_AT_noteUse_9 rfl (lv_at hl 0 rfl) ?_
    refine va_get (D := (dC, dI)) (ci := 0) (v := .ref ho) (C := R_AT) (T := T_AT) (N := 4) hx hb htB i_AT hown hK hP 0 rfl rfl 2 (by decide) (htB _ lf_AT_18) (fun _ h9 => h9) rfl d_AT_noteUse_10 ?_
    refine lv_iload_n hx hb d_AT_noteUse_13 rfl (lv_at hl 1 rfl) ?_
    refine va_iald hx hb hK hP 3 2 rfl rfl b_14 d_AT_noteUse_14 ?_
    rw [nI_clamp (n := j) (by omega)]
    rw [show (ol j : Int32) = nI o from hol]
    refine lv_istore_n (lv' := [(3, .int (nI o)), (0, .ref hT), (1, .int (nI j)), (2, .int T)]) hx hb d_AT_noteUse_15 rfl hl (by decide) rfl (fun ls hl => ?_)
    refine lv_iload_n hx hb d_AT_noteUse_16 rfl (lv_at hl 0 rfl) ?_
    refine lv_if_lt (tgt := 50) hx hb d_AT_noteUse_17 (by decide) (fun c_17 => ?_) (fun c_17 => ?_)
    · exact absurd c_17 (nI_pos (by omega))
    · refine lv_iload_n hx hb d_AT_noteUse_20 rfl (lv_at hl 0 rfl) ?_
      refine lv_bipush (v := 8) hx hb d_AT_noteUse_21 (by decide) ?_
      refine lv_icmp_ge (tgt := 50) hx hb d_AT_noteUse_23 (by decide) (fun c_23 => ?_) (fun c_23 => ?_)
      · exact absurd c_23 (show ¬ nI 8 ≤ nI o from nI_ge ho8 (by omega))
      · refine lv_aload_n hx hb d_AT_noteUse_26 rfl (lv_at hl 1 rfl) ?_
        refine va_get (D := (dC, dI)) (ci := 0) (v := .ref hu) (C := R_AT) (T := T_AT) (N := 4) hx hb htB i_AT hown hK hP 0 rfl rfl 1 (by decide) (htB _ lf_AT_15) (fun _ h9 => h9) rfl d_AT_noteUse_27 ?_
        refine lv_iload_n hx hb d_AT_noteUse_30 rfl (lv_at hl 2 rfl) ?_
        refine lv_bipush (v := 8) hx hb d_AT_noteUse_31 (by decide) ?_
        refine lv_imul hx hb d_AT_noteUse_33 ?_
        rw [show ((nI j) * 8 : Int32) = nI (8 * j) from by rw [Nat.mul_comm]; exact pk_mul j 8]
        refine lv_iload_n hx hb d_AT_noteUse_34 rfl (lv_at hl 0 rfl) ?_
        refine lv_iadd hx hb d_AT_noteUse_35 ?_
        rw [show ((nI (8 * j)) + (nI o) : Int32) = nI (8 * j + o) from nI_add _ _]
        refine lv_iload_n hx hb d_AT_noteUse_36 rfl (lv_at hl 3 rfl) ?_
        refine va_iast hx hb hK hP hD hS 2 1 rfl rfl b_37 d_AT_noteUse_37 (fun H locs hP hD hS => ?_)
        have hP : va_P (dC, dI) vwCl [(hT, .inr (0, [.ref hs, .ref hu, .ref ho, .int (nI ac)])), (hs, .inl (cI, 64, .inl ai)), (hu, .inl (cU, 512, .inl (upd ut (nI (8 * j + o)).toNatClampNeg T))), (ho, .inl (cO, 64, .inl ol))] H := hP
        have hD : va_D A [(hT, .inr (0, [.ref hs, .ref hu, .ref ho, .int (nI ac)])), (hs, .inl (cI, 64, .inl ai)), (hu, .inl (cU, 512, .inl (upd ut (nI (8 * j + o)).toNatClampNeg T))), (ho, .inl (cO, 64, .inl ol))] := hD
        rw [nI_clamp (n := (8 * j + o)) (by omega)] at hP hD
        refine lv_aload_n hx hb d_AT_noteUse_38 rfl (lv_at hl 1 rfl) ?_
        refine va_get (D := (dC, dI)) (ci := 0) (v := .ref ho) (C := R_AT) (T := T_AT) (N := 4) hx hb htB i_AT hown hK hP 0 rfl rfl 2 (by decide) (htB _ lf_AT_18) (fun _ h9 => h9) rfl d_AT_noteUse_39 ?_
        refine lv_iload_n hx hb d_AT_noteUse_42 rfl (lv_at hl 2 rfl) ?_
        refine lv_iload_n hx hb d_AT_noteUse_43 rfl (lv_at hl 0 rfl) ?_
        refine lv_iconst (v := 1) hx hb d_AT_noteUse_44 (by decide) ?_
        refine lv_iadd hx hb d_AT_noteUse_45 ?_
        rw [show ((nI o) + 1 : Int32) = nI (o + 1) from nI_1 o]
        refine lv_bipush (v := 8) hx hb d_AT_noteUse_46 (by decide) ?_
        refine lv_irem hx hb d_AT_noteUse_48 (by decide) ?_
        rw [show ((nI (o + 1)) - (nI (o + 1)) / 8 * 8 : Int32) = nI ((o + 1) % 8) from pk_rem (d := 8) (by omega) (by decide) (by decide)]
        refine va_iast hx hb hK hP hD hS 3 2 rfl rfl b_49 d_AT_noteUse_49 (fun H locs hP hD hS => ?_)
        have hP : va_P (dC, dI) vwCl [(hT, .inr (0, [.ref hs, .ref hu, .ref ho, .int (nI ac)])), (hs, .inl (cI, 64, .inl ai)), (hu, .inl (cU, 512, .inl (upd ut (8 * j + o) T))), (ho, .inl (cO, 64, .inl (upd ol (nI j).toNatClampNeg (nI ((o + 1) % 8)))))] H := hP
        have hD : va_D A [(hT, .inr (0, [.ref hs, .ref hu, .ref ho, .int (nI ac)])), (hs, .inl (cI, 64, .inl ai)), (hu, .inl (cU, 512, .inl (upd ut (8 * j + o) T))), (ho, .inl (cO, 64, .inl (upd ol (nI j).toNatClampNeg (nI ((o + 1) % 8)))))] := hD
        rw [nI_clamp (n := j) (by omega)] at hP hD
        exact W.vret hx hb hr (fun t ht hW => ⟨⟨(), rfl, trivial, by show va_P _ _ _ t.heap; rw [ht]; exact hP⟩, hS.F ht⟩) hS.2.2 d_AT_noteUse_50
  · exact absurd c_5 (by decide)
set_option maxHeartbeats 4000000 in
set_option maxRecDepth 100000 in
theorem c_CT_setBlocked (l : Launch) (dC : Nat → ClassId) (dI : Nat → Nat → Nat) (hC hn ha hk : Nat) (cN cA cK : ClassId) (cc : Nat) (cn : Nat → Int64) (ca cb : Nat → Int32) (hcc : cc ≤ 100) (j : Nat) (hj : j < cc) (on : Int32) (hD0 : va_D (fun _ => True) [(hC, .inr (1, [.ref hn, .ref ha, .ref hk, .int (nI cc)])), (hn, .inl (cN, 100, .inr (.inl cn))), (ha, .inl (cA, 100, .inl ca)), (hk, .inl (cK, 100, .inl cb))]) : Met l y_CT_setBlocked (zw y_CT_setBlocked b_CT_setBlocked 4 (some .boolean)) ({ frames := 2, cells := 0, slots := 0, locals := 42 }) (zPre [.ref hC, .int (nI j), .int on] (dC, dI) [(hC, .inr (1, [.ref hn, .ref ha, .ref hk, .int (nI cc)])), (hn, .inl (cN, 100, .inr (.inl cn))), (ha, .inl (cA, 100, .inl ca)), (hk, .inl (cK, 100, .inl cb))] [(cN, .long), (cA, .int), (cK, .boolean)]) (va_Qi (fun (r : Int32) (_ : Unit) => r = if cb j = 0 then 0 else 1) (fun (_ : Unit) (t : State) => va_P (dC, dI) vwCl [(hC, .inr (1, [.ref hn, .ref ha, .ref hk, .int (nI cc)])), (hn, .inl (cN, 100, .inr (.inl cn))), (ha, .inl (cA, 100, .inl ca)), (hk, .inl (cK, 100, .inl (upd cb j (vp_nar .boolean on))))] t.heap) (zA [(hC, .inr (1, [.ref hn, .ref ha, .ref hk, .int (nI cc)])), (hn, .inl (cN, 100, .inr (.inl cn))), (ha, .inl (cA, 100, .inl ca)), (hk, .inl (cK, 100, .inl cb))])) 0 0 (zA [(hC, .inr (1, [.ref hn, .ref ha, .ref hk, .int (nI cc)])), (hn, .inl (cN, 100, .inr (.inl cn))), (ha, .inl (cA, 100, .inl ca)), (hk, .inl (cK, 100, .inl cb))]) := by
  refine Met.ofW (cc := b_CT_setBlocked) (maxL := 4) (ret := (some .boolean)) (by decide) rfl ?_
  intro p e s m args below meth c s₁ B hml hv
  obtain ⟨rfl, hP, hK⟩ := hv
  have hx := B.exec
  have hb := B.bytes
  have hr := B.returns
  have hts := atoms_spec (ws := (zw y_CT_setBlocked b_CT_setBlocked 4 (some .boolean))) B.pre
  have htB : ∀ w ∈ BG, w.before ([.ref hC, .int (nI j), .int on] : List Value).toArray s = true := fun w h => hts w (List.mem_cons_of_mem _ h)
  have hown : s.vm.findClass R_CT = some m.cls := findClass_of_methodNamed B.named
  have hlocks := B.notSynchronized
  have CF : CallFix p m c b_CT_setBlocked 4 s ([.ref hC, .int (nI j), .int on] : List Value).toArray BG R_CT := ⟨hx, hb, hml, hown, htB⟩
  have hP : va_P (dC, dI) vwCl [(hC, .inr (1, [.ref hn, .ref ha, .ref hk, .int (nI cc)])), (hn, .inl (cN, 100, .inr (.inl cn))), (ha, .inl (cA, 100, .inl ca)), (hk, .inl (cK, 100, .inl cb))] s.heap := hP
  have hl := lv_entry [.ref hC, .int (nI j), .int on] (n := 4) (Nat.le_of_ble_eq_true rfl)
  rw [lg_entry_eq]
  generalize (lg_sl [.ref hC, .int (nI j), .int on] ++ List.replicate (4 - (lg_sl [.ref hC, .int (nI j), .int on]).length) Slot.unset).toArray = ls at hl ⊢
  have hl : lv_has ls 4 [(0, .ref hC), (1, .int (nI j)), (2, .int on)] := hl
  have hD : va_D (zA [(hC, .inr (1, [.ref hn, .ref ha, .ref hk, .int (nI cc)])), (hn, .inl (cN, 100, .inr (.inl cn))), (ha, .inl (cA, 100, .inl ca)), (hk, .inl (cK, 100, .inl cb))]) [(hC, .inr (1, [.ref hn, .ref ha, .ref hk, .int (nI cc)])), (hn, .inl (cN, 100, .inr (.inl cn))), (ha, .inl (cA, 100, .inl ca)), (hk, .inl (cK, 100, .inl cb))] := zA_of hD0
  have hS : va_S (zA [(hC, .inr (1, [.ref hn, .ref ha, .ref hk, .int (nI cc)])), (hn, .inl (cN, 100, .inr (.inl cn))), (ha, .inl (cA, 100, .inl ca)), (hk, .inl (cK, 100, .inl cb))]) s.heap s.heap [] := va_S.rf
  generalize zA [(hC, .inr (1, [.ref hn, .ref ha, .ref hk, .int (nI cc)])), (hn, .inl (cN, 100, .inr (.inl cn))), (ha, .inl (cA, 100, .inl ca)), (hk, .inl (cK, 100, .inl cb))] = A at hD hS ⊢
  have b_20 : vp_in (nI j) 100 := vp_in_nI (by omega) (by omega)
  refine lv_aload_n hx hb d_CT_setBlocked_0 rfl (lv_at hl 0 rfl) ?_
  refine lv_iload_n hx hb d_CT_setBlocked_1 rfl (lv_at hl 1 rfl) ?_
  refine vp_callSi (va_Run.run (zr_V (n := 1) (As := [.int (nI j)]) (rest := []) CF (c_CT_isBlocked l dC dI hC hn ha hk cN cA cK cc cn ca cb hcc j hj) mc_CT_isBlocked lk_CT_31 mi_CT_isBlocked ms_CT_isBlocked ni_CT rfl rfl (by decide +kernel) ⟨Nat.le_of_ble_eq_true rfl, Nat.le_of_ble_eq_true rfl⟩ (hP.sub (ws' := [(hC, .inr (1, [.ref hn, .ref ha, .ref hk, .int (nI cc)])), (hn, .inl (cN, 100, .inr (.inl cn))), (ha, .inl (cA, 100, .inl ca)), (hk, .inl (cK, 100, .inl cb))]) [0, 1, 2, 3] rfl) (hK.sub (tys' := [(cN, .long), (cA, .int), (cK, .boolean)]) [0, 1, 2] rfl) rfl rfl rfl hl.1 rfl (lv_room (Nat.le_of_ble_eq_true rfl)) d_CT_setBlocked_2 ⟨Nat.zero_le _, Nat.zero_le _⟩)) (fun r_2 h_2 => ?_)
  refine lv_istore_n (lv' := [(3, .int r_2), (0, .ref hC), (1, .int (nI j)), (2, .int on)]) hx hb d_CT_setBlocked_5 rfl hl (by decide) rfl (fun ls hl => ?_)
  refine lv_aload_n hx hb d_CT_setBlocked_6 rfl (lv_at hl 1 rfl) ?_
  refine lv_iload_n hx hb d_CT_setBlocked_7 rfl (lv_at hl 2 rfl) ?_
  refine vp_callSi (va_Run.run (zr_V (n := 1) (As := [.int (nI j)]) (rest := []) CF (c_CT_has l dC dI hC hn ha hk cN cA cK cc cn ca cb hcc (nI j)) mc_CT_has lk_CT_27 mi_CT_has ms_CT_has ni_CT rfl rfl (by decide +kernel) ⟨Nat.le_of_ble_eq_true rfl, Nat.le_of_ble_eq_true rfl⟩ (hP.sub (ws' := [(hC, .inr (1, [.ref hn, .ref ha, .ref hk, .int (nI cc)])), (hn, .inl (cN, 100, .inr (.inl cn))), (ha, .inl (cA, 100, .inl ca)), (hk, .inl (cK, 100, .inl cb))]) [0, 1, 2, 3] rfl) (hK.sub (tys' := [(cN, .long), (cA, .int), (cK, .boolean)]) [0, 1, 2] rfl) rfl rfl rfl hl.1 rfl (lv_room (Nat.le_of_ble_eq_true rfl)) d_CT_setBlocked_8 ⟨Nat.zero_le _, Nat.zero_le _⟩)) (fun r_8 h_8 => ?_)
  rw [if_pos (show 0 ≤ (nI j).toInt ∧ (nI j).toInt < cc by rw [nI_toInt (by omega)]; omega)] at h_8
  subst h_8
  refine lv_if_eq (tgt := 21) hx hb d_CT_setBlocked_11 (by decide) (fun c_11 => ?_) (fun c_11 => ?_)
  · exact absurd c_11 (by decide)
  · refine lv_aload_n hx hb d_CT_setBlocked_14 rfl (lv_at hl 1 rfl) ?_
    refine va_get (D := (dC, dI)) (ci := 1) (v := .ref hk) (C := R_CT) (T := T_CT) (N := 4) hx hb htB i_CT hown hK hP 0 rfl rfl 2 (by decide) (htB _ lf_CT_19) (fun _ h9 => h9) rfl d_CT_setBlocked_15 ?_
    refine lv_iload_n hx hb d_CT_setBlocked_18 rfl (lv_at hl 2 rfl) ?_
    refine lv_iload_n hx hb d_CT_setBlocked_19 rfl (lv_at hl 3 rfl) ?_
    refine va_zast hx hb hK hP hD hS 3 2 rfl rfl b_20 d_CT_setBlocked_20 (fun H locs hP hD hS => ?_)
    have hP : va_P (dC, dI) vwCl [(hC, .inr (1, [.ref hn, .ref ha, .ref hk, .int (nI cc)])), (hn, .inl (cN, 100, .inr (.inl cn))), (ha, .inl (cA, 100, .inl ca)), (hk, .inl (cK, 100, .inl (upd cb (nI j).toNatClampNeg (vp_nar .boolean on))))] H := hP
    have hD : va_D A [(hC, .inr (1, [.ref hn, .ref ha, .ref hk, .int (nI cc)])), (hn, .inl (cN, 100, .inr (.inl cn))), (ha, .inl (cA, 100, .inl ca)), (hk, .inl (cK, 100, .inl (upd cb (nI j).toNatClampNeg (vp_nar .boolean on))))] := hD
    rw [nI_clamp (n := j) (by omega)] at hP hD
    refine lv_iload_n hx hb d_CT_setBlocked_21 rfl (lv_at hl 0 rfl) ?_
    exact W.zret (v := r_2) (ty := .boolean) hx hb hr (by rw [h_2]; split <;> rfl) (fun t ht hW => ⟨⟨_, (), rfl, h_2, by show va_P _ _ _ t.heap; rw [ht]; exact hP⟩, hS.F ht⟩) hS.2.2 d_CT_setBlocked_22
set_option maxHeartbeats 4000000 in
set_option maxRecDepth 100000 in
theorem c_AT_add (l : Launch) (dC : Nat → ClassId) (dI : Nat → Nat → Nat) (hT hs hu ho : Nat) (cI cU cO : ClassId) (ac : Nat) (ai ut ol : Nat → Int32) (hac : ac ≤ 64) (hlt : ac < 64) (x : Int32) (hD0 : va_D (fun _ => True) [(hT, .inr (0, [.ref hs, .ref hu, .ref ho, .int (nI ac)])), (hs, .inl (cI, 64, .inl ai)), (hu, .inl (cU, 512, .inl ut)), (ho, .inl (cO, 64, .inl ol))]) : Met l y_AT_add (zw y_AT_add b_AT_add 2 (some .int)) ({ frames := 0, cells := 0, slots := 0, locals := 0 }) (zPre [.ref hT, .int x] (dC, dI) [(hT, .inr (0, [.ref hs, .ref hu, .ref ho, .int (nI ac)])), (hs, .inl (cI, 64, .inl ai)), (hu, .inl (cU, 512, .inl ut)), (ho, .inl (cO, 64, .inl ol))] [(cI, .int), (cU, .int), (cO, .int)]) (va_Qi (fun (r : Int32) (_ : Unit) => r = nI ac) (fun (_ : Unit) (t : State) => va_P (dC, dI) vwCl [(hT, .inr (0, [.ref hs, .ref hu, .ref ho, .int (nI (ac + 1))])), (hs, .inl (cI, 64, .inl (upd ai ac x))), (hu, .inl (cU, 512, .inl ut)), (ho, .inl (cO, 64, .inl ol))] t.heap) (zA [(hT, .inr (0, [.ref hs, .ref hu, .ref ho, .int (nI ac)])), (hs, .inl (cI, 64, .inl ai)), (hu, .inl (cU, 512, .inl ut)), (ho, .inl (cO, 64, .inl ol))])) 0 0 (zA [(hT, .inr (0, [.ref hs, .ref hu, .ref ho, .int (nI ac)])), (hs, .inl (cI, 64, .inl ai)), (hu, .inl (cU, 512, .inl ut)), (ho, .inl (cO, 64, .inl ol))]) := by
  refine Met.ofW (cc := b_AT_add) (maxL := 2) (ret := (some .int)) (by decide) rfl ?_
  intro p e s m args below meth c s₁ B hml hv
  obtain ⟨rfl, hP, hK⟩ := hv
  have hx := B.exec
  have hb := B.bytes
  have hr := B.returns
  have hts := atoms_spec (ws := (zw y_AT_add b_AT_add 2 (some .int))) B.pre
  have htB : ∀ w ∈ BG, w.before ([.ref hT, .int x] : List Value).toArray s = true := fun w h => hts w (List.mem_cons_of_mem _ h)
  have hown : s.vm.findClass R_AT = some m.cls := findClass_of_methodNamed B.named
  have hlocks := B.notSynchronized
  have CF : CallFix p m c b_AT_add 2 s ([.ref hT, .int x] : List Value).toArray BG R_AT := ⟨hx, hb, hml, hown, htB⟩
  have hP : va_P (dC, dI) vwCl [(hT, .inr (0, [.ref hs, .ref hu, .ref ho, .int (nI ac)])), (hs, .inl (cI, 64, .inl ai)), (hu, .inl (cU, 512, .inl ut)), (ho, .inl (cO, 64, .inl ol))] s.heap := hP
  have hl := lv_entry [.ref hT, .int x] (n := 2) (Nat.le_of_ble_eq_true rfl)
  rw [lg_entry_eq]
  generalize (lg_sl [.ref hT, .int x] ++ List.replicate (2 - (lg_sl [.ref hT, .int x]).length) Slot.unset).toArray = ls at hl ⊢
  have hl : lv_has ls 2 [(0, .ref hT), (1, .int x)] := hl
  have hD : va_D (zA [(hT, .inr (0, [.ref hs, .ref hu, .ref ho, .int (nI ac)])), (hs, .inl (cI, 64, .inl ai)), (hu, .inl (cU, 512, .inl ut)), (ho, .inl (cO, 64, .inl ol))]) [(hT, .inr (0, [.ref hs, .ref hu, .ref ho, .int (nI ac)])), (hs, .inl (cI, 64, .inl ai)), (hu, .inl (cU, 512, .inl ut)), (ho, .inl (cO, 64, .inl ol))] := zA_of hD0
  have hS : va_S (zA [(hT, .inr (0, [.ref hs, .ref hu, .ref ho, .int (nI ac)])), (hs, .inl (cI, 64, .inl ai)), (hu, .inl (cU, 512, .inl ut)), (ho, .inl (cO, 64, .inl ol))]) s.heap s.heap [] := va_S.rf
  generalize zA [(hT, .inr (0, [.ref hs, .ref hu, .ref ho, .int (nI ac)])), (hs, .inl (cI, 64, .inl ai)), (hu, .inl (cU, 512, .inl ut)), (ho, .inl (cO, 64, .inl ol))] = A at hD hS ⊢
  have b_27 : vp_in (nI ac) 64 := vp_in_nI (by omega) (by omega)
  refine lv_aload_n hx hb d_AT_add_0 rfl (lv_at hl 0 rfl) ?_
  refine va_get (D := (dC, dI)) (ci := 0) (v := .int (nI ac)) (C := R_AT) (T := T_AT) (N := 4) hx hb htB i_AT hown hK hP 0 rfl rfl 3 (by decide) (htB _ lf_AT_21) (fun _ h9 => h9) rfl d_AT_add_1 ?_
  refine lv_if_lt (tgt := 16) hx hb d_AT_add_4 (by decide) (fun c_4 => ?_) (fun c_4 => ?_)
  · exact absurd c_4 (nI_pos (by omega))
  · refine lv_aload_n hx hb d_AT_add_7 rfl (lv_at hl 0 rfl) ?_
    refine va_get (D := (dC, dI)) (ci := 0) (v := .int (nI ac)) (C := R_AT) (T := T_AT) (N := 4) hx hb htB i_AT hown hK hP 0 rfl rfl 3 (by decide) (htB _ lf_AT_21) (fun _ h9 => h9) rfl d_AT_add_8 ?_
    refine lv_bipush (v := 64) hx hb d_AT_add_11 (by decide) ?_
    refine lv_icmp_lt (tgt := 18) hx hb d_AT_add_13 (by decide) (fun c_13 => ?_) (fun c_13 => ?_)
    · refine lv_aload_n hx hb d_AT_add_18 rfl (lv_at hl 0 rfl) ?_
      refine va_get (D := (dC, dI)) (ci := 0) (v := .ref hs) (C := R_AT) (T := T_AT) (N := 4) hx hb htB i_AT hown hK hP 0 rfl rfl 0 (by decide) (htB _ lf_AT_11) (fun _ h9 => h9) rfl d_AT_add_19 ?_
      refine lv_aload_n hx hb d_AT_add_22 rfl (lv_at hl 0 rfl) ?_
      refine va_get (D := (dC, dI)) (ci := 0) (v := .int (nI ac)) (C := R_AT) (T := T_AT) (N := 4) hx hb htB i_AT hown hK hP 0 rfl rfl 3 (by decide) (htB _ lf_AT_21) (fun _ h9 => h9) rfl d_AT_add_23 ?_
      refine lv_iload_n hx hb d_AT_add_26 rfl (lv_at hl 1 rfl) ?_
      refine va_iast hx hb hK hP hD hS 1 0 rfl rfl b_27 d_AT_add_27 (fun H locs hP hD hS => ?_)
      have hP : va_P (dC, dI) vwCl [(hT, .inr (0, [.ref hs, .ref hu, .ref ho, .int (nI ac)])), (hs, .inl (cI, 64, .inl (upd ai (nI ac).toNatClampNeg x))), (hu, .inl (cU, 512, .inl ut)), (ho, .inl (cO, 64, .inl ol))] H := hP
      have hD : va_D A [(hT, .inr (0, [.ref hs, .ref hu, .ref ho, .int (nI ac)])), (hs, .inl (cI, 64, .inl (upd ai (nI ac).toNatClampNeg x))), (hu, .inl (cU, 512, .inl ut)), (ho, .inl (cO, 64, .inl ol))] := hD
      rw [nI_clamp (n := ac) (by omega)] at hP hD
      refine lv_aload_n hx hb d_AT_add_28 rfl (lv_at hl 0 rfl) ?_
      refine lv_dup hx hb d_AT_add_29 rfl ?_
      refine va_get (D := (dC, dI)) (ci := 0) (v := .int (nI ac)) (C := R_AT) (T := T_AT) (N := 4) hx hb htB i_AT hown hK hP 0 rfl rfl 3 (by decide) (htB _ lf_AT_21) (fun _ h9 => h9) rfl d_AT_add_30 ?_
      refine lv_iconst (v := 1) hx hb d_AT_add_33 (by decide) ?_
      refine lv_iadd hx hb d_AT_add_34 ?_
      rw [show ((nI ac) + 1 : Int32) = nI (ac + 1) from nI_1 ac]
      refine va_put (D := (dC, dI)) (ci := 0) (v := .int (nI (ac + 1))) (ty := .int) (C := R_AT) (T := T_AT) (N := 4) hx hb htB i_AT t_AT tk_AT n_AT hown hK hP hD hS 0 rfl rfl 3 (by decide) (htB _ lf_AT_21) (fun _ h9 => h9) rfl (by decide +kernel) rfl rfl (Nat.le_of_ble_eq_true rfl) d_AT_add_35 (fun H locs hP hD hS => ?_)
      have hP : va_P (dC, dI) vwCl [(hT, .inr (0, [.ref hs, .ref hu, .ref ho, .int (nI (ac + 1))])), (hs, .inl (cI, 64, .inl (upd ai ac x))), (hu, .inl (cU, 512, .inl ut)), (ho, .inl (cO, 64, .inl ol))] H := hP
      have hD : va_D A [(hT, .inr (0, [.ref hs, .ref hu, .ref ho, .int (nI (ac + 1))])), (hs, .inl (cI, 64, .inl (upd ai ac x))), (hu, .inl (cU, 512, .inl ut)), (ho, .inl (cO, 64, .inl ol))] := hD
      refine lv_aload_n hx hb d_AT_add_38 rfl (lv_at hl 0 rfl) ?_
      refine va_get (D := (dC, dI)) (ci := 0) (v := .int (nI (ac + 1))) (C := R_AT) (T := T_AT) (N := 4) hx hb htB i_AT hown hK hP 0 rfl rfl 3 (by decide) (htB _ lf_AT_21) (fun _ h9 => h9) rfl d_AT_add_39 ?_
      refine lv_iconst (v := 1) hx hb d_AT_add_42 (by decide) ?_
      refine lv_isub hx hb d_AT_add_43 ?_
      exact W.iret (v := (nI (ac + 1)) - 1) hx hb hr (fun t ht hW => ⟨⟨_, (), rfl, nI_pred ac, by show va_P _ _ _ t.heap; rw [ht]; exact hP⟩, hS.F ht⟩) hS.2.2 d_AT_add_44
    · exact absurd (show nI ac < nI 64 from nI_lt hlt (by omega)) c_13
set_option maxHeartbeats 4000000 in
set_option maxRecDepth 100000 in
theorem c_CT_add (l : Launch) (dC : Nat → ClassId) (dI : Nat → Nat → Nat) (hC hn ha hk : Nat) (cN cA cK : ClassId) (cc : Nat) (cn : Nat → Int64) (ca cb : Nat → Int32) (hcc : cc ≤ 100) (hlt : cc < 100) (x : Int64) (y : Int32) (hD0 : va_D (fun _ => True) [(hC, .inr (1, [.ref hn, .ref ha, .ref hk, .int (nI cc)])), (hn, .inl (cN, 100, .inr (.inl cn))), (ha, .inl (cA, 100, .inl ca)), (hk, .inl (cK, 100, .inl cb))]) : Met l y_CT_add (zw y_CT_add b_CT_add 4 (some .int)) ({ frames := 0, cells := 0, slots := 0, locals := 0 }) (zPre [.ref hC, .long x, .int y] (dC, dI) [(hC, .inr (1, [.ref hn, .ref ha, .ref hk, .int (nI cc)])), (hn, .inl (cN, 100, .inr (.inl cn))), (ha, .inl (cA, 100, .inl ca)), (hk, .inl (cK, 100, .inl cb))] [(cN, .long), (cA, .int), (cK, .boolean)]) (va_Qi (fun (r : Int32) (_ : Unit) => r = nI cc) (fun (_ : Unit) (t : State) => va_P (dC, dI) vwCl [(hC, .inr (1, [.ref hn, .ref ha, .ref hk, .int (nI (cc + 1))])), (hn, .inl (cN, 100, .inr (.inl (vp_updL cn cc x)))), (ha, .inl (cA, 100, .inl (upd ca cc y))), (hk, .inl (cK, 100, .inl cb))] t.heap) (zA [(hC, .inr (1, [.ref hn, .ref ha, .ref hk, .int (nI cc)])), (hn, .inl (cN, 100, .inr (.inl cn))), (ha, .inl (cA, 100, .inl ca)), (hk, .inl (cK, 100, .inl cb))])) 0 0 (zA [(hC, .inr (1, [.ref hn, .ref ha, .ref hk, .int (nI cc)])), (hn, .inl (cN, 100, .inr (.inl cn))), (ha, .inl (cA, 100, .inl ca)), (hk, .inl (cK, 100, .inl cb))]) := by
  refine Met.ofW (cc := b_CT_add) (maxL := 4) (ret := (some .int)) (by decide) rfl ?_
  intro p e s m args below meth c s₁ B hml hv
  obtain ⟨rfl, hP, hK⟩ := hv
  have hx := B.exec
  have hb := B.bytes
  have hr := B.returns
  have hts := atoms_spec (ws := (zw y_CT_add b_CT_add 4 (some .int))) B.pre
  have htB : ∀ w ∈ BG, w.before ([.ref hC, .long x, .int y] : List Value).toArray s = true := fun w h => hts w (List.mem_cons_of_mem _ h)
  have hown : s.vm.findClass R_CT = some m.cls := findClass_of_methodNamed B.named
  have hlocks := B.notSynchronized
  have CF : CallFix p m c b_CT_add 4 s ([.ref hC, .long x, .int y] : List Value).toArray BG R_CT := ⟨hx, hb, hml, hown, htB⟩
  have hP : va_P (dC, dI) vwCl [(hC, .inr (1, [.ref hn, .ref ha, .ref hk, .int (nI cc)])), (hn, .inl (cN, 100, .inr (.inl cn))), (ha, .inl (cA, 100, .inl ca)), (hk, .inl (cK, 100, .inl cb))] s.heap := hP
  have hl := lv_entry [.ref hC, .long x, .int y] (n := 4) (Nat.le_of_ble_eq_true rfl)
  rw [lg_entry_eq]
  generalize (lg_sl [.ref hC, .long x, .int y] ++ List.replicate (4 - (lg_sl [.ref hC, .long x, .int y]).length) Slot.unset).toArray = ls at hl ⊢
  have hl : lv_has ls 4 [(0, .ref hC), (1, .long x), (3, .int y)] := hl
  have hD : va_D (zA [(hC, .inr (1, [.ref hn, .ref ha, .ref hk, .int (nI cc)])), (hn, .inl (cN, 100, .inr (.inl cn))), (ha, .inl (cA, 100, .inl ca)), (hk, .inl (cK, 100, .inl cb))]) [(hC, .inr (1, [.ref hn, .ref ha, .ref hk, .int (nI cc)])), (hn, .inl (cN, 100, .inr (.inl cn))), (ha, .inl (cA, 100, .inl ca)), (hk, .inl (cK, 100, .inl cb))] := zA_of hD0
  have hS : va_S (zA [(hC, .inr (1, [.ref hn, .ref ha, .ref hk, .int (nI cc)])), (hn, .inl (cN, 100, .inr (.inl cn))), (ha, .inl (cA, 100, .inl ca)), (hk, .inl (cK, 100, .inl cb))]) s.heap s.heap [] := va_S.rf
  generalize zA [(hC, .inr (1, [.ref hn, .ref ha, .ref hk, .int (nI cc)])), (hn, .inl (cN, 100, .inr (.inl cn))), (ha, .inl (cA, 100, .inl ca)), (hk, .inl (cK, 100, .inl cb))] = A at hD hS ⊢
  have b_27 : vp_in (nI cc) 100 := vp_in_nI (by omega) (by omega)
  have b_37 := b_27
  refine lv_aload_n hx hb d_CT_add_0 rfl (lv_at hl 0 rfl) ?_
  refine va_get (D := (dC, dI)) (ci := 1) (v := .int (nI cc)) (C := R_CT) (T := T_CT) (N := 4) hx hb htB i_CT hown hK hP 0 rfl rfl 3 (by decide) (htB _ lf_CT_23) (fun _ h9 => h9) rfl d_CT_add_1 ?_
  refine lv_if_lt (tgt := 16) hx hb d_CT_add_4 (by decide) (fun c_4 => ?_) (fun c_4 => ?_)
  · exact absurd c_4 (nI_pos (by omega))
  · refine lv_aload_n hx hb d_CT_add_7 rfl (lv_at hl 0 rfl) ?_
    refine va_get (D := (dC, dI)) (ci := 1) (v := .int (nI cc)) (C := R_CT) (T := T_CT) (N := 4) hx hb htB i_CT hown hK hP 0 rfl rfl 3 (by decide) (htB _ lf_CT_23) (fun _ h9 => h9) rfl d_CT_add_8 ?_
    refine lv_bipush (v := 100) hx hb d_CT_add_11 (by decide) ?_
    refine lv_icmp_lt (tgt := 18) hx hb d_CT_add_13 (by decide) (fun c_13 => ?_) (fun c_13 => ?_)
    · refine lv_aload_n hx hb d_CT_add_18 rfl (lv_at hl 0 rfl) ?_
      refine va_get (D := (dC, dI)) (ci := 1) (v := .ref hn) (C := R_CT) (T := T_CT) (N := 4) hx hb htB i_CT hown hK hP 0 rfl rfl 0 (by decide) (htB _ lf_CT_11) (fun _ h9 => h9) rfl d_CT_add_19 ?_
      refine lv_aload_n hx hb d_CT_add_22 rfl (lv_at hl 0 rfl) ?_
      refine va_get (D := (dC, dI)) (ci := 1) (v := .int (nI cc)) (C := R_CT) (T := T_CT) (N := 4) hx hb htB i_CT hown hK hP 0 rfl rfl 3 (by decide) (htB _ lf_CT_23) (fun _ h9 => h9) rfl d_CT_add_23 ?_
      refine lv_lload_n hx hb d_CT_add_26 rfl (lv_at hl 1 rfl) ?_
      refine va_last hx hb hK hP hD hS 1 0 rfl rfl b_27 d_CT_add_27 (fun H locs hP hD hS => ?_)
      have hP : va_P (dC, dI) vwCl [(hC, .inr (1, [.ref hn, .ref ha, .ref hk, .int (nI cc)])), (hn, .inl (cN, 100, .inr (.inl (vp_updL cn (nI cc).toNatClampNeg x)))), (ha, .inl (cA, 100, .inl ca)), (hk, .inl (cK, 100, .inl cb))] H := hP
      have hD : va_D A [(hC, .inr (1, [.ref hn, .ref ha, .ref hk, .int (nI cc)])), (hn, .inl (cN, 100, .inr (.inl (vp_updL cn (nI cc).toNatClampNeg x)))), (ha, .inl (cA, 100, .inl ca)), (hk, .inl (cK, 100, .inl cb))] := hD
      rw [nI_clamp (n := cc) (by omega)] at hP hD
      refine lv_aload_n hx hb d_CT_add_28 rfl (lv_at hl 0 rfl) ?_
      refine va_get (D := (dC, dI)) (ci := 1) (v := .ref ha) (C := R_CT) (T := T_CT) (N := 4) hx hb htB i_CT hown hK hP 0 rfl rfl 1 (by decide) (htB _ lf_CT_15) (fun _ h9 => h9) rfl d_CT_add_29 ?_
      refine lv_aload_n hx hb d_CT_add_32 rfl (lv_at hl 0 rfl) ?_
      refine va_get (D := (dC, dI)) (ci := 1) (v := .int (nI cc)) (C := R_CT) (T := T_CT) (N := 4) hx hb htB i_CT hown hK hP 0 rfl rfl 3 (by decide) (htB _ lf_CT_23) (fun _ h9 => h9) rfl d_CT_add_33 ?_
      refine lv_iload_n hx hb d_CT_add_36 rfl (lv_at hl 2 rfl) ?_
      refine va_iast hx hb hK hP hD hS 2 1 rfl rfl b_37 d_CT_add_37 (fun H locs hP hD hS => ?_)
      have hP : va_P (dC, dI) vwCl [(hC, .inr (1, [.ref hn, .ref ha, .ref hk, .int (nI cc)])), (hn, .inl (cN, 100, .inr (.inl (vp_updL cn cc x)))), (ha, .inl (cA, 100, .inl (upd ca (nI cc).toNatClampNeg y))), (hk, .inl (cK, 100, .inl cb))] H := hP
      have hD : va_D A [(hC, .inr (1, [.ref hn, .ref ha, .ref hk, .int (nI cc)])), (hn, .inl (cN, 100, .inr (.inl (vp_updL cn cc x)))), (ha, .inl (cA, 100, .inl (upd ca (nI cc).toNatClampNeg y))), (hk, .inl (cK, 100, .inl cb))] := hD
      rw [nI_clamp (n := cc) (by omega)] at hP hD
      refine lv_aload_n hx hb d_CT_add_38 rfl (lv_at hl 0 rfl) ?_
      refine lv_dup hx hb d_CT_add_39 rfl ?_
      refine va_get (D := (dC, dI)) (ci := 1) (v := .int (nI cc)) (C := R_CT) (T := T_CT) (N := 4) hx hb htB i_CT hown hK hP 0 rfl rfl 3 (by decide) (htB _ lf_CT_23) (fun _ h9 => h9) rfl d_CT_add_40 ?_
      refine lv_iconst (v := 1) hx hb d_CT_add_43 (by decide) ?_
      refine lv_iadd hx hb d_CT_add_44 ?_
      rw [show ((nI cc) + 1 : Int32) = nI (cc + 1) from nI_1 cc]
      refine va_put (D := (dC, dI)) (ci := 1) (v := .int (nI (cc + 1))) (ty := .int) (C := R_CT) (T := T_CT) (N := 4) hx hb htB i_CT t_CT tk_CT n_CT hown hK hP hD hS 0 rfl rfl 3 (by decide) (htB _ lf_CT_23) (fun _ h9 => h9) rfl (by decide +kernel) rfl rfl (Nat.le_of_ble_eq_true rfl) d_CT_add_45 (fun H locs hP hD hS => ?_)
      have hP : va_P (dC, dI) vwCl [(hC, .inr (1, [.ref hn, .ref ha, .ref hk, .int (nI (cc + 1))])), (hn, .inl (cN, 100, .inr (.inl (vp_updL cn cc x)))), (ha, .inl (cA, 100, .inl (upd ca cc y))), (hk, .inl (cK, 100, .inl cb))] H := hP
      have hD : va_D A [(hC, .inr (1, [.ref hn, .ref ha, .ref hk, .int (nI (cc + 1))])), (hn, .inl (cN, 100, .inr (.inl (vp_updL cn cc x)))), (ha, .inl (cA, 100, .inl (upd ca cc y))), (hk, .inl (cK, 100, .inl cb))] := hD
      refine lv_aload_n hx hb d_CT_add_48 rfl (lv_at hl 0 rfl) ?_
      refine va_get (D := (dC, dI)) (ci := 1) (v := .int (nI (cc + 1))) (C := R_CT) (T := T_CT) (N := 4) hx hb htB i_CT hown hK hP 0 rfl rfl 3 (by decide) (htB _ lf_CT_23) (fun _ h9 => h9) rfl d_CT_add_49 ?_
      refine lv_iconst (v := 1) hx hb d_CT_add_52 (by decide) ?_
      refine lv_isub hx hb d_CT_add_53 ?_
      exact W.iret (v := (nI (cc + 1)) - 1) hx hb hr (fun t ht hW => ⟨⟨_, (), rfl, nI_pred cc, by show va_P _ _ _ t.heap; rw [ht]; exact hP⟩, hS.F ht⟩) hS.2.2 d_CT_add_54
    · exact absurd (show nI cc < nI 100 from nI_lt hlt (by omega)) c_13
set_option maxHeartbeats 4000000 in
set_option maxRecDepth 100000 in
theorem c_RT_add (l : Launch) (dC : Nat → ClassId) (dI : Nat → Nat → Nat) (hR hp hq hi : Nat) (cP cQ cS : ClassId) (rc : Nat) (rp rl ri : Nat → Int32) (hrc : rc ≤ 40) (hlt : rc < 40) (x y z : Int32) (hD0 : va_D (fun _ => True) [(hR, .inr (2, [.ref hp, .ref hq, .ref hi, .int (nI rc)])), (hp, .inl (cP, 40, .inl rp)), (hq, .inl (cQ, 40, .inl rl)), (hi, .inl (cS, 40, .inl ri))]) : Met l y_RT_add (zw y_RT_add b_RT_add 4 none) ({ frames := 0, cells := 0, slots := 0, locals := 0 }) (zPre [.ref hR, .int x, .int y, .int z] (dC, dI) [(hR, .inr (2, [.ref hp, .ref hq, .ref hi, .int (nI rc)])), (hp, .inl (cP, 40, .inl rp)), (hq, .inl (cQ, 40, .inl rl)), (hi, .inl (cS, 40, .inl ri))] [(cP, .int), (cQ, .int), (cS, .int)]) (va_Qv (fun (_ : Unit) => True) (fun (_ : Unit) (t : State) => va_P (dC, dI) vwCl [(hR, .inr (2, [.ref hp, .ref hq, .ref hi, .int (nI (rc + 1))])), (hp, .inl (cP, 40, .inl (upd rp rc y))), (hq, .inl (cQ, 40, .inl (upd rl rc z))), (hi, .inl (cS, 40, .inl (upd ri rc x)))] t.heap) (zA [(hR, .inr (2, [.ref hp, .ref hq, .ref hi, .int (nI rc)])), (hp, .inl (cP, 40, .inl rp)), (hq, .inl (cQ, 40, .inl rl)), (hi, .inl (cS, 40, .inl ri))])) 0 0 (zA [(hR, .inr (2, [.ref hp, .ref hq, .ref hi, .int (nI rc)])), (hp, .inl (cP, 40, .inl rp)), (hq, .inl (cQ, 40, .inl rl)), (hi, .inl (cS, 40, .inl ri))]) := by
  refine Met.ofW (cc := b_RT_add) (maxL := 4) (ret := none) (by decide) rfl ?_
  intro p e s m args below meth c s₁ B hml hv
  obtain ⟨rfl, hP, hK⟩ := hv
  have hx := B.exec
  have hb := B.bytes
  have hr := B.returns
  have hts := atoms_spec (ws := (zw y_RT_add b_RT_add 4 none)) B.pre
  have htB : ∀ w ∈ BG, w.before ([.ref hR, .int x, .int y, .int z] : List Value).toArray s = true := fun w h => hts w (List.mem_cons_of_mem _ h)
  have hown : s.vm.findClass R_RT = some m.cls := findClass_of_methodNamed B.named
  have hlocks := B.notSynchronized
  have CF : CallFix p m c b_RT_add 4 s ([.ref hR, .int x, .int y, .int z] : List Value).toArray BG R_RT := ⟨hx, hb, hml, hown, htB⟩
  have hP : va_P (dC, dI) vwCl [(hR, .inr (2, [.ref hp, .ref hq, .ref hi, .int (nI rc)])), (hp, .inl (cP, 40, .inl rp)), (hq, .inl (cQ, 40, .inl rl)), (hi, .inl (cS, 40, .inl ri))] s.heap := hP
  have hl := lv_entry [.ref hR, .int x, .int y, .int z] (n := 4) (Nat.le_of_ble_eq_true rfl)
  rw [lg_entry_eq]
  generalize (lg_sl [.ref hR, .int x, .int y, .int z] ++ List.replicate (4 - (lg_sl [.ref hR, .int x, .int y, .int z]).length) Slot.unset).toArray = ls at hl ⊢
  have hl : lv_has ls 4 [(0, .ref hR), (1, .int x), (2, .int y), (3, .int z)] := hl
  have hD : va_D (zA [(hR, .inr (2, [.ref hp, .ref hq, .ref hi, .int (nI rc)])), (hp, .inl (cP, 40, .inl rp)), (hq, .inl (cQ, 40, .inl rl)), (hi, .inl (cS, 40, .inl ri))]) [(hR, .inr (2, [.ref hp, .ref hq, .ref hi, .int (nI rc)])), (hp, .inl (cP, 40, .inl rp)), (hq, .inl (cQ, 40, .inl rl)), (hi, .inl (cS, 40, .inl ri))] := zA_of hD0
  have hS : va_S (zA [(hR, .inr (2, [.ref hp, .ref hq, .ref hi, .int (nI rc)])), (hp, .inl (cP, 40, .inl rp)), (hq, .inl (cQ, 40, .inl rl)), (hi, .inl (cS, 40, .inl ri))]) s.heap s.heap [] := va_S.rf
  generalize zA [(hR, .inr (2, [.ref hp, .ref hq, .ref hi, .int (nI rc)])), (hp, .inl (cP, 40, .inl rp)), (hq, .inl (cQ, 40, .inl rl)), (hi, .inl (cS, 40, .inl ri))] = A at hD hS ⊢
  have b_25 : vp_in (nI rc) 40 := vp_in_nI (by omega) (by omega)
  have b_35 := b_25
  have b_45 := b_25
  refine lv_aload_n hx hb d_RT_add_0 rfl (lv_at hl 0 rfl) ?_
  refine va_get (D := (dC, dI)) (ci := 2) (v := .int (nI rc)) (C := R_RT) (T := T_RT) (N := 4) hx hb htB i_RT hown hK hP 0 rfl rfl 3 (by decide) (htB _ lf_RT_21) (fun _ h9 => h9) rfl d_RT_add_1 ?_
  refine lv_if_lt (tgt := 56) hx hb d_RT_add_4 (by decide) (fun c_4 => ?_) (fun c_4 => ?_)
  · exact absurd c_4 (nI_pos (by omega))
  · refine lv_aload_n hx hb d_RT_add_7 rfl (lv_at hl 0 rfl) ?_
    refine va_get (D := (dC, dI)) (ci := 2) (v := .int (nI rc)) (C := R_RT) (T := T_RT) (N := 4) hx hb htB i_RT hown hK hP 0 rfl rfl 3 (by decide) (htB _ lf_RT_21) (fun _ h9 => h9) rfl d_RT_add_8 ?_
    refine lv_bipush (v := 40) hx hb d_RT_add_11 (by decide) ?_
    refine lv_icmp_ge (tgt := 56) hx hb d_RT_add_13 (by decide) (fun c_13 => ?_) (fun c_13 => ?_)
    · exact absurd c_13 (show ¬ nI 40 ≤ nI rc from nI_ge hlt (by omega))
    · refine lv_aload_n hx hb d_RT_add_16 rfl (lv_at hl 0 rfl) ?_
      refine va_get (D := (dC, dI)) (ci := 2) (v := .ref hp) (C := R_RT) (T := T_RT) (N := 4) hx hb htB i_RT hown hK hP 0 rfl rfl 0 (by decide) (htB _ lf_RT_11) (fun _ h9 => h9) rfl d_RT_add_17 ?_
      refine lv_aload_n hx hb d_RT_add_20 rfl (lv_at hl 0 rfl) ?_
      refine va_get (D := (dC, dI)) (ci := 2) (v := .int (nI rc)) (C := R_RT) (T := T_RT) (N := 4) hx hb htB i_RT hown hK hP 0 rfl rfl 3 (by decide) (htB _ lf_RT_21) (fun _ h9 => h9) rfl d_RT_add_21 ?_
      refine lv_iload_n hx hb d_RT_add_24 rfl (lv_at hl 2 rfl) ?_
      refine va_iast hx hb hK hP hD hS 1 0 rfl rfl b_25 d_RT_add_25 (fun H locs hP hD hS => ?_)
      have hP : va_P (dC, dI) vwCl [(hR, .inr (2, [.ref hp, .ref hq, .ref hi, .int (nI rc)])), (hp, .inl (cP, 40, .inl (upd rp (nI rc).toNatClampNeg y))), (hq, .inl (cQ, 40, .inl rl)), (hi, .inl (cS, 40, .inl ri))] H := hP
      have hD : va_D A [(hR, .inr (2, [.ref hp, .ref hq, .ref hi, .int (nI rc)])), (hp, .inl (cP, 40, .inl (upd rp (nI rc).toNatClampNeg y))), (hq, .inl (cQ, 40, .inl rl)), (hi, .inl (cS, 40, .inl ri))] := hD
      rw [nI_clamp (n := rc) (by omega)] at hP hD
      refine lv_aload_n hx hb d_RT_add_26 rfl (lv_at hl 0 rfl) ?_
      refine va_get (D := (dC, dI)) (ci := 2) (v := .ref hq) (C := R_RT) (T := T_RT) (N := 4) hx hb htB i_RT hown hK hP 0 rfl rfl 1 (by decide) (htB _ lf_RT_15) (fun _ h9 => h9) rfl d_RT_add_27 ?_
      refine lv_aload_n hx hb d_RT_add_30 rfl (lv_at hl 0 rfl) ?_
      refine va_get (D := (dC, dI)) (ci := 2) (v := .int (nI rc)) (C := R_RT) (T := T_RT) (N := 4) hx hb htB i_RT hown hK hP 0 rfl rfl 3 (by decide) (htB _ lf_RT_21) (fun _ h9 => h9) rfl d_RT_add_31 ?_
      refine lv_iload_n hx hb d_RT_add_34 rfl (lv_at hl 3 rfl) ?_
      refine va_iast hx hb hK hP hD hS 2 1 rfl rfl b_35 d_RT_add_35 (fun H locs hP hD hS => ?_)
      have hP : va_P (dC, dI) vwCl [(hR, .inr (2, [.ref hp, .ref hq, .ref hi, .int (nI rc)])), (hp, .inl (cP, 40, .inl (upd rp rc y))), (hq, .inl (cQ, 40, .inl (upd rl (nI rc).toNatClampNeg z))), (hi, .inl (cS, 40, .inl ri))] H := hP
      have hD : va_D A [(hR, .inr (2, [.ref hp, .ref hq, .ref hi, .int (nI rc)])), (hp, .inl (cP, 40, .inl (upd rp rc y))), (hq, .inl (cQ, 40, .inl (upd rl (nI rc).toNatClampNeg z))), (hi, .inl (cS, 40, .inl ri))] := hD
      rw [nI_clamp (n := rc) (by omega)] at hP hD
      refine lv_aload_n hx hb d_RT_add_36 rfl (lv_at hl 0 rfl) ?_
      refine va_get (D := (dC, dI)) (ci := 2) (v := .ref hi) (C := R_RT) (T := T_RT) (N := 4) hx hb htB i_RT hown hK hP 0 rfl rfl 2 (by decide) (htB _ lf_RT_18) (fun _ h9 => h9) rfl d_RT_add_37 ?_
      refine lv_aload_n hx hb d_RT_add_40 rfl (lv_at hl 0 rfl) ?_
      refine va_get (D := (dC, dI)) (ci := 2) (v := .int (nI rc)) (C := R_RT) (T := T_RT) (N := 4) hx hb htB i_RT hown hK hP 0 rfl rfl 3 (by decide) (htB _ lf_RT_21) (fun _ h9 => h9) rfl d_RT_add_41 ?_
      refine lv_iload_n hx hb d_RT_add_44 rfl (lv_at hl 1 rfl) ?_
      refine va_iast hx hb hK hP hD hS 3 2 rfl rfl b_45 d_RT_add_45 (fun H locs hP hD hS => ?_)
      have hP : va_P (dC, dI) vwCl [(hR, .inr (2, [.ref hp, .ref hq, .ref hi, .int (nI rc)])), (hp, .inl (cP, 40, .inl (upd rp rc y))), (hq, .inl (cQ, 40, .inl (upd rl rc z))), (hi, .inl (cS, 40, .inl (upd ri (nI rc).toNatClampNeg x)))] H := hP
      have hD : va_D A [(hR, .inr (2, [.ref hp, .ref hq, .ref hi, .int (nI rc)])), (hp, .inl (cP, 40, .inl (upd rp rc y))), (hq, .inl (cQ, 40, .inl (upd rl rc z))), (hi, .inl (cS, 40, .inl (upd ri (nI rc).toNatClampNeg x)))] := hD
      rw [nI_clamp (n := rc) (by omega)] at hP hD
      refine lv_aload_n hx hb d_RT_add_46 rfl (lv_at hl 0 rfl) ?_
      refine lv_dup hx hb d_RT_add_47 rfl ?_
      refine va_get (D := (dC, dI)) (ci := 2) (v := .int (nI rc)) (C := R_RT) (T := T_RT) (N := 4) hx hb htB i_RT hown hK hP 0 rfl rfl 3 (by decide) (htB _ lf_RT_21) (fun _ h9 => h9) rfl d_RT_add_48 ?_
      refine lv_iconst (v := 1) hx hb d_RT_add_51 (by decide) ?_
      refine lv_iadd hx hb d_RT_add_52 ?_
      rw [show ((nI rc) + 1 : Int32) = nI (rc + 1) from nI_1 rc]
      refine va_put (D := (dC, dI)) (ci := 2) (v := .int (nI (rc + 1))) (ty := .int) (C := R_RT) (T := T_RT) (N := 4) hx hb htB i_RT t_RT tk_RT n_RT hown hK hP hD hS 0 rfl rfl 3 (by decide) (htB _ lf_RT_21) (fun _ h9 => h9) rfl (by decide +kernel) rfl rfl (Nat.le_of_ble_eq_true rfl) d_RT_add_53 (fun H locs hP hD hS => ?_)
      have hP : va_P (dC, dI) vwCl [(hR, .inr (2, [.ref hp, .ref hq, .ref hi, .int (nI (rc + 1))])), (hp, .inl (cP, 40, .inl (upd rp rc y))), (hq, .inl (cQ, 40, .inl (upd rl rc z))), (hi, .inl (cS, 40, .inl (upd ri rc x)))] H := hP
      have hD : va_D A [(hR, .inr (2, [.ref hp, .ref hq, .ref hi, .int (nI (rc + 1))])), (hp, .inl (cP, 40, .inl (upd rp rc y))), (hq, .inl (cQ, 40, .inl (upd rl rc z))), (hi, .inl (cS, 40, .inl (upd ri rc x)))] := hD
      exact W.vret hx hb hr (fun t ht hW => ⟨⟨(), rfl, trivial, by show va_P _ _ _ t.heap; rw [ht]; exact hP⟩, hS.F ht⟩) hS.2.2 d_RT_add_56
set_option maxHeartbeats 4000000 in
set_option maxRecDepth 100000 in
theorem c_RT_redirect (l : Launch) (dC : Nat → ClassId) (dI : Nat → Nat → Nat) (hR hp hq hi : Nat) (cP cQ cS : ClassId) (rc : Nat) (rp rl ri : Nat → Int32) (hrc : rc ≤ 40) (j : Nat) (hj : j < rc) (hne : ¬ ri j = -1) (x : Int32) (hD0 : va_D (fun _ => True) [(hR, .inr (2, [.ref hp, .ref hq, .ref hi, .int (nI rc)])), (hp, .inl (cP, 40, .inl rp)), (hq, .inl (cQ, 40, .inl rl)), (hi, .inl (cS, 40, .inl ri))]) : Met l y_RT_redirect (zw y_RT_redirect b_RT_redirect 4 (some .int)) ({ frames := 1, cells := 0, slots := 0, locals := 21 }) (zPre [.ref hR, .int (nI j), .int x] (dC, dI) [(hR, .inr (2, [.ref hp, .ref hq, .ref hi, .int (nI rc)])), (hp, .inl (cP, 40, .inl rp)), (hq, .inl (cQ, 40, .inl rl)), (hi, .inl (cS, 40, .inl ri))] [(cP, .int), (cQ, .int), (cS, .int)]) (va_Qi (fun (r : Int32) (_ : Unit) => r = ri j) (fun (_ : Unit) (t : State) => va_P (dC, dI) vwCl [(hR, .inr (2, [.ref hp, .ref hq, .ref hi, .int (nI rc)])), (hp, .inl (cP, 40, .inl rp)), (hq, .inl (cQ, 40, .inl rl)), (hi, .inl (cS, 40, .inl (upd ri j x)))] t.heap) (zA [(hR, .inr (2, [.ref hp, .ref hq, .ref hi, .int (nI rc)])), (hp, .inl (cP, 40, .inl rp)), (hq, .inl (cQ, 40, .inl rl)), (hi, .inl (cS, 40, .inl ri))])) 0 0 (zA [(hR, .inr (2, [.ref hp, .ref hq, .ref hi, .int (nI rc)])), (hp, .inl (cP, 40, .inl rp)), (hq, .inl (cQ, 40, .inl rl)), (hi, .inl (cS, 40, .inl ri))]) := by
  refine Met.ofW (cc := b_RT_redirect) (maxL := 4) (ret := (some .int)) (by decide) rfl ?_
  intro p e s m args below meth c s₁ B hml hv
  obtain ⟨rfl, hP, hK⟩ := hv
  have hx := B.exec
  have hb := B.bytes
  have hr := B.returns
  have hts := atoms_spec (ws := (zw y_RT_redirect b_RT_redirect 4 (some .int))) B.pre
  have htB : ∀ w ∈ BG, w.before ([.ref hR, .int (nI j), .int x] : List Value).toArray s = true := fun w h => hts w (List.mem_cons_of_mem _ h)
  have hown : s.vm.findClass R_RT = some m.cls := findClass_of_methodNamed B.named
  have hlocks := B.notSynchronized
  have CF : CallFix p m c b_RT_redirect 4 s ([.ref hR, .int (nI j), .int x] : List Value).toArray BG R_RT := ⟨hx, hb, hml, hown, htB⟩
  have hP : va_P (dC, dI) vwCl [(hR, .inr (2, [.ref hp, .ref hq, .ref hi, .int (nI rc)])), (hp, .inl (cP, 40, .inl rp)), (hq, .inl (cQ, 40, .inl rl)), (hi, .inl (cS, 40, .inl ri))] s.heap := hP
  have hl := lv_entry [.ref hR, .int (nI j), .int x] (n := 4) (Nat.le_of_ble_eq_true rfl)
  rw [lg_entry_eq]
  generalize (lg_sl [.ref hR, .int (nI j), .int x] ++ List.replicate (4 - (lg_sl [.ref hR, .int (nI j), .int x]).length) Slot.unset).toArray = ls at hl ⊢
  have hl : lv_has ls 4 [(0, .ref hR), (1, .int (nI j)), (2, .int x)] := hl
  have hD : va_D (zA [(hR, .inr (2, [.ref hp, .ref hq, .ref hi, .int (nI rc)])), (hp, .inl (cP, 40, .inl rp)), (hq, .inl (cQ, 40, .inl rl)), (hi, .inl (cS, 40, .inl ri))]) [(hR, .inr (2, [.ref hp, .ref hq, .ref hi, .int (nI rc)])), (hp, .inl (cP, 40, .inl rp)), (hq, .inl (cQ, 40, .inl rl)), (hi, .inl (cS, 40, .inl ri))] := zA_of hD0
  have hS : va_S (zA [(hR, .inr (2, [.ref hp, .ref hq, .ref hi, .int (nI rc)])), (hp, .inl (cP, 40, .inl rp)), (hq, .inl (cQ, 40, .inl rl)), (hi, .inl (cS, 40, .inl ri))]) s.heap s.heap [] := va_S.rf
  generalize zA [(hR, .inr (2, [.ref hp, .ref hq, .ref hi, .int (nI rc)])), (hp, .inl (cP, 40, .inl rp)), (hq, .inl (cQ, 40, .inl rl)), (hi, .inl (cS, 40, .inl ri))] = A at hD hS ⊢
  have b_15 : vp_in (nI j) 40 := vp_in_nI (by omega) (by omega)
  have b_23 := b_15
  refine lv_aload_n hx hb d_RT_redirect_0 rfl (lv_at hl 0 rfl) ?_
  refine lv_iload_n hx hb d_RT_redirect_1 rfl (lv_at hl 1 rfl) ?_
  refine vp_callSi (va_Run.run (zr_V (n := 1) (As := [.int (nI j)]) (rest := []) CF (c_RT_has l dC dI hR hp hq hi cP cQ cS rc rp rl ri hrc (nI j)) mc_RT_has lk_RT_25 mi_RT_has ms_RT_has ni_RT rfl rfl (by decide +kernel) ⟨Nat.le_of_ble_eq_true rfl, Nat.le_of_ble_eq_true rfl⟩ (hP.sub (ws' := [(hR, .inr (2, [.ref hp, .ref hq, .ref hi, .int (nI rc)])), (hp, .inl (cP, 40, .inl rp)), (hq, .inl (cQ, 40, .inl rl)), (hi, .inl (cS, 40, .inl ri))]) [0, 1, 2, 3] rfl) (hK.sub (tys' := [(cP, .int), (cQ, .int), (cS, .int)]) [0, 1, 2] rfl) rfl rfl rfl hl.1 rfl (lv_room (Nat.le_of_ble_eq_true rfl)) d_RT_redirect_2 ⟨Nat.zero_le _, Nat.zero_le _⟩)) (fun r_2 h_2 => ?_)
  rw [if_pos (show 0 ≤ (nI j).toInt ∧ (nI j).toInt < rc by rw [nI_toInt (by omega)]; omega)] at h_2
  subst h_2
  refine lv_if_ne (tgt := 10) hx hb d_RT_redirect_5 (by decide) (fun c_5 => ?_) (fun c_5 => ?_)
  · refine lv_aload_n hx hb d_RT_redirect_10 rfl (lv_at hl 0 rfl) ?_
    refine va_get (D := (dC, dI)) (ci := 2) (v := .ref hi) (C := R_RT) (T := T_RT) (N := 4) hx hb htB i_RT hown hK hP 0 rfl rfl 2 (by decide) (htB _ lf_RT_18) (fun _ h9 => h9) rfl d_RT_redirect_11 ?_
    refine lv_iload_n hx hb d_RT_redirect_14 rfl (lv_at hl 1 rfl) ?_
    refine va_iald hx hb hK hP 3 2 rfl rfl b_15 d_RT_redirect_15 ?_
    rw [nI_clamp (n := j) (by omega)]
    refine lv_istore_n (lv' := [(3, .int (ri j)), (0, .ref hR), (1, .int (nI j)), (2, .int x)]) hx hb d_RT_redirect_16 rfl hl (by decide) rfl (fun ls hl => ?_)
    refine lv_aload_n hx hb d_RT_redirect_17 rfl (lv_at hl 1 rfl) ?_
    refine va_get (D := (dC, dI)) (ci := 2) (v := .ref hi) (C := R_RT) (T := T_RT) (N := 4) hx hb htB i_RT hown hK hP 0 rfl rfl 2 (by decide) (htB _ lf_RT_18) (fun _ h9 => h9) rfl d_RT_redirect_18 ?_
    refine lv_iload_n hx hb d_RT_redirect_21 rfl (lv_at hl 2 rfl) ?_
    refine lv_iload_n hx hb d_RT_redirect_22 rfl (lv_at hl 3 rfl) ?_
    refine va_iast hx hb hK hP hD hS 3 2 rfl rfl b_23 d_RT_redirect_23 (fun H locs hP hD hS => ?_)
    have hP : va_P (dC, dI) vwCl [(hR, .inr (2, [.ref hp, .ref hq, .ref hi, .int (nI rc)])), (hp, .inl (cP, 40, .inl rp)), (hq, .inl (cQ, 40, .inl rl)), (hi, .inl (cS, 40, .inl (upd ri (nI j).toNatClampNeg x)))] H := hP
    have hD : va_D A [(hR, .inr (2, [.ref hp, .ref hq, .ref hi, .int (nI rc)])), (hp, .inl (cP, 40, .inl rp)), (hq, .inl (cQ, 40, .inl rl)), (hi, .inl (cS, 40, .inl (upd ri (nI j).toNatClampNeg x)))] := hD
    rw [nI_clamp (n := j) (by omega)] at hP hD
    refine lv_iload_n hx hb d_RT_redirect_24 rfl (lv_at hl 0 rfl) ?_
    exact W.iret (v := ri j) hx hb hr (fun t ht hW => ⟨⟨_, (), rfl, rfl, by show va_P _ _ _ t.heap; rw [ht]; exact hP⟩, hS.F ht⟩) hS.2.2 d_RT_redirect_25
  · exact absurd c_5 (by decide)
set_option maxHeartbeats 4000000 in
set_option maxRecDepth 100000 in
theorem c_RT_remove (l : Launch) (dC : Nat → ClassId) (dI : Nat → Nat → Nat) (hR hp hq hi : Nat) (cP cQ cS : ClassId) (rc : Nat) (rp rl ri : Nat → Int32) (hrc : rc ≤ 40) (j : Nat) (hj : j < rc) (hne : ¬ ri j = -1) (hD0 : va_D (fun _ => True) [(hR, .inr (2, [.ref hp, .ref hq, .ref hi, .int (nI rc)])), (hp, .inl (cP, 40, .inl rp)), (hq, .inl (cQ, 40, .inl rl)), (hi, .inl (cS, 40, .inl ri))]) : Met l y_RT_remove (zw y_RT_remove b_RT_remove 4 (some .int)) ({ frames := 1, cells := 0, slots := 0, locals := 21 }) (zPre [.ref hR, .int (nI j)] (dC, dI) [(hR, .inr (2, [.ref hp, .ref hq, .ref hi, .int (nI rc)])), (hp, .inl (cP, 40, .inl rp)), (hq, .inl (cQ, 40, .inl rl)), (hi, .inl (cS, 40, .inl ri))] [(cP, .int), (cQ, .int), (cS, .int)]) (va_Qi (fun (r : Int32) (_ : Unit) => r = ri j) (fun (_ : Unit) (t : State) => va_P (dC, dI) vwCl [(hR, .inr (2, [.ref hp, .ref hq, .ref hi, .int (nI (rc - 1))])), (hp, .inl (cP, 40, .inl (upd rp j (rp (rc - 1))))), (hq, .inl (cQ, 40, .inl (upd rl j (rl (rc - 1))))), (hi, .inl (cS, 40, .inl (upd ri j (ri (rc - 1)))))] t.heap) (zA [(hR, .inr (2, [.ref hp, .ref hq, .ref hi, .int (nI rc)])), (hp, .inl (cP, 40, .inl rp)), (hq, .inl (cQ, 40, .inl rl)), (hi, .inl (cS, 40, .inl ri))])) 0 0 (zA [(hR, .inr (2, [.ref hp, .ref hq, .ref hi, .int (nI rc)])), (hp, .inl (cP, 40, .inl rp)), (hq, .inl (cQ, 40, .inl rl)), (hi, .inl (cS, 40, .inl ri))]) := by
  refine Met.ofW (cc := b_RT_remove) (maxL := 4) (ret := (some .int)) (by decide) rfl ?_
  intro p e s m args below meth c s₁ B hml hv
  obtain ⟨rfl, hP, hK⟩ := hv
  have hx := B.exec
  have hb := B.bytes
  have hr := B.returns
  have hts := atoms_spec (ws := (zw y_RT_remove b_RT_remove 4 (some .int))) B.pre
  have htB : ∀ w ∈ BG, w.before ([.ref hR, .int (nI j)] : List Value).toArray s = true := fun w h => hts w (List.mem_cons_of_mem _ h)
  have hown : s.vm.findClass R_RT = some m.cls := findClass_of_methodNamed B.named
  have hlocks := B.notSynchronized
  have CF : CallFix p m c b_RT_remove 4 s ([.ref hR, .int (nI j)] : List Value).toArray BG R_RT := ⟨hx, hb, hml, hown, htB⟩
  have hP : va_P (dC, dI) vwCl [(hR, .inr (2, [.ref hp, .ref hq, .ref hi, .int (nI rc)])), (hp, .inl (cP, 40, .inl rp)), (hq, .inl (cQ, 40, .inl rl)), (hi, .inl (cS, 40, .inl ri))] s.heap := hP
  have hl := lv_entry [.ref hR, .int (nI j)] (n := 4) (Nat.le_of_ble_eq_true rfl)
  rw [lg_entry_eq]
  generalize (lg_sl [.ref hR, .int (nI j)] ++ List.replicate (4 - (lg_sl [.ref hR, .int (nI j)]).length) Slot.unset).toArray = ls at hl ⊢
  have hl : lv_has ls 4 [(0, .ref hR), (1, .int (nI j))] := hl
  have hD : va_D (zA [(hR, .inr (2, [.ref hp, .ref hq, .ref hi, .int (nI rc)])), (hp, .inl (cP, 40, .inl rp)), (hq, .inl (cQ, 40, .inl rl)), (hi, .inl (cS, 40, .inl ri))]) [(hR, .inr (2, [.ref hp, .ref hq, .ref hi, .int (nI rc)])), (hp, .inl (cP, 40, .inl rp)), (hq, .inl (cQ, 40, .inl rl)), (hi, .inl (cS, 40, .inl ri))] := zA_of hD0
  have hS : va_S (zA [(hR, .inr (2, [.ref hp, .ref hq, .ref hi, .int (nI rc)])), (hp, .inl (cP, 40, .inl rp)), (hq, .inl (cQ, 40, .inl rl)), (hi, .inl (cS, 40, .inl ri))]) s.heap s.heap [] := va_S.rf
  generalize zA [(hR, .inr (2, [.ref hp, .ref hq, .ref hi, .int (nI rc)])), (hp, .inl (cP, 40, .inl rp)), (hq, .inl (cQ, 40, .inl rl)), (hi, .inl (cS, 40, .inl ri))] = A at hD hS ⊢
  have b_30 : vp_in (nI j) 40 := vp_in_nI (by omega) (by omega)
  have b_43 := b_30
  have b_55 := b_30
  have b_67 := b_30
  have b_42 : vp_in (nI (rc - 1)) 40 := vp_in_nI (by omega) (by omega)
  have b_54 := b_42
  have b_66 := b_42
  refine lv_aload_n hx hb d_RT_remove_0 rfl (lv_at hl 0 rfl) ?_
  refine va_get (D := (dC, dI)) (ci := 2) (v := .int (nI rc)) (C := R_RT) (T := T_RT) (N := 4) hx hb htB i_RT hown hK hP 0 rfl rfl 3 (by decide) (htB _ lf_RT_21) (fun _ h9 => h9) rfl d_RT_remove_1 ?_
  refine lv_iconst (v := 1) hx hb d_RT_remove_4 (by decide) ?_
  refine lv_isub hx hb d_RT_remove_5 ?_
  rw [show ((nI rc) - 1 : Int32) = nI (rc - 1) from pk_sub (b := 1) (by omega)]
  refine lv_istore_n (lv' := [(2, .int (nI (rc - 1))), (0, .ref hR), (1, .int (nI j))]) hx hb d_RT_remove_6 rfl hl (by decide) rfl (fun ls hl => ?_)
  refine lv_aload_n hx hb d_RT_remove_7 rfl (lv_at hl 1 rfl) ?_
  refine lv_iload_n hx hb d_RT_remove_8 rfl (lv_at hl 2 rfl) ?_
  refine vp_callSi (va_Run.run (zr_V (n := 1) (As := [.int (nI j)]) (rest := []) CF (c_RT_has l dC dI hR hp hq hi cP cQ cS rc rp rl ri hrc (nI j)) mc_RT_has lk_RT_25 mi_RT_has ms_RT_has ni_RT rfl rfl (by decide +kernel) ⟨Nat.le_of_ble_eq_true rfl, Nat.le_of_ble_eq_true rfl⟩ (hP.sub (ws' := [(hR, .inr (2, [.ref hp, .ref hq, .ref hi, .int (nI rc)])), (hp, .inl (cP, 40, .inl rp)), (hq, .inl (cQ, 40, .inl rl)), (hi, .inl (cS, 40, .inl ri))]) [0, 1, 2, 3] rfl) (hK.sub (tys' := [(cP, .int), (cQ, .int), (cS, .int)]) [0, 1, 2] rfl) rfl rfl rfl hl.1 rfl (lv_room (Nat.le_of_ble_eq_true rfl)) d_RT_remove_9 ⟨Nat.zero_le _, Nat.zero_le _⟩)) (fun r_9 h_9 => ?_)
  rw [if_pos (show 0 ≤ (nI j).toInt ∧ (nI j).toInt < rc by rw [nI_toInt (by omega)]; omega)] at h_9
  subst h_9
  refine lv_if_eq (tgt := 23) hx hb d_RT_remove_12 (by decide) (fun c_12 => ?_) (fun c_12 => ?_)
  · exact absurd c_12 (by decide)
  · refine lv_aload_n hx hb d_RT_remove_15 rfl (lv_at hl 1 rfl) ?_
    refine lv_iload_n hx hb d_RT_remove_16 rfl (lv_at hl 0 rfl) ?_
    refine vp_callSi (va_Run.run (zr_V (n := 1) (As := [.int (nI (rc - 1))]) (rest := []) CF (c_RT_has l dC dI hR hp hq hi cP cQ cS rc rp rl ri hrc (nI (rc - 1))) mc_RT_has lk_RT_25 mi_RT_has ms_RT_has ni_RT rfl rfl (by decide +kernel) ⟨Nat.le_of_ble_eq_true rfl, Nat.le_of_ble_eq_true rfl⟩ (hP.sub (ws' := [(hR, .inr (2, [.ref hp, .ref hq, .ref hi, .int (nI rc)])), (hp, .inl (cP, 40, .inl rp)), (hq, .inl (cQ, 40, .inl rl)), (hi, .inl (cS, 40, .inl ri))]) [0, 1, 2, 3] rfl) (hK.sub (tys' := [(cP, .int), (cQ, .int), (cS, .int)]) [0, 1, 2] rfl) rfl rfl rfl hl.1 rfl (lv_room (Nat.le_of_ble_eq_true rfl)) d_RT_remove_17 ⟨Nat.zero_le _, Nat.zero_le _⟩)) (fun r_17 h_17 => ?_)
    rw [if_pos (show 0 ≤ (nI (rc - 1)).toInt ∧ (nI (rc - 1)).toInt < rc by rw [nI_toInt (by omega)]; omega)] at h_17
    subst h_17
    refine lv_if_ne (tgt := 25) hx hb d_RT_remove_20 (by decide) (fun c_20 => ?_) (fun c_20 => ?_)
    · refine lv_aload_n hx hb d_RT_remove_25 rfl (lv_at hl 1 rfl) ?_
      refine va_get (D := (dC, dI)) (ci := 2) (v := .ref hi) (C := R_RT) (T := T_RT) (N := 4) hx hb htB i_RT hown hK hP 0 rfl rfl 2 (by decide) (htB _ lf_RT_18) (fun _ h9 => h9) rfl d_RT_remove_26 ?_
      refine lv_iload_n hx hb d_RT_remove_29 rfl (lv_at hl 2 rfl) ?_
      refine va_iald hx hb hK hP 3 2 rfl rfl b_30 d_RT_remove_30 ?_
      rw [nI_clamp (n := j) (by omega)]
      refine lv_istore_n (lv' := [(3, .int (ri j)), (2, .int (nI (rc - 1))), (0, .ref hR), (1, .int (nI j))]) hx hb d_RT_remove_31 rfl hl (by decide) rfl (fun ls hl => ?_)
      refine lv_aload_n hx hb d_RT_remove_32 rfl (lv_at hl 2 rfl) ?_
      refine va_get (D := (dC, dI)) (ci := 2) (v := .ref hp) (C := R_RT) (T := T_RT) (N := 4) hx hb htB i_RT hown hK hP 0 rfl rfl 0 (by decide) (htB _ lf_RT_11) (fun _ h9 => h9) rfl d_RT_remove_33 ?_
      refine lv_iload_n hx hb d_RT_remove_36 rfl (lv_at hl 3 rfl) ?_
      refine lv_aload_n hx hb d_RT_remove_37 rfl (lv_at hl 2 rfl) ?_
      refine va_get (D := (dC, dI)) (ci := 2) (v := .ref hp) (C := R_RT) (T := T_RT) (N := 4) hx hb htB i_RT hown hK hP 0 rfl rfl 0 (by decide) (htB _ lf_RT_11) (fun _ h9 => h9) rfl d_RT_remove_38 ?_
      refine lv_iload_n hx hb d_RT_remove_41 rfl (lv_at hl 1 rfl) ?_
      refine va_iald hx hb hK hP 1 0 rfl rfl b_42 d_RT_remove_42 ?_
      rw [nI_clamp (n := (rc - 1)) (by omega)]
      refine va_iast hx hb hK hP hD hS 1 0 rfl rfl b_43 d_RT_remove_43 (fun H locs hP hD hS => ?_)
      have hP : va_P (dC, dI) vwCl [(hR, .inr (2, [.ref hp, .ref hq, .ref hi, .int (nI rc)])), (hp, .inl (cP, 40, .inl (upd rp (nI j).toNatClampNeg (rp (rc - 1))))), (hq, .inl (cQ, 40, .inl rl)), (hi, .inl (cS, 40, .inl ri))] H := hP
      have hD : va_D A [(hR, .inr (2, [.ref hp, .ref hq, .ref hi, .int (nI rc)])), (hp, .inl (cP, 40, .inl (upd rp (nI j).toNatClampNeg (rp (rc - 1))))), (hq, .inl (cQ, 40, .inl rl)), (hi, .inl (cS, 40, .inl ri))] := hD
      rw [nI_clamp (n := j) (by omega)] at hP hD
      refine lv_aload_n hx hb d_RT_remove_44 rfl (lv_at hl 2 rfl) ?_
      refine va_get (D := (dC, dI)) (ci := 2) (v := .ref hq) (C := R_RT) (T := T_RT) (N := 4) hx hb htB i_RT hown hK hP 0 rfl rfl 1 (by decide) (htB _ lf_RT_15) (fun _ h9 => h9) rfl d_RT_remove_45 ?_
      refine lv_iload_n hx hb d_RT_remove_48 rfl (lv_at hl 3 rfl) ?_
      refine lv_aload_n hx hb d_RT_remove_49 rfl (lv_at hl 2 rfl) ?_
      refine va_get (D := (dC, dI)) (ci := 2) (v := .ref hq) (C := R_RT) (T := T_RT) (N := 4) hx hb htB i_RT hown hK hP 0 rfl rfl 1 (by decide) (htB _ lf_RT_15) (fun _ h9 => h9) rfl d_RT_remove_50 ?_
      refine lv_iload_n hx hb d_RT_remove_53 rfl (lv_at hl 1 rfl) ?_
      refine va_iald hx hb hK hP 2 1 rfl rfl b_54 d_RT_remove_54 ?_
      rw [nI_clamp (n := (rc - 1)) (by omega)]
      refine va_iast hx hb hK hP hD hS 2 1 rfl rfl b_55 d_RT_remove_55 (fun H locs hP hD hS => ?_)
      have hP : va_P (dC, dI) vwCl [(hR, .inr (2, [.ref hp, .ref hq, .ref hi, .int (nI rc)])), (hp, .inl (cP, 40, .inl (upd rp j (rp (rc - 1))))), (hq, .inl (cQ, 40, .inl (upd rl (nI j).toNatClampNeg (rl (rc - 1))))), (hi, .inl (cS, 40, .inl ri))] H := hP
      have hD : va_D A [(hR, .inr (2, [.ref hp, .ref hq, .ref hi, .int (nI rc)])), (hp, .inl (cP, 40, .inl (upd rp j (rp (rc - 1))))), (hq, .inl (cQ, 40, .inl (upd rl (nI j).toNatClampNeg (rl (rc - 1))))), (hi, .inl (cS, 40, .inl ri))] := hD
      rw [nI_clamp (n := j) (by omega)] at hP hD
      refine lv_aload_n hx hb d_RT_remove_56 rfl (lv_at hl 2 rfl) ?_
      refine va_get (D := (dC, dI)) (ci := 2) (v := .ref hi) (C := R_RT) (T := T_RT) (N := 4) hx hb htB i_RT hown hK hP 0 rfl rfl 2 (by decide) (htB _ lf_RT_18) (fun _ h9 => h9) rfl d_RT_remove_57 ?_
      refine lv_iload_n hx hb d_RT_remove_60 rfl (lv_at hl 3 rfl) ?_
      refine lv_aload_n hx hb d_RT_remove_61 rfl (lv_at hl 2 rfl) ?_
      refine va_get (D := (dC, dI)) (ci := 2) (v := .ref hi) (C := R_RT) (T := T_RT) (N := 4) hx hb htB i_RT hown hK hP 0 rfl rfl 2 (by decide) (htB _ lf_RT_18) (fun _ h9 => h9) rfl d_RT_remove_62 ?_
      refine lv_iload_n hx hb d_RT_remove_65 rfl (lv_at hl 1 rfl) ?_
      refine va_iald hx hb hK hP 3 2 rfl rfl b_66 d_RT_remove_66 ?_
      rw [nI_clamp (n := (rc - 1)) (by omega)]
      refine va_iast hx hb hK hP hD hS 3 2 rfl rfl b_67 d_RT_remove_67 (fun H locs hP hD hS => ?_)
      have hP : va_P (dC, dI) vwCl [(hR, .inr (2, [.ref hp, .ref hq, .ref hi, .int (nI rc)])), (hp, .inl (cP, 40, .inl (upd rp j (rp (rc - 1))))), (hq, .inl (cQ, 40, .inl (upd rl j (rl (rc - 1))))), (hi, .inl (cS, 40, .inl (upd ri (nI j).toNatClampNeg (ri (rc - 1)))))] H := hP
      have hD : va_D A [(hR, .inr (2, [.ref hp, .ref hq, .ref hi, .int (nI rc)])), (hp, .inl (cP, 40, .inl (upd rp j (rp (rc - 1))))), (hq, .inl (cQ, 40, .inl (upd rl j (rl (rc - 1))))), (hi, .inl (cS, 40, .inl (upd ri (nI j).toNatClampNeg (ri (rc - 1)))))] := hD
      rw [nI_clamp (n := j) (by omega)] at hP hD
      refine lv_aload_n hx hb d_RT_remove_68 rfl (lv_at hl 2 rfl) ?_
      refine lv_iload_n hx hb d_RT_remove_69 rfl (lv_at hl 1 rfl) ?_
      refine va_put (D := (dC, dI)) (ci := 2) (v := .int (nI (rc - 1))) (ty := .int) (C := R_RT) (T := T_RT) (N := 4) hx hb htB i_RT t_RT tk_RT n_RT hown hK hP hD hS 0 rfl rfl 3 (by decide) (htB _ lf_RT_21) (fun _ h9 => h9) rfl (by decide +kernel) rfl rfl (Nat.le_of_ble_eq_true rfl) d_RT_remove_70 (fun H locs hP hD hS => ?_)
      have hP : va_P (dC, dI) vwCl [(hR, .inr (2, [.ref hp, .ref hq, .ref hi, .int (nI (rc - 1))])), (hp, .inl (cP, 40, .inl (upd rp j (rp (rc - 1))))), (hq, .inl (cQ, 40, .inl (upd rl j (rl (rc - 1))))), (hi, .inl (cS, 40, .inl (upd ri j (ri (rc - 1)))))] H := hP
      have hD : va_D A [(hR, .inr (2, [.ref hp, .ref hq, .ref hi, .int (nI (rc - 1))])), (hp, .inl (cP, 40, .inl (upd rp j (rp (rc - 1))))), (hq, .inl (cQ, 40, .inl (upd rl j (rl (rc - 1))))), (hi, .inl (cS, 40, .inl (upd ri j (ri (rc - 1)))))] := hD
      refine lv_iload_n hx hb d_RT_remove_73 rfl (lv_at hl 0 rfl) ?_
      exact W.iret (v := ri j) hx hb hr (fun t ht hW => ⟨⟨_, (), rfl, rfl, by show va_P _ _ _ t.heap; rw [ht]; exact hP⟩, hS.F ht⟩) hS.2.2 d_RT_remove_74
    · exact absurd c_20 (by decide)
