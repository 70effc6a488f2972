set_option maxHeartbeats 4000000 in
set_option maxRecDepth 100000 in
theorem c_RT_isFull (l : Launch) (dC : Nat → ClassId) (dI : Nat → Nat → Nat) (hR hp hq hi : Nat) (cP cQ cS : ClassId) (rc : Nat) (rp rl ri : Nat → Int32) (hrc : rc ≤ 40) : Met l y_RT_isFull (zw y_RT_isFull b_RT_isFull 1 (some .boolean)) ({ frames := 0, cells := 0, slots := 0, locals := 0 }) (zPre [.ref hR] (dC, dI) [(hR, .inr (2, [.ref hp, .ref hq, .ref hi, .int (nI rc)])), (hp, .inl (cP, 40, .inl rp)), (hq, .inl (cQ, 40, .inl rl)), (hi, .inl (cS, 40, .inl ri))] [(cP, .int), (cQ, .int), (cS, .int)]) (vp_Si (fun r => r = if 40 ≤ rc then 1 else 0)) 0 0 (fun _ => False) := by
  refine Met.ofW (cc := b_RT_isFull) (maxL := 1) (ret := (some .boolean)) (by decide) rfl ?_
  intro p e s m args below meth c s₁ B hml hv
  obtain ⟨rfl, hP, hK⟩ := hv
  have hx := B.exec
  have hb := B.bytes
  have hr := B.returns
  have hts := atoms_spec (ws := (zw y_RT_isFull b_RT_isFull 1 (some .boolean))) B.pre
  have htB : ∀ w ∈ BG, w.before ([.ref hR] : List Value).toArray s = true := fun w h => hts w (List.mem_cons_of_mem _ h)
  have hown : s.vm.findClass R_RT = some m.cls := findClass_of_methodNamed B.named
  have hlocks := B.notSynchronized
  have CF : CallFix p m c b_RT_isFull 1 s ([.ref hR] : List Value).toArray BG R_RT := ⟨hx, hb, hml, hown, htB⟩
  have hP : va_P (dC, dI) vwCl [(hR, .inr (2, [.ref hp, .ref hq, .ref hi, .int (nI rc)])), (hp, .inl (cP, 40, .inl rp)), (hq, .inl (cQ, 40, .inl rl)), (hi, .inl (cS, 40, .inl ri))] s.heap := hP
  have hl := lv_entry [.ref hR] (n := 1) (Nat.le_of_ble_eq_true rfl)
  rw [lg_entry_eq]
  generalize (lg_sl [.ref hR] ++ List.replicate (1 - (lg_sl [.ref hR]).length) Slot.unset).toArray = ls at hl ⊢
  have hl : lv_has ls 1 [(0, .ref hR)] := hl
  refine lv_aload_n hx hb d_RT_isFull_0 rfl (lv_at hl 0 rfl) ?_
  refine va_get (D := (dC, dI)) (ci := 2) (v := .int (nI rc)) (C := R_RT) (T := T_RT) (N := 4) hx hb htB i_RT hown hK hP 0 rfl rfl 3 (by decide) (htB _ lf_RT_21) (fun _ h9 => h9) rfl d_RT_isFull_1 ?_
  refine lv_bipush (v := 40) hx hb d_RT_isFull_4 (by decide) ?_
  refine lv_icmp_lt (tgt := 13) hx hb d_RT_isFull_6 (by decide) (fun c_6 => ?_) (fun c_6 => ?_)
  · have h0 : ¬ 40 ≤ rc := fun h => absurd c_6 (show ¬ nI rc < nI 40 from nI_nlt h (by omega))
    refine lv_iconst (v := 0) hx hb d_RT_isFull_13 (by decide) ?_
    exact W.zret (v := 0) (ty := .boolean) hx hb hr rfl (fun t ht hW => ⟨_, rfl, by rw [if_neg h0], ht⟩) (fun _ h => by cases h) d_RT_isFull_14
  · have h0 : 40 ≤ rc := Nat.not_lt.mp (fun h => c_6 (show nI rc < nI 40 from nI_lt h (by omega)))
    refine lv_iconst (v := 1) hx hb d_RT_isFull_9 (by decide) ?_
    refine lv_goto (tgt := 14) hx hb d_RT_isFull_10 (by decide) ?_
    exact W.zret (v := 1) (ty := .boolean) hx hb hr rfl (fun t ht hW => ⟨_, rfl, by rw [if_pos h0], ht⟩) (fun _ h => by cases h) d_RT_isFull_14
set_option maxHeartbeats 4000000 in
set_option maxRecDepth 100000 in
theorem c_AT_isFull (l : Launch) (dC : Nat → ClassId) (dI : Nat → Nat → Nat) (hT hs hu ho : Nat) (cI cU cO : ClassId) (ac : Nat) (ai ut ol : Nat → Int32) (hac : ac ≤ 64) : Met l y_AT_isFull (zw y_AT_isFull b_AT_isFull 1 (some .boolean)) ({ frames := 0, cells := 0, slots := 0, locals := 0 }) (zPre [.ref hT] (dC, dI) [(hT, .inr (0, [.ref hs, .ref hu, .ref ho, .int (nI ac)])), (hs, .inl (cI, 64, .inl ai)), (hu, .inl (cU, 512, .inl ut)), (ho, .inl (cO, 64, .inl ol))] [(cI, .int), (cU, .int), (cO, .int)]) (vp_Si (fun r => r = if 64 ≤ ac then 1 else 0)) 0 0 (fun _ => False) := by
  refine Met.ofW (cc := b_AT_isFull) (maxL := 1) (ret := (some .boolean)) (by decide) rfl ?_
  intro p e s m args below meth c s₁ B hml hv
  obtain ⟨rfl, hP, hK⟩ := hv
  have hx := B.exec
  have hb := B.bytes
  have hr := B.returns
  have hts := atoms_spec (ws := (zw y_AT_isFull b_AT_isFull 1 (some .boolean))) B.pre
  have htB : ∀ w ∈ BG, w.before ([.ref hT] : List Value).toArray s = true := fun w h => hts w (List.mem_cons_of_mem _ h)
  have hown : s.vm.findClass R_AT = some m.cls := findClass_of_methodNamed B.named
  have hlocks := B.notSynchronized
  have CF : CallFix p m c b_AT_isFull 1 s ([.ref hT] : List Value).toArray BG R_AT := ⟨hx, hb, hml, hown, htB⟩
  have hP : va_P (dC, dI) vwCl [(hT, .inr (0, [.ref hs, .ref hu, .ref ho, .int (nI ac)])), (hs, .inl (cI, 64, .inl ai)), (hu, .inl (cU, 512, .inl ut)), (ho, .inl (cO, 64, .inl ol))] s.heap := hP
  have hl := lv_entry [.ref hT] (n := 1) (Nat.le_of_ble_eq_true rfl)
  rw [lg_entry_eq]
  generalize (lg_sl [.ref hT] ++ List.replicate (1 - (lg_sl [.ref hT]).length) Slot.unset).toArray = ls at hl ⊢
  have hl : lv_has ls 1 [(0, .ref hT)] := hl
  refine lv_aload_n hx hb d_AT_isFull_0 rfl (lv_at hl 0 rfl) ?_
  refine va_get (D := (dC, dI)) (ci := 0) (v := .int (nI ac)) (C := R_AT) (T := T_AT) (N := 4) hx hb htB i_AT hown hK hP 0 rfl rfl 3 (by decide) (htB _ lf_AT_21) (fun _ h9 => h9) rfl d_AT_isFull_1 ?_
  refine lv_bipush (v := 64) hx hb d_AT_isFull_4 (by decide) ?_
  refine lv_icmp_lt (tgt := 13) hx hb d_AT_isFull_6 (by decide) (fun c_6 => ?_) (fun c_6 => ?_)
  · have h0 : ¬ 64 ≤ ac := fun h => absurd c_6 (show ¬ nI ac < nI 64 from nI_nlt h (by omega))
    refine lv_iconst (v := 0) hx hb d_AT_isFull_13 (by decide) ?_
    exact W.zret (v := 0) (ty := .boolean) hx hb hr rfl (fun t ht hW => ⟨_, rfl, by rw [if_neg h0], ht⟩) (fun _ h => by cases h) d_AT_isFull_14
  · have h0 : 64 ≤ ac := Nat.not_lt.mp (fun h => c_6 (show nI ac < nI 64 from nI_lt h (by omega)))
    refine lv_iconst (v := 1) hx hb d_AT_isFull_9 (by decide) ?_
    refine lv_goto (tgt := 14) hx hb d_AT_isFull_10 (by decide) ?_
    exact W.zret (v := 1) (ty := .boolean) hx hb hr rfl (fun t ht hW => ⟨_, rfl, by rw [if_pos h0], ht⟩) (fun _ h => by cases h) d_AT_isFull_14
set_option maxHeartbeats 4000000 in
set_option maxRecDepth 100000 in
theorem c_CT_isFull (l : Launch) (dC : Nat → ClassId) (dI : Nat → Nat → Nat) (hC hn ha hk : Nat) (cN cA cK : ClassId) (cc : Nat) (cn : Nat → Int64) (ca cb : Nat → Int32) (hcc : cc ≤ 100) : Met l y_CT_isFull (zw y_CT_isFull b_CT_isFull 1 (some .boolean)) ({ frames := 0, cells := 0, slots := 0, locals := 0 }) (zPre [.ref hC] (dC, dI) [(hC, .inr (1, [.ref hn, .ref ha, .ref hk, .int (nI cc)])), (hn, .inl (cN, 100, .inr (.inl cn))), (ha, .inl (cA, 100, .inl ca)), (hk, .inl (cK, 100, .inl cb))] [(cN, .long), (cA, .int), (cK, .boolean)]) (vp_Si (fun r => r = if 100 ≤ cc then 1 else 0)) 0 0 (fun _ => False) := by
  refine Met.ofW (cc := b_CT_isFull) (maxL := 1) (ret := (some .boolean)) (by decide) rfl ?_
  intro p e s m args below meth c s₁ B hml hv
  obtain ⟨rfl, hP, hK⟩ := hv
  have hx := B.exec
  have hb := B.bytes
  have hr := B.returns
  have hts := atoms_spec (ws := (zw y_CT_isFull b_CT_isFull 1 (some .boolean))) B.pre
  have htB : ∀ w ∈ BG, w.before ([.ref hC] : List Value).toArray s = true := fun w h => hts w (List.mem_cons_of_mem _ h)
  have hown : s.vm.findClass R_CT = some m.cls := findClass_of_methodNamed B.named
  have hlocks := B.notSynchronized
  have CF : CallFix p m c b_CT_isFull 1 s ([.ref hC] : List Value).toArray BG R_CT := ⟨hx, hb, hml, hown, htB⟩
  have hP : va_P (dC, dI) vwCl [(hC, .inr (1, [.ref hn, .ref ha, .ref hk, .int (nI cc)])), (hn, .inl (cN, 100, .inr (.inl cn))), (ha, .inl (cA, 100, .inl ca)), (hk, .inl (cK, 100, .inl cb))] s.heap := hP
  have hl := lv_entry [.ref hC] (n := 1) (Nat.le_of_ble_eq_true rfl)
  rw [lg_entry_eq]
  generalize (lg_sl [.ref hC] ++ List.replicate (1 - (lg_sl [.ref hC]).length) Slot.unset).toArray = ls at hl ⊢
  have hl : lv_has ls 1 [(0, .ref hC)] := hl
  refine lv_aload_n hx hb d_CT_isFull_0 rfl (lv_at hl 0 rfl) ?_
  refine va_get (D := (dC, dI)) (ci := 1) (v := .int (nI cc)) (C := R_CT) (T := T_CT) (N := 4) hx hb htB i_CT hown hK hP 0 rfl rfl 3 (by decide) (htB _ lf_CT_23) (fun _ h9 => h9) rfl d_CT_isFull_1 ?_
  refine lv_bipush (v := 100) hx hb d_CT_isFull_4 (by decide) ?_
  refine lv_icmp_lt (tgt := 13) hx hb d_CT_isFull_6 (by decide) (fun c_6 => ?_) (fun c_6 => ?_)
  · have h0 : ¬ 100 ≤ cc := fun h => absurd c_6 (show ¬ nI cc < nI 100 from nI_nlt h (by omega))
    refine lv_iconst (v := 0) hx hb d_CT_isFull_13 (by decide) ?_
    exact W.zret (v := 0) (ty := .boolean) hx hb hr rfl (fun t ht hW => ⟨_, rfl, by rw [if_neg h0], ht⟩) (fun _ h => by cases h) d_CT_isFull_14
  · have h0 : 100 ≤ cc := Nat.not_lt.mp (fun h => c_6 (show nI cc < nI 100 from nI_lt h (by omega)))
    refine lv_iconst (v := 1) hx hb d_CT_isFull_9 (by decide) ?_
    refine lv_goto (tgt := 14) hx hb d_CT_isFull_10 (by decide) ?_
    exact W.zret (v := 1) (ty := .boolean) hx hb hr rfl (fun t ht hW => ⟨_, rfl, by rw [if_pos h0], ht⟩) (fun _ h => by cases h) d_CT_isFull_14
set_option maxHeartbeats 4000000 in
set_option maxRecDepth 100000 in
theorem c_RT_has (l : Launch) (dC : Nat → ClassId) (dI : Nat → Nat → Nat) (hR hp hq hi : Nat) (cP cQ cS : ClassId) (rc : Nat) (rp rl ri : Nat → Int32) (hrc : rc ≤ 40) (a : Int32) : Met l y_RT_has (zw y_RT_has b_RT_has 2 (some .boolean)) ({ frames := 0, cells := 0, slots := 0, locals := 0 }) (zPre [.ref hR, .int a] (dC, dI) [(hR, .inr (2, [.ref hp, .ref hq, .ref hi, .int (nI rc)])), (hp, .inl (cP, 40, .inl rp)), (hq, .inl (cQ, 40, .inl rl)), (hi, .inl (cS, 40, .inl ri))] [(cP, .int), (cQ, .int), (cS, .int)]) (vp_Si (fun r => r = if 0 ≤ a.toInt ∧ a.toInt < rc then 1 else 0)) 0 0 (fun _ => False) := by
  refine Met.ofW (cc := b_RT_has) (maxL := 2) (ret := (some .boolean)) (by decide) rfl ?_
  intro p e s m args below meth c s₁ B hml hv
  obtain ⟨rfl, hP, hK⟩ := hv
  have hx := B.exec
  have hb := B.bytes
  have hr := B.returns
  have hts := atoms_spec (ws := (zw y_RT_has b_RT_has 2 (some .boolean))) B.pre
  have htB : ∀ w ∈ BG, w.before ([.ref hR, .int a] : List Value).toArray s = true := fun w h => hts w (List.mem_cons_of_mem _ h)
  have hown : s.vm.findClass R_RT = some m.cls := findClass_of_methodNamed B.named
  have hlocks := B.notSynchronized
  have CF : CallFix p m c b_RT_has 2 s ([.ref hR, .int a] : List Value).toArray BG R_RT := ⟨hx, hb, hml, hown, htB⟩
  have hP : va_P (dC, dI) vwCl [(hR, .inr (2, [.ref hp, .ref hq, .ref hi, .int (nI rc)])), (hp, .inl (cP, 40, .inl rp)), (hq, .inl (cQ, 40, .inl rl)), (hi, .inl (cS, 40, .inl ri))] s.heap := hP
  have hl := lv_entry [.ref hR, .int a] (n := 2) (Nat.le_of_ble_eq_true rfl)
  rw [lg_entry_eq]
  generalize (lg_sl [.ref hR, .int a] ++ List.replicate (2 - (lg_sl [.ref hR, .int a]).length) Slot.unset).toArray = ls at hl ⊢
  have hl : lv_has ls 2 [(0, .ref hR), (1, .int a)] := hl
  refine lv_iload_n hx hb d_RT_has_0 rfl (lv_at hl 1 rfl) ?_
  refine lv_if_lt (tgt := 22) hx hb d_RT_has_1 (by decide) (fun c_1 => ?_) (fun c_1 => ?_)
  · have hz : ¬ (0 ≤ a.toInt ∧ a.toInt < rc) := by
      have h0 := Int32.lt_iff_toInt_lt.mp c_1
      simp at h0
      omega
    refine lv_iconst (v := 0) hx hb d_RT_has_22 (by decide) ?_
    exact W.zret (v := 0) (ty := .boolean) hx hb hr rfl (fun t ht hW => ⟨_, rfl, by rw [if_neg hz], ht⟩) (fun _ h => by cases h) d_RT_has_23
  · have h1 : 0 ≤ a.toInt := by
      have h0 := fun h => c_1 (Int32.lt_iff_toInt_lt.mpr h)
      simp at h0
      omega
    refine lv_iload_n hx hb d_RT_has_4 rfl (lv_at hl 1 rfl) ?_
    refine lv_aload_n hx hb d_RT_has_5 rfl (lv_at hl 0 rfl) ?_
    refine va_get (D := (dC, dI)) (ci := 2) (v := .int (nI rc)) (C := R_RT) (T := T_RT) (N := 4) hx hb htB i_RT hown hK hP 0 rfl rfl 3 (by decide) (htB _ lf_RT_21) (fun _ h9 => h9) rfl d_RT_has_6 ?_
    refine lv_icmp_ge (tgt := 22) hx hb d_RT_has_9 (by decide) (fun c_9 => ?_) (fun c_9 => ?_)
    · have hz : ¬ (0 ≤ a.toInt ∧ a.toInt < rc) := by
        have h0 := Int32.le_iff_toInt_le.mp c_9
        rw [nI_toInt (by omega)] at h0
        omega
      refine lv_iconst (v := 0) hx hb d_RT_has_22 (by decide) ?_
      exact W.zret (v := 0) (ty := .boolean) hx hb hr rfl (fun t ht hW => ⟨_, rfl, by rw [if_neg hz], ht⟩) (fun _ h => by cases h) d_RT_has_23
    · have h2 : a.toInt < rc := Int.not_le.mp (fun h => c_9 (Int32.le_iff_toInt_le.mpr (by rw [nI_toInt (by omega)]; exact h)))
      refine lv_iload_n hx hb d_RT_has_12 rfl (lv_at hl 1 rfl) ?_
      refine lv_bipush (v := 40) hx hb d_RT_has_13 (by decide) ?_
      refine lv_icmp_ge (tgt := 22) hx hb d_RT_has_15 (by decide) (fun c_15 => ?_) (fun c_15 => ?_)
      · exact absurd (Int32.le_iff_toInt_le.mp c_15) (by show ¬ (40 : Int) ≤ a.toInt; omega)
      · refine lv_iconst (v := 1) hx hb d_RT_has_18 (by decide) ?_
        refine lv_goto (tgt := 23) hx hb d_RT_has_19 (by decide) ?_
        exact W.zret (v := 1) (ty := .boolean) hx hb hr rfl (fun t ht hW => ⟨_, rfl, by rw [if_pos ⟨h1, h2⟩], ht⟩) (fun _ h => by cases h) d_RT_has_23
set_option maxHeartbeats 4000000 in
set_option maxRecDepth 100000 in
theorem c_AT_has (l : Launch) (dC : Nat → ClassId) (dI : Nat → Nat → Nat) (hT hs hu ho : Nat) (cI cU cO : ClassId) (ac : Nat) (ai ut ol : Nat → Int32) (hac : ac ≤ 64) (a : Int32) : Met l y_AT_has (zw y_AT_has b_AT_has 2 (some .boolean)) ({ frames := 0, cells := 0, slots := 0, locals := 0 }) (zPre [.ref hT, .int a] (dC, dI) [(hT, .inr (0, [.ref hs, .ref hu, .ref ho, .int (nI ac)])), (hs, .inl (cI, 64, .inl ai)), (hu, .inl (cU, 512, .inl ut)), (ho, .inl (cO, 64, .inl ol))] [(cI, .int), (cU, .int), (cO, .int)]) (vp_Si (fun r => r = if 0 ≤ a.toInt ∧ a.toInt < ac then 1 else 0)) 0 0 (fun _ => False) := by
  refine Met.ofW (cc := b_AT_has) (maxL := 2) (ret := (some .boolean)) (by decide) rfl ?_
  intro p e s m args below meth c s₁ B hml hv
  obtain ⟨rfl, hP, hK⟩ := hv
  have hx := B.exec
  have hb := B.bytes
  have hr := B.returns
  have hts := atoms_spec (ws := (zw y_AT_has b_AT_has 2 (some .boolean))) B.pre
  have htB : ∀ w ∈ BG, w.before ([.ref hT, .int a] : List Value).toArray s = true := fun w h => hts w (List.mem_cons_of_mem _ h)
  have hown : s.vm.findClass R_AT = some m.cls := findClass_of_methodNamed B.named
  have hlocks := B.notSynchronized
  have CF : CallFix p m c b_AT_has 2 s ([.ref hT, .int a] : List Value).toArray BG R_AT := ⟨hx, hb, hml, hown, htB⟩
  have hP : va_P (dC, dI) vwCl [(hT, .inr (0, [.ref hs, .ref hu, .ref ho, .int (nI ac)])), (hs, .inl (cI, 64, .inl ai)), (hu, .inl (cU, 512, .inl ut)), (ho, .inl (cO, 64, .inl ol))] s.heap := hP
  have hl := lv_entry [.ref hT, .int a] (n := 2) (Nat.le_of_ble_eq_true rfl)
  rw [lg_entry_eq]
  generalize (lg_sl [.ref hT, .int a] ++ List.replicate (2 - (lg_sl [.ref hT, .int a]).length) Slot.unset).toArray = ls at hl ⊢
  have hl : lv_has ls 2 [(0, .ref hT), (1, .int a)] := hl
  refine lv_iload_n hx hb d_AT_has_0 rfl (lv_at hl 1 rfl) ?_
  refine lv_if_lt (tgt := 22) hx hb d_AT_has_1 (by decide) (fun c_1 => ?_) (fun c_1 => ?_)
  · have hz : ¬ (0 ≤ a.toInt ∧ a.toInt < ac) := by
      have h0 := Int32.lt_iff_toInt_lt.mp c_1
      simp at h0
      omega
    refine lv_iconst (v := 0) hx hb d_AT_has_22 (by decide) ?_
    exact W.zret (v := 0) (ty := .boolean) hx hb hr rfl (fun t ht hW => ⟨_, rfl, by rw [if_neg hz], ht⟩) (fun _ h => by cases h) d_AT_has_23
  · have h1 : 0 ≤ a.toInt := by
      have h0 := fun h => c_1 (Int32.lt_iff_toInt_lt.mpr h)
      simp at h0
      omega
    refine lv_iload_n hx hb d_AT_has_4 rfl (lv_at hl 1 rfl) ?_
    refine lv_aload_n hx hb d_AT_has_5 rfl (lv_at hl 0 rfl) ?_
    refine va_get (D := (dC, dI)) (ci := 0) (v := .int (nI ac)) (C := R_AT) (T := T_AT) (N := 4) hx hb htB i_AT hown hK hP 0 rfl rfl 3 (by decide) (htB _ lf_AT_21) (fun _ h9 => h9) rfl d_AT_has_6 ?_
    refine lv_icmp_ge (tgt := 22) hx hb d_AT_has_9 (by decide) (fun c_9 => ?_) (fun c_9 => ?_)
    · have hz : ¬ (0 ≤ a.toInt ∧ a.toInt < ac) := by
        have h0 := Int32.le_iff_toInt_le.mp c_9
        rw [nI_toInt (by omega)] at h0
        omega
      refine lv_iconst (v := 0) hx hb d_AT_has_22 (by decide) ?_
      exact W.zret (v := 0) (ty := .boolean) hx hb hr rfl (fun t ht hW => ⟨_, rfl, by rw [if_neg hz], ht⟩) (fun _ h => by cases h) d_AT_has_23
    · have h2 : a.toInt < ac := Int.not_le.mp (fun h => c_9 (Int32.le_iff_toInt_le.mpr (by rw [nI_toInt (by omega)]; exact h)))
      refine lv_iload_n hx hb d_AT_has_12 rfl (lv_at hl 1 rfl) ?_
      refine lv_bipush (v := 64) hx hb d_AT_has_13 (by decide) ?_
      refine lv_icmp_ge (tgt := 22) hx hb d_AT_has_15 (by decide) (fun c_15 => ?_) (fun c_15 => ?_)
      · exact absurd (Int32.le_iff_toInt_le.mp c_15) (by show ¬ (64 : Int) ≤ a.toInt; omega)
      · refine lv_iconst (v := 1) hx hb d_AT_has_18 (by decide) ?_
        refine lv_goto (tgt := 23) hx hb d_AT_has_19 (by decide) ?_
        exact W.zret (v := 1) (ty := .boolean) hx hb hr rfl (fun t ht hW => ⟨_, rfl, by rw [if_pos ⟨h1, h2⟩], ht⟩) (fun _ h => by cases h) d_AT_has_23
set_option maxHeartbeats 4000000 in
set_option maxRecDepth 100000 in
theorem c_CT_has (l : Launch) (dC : Nat → ClassId) (dI : Nat → Nat → Nat) (hC hn ha hk : Nat) (cN cA cK : ClassId) (cc : Nat) (cn : Nat → Int64) (ca cb : Nat → Int32) (hcc : cc ≤ 100) (a : Int32) : Met l y_CT_has (zw y_CT_has b_CT_has 2 (some .boolean)) ({ frames := 0, cells := 0, slots := 0, locals := 0 }) (zPre [.ref hC, .int a] (dC, dI) [(hC, .inr (1, [.ref hn, .ref ha, .ref hk, .int (nI cc)])), (hn, .inl (cN, 100, .inr (.inl cn))), (ha, .inl (cA, 100, .inl ca)), (hk, .inl (cK, 100, .inl cb))] [(cN, .long), (cA, .int), (cK, .boolean)]) (vp_Si (fun r => r = if 0 ≤ a.toInt ∧ a.toInt < cc then 1 else 0)) 0 0 (fun _ => False) := by
  refine Met.ofW (cc := b_CT_has) (maxL := 2) (ret := (some .boolean)) (by decide) rfl ?_
  intro p e s m args below meth c s₁ B hml hv
  obtain ⟨rfl, hP, hK⟩ := hv
  have hx := B.exec
  have hb := B.bytes
  have hr := B.returns
  have hts := atoms_spec (ws := (zw y_CT_has b_CT_has 2 (some .boolean))) B.pre
  have htB : ∀ w ∈ BG, w.before ([.ref hC, .int a] : List Value).toArray s = true := fun w h => hts w (List.mem_cons_of_mem _ h)
  have hown : s.vm.findClass R_CT = some m.cls := findClass_of_methodNamed B.named
  have hlocks := B.notSynchronized
  have CF : CallFix p m c b_CT_has 2 s ([.ref hC, .int a] : List Value).toArray BG R_CT := ⟨hx, hb, hml, hown, htB⟩
  have hP : va_P (dC, dI) vwCl [(hC, .inr (1, [.ref hn, .ref ha, .ref hk, .int (nI cc)])), (hn, .inl (cN, 100, .inr (.inl cn))), (ha, .inl (cA, 100, .inl ca)), (hk, .inl (cK, 100, .inl cb))] s.heap := hP
  have hl := lv_entry [.ref hC, .int a] (n := 2) (Nat.le_of_ble_eq_true rfl)
  rw [lg_entry_eq]
  generalize (lg_sl [.ref hC, .int a] ++ List.replicate (2 - (lg_sl [.ref hC, .int a]).length) Slot.unset).toArray = ls at hl ⊢
  have hl : lv_has ls 2 [(0, .ref hC), (1, .int a)] := hl
  refine lv_iload_n hx hb d_CT_has_0 rfl (lv_at hl 1 rfl) ?_
  refine lv_if_lt (tgt := 22) hx hb d_CT_has_1 (by decide) (fun c_1 => ?_) (fun c_1 => ?_)
  · have hz : ¬ (0 ≤ a.toInt ∧ a.toInt < cc) := by
      have h0 := Int32.lt_iff_toInt_lt.mp c_1
      simp at h0
      omega
    refine lv_iconst (v := 0) hx hb d_CT_has_22 (by decide) ?_
    exact W.zret (v := 0) (ty := .boolean) hx hb hr rfl (fun t ht hW => ⟨_, rfl, by rw [if_neg hz], ht⟩) (fun _ h => by cases h) d_CT_has_23
  · have h1 : 0 ≤ a.toInt := by
      have h0 := fun h => c_1 (Int32.lt_iff_toInt_lt.mpr h)
      simp at h0
      omega
    refine lv_iload_n hx hb d_CT_has_4 rfl (lv_at hl 1 rfl) ?_
    refine lv_aload_n hx hb d_CT_has_5 rfl (lv_at hl 0 rfl) ?_
    refine va_get (D := (dC, dI)) (ci := 1) (v := .int (nI cc)) (C := R_CT) (T := T_CT) (N := 4) hx hb htB i_CT hown hK hP 0 rfl rfl 3 (by decide) (htB _ lf_CT_23) (fun _ h9 => h9) rfl d_CT_has_6 ?_
    refine lv_icmp_ge (tgt := 22) hx hb d_CT_has_9 (by decide) (fun c_9 => ?_) (fun c_9 => ?_)
    · have hz : ¬ (0 ≤ a.toInt ∧ a.toInt < cc) := by
        have h0 := Int32.le_iff_toInt_le.mp c_9
        rw [nI_toInt (by omega)] at h0
        omega
      refine lv_iconst (v := 0) hx hb d_CT_has_22 (by decide) ?_
      exact W.zret (v := 0) (ty := .boolean) hx hb hr rfl (fun t ht hW => ⟨_, rfl, by rw [if_neg hz], ht⟩) (fun _ h => by cases h) d_CT_has_23
    · have h2 : a.toInt < cc := Int.not_le.mp (fun h => c_9 (Int32.le_iff_toInt_le.mpr (by rw [nI_toInt (by omega)]; exact h)))
      refine lv_iload_n hx hb d_CT_has_12 rfl (lv_at hl 1 rfl) ?_
      refine lv_bipush (v := 100) hx hb d_CT_has_13 (by decide) ?_
      refine lv_icmp_ge (tgt := 22) hx hb d_CT_has_15 (by decide) (fun c_15 => ?_) (fun c_15 => ?_)
      · exact absurd (Int32.le_iff_toInt_le.mp c_15) (by show ¬ (100 : Int) ≤ a.toInt; omega)
      · refine lv_iconst (v := 1) hx hb d_CT_has_18 (by decide) ?_
        refine lv_goto (tgt := 23) hx hb d_CT_has_19 (by decide) ?_
        exact W.zret (v := 1) (ty := .boolean) hx hb hr rfl (fun t ht hW => ⟨_, rfl, by rw [if_pos ⟨h1, h2⟩], ht⟩) (fun _ h => by cases h) d_CT_has_23
set_option maxHeartbeats 4000000 in
set_option maxRecDepth 100000 in
theorem c_RT_find (l : Launch) (dC : Nat → ClassId) (dI : Nat → Nat → Nat) (hR hp hq hi : Nat) (cP cQ cS : ClassId) (rc : Nat) (rp rl ri : Nat → Int32) (hrc : rc ≤ 40) (x : Int64) (y : Int32) : Met l y_RT_find (zw y_RT_find b_RT_find 5 (some .int)) ({ frames := 0, cells := 0, slots := 0, locals := 0 }) (zPre [.ref hR, .long x, .int y] (dC, dI) [(hR, .inr (2, [.ref hp, .ref hq, .ref hi, .int (nI rc)])), (hp, .inl (cP, 40, .inl rp)), (hq, .inl (cQ, 40, .inl rl)), (hi, .inl (cS, 40, .inl ri))] [(cP, .int), (cQ, .int), (cS, .int)]) (vp_Si (fun r => r = zf_r (fun j => decide (rl j = y ∧ (rp j).toInt64 = x)) rc)) 0 0 (fun _ => False) := by
  refine Met.ofW (cc := b_RT_find) (maxL := 5) (ret := (some .int)) (by decide) rfl ?_
  intro p e s m args below meth c s₁ B hml hv
  obtain ⟨rfl, hP, hK⟩ := hv
  have hx := B.exec
  have hb := B.bytes
  have hr := B.returns
  have hts := atoms_spec (ws := (zw y_RT_find b_RT_find 5 (some .int))) B.pre
  have htB : ∀ w ∈ BG, w.before ([.ref hR, .long x, .int y] : List Value).toArray s = true := fun w h => hts w (List.mem_cons_of_mem _ h)
  have hown : s.vm.findClass R_RT = some m.cls := findClass_of_methodNamed B.named
  have hlocks := B.notSynchronized
  have CF : CallFix p m c b_RT_find 5 s ([.ref hR, .long x, .int y] : List Value).toArray BG R_RT := ⟨hx, hb, hml, hown, htB⟩
  have hP : va_P (dC, dI) vwCl [(hR, .inr (2, [.ref hp, .ref hq, .ref hi, .int (nI rc)])), (hp, .inl (cP, 40, .inl rp)), (hq, .inl (cQ, 40, .inl rl)), (hi, .inl (cS, 40, .inl ri))] s.heap := hP
  have hl := lv_entry [.ref hR, .long x, .int y] (n := 5) (Nat.le_of_ble_eq_true rfl)
  rw [lg_entry_eq]
  generalize (lg_sl [.ref hR, .long x, .int y] ++ List.replicate (5 - (lg_sl [.ref hR, .long x, .int y]).length) Slot.unset).toArray = ls at hl ⊢
  have hl : lv_has ls 5 [(0, .ref hR), (1, .long x), (3, .int y)] := hl
  refine lv_iconst (v := 0) hx hb d_RT_find_0 (by decide) ?_
  refine lv_istore (lv' := [(4, .int 0), (0, .ref hR), (1, .long x), (3, .int y)]) hx hb d_RT_find_1 hl (by decide) rfl (fun ls hl => ?_)
  have loop : ∀ (k i : Nat) (ls : Array Slot), i + k = rc → (∀ j, j < i → decide (rl j = y ∧ (rp j).toInt64 = x) = false) → lv_has ls 5 [(4, .int (nI i)), (0, .ref hR), (1, .long x), (3, .int y)] → W p l e (headSpec (zw y_RT_find b_RT_find 5 (some .int)) ({ frames := 0, cells := 0, slots := 0, locals := 0 })).room s m ([.ref hR, .long x, .int y] : List Value).toArray below meth c s.heap [] 0 0 (MQ below (vp_Si (fun r => r = zf_r (fun j => decide (rl j = y ∧ (rp j).toInt64 = x)) rc)) ([.ref hR, .long x, .int y] : List Value).toArray s 0 0 (fun _ => False)) (F0 m 3 ls []) := by
    intro k
    induction k with
    | zero =>
      intro i ls hi hb9 hl
      refine lv_iload hx hb d_RT_find_3 (lv_at hl 0 rfl) ?_
      refine lv_aload_n hx hb d_RT_find_5 rfl (lv_at hl 1 rfl) ?_
      refine va_get (D := (dC, dI)) (ci := 2) (v := .int (nI rc)) (C := R_RT) (T := T_RT) (N := 4) hx hb htB i_RT hown hK hP 0 rfl rfl 3 (by decide) (htB _ lf_RT_21) (fun _ h9 => h9) rfl d_RT_find_6 ?_
      refine lv_icmp_ge (tgt := 52) hx hb d_RT_find_9 (by decide) (fun c_9 => ?_) (fun c_9 => ?_)
      · refine lv_iconst (v := (-1)) hx hb d_RT_find_52 (by decide) ?_
        exact W.iret (v := -1) hx hb hr (fun t ht hW => ⟨_, rfl, (zf_rn (by intro k hk; exact hb9 k (by omega))).symm, ht⟩) (fun _ h => by cases h) d_RT_find_53
      · exact absurd (nI_le (show rc ≤ i by omega) (by omega)) c_9
    | succ k ih =>
      intro i ls hi hb9 hl
      have b_25 : vp_in (nI i) 40 := vp_in_nI (by omega) (by omega)
      have b_36 := b_25
      have ec : (nI i).toNatClampNeg = i := nI_clamp (by omega)
      refine lv_iload hx hb d_RT_find_3 (lv_at hl 0 rfl) ?_
      refine lv_aload_n hx hb d_RT_find_5 rfl (lv_at hl 1 rfl) ?_
      refine va_get (D := (dC, dI)) (ci := 2) (v := .int (nI rc)) (C := R_RT) (T := T_RT) (N := 4) hx hb htB i_RT hown hK hP 0 rfl rfl 3 (by decide) (htB _ lf_RT_21) (fun _ h9 => h9) rfl d_RT_find_6 ?_
      refine lv_icmp_ge (tgt := 52) hx hb d_RT_find_9 (by decide) (fun c_9 => ?_) (fun c_9 => ?_)
      · exact absurd c_9 (nI_ge (show i < rc by omega) (by omega))
      · refine lv_iload hx hb d_RT_find_12 (lv_at hl 0 rfl) ?_
        refine lv_bipush (v := 40) hx hb d_RT_find_14 (by decide) ?_
        refine lv_icmp_ge (tgt := 52) hx hb d_RT_find_16 (by decide) (fun c_16 => ?_) (fun c_16 => ?_)
        · exact absurd c_16 (by show ¬ nI 40 ≤ nI i; exact nI_ge (by omega) (by omega))
        · refine lv_aload_n hx hb d_RT_find_19 rfl (lv_at hl 1 rfl) ?_
          refine va_get (D := (dC, dI)) (ci := 2) (v := .ref hq) (C := R_RT) (T := T_RT) (N := 4) hx hb htB i_RT hown hK hP 0 rfl rfl 1 (by decide) (htB _ lf_RT_15) (fun _ h9 => h9) rfl d_RT_find_20 ?_
          refine lv_iload hx hb d_RT_find_23 (lv_at hl 0 rfl) ?_
          refine va_iald hx hb hK hP 2 1 rfl rfl b_25 d_RT_find_25 ?_
          rw [show (rl (nI i).toNatClampNeg : Int32) = rl i from by rw [ec]]
          refine lv_iload_n hx hb d_RT_find_26 rfl (lv_at hl 3 rfl) ?_
          refine lv_icmp_ne (tgt := 46) hx hb d_RT_find_27 (by decide) (fun c_27 => ?_) (fun c_27 => ?_)
          · have hno : ¬ (rl i = y ∧ (rp i).toInt64 = x) := fun h => c_27 h.1
            refine lv_iinc (v := (nI i) + 1) (lv' := [(4, .int ((nI i) + 1)), (0, .ref hR), (1, .long x), (3, .int y)]) hx hb d_RT_find_46 hl (k := 0) rfl rfl (by decide) rfl (fun ls hl => ?_)
            refine lv_goto (tgt := 3) hx hb d_RT_find_49 (by decide) ?_
            rw [nI_1] at hl
            refine ih (i + 1) ls (by omega) (fun j hj => ?_) (lv_sub hl [0, 1, 2, 3] rfl)
            by_cases e : j = i
            · subst e; rw [decide_eq_false_iff_not]; exact hno
            · exact hb9 j (by omega)
          · have h27 : rl i = y := c_27
            refine lv_aload_n hx hb d_RT_find_30 rfl (lv_at hl 1 rfl) ?_
            refine va_get (D := (dC, dI)) (ci := 2) (v := .ref hp) (C := R_RT) (T := T_RT) (N := 4) hx hb htB i_RT hown hK hP 0 rfl rfl 0 (by decide) (htB _ lf_RT_11) (fun _ h9 => h9) rfl d_RT_find_31 ?_
            refine lv_iload hx hb d_RT_find_34 (lv_at hl 0 rfl) ?_
            refine va_iald hx hb hK hP 1 0 rfl rfl b_36 d_RT_find_36 ?_
            rw [show (rp (nI i).toNatClampNeg : Int32) = rp i from by rw [ec]]
            refine lv_i2l (v := (rp i).toInt64) hx hb d_RT_find_37 rfl ?_
            refine lv_lload_n hx hb d_RT_find_38 rfl (lv_at hl 2 rfl) ?_
            refine W.lcmp hx hb d_RT_find_39 ?_
            refine lv_if_ne (tgt := 46) hx hb d_RT_find_40 (by decide) (fun c_40 => ?_) (fun c_40 => ?_)
            · have hno : ¬ (rl i = y ∧ (rp i).toInt64 = x) := fun h => c_40 ((lg_cmp_eq _ _).mpr h.2)
              refine lv_iinc (v := (nI i) + 1) (lv' := [(4, .int ((nI i) + 1)), (0, .ref hR), (1, .long x), (3, .int y)]) hx hb d_RT_find_46 hl (k := 0) rfl rfl (by decide) rfl (fun ls hl => ?_)
              refine lv_goto (tgt := 3) hx hb d_RT_find_49 (by decide) ?_
              rw [nI_1] at hl
              refine ih (i + 1) ls (by omega) (fun j hj => ?_) (lv_sub hl [0, 1, 2, 3] rfl)
              by_cases e : j = i
              · subst e; rw [decide_eq_false_iff_not]; exact hno
              · exact hb9 j (by omega)
            · refine lv_iload hx hb d_RT_find_43 (lv_at hl 0 rfl) ?_
              exact W.iret (v := nI i) hx hb hr (fun t ht hW => ⟨_, rfl, (zf_rs (show i < rc by omega) (by rw [decide_eq_true_eq]; exact ⟨h27, (lg_cmp_eq _ _).mp c_40⟩) hb9).symm, ht⟩) (fun _ h => by cases h) d_RT_find_45
  exact loop rc 0 ls (by omega) (fun j hj => absurd hj (Nat.not_lt_zero j)) (lv_sub hl [0, 1, 2, 3] rfl)
set_option maxHeartbeats 4000000 in
set_option maxRecDepth 100000 in
theorem c_CT_find (l : Launch) (dC : Nat → ClassId) (dI : Nat → Nat → Nat) (hC hn ha hk : Nat) (cN cA cK : ClassId) (cc : Nat) (cn : Nat → Int64) (ca cb : Nat → Int32) (hcc : cc ≤ 100) (x : Int64) : Met l y_CT_find (zw y_CT_find b_CT_find 4 (some .int)) ({ frames := 0, cells := 0, slots := 0, locals := 0 }) (zPre [.ref hC, .long x] (dC, dI) [(hC, .inr (1, [.ref hn, .ref ha, .ref hk, .int (nI cc)])), (hn, .inl (cN, 100, .inr (.inl cn))), (ha, .inl (cA, 100, .inl ca)), (hk, .inl (cK, 100, .inl cb))] [(cN, .long), (cA, .int), (cK, .boolean)]) (vp_Si (fun r => r = zf_r (fun j => decide (cn j = x)) cc)) 0 0 (fun _ => False) := by
  refine Met.ofW (cc := b_CT_find) (maxL := 4) (ret := (some .int)) (by decide) rfl ?_
  intro p e s m args below meth c s₁ B hml hv
  obtain ⟨rfl, hP, hK⟩ := hv
  have hx := B.exec
  have hb := B.bytes
  have hr := B.returns
  have hts := atoms_spec (ws := (zw y_CT_find b_CT_find 4 (some .int))) B.pre
  have htB : ∀ w ∈ BG, w.before ([.ref hC, .long x] : List Value).toArray s = true := fun w h => hts w (List.mem_cons_of_mem _ h)
  have hown : s.vm.findClass R_CT = some m.cls := findClass_of_methodNamed B.named
  have hlocks := B.notSynchronized
  have CF : CallFix p m c b_CT_find 4 s ([.ref hC, .long x] : List Value).toArray BG R_CT := ⟨hx, hb, hml, hown, htB⟩
  have hP : va_P (dC, dI) vwCl [(hC, .inr (1, [.ref hn, .ref ha, .ref hk, .int (nI cc)])), (hn, .inl (cN, 100, .inr (.inl cn))), (ha, .inl (cA, 100, .inl ca)), (hk, .inl (cK, 100, .inl cb))] s.heap := hP
  have hl := lv_entry [.ref hC, .long x] (n := 4) (Nat.le_of_ble_eq_true rfl)
  rw [lg_entry_eq]
  generalize (lg_sl [.ref hC, .long x] ++ List.replicate (4 - (lg_sl [.ref hC, .long x]).length) Slot.unset).toArray = ls at hl ⊢
  have hl : lv_has ls 4 [(0, .ref hC), (1, .long x)] := hl
  refine lv_iconst (v := 0) hx hb d_CT_find_0 (by decide) ?_
  refine lv_istore_n (lv' := [(3, .int 0), (0, .ref hC), (1, .long x)]) hx hb d_CT_find_1 rfl hl (by decide) rfl (fun ls hl => ?_)
  have loop : ∀ (k i : Nat) (ls : Array Slot), i + k = cc → (∀ j, j < i → decide (cn j = x) = false) → lv_has ls 4 [(3, .int (nI i)), (0, .ref hC), (1, .long x)] → W p l e (headSpec (zw y_CT_find b_CT_find 4 (some .int)) ({ frames := 0, cells := 0, slots := 0, locals := 0 })).room s m ([.ref hC, .long x] : List Value).toArray below meth c s.heap [] 0 0 (MQ below (vp_Si (fun r => r = zf_r (fun j => decide (cn j = x)) cc)) ([.ref hC, .long x] : List Value).toArray s 0 0 (fun _ => False)) (F0 m 2 ls []) := by
    intro k
    induction k with
    | zero =>
      intro i ls hi hb9 hl
      refine lv_iload_n hx hb d_CT_find_2 rfl (lv_at hl 0 rfl) ?_
      refine lv_aload_n hx hb d_CT_find_3 rfl (lv_at hl 1 rfl) ?_
      refine va_get (D := (dC, dI)) (ci := 1) (v := .int (nI cc)) (C := R_CT) (T := T_CT) (N := 4) hx hb htB i_CT hown hK hP 0 rfl rfl 3 (by decide) (htB _ lf_CT_23) (fun _ h9 => h9) rfl d_CT_find_4 ?_
      refine lv_icmp_ge (tgt := 35) hx hb d_CT_find_7 (by decide) (fun c_7 => ?_) (fun c_7 => ?_)
      · refine lv_iconst (v := (-1)) hx hb d_CT_find_35 (by decide) ?_
        exact W.iret (v := -1) hx hb hr (fun t ht hW => ⟨_, rfl, (zf_rn (by intro k hk; exact hb9 k (by omega))).symm, ht⟩) (fun _ h => by cases h) d_CT_find_36
      · exact absurd (nI_le (show cc ≤ i by omega) (by omega)) c_7
    | succ k ih =>
      intro i ls hi hb9 hl
      have b_21 : vp_in (nI i) 100 := vp_in_nI (by omega) (by omega)
      have ec : (nI i).toNatClampNeg = i := nI_clamp (by omega)
      refine lv_iload_n hx hb d_CT_find_2 rfl (lv_at hl 0 rfl) ?_
      refine lv_aload_n hx hb d_CT_find_3 rfl (lv_at hl 1 rfl) ?_
      refine va_get (D := (dC, dI)) (ci := 1) (v := .int (nI cc)) (C := R_CT) (T := T_CT) (N := 4) hx hb htB i_CT hown hK hP 0 rfl rfl 3 (by decide) (htB _ lf_CT_23) (fun _ h9 => h9) rfl d_CT_find_4 ?_
      refine lv_icmp_ge (tgt := 35) hx hb d_CT_find_7 (by decide) (fun c_7 => ?_) (fun c_7 => ?_)
      · exact absurd c_7 (nI_ge (show i < cc by omega) (by omega))
      · refine lv_iload_n hx hb d_CT_find_10 rfl (lv_at hl 0 rfl) ?_
        refine lv_bipush (v := 100) hx hb d_CT_find_11 (by decide) ?_
        refine lv_icmp_ge (tgt := 35) hx hb d_CT_find_13 (by decide) (fun c_13 => ?_) (fun c_13 => ?_)
        · exact absurd c_13 (by show ¬ nI 100 ≤ nI i; exact nI_ge (by omega) (by omega))
        · refine lv_aload_n hx hb d_CT_find_16 rfl (lv_at hl 1 rfl) ?_
          refine va_get (D := (dC, dI)) (ci := 1) (v := .ref hn) (C := R_CT) (T := T_CT) (N := 4) hx hb htB i_CT hown hK hP 0 rfl rfl 0 (by decide) (htB _ lf_CT_11) (fun _ h9 => h9) rfl d_CT_find_17 ?_
          refine lv_iload_n hx hb d_CT_find_20 rfl (lv_at hl 0 rfl) ?_
          refine va_lald hx hb hK hP 1 0 rfl rfl b_21 d_CT_find_21 ?_
          rw [show (cn (nI i).toNatClampNeg : Int64) = cn i from by rw [ec]]
          refine lv_lload_n hx hb d_CT_find_22 rfl (lv_at hl 2 rfl) ?_
          refine W.lcmp hx hb d_CT_find_23 ?_
          refine lv_if_ne (tgt := 29) hx hb d_CT_find_24 (by decide) (fun c_24 => ?_) (fun c_24 => ?_)
          · refine lv_iinc (v := (nI i) + 1) (lv' := [(3, .int ((nI i) + 1)), (0, .ref hC), (1, .long x)]) hx hb d_CT_find_29 hl (k := 0) rfl rfl (by decide) rfl (fun ls hl => ?_)
            refine lv_goto (tgt := 2) hx hb d_CT_find_32 (by decide) ?_
            rw [nI_1] at hl
            refine ih (i + 1) ls (by omega) (fun j hj => ?_) (lv_sub hl [0, 1, 2] rfl)
            by_cases e : j = i
            · subst e; rw [decide_eq_false_iff_not]; exact fun h => c_24 ((lg_cmp_eq _ _).mpr h)
            · exact hb9 j (by omega)
          · refine lv_iload_n hx hb d_CT_find_27 rfl (lv_at hl 0 rfl) ?_
            exact W.iret (v := nI i) hx hb hr (fun t ht hW => ⟨_, rfl, (zf_rs (show i < cc by omega) (by rw [decide_eq_true_eq]; exact (lg_cmp_eq _ _).mp c_24) hb9).symm, ht⟩) (fun _ h => by cases h) d_CT_find_28
  exact loop cc 0 ls (by omega) (fun j hj => absurd hj (Nat.not_lt_zero j)) (lv_sub hl [0, 1, 2] rfl)
