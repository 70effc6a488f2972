set_option maxHeartbeats 4000000 in
set_option maxRecDepth 100000 in
theorem c_RT_issuerFor (l : Launch) (dC : Nat → ClassId) (dI : Nat → Nat → Nat) (hR hp hq hi : Nat) (cP cQ cS : ClassId) (rc : Nat) (rp rl ri : Nat → Int32) (hrc : rc ≤ 40) (n : Nat) (hn63 : n < 2 ^ 63) : Met l y_RT_issuerFor (zw y_RT_issuerFor b_RT_issuerFor 7 (some .int)) ({ frames := 1, cells := 0, slots := 0, locals := 24 }) (zPre [.ref hR, .long (lN n)] (dC, dI) [(hR, .inr (2, [.ref hp, .ref hq, .ref hi, .int (nI rc)])), (hp, .inl (cP, 40, .inl rp)), (hq, .inl (cQ, 40, .inl rl)), (hi, .inl (cS, 40, .inl ri))] [(cP, .int), (cQ, .int), (cS, .int)]) (vp_Si (fun r => r = zf_iss rc rp rl ri (zd_dg 19 n) n)) 0 0 (fun _ => False) := by
  refine Met.ofW (cc := b_RT_issuerFor) (maxL := 7) (ret := (some .int)) (by decide) rfl ?_
  intro p e s m args below meth c s₁ B hml hv
  obtain ⟨rfl, hP, hK⟩ := hv
  have hx := B.exec
  have hb := B.bytes
  have hr := B.returns
  have hts := atoms_spec (ws := (zw y_RT_issuerFor b_RT_issuerFor 7 (some .int))) B.pre
  have htB : ∀ w ∈ BG, w.before ([.ref hR, .long (lN n)] : List Value).toArray s = true := fun w h => hts w (List.mem_cons_of_mem _ h)
  have hown : s.vm.findClass R_RT = some m.cls := findClass_of_methodNamed B.named
  have hlocks := B.notSynchronized
  have CF : CallFix p m c b_RT_issuerFor 7 s ([.ref hR, .long (lN n)] : List Value).toArray BG R_RT := ⟨hx, hb, hml, hown, htB⟩
  have hP : va_P (dC, dI) vwCl [(hR, .inr (2, [.ref hp, .ref hq, .ref hi, .int (nI rc)])), (hp, .inl (cP, 40, .inl rp)), (hq, .inl (cQ, 40, .inl rl)), (hi, .inl (cS, 40, .inl ri))] s.heap := hP
  have hl := lv_entry [.ref hR, .long (lN n)] (n := 7) (Nat.le_of_ble_eq_true rfl)
  rw [lg_entry_eq]
  generalize (lg_sl [.ref hR, .long (lN n)] ++ List.replicate (7 - (lg_sl [.ref hR, .long (lN n)]).length) Slot.unset).toArray = ls at hl ⊢
  have hl : lv_has ls 7 [(0, .ref hR), (1, .long (lN n))] := hl
  refine lv_lload_n hx hb d_RT_issuerFor_0 rfl (lv_at hl 1 rfl) ?_
  refine lv_lstore_n (lv' := [(3, .long (lN n)), (0, .ref hR), (1, .long (lN n))]) hx hb d_RT_issuerFor_1 rfl hl (by decide) rfl (fun ls hl => ?_)
  refine lv_lload_n hx hb d_RT_issuerFor_2 rfl (lv_at hl 2 rfl) ?_
  refine vp_callSi (va_Run.run (zr_SN (n := 1) (As := [.long (lN n)]) (rest := []) CF (c_CD_digitsOf l dC dI (lN n)) mc_CD_digitsOf lkN_RT_29 mt_CD_digitsOf ni_CD rfl rfl (by decide +kernel) ⟨Nat.le_of_ble_eq_true rfl, Nat.le_of_ble_eq_true rfl⟩ (hP.sub (ws' := []) [] rfl) (hK.sub (tys' := []) [] rfl) rfl rfl hl.1 rfl (lv_room (Nat.le_of_ble_eq_true rfl)) d_RT_issuerFor_3 ⟨Nat.zero_le _, Nat.zero_le _⟩)) (fun r_3 h_3 => ?_)
  rw [zd_lN hn63] at h_3
  subst h_3
  refine lv_istore (lv' := [(5, .int (nI (zd_dg 19 n))), (3, .long (lN n)), (0, .ref hR), (1, .long (lN n))]) hx hb d_RT_issuerFor_6 hl (by decide) rfl (fun ls hl => ?_)
  have loop : ∀ (d b : Nat) (ls : Array Slot), d ≤ 19 → b < 2 ^ 63 → zf_iss rc rp rl ri d b = zf_iss rc rp rl ri (zd_dg 19 n) n → lv_has ls 7 [(5, .int (nI d)), (3, .long (lN b)), (0, .ref hR)] → W p l e (headSpec (zw y_RT_issuerFor b_RT_issuerFor 7 (some .int)) ({ frames := 1, cells := 0, slots := 0, locals := 24 })).room s m ([.ref hR, .long (lN n)] : List Value).toArray below meth c s.heap [] 0 0 (MQ below (vp_Si (fun r => r = zf_iss rc rp rl ri (zd_dg 19 n) n)) ([.ref hR, .long (lN n)] : List Value).toArray s 0 0 (fun _ => False)) (F0 m 8 ls []) := by
    intro d
    induction d with
    | zero =>
      intro b ls hd hb9 he hl
      refine lv_iload hx hb d_RT_issuerFor_8 (lv_at hl 0 rfl) ?_
      refine lv_if_le (tgt := 58) hx hb d_RT_issuerFor_10 (by decide) (fun c_10 => ?_) (fun c_10 => ?_)
      · refine lv_iconst (v := (-1)) hx hb d_RT_issuerFor_58 (by decide) ?_
        exact W.iret (v := -1) hx hb hr (fun t ht hW => ⟨_, rfl, by rw [← he]; rfl, ht⟩) (fun _ h => by cases h) d_RT_issuerFor_59
      · exact absurd (by decide) c_10
    | succ d ih =>
      intro b ls hd hb9 he hl
      refine lv_iload hx hb d_RT_issuerFor_8 (lv_at hl 0 rfl) ?_
      refine lv_if_le (tgt := 58) hx hb d_RT_issuerFor_10 (by decide) (fun c_10 => ?_) (fun c_10 => ?_)
      · exact absurd c_10 (nI_nle (by omega) (by omega))
      · refine lv_iload hx hb d_RT_issuerFor_13 (lv_at hl 0 rfl) ?_
        refine lv_bipush (v := 8) hx hb d_RT_issuerFor_15 (by decide) ?_
        refine lv_icmp_le (tgt := 24) hx hb d_RT_issuerFor_17 (by decide) (fun c_17 => ?_) (fun c_17 => ?_)
        · refine lv_aload_n hx hb d_RT_issuerFor_24 rfl (lv_at hl 2 rfl) ?_
          refine lv_lload_n hx hb d_RT_issuerFor_25 rfl (lv_at hl 1 rfl) ?_
          refine lv_iload hx hb d_RT_issuerFor_26 (lv_at hl 0 rfl) ?_
          refine vp_callSi (va_Run.run (zr_V (n := 2) (As := [.long (lN b), .int (nI (d + 1))]) (rest := []) CF (c_RT_find l dC dI hR hp hq hi cP cQ cS rc rp rl ri hrc (lN b) (nI (d + 1))) mc_RT_find lk_RT_33 mi_RT_find ms_RT_find ni_RT rfl rfl (by decide +kernel) ⟨Nat.le_of_ble_eq_true rfl, Nat.le_of_ble_eq_true rfl⟩ (hP.sub (ws' := [(hR, .inr (2, [.ref hp, .ref hq, .ref hi, .int (nI rc)])), (hp, .inl (cP, 40, .inl rp)), (hq, .inl (cQ, 40, .inl rl)), (hi, .inl (cS, 40, .inl ri))]) [0, 1, 2, 3] rfl) (hK.sub (tys' := [(cP, .int), (cQ, .int), (cS, .int)]) [0, 1, 2] rfl) rfl rfl rfl hl.1 rfl (lv_room (Nat.le_of_ble_eq_true rfl)) d_RT_issuerFor_28 ⟨Nat.zero_le _, Nat.zero_le _⟩)) (fun r_28 h_28 => ?_)
          subst h_28
          refine lv_istore (lv' := [(6, .int (zf_r (fun j => decide (rl j = nI (d + 1) ∧ (rp j).toInt64 = lN b)) rc)), (5, .int (nI (d + 1))), (3, .long (lN b)), (0, .ref hR)]) hx hb d_RT_issuerFor_31 hl (by decide) rfl (fun ls hl => ?_)
          refine lv_iload hx hb d_RT_issuerFor_33 (lv_at hl 0 rfl) ?_
          refine lv_iconst (v := (-1)) hx hb d_RT_issuerFor_35 (by decide) ?_
          refine lv_icmp_eq (tgt := 46) hx hb d_RT_issuerFor_36 (by decide) (fun c_36 => ?_) (fun c_36 => ?_)
          · have hno : ¬ (d + 1 ≤ 8 ∧ zf_ix (zf_m rp rl b (d + 1)) rc < rc) := fun h => zf_m1 (show zf_ix (zf_m rp rl b (d + 1)) rc < 2 ^ 31 by omega) ((if_pos h.2).symm.trans c_36)
            refine lv_lload_n hx hb d_RT_issuerFor_46 rfl (lv_at hl 2 rfl) ?_
            refine lv_ldc2 (v := 10) hx hb hown (htB _ kl_RT_37) d_RT_issuerFor_47 ?_
            refine lv_ldiv hx hb d_RT_issuerFor_50 (by decide) ?_
            refine lv_lstore_n (lv' := [(3, .long ((lN b) / 10)), (6, .int (zf_r (fun j => decide (rl j = nI (d + 1) ∧ (rp j).toInt64 = lN b)) rc)), (5, .int (nI (d + 1))), (0, .ref hR)]) hx hb d_RT_issuerFor_51 rfl hl (by decide) rfl (fun ls hl => ?_)
            refine lv_iinc (v := (nI (d + 1)) + (-1)) (lv' := [(5, .int ((nI (d + 1)) + (-1))), (3, .long ((lN b) / 10)), (6, .int (zf_r (fun j => decide (rl j = nI (d + 1) ∧ (rp j).toInt64 = lN b)) rc)), (0, .ref hR)]) hx hb d_RT_issuerFor_52 hl (k := 2) rfl rfl (by decide) rfl (fun ls hl => ?_)
            refine lv_goto (tgt := 8) hx hb d_RT_issuerFor_55 (by decide) ?_
            rw [zd_div hb9, pk_m1] at hl
            refine ih (b / 10) ls (by omega) (by omega) ?_ (lv_sub hl [0, 1, 3] rfl)
            rw [← he, zf_iss, if_neg hno]
          · have hix : zf_ix (zf_m rp rl b (d + 1)) rc < rc := Classical.byContradiction fun h => c_36 (if_neg h)
            have h8 : d + 1 ≤ 8 := Nat.not_lt.mp (fun h => absurd c_17 (show ¬ nI (d + 1) ≤ nI 8 from nI_ge h (by omega)))
            refine lv_aload_n hx hb d_RT_issuerFor_39 rfl (lv_at hl 3 rfl) ?_
            refine lv_iload hx hb d_RT_issuerFor_40 (lv_at hl 0 rfl) ?_
            rw [show (zf_r (fun j => decide (rl j = nI (d + 1) ∧ (rp j).toInt64 = lN b)) rc : Int32) = nI (zf_ix (zf_m rp rl b (d + 1)) rc) from if_pos hix]
            refine vp_callSi (va_Run.run (zr_V (n := 1) (As := [.int (nI (zf_ix (zf_m rp rl b (d + 1)) rc))]) (rest := []) CF (c_RT_issuerAt l dC dI hR hp hq hi cP cQ cS rc rp rl ri hrc (zf_ix (zf_m rp rl b (d + 1)) rc) hix) mc_RT_issuerAt lk_RT_25 mi_RT_issuerAt ms_RT_issuerAt ni_RT rfl rfl (by decide +kernel) ⟨Nat.le_of_ble_eq_true rfl, Nat.le_of_ble_eq_true rfl⟩ (hP.sub (ws' := [(hR, .inr (2, [.ref hp, .ref hq, .ref hi, .int (nI rc)])), (hp, .inl (cP, 40, .inl rp)), (hq, .inl (cQ, 40, .inl rl)), (hi, .inl (cS, 40, .inl ri))]) [0, 1, 2, 3] rfl) (hK.sub (tys' := [(cP, .int), (cQ, .int), (cS, .int)]) [0, 1, 2] rfl) rfl rfl rfl hl.1 rfl (lv_room (Nat.le_of_ble_eq_true rfl)) d_RT_issuerFor_42 ⟨Nat.zero_le _, Nat.zero_le _⟩)) (fun r_42 h_42 => ?_)
            subst h_42
            exact W.iret (v := ri (zf_ix (zf_m rp rl b (d + 1)) rc)) hx hb hr (fun t ht hW => ⟨_, rfl, by rw [← he, zf_iss, if_pos ⟨h8, hix⟩], ht⟩) (fun _ h => by cases h) d_RT_issuerFor_45
        · have hno : ¬ (d + 1 ≤ 8 ∧ zf_ix (zf_m rp rl b (d + 1)) rc < rc) := fun h => c_17 (show nI (d + 1) ≤ nI 8 from nI_le h.1 (by omega))
          refine lv_iconst (v := (-1)) hx hb d_RT_issuerFor_20 (by decide) ?_
          refine lv_goto (tgt := 31) hx hb d_RT_issuerFor_21 (by decide) ?_
          refine lv_istore (lv' := [(6, .int (-1)), (5, .int (nI (d + 1))), (3, .long (lN b)), (0, .ref hR)]) hx hb d_RT_issuerFor_31 hl (by decide) rfl (fun ls hl => ?_)
          refine lv_iload hx hb d_RT_issuerFor_33 (lv_at hl 0 rfl) ?_
          refine lv_iconst (v := (-1)) hx hb d_RT_issuerFor_35 (by decide) ?_
          refine lv_icmp_eq (tgt := 46) hx hb d_RT_issuerFor_36 (by decide) (fun c_36 => ?_) (fun c_36 => ?_)
          · refine lv_lload_n hx hb d_RT_issuerFor_46 rfl (lv_at hl 2 rfl) ?_
            refine lv_ldc2 (v := 10) hx hb hown (htB _ kl_RT_37) d_RT_issuerFor_47 ?_
            refine lv_ldiv hx hb d_RT_issuerFor_50 (by decide) ?_
            refine lv_lstore_n (lv' := [(3, .long ((lN b) / 10)), (6, .int (-1)), (5, .int (nI (d + 1))), (0, .ref hR)]) hx hb d_RT_issuerFor_51 rfl hl (by decide) rfl (fun ls hl => ?_)
            refine lv_iinc (v := (nI (d + 1)) + (-1)) (lv' := [(5, .int ((nI (d + 1)) + (-1))), (3, .long ((lN b) / 10)), (6, .int (-1)), (0, .ref hR)]) hx hb d_RT_issuerFor_52 hl (k := 2) rfl rfl (by decide) rfl (fun ls hl => ?_)
            refine lv_goto (tgt := 8) hx hb d_RT_issuerFor_55 (by decide) ?_
            rw [zd_div hb9, pk_m1] at hl
            refine ih (b / 10) ls (by omega) (by omega) ?_ (lv_sub hl [0, 1, 3] rfl)
            rw [← he, zf_iss, if_neg hno]
          · exact absurd rfl c_36
  exact loop _ n ls (zd_dg_le 19 n) hn63 rfl (lv_sub hl [0, 1, 2] rfl)
set_option maxHeartbeats 4000000 in
set_option maxRecDepth 100000 in
theorem c_CD_requireIssuer (l : Launch) (dC : Nat → ClassId) (dI : Nat → Nat → Nat) (hl0 : l.stackTraces = false) (x : Int32) : MetT l y_CD_requireIssuer (zw y_CD_requireIssuer b_CD_requireIssuer 1 none) ({ frames := 6, cells := 1, slots := 6, locals := 82 }) (zPreT [.int x] (dC, dI) [] []) (zt_Qv (0 ≤ x.toInt ∧ x.toInt < 6) zIAE) 0 0 (fun _ => False) := by
  refine zt_ofW (cc := b_CD_requireIssuer) (maxL := 1) (ret := none) (by decide) rfl ?_
  intro p e s m args below meth c s₁ B hml hout hv
  obtain ⟨rfl, ⟨hP, hK⟩, hSt⟩ := hv
  have hx := B.exec
  have hb := B.bytes
  have hr := B.returns
  have hts := atoms_spec (ws := (zw y_CD_requireIssuer b_CD_requireIssuer 1 none)) B.pre
  have htB : ∀ w ∈ BG, w.before ([.int x] : List Value).toArray s = true := fun w h => hts w (List.mem_cons_of_mem _ h)
  have hown : s.vm.findClass R_CD = some m.cls := findClass_of_methodNamed B.named
  have hlocks := B.notSynchronized
  have htr : e.platform.stackTraces = false := (show e.platform.stackTraces = l.stackTraces by rw [B.admits.platform]).trans hl0
  have CF : CallFix p m c b_CD_requireIssuer 1 s ([.int x] : List Value).toArray BG R_CD := ⟨hx, hb, hml, hown, htB⟩
  have hP : va_P (dC, dI) vwCl [] s.heap := hP
  have hl := lv_entry [.int x] (n := 1) (Nat.le_of_ble_eq_true rfl)
  rw [lg_entry_eq]
  generalize (lg_sl [.int x] ++ List.replicate (1 - (lg_sl [.int x]).length) Slot.unset).toArray = ls at hl ⊢
  have hl : lv_has ls 1 [(0, .int x)] := hl
  refine lv_iload_n hx hb d_CD_requireIssuer_0 rfl (lv_at hl 0 rfl) ?_
  refine lv_if_lt (tgt := 10) hx hb d_CD_requireIssuer_1 (by decide) (fun c_1 => ?_) (fun c_1 => ?_)
  · have hno : ¬ (0 ≤ x.toInt ∧ x.toInt < 6) := by
      have h0 := Int32.lt_iff_toInt_lt.mp c_1
      simp at h0
      omega
    exact zt_new hx hb htr (own := R_CD) (cls := zIAE) (names := zUp) hown (by decide +kernel) (by decide +kernel) (zt_words zw_IAE htB hSt) (htB _ lc_CD_151) (htB _ nn_IAE) (htB _ ni_IAE) (htB _ sr_CD_156) hl.1 hml d_CD_requireIssuer_10 d_CD_requireIssuer_13 d_CD_requireIssuer_14 d_CD_requireIssuer_16 d_CD_requireIssuer_19 hout hlocks rfl (Nat.le_of_ble_eq_true rfl) (Nat.le_of_ble_eq_true rfl) (Nat.le_of_ble_eq_true rfl) (Nat.le_of_ble_eq_true rfl) (fun x t hT hW => Or.inr ⟨hno, x, rfl, hT⟩) (Nat.le_of_ble_eq_true rfl) (Nat.le_of_ble_eq_true rfl)
  · have h1 : 0 ≤ x.toInt := by
      have h0 := fun h => c_1 (Int32.lt_iff_toInt_lt.mpr h)
      simp at h0
      omega
    refine lv_iload_n hx hb d_CD_requireIssuer_4 rfl (lv_at hl 0 rfl) ?_
    refine lv_bipush (v := 6) hx hb d_CD_requireIssuer_5 (by decide) ?_
    refine lv_icmp_lt (tgt := 20) hx hb d_CD_requireIssuer_7 (by decide) (fun c_7 => ?_) (fun c_7 => ?_)
    · have h2 : x.toInt < 6 := Int32.lt_iff_toInt_lt.mp c_7
      exact zt_ret (W.vret hx hb hr (fun t ht hW => Or.inl ⟨⟨h1, h2⟩, rfl, ht⟩) (fun _ h => by cases h) d_CD_requireIssuer_20)
    · have hno : ¬ (0 ≤ x.toInt ∧ x.toInt < 6) := fun h => c_7 (Int32.lt_iff_toInt_lt.mpr h.2)
      exact zt_new hx hb htr (own := R_CD) (cls := zIAE) (names := zUp) hown (by decide +kernel) (by decide +kernel) (zt_words zw_IAE htB hSt) (htB _ lc_CD_151) (htB _ nn_IAE) (htB _ ni_IAE) (htB _ sr_CD_156) hl.1 hml d_CD_requireIssuer_10 d_CD_requireIssuer_13 d_CD_requireIssuer_14 d_CD_requireIssuer_16 d_CD_requireIssuer_19 hout hlocks rfl (Nat.le_of_ble_eq_true rfl) (Nat.le_of_ble_eq_true rfl) (Nat.le_of_ble_eq_true rfl) (Nat.le_of_ble_eq_true rfl) (fun x t hT hW => Or.inr ⟨hno, x, rfl, hT⟩) (Nat.le_of_ble_eq_true rfl) (Nat.le_of_ble_eq_true rfl)
