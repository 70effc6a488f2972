set_option maxHeartbeats 4000000 in
set_option maxRecDepth 100000 in
theorem c_RT_issuerFor (l : Launch) (dC : Nat → ClassId) (dI : Nat → Nat → Nat) (hR hp hq hi : Nat) (cP cQ cS : ClassId) (rc : Nat) (rp rl ri : Nat → Int32) (hrc : rc ≤ 40) (n : Nat) (hn63 : n < 2 ^ 63) : Met l y_RT_issuerFor (zw y_RT_issuerFor b_RT_issuerFor 7 (some .int)) ({ frames := 1, cells := 0, slots := 0, locals := 24 }) (zPre [.ref hR, .long (lN n)] (dC, dI) [(hR, .inr (2, [.ref hp, .ref hq, .ref hi, .int (nI rc)])), (hp, .inl (cP, 40, .inl rp)), (hq, .inl (cQ, 40, .inl rl)), (hi, .inl (cS, 40, .inl ri))] [(cP, .int), (cQ, .int), (cS, .int)]) (vp_Si (fun r => r = zf_iss rc rp rl ri (zd_dg 19 n) n)) 0 0 (fun _ => False) := by
  refine Met.ofW (cc := b_RT_issuerFor) (maxL := 7) (ret := (some .int)) (by decide) rfl ?_
  intro p e s m args below meth c s₁ B hml hv
  obtain ⟨rfl, hP, hK⟩ := hv
  have hx := B.exec
  have hb := B.bytes
  have hr := B.returns
  have hts := atoms_spec (ws := (zw y_RT_issuerFor b_RT_issuerFor 7 (some .int))) B.pre
  have htB : ∀ w ∈ BG, w.before ([.ref hR, .long (lN n)] : List Value).toArray s = true := fun w h => hts w (List.mem_cons_of_mem _ h)
  have hown : s.vm.findClass R_RT = some m.cls := findClass_of_methodNamed B.named
  have hlocks := B.notSynchronized
  have CF : CallFix p m c b_RT_issuerFor 7 s ([.ref hR, .long (lN n)] : List Value).toArray BG R_RT := ⟨hx, hb, hml, hown, htB⟩
  have hP : va_P (dC, dI) vwCl [(hR, .inr (2, [.ref hp, .ref hq, .ref hi, .int (nI rc)])), (hp, .inl (cP, 40, .inl rp)), (hq, .inl (cQ, 40, .inl rl)), (hi, .inl (cS, 40, .inl ri))] s.heap := hP
  have hl := lv_entry [.ref hR, .long (lN n)] (n := 7) (Nat.le_of_ble_eq_true rfl)
  rw [lg_entry_eq]
  generalize (lg_sl [.ref hR, .long (lN n)] ++ List.replicate (7 - (lg_sl [.ref hR, .long (lN n)]).length) Slot.unset).toArray = ls at hl ⊢
  have hl : lv_has ls 7 [(0, .ref hR), (1, .long (lN n))] := hl
  refine lv_lload_n hx hb d_RT_issuerFor_0 rfl (lv_at hl 1 rfl) ?_
  refine lv_lstore_n (lv' := [(3, .long (lN n)), (0, .ref hR), (1, .long (lN n))]) hx hb d_RT_issuerFor_1 rfl hl (by decide) rfl (fun ls hl => ?_)
  refine lv_lload_n hx hb d_RT_issuerFor_2 rfl (lv_at hl 2 rfl) ?_
  refine vp_callSi (va_Run.run (zr_SN (n := 1) (As := [.long (lN n)]) (rest := []) CF (c_CD_digitsOf l dC dI (lN n)) mc_CD_digitsOf lkN_RT_29 mt_CD_digitsOf ni_CD rfl rfl (by decide +kernel) ⟨Nat.le_of_ble_eq_true rfl, Nat.le_of_ble_eq_true rfl⟩ (hP.sub (ws' := []) [] rfl) (hK.sub (tys' := []) [] rfl) rfl rfl hl.1 rfl (lv_room (Nat.le_of_ble_eq_true rfl)) d_RT_issuerFor_3 ⟨Nat.zero_le _, Nat.zero_le _⟩)) (fun r_3 h_3 => ?_)
  rw [zd_lN hn63] at h_3
  subst h_3
  refine lv_istore (lv' := [(5, .int (nI (zd_dg 19 n))), (3, .long (lN n)), (0, .ref hR), (1, .long (lN n))]) hx hb d_RT_issuerFor_6 hl (by decide) rfl (fun ls hl => ?_)
  have loop : ∀ (d b : Nat) (ls : Array Slot), d ≤ 19 → b < 2 ^ 63 → zf_iss rc rp rl ri d b = zf_iss rc rp rl ri (zd_dg 19 n) n → lv_has ls 7 [(5, .int (nI d)), (3, .long (lN b)), (0, .ref hR)] → W p l e (headSpec (zw y_RT_issuerFor b_RT_issuerFor 7 (some .int)) ({ frames := 1, cells := 0, slots := 0, locals := 24 })).room s m ([.ref hR, .long (lN n)] : List Value).toArray below meth c s.heap [] 0 0 (MQ below (vp_Si (fun r => r = zf_iss rc rp rl ri (zd_dg 19 n) n)) ([.ref hR, .long (lN n)] : List Value).toArray s 0 0 (fun _ => False)) (F0 m 8 ls []) := by
    intro d
    induction d with
    | zero =>
      intro b ls hd hb9 he hl
      refine lv_iload hx hb d_RT_issuerFor_8 (lv_at hl 0 rfl) ?_
      refine lv_if_le (tgt := 62) hx hb d_RT_issuerFor_10 (by decide) (fun c_10 => ?_) (fun c_10 => ?_)
      · refine lv_iconst (v := (-1)) hx hb d_RT_issuerFor_62 (by decide) ?_
        exact W.iret (v := -1) hx hb hr (fun t ht hW => ⟨_, rfl, by rw [← he]; rfl, ht⟩) (fun _ h => by cases h) d_RT_issuerFor_63
      · exact absurd (by decide) c_10
    | succ d ih =>
      intro b ls hd hb9 he hl
      refine lv_iload hx hb d_RT_issuerFor_8 (lv_at hl 0 rfl) ?_
      refine lv_if_le (tgt := 62) hx hb d_RT_issuerFor_10 (by decide) (fun c_10 => ?_) (fun c_10 => ?_)
      · exact absurd c_10 (nI_nle (by omega) (by omega))
      · refine lv_iload hx hb d_RT_issuerFor_13 (lv_at hl 0 rfl) ?_
        refine lv_bipush (v := 8) hx hb d_RT_issuerFor_15 (by decide) ?_
        refine lv_icmp_le (tgt := 24) hx hb d_RT_issuerFor_17 (by decide) (fun c_17 => ?_) (fun c_17 => ?_)
        · refine lv_aload_n hx hb d_RT_issuerFor_24 rfl (lv_at hl 2 rfl) ?_
          refine lv_lload_n hx hb d_RT_issuerFor_25 rfl (lv_at hl 1 rfl) ?_
          refine lv_iload hx hb d_RT_issuerFor_26 (lv_at hl 0 rfl) ?_
          refine vp_callSi (va_Run.run (zr_V (n := 2) (As := [.long (lN b), .int (nI (d + 1))]) (rest := []) CF (c_RT_find l dC dI hR hp hq hi cP cQ cS rc rp rl ri hrc (lN b) (nI (d + 1))) mc_RT_find lk_RT_33 mi_RT_find ms_RT_find ni_RT rfl rfl (by decide +kernel) ⟨Nat.le_of_ble_eq_true rfl, Nat.le_of_ble_eq_true rfl⟩ (hP.sub (ws' := [(hR, .inr (2, [.ref hp, .ref hq, .ref hi, .int (nI rc)])), (hp, .inl (cP, 40, .inl rp)), (hq, .inl (cQ, 40, .inl rl)), (hi, .inl (cS, 40, .inl ri))]) [0, 1, 2, 3] rfl) (hK.sub (tys' := [(cP, .int), (cQ, .int), (cS, .int)]) [0, 1, 2] rfl) rfl rfl rfl hl.1 rfl (lv_room (Nat.le_of_ble_eq_true rfl)) d_RT_issuerFor_28 ⟨Nat.zero_le _, Nat.zero_le _⟩)) (fun r_28 h_28 => ?_)
          subst h_28
          refine lv_istore (lv' := [(6, .int (zf_r (fun j => decide (rl j = nI (d + 1) ∧ (rp j).toInt64 = lN b)) rc)), (5, .int (nI (d + 1))), (3, .long (lN b)), (0, .ref hR)]) hx hb d_RT_issuerFor_31 hl (by decide) rfl (fun ls hl => ?_)
          refine lv_aload_n hx hb d_RT_issuerFor_33 rfl (lv_at hl 3 rfl) ?_
          refine lv_iload hx hb d_RT_issuerFor_34 (lv_at hl 0 rfl) ?_
          refine vp_callSi (va_Run.run (zr_V (n := 1) (As := [.int (zf_r (fun j => decide (rl j = nI (d + 1) ∧ (rp j).toInt64 = lN b)) rc)]) (rest := []) CF (c_RT_has l dC dI hR hp hq hi cP cQ cS rc rp rl ri hrc (zf_r (fun j => decide (rl j = nI (d + 1) ∧ (rp j).toInt64 = lN b)) rc)) mc_RT_has lk_RT_25 mi_RT_has ms_RT_has ni_RT rfl rfl (by decide +kernel) ⟨Nat.le_of_ble_eq_true rfl, Nat.le_of_ble_eq_true rfl⟩ (hP.sub (ws' := [(hR, .inr (2, [.ref hp, .ref hq, .ref hi, .int (nI rc)])), (hp, .inl (cP, 40, .inl rp)), (hq, .inl (cQ, 40, .inl rl)), (hi, .inl (cS, 40, .inl ri))]) [0, 1, 2, 3] rfl) (hK.sub (tys' := [(cP, .int), (cQ, .int), (cS, .int)]) [0, 1, 2] rfl) rfl rfl rfl hl.1 rfl (lv_room (Nat.le_of_ble_eq_true rfl)) d_RT_issuerFor_36 ⟨Nat.zero_le _, Nat.zero_le _⟩)) (fun r_36 h_36 => ?_)
          refine lv_if_eq (tgt := 50) hx hb d_RT_issuerFor_39 (by decide) (fun c_39 => ?_) (fun c_39 => ?_)
          · have hno : ¬ (d + 1 ≤ 8 ∧ zf_ix (zf_m rp rl b (d + 1)) rc < rc) := fun h => by
              rw [show (zf_r (fun j => decide (rl j = nI (d + 1) ∧ (rp j).toInt64 = lN b)) rc : Int32) = nI (zf_ix (zf_m rp rl b (d + 1)) rc) from if_pos h.2, if_pos (show 0 ≤ (nI (zf_ix (zf_m rp rl b (d + 1)) rc)).toInt ∧ (nI (zf_ix (zf_m rp rl b (d + 1)) rc)).toInt < rc by rw [nI_toInt (by omega)]; omega)] at h_36
              rw [h_36] at c_39
              exact absurd c_39 (by decide)
            refine lv_lload_n hx hb d_RT_issuerFor_50 rfl (lv_at hl 2 rfl) ?_
            refine lv_ldc2 (v := 10) hx hb hown (htB _ kl_RT_37) d_RT_issuerFor_51 ?_
            refine lv_ldiv hx hb d_RT_issuerFor_54 (by decide) ?_
            refine lv_lstore_n (lv' := [(3, .long ((lN b) / 10)), (6, .int (zf_r (fun j => decide (rl j = nI (d + 1) ∧ (rp j).toInt64 = lN b)) rc)), (5, .int (nI (d + 1))), (0, .ref hR)]) hx hb d_RT_issuerFor_55 rfl hl (by decide) rfl (fun ls hl => ?_)
            refine lv_iinc (v := (nI (d + 1)) + (-1)) (lv' := [(5, .int ((nI (d + 1)) + (-1))), (3, .long ((lN b) / 10)), (6, .int (zf_r (fun j => decide (rl j = nI (d + 1) ∧ (rp j).toInt64 = lN b)) rc)), (0, .ref hR)]) hx hb d_RT_issuerFor_56 hl (k := 2) rfl rfl (by decide) rfl (fun ls hl => ?_)
            refine lv_goto (tgt := 8) hx hb d_RT_issuerFor_59 (by decide) ?_
            rw [zd_div hb9, pk_m1] at hl
            refine ih (b / 10) ls (by omega) (by omega) ?_ (lv_sub hl [0, 1, 3] rfl)
            rw [← he, zf_iss, if_neg hno]
          · have hix : zf_ix (zf_m rp rl b (d + 1)) rc < rc := Classical.byContradiction fun h => c_39 (by rw [h_36, show (zf_r (fun j => decide (rl j = nI (d + 1) ∧ (rp j).toInt64 = lN b)) rc : Int32) = -1 from if_neg h, if_neg (show ¬ (0 ≤ (-1 : Int32).toInt ∧ (-1 : Int32).toInt < rc) from fun h9 => absurd h9.1 (by decide))])
            have h8 : d + 1 ≤ 8 := Nat.not_lt.mp (fun h => absurd c_17 (show ¬ nI (d + 1) ≤ nI 8 from nI_ge h (by omega)))
            have b_48 : vp_in (nI (zf_ix (zf_m rp rl b (d + 1)) rc)) 40 := vp_in_nI (by omega) (by omega)
            refine lv_aload_n hx hb d_RT_issuerFor_42 rfl (lv_at hl 3 rfl) ?_
            refine va_get (D := (dC, dI)) (ci := 2) (v := .ref hi) (C := R_RT) (T := T_RT) (N := 4) hx hb htB i_RT hown hK hP 0 rfl rfl 2 (by decide) (htB _ lf_RT_18) (fun _ h9 => h9) rfl d_RT_issuerFor_43 ?_
            refine lv_iload hx hb d_RT_issuerFor_46 (lv_at hl 0 rfl) ?_
            rw [show (zf_r (fun j => decide (rl j = nI (d + 1) ∧ (rp j).toInt64 = lN b)) rc : Int32) = nI (zf_ix (zf_m rp rl b (d + 1)) rc) from if_pos hix]
            refine va_iald hx hb hK hP 3 2 rfl rfl b_48 d_RT_issuerFor_48 ?_
            rw [show (ri (nI (zf_ix (zf_m rp rl b (d + 1)) rc)).toNatClampNeg : Int32) = ri (zf_ix (zf_m rp rl b (d + 1)) rc) from by rw [nI_clamp (n := zf_ix (zf_m rp rl b (d + 1)) rc) (by omega)]]
            exact W.iret (v := ri (zf_ix (zf_m rp rl b (d + 1)) rc)) hx hb hr (fun t ht hW => ⟨_, rfl, by rw [← he, zf_iss, if_pos ⟨h8, hix⟩], ht⟩) (fun _ h => by cases h) d_RT_issuerFor_49
        · have hno : ¬ (d + 1 ≤ 8 ∧ zf_ix (zf_m rp rl b (d + 1)) rc < rc) := fun h => c_17 (show nI (d + 1) ≤ nI 8 from nI_le h.1 (by omega))
          refine lv_iconst (v := (-1)) hx hb d_RT_issuerFor_20 (by decide) ?_
          refine lv_goto (tgt := 31) hx hb d_RT_issuerFor_21 (by decide) ?_
          refine lv_istore (lv' := [(6, .int (-1)), (5, .int (nI (d + 1))), (3, .long (lN b)), (0, .ref hR)]) hx hb d_RT_issuerFor_31 hl (by decide) rfl (fun ls hl => ?_)
          refine lv_aload_n hx hb d_RT_issuerFor_33 rfl (lv_at hl 3 rfl) ?_
          refine lv_iload hx hb d_RT_issuerFor_34 (lv_at hl 0 rfl) ?_
          refine vp_callSi (va_Run.run (zr_V (n := 1) (As := [.int (-1)]) (rest := []) CF (c_RT_has l dC dI hR hp hq hi cP cQ cS rc rp rl ri hrc (-1)) mc_RT_has lk_RT_25 mi_RT_has ms_RT_has ni_RT rfl rfl (by decide +kernel) ⟨Nat.le_of_ble_eq_true rfl, Nat.le_of_ble_eq_true rfl⟩ (hP.sub (ws' := [(hR, .inr (2, [.ref hp, .ref hq, .ref hi, .int (nI rc)])), (hp, .inl (cP, 40, .inl rp)), (hq, .inl (cQ, 40, .inl rl)), (hi, .inl (cS, 40, .inl ri))]) [0, 1, 2, 3] rfl) (hK.sub (tys' := [(cP, .int), (cQ, .int), (cS, .int)]) [0, 1, 2] rfl) rfl rfl rfl hl.1 rfl (lv_room (Nat.le_of_ble_eq_true rfl)) d_RT_issuerFor_36 ⟨Nat.zero_le _, Nat.zero_le _⟩)) (fun r_36 h_36 => ?_)
          rw [if_neg (show ¬ (0 ≤ (-1 : Int32).toInt ∧ (-1 : Int32).toInt < rc) from fun h9 => absurd h9.1 (by decide))] at h_36
          subst h_36
          refine lv_if_eq (tgt := 50) hx hb d_RT_issuerFor_39 (by decide) (fun c_39 => ?_) (fun c_39 => ?_)
          · refine lv_lload_n hx hb d_RT_issuerFor_50 rfl (lv_at hl 2 rfl) ?_
            refine lv_ldc2 (v := 10) hx hb hown (htB _ kl_RT_37) d_RT_issuerFor_51 ?_
            refine lv_ldiv hx hb d_RT_issuerFor_54 (by decide) ?_
            refine lv_lstore_n (lv' := [(3, .long ((lN b) / 10)), (6, .int (-1)), (5, .int (nI (d + 1))), (0, .ref hR)]) hx hb d_RT_issuerFor_55 rfl hl (by decide) rfl (fun ls hl => ?_)
            refine lv_iinc (v := (nI (d + 1)) + (-1)) (lv' := [(5, .int ((nI (d + 1)) + (-1))), (3, .long ((lN b) / 10)), (6, .int (-1)), (0, .ref hR)]) hx hb d_RT_issuerFor_56 hl (k := 2) rfl rfl (by decide) rfl (fun ls hl => ?_)
            refine lv_goto (tgt := 8) hx hb d_RT_issuerFor_59 (by decide) ?_
            rw [zd_div hb9, pk_m1] at hl
            refine ih (b / 10) ls (by omega) (by omega) ?_ (lv_sub hl [0, 1, 3] rfl)
            rw [← he, zf_iss, if_neg hno]
          · exact absurd rfl c_39
  exact loop _ n ls (zd_dg_le 19 n) hn63 rfl (lv_sub hl [0, 1, 2] rfl)
set_option maxHeartbeats 4000000 in
set_option maxRecDepth 100000 in
theorem c_CD_requireIssuer (l : Launch) (dC : Nat → ClassId) (dI : Nat → Nat → Nat) (hl0 : l.stackTraces = false) (x : Int32) : MetT l y_CD_requireIssuer (zw y_CD_requireIssuer b_CD_requireIssuer 1 none) ({ frames := 6, cells := 1, slots := 6, locals := 82 }) (zPreT [.int x] (dC, dI) [] []) (zt_Qv (0 ≤ x.toInt ∧ x.toInt < 6) zIAE) 0 0 (fun _ => False) := by
  refine zt_ofW (cc := b_CD_requireIssuer) (maxL := 1) (ret := none) (by decide) rfl ?_
  intro p e s m args below meth c s₁ B hml hout hv
  obtain ⟨rfl, ⟨hP, hK⟩, hSt⟩ := hv
  have hx := B.exec
  have hb := B.bytes
  have hr := B.returns
  have hts := atoms_spec (ws := (zw y_CD_requireIssuer b_CD_requireIssuer 1 none)) B.pre
  have htB : ∀ w ∈ BG, w.before ([.int x] : List Value).toArray s = true := fun w h => hts w (List.mem_cons_of_mem _ h)
  have hown : s.vm.findClass R_CD = some m.cls := findClass_of_methodNamed B.named
  have hlocks := B.notSynchronized
  have htr : e.platform.stackTraces = false := (show e.platform.stackTraces = l.stackTraces by rw [B.admits.platform]).trans hl0
  have CF : CallFix p m c b_CD_requireIssuer 1 s ([.int x] : List Value).toArray BG R_CD := ⟨hx, hb, hml, hown, htB⟩
  have hP : va_P (dC, dI) vwCl [] s.heap := hP
  have hl := lv_entry [.int x] (n := 1) (Nat.le_of_ble_eq_true rfl)
  rw [lg_entry_eq]
  generalize (lg_sl [.int x] ++ List.replicate (1 - (lg_sl [.int x]).length) Slot.unset).toArray = ls at hl ⊢
  have hl : lv_has ls 1 [(0, .int x)] := hl
  refine lv_iload_n hx hb d_CD_requireIssuer_0 rfl (lv_at hl 0 rfl) ?_
  refine lv_if_lt (tgt := 10) hx hb d_CD_requireIssuer_1 (by decide) (fun c_1 => ?_) (fun c_1 => ?_)
  · have hno : ¬ (0 ≤ x.toInt ∧ x.toInt < 6) := by
      have h0 := Int32.lt_iff_toInt_lt.mp c_1
      simp at h0
      omega
    exact zt_new hx hb htr (own := R_CD) (cls := zIAE) (names := zUp) hown (by decide +kernel) (by decide +kernel) (zt_words zw_IAE htB hSt) (htB _ lc_CD_151) (htB _ nn_IAE) (htB _ ni_IAE) (htB _ sr_CD_156) hl.1 hml d_CD_requireIssuer_10 d_CD_requireIssuer_13 d_CD_requireIssuer_14 d_CD_requireIssuer_16 d_CD_requireIssuer_19 hout hlocks rfl (Nat.le_of_ble_eq_true rfl) (Nat.le_of_ble_eq_true rfl) (Nat.le_of_ble_eq_true rfl) (Nat.le_of_ble_eq_true rfl) (fun x t hT hW => Or.inr ⟨hno, x, rfl, hT⟩) (Nat.le_of_ble_eq_true rfl) (Nat.le_of_ble_eq_true rfl)
  · have h1 : 0 ≤ x.toInt := by
      have h0 := fun h => c_1 (Int32.lt_iff_toInt_lt.mpr h)
      simp at h0
      omega
    refine lv_iload_n hx hb d_CD_requireIssuer_4 rfl (lv_at hl 0 rfl) ?_
    refine lv_bipush (v := 6) hx hb d_CD_requireIssuer_5 (by decide) ?_
    refine lv_icmp_lt (tgt := 20) hx hb d_CD_requireIssuer_7 (by decide) (fun c_7 => ?_) (fun c_7 => ?_)
    · have h2 : x.toInt < 6 := Int32.lt_iff_toInt_lt.mp c_7
      exact zt_ret (W.vret hx hb hr (fun t ht hW => Or.inl ⟨⟨h1, h2⟩, rfl, ht⟩) (fun _ h => by cases h) d_CD_requireIssuer_20)
    · have hno : ¬ (0 ≤ x.toInt ∧ x.toInt < 6) := fun h => c_7 (Int32.lt_iff_toInt_lt.mpr h.2)
      exact zt_new hx hb htr (own := R_CD) (cls := zIAE) (names := zUp) hown (by decide +kernel) (by decide +kernel) (zt_words zw_IAE htB hSt) (htB _ lc_CD_151) (htB _ nn_IAE) (htB _ ni_IAE) (htB _ sr_CD_156) hl.1 hml d_CD_requireIssuer_10 d_CD_requireIssuer_13 d_CD_requireIssuer_14 d_CD_requireIssuer_16 d_CD_requireIssuer_19 hout hlocks rfl (Nat.le_of_ble_eq_true rfl) (Nat.le_of_ble_eq_true rfl) (Nat.le_of_ble_eq_true rfl) (Nat.le_of_ble_eq_true rfl) (fun x t hT hW => Or.inr ⟨hno, x, rfl, hT⟩) (Nat.le_of_ble_eq_true rfl) (Nat.le_of_ble_eq_true rfl)
/-- digits 1 .. 8, and a row of digits that is no longer -/
abbrev zok_P (p n : Int32) : Prop := 1 ≤ n.toInt ∧ n.toInt ≤ 8 ∧ 0 ≤ p.toInt ∧ (zd_dg 19 (zd_N p.toInt64) : Int) ≤ n.toInt
abbrev zok_D (x : Int64) (a b : Nat) : Prop := a ≤ zd_dg 19 (zd_N x) ∧ zd_dg 19 (zd_N x) ≤ b
theorem zi_le {k : Nat} {x : Int32} (h : k < 2 ^ 31) : nI k ≤ x ↔ (k : Int) ≤ x.toInt := by rw [Int32.le_iff_toInt_le, nI_toInt h]
set_option maxHeartbeats 4000000 in
set_option maxRecDepth 100000 in
theorem c_CD_requirePrefix (l : Launch) (dC : Nat → ClassId) (dI : Nat → Nat → Nat) (hl0 : l.stackTraces = false) (y z : Int32) : MetT l y_CD_requirePrefix (zw y_CD_requirePrefix b_CD_requirePrefix 2 none) ({ frames := 6, cells := 1, slots := 6, locals := 82 }) (zPreT [.int y, .int z] (dC, dI) [] []) (zt_Qv (zok_P y z) zIAE) 0 0 (fun _ => False) := by
  refine zt_ofW (cc := b_CD_requirePrefix) (maxL := 2) (ret := none) (by decide) rfl ?_
  intro p e s m args below meth c s₁ B hml hout hv
  obtain ⟨rfl, ⟨hP, hK⟩, hSt⟩ := hv
  have hx := B.exec
  have hb := B.bytes
  have hr := B.returns
  have hts := atoms_spec (ws := (zw y_CD_requirePrefix b_CD_requirePrefix 2 none)) B.pre
  have htB : ∀ w ∈ BG, w.before ([.int y, .int z] : List Value).toArray s = true := fun w h => hts w (List.mem_cons_of_mem _ h)
  have hown : s.vm.findClass R_CD = some m.cls := findClass_of_methodNamed B.named
  have hlocks := B.notSynchronized
  have htr : e.platform.stackTraces = false := (show e.platform.stackTraces = l.stackTraces by rw [B.admits.platform]).trans hl0
  have CF : CallFix p m c b_CD_requirePrefix 2 s ([.int y, .int z] : List Value).toArray BG R_CD := ⟨hx, hb, hml, hown, htB⟩
  have hP : va_P (dC, dI) vwCl [] s.heap := hP
  have hl := lv_entry [.int y, .int z] (n := 2) (Nat.le_of_ble_eq_true rfl)
  rw [lg_entry_eq]
  generalize (lg_sl [.int y, .int z] ++ List.replicate (2 - (lg_sl [.int y, .int z]).length) Slot.unset).toArray = ls at hl ⊢
  have hl : lv_has ls 2 [(0, .int y), (1, .int z)] := hl
  have hdl := zd_dg_le 19 (zd_N y.toInt64)
  refine lv_iload_n hx hb d_CD_requirePrefix_0 rfl (lv_at hl 1 rfl) ?_
  refine lv_iconst (v := 1) hx hb d_CD_requirePrefix_1 (by decide) ?_
  refine lv_icmp_lt (tgt := 11) hx hb d_CD_requirePrefix_2 (by decide) (fun c_2 => ?_) (fun c_2 => ?_)
  · have hno : ¬ zok_P y z := fun h => by
      have h0 : z.toInt < 1 := Int32.lt_iff_toInt_lt.mp c_2
      have := h.1
      omega
    exact zt_new hx hb htr (own := R_CD) (cls := zIAE) (names := zUp) hown (by decide +kernel) (by decide +kernel) (zt_words zw_IAE htB hSt) (htB _ lc_CD_151) (htB _ nn_IAE) (htB _ ni_IAE) (htB _ sr_CD_158) hl.1 hml d_CD_requirePrefix_11 d_CD_requirePrefix_14 d_CD_requirePrefix_15 d_CD_requirePrefix_17 d_CD_requirePrefix_20 hout hlocks rfl (Nat.le_of_ble_eq_true rfl) (Nat.le_of_ble_eq_true rfl) (Nat.le_of_ble_eq_true rfl) (Nat.le_of_ble_eq_true rfl) (fun x t hT hW => Or.inr ⟨hno, x, rfl, hT⟩) (Nat.le_of_ble_eq_true rfl) (Nat.le_of_ble_eq_true rfl)
  · have h1 : 1 ≤ z.toInt := Int.not_lt.mp (fun h => c_2 (Int32.lt_iff_toInt_lt.mpr h))
    refine lv_iload_n hx hb d_CD_requirePrefix_5 rfl (lv_at hl 1 rfl) ?_
    refine lv_bipush (v := 8) hx hb d_CD_requirePrefix_6 (by decide) ?_
    refine lv_icmp_le (tgt := 21) hx hb d_CD_requirePrefix_8 (by decide) (fun c_8 => ?_) (fun c_8 => ?_)
    · have h2 : z.toInt ≤ 8 := Int32.le_iff_toInt_le.mp c_8
      refine lv_iload_n hx hb d_CD_requirePrefix_21 rfl (lv_at hl 0 rfl) ?_
      refine lv_if_lt (tgt := 34) hx hb d_CD_requirePrefix_22 (by decide) (fun c_22 => ?_) (fun c_22 => ?_)
      · have hno : ¬ zok_P y z := fun h => by
          have h0 : y.toInt < 0 := Int32.lt_iff_toInt_lt.mp c_22
          have := h.2.2.1
          omega
        exact zt_new hx hb htr (own := R_CD) (cls := zIAE) (names := zUp) hown (by decide +kernel) (by decide +kernel) (zt_words zw_IAE htB hSt) (htB _ lc_CD_151) (htB _ nn_IAE) (htB _ ni_IAE) (htB _ sr_CD_160) hl.1 hml d_CD_requirePrefix_34 d_CD_requirePrefix_37 d_CD_requirePrefix_38 d_CD_requirePrefix_40 d_CD_requirePrefix_43 hout hlocks rfl (Nat.le_of_ble_eq_true rfl) (Nat.le_of_ble_eq_true rfl) (Nat.le_of_ble_eq_true rfl) (Nat.le_of_ble_eq_true rfl) (fun x t hT hW => Or.inr ⟨hno, x, rfl, hT⟩) (Nat.le_of_ble_eq_true rfl) (Nat.le_of_ble_eq_true rfl)
      · have h3 : 0 ≤ y.toInt := Int.not_lt.mp (fun h => c_22 (Int32.lt_iff_toInt_lt.mpr h))
        refine lv_iload_n hx hb d_CD_requirePrefix_25 rfl (lv_at hl 0 rfl) ?_
        refine lv_i2l (v := y.toInt64) hx hb d_CD_requirePrefix_26 rfl ?_
        refine vp_callSi (va_Run.run (zr_S (n := 1) (As := [.long y.toInt64]) (rest := []) CF (c_CD_digitsOf l dC dI y.toInt64) mc_CD_digitsOf lk_CD_148 mt_CD_digitsOf ni_CD rfl rfl (by decide +kernel) ⟨Nat.le_of_ble_eq_true rfl, Nat.le_of_ble_eq_true rfl⟩ (hP.sub (ws' := []) [] rfl) (hK.sub (tys' := []) [] rfl) rfl rfl hl.1 rfl (lv_room (Nat.le_of_ble_eq_true rfl)) d_CD_requirePrefix_27 ⟨Nat.zero_le _, Nat.zero_le _⟩)) (fun r_27 h_27 => ?_)
        subst h_27
        refine lv_iload_n hx hb d_CD_requirePrefix_30 rfl (lv_at hl 1 rfl) ?_
        refine lv_icmp_le (tgt := 44) hx hb d_CD_requirePrefix_31 (by decide) (fun c_31 => ?_) (fun c_31 => ?_)
        · have h4 := (zi_le (by omega)).mp c_31
          exact zt_ret (W.vret hx hb hr (fun t ht hW => Or.inl ⟨⟨h1, h2, h3, h4⟩, rfl, ht⟩) (fun _ h => by cases h) d_CD_requirePrefix_44)
        · have hno : ¬ zok_P y z := fun h => c_31 ((zi_le (by omega)).mpr h.2.2.2)
          exact zt_new hx hb htr (own := R_CD) (cls := zIAE) (names := zUp) hown (by decide +kernel) (by decide +kernel) (zt_words zw_IAE htB hSt) (htB _ lc_CD_151) (htB _ nn_IAE) (htB _ ni_IAE) (htB _ sr_CD_160) hl.1 hml d_CD_requirePrefix_34 d_CD_requirePrefix_37 d_CD_requirePrefix_38 d_CD_requirePrefix_40 d_CD_requirePrefix_43 hout hlocks rfl (Nat.le_of_ble_eq_true rfl) (Nat.le_of_ble_eq_true rfl) (Nat.le_of_ble_eq_true rfl) (Nat.le_of_ble_eq_true rfl) (fun x t hT hW => Or.inr ⟨hno, x, rfl, hT⟩) (Nat.le_of_ble_eq_true rfl) (Nat.le_of_ble_eq_true rfl)
    · have hno : ¬ zok_P y z := fun h => c_8 (Int32.le_iff_toInt_le.mpr h.2.1)
      exact zt_new hx hb htr (own := R_CD) (cls := zIAE) (names := zUp) hown (by decide +kernel) (by decide +kernel) (zt_words zw_IAE htB hSt) (htB _ lc_CD_151) (htB _ nn_IAE) (htB _ ni_IAE) (htB _ sr_CD_158) hl.1 hml d_CD_requirePrefix_11 d_CD_requirePrefix_14 d_CD_requirePrefix_15 d_CD_requirePrefix_17 d_CD_requirePrefix_20 hout hlocks rfl (Nat.le_of_ble_eq_true rfl) (Nat.le_of_ble_eq_true rfl) (Nat.le_of_ble_eq_true rfl) (Nat.le_of_ble_eq_true rfl) (fun x t hT hW => Or.inr ⟨hno, x, rfl, hT⟩) (Nat.le_of_ble_eq_true rfl) (Nat.le_of_ble_eq_true rfl)
set_option maxHeartbeats 4000000 in
set_option maxRecDepth 100000 in
theorem c_CD_requireDigits (l : Launch) (dC : Nat → ClassId) (dI : Nat → Nat → Nat) (hl0 : l.stackTraces = false) (x0 : Int64) (a b : Nat) (ha19 : a < 20) (hb19 : b < 20) : MetT l y_CD_requireDigits (zw y_CD_requireDigits b_CD_requireDigits 5 none) ({ frames := 6, cells := 1, slots := 6, locals := 82 }) (zPreT [.long x0, .int (nI a), .int (nI b)] (dC, dI) [] []) (zt_Qv (zok_D x0 a b) zIAE) 0 0 (fun _ => False) := by
  refine zt_ofW (cc := b_CD_requireDigits) (maxL := 5) (ret := none) (by decide) rfl ?_
  intro p e s m args below meth c s₁ B hml hout hv
  obtain ⟨rfl, ⟨hP, hK⟩, hSt⟩ := hv
  have hx := B.exec
  have hb := B.bytes
  have hr := B.returns
  have hts := atoms_spec (ws := (zw y_CD_requireDigits b_CD_requireDigits 5 none)) B.pre
  have htB : ∀ w ∈ BG, w.before ([.long x0, .int (nI a), .int (nI b)] : List Value).toArray s = true := fun w h => hts w (List.mem_cons_of_mem _ h)
  have hown : s.vm.findClass R_CD = some m.cls := findClass_of_methodNamed B.named
  have hlocks := B.notSynchronized
  have htr : e.platform.stackTraces = false := (show e.platform.stackTraces = l.stackTraces by rw [B.admits.platform]).trans hl0
  have CF : CallFix p m c b_CD_requireDigits 5 s ([.long x0, .int (nI a), .int (nI b)] : List Value).toArray BG R_CD := ⟨hx, hb, hml, hown, htB⟩
  have hP : va_P (dC, dI) vwCl [] s.heap := hP
  have hl := lv_entry [.long x0, .int (nI a), .int (nI b)] (n := 5) (Nat.le_of_ble_eq_true rfl)
  rw [lg_entry_eq]
  generalize (lg_sl [.long x0, .int (nI a), .int (nI b)] ++ List.replicate (5 - (lg_sl [.long x0, .int (nI a), .int (nI b)]).length) Slot.unset).toArray = ls at hl ⊢
  have hl : lv_has ls 5 [(0, .long x0), (2, .int (nI a)), (3, .int (nI b))] := hl
  have hdl := zd_dg_le 19 (zd_N x0)
  refine lv_lload_n hx hb d_CD_requireDigits_0 rfl (lv_at hl 0 rfl) ?_
  refine vp_callSi (va_Run.run (zr_S (n := 1) (As := [.long x0]) (rest := []) CF (c_CD_digitsOf l dC dI x0) mc_CD_digitsOf lk_CD_148 mt_CD_digitsOf ni_CD rfl rfl (by decide +kernel) ⟨Nat.le_of_ble_eq_true rfl, Nat.le_of_ble_eq_true rfl⟩ (hP.sub (ws' := []) [] rfl) (hK.sub (tys' := []) [] rfl) rfl rfl hl.1 rfl (lv_room (Nat.le_of_ble_eq_true rfl)) d_CD_requireDigits_1 ⟨Nat.zero_le _, Nat.zero_le _⟩)) (fun r_1 h_1 => ?_)
  subst h_1
  refine lv_istore (lv' := [(4, .int (nI (zd_dg 19 (zd_N x0)))), (0, .long x0), (2, .int (nI a)), (3, .int (nI b))]) hx hb d_CD_requireDigits_4 hl (by decide) rfl (fun ls hl => ?_)
  refine lv_iload hx hb d_CD_requireDigits_6 (lv_at hl 0 rfl) ?_
  refine lv_iload_n hx hb d_CD_requireDigits_8 rfl (lv_at hl 2 rfl) ?_
  refine lv_icmp_lt (tgt := 18) hx hb d_CD_requireDigits_9 (by decide) (fun c_9 => ?_) (fun c_9 => ?_)
  · have hno : ¬ zok_D x0 a b := fun h => absurd c_9 (nI_nlt h.1 (by omega))
    exact zt_new hx hb htr (own := R_CD) (cls := zIAE) (names := zUp) hown (by decide +kernel) (by decide +kernel) (zt_words zw_IAE htB hSt) (htB _ lc_CD_151) (htB _ nn_IAE) (htB _ ni_IAE) (htB _ sr_CD_162) hl.1 hml d_CD_requireDigits_18 d_CD_requireDigits_21 d_CD_requireDigits_22 d_CD_requireDigits_24 d_CD_requireDigits_27 hout hlocks rfl (Nat.le_of_ble_eq_true rfl) (Nat.le_of_ble_eq_true rfl) (Nat.le_of_ble_eq_true rfl) (Nat.le_of_ble_eq_true rfl) (fun x t hT hW => Or.inr ⟨hno, x, rfl, hT⟩) (Nat.le_of_ble_eq_true rfl) (Nat.le_of_ble_eq_true rfl)
  · have h1 : a ≤ zd_dg 19 (zd_N x0) := Nat.not_lt.mp (fun h => c_9 (nI_lt h (by omega)))
    refine lv_iload hx hb d_CD_requireDigits_12 (lv_at hl 0 rfl) ?_
    refine lv_iload_n hx hb d_CD_requireDigits_14 rfl (lv_at hl 3 rfl) ?_
    refine lv_icmp_le (tgt := 28) hx hb d_CD_requireDigits_15 (by decide) (fun c_15 => ?_) (fun c_15 => ?_)
    · have h2 : zd_dg 19 (zd_N x0) ≤ b := Nat.not_lt.mp (fun h => absurd c_15 (nI_ge h (by omega)))
      exact zt_ret (W.vret hx hb hr (fun t ht hW => Or.inl ⟨⟨h1, h2⟩, rfl, ht⟩) (fun _ h => by cases h) d_CD_requireDigits_28)
    · have hno : ¬ zok_D x0 a b := fun h => c_15 (nI_le h.2 (by omega))
      exact zt_new hx hb htr (own := R_CD) (cls := zIAE) (names := zUp) hown (by decide +kernel) (by decide +kernel) (zt_words zw_IAE htB hSt) (htB _ lc_CD_151) (htB _ nn_IAE) (htB _ ni_IAE) (htB _ sr_CD_162) hl.1 hml d_CD_requireDigits_18 d_CD_requireDigits_21 d_CD_requireDigits_22 d_CD_requireDigits_24 d_CD_requireDigits_27 hout hlocks rfl (Nat.le_of_ble_eq_true rfl) (Nat.le_of_ble_eq_true rfl) (Nat.le_of_ble_eq_true rfl) (Nat.le_of_ble_eq_true rfl) (fun x t hT hW => Or.inr ⟨hno, x, rfl, hT⟩) (Nat.le_of_ble_eq_true rfl) (Nat.le_of_ble_eq_true rfl)
set_option maxHeartbeats 4000000 in
set_option maxRecDepth 100000 in
theorem c_CD_requireAccount (l : Launch) (dC : Nat → ClassId) (dI : Nat → Nat → Nat) (hl0 : l.stackTraces = false) (hX : Nat) (wi ma no : Int32) (hC : Nat) (hR : Nat) (hT hs hu ho : Nat) (cI cU cO : ClassId) (ac : Nat) (ai ut ol : Nat → Int32) (hac : ac ≤ 64) (x0 : Int32) : MetT l y_CD_requireAccount (zw y_CD_requireAccount b_CD_requireAccount 2 none) ({ frames := 6, cells := 1, slots := 6, locals := 82 }) (zPreT [.ref hX, .int x0] (dC, dI) [(hX, .inr (3, [.int wi, .int ma, .ref hR, .ref hT, .ref hC, .int no])), (hT, .inr (0, [.ref hs, .ref hu, .ref ho, .int (nI ac)])), (hs, .inl (cI, 64, .inl ai)), (hu, .inl (cU, 512, .inl ut)), (ho, .inl (cO, 64, .inl ol))] [(cI, .int), (cU, .int), (cO, .int)]) (zt_Qv (0 ≤ x0.toInt ∧ x0.toInt < ac) zIAE) 0 0 (fun _ => False) := by
  refine zt_ofW (cc := b_CD_requireAccount) (maxL := 2) (ret := none) (by decide) rfl ?_
  intro p e s m args below meth c s₁ B hml hout hv
  obtain ⟨rfl, ⟨hP, hK⟩, hSt⟩ := hv
  have hx := B.exec
  have hb := B.bytes
  have hr := B.returns
  have hts := atoms_spec (ws := (zw y_CD_requireAccount b_CD_requireAccount 2 none)) B.pre
  have htB : ∀ w ∈ BG, w.before ([.ref hX, .int x0] : List Value).toArray s = true := fun w h => hts w (List.mem_cons_of_mem _ h)
  have hown : s.vm.findClass R_CD = some m.cls := findClass_of_methodNamed B.named
  have hlocks := B.notSynchronized
  have htr : e.platform.stackTraces = false := (show e.platform.stackTraces = l.stackTraces by rw [B.admits.platform]).trans hl0
  have CF : CallFix p m c b_CD_requireAccount 2 s ([.ref hX, .int x0] : List Value).toArray BG R_CD := ⟨hx, hb, hml, hown, htB⟩
  have hP : va_P (dC, dI) vwCl [(hX, .inr (3, [.int wi, .int ma, .ref hR, .ref hT, .ref hC, .int no])), (hT, .inr (0, [.ref hs, .ref hu, .ref ho, .int (nI ac)])), (hs, .inl (cI, 64, .inl ai)), (hu, .inl (cU, 512, .inl ut)), (ho, .inl (cO, 64, .inl ol))] s.heap := hP
  have hl := lv_entry [.ref hX, .int x0] (n := 2) (Nat.le_of_ble_eq_true rfl)
  rw [lg_entry_eq]
  generalize (lg_sl [.ref hX, .int x0] ++ List.replicate (2 - (lg_sl [.ref hX, .int x0]).length) Slot.unset).toArray = ls at hl ⊢
  have hl : lv_has ls 2 [(0, .ref hX), (1, .int x0)] := hl
  refine lv_aload_n hx hb d_CD_requireAccount_0 rfl (lv_at hl 0 rfl) ?_
  refine va_get (D := (dC, dI)) (ci := 3) (v := .ref hT) (C := R_CD) (T := T_CD) (N := 6) hx hb htB i_CD hown hK hP 0 rfl rfl 3 (by decide) (htB _ lf_CD_35) (fun _ h9 => h9) rfl d_CD_requireAccount_1 ?_
  refine lv_iload_n hx hb d_CD_requireAccount_4 rfl (lv_at hl 1 rfl) ?_
  refine vp_callSi (va_Run.run (zr_V (n := 1) (As := [.int x0]) (rest := []) CF (c_AT_has l dC dI hT hs hu ho cI cU cO ac ai ut ol hac x0) mc_AT_has lk_CD_164 mi_AT_has ms_AT_has ni_AT rfl rfl (by decide +kernel) ⟨Nat.le_of_ble_eq_true rfl, Nat.le_of_ble_eq_true rfl⟩ (hP.sub (ws' := [(hT, .inr (0, [.ref hs, .ref hu, .ref ho, .int (nI ac)])), (hs, .inl (cI, 64, .inl ai)), (hu, .inl (cU, 512, .inl ut)), (ho, .inl (cO, 64, .inl ol))]) [1, 2, 3, 4] rfl) (hK.sub (tys' := [(cI, .int), (cU, .int), (cO, .int)]) [0, 1, 2] rfl) rfl rfl rfl hl.1 rfl (lv_room (Nat.le_of_ble_eq_true rfl)) d_CD_requireAccount_5 ⟨Nat.zero_le _, Nat.zero_le _⟩)) (fun r_5 h_5 => ?_)
  refine lv_if_ne (tgt := 21) hx hb d_CD_requireAccount_8 (by decide) (fun c_8 => ?_) (fun c_8 => ?_)
  · have hok : 0 ≤ x0.toInt ∧ x0.toInt < ac := Classical.byContradiction fun h => c_8 (by rw [h_5, if_neg h])
    exact zt_ret (W.vret hx hb hr (fun t ht hW => Or.inl ⟨hok, rfl, ht⟩) (fun _ h => by cases h) d_CD_requireAccount_21)
  · have hno : ¬ (0 ≤ x0.toInt ∧ x0.toInt < ac) := fun h => by
      rw [h_5, if_pos h] at c_8
      exact absurd c_8 (by decide)
    exact zt_new hx hb htr (own := R_CD) (cls := zIAE) (names := zUp) hown (by decide +kernel) (by decide +kernel) (zt_words zw_IAE htB hSt) (htB _ lc_CD_151) (htB _ nn_IAE) (htB _ ni_IAE) (htB _ sr_CD_167) hl.1 hml d_CD_requireAccount_11 d_CD_requireAccount_14 d_CD_requireAccount_15 d_CD_requireAccount_17 d_CD_requireAccount_20 hout hlocks rfl (Nat.le_of_ble_eq_true rfl) (Nat.le_of_ble_eq_true rfl) (Nat.le_of_ble_eq_true rfl) (Nat.le_of_ble_eq_true rfl) (fun x t hT hW => Or.inr ⟨hno, x, rfl, hT⟩) (Nat.le_of_ble_eq_true rfl) (Nat.le_of_ble_eq_true rfl)
set_option maxHeartbeats 4000000 in
set_option maxRecDepth 100000 in
theorem c_CD_requireCard (l : Launch) (dC : Nat → ClassId) (dI : Nat → Nat → Nat) (hl0 : l.stackTraces = false) (hX : Nat) (wi ma no : Int32) (hT : Nat) (hR : Nat) (hC hn ha hk : Nat) (cN cA cK : ClassId) (cc : Nat) (cn : Nat → Int64) (ca cb : Nat → Int32) (hcc : cc ≤ 100) (x0 : Int32) : MetT l y_CD_requireCard (zw y_CD_requireCard b_CD_requireCard 2 none) ({ frames := 6, cells := 1, slots := 6, locals := 82 }) (zPreT [.ref hX, .int x0] (dC, dI) [(hX, .inr (3, [.int wi, .int ma, .ref hR, .ref hT, .ref hC, .int no])), (hC, .inr (1, [.ref hn, .ref ha, .ref hk, .int (nI cc)])), (hn, .inl (cN, 100, .inr (.inl cn))), (ha, .inl (cA, 100, .inl ca)), (hk, .inl (cK, 100, .inl cb))] [(cN, .long), (cA, .int), (cK, .boolean)]) (zt_Qv (0 ≤ x0.toInt ∧ x0.toInt < cc) zIAE) 0 0 (fun _ => False) := by
  refine zt_ofW (cc := b_CD_requireCard) (maxL := 2) (ret := none) (by decide) rfl ?_
  intro p e s m args below meth c s₁ B hml hout hv
  obtain ⟨rfl, ⟨hP, hK⟩, hSt⟩ := hv
  have hx := B.exec
  have hb := B.bytes
  have hr := B.returns
  have hts := atoms_spec (ws := (zw y_CD_requireCard b_CD_requireCard 2 none)) B.pre
  have htB : ∀ w ∈ BG, w.before ([.ref hX, .int x0] : List Value).toArray s = true := fun w h => hts w (List.mem_cons_of_mem _ h)
  have hown : s.vm.findClass R_CD = some m.cls := findClass_of_methodNamed B.named
  have hlocks := B.notSynchronized
  have htr : e.platform.stackTraces = false := (show e.platform.stackTraces = l.stackTraces by rw [B.admits.platform]).trans hl0
  have CF : CallFix p m c b_CD_requireCard 2 s ([.ref hX, .int x0] : List Value).toArray BG R_CD := ⟨hx, hb, hml, hown, htB⟩
  have hP : va_P (dC, dI) vwCl [(hX, .inr (3, [.int wi, .int ma, .ref hR, .ref hT, .ref hC, .int no])), (hC, .inr (1, [.ref hn, .ref ha, .ref hk, .int (nI cc)])), (hn, .inl (cN, 100, .inr (.inl cn))), (ha, .inl (cA, 100, .inl ca)), (hk, .inl (cK, 100, .inl cb))] s.heap := hP
  have hl := lv_entry [.ref hX, .int x0] (n := 2) (Nat.le_of_ble_eq_true rfl)
  rw [lg_entry_eq]
  generalize (lg_sl [.ref hX, .int x0] ++ List.replicate (2 - (lg_sl [.ref hX, .int x0]).length) Slot.unset).toArray = ls at hl ⊢
  have hl : lv_has ls 2 [(0, .ref hX), (1, .int x0)] := hl
  refine lv_aload_n hx hb d_CD_requireCard_0 rfl (lv_at hl 0 rfl) ?_
  refine va_get (D := (dC, dI)) (ci := 3) (v := .ref hC) (C := R_CD) (T := T_CD) (N := 6) hx hb htB i_CD hown hK hP 0 rfl rfl 4 (by decide) (htB _ lf_CD_42) (fun _ h9 => h9) rfl d_CD_requireCard_1 ?_
  refine lv_iload_n hx hb d_CD_requireCard_4 rfl (lv_at hl 1 rfl) ?_
  refine vp_callSi (va_Run.run (zr_V (n := 1) (As := [.int x0]) (rest := []) CF (c_CT_has l dC dI hC hn ha hk cN cA cK cc cn ca cb hcc x0) mc_CT_has lk_CD_169 mi_CT_has ms_CT_has ni_CT rfl rfl (by decide +kernel) ⟨Nat.le_of_ble_eq_true rfl, Nat.le_of_ble_eq_true rfl⟩ (hP.sub (ws' := [(hC, .inr (1, [.ref hn, .ref ha, .ref hk, .int (nI cc)])), (hn, .inl (cN, 100, .inr (.inl cn))), (ha, .inl (cA, 100, .inl ca)), (hk, .inl (cK, 100, .inl cb))]) [1, 2, 3, 4] rfl) (hK.sub (tys' := [(cN, .long), (cA, .int), (cK, .boolean)]) [0, 1, 2] rfl) rfl rfl rfl hl.1 rfl (lv_room (Nat.le_of_ble_eq_true rfl)) d_CD_requireCard_5 ⟨Nat.zero_le _, Nat.zero_le _⟩)) (fun r_5 h_5 => ?_)
  refine lv_if_ne (tgt := 21) hx hb d_CD_requireCard_8 (by decide) (fun c_8 => ?_) (fun c_8 => ?_)
  · have hok : 0 ≤ x0.toInt ∧ x0.toInt < cc := Classical.byContradiction fun h => c_8 (by rw [h_5, if_neg h])
    exact zt_ret (W.vret hx hb hr (fun t ht hW => Or.inl ⟨hok, rfl, ht⟩) (fun _ h => by cases h) d_CD_requireCard_21)
  · have hno : ¬ (0 ≤ x0.toInt ∧ x0.toInt < cc) := fun h => by
      rw [h_5, if_pos h] at c_8
      exact absurd c_8 (by decide)
    exact zt_new hx hb htr (own := R_CD) (cls := zIAE) (names := zUp) hown (by decide +kernel) (by decide +kernel) (zt_words zw_IAE htB hSt) (htB _ lc_CD_151) (htB _ nn_IAE) (htB _ ni_IAE) (htB _ sr_CD_170) hl.1 hml d_CD_requireCard_11 d_CD_requireCard_14 d_CD_requireCard_15 d_CD_requireCard_17 d_CD_requireCard_20 hout hlocks rfl (Nat.le_of_ble_eq_true rfl) (Nat.le_of_ble_eq_true rfl) (Nat.le_of_ble_eq_true rfl) (Nat.le_of_ble_eq_true rfl) (fun x t hT hW => Or.inr ⟨hno, x, rfl, hT⟩) (Nat.le_of_ble_eq_true rfl) (Nat.le_of_ble_eq_true rfl)
set_option maxHeartbeats 4000000 in
set_option maxRecDepth 100000 in
theorem c_CD_requireTime (l : Launch) (dC : Nat → ClassId) (dI : Nat → Nat → Nat) (hl0 : l.stackTraces = false) (hX : Nat) (wi ma no : Int32) (hR hT hC : Nat) (x0 : Int32) : MetT l y_CD_requireTime (zw y_CD_requireTime b_CD_requireTime 2 none) ({ frames := 6, cells := 1, slots := 6, locals := 82 }) (zPreT [.ref hX, .int x0] (dC, dI) [(hX, .inr (3, [.int wi, .int ma, .ref hR, .ref hT, .ref hC, .int no]))] []) (zt_Qv (no ≤ x0) zIAE) 0 0 (fun _ => False) := by
  refine zt_ofW (cc := b_CD_requireTime) (maxL := 2) (ret := none) (by decide) rfl ?_
  intro p e s m args below meth c s₁ B hml hout hv
  obtain ⟨rfl, ⟨hP, hK⟩, hSt⟩ := hv
  have hx := B.exec
  have hb := B.bytes
  have hr := B.returns
  have hts := atoms_spec (ws := (zw y_CD_requireTime b_CD_requireTime 2 none)) B.pre
  have htB : ∀ w ∈ BG, w.before ([.ref hX, .int x0] : List Value).toArray s = true := fun w h => hts w (List.mem_cons_of_mem _ h)
  have hown : s.vm.findClass R_CD = some m.cls := findClass_of_methodNamed B.named
  have hlocks := B.notSynchronized
  have htr : e.platform.stackTraces = false := (show e.platform.stackTraces = l.stackTraces by rw [B.admits.platform]).trans hl0
  have CF : CallFix p m c b_CD_requireTime 2 s ([.ref hX, .int x0] : List Value).toArray BG R_CD := ⟨hx, hb, hml, hown, htB⟩
  have hP : va_P (dC, dI) vwCl [(hX, .inr (3, [.int wi, .int ma, .ref hR, .ref hT, .ref hC, .int no]))] s.heap := hP
  have hl := lv_entry [.ref hX, .int x0] (n := 2) (Nat.le_of_ble_eq_true rfl)
  rw [lg_entry_eq]
  generalize (lg_sl [.ref hX, .int x0] ++ List.replicate (2 - (lg_sl [.ref hX, .int x0]).length) Slot.unset).toArray = ls at hl ⊢
  have hl : lv_has ls 2 [(0, .ref hX), (1, .int x0)] := hl
  refine lv_iload_n hx hb d_CD_requireTime_0 rfl (lv_at hl 1 rfl) ?_
  refine lv_aload_n hx hb d_CD_requireTime_1 rfl (lv_at hl 0 rfl) ?_
  refine va_get (D := (dC, dI)) (ci := 3) (v := .int no) (C := R_CD) (T := T_CD) (N := 6) hx hb htB i_CD hown hK hP 0 rfl rfl 5 (by decide) (htB _ lf_CD_46) (fun _ h9 => h9) rfl d_CD_requireTime_2 ?_
  refine lv_icmp_ge (tgt := 18) hx hb d_CD_requireTime_5 (by decide) (fun c_5 => ?_) (fun c_5 => ?_)
  · have hok : no ≤ x0 := c_5
    exact zt_ret (W.vret hx hb hr (fun t ht hW => Or.inl ⟨hok, rfl, ht⟩) (fun _ h => by cases h) d_CD_requireTime_18)
  · have hno : ¬ no ≤ x0 := c_5
    exact zt_new hx hb htr (own := R_CD) (cls := zIAE) (names := zUp) hown (by decide +kernel) (by decide +kernel) (zt_words zw_IAE htB hSt) (htB _ lc_CD_151) (htB _ nn_IAE) (htB _ ni_IAE) (htB _ sr_CD_172) hl.1 hml d_CD_requireTime_8 d_CD_requireTime_11 d_CD_requireTime_12 d_CD_requireTime_14 d_CD_requireTime_17 hout hlocks rfl (Nat.le_of_ble_eq_true rfl) (Nat.le_of_ble_eq_true rfl) (Nat.le_of_ble_eq_true rfl) (Nat.le_of_ble_eq_true rfl) (fun x t hT hW => Or.inr ⟨hno, x, rfl, hT⟩) (Nat.le_of_ble_eq_true rfl) (Nat.le_of_ble_eq_true rfl)
