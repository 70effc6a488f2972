set_option maxHeartbeats 4000000 in
set_option maxRecDepth 100000 in
theorem c_CD_doubled (l : Launch) (dC : Nat → ClassId) (dI : Nat → Nat → Nat) (d : Nat) (hd : d < 10) : Met l y_CD_doubled (zw y_CD_doubled b_CD_doubled 2 (some .int)) ({ frames := 0, cells := 0, slots := 0, locals := 0 }) (zPre [.int (nI d)] (dC, dI) [] []) (vp_Si (fun r => r = nI (zd_tw d))) 0 0 (fun _ => False) := by
  refine Met.ofW (cc := b_CD_doubled) (maxL := 2) (ret := (some .int)) (by decide) rfl ?_
  intro p e s m args below meth c s₁ B hml hv
  obtain ⟨rfl, hP, hK⟩ := hv
  have hx := B.exec
  have hb := B.bytes
  have hr := B.returns
  have hts := atoms_spec (ws := (zw y_CD_doubled b_CD_doubled 2 (some .int))) B.pre
  have htB : ∀ w ∈ BG, w.before ([.int (nI d)] : List Value).toArray s = true := fun w h => hts w (List.mem_cons_of_mem _ h)
  have hown : s.vm.findClass R_CD = some m.cls := findClass_of_methodNamed B.named
  have hlocks := B.notSynchronized
  have CF : CallFix p m c b_CD_doubled 2 s ([.int (nI d)] : List Value).toArray BG R_CD := ⟨hx, hb, hml, hown, htB⟩
  have hP : va_P (dC, dI) vwCl [] s.heap := hP
  have hl := lv_entry [.int (nI d)] (n := 2) (Nat.le_of_ble_eq_true rfl)
  rw [lg_entry_eq]
  generalize (lg_sl [.int (nI d)] ++ List.replicate (2 - (lg_sl [.int (nI d)]).length) Slot.unset).toArray = ls at hl ⊢
  have hl : lv_has ls 2 [(0, .int (nI d))] := hl
  refine lv_iconst (v := 2) hx hb d_CD_doubled_0 (by decide) ?_
  refine lv_iload_n hx hb d_CD_doubled_1 rfl (lv_at hl 0 rfl) ?_
  refine lv_imul hx hb d_CD_doubled_2 ?_
  rw [show (2 * (nI d) : Int32) = nI (2 * d) from pk_mul 2 d]
  refine lv_istore_n (lv' := [(1, .int (nI (2 * d))), (0, .int (nI d))]) hx hb d_CD_doubled_3 rfl hl (by decide) rfl (fun ls hl => ?_)
  refine lv_iload_n hx hb d_CD_doubled_4 rfl (lv_at hl 0 rfl) ?_
  refine lv_bipush (v := 9) hx hb d_CD_doubled_5 (by decide) ?_
  refine lv_icmp_le (tgt := 17) hx hb d_CD_doubled_7 (by decide) (fun c_7 => ?_) (fun c_7 => ?_)
  · have h9 : ¬ 9 < 2 * d := fun h => absurd c_7 (show ¬ nI (2 * d) ≤ nI 9 from nI_ge h (by omega))
    refine lv_iload_n hx hb d_CD_doubled_17 rfl (lv_at hl 0 rfl) ?_
    exact W.iret (v := nI (2 * d)) hx hb hr (fun t ht hW => ⟨_, rfl, by rw [zd_tw, if_neg h9], ht⟩) (fun _ h => by cases h) d_CD_doubled_18
  · have h9 : 9 < 2 * d := Nat.not_le.mp (fun h => c_7 (show nI (2 * d) ≤ nI 9 from nI_le h (by omega)))
    refine lv_iload_n hx hb d_CD_doubled_10 rfl (lv_at hl 0 rfl) ?_
    refine lv_bipush (v := 9) hx hb d_CD_doubled_11 (by decide) ?_
    refine lv_isub hx hb d_CD_doubled_13 ?_
    refine lv_goto (tgt := 18) hx hb d_CD_doubled_14 (by decide) ?_
    exact W.iret (v := (nI (2 * d)) - 9) hx hb hr (fun t ht hW => ⟨_, rfl, by rw [zd_tw, if_pos h9]; exact pk_sub (show 9 ≤ 2 * d by omega), ht⟩) (fun _ h => by cases h) d_CD_doubled_18
set_option maxHeartbeats 4000000 in
set_option maxRecDepth 100000 in
theorem c_CD_checkSum (l : Launch) (dC : Nat → ClassId) (dI : Nat → Nat → Nat) (x : Int64) : Met l y_CD_checkSum (zw y_CD_checkSum b_CD_checkSum 7 (some .int)) ({ frames := 1, cells := 0, slots := 0, locals := 21 }) (zPre [.long x] (dC, dI) [] []) (vp_Si (fun r => r = nI (zd_cs 19 false (zd_N x)))) 0 0 (fun _ => False) := by
  refine Met.ofW (cc := b_CD_checkSum) (maxL := 7) (ret := (some .int)) (by decide) rfl ?_
  intro p e s m args below meth c s₁ B hml hv
  obtain ⟨rfl, hP, hK⟩ := hv
  have hx := B.exec
  have hb := B.bytes
  have hr := B.returns
  have hts := atoms_spec (ws := (zw y_CD_checkSum b_CD_checkSum 7 (some .int))) B.pre
  have htB : ∀ w ∈ BG, w.before ([.long x] : List Value).toArray s = true := fun w h => hts w (List.mem_cons_of_mem _ h)
  have hown : s.vm.findClass R_CD = some m.cls := findClass_of_methodNamed B.named
  have hlocks := B.notSynchronized
  have CF : CallFix p m c b_CD_checkSum 7 s ([.long x] : List Value).toArray BG R_CD := ⟨hx, hb, hml, hown, htB⟩
  have hP : va_P (dC, dI) vwCl [] s.heap := hP
  have hl := lv_entry [.long x] (n := 7) (Nat.le_of_ble_eq_true rfl)
  rw [lg_entry_eq]
  generalize (lg_sl [.long x] ++ List.replicate (7 - (lg_sl [.long x]).length) Slot.unset).toArray = ls at hl ⊢
  have hl : lv_has ls 7 [(0, .long x)] := hl
  refine lv_iconst (v := 0) hx hb d_CD_checkSum_0 (by decide) ?_
  refine lv_istore_n (lv' := [(2, .int 0), (0, .long x)]) hx hb d_CD_checkSum_1 rfl hl (by decide) rfl (fun ls hl => ?_)
  refine lv_lload_n hx hb d_CD_checkSum_2 rfl (lv_at hl 1 rfl) ?_
  refine lv_lstore_n (lv' := [(3, .long x), (2, .int 0), (0, .long x)]) hx hb d_CD_checkSum_3 rfl hl (by decide) rfl (fun ls hl => ?_)
  refine lv_iconst (v := 0) hx hb d_CD_checkSum_4 (by decide) ?_
  refine lv_istore (lv' := [(5, .int 0), (3, .long x), (2, .int 0), (0, .long x)]) hx hb d_CD_checkSum_5 hl (by decide) rfl (fun ls hl => ?_)
  have loop : ∀ (k i r S : Nat) (ls : Array Slot), i + k = 19 → r < 2 ^ 63 → S ≤ 9 * i → S + zd_cs k (decide (i % 2 = 1)) r = zd_cs 19 false (zd_N x) → lv_has ls 7 [(5, .int (nI i)), (3, .long (lN r)), (2, .int (nI S)), (0, .long x)] → W p l e (headSpec (zw y_CD_checkSum b_CD_checkSum 7 (some .int)) ({ frames := 1, cells := 0, slots := 0, locals := 21 })).room s m ([.long x] : List Value).toArray below meth c s.heap [] 0 0 (MQ below (vp_Si (fun r => r = nI (zd_cs 19 false (zd_N x)))) ([.long x] : List Value).toArray s 0 0 (fun _ => False)) (F0 m 7 ls []) := by
    intro k
    induction k with
    | zero =>
      intro i r S ls hi hr9 hS he hl
      refine lv_iload hx hb d_CD_checkSum_7 (lv_at hl 0 rfl) ?_
      refine lv_bipush (v := 19) hx hb d_CD_checkSum_9 (by decide) ?_
      refine lv_icmp_ge (tgt := 60) hx hb d_CD_checkSum_11 (by decide) (fun c_11 => ?_) (fun c_11 => ?_)
      · refine lv_iload_n hx hb d_CD_checkSum_60 rfl (lv_at hl 2 rfl) ?_
        exact W.iret (v := nI S) hx hb hr (fun t ht hW => ⟨_, rfl, by rw [← he]; simp [zd_cs], ht⟩) (fun _ h => by cases h) d_CD_checkSum_61
      · exact absurd (by show nI 19 ≤ nI i; exact nI_le (by omega) (by omega)) c_11
    | succ k ih =>
      intro i r S ls hi hr9 hS he hl
      refine lv_iload hx hb d_CD_checkSum_7 (lv_at hl 0 rfl) ?_
      refine lv_bipush (v := 19) hx hb d_CD_checkSum_9 (by decide) ?_
      refine lv_icmp_ge (tgt := 60) hx hb d_CD_checkSum_11 (by decide) (fun c_11 => ?_) (fun c_11 => ?_)
      · exact absurd c_11 (by show ¬ nI 19 ≤ nI i; exact nI_ge (by omega) (by omega))
      · refine lv_lload_n hx hb d_CD_checkSum_14 rfl (lv_at hl 1 rfl) ?_
        refine lv_lconst (v := 0) hx hb d_CD_checkSum_15 (by decide) ?_
        refine W.lcmp hx hb d_CD_checkSum_16 ?_
        refine lv_if_le (tgt := 60) hx hb d_CD_checkSum_17 (by decide) (fun c_17 => ?_) (fun c_17 => ?_)
        · have hr0 : r = 0 := (zd_le0 hr9).mp c_17
          subst hr0
          refine lv_iload_n hx hb d_CD_checkSum_60 rfl (lv_at hl 2 rfl) ?_
          exact W.iret (v := nI S) hx hb hr (fun t ht hW => ⟨_, rfl, by rw [← he]; simp [zd_cs], ht⟩) (fun _ h => by cases h) d_CD_checkSum_61
        · have hr0 : r ≠ 0 := fun h => c_17 ((zd_le0 hr9).mpr h)
          refine lv_lload_n hx hb d_CD_checkSum_20 rfl (lv_at hl 1 rfl) ?_
          refine lv_ldc2 (v := 10) hx hb hown (htB _ kl_CD_123) d_CD_checkSum_21 ?_
          refine lv_lrem hx hb d_CD_checkSum_24 (by decide) ?_
          refine lv_l2i (v := ((lN r) - (lN r) / 10 * 10).toInt32) hx hb d_CD_checkSum_25 rfl ?_
          rw [show (((lN r) - (lN r) / 10 * 10).toInt32 : Int32) = nI (r % 10) from zd_rem hr9]
          refine lv_istore (lv' := [(6, .int (nI (r % 10))), (5, .int (nI i)), (3, .long (lN r)), (2, .int (nI S)), (0, .long x)]) hx hb d_CD_checkSum_26 hl (by decide) rfl (fun ls hl => ?_)
          refine lv_iload_n hx hb d_CD_checkSum_28 rfl (lv_at hl 3 rfl) ?_
          refine lv_iload hx hb d_CD_checkSum_29 (lv_at hl 1 rfl) ?_
          refine lv_iconst (v := 2) hx hb d_CD_checkSum_31 (by decide) ?_
          refine lv_irem hx hb d_CD_checkSum_32 (by decide) ?_
          rw [show ((nI i) - (nI i) / 2 * 2 : Int32) = nI (i % 2) from pk_rem (a := i) (d := 2) (by omega) (by decide) (by decide)]
          refine lv_if_ne (tgt := 41) hx hb d_CD_checkSum_33 (by decide) (fun c_33 => ?_) (fun c_33 => ?_)
          · have hod : i % 2 = 1 := by
              rcases (show i % 2 = 0 ∨ i % 2 = 1 by omega) with h | h
              · rw [h] at c_33; exact absurd rfl c_33
              · exact h
            refine lv_iload hx hb d_CD_checkSum_41 (lv_at hl 0 rfl) ?_
            refine vp_callSi (va_Run.run (zr_S (n := 1) (As := [.int (nI (r % 10))]) (rest := [.int (nI S)]) CF (c_CD_doubled l dC dI (r % 10) (by omega)) mc_CD_doubled lk_CD_174 mt_CD_doubled ni_CD rfl rfl (by decide +kernel) ⟨Nat.le_of_ble_eq_true rfl, Nat.le_of_ble_eq_true rfl⟩ (hP.sub (ws' := []) [] rfl) (hK.sub (tys' := []) [] rfl) rfl rfl hl.1 rfl (lv_room (Nat.le_of_ble_eq_true rfl)) d_CD_checkSum_43 ⟨Nat.zero_le _, Nat.zero_le _⟩)) (fun r_43 h_43 => ?_)
            subst h_43
            have hd9 : zd_tw (r % 10) ≤ 9 := zd_tw_le (by omega)
            obtain ⟨S2, hS2⟩ : ∃ z : Nat, z = S + (zd_tw (r % 10)) := ⟨_, rfl⟩
            have he2 : S2 + zd_cs k (decide ((i + 1) % 2 = 1)) (r / 10) = zd_cs 19 false (zd_N x) := by
              rw [← he, hS2, show decide ((i + 1) % 2 = 1) = false by simp; omega, show decide (i % 2 = 1) = true by simp; omega]; simp only [zd_cs, hr0, if_false]; simp; omega
            refine lv_iadd hx hb d_CD_checkSum_46 ?_
            rw [show ((nI S) + (nI (zd_tw (r % 10))) : Int32) = nI S2 by rw [hS2]; exact nI_add _ _]
            refine lv_istore_n (lv' := [(2, .int (nI S2)), (6, .int (nI (r % 10))), (5, .int (nI i)), (3, .long (lN r)), (0, .long x)]) hx hb d_CD_checkSum_47 rfl hl (by decide) rfl (fun ls hl => ?_)
            refine lv_lload_n hx hb d_CD_checkSum_48 rfl (lv_at hl 3 rfl) ?_
            refine lv_ldc2 (v := 10) hx hb hown (htB _ kl_CD_123) d_CD_checkSum_49 ?_
            refine lv_ldiv hx hb d_CD_checkSum_52 (by decide) ?_
            refine lv_lstore_n (lv' := [(3, .long ((lN r) / 10)), (2, .int (nI S2)), (6, .int (nI (r % 10))), (5, .int (nI i)), (0, .long x)]) hx hb d_CD_checkSum_53 rfl hl (by decide) rfl (fun ls hl => ?_)
            refine lv_iinc (v := (nI i) + 1) (lv' := [(5, .int ((nI i) + 1)), (3, .long ((lN r) / 10)), (2, .int (nI S2)), (6, .int (nI (r % 10))), (0, .long x)]) hx hb d_CD_checkSum_54 hl (k := 3) rfl rfl (by decide) rfl (fun ls hl => ?_)
            refine lv_goto (tgt := 7) hx hb d_CD_checkSum_57 (by decide) ?_
            rw [zd_div hr9, nI_1] at hl
            exact ih (i + 1) (r / 10) S2 ls (by omega) (by omega) (by omega) he2 (lv_sub hl [0, 1, 2, 4] rfl)
          · have hev : i % 2 = 0 := by
              rcases (show i % 2 = 0 ∨ i % 2 = 1 by omega) with h | h
              · exact h
              · rw [h] at c_33; exact absurd c_33 (by decide)
            refine lv_iload hx hb d_CD_checkSum_36 (lv_at hl 0 rfl) ?_
            refine lv_goto (tgt := 46) hx hb d_CD_checkSum_38 (by decide) ?_
            have hd9 : r % 10 ≤ 9 := by omega
            obtain ⟨S2, hS2⟩ : ∃ z : Nat, z = S + (r % 10) := ⟨_, rfl⟩
            have he2 : S2 + zd_cs k (decide ((i + 1) % 2 = 1)) (r / 10) = zd_cs 19 false (zd_N x) := by
              rw [← he, hS2, show decide ((i + 1) % 2 = 1) = true by simp; omega, show decide (i % 2 = 1) = false by simp; omega]; simp only [zd_cs, hr0, if_false]; simp; omega
            refine lv_iadd hx hb d_CD_checkSum_46 ?_
            rw [show ((nI S) + (nI (r % 10)) : Int32) = nI S2 by rw [hS2]; exact nI_add _ _]
            refine lv_istore_n (lv' := [(2, .int (nI S2)), (6, .int (nI (r % 10))), (5, .int (nI i)), (3, .long (lN r)), (0, .long x)]) hx hb d_CD_checkSum_47 rfl hl (by decide) rfl (fun ls hl => ?_)
            refine lv_lload_n hx hb d_CD_checkSum_48 rfl (lv_at hl 3 rfl) ?_
            refine lv_ldc2 (v := 10) hx hb hown (htB _ kl_CD_123) d_CD_checkSum_49 ?_
            refine lv_ldiv hx hb d_CD_checkSum_52 (by decide) ?_
            refine lv_lstore_n (lv' := [(3, .long ((lN r) / 10)), (2, .int (nI S2)), (6, .int (nI (r % 10))), (5, .int (nI i)), (0, .long x)]) hx hb d_CD_checkSum_53 rfl hl (by decide) rfl (fun ls hl => ?_)
            refine lv_iinc (v := (nI i) + 1) (lv' := [(5, .int ((nI i) + 1)), (3, .long ((lN r) / 10)), (2, .int (nI S2)), (6, .int (nI (r % 10))), (0, .long x)]) hx hb d_CD_checkSum_54 hl (k := 3) rfl rfl (by decide) rfl (fun ls hl => ?_)
            refine lv_goto (tgt := 7) hx hb d_CD_checkSum_57 (by decide) ?_
            rw [zd_div hr9, nI_1] at hl
            exact ih (i + 1) (r / 10) S2 ls (by omega) (by omega) (by omega) he2 (lv_sub hl [0, 1, 2, 4] rfl)
  rcases zd_of (x := x) with hx0 | ⟨n, hn, rfl⟩
  · refine lv_iload hx hb d_CD_checkSum_7 (lv_at hl 0 rfl) ?_
    refine lv_bipush (v := 19) hx hb d_CD_checkSum_9 (by decide) ?_
    refine lv_icmp_ge (tgt := 60) hx hb d_CD_checkSum_11 (by decide) (fun c_11 => ?_) (fun c_11 => ?_)
    · exact absurd c_11 (by decide)
    · refine lv_lload_n hx hb d_CD_checkSum_14 rfl (lv_at hl 1 rfl) ?_
      refine lv_lconst (v := 0) hx hb d_CD_checkSum_15 (by decide) ?_
      refine W.lcmp hx hb d_CD_checkSum_16 ?_
      refine lv_if_le (tgt := 60) hx hb d_CD_checkSum_17 (by decide) (fun c_17 => ?_) (fun c_17 => ?_)
      · refine lv_iload_n hx hb d_CD_checkSum_60 rfl (lv_at hl 2 rfl) ?_
        exact W.iret (v := 0) hx hb hr (fun t ht hW => ⟨_, rfl, by rw [zd_neg hx0]; rfl, ht⟩) (fun _ h => by cases h) d_CD_checkSum_61
      · exact absurd ((lg_cmp_le x 0).mpr (Int64.le_of_lt hx0)) c_17
  · exact loop 19 0 n 0 ls rfl hn (by omega) (by rw [zd_lN hn]; simp) (lv_sub hl [0, 1, 2, 3] rfl)
set_option maxHeartbeats 4000000 in
set_option maxRecDepth 100000 in
theorem c_CD_isGood (l : Launch) (dC : Nat → ClassId) (dI : Nat → Nat → Nat) (x : Int64) : Met l y_CD_isGood (zw y_CD_isGood b_CD_isGood 2 (some .boolean)) ({ frames := 2, cells := 0, slots := 0, locals := 47 }) (zPre [.long x] (dC, dI) [] []) (vp_Si (fun r => r = if zd_cs 19 false (zd_N x) % 10 = 0 then 1 else 0)) 0 0 (fun _ => False) := by
  refine Met.ofW (cc := b_CD_isGood) (maxL := 2) (ret := (some .boolean)) (by decide) rfl ?_
  intro p e s m args below meth c s₁ B hml hv
  obtain ⟨rfl, hP, hK⟩ := hv
  have hx := B.exec
  have hb := B.bytes
  have hr := B.returns
  have hts := atoms_spec (ws := (zw y_CD_isGood b_CD_isGood 2 (some .boolean))) B.pre
  have htB : ∀ w ∈ BG, w.before ([.long x] : List Value).toArray s = true := fun w h => hts w (List.mem_cons_of_mem _ h)
  have hown : s.vm.findClass R_CD = some m.cls := findClass_of_methodNamed B.named
  have hlocks := B.notSynchronized
  have CF : CallFix p m c b_CD_isGood 2 s ([.long x] : List Value).toArray BG R_CD := ⟨hx, hb, hml, hown, htB⟩
  have hP : va_P (dC, dI) vwCl [] s.heap := hP
  have hl := lv_entry [.long x] (n := 2) (Nat.le_of_ble_eq_true rfl)
  rw [lg_entry_eq]
  generalize (lg_sl [.long x] ++ List.replicate (2 - (lg_sl [.long x]).length) Slot.unset).toArray = ls at hl ⊢
  have hl : lv_has ls 2 [(0, .long x)] := hl
  refine lv_lload_n hx hb d_CD_isGood_0 rfl (lv_at hl 0 rfl) ?_
  refine vp_callSi (va_Run.run (zr_S (n := 1) (As := [.long x]) (rest := []) CF (c_CD_checkSum l dC dI x) mc_CD_checkSum lk_CD_125 mt_CD_checkSum ni_CD rfl rfl (by decide +kernel) ⟨Nat.le_of_ble_eq_true rfl, Nat.le_of_ble_eq_true rfl⟩ (hP.sub (ws' := []) [] rfl) (hK.sub (tys' := []) [] rfl) rfl rfl hl.1 rfl (lv_room (Nat.le_of_ble_eq_true rfl)) d_CD_isGood_1 ⟨Nat.zero_le _, Nat.zero_le _⟩)) (fun r_1 h_1 => ?_)
  subst h_1
  have hle := zd_cs_le 19 false (zd_N x)
  refine lv_bipush (v := 10) hx hb d_CD_isGood_4 (by decide) ?_
  refine lv_irem hx hb d_CD_isGood_6 (by decide) ?_
  rw [show ((nI (zd_cs 19 false (zd_N x))) - (nI (zd_cs 19 false (zd_N x))) / 10 * 10 : Int32) = nI (zd_cs 19 false (zd_N x) % 10) from pk_rem (d := 10) (by omega) (by decide) (by decide)]
  refine lv_if_ne (tgt := 14) hx hb d_CD_isGood_7 (by decide) (fun c_7 => ?_) (fun c_7 => ?_)
  · have h0 : ¬ zd_cs 19 false (zd_N x) % 10 = 0 := fun h => c_7 (by rw [h]; rfl)
    refine lv_iconst (v := 0) hx hb d_CD_isGood_14 (by decide) ?_
    exact W.zret (v := 0) (ty := .boolean) hx hb hr rfl (fun t ht hW => ⟨_, rfl, by rw [if_neg h0], ht⟩) (fun _ h => by cases h) d_CD_isGood_15
  · have h0 : zd_cs 19 false (zd_N x) % 10 = 0 := (nI_eq (b := 0) (by omega) (by decide)).mp c_7
    refine lv_iconst (v := 1) hx hb d_CD_isGood_10 (by decide) ?_
    refine lv_goto (tgt := 15) hx hb d_CD_isGood_11 (by decide) ?_
    exact W.zret (v := 1) (ty := .boolean) hx hb hr rfl (fun t ht hW => ⟨_, rfl, by rw [if_pos h0], ht⟩) (fun _ h => by cases h) d_CD_isGood_15
