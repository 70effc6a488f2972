set_option maxHeartbeats 4000000 in
set_option maxRecDepth 100000 in
theorem c_MO_use (l : Launch) (dC : Nat → ClassId) (dI : Nat → Nat → Nat) (hM np nd nl nk nu nt nc nf nb : Nat) (cMP cMD cML cMI cMU cMT cMC cMF cMB : ClassId) (co wi ma no : Int32) (rc : Nat) (rp rl ri : Nat → Int32) (hrc : rc ≤ 40) (ac : Nat) (ai us ua : Nat → Int32) (hac : ac ≤ 64) (cc : Nat) (cn : Nat → Int64) (ca cb : Nat → Int32) (hcc : cc ≤ 100) (hrl : ∀ j, j < rc → 1 ≤ (rl j).toInt ∧ (rl j).toInt ≤ 8) (hri : ∀ j, j < rc → 0 ≤ (ri j).toInt ∧ (ri j).toInt < 6) (hdist : ∀ i j, i < cc → j < cc → cn i = cn j → i = j) (hca : ∀ j, j < cc → 0 ≤ (ca j).toInt ∧ (ca j).toInt < ac) (hus : ∀ j, j < 64 → 0 ≤ (us j).toInt ∧ (us j).toInt < 9) (x : Int64) (T : Int32) (hD0 : va_D (fun _ => True) [(hM, .inr (4, [.int co, .int wi, .int ma, .int (nI rc), .ref np, .ref nd, .ref nl, .int (nI ac), .ref nk, .ref nu, .ref nt, .int (nI cc), .ref nc, .ref nf, .ref nb, .int no])), (np, .inl (cMP, 40, .inl rp)), (nd, .inl (cMD, 40, .inl rl)), (nl, .inl (cML, 40, .inl ri)), (nk, .inl (cMI, 64, .inl ai)), (nu, .inl (cMU, 64, .inl us)), (nt, .inl (cMT, 512, .inl ua)), (nc, .inl (cMC, 100, .inr (.inl cn))), (nf, .inl (cMF, 100, .inl ca)), (nb, .inl (cMB, 100, .inl cb))]) : Met l y_MO_use (zw y_MO_use b_MO_use 7 (some .int)) ({ frames := 3, cells := 0, slots := 0, locals := 74 }) (zPre [.ref hM, .long x, .int T] (dC, dI) [(hM, .inr (4, [.int co, .int wi, .int ma, .int (nI rc), .ref np, .ref nd, .ref nl, .int (nI ac), .ref nk, .ref nu, .ref nt, .int (nI cc), .ref nc, .ref nf, .ref nb, .int no])), (np, .inl (cMP, 40, .inl rp)), (nd, .inl (cMD, 40, .inl rl)), (nl, .inl (cML, 40, .inl ri)), (nk, .inl (cMI, 64, .inl ai)), (nu, .inl (cMU, 64, .inl us)), (nt, .inl (cMT, 512, .inl ua)), (nc, .inl (cMC, 100, .inr (.inl cn))), (nf, .inl (cMF, 100, .inl ca)), (nb, .inl (cMB, 100, .inl cb))] [(cMP, .int), (cMD, .int), (cML, .int), (cMI, .int), (cMU, .int), (cMT, .int), (cMC, .long), (cMF, .int), (cMB, .boolean)]) (va_Qi (fun (r : Int32) (_ : Unit) => r = (if zk_use no x T = 0 then zu_v (zm_c rc rp rl ri us ua cc cn ca cb wi ma x T) else 0)) (fun (_ : Unit) (t : State) => va_P (dC, dI) vwCl [(hM, .inr (4, [.int (nI (zk_use no x T)), .int wi, .int ma, .int (nI rc), .ref np, .ref nd, .ref nl, .int (nI ac), .ref nk, .ref nu, .ref nt, .int (nI cc), .ref nc, .ref nf, .ref nb, .int (if zk_use no x T = 0 then T else no)])), (np, .inl (cMP, 40, .inl rp)), (nd, .inl (cMD, 40, .inl rl)), (nl, .inl (cML, 40, .inl ri)), (nk, .inl (cMI, 64, .inl ai)), (nu, .inl (cMU, 64, .inl (if zk_use no x T = 0 then (if zm_c rc rp rl ri us ua cc cn ca cb wi ma x T = 0 then upd us (zu_a cc cn ca x) (nI (zm_u (zm_n us (zu_a cc cn ca x)))) else us) else us))), (nt, .inl (cMT, 512, .inl (if zk_use no x T = 0 then (if zm_c rc rp rl ri us ua cc cn ca cb wi ma x T = 0 then zm_ua ua (zu_a cc cn ca x) (zm_n us (zu_a cc cn ca x)) T else ua) else ua))), (nc, .inl (cMC, 100, .inr (.inl cn))), (nf, .inl (cMF, 100, .inl ca)), (nb, .inl (cMB, 100, .inl cb))] t.heap) (zA [(hM, .inr (4, [.int co, .int wi, .int ma, .int (nI rc), .ref np, .ref nd, .ref nl, .int (nI ac), .ref nk, .ref nu, .ref nt, .int (nI cc), .ref nc, .ref nf, .ref nb, .int no])), (np, .inl (cMP, 40, .inl rp)), (nd, .inl (cMD, 40, .inl rl)), (nl, .inl (cML, 40, .inl ri)), (nk, .inl (cMI, 64, .inl ai)), (nu, .inl (cMU, 64, .inl us)), (nt, .inl (cMT, 512, .inl ua)), (nc, .inl (cMC, 100, .inr (.inl cn))), (nf, .inl (cMF, 100, .inl ca)), (nb, .inl (cMB, 100, .inl cb))])) 0 0 (zA [(hM, .inr (4, [.int co, .int wi, .int ma, .int (nI rc), .ref np, .ref nd, .ref nl, .int (nI ac), .ref nk, .ref nu, .ref nt, .int (nI cc), .ref nc, .ref nf, .ref nb, .int no])), (np, .inl (cMP, 40, .inl rp)), (nd, .inl (cMD, 40, .inl rl)), (nl, .inl (cML, 40, .inl ri)), (nk, .inl (cMI, 64, .inl ai)), (nu, .inl (cMU, 64, .inl us)), (nt, .inl (cMT, 512, .inl ua)), (nc, .inl (cMC, 100, .inr (.inl cn))), (nf, .inl (cMF, 100, .inl ca)), (nb, .inl (cMB, 100, .inl cb))]) := by
  refine Met.ofW (cc := b_MO_use) (maxL := 7) (ret := (some .int)) (by decide) rfl ?_
  intro p e s m args below meth c s₁ B hml hv
  obtain ⟨rfl, hP, hK⟩ := hv
  have hx := B.exec
  have hb := B.bytes
  have hr := B.returns
  have hts := atoms_spec (ws := (zw y_MO_use b_MO_use 7 (some .int))) B.pre
  have htB : ∀ w ∈ BG, w.before ([.ref hM, .long x, .int T] : List Value).toArray s = true := fun w h => hts w (List.mem_cons_of_mem _ h)
  have hown : s.vm.findClass R_MO = some m.cls := findClass_of_methodNamed B.named
  have hlocks := B.notSynchronized
  have CF : CallFix p m c b_MO_use 7 s ([.ref hM, .long x, .int T] : List Value).toArray BG R_MO := ⟨hx, hb, hml, hown, htB⟩
  have hP : va_P (dC, dI) vwCl [(hM, .inr (4, [.int co, .int wi, .int ma, .int (nI rc), .ref np, .ref nd, .ref nl, .int (nI ac), .ref nk, .ref nu, .ref nt, .int (nI cc), .ref nc, .ref nf, .ref nb, .int no])), (np, .inl (cMP, 40, .inl rp)), (nd, .inl (cMD, 40, .inl rl)), (nl, .inl (cML, 40, .inl ri)), (nk, .inl (cMI, 64, .inl ai)), (nu, .inl (cMU, 64, .inl us)), (nt, .inl (cMT, 512, .inl ua)), (nc, .inl (cMC, 100, .inr (.inl cn))), (nf, .inl (cMF, 100, .inl ca)), (nb, .inl (cMB, 100, .inl cb))] s.heap := hP
  have hl := lv_entry [.ref hM, .long x, .int T] (n := 7) (Nat.le_of_ble_eq_true rfl)
  rw [lg_entry_eq]
  generalize (lg_sl [.ref hM, .long x, .int T] ++ List.replicate (7 - (lg_sl [.ref hM, .long x, .int T]).length) Slot.unset).toArray = ls at hl ⊢
  have hl : lv_has ls 7 [(0, .ref hM), (1, .long x), (3, .int T)] := hl
  have hD : va_D (zA [(hM, .inr (4, [.int co, .int wi, .int ma, .int (nI rc), .ref np, .ref nd, .ref nl, .int (nI ac), .ref nk, .ref nu, .ref nt, .int (nI cc), .ref nc, .ref nf, .ref nb, .int no])), (np, .inl (cMP, 40, .inl rp)), (nd, .inl (cMD, 40, .inl rl)), (nl, .inl (cML, 40, .inl ri)), (nk, .inl (cMI, 64, .inl ai)), (nu, .inl (cMU, 64, .inl us)), (nt, .inl (cMT, 512, .inl ua)), (nc, .inl (cMC, 100, .inr (.inl cn))), (nf, .inl (cMF, 100, .inl ca)), (nb, .inl (cMB, 100, .inl cb))]) [(hM, .inr (4, [.int co, .int wi, .int ma, .int (nI rc), .ref np, .ref nd, .ref nl, .int (nI ac), .ref nk, .ref nu, .ref nt, .int (nI cc), .ref nc, .ref nf, .ref nb, .int no])), (np, .inl (cMP, 40, .inl rp)), (nd, .inl (cMD, 40, .inl rl)), (nl, .inl (cML, 40, .inl ri)), (nk, .inl (cMI, 64, .inl ai)), (nu, .inl (cMU, 64, .inl us)), (nt, .inl (cMT, 512, .inl ua)), (nc, .inl (cMC, 100, .inr (.inl cn))), (nf, .inl (cMF, 100, .inl ca)), (nb, .inl (cMB, 100, .inl cb))] := zA_of hD0
  have hS : va_S (zA [(hM, .inr (4, [.int co, .int wi, .int ma, .int (nI rc), .ref np, .ref nd, .ref nl, .int (nI ac), .ref nk, .ref nu, .ref nt, .int (nI cc), .ref nc, .ref nf, .ref nb, .int no])), (np, .inl (cMP, 40, .inl rp)), (nd, .inl (cMD, 40, .inl rl)), (nl, .inl (cML, 40, .inl ri)), (nk, .inl (cMI, 64, .inl ai)), (nu, .inl (cMU, 64, .inl us)), (nt, .inl (cMT, 512, .inl ua)), (nc, .inl (cMC, 100, .inr (.inl cn))), (nf, .inl (cMF, 100, .inl ca)), (nb, .inl (cMB, 100, .inl cb))]) s.heap s.heap [] := va_S.rf
  generalize zA [(hM, .inr (4, [.int co, .int wi, .int ma, .int (nI rc), .ref np, .ref nd, .ref nl, .int (nI ac), .ref nk, .ref nu, .ref nt, .int (nI cc), .ref nc, .ref nf, .ref nb, .int no])), (np, .inl (cMP, 40, .inl rp)), (nd, .inl (cMD, 40, .inl rl)), (nl, .inl (cML, 40, .inl ri)), (nk, .inl (cMI, 64, .inl ai)), (nu, .inl (cMU, 64, .inl us)), (nt, .inl (cMT, 512, .inl ua)), (nc, .inl (cMC, 100, .inr (.inl cn))), (nf, .inl (cMF, 100, .inl ca)), (nb, .inl (cMB, 100, .inl cb))] = A at hD hS ⊢
  refine lv_aload_n hx hb d_MO_use_0 rfl (lv_at hl 0 rfl) ?_
  refine lv_lload_n hx hb d_MO_use_1 rfl (lv_at hl 1 rfl) ?_
  refine lv_bipush (v := 18) hx hb d_MO_use_2 (by decide) ?_
  refine vp_callSi (va_Run.run (zr_S (n := 2) (As := [.long x, .int 18]) (rest := [.ref hM]) CF (c_MO_isNumber l dC dI x 18 (by decide)) mc_MO_isNumber lk_MO_74 mt_MO_isNumber ni_MO rfl rfl (by decide +kernel) ⟨Nat.le_of_ble_eq_true rfl, Nat.le_of_ble_eq_true rfl⟩ (hP.sub (ws' := []) [] rfl) (hK.sub (tys' := []) [] rfl) rfl rfl hl.1 rfl (lv_room (Nat.le_of_ble_eq_true rfl)) d_MO_use_4 ⟨Nat.zero_le _, Nat.zero_le _⟩)) (fun r_4 h_4 => ?_)
  by_cases hn : zok_D x 1 18
  · rw [if_pos hn] at h_4
    subst h_4
    refine lv_if_eq (tgt := 22) hx hb d_MO_use_7 (by decide) (fun c_7 => ?_) (fun c_7 => ?_)
    · exact absurd c_7 (by decide)
    · refine lv_iload_n hx hb d_MO_use_10 rfl (lv_at hl 2 rfl) ?_
      refine lv_aload_n hx hb d_MO_use_11 rfl (lv_at hl 0 rfl) ?_
      refine va_get (D := (dC, dI)) (ci := 4) (v := .int no) (C := R_MO) (T := T_MO) (N := 16) hx hb htB i_MO hown hK hP 0 rfl rfl 15 (by decide) (htB _ lf_MO_94) (fun _ h9 => h9) rfl d_MO_use_12 ?_
      refine lv_icmp_lt (tgt := 22) hx hb d_MO_use_15 (by decide) (fun c_15 => ?_) (fun c_15 => ?_)
      · have hno : ¬ (zok_D x 1 18 ∧ no ≤ T) := fun h => absurd c_15 (Int32.not_lt.mpr h.2)
        refine lv_iconst (v := 0) hx hb d_MO_use_22 (by decide) ?_
        refine lv_iconst (v := 1) hx hb d_MO_use_23 (by decide) ?_
        refine va_calli (zr_V (n := 2) (As := [.int 0, .int 1]) (rest := []) CF (c_MO_goes_a l dC dI hM np nd nl nk nu nt nc nf nb cMP cMD cML cMI cMU cMT cMC cMF cMB co wi ma no rc rp rl ri hrc ac ai us ua hac cc cn ca cb hcc 1 ((hD.sub (ws' := [(hM, .inr (4, [.int co, .int wi, .int ma, .int (nI rc), .ref np, .ref nd, .ref nl, .int (nI ac), .ref nk, .ref nu, .ref nt, .int (nI cc), .ref nc, .ref nf, .ref nb, .int no]))]) [0] (by decide) rfl).weaken (fun _ _ _ _ => trivial))) mc_MO_goes lk_MO_66 mi_MO_goes ms_MO_goes ni_MO rfl rfl (by decide +kernel) ⟨Nat.le_of_ble_eq_true rfl, Nat.le_of_ble_eq_true rfl⟩ (hP.sub (ws' := [(hM, .inr (4, [.int co, .int wi, .int ma, .int (nI rc), .ref np, .ref nd, .ref nl, .int (nI ac), .ref nk, .ref nu, .ref nt, .int (nI cc), .ref nc, .ref nf, .ref nb, .int no]))]) [0] rfl) (hK.sub (tys' := []) [] rfl) rfl rfl rfl hl.1 rfl (lv_room (Nat.le_of_ble_eq_true rfl)) d_MO_use_24 ⟨Nat.zero_le _, Nat.zero_le _⟩) hS (fun q _ h => zA_sub hD (wc := [(hM, .inr (4, [.int co, .int wi, .int ma, .int (nI rc), .ref np, .ref nd, .ref nl, .int (nI ac), .ref nk, .ref nu, .ref nt, .int (nI cc), .ref nc, .ref nf, .ref nb, .int no]))]) [0] rfl h) (fun q h => zA_sub hD (wc := [(hM, .inr (4, [.int co, .int wi, .int ma, .int (nI rc), .ref np, .ref nd, .ref nl, .int (nI ac), .ref nk, .ref nu, .ref nt, .int (nI cc), .ref nc, .ref nf, .ref nb, .int no]))]) [0] rfl h) (fun r_24 u t H1 locs1 ht hvm hw_24 hB hz hk9 hS => ?_)
        have hP1 : va_P (dC, dI) vwCl [(hM, .inr (4, [.int 1, .int wi, .int ma, .int (nI rc), .ref np, .ref nd, .ref nl, .int (nI ac), .ref nk, .ref nu, .ref nt, .int (nI cc), .ref nc, .ref nf, .ref nb, .int no]))] H1 := by
          have h9 : va_P (dC, dI) vwCl [(hM, .inr (4, [.int 1, .int wi, .int ma, .int (nI rc), .ref np, .ref nd, .ref nl, .int (nI ac), .ref nk, .ref nu, .ref nt, .int (nI cc), .ref nc, .ref nf, .ref nb, .int no]))] t.heap := hB
          rw [ht] at h9
          exact h9
        have hP : va_P (dC, dI) vwCl [(hM, .inr (4, [.int 1, .int wi, .int ma, .int (nI rc), .ref np, .ref nd, .ref nl, .int (nI ac), .ref nk, .ref nu, .ref nt, .int (nI cc), .ref nc, .ref nf, .ref nb, .int no])), (np, .inl (cMP, 40, .inl rp)), (nd, .inl (cMD, 40, .inl rl)), (nl, .inl (cML, 40, .inl ri)), (nk, .inl (cMI, 64, .inl ai)), (nu, .inl (cMU, 64, .inl us)), (nt, .inl (cMT, 512, .inl ua)), (nc, .inl (cMC, 100, .inr (.inl cn))), (nf, .inl (cMF, 100, .inl ca)), (nb, .inl (cMB, 100, .inl cb))] H1 := zj (wc := [(hM, .inr (4, [.int co, .int wi, .int ma, .int (nI rc), .ref np, .ref nd, .ref nl, .int (nI ac), .ref nk, .ref nu, .ref nt, .int (nI cc), .ref nc, .ref nf, .ref nb, .int no]))]) hP hD [0] rfl hP1 hk9 rfl rfl
        have hD : va_D A [(hM, .inr (4, [.int 1, .int wi, .int ma, .int (nI rc), .ref np, .ref nd, .ref nl, .int (nI ac), .ref nk, .ref nu, .ref nt, .int (nI cc), .ref nc, .ref nf, .ref nb, .int no])), (np, .inl (cMP, 40, .inl rp)), (nd, .inl (cMD, 40, .inl rl)), (nl, .inl (cML, 40, .inl ri)), (nk, .inl (cMI, 64, .inl ai)), (nu, .inl (cMU, 64, .inl us)), (nt, .inl (cMT, 512, .inl ua)), (nc, .inl (cMC, 100, .inr (.inl cn))), (nf, .inl (cMF, 100, .inl ca)), (nb, .inl (cMB, 100, .inl cb))] := zD_of (ws := [(hM, .inr (4, [.int co, .int wi, .int ma, .int (nI rc), .ref np, .ref nd, .ref nl, .int (nI ac), .ref nk, .ref nu, .ref nt, .int (nI cc), .ref nc, .ref nf, .ref nb, .int no])), (np, .inl (cMP, 40, .inl rp)), (nd, .inl (cMD, 40, .inl rl)), (nl, .inl (cML, 40, .inl ri)), (nk, .inl (cMI, 64, .inl ai)), (nu, .inl (cMU, 64, .inl us)), (nt, .inl (cMT, 512, .inl ua)), (nc, .inl (cMC, 100, .inr (.inl cn))), (nf, .inl (cMF, 100, .inl ca)), (nb, .inl (cMB, 100, .inl cb))]) rfl hD
        generalize H1 = H at hP hS ⊢
        subst hw_24
        refine lv_if_ne (tgt := 32) hx hb d_MO_use_27 (by decide) (fun c_27 => ?_) (fun c_27 => ?_)
        · exact absurd rfl c_27
        · refine lv_iconst (v := 0) hx hb d_MO_use_30 (by decide) ?_
          have hkk : zk_use no x T = 1 := by unfold zk_use; rw [if_neg hno]
          exact W.iret (v := 0) hx hb hr (fun t ht hW => ⟨⟨_, (), rfl, by rw [hkk] <;> rfl, by show va_P _ _ _ t.heap; rw [ht, hkk]; exact hP⟩, hS.F ht⟩) hS.2.2 d_MO_use_31
      · have hok : (zok_D x 1 18 ∧ no ≤ T) := ⟨hn, Int32.not_lt.mp c_15⟩
        refine lv_iconst (v := 1) hx hb d_MO_use_18 (by decide) ?_
        refine lv_goto (tgt := 23) hx hb d_MO_use_19 (by decide) ?_
        refine lv_iconst (v := 1) hx hb d_MO_use_23 (by decide) ?_
        refine va_calli (zr_V (n := 2) (As := [.int 1, .int 1]) (rest := []) CF (c_MO_goes_c l dC dI hM np nd nl nk nu nt nc nf nb cMP cMD cML cMI cMU cMT cMC cMF cMB co wi ma no rc rp rl ri hrc ac ai us ua hac cc cn ca cb hcc ((hD.sub (ws' := [(hM, .inr (4, [.int co, .int wi, .int ma, .int (nI rc), .ref np, .ref nd, .ref nl, .int (nI ac), .ref nk, .ref nu, .ref nt, .int (nI cc), .ref nc, .ref nf, .ref nb, .int no]))]) [0] (by decide) rfl).weaken (fun _ _ _ _ => trivial))) mc_MO_goes lk_MO_66 mi_MO_goes ms_MO_goes ni_MO rfl rfl (by decide +kernel) ⟨Nat.le_of_ble_eq_true rfl, Nat.le_of_ble_eq_true rfl⟩ (hP.sub (ws' := [(hM, .inr (4, [.int co, .int wi, .int ma, .int (nI rc), .ref np, .ref nd, .ref nl, .int (nI ac), .ref nk, .ref nu, .ref nt, .int (nI cc), .ref nc, .ref nf, .ref nb, .int no]))]) [0] rfl) (hK.sub (tys' := []) [] rfl) rfl rfl rfl hl.1 rfl (lv_room (Nat.le_of_ble_eq_true rfl)) d_MO_use_24 ⟨Nat.zero_le _, Nat.zero_le _⟩) hS (fun q _ h => zA_sub hD (wc := [(hM, .inr (4, [.int co, .int wi, .int ma, .int (nI rc), .ref np, .ref nd, .ref nl, .int (nI ac), .ref nk, .ref nu, .ref nt, .int (nI cc), .ref nc, .ref nf, .ref nb, .int no]))]) [0] rfl h) (fun q h => zA_sub hD (wc := [(hM, .inr (4, [.int co, .int wi, .int ma, .int (nI rc), .ref np, .ref nd, .ref nl, .int (nI ac), .ref nk, .ref nu, .ref nt, .int (nI cc), .ref nc, .ref nf, .ref nb, .int no]))]) [0] rfl h) (fun r_24 u t H1 locs1 ht hvm hw_24 hB hz hk9 hS => ?_)
        have hP1 : va_P (dC, dI) vwCl [(hM, .inr (4, [.int 0, .int wi, .int ma, .int (nI rc), .ref np, .ref nd, .ref nl, .int (nI ac), .ref nk, .ref nu, .ref nt, .int (nI cc), .ref nc, .ref nf, .ref nb, .int no]))] H1 := by
          have h9 : va_P (dC, dI) vwCl [(hM, .inr (4, [.int 0, .int wi, .int ma, .int (nI rc), .ref np, .ref nd, .ref nl, .int (nI ac), .ref nk, .ref nu, .ref nt, .int (nI cc), .ref nc, .ref nf, .ref nb, .int no]))] t.heap := hB
          rw [ht] at h9
          exact h9
        have hP : va_P (dC, dI) vwCl [(hM, .inr (4, [.int 0, .int wi, .int ma, .int (nI rc), .ref np, .ref nd, .ref nl, .int (nI ac), .ref nk, .ref nu, .ref nt, .int (nI cc), .ref nc, .ref nf, .ref nb, .int no])), (np, .inl (cMP, 40, .inl rp)), (nd, .inl (cMD, 40, .inl rl)), (nl, .inl (cML, 40, .inl ri)), (nk, .inl (cMI, 64, .inl ai)), (nu, .inl (cMU, 64, .inl us)), (nt, .inl (cMT, 512, .inl ua)), (nc, .inl (cMC, 100, .inr (.inl cn))), (nf, .inl (cMF, 100, .inl ca)), (nb, .inl (cMB, 100, .inl cb))] H1 := zj (wc := [(hM, .inr (4, [.int co, .int wi, .int ma, .int (nI rc), .ref np, .ref nd, .ref nl, .int (nI ac), .ref nk, .ref nu, .ref nt, .int (nI cc), .ref nc, .ref nf, .ref nb, .int no]))]) hP hD [0] rfl hP1 hk9 rfl rfl
        have hD : va_D A [(hM, .inr (4, [.int 0, .int wi, .int ma, .int (nI rc), .ref np, .ref nd, .ref nl, .int (nI ac), .ref nk, .ref nu, .ref nt, .int (nI cc), .ref nc, .ref nf, .ref nb, .int no])), (np, .inl (cMP, 40, .inl rp)), (nd, .inl (cMD, 40, .inl rl)), (nl, .inl (cML, 40, .inl ri)), (nk, .inl (cMI, 64, .inl ai)), (nu, .inl (cMU, 64, .inl us)), (nt, .inl (cMT, 512, .inl ua)), (nc, .inl (cMC, 100, .inr (.inl cn))), (nf, .inl (cMF, 100, .inl ca)), (nb, .inl (cMB, 100, .inl cb))] := zD_of (ws := [(hM, .inr (4, [.int co, .int wi, .int ma, .int (nI rc), .ref np, .ref nd, .ref nl, .int (nI ac), .ref nk, .ref nu, .ref nt, .int (nI cc), .ref nc, .ref nf, .ref nb, .int no])), (np, .inl (cMP, 40, .inl rp)), (nd, .inl (cMD, 40, .inl rl)), (nl, .inl (cML, 40, .inl ri)), (nk, .inl (cMI, 64, .inl ai)), (nu, .inl (cMU, 64, .inl us)), (nt, .inl (cMT, 512, .inl ua)), (nc, .inl (cMC, 100, .inr (.inl cn))), (nf, .inl (cMF, 100, .inl ca)), (nb, .inl (cMB, 100, .inl cb))]) rfl hD
        generalize H1 = H at hP hS ⊢
        subst hw_24
        refine lv_if_ne (tgt := 32) hx hb d_MO_use_27 (by decide) (fun c_27 => ?_) (fun c_27 => ?_)
        · refine lv_aload_n hx hb d_MO_use_32 rfl (lv_at hl 0 rfl) ?_
          refine lv_iload_n hx hb d_MO_use_33 rfl (lv_at hl 2 rfl) ?_
          refine va_put (D := (dC, dI)) (ci := 4) (v := .int T) (ty := .int) (C := R_MO) (T := T_MO) (N := 16) hx hb htB i_MO t_MO tk_MO n_MO hown hK hP hD hS 0 rfl rfl 15 (by decide) (htB _ lf_MO_94) (fun _ h9 => h9) rfl (by decide +kernel) rfl rfl (Nat.le_of_ble_eq_true rfl) d_MO_use_34 (fun H locs hP hD hS => ?_)
          have hP : va_P (dC, dI) vwCl [(hM, .inr (4, [.int 0, .int wi, .int ma, .int (nI rc), .ref np, .ref nd, .ref nl, .int (nI ac), .ref nk, .ref nu, .ref nt, .int (nI cc), .ref nc, .ref nf, .ref nb, .int T])), (np, .inl (cMP, 40, .inl rp)), (nd, .inl (cMD, 40, .inl rl)), (nl, .inl (cML, 40, .inl ri)), (nk, .inl (cMI, 64, .inl ai)), (nu, .inl (cMU, 64, .inl us)), (nt, .inl (cMT, 512, .inl ua)), (nc, .inl (cMC, 100, .inr (.inl cn))), (nf, .inl (cMF, 100, .inl ca)), (nb, .inl (cMB, 100, .inl cb))] H := hP
          have hD : va_D A [(hM, .inr (4, [.int 0, .int wi, .int ma, .int (nI rc), .ref np, .ref nd, .ref nl, .int (nI ac), .ref nk, .ref nu, .ref nt, .int (nI cc), .ref nc, .ref nf, .ref nb, .int T])), (np, .inl (cMP, 40, .inl rp)), (nd, .inl (cMD, 40, .inl rl)), (nl, .inl (cML, 40, .inl ri)), (nk, .inl (cMI, 64, .inl ai)), (nu, .inl (cMU, 64, .inl us)), (nt, .inl (cMT, 512, .inl ua)), (nc, .inl (cMC, 100, .inr (.inl cn))), (nf, .inl (cMF, 100, .inl ca)), (nb, .inl (cMB, 100, .inl cb))] := hD
          refine lv_aload_n hx hb d_MO_use_37 rfl (lv_at hl 0 rfl) ?_
          refine lv_lload_n hx hb d_MO_use_38 rfl (lv_at hl 1 rfl) ?_
          refine vp_callSi (va_Run.run (zr_V (n := 1) (As := [.long x]) (rest := []) CF (x_MO_routed l dC dI hM np nd nl nk nu nt nc nf nb cMP cMD cML cMI cMU cMT cMC cMF cMB 0 wi ma T rc rp rl ri hrc ac ai us ua hac cc cn ca cb hcc hrl x hn.1) mc_MO_routed lk_MO_78 mi_MO_routed ms_MO_routed ni_MO rfl rfl (by decide +kernel) ⟨Nat.le_of_ble_eq_true rfl, Nat.le_of_ble_eq_true rfl⟩ (hP.sub (ws' := [(hM, .inr (4, [.int 0, .int wi, .int ma, .int (nI rc), .ref np, .ref nd, .ref nl, .int (nI ac), .ref nk, .ref nu, .ref nt, .int (nI cc), .ref nc, .ref nf, .ref nb, .int T])), (np, .inl (cMP, 40, .inl rp)), (nd, .inl (cMD, 40, .inl rl)), (nl, .inl (cML, 40, .inl ri)), (nk, .inl (cMI, 64, .inl ai)), (nu, .inl (cMU, 64, .inl us)), (nt, .inl (cMT, 512, .inl ua)), (nc, .inl (cMC, 100, .inr (.inl cn))), (nf, .inl (cMF, 100, .inl ca)), (nb, .inl (cMB, 100, .inl cb))]) [0, 1, 2, 3, 4, 5, 6, 7, 8, 9] rfl) (hK.sub (tys' := [(cMP, .int), (cMD, .int), (cML, .int), (cMI, .int), (cMU, .int), (cMT, .int), (cMC, .long), (cMF, .int), (cMB, .boolean)]) [0, 1, 2, 3, 4, 5, 6, 7, 8] rfl) rfl rfl rfl hl.1 rfl (lv_room (Nat.le_of_ble_eq_true rfl)) d_MO_use_39 ⟨Nat.zero_le _, Nat.zero_le _⟩)) (fun r_39 h_39 => ?_)
          subst h_39
          refine lv_if_ge (tgt := 48) hx hb d_MO_use_42 (by decide) (fun c_42 => ?_) (fun c_42 => ?_)
          · have hI : ¬ zf_iss rc rp rl ri (zd_dg 19 (zd_N x)) (zd_N x) = -1 := (zf_iss_ge hri _ _).mp c_42
            refine lv_aload_n hx hb d_MO_use_48 rfl (lv_at hl 0 rfl) ?_
            refine lv_lload_n hx hb d_MO_use_49 rfl (lv_at hl 1 rfl) ?_
            refine vp_callSi (va_Run.run (zr_V (n := 1) (As := [.long x]) (rest := []) CF (c_MO_cardOf l dC dI hM np nd nl nk nu nt nc nf nb cMP cMD cML cMI cMU cMT cMC cMF cMB 0 wi ma T rc rp rl ri hrc ac ai us ua hac cc cn ca cb hcc hdist x) mc_MO_cardOf lk_MO_91 mi_MO_cardOf ms_MO_cardOf ni_MO rfl rfl (by decide +kernel) ⟨Nat.le_of_ble_eq_true rfl, Nat.le_of_ble_eq_true rfl⟩ (hP.sub (ws' := [(hM, .inr (4, [.int 0, .int wi, .int ma, .int (nI rc), .ref np, .ref nd, .ref nl, .int (nI ac), .ref nk, .ref nu, .ref nt, .int (nI cc), .ref nc, .ref nf, .ref nb, .int T])), (np, .inl (cMP, 40, .inl rp)), (nd, .inl (cMD, 40, .inl rl)), (nl, .inl (cML, 40, .inl ri)), (nk, .inl (cMI, 64, .inl ai)), (nu, .inl (cMU, 64, .inl us)), (nt, .inl (cMT, 512, .inl ua)), (nc, .inl (cMC, 100, .inr (.inl cn))), (nf, .inl (cMF, 100, .inl ca)), (nb, .inl (cMB, 100, .inl cb))]) [0, 1, 2, 3, 4, 5, 6, 7, 8, 9] rfl) (hK.sub (tys' := [(cMP, .int), (cMD, .int), (cML, .int), (cMI, .int), (cMU, .int), (cMT, .int), (cMC, .long), (cMF, .int), (cMB, .boolean)]) [0, 1, 2, 3, 4, 5, 6, 7, 8] rfl) rfl rfl rfl hl.1 rfl (lv_room (Nat.le_of_ble_eq_true rfl)) d_MO_use_50 ⟨Nat.zero_le _, Nat.zero_le _⟩)) (fun r_50 h_50 => ?_)
            subst h_50
            refine lv_istore (lv' := [(4, .int (zf_r (fun j => decide (cn j = x)) cc)), (0, .ref hM), (1, .long x), (3, .int T)]) hx hb d_MO_use_53 hl (by decide) rfl (fun ls hl => ?_)
            refine lv_iload hx hb d_MO_use_55 (lv_at hl 0 rfl) ?_
            refine lv_if_ge (tgt := 63) hx hb d_MO_use_57 (by decide) (fun c_57 => ?_) (fun c_57 => ?_)
            · have hix : zc_at cc cn x < cc := (zf_r_ge (by omega)).mp c_57
              have hle := zc_le cc cn x
              have b_69 : vp_in (nI (zc_at cc cn x)) 100 := vp_in_nI (by omega) (by omega)
              have b_82 := b_69
              refine lv_aload_n hx hb d_MO_use_63 rfl (lv_at hl 1 rfl) ?_
              refine va_get (D := (dC, dI)) (ci := 4) (v := .ref nb) (C := R_MO) (T := T_MO) (N := 16) hx hb htB i_MO hown hK hP 0 rfl rfl 14 (by decide) (htB _ lf_MO_35) (fun _ h9 => h9) rfl d_MO_use_64 ?_
              refine lv_iload hx hb d_MO_use_67 (lv_at hl 0 rfl) ?_
              rw [show (zf_r (fun j => decide (cn j = x)) cc : Int32) = nI (zc_at cc cn x) from if_pos hix]
              refine va_zald hx hb hK hP 9 8 rfl rfl b_69 d_MO_use_69 ?_
              rw [nI_clamp (n := (zc_at cc cn x)) (by omega)]
              refine lv_if_eq (tgt := 76) hx hb d_MO_use_70 (by decide) (fun c_70 => ?_) (fun c_70 => ?_)
              · have hB : cb (zc_at cc cn x) = 0 := c_70
                refine lv_aload_n hx hb d_MO_use_76 rfl (lv_at hl 1 rfl) ?_
                refine va_get (D := (dC, dI)) (ci := 4) (v := .ref nf) (C := R_MO) (T := T_MO) (N := 16) hx hb htB i_MO hown hK hP 0 rfl rfl 13 (by decide) (htB _ lf_MO_32) (fun _ h9 => h9) rfl d_MO_use_77 ?_
                refine lv_iload hx hb d_MO_use_80 (lv_at hl 0 rfl) ?_
                rw [show (zf_r (fun j => decide (cn j = x)) cc : Int32) = nI (zc_at cc cn x) from if_pos hix]
                refine va_iald hx hb hK hP 8 7 rfl rfl b_82 d_MO_use_82 ?_
                rw [nI_clamp (n := (zc_at cc cn x)) (by omega)]
                refine lv_istore (lv' := [(5, .int (ca (zc_at cc cn x))), (4, .int (zf_r (fun j => decide (cn j = x)) cc)), (0, .ref hM), (1, .long x), (3, .int T)]) hx hb d_MO_use_83 hl (by decide) rfl (fun ls hl => ?_)
                refine lv_aload_n hx hb d_MO_use_85 rfl (lv_at hl 2 rfl) ?_
                refine lv_iload hx hb d_MO_use_86 (lv_at hl 0 rfl) ?_
                refine lv_iload_n hx hb d_MO_use_88 rfl (lv_at hl 4 rfl) ?_
                refine vp_callSi (va_Run.run (zr_V (n := 2) (As := [.int (ca (zc_at cc cn x)), .int T]) (rest := []) CF (c_MO_since l dC dI hM np nd nl nk nu nt nc nf nb cMP cMD cML cMI cMU cMT cMC cMF cMB 0 wi ma T rc rp rl ri hrc ac ai us ua hac cc cn ca cb hcc (ca (zc_at cc cn x)) ⟨(hca _ hix).1, by have := (hca _ hix).2; omega⟩ (hus _ (by have := (zi_of (hca _ hix)).2; omega)) T) mc_MO_since lk_MO_97 mi_MO_since ms_MO_since ni_MO rfl rfl (by decide +kernel) ⟨Nat.le_of_ble_eq_true rfl, Nat.le_of_ble_eq_true rfl⟩ (hP.sub (ws' := [(hM, .inr (4, [.int 0, .int wi, .int ma, .int (nI rc), .ref np, .ref nd, .ref nl, .int (nI ac), .ref nk, .ref nu, .ref nt, .int (nI cc), .ref nc, .ref nf, .ref nb, .int T])), (np, .inl (cMP, 40, .inl rp)), (nd, .inl (cMD, 40, .inl rl)), (nl, .inl (cML, 40, .inl ri)), (nk, .inl (cMI, 64, .inl ai)), (nu, .inl (cMU, 64, .inl us)), (nt, .inl (cMT, 512, .inl ua)), (nc, .inl (cMC, 100, .inr (.inl cn))), (nf, .inl (cMF, 100, .inl ca)), (nb, .inl (cMB, 100, .inl cb))]) [0, 1, 2, 3, 4, 5, 6, 7, 8, 9] rfl) (hK.sub (tys' := [(cMP, .int), (cMD, .int), (cML, .int), (cMI, .int), (cMU, .int), (cMT, .int), (cMC, .long), (cMF, .int), (cMB, .boolean)]) [0, 1, 2, 3, 4, 5, 6, 7, 8] rfl) rfl rfl rfl hl.1 rfl (lv_room (Nat.le_of_ble_eq_true rfl)) d_MO_use_89 ⟨Nat.zero_le _, Nat.zero_le _⟩)) (fun r_89 h_89 => ?_)
                subst h_89
                refine lv_aload_n hx hb d_MO_use_92 rfl (lv_at hl 2 rfl) ?_
                refine va_get (D := (dC, dI)) (ci := 4) (v := .int ma) (C := R_MO) (T := T_MO) (N := 16) hx hb htB i_MO hown hK hP 0 rfl rfl 2 (by decide) (htB _ lf_MO_43) (fun _ h9 => h9) rfl d_MO_use_93 ?_
                refine lv_icmp_lt (tgt := 102) hx hb d_MO_use_96 (by decide) (fun c_96 => ?_) (fun c_96 => ?_)
                · have hlt : ¬ ma ≤ nI (zu_cnt ua (T - wi) (8 * zu_a cc cn ca x) (us (zu_a cc cn ca x)).toInt.toNat) := Int32.not_le.mpr c_96
                  have hA9 := zi_of (hca _ hix)
                  have eA : ca (zc_at cc cn x) = nI (zu_a cc cn ca x) := hA9.1
                  have hA : zu_a cc cn ca x < ac := hA9.2
                  rw [eA] at hl
                  obtain ⟨eu, hu9⟩ := zi_of (n := 9) (hus (zu_a cc cn ca x) (by omega))
                  obtain ⟨u, hue⟩ : ∃ u : Nat, zm_n us (zu_a cc cn ca x) = u := ⟨_, rfl⟩
                  rw [show (us (zu_a cc cn ca x)).toInt.toNat = u from hue] at eu hu9
                  have b_108 : vp_in (nI (zu_a cc cn ca x)) 64 := vp_in_nI (by omega) (by omega)
                  have b_184 := b_108
                  have b_195 := b_108
                  have b_198 := b_108
                  have b_165 := b_108
                  have b_168 := b_108
                  refine lv_aload_n hx hb d_MO_use_102 rfl (lv_at hl 2 rfl) ?_
                  refine va_get (D := (dC, dI)) (ci := 4) (v := .ref nu) (C := R_MO) (T := T_MO) (N := 16) hx hb htB i_MO hown hK hP 0 rfl rfl 9 (by decide) (htB _ lf_MO_22) (fun _ h9 => h9) rfl d_MO_use_103 ?_
                  refine lv_iload hx hb d_MO_use_106 (lv_at hl 0 rfl) ?_
                  refine va_iald hx hb hK hP 5 4 rfl rfl b_108 d_MO_use_108 ?_
                  rw [nI_clamp (n := (zu_a cc cn ca x)) (by omega)]
                  rw [show (us (zu_a cc cn ca x) : Int32) = nI u from eu]
                  refine lv_bipush (v := 8) hx hb d_MO_use_109 (by decide) ?_
                  refine lv_icmp_ne (tgt := 169) hx hb d_MO_use_111 (by decide) (fun c_111 => ?_) (fun c_111 => ?_)
                  · have h8 : ¬ u = 8 := fun h => c_111 (by rw [h]; rfl)
                    have b_187 : vp_in (nI (8 * zu_a cc cn ca x + u)) 512 := vp_in_nI (by omega) (by omega)
                    refine lv_aload_n hx hb d_MO_use_169 rfl (lv_at hl 2 rfl) ?_
                    refine va_get (D := (dC, dI)) (ci := 4) (v := .ref nt) (C := R_MO) (T := T_MO) (N := 16) hx hb htB i_MO hown hK hP 0 rfl rfl 10 (by decide) (htB _ lf_MO_25) (fun _ h9 => h9) rfl d_MO_use_170 ?_
                    refine lv_bipush (v := 8) hx hb d_MO_use_173 (by decide) ?_
                    refine lv_iload hx hb d_MO_use_175 (lv_at hl 0 rfl) ?_
                    refine lv_imul hx hb d_MO_use_177 ?_
                    rw [show (8 * (nI (zu_a cc cn ca x)) : Int32) = nI (8 * zu_a cc cn ca x) from pk_mul 8 _]
                    refine lv_aload_n hx hb d_MO_use_178 rfl (lv_at hl 2 rfl) ?_
                    refine va_get (D := (dC, dI)) (ci := 4) (v := .ref nu) (C := R_MO) (T := T_MO) (N := 16) hx hb htB i_MO hown hK hP 0 rfl rfl 9 (by decide) (htB _ lf_MO_22) (fun _ h9 => h9) rfl d_MO_use_179 ?_
                    refine lv_iload hx hb d_MO_use_182 (lv_at hl 0 rfl) ?_
                    refine va_iald hx hb hK hP 5 4 rfl rfl b_184 d_MO_use_184 ?_
                    rw [nI_clamp (n := (zu_a cc cn ca x)) (by omega)]
                    rw [show (us (zu_a cc cn ca x) : Int32) = nI u from eu]
                    refine lv_iadd hx hb d_MO_use_185 ?_
                    rw [show ((nI (8 * zu_a cc cn ca x)) + (nI u) : Int32) = nI (8 * zu_a cc cn ca x + u) from nI_add (8 * zu_a cc cn ca x) u]
                    refine lv_iload_n hx hb d_MO_use_186 rfl (lv_at hl 4 rfl) ?_
                    refine va_iast hx hb hK hP hD hS 6 5 rfl rfl b_187 d_MO_use_187 (fun H locs hP hD hS => ?_)
                    have hP : va_P (dC, dI) vwCl [(hM, .inr (4, [.int 0, .int wi, .int ma, .int (nI rc), .ref np, .ref nd, .ref nl, .int (nI ac), .ref nk, .ref nu, .ref nt, .int (nI cc), .ref nc, .ref nf, .ref nb, .int T])), (np, .inl (cMP, 40, .inl rp)), (nd, .inl (cMD, 40, .inl rl)), (nl, .inl (cML, 40, .inl ri)), (nk, .inl (cMI, 64, .inl ai)), (nu, .inl (cMU, 64, .inl us)), (nt, .inl (cMT, 512, .inl (upd ua (nI (8 * zu_a cc cn ca x + u)).toNatClampNeg T))), (nc, .inl (cMC, 100, .inr (.inl cn))), (nf, .inl (cMF, 100, .inl ca)), (nb, .inl (cMB, 100, .inl cb))] H := hP
                    have hD : va_D A [(hM, .inr (4, [.int 0, .int wi, .int ma, .int (nI rc), .ref np, .ref nd, .ref nl, .int (nI ac), .ref nk, .ref nu, .ref nt, .int (nI cc), .ref nc, .ref nf, .ref nb, .int T])), (np, .inl (cMP, 40, .inl rp)), (nd, .inl (cMD, 40, .inl rl)), (nl, .inl (cML, 40, .inl ri)), (nk, .inl (cMI, 64, .inl ai)), (nu, .inl (cMU, 64, .inl us)), (nt, .inl (cMT, 512, .inl (upd ua (nI (8 * zu_a cc cn ca x + u)).toNatClampNeg T))), (nc, .inl (cMC, 100, .inr (.inl cn))), (nf, .inl (cMF, 100, .inl ca)), (nb, .inl (cMB, 100, .inl cb))] := hD
                    rw [nI_clamp (n := (8 * zu_a cc cn ca x + u)) (by omega)] at hP hD
                    refine lv_aload_n hx hb d_MO_use_188 rfl (lv_at hl 2 rfl) ?_
                    refine va_get (D := (dC, dI)) (ci := 4) (v := .ref nu) (C := R_MO) (T := T_MO) (N := 16) hx hb htB i_MO hown hK hP 0 rfl rfl 9 (by decide) (htB _ lf_MO_22) (fun _ h9 => h9) rfl d_MO_use_189 ?_
                    refine lv_iload hx hb d_MO_use_192 (lv_at hl 0 rfl) ?_
                    refine lv_dup2_11 hx hb d_MO_use_194 rfl rfl ?_
                    refine va_iald hx hb hK hP 5 4 rfl rfl b_195 d_MO_use_195 ?_
                    rw [nI_clamp (n := (zu_a cc cn ca x)) (by omega)]
                    refine lv_iconst (v := 1) hx hb d_MO_use_196 (by decide) ?_
                    refine lv_iadd hx hb d_MO_use_197 ?_
                    refine va_iast hx hb hK hP hD hS 5 4 rfl rfl b_198 d_MO_use_198 (fun H locs hP hD hS => ?_)
                    have hP : va_P (dC, dI) vwCl [(hM, .inr (4, [.int 0, .int wi, .int ma, .int (nI rc), .ref np, .ref nd, .ref nl, .int (nI ac), .ref nk, .ref nu, .ref nt, .int (nI cc), .ref nc, .ref nf, .ref nb, .int T])), (np, .inl (cMP, 40, .inl rp)), (nd, .inl (cMD, 40, .inl rl)), (nl, .inl (cML, 40, .inl ri)), (nk, .inl (cMI, 64, .inl ai)), (nu, .inl (cMU, 64, .inl (upd us (nI (zu_a cc cn ca x)).toNatClampNeg ((us (zu_a cc cn ca x)) + 1)))), (nt, .inl (cMT, 512, .inl (upd ua (8 * zu_a cc cn ca x + u) T))), (nc, .inl (cMC, 100, .inr (.inl cn))), (nf, .inl (cMF, 100, .inl ca)), (nb, .inl (cMB, 100, .inl cb))] H := hP
                    have hD : va_D A [(hM, .inr (4, [.int 0, .int wi, .int ma, .int (nI rc), .ref np, .ref nd, .ref nl, .int (nI ac), .ref nk, .ref nu, .ref nt, .int (nI cc), .ref nc, .ref nf, .ref nb, .int T])), (np, .inl (cMP, 40, .inl rp)), (nd, .inl (cMD, 40, .inl rl)), (nl, .inl (cML, 40, .inl ri)), (nk, .inl (cMI, 64, .inl ai)), (nu, .inl (cMU, 64, .inl (upd us (nI (zu_a cc cn ca x)).toNatClampNeg ((us (zu_a cc cn ca x)) + 1)))), (nt, .inl (cMT, 512, .inl (upd ua (8 * zu_a cc cn ca x + u) T))), (nc, .inl (cMC, 100, .inr (.inl cn))), (nf, .inl (cMF, 100, .inl ca)), (nb, .inl (cMB, 100, .inl cb))] := hD
                    rw [nI_clamp (n := (zu_a cc cn ca x)) (by omega)] at hP hD
                    refine lv_iconst (v := 0) hx hb d_MO_use_199 (by decide) ?_
                    have e1 : upd us (zu_a cc cn ca x) ((us (zu_a cc cn ca x)) + 1) = upd us (zu_a cc cn ca x) (nI (zm_u (zm_n us (zu_a cc cn ca x)))) := by rw [hue, eu, zm_u, if_neg h8, nI_1]
                    have e2 : upd ua (8 * zu_a cc cn ca x + u) T = zm_ua ua (zu_a cc cn ca x) (zm_n us (zu_a cc cn ca x)) T := by rw [hue, zm_ua, if_neg h8]
                    rw [e1, e2] at hP
                    have hm9 : zm_c rc rp rl ri us ua cc cn ca cb wi ma x T = 0 := by unfold zm_c; rw [if_neg hI, if_neg (fun h => h hix), if_neg (fun h => h hB), if_neg hlt]
                    have hkk : zk_use no x T = 0 := by unfold zk_use; rw [if_pos hok]
                    exact W.iret (v := 0) hx hb hr (fun t ht hW => ⟨⟨_, (), rfl, by rw [hkk] <;> (show _ = zu_v (zm_c rc rp rl ri us ua cc cn ca cb wi ma x T); rw [hm9] <;> rfl), by show va_P _ _ _ t.heap; rw [ht, hkk]; rw [hm9]; exact hP⟩, hS.F ht⟩) hS.2.2 d_MO_use_200
                  · have h8 : u = 8 := (nI_eq (b := 8) (by omega) (by decide)).mp c_111
                    refine lv_iconst (v := 1) hx hb d_MO_use_114 (by decide) ?_
                    refine lv_istore (lv' := [(6, .int 1), (5, .int (nI (zu_a cc cn ca x))), (4, .int (zf_r (fun j => decide (cn j = x)) cc)), (0, .ref hM), (1, .long x), (3, .int T)]) hx hb d_MO_use_115 hl (by decide) rfl (fun ls hl => ?_)
                    have hw0 : va_D A [(hM, .inr (4, [.int 0, .int wi, .int ma, .int (nI rc), .ref np, .ref nd, .ref nl, .int (nI ac), .ref nk, .ref nu, .ref nt, .int (nI cc), .ref nc, .ref nf, .ref nb, .int T])), (np, .inl (cMP, 40, .inl rp)), (nd, .inl (cMD, 40, .inl rl)), (nl, .inl (cML, 40, .inl ri)), (nk, .inl (cMI, 64, .inl ai)), (nu, .inl (cMU, 64, .inl us)), (nt, .inl (cMT, 512, .inl ua)), (nc, .inl (cMC, 100, .inr (.inl cn))), (nf, .inl (cMF, 100, .inl ca)), (nb, .inl (cMB, 100, .inl cb))] := hD
                    have loop : ∀ (k i : Nat) (H : Heap) (locs : List Loc) (ls : Array Slot), i + k = 8 → 1 ≤ i → va_P (dC, dI) vwCl [(hM, .inr (4, [.int 0, .int wi, .int ma, .int (nI rc), .ref np, .ref nd, .ref nl, .int (nI ac), .ref nk, .ref nu, .ref nt, .int (nI cc), .ref nc, .ref nf, .ref nb, .int T])), (np, .inl (cMP, 40, .inl rp)), (nd, .inl (cMD, 40, .inl rl)), (nl, .inl (cML, 40, .inl ri)), (nk, .inl (cMI, 64, .inl ai)), (nu, .inl (cMU, 64, .inl us)), (nt, .inl (cMT, 512, .inl (zm_sh ua (zu_a cc cn ca x) i))), (nc, .inl (cMC, 100, .inr (.inl cn))), (nf, .inl (cMF, 100, .inl ca)), (nb, .inl (cMB, 100, .inl cb))] H → va_S A s.heap H locs → lv_has ls 7 [(6, .int (nI i)), (5, .int (nI (zu_a cc cn ca x))), (0, .ref hM), (1, .long x), (3, .int T)] → W p l e (headSpec (zw y_MO_use b_MO_use 7 (some .int)) ({ frames := 3, cells := 0, slots := 0, locals := 74 })).room s m ([.ref hM, .long x, .int T] : List Value).toArray below meth c H locs 0 0 (MQ below (va_Qi (fun (r : Int32) (_ : Unit) => r = (if zk_use no x T = 0 then zu_v (zm_c rc rp rl ri us ua cc cn ca cb wi ma x T) else 0)) (fun (_ : Unit) (t : State) => va_P (dC, dI) vwCl [(hM, .inr (4, [.int (nI (zk_use no x T)), .int wi, .int ma, .int (nI rc), .ref np, .ref nd, .ref nl, .int (nI ac), .ref nk, .ref nu, .ref nt, .int (nI cc), .ref nc, .ref nf, .ref nb, .int (if zk_use no x T = 0 then T else no)])), (np, .inl (cMP, 40, .inl rp)), (nd, .inl (cMD, 40, .inl rl)), (nl, .inl (cML, 40, .inl ri)), (nk, .inl (cMI, 64, .inl ai)), (nu, .inl (cMU, 64, .inl (if zk_use no x T = 0 then (if zm_c rc rp rl ri us ua cc cn ca cb wi ma x T = 0 then upd us (zu_a cc cn ca x) (nI (zm_u (zm_n us (zu_a cc cn ca x)))) else us) else us))), (nt, .inl (cMT, 512, .inl (if zk_use no x T = 0 then (if zm_c rc rp rl ri us ua cc cn ca cb wi ma x T = 0 then zm_ua ua (zu_a cc cn ca x) (zm_n us (zu_a cc cn ca x)) T else ua) else ua))), (nc, .inl (cMC, 100, .inr (.inl cn))), (nf, .inl (cMF, 100, .inl ca)), (nb, .inl (cMB, 100, .inl cb))] t.heap) A) ([.ref hM, .long x, .int T] : List Value).toArray s 0 0 A) (F0 m 117 ls []) := by
                      intro k
                      induction k with
                      | zero =>
                        intro i H locs ls hi h1i hP hS hl
                        have hD : va_D A [(hM, .inr (4, [.int 0, .int wi, .int ma, .int (nI rc), .ref np, .ref nd, .ref nl, .int (nI ac), .ref nk, .ref nu, .ref nt, .int (nI cc), .ref nc, .ref nf, .ref nb, .int T])), (np, .inl (cMP, 40, .inl rp)), (nd, .inl (cMD, 40, .inl rl)), (nl, .inl (cML, 40, .inl ri)), (nk, .inl (cMI, 64, .inl ai)), (nu, .inl (cMU, 64, .inl us)), (nt, .inl (cMT, 512, .inl (zm_sh ua (zu_a cc cn ca x) i))), (nc, .inl (cMC, 100, .inr (.inl cn))), (nf, .inl (cMF, 100, .inl ca)), (nb, .inl (cMB, 100, .inl cb))] := zD_of (ws := [(hM, .inr (4, [.int 0, .int wi, .int ma, .int (nI rc), .ref np, .ref nd, .ref nl, .int (nI ac), .ref nk, .ref nu, .ref nt, .int (nI cc), .ref nc, .ref nf, .ref nb, .int T])), (np, .inl (cMP, 40, .inl rp)), (nd, .inl (cMD, 40, .inl rl)), (nl, .inl (cML, 40, .inl ri)), (nk, .inl (cMI, 64, .inl ai)), (nu, .inl (cMU, 64, .inl us)), (nt, .inl (cMT, 512, .inl ua)), (nc, .inl (cMC, 100, .inr (.inl cn))), (nf, .inl (cMF, 100, .inl ca)), (nb, .inl (cMB, 100, .inl cb))]) rfl hw0
                        have ei : i = 8 := by omega
                        subst ei
                        refine lv_iload hx hb d_MO_use_117 (lv_at hl 0 rfl) ?_
                        refine lv_bipush (v := 8) hx hb d_MO_use_119 (by decide) ?_
                        refine lv_icmp_ge (tgt := 158) hx hb d_MO_use_121 (by decide) (fun c_121 => ?_) (fun c_121 => ?_)
                        · refine lv_aload_n hx hb d_MO_use_158 rfl (lv_at hl 2 rfl) ?_
                          refine va_get (D := (dC, dI)) (ci := 4) (v := .ref nu) (C := R_MO) (T := T_MO) (N := 16) hx hb htB i_MO hown hK hP 0 rfl rfl 9 (by decide) (htB _ lf_MO_22) (fun _ h9 => h9) rfl d_MO_use_159 ?_
                          refine lv_iload hx hb d_MO_use_162 (lv_at hl 1 rfl) ?_
                          refine lv_dup2_11 hx hb d_MO_use_164 rfl rfl ?_
                          refine va_iald hx hb hK hP 5 4 rfl rfl b_165 d_MO_use_165 ?_
                          rw [nI_clamp (n := (zu_a cc cn ca x)) (by omega)]
                          refine lv_iconst (v := 1) hx hb d_MO_use_166 (by decide) ?_
                          refine lv_isub hx hb d_MO_use_167 ?_
                          refine va_iast hx hb hK hP hD hS 5 4 rfl rfl b_168 d_MO_use_168 (fun H locs hP hD hS => ?_)
                          have hP : va_P (dC, dI) vwCl [(hM, .inr (4, [.int 0, .int wi, .int ma, .int (nI rc), .ref np, .ref nd, .ref nl, .int (nI ac), .ref nk, .ref nu, .ref nt, .int (nI cc), .ref nc, .ref nf, .ref nb, .int T])), (np, .inl (cMP, 40, .inl rp)), (nd, .inl (cMD, 40, .inl rl)), (nl, .inl (cML, 40, .inl ri)), (nk, .inl (cMI, 64, .inl ai)), (nu, .inl (cMU, 64, .inl (upd us (nI (zu_a cc cn ca x)).toNatClampNeg ((us (zu_a cc cn ca x)) - 1)))), (nt, .inl (cMT, 512, .inl (zm_sh ua (zu_a cc cn ca x) 8))), (nc, .inl (cMC, 100, .inr (.inl cn))), (nf, .inl (cMF, 100, .inl ca)), (nb, .inl (cMB, 100, .inl cb))] H := hP
                          have hD : va_D A [(hM, .inr (4, [.int 0, .int wi, .int ma, .int (nI rc), .ref np, .ref nd, .ref nl, .int (nI ac), .ref nk, .ref nu, .ref nt, .int (nI cc), .ref nc, .ref nf, .ref nb, .int T])), (np, .inl (cMP, 40, .inl rp)), (nd, .inl (cMD, 40, .inl rl)), (nl, .inl (cML, 40, .inl ri)), (nk, .inl (cMI, 64, .inl ai)), (nu, .inl (cMU, 64, .inl (upd us (nI (zu_a cc cn ca x)).toNatClampNeg ((us (zu_a cc cn ca x)) - 1)))), (nt, .inl (cMT, 512, .inl (zm_sh ua (zu_a cc cn ca x) 8))), (nc, .inl (cMC, 100, .inr (.inl cn))), (nf, .inl (cMF, 100, .inl ca)), (nb, .inl (cMB, 100, .inl cb))] := hD
                          rw [nI_clamp (n := (zu_a cc cn ca x)) (by omega)] at hP hD
                          have b_187 : vp_in (nI (8 * zu_a cc cn ca x + 7)) 512 := vp_in_nI (by omega) (by omega)
                          refine lv_aload_n hx hb d_MO_use_169 rfl (lv_at hl 2 rfl) ?_
                          refine va_get (D := (dC, dI)) (ci := 4) (v := .ref nt) (C := R_MO) (T := T_MO) (N := 16) hx hb htB i_MO hown hK hP 0 rfl rfl 10 (by decide) (htB _ lf_MO_25) (fun _ h9 => h9) rfl d_MO_use_170 ?_
                          refine lv_bipush (v := 8) hx hb d_MO_use_173 (by decide) ?_
                          refine lv_iload hx hb d_MO_use_175 (lv_at hl 1 rfl) ?_
                          refine lv_imul hx hb d_MO_use_177 ?_
                          rw [show (8 * (nI (zu_a cc cn ca x)) : Int32) = nI (8 * zu_a cc cn ca x) from pk_mul 8 _]
                          refine lv_aload_n hx hb d_MO_use_178 rfl (lv_at hl 2 rfl) ?_
                          refine va_get (D := (dC, dI)) (ci := 4) (v := .ref nu) (C := R_MO) (T := T_MO) (N := 16) hx hb htB i_MO hown hK hP 0 rfl rfl 9 (by decide) (htB _ lf_MO_22) (fun _ h9 => h9) rfl d_MO_use_179 ?_
                          refine lv_iload hx hb d_MO_use_182 (lv_at hl 1 rfl) ?_
                          refine va_iald hx hb hK hP 5 4 rfl rfl b_184 d_MO_use_184 ?_
                          rw [nI_clamp (n := (zu_a cc cn ca x)) (by omega)]
                          rw [show ((upd us (zu_a cc cn ca x) ((us (zu_a cc cn ca x)) - 1)) (zu_a cc cn ca x) : Int32) = nI 7 from by rw [pk_us, eu, h8]; rfl]
                          refine lv_iadd hx hb d_MO_use_185 ?_
                          rw [show ((nI (8 * zu_a cc cn ca x)) + (nI 7) : Int32) = nI (8 * zu_a cc cn ca x + 7) from nI_add (8 * zu_a cc cn ca x) 7]
                          refine lv_iload_n hx hb d_MO_use_186 rfl (lv_at hl 4 rfl) ?_
                          refine va_iast hx hb hK hP hD hS 6 5 rfl rfl b_187 d_MO_use_187 (fun H locs hP hD hS => ?_)
                          have hP : va_P (dC, dI) vwCl [(hM, .inr (4, [.int 0, .int wi, .int ma, .int (nI rc), .ref np, .ref nd, .ref nl, .int (nI ac), .ref nk, .ref nu, .ref nt, .int (nI cc), .ref nc, .ref nf, .ref nb, .int T])), (np, .inl (cMP, 40, .inl rp)), (nd, .inl (cMD, 40, .inl rl)), (nl, .inl (cML, 40, .inl ri)), (nk, .inl (cMI, 64, .inl ai)), (nu, .inl (cMU, 64, .inl (upd us (zu_a cc cn ca x) ((us (zu_a cc cn ca x)) - 1)))), (nt, .inl (cMT, 512, .inl (upd (zm_sh ua (zu_a cc cn ca x) 8) (nI (8 * zu_a cc cn ca x + 7)).toNatClampNeg T))), (nc, .inl (cMC, 100, .inr (.inl cn))), (nf, .inl (cMF, 100, .inl ca)), (nb, .inl (cMB, 100, .inl cb))] H := hP
                          have hD : va_D A [(hM, .inr (4, [.int 0, .int wi, .int ma, .int (nI rc), .ref np, .ref nd, .ref nl, .int (nI ac), .ref nk, .ref nu, .ref nt, .int (nI cc), .ref nc, .ref nf, .ref nb, .int T])), (np, .inl (cMP, 40, .inl rp)), (nd, .inl (cMD, 40, .inl rl)), (nl, .inl (cML, 40, .inl ri)), (nk, .inl (cMI, 64, .inl ai)), (nu, .inl (cMU, 64, .inl (upd us (zu_a cc cn ca x) ((us (zu_a cc cn ca x)) - 1)))), (nt, .inl (cMT, 512, .inl (upd (zm_sh ua (zu_a cc cn ca x) 8) (nI (8 * zu_a cc cn ca x + 7)).toNatClampNeg T))), (nc, .inl (cMC, 100, .inr (.inl cn))), (nf, .inl (cMF, 100, .inl ca)), (nb, .inl (cMB, 100, .inl cb))] := hD
                          rw [nI_clamp (n := (8 * zu_a cc cn ca x + 7)) (by omega)] at hP hD
                          refine lv_aload_n hx hb d_MO_use_188 rfl (lv_at hl 2 rfl) ?_
                          refine va_get (D := (dC, dI)) (ci := 4) (v := .ref nu) (C := R_MO) (T := T_MO) (N := 16) hx hb htB i_MO hown hK hP 0 rfl rfl 9 (by decide) (htB _ lf_MO_22) (fun _ h9 => h9) rfl d_MO_use_189 ?_
                          refine lv_iload hx hb d_MO_use_192 (lv_at hl 1 rfl) ?_
                          refine lv_dup2_11 hx hb d_MO_use_194 rfl rfl ?_
                          refine va_iald hx hb hK hP 5 4 rfl rfl b_195 d_MO_use_195 ?_
                          rw [nI_clamp (n := (zu_a cc cn ca x)) (by omega)]
                          refine lv_iconst (v := 1) hx hb d_MO_use_196 (by decide) ?_
                          refine lv_iadd hx hb d_MO_use_197 ?_
                          refine va_iast hx hb hK hP hD hS 5 4 rfl rfl b_198 d_MO_use_198 (fun H locs hP hD hS => ?_)
                          have hP : va_P (dC, dI) vwCl [(hM, .inr (4, [.int 0, .int wi, .int ma, .int (nI rc), .ref np, .ref nd, .ref nl, .int (nI ac), .ref nk, .ref nu, .ref nt, .int (nI cc), .ref nc, .ref nf, .ref nb, .int T])), (np, .inl (cMP, 40, .inl rp)), (nd, .inl (cMD, 40, .inl rl)), (nl, .inl (cML, 40, .inl ri)), (nk, .inl (cMI, 64, .inl ai)), (nu, .inl (cMU, 64, .inl (upd (upd us (zu_a cc cn ca x) ((us (zu_a cc cn ca x)) - 1)) (nI (zu_a cc cn ca x)).toNatClampNeg (((upd us (zu_a cc cn ca x) ((us (zu_a cc cn ca x)) - 1)) (zu_a cc cn ca x)) + 1)))), (nt, .inl (cMT, 512, .inl (upd (zm_sh ua (zu_a cc cn ca x) 8) (8 * zu_a cc cn ca x + 7) T))), (nc, .inl (cMC, 100, .inr (.inl cn))), (nf, .inl (cMF, 100, .inl ca)), (nb, .inl (cMB, 100, .inl cb))] H := hP
                          have hD : va_D A [(hM, .inr (4, [.int 0, .int wi, .int ma, .int (nI rc), .ref np, .ref nd, .ref nl, .int (nI ac), .ref nk, .ref nu, .ref nt, .int (nI cc), .ref nc, .ref nf, .ref nb, .int T])), (np, .inl (cMP, 40, .inl rp)), (nd, .inl (cMD, 40, .inl rl)), (nl, .inl (cML, 40, .inl ri)), (nk, .inl (cMI, 64, .inl ai)), (nu, .inl (cMU, 64, .inl (upd (upd us (zu_a cc cn ca x) ((us (zu_a cc cn ca x)) - 1)) (nI (zu_a cc cn ca x)).toNatClampNeg (((upd us (zu_a cc cn ca x) ((us (zu_a cc cn ca x)) - 1)) (zu_a cc cn ca x)) + 1)))), (nt, .inl (cMT, 512, .inl (upd (zm_sh ua (zu_a cc cn ca x) 8) (8 * zu_a cc cn ca x + 7) T))), (nc, .inl (cMC, 100, .inr (.inl cn))), (nf, .inl (cMF, 100, .inl ca)), (nb, .inl (cMB, 100, .inl cb))] := hD
                          rw [nI_clamp (n := (zu_a cc cn ca x)) (by omega)] at hP hD
                          refine lv_iconst (v := 0) hx hb d_MO_use_199 (by decide) ?_
                          have e1 : upd (upd us (zu_a cc cn ca x) ((us (zu_a cc cn ca x)) - 1)) (zu_a cc cn ca x) (((upd us (zu_a cc cn ca x) ((us (zu_a cc cn ca x)) - 1)) (zu_a cc cn ca x)) + 1) = upd us (zu_a cc cn ca x) (nI (zm_u (zm_n us (zu_a cc cn ca x)))) := by rw [zm_uu, pk_us, hue, eu, h8]; rfl
                          have e2 : upd (zm_sh ua (zu_a cc cn ca x) 8) (8 * zu_a cc cn ca x + 7) T = zm_ua ua (zu_a cc cn ca x) (zm_n us (zu_a cc cn ca x)) T := by rw [hue, zm_ua, if_pos h8]
                          rw [e1, e2] at hP
                          have hm9 : zm_c rc rp rl ri us ua cc cn ca cb wi ma x T = 0 := by unfold zm_c; rw [if_neg hI, if_neg (fun h => h hix), if_neg (fun h => h hB), if_neg hlt]
                          have hkk : zk_use no x T = 0 := by unfold zk_use; rw [if_pos hok]
                          exact W.iret (v := 0) hx hb hr (fun t ht hW => ⟨⟨_, (), rfl, by rw [hkk] <;> (show _ = zu_v (zm_c rc rp rl ri us ua cc cn ca cb wi ma x T); rw [hm9] <;> rfl), by show va_P _ _ _ t.heap; rw [ht, hkk]; rw [hm9]; exact hP⟩, hS.F ht⟩) hS.2.2 d_MO_use_200
                        · exact absurd (show nI 8 ≤ nI 8 from nI_le (Nat.le_refl 8) (by decide)) c_121
                      | succ k ih =>
                        intro i H locs ls hi h1i hP hS hl
                        have hD : va_D A [(hM, .inr (4, [.int 0, .int wi, .int ma, .int (nI rc), .ref np, .ref nd, .ref nl, .int (nI ac), .ref nk, .ref nu, .ref nt, .int (nI cc), .ref nc, .ref nf, .ref nb, .int T])), (np, .inl (cMP, 40, .inl rp)), (nd, .inl (cMD, 40, .inl rl)), (nl, .inl (cML, 40, .inl ri)), (nk, .inl (cMI, 64, .inl ai)), (nu, .inl (cMU, 64, .inl us)), (nt, .inl (cMT, 512, .inl (zm_sh ua (zu_a cc cn ca x) i))), (nc, .inl (cMC, 100, .inr (.inl cn))), (nf, .inl (cMF, 100, .inl ca)), (nb, .inl (cMB, 100, .inl cb))] := zD_of (ws := [(hM, .inr (4, [.int 0, .int wi, .int ma, .int (nI rc), .ref np, .ref nd, .ref nl, .int (nI ac), .ref nk, .ref nu, .ref nt, .int (nI cc), .ref nc, .ref nf, .ref nb, .int T])), (np, .inl (cMP, 40, .inl rp)), (nd, .inl (cMD, 40, .inl rl)), (nl, .inl (cML, 40, .inl ri)), (nk, .inl (cMI, 64, .inl ai)), (nu, .inl (cMU, 64, .inl us)), (nt, .inl (cMT, 512, .inl ua)), (nc, .inl (cMC, 100, .inr (.inl cn))), (nf, .inl (cMF, 100, .inl ca)), (nb, .inl (cMB, 100, .inl cb))]) rfl hw0
                        have b_150 : vp_in (nI (8 * zu_a cc cn ca x + i)) 512 := vp_in_nI (by omega) (by omega)
                        have b_151 : vp_in (nI (8 * zu_a cc cn ca x + i - 1)) 512 := vp_in_nI (by omega) (by omega)
                        refine lv_iload hx hb d_MO_use_117 (lv_at hl 0 rfl) ?_
                        refine lv_bipush (v := 8) hx hb d_MO_use_119 (by decide) ?_
                        refine lv_icmp_ge (tgt := 158) hx hb d_MO_use_121 (by decide) (fun c_121 => ?_) (fun c_121 => ?_)
                        · exact absurd c_121 (show ¬ nI 8 ≤ nI i from nI_ge (by omega) (by omega))
                        · refine lv_aload_n hx hb d_MO_use_124 rfl (lv_at hl 2 rfl) ?_
                          refine va_get (D := (dC, dI)) (ci := 4) (v := .ref nt) (C := R_MO) (T := T_MO) (N := 16) hx hb htB i_MO hown hK hP 0 rfl rfl 10 (by decide) (htB _ lf_MO_25) (fun _ h9 => h9) rfl d_MO_use_125 ?_
                          refine lv_bipush (v := 8) hx hb d_MO_use_128 (by decide) ?_
                          refine lv_iload hx hb d_MO_use_130 (lv_at hl 1 rfl) ?_
                          refine lv_imul hx hb d_MO_use_132 ?_
                          rw [show (8 * (nI (zu_a cc cn ca x)) : Int32) = nI (8 * zu_a cc cn ca x) from pk_mul 8 _]
                          refine lv_iload hx hb d_MO_use_133 (lv_at hl 0 rfl) ?_
                          refine lv_iadd hx hb d_MO_use_135 ?_
                          rw [show ((nI (8 * zu_a cc cn ca x)) + (nI i) : Int32) = nI (8 * zu_a cc cn ca x + i) from nI_add (8 * zu_a cc cn ca x) i]
                          refine lv_iconst (v := 1) hx hb d_MO_use_136 (by decide) ?_
                          refine lv_isub hx hb d_MO_use_137 ?_
                          rw [show ((nI (8 * zu_a cc cn ca x + i)) - 1 : Int32) = nI (8 * zu_a cc cn ca x + i - 1) from pk_sub (show 1 ≤ 8 * zu_a cc cn ca x + i by omega)]
                          refine lv_aload_n hx hb d_MO_use_138 rfl (lv_at hl 2 rfl) ?_
                          refine va_get (D := (dC, dI)) (ci := 4) (v := .ref nt) (C := R_MO) (T := T_MO) (N := 16) hx hb htB i_MO hown hK hP 0 rfl rfl 10 (by decide) (htB _ lf_MO_25) (fun _ h9 => h9) rfl d_MO_use_139 ?_
                          refine lv_bipush (v := 8) hx hb d_MO_use_142 (by decide) ?_
                          refine lv_iload hx hb d_MO_use_144 (lv_at hl 1 rfl) ?_
                          refine lv_imul hx hb d_MO_use_146 ?_
                          rw [show (8 * (nI (zu_a cc cn ca x)) : Int32) = nI (8 * zu_a cc cn ca x) from pk_mul 8 _]
                          refine lv_iload hx hb d_MO_use_147 (lv_at hl 0 rfl) ?_
                          refine lv_iadd hx hb d_MO_use_149 ?_
                          rw [show ((nI (8 * zu_a cc cn ca x)) + (nI i) : Int32) = nI (8 * zu_a cc cn ca x + i) from nI_add (8 * zu_a cc cn ca x) i]
                          refine va_iald hx hb hK hP 6 5 rfl rfl b_150 d_MO_use_150 ?_
                          rw [nI_clamp (n := (8 * zu_a cc cn ca x + i)) (by omega)]
                          refine va_iast hx hb hK hP hD hS 6 5 rfl rfl b_151 d_MO_use_151 (fun H locs hP hD hS => ?_)
                          have hP : va_P (dC, dI) vwCl [(hM, .inr (4, [.int 0, .int wi, .int ma, .int (nI rc), .ref np, .ref nd, .ref nl, .int (nI ac), .ref nk, .ref nu, .ref nt, .int (nI cc), .ref nc, .ref nf, .ref nb, .int T])), (np, .inl (cMP, 40, .inl rp)), (nd, .inl (cMD, 40, .inl rl)), (nl, .inl (cML, 40, .inl ri)), (nk, .inl (cMI, 64, .inl ai)), (nu, .inl (cMU, 64, .inl us)), (nt, .inl (cMT, 512, .inl (upd (zm_sh ua (zu_a cc cn ca x) i) (nI (8 * zu_a cc cn ca x + i - 1)).toNatClampNeg ((zm_sh ua (zu_a cc cn ca x) i) (8 * zu_a cc cn ca x + i))))), (nc, .inl (cMC, 100, .inr (.inl cn))), (nf, .inl (cMF, 100, .inl ca)), (nb, .inl (cMB, 100, .inl cb))] H := hP
                          have hD : va_D A [(hM, .inr (4, [.int 0, .int wi, .int ma, .int (nI rc), .ref np, .ref nd, .ref nl, .int (nI ac), .ref nk, .ref nu, .ref nt, .int (nI cc), .ref nc, .ref nf, .ref nb, .int T])), (np, .inl (cMP, 40, .inl rp)), (nd, .inl (cMD, 40, .inl rl)), (nl, .inl (cML, 40, .inl ri)), (nk, .inl (cMI, 64, .inl ai)), (nu, .inl (cMU, 64, .inl us)), (nt, .inl (cMT, 512, .inl (upd (zm_sh ua (zu_a cc cn ca x) i) (nI (8 * zu_a cc cn ca x + i - 1)).toNatClampNeg ((zm_sh ua (zu_a cc cn ca x) i) (8 * zu_a cc cn ca x + i))))), (nc, .inl (cMC, 100, .inr (.inl cn))), (nf, .inl (cMF, 100, .inl ca)), (nb, .inl (cMB, 100, .inl cb))] := hD
                          rw [nI_clamp (n := (8 * zu_a cc cn ca x + i - 1)) (by omega)] at hP hD
                          refine lv_iinc (v := (nI i) + 1) (lv' := [(6, .int ((nI i) + 1)), (5, .int (nI (zu_a cc cn ca x))), (0, .ref hM), (1, .long x), (3, .int T)]) hx hb d_MO_use_152 hl (k := 0) rfl rfl (by decide) rfl (fun ls hl => ?_)
                          refine lv_goto (tgt := 117) hx hb d_MO_use_155 (by decide) ?_
                          rw [zm_shS _ _ _ h1i] at hP
                          rw [nI_1] at hl
                          exact ih (i + 1) _ _ ls (by omega) (by omega) hP hS (lv_sub hl [0, 1, 2, 3, 4] rfl)
                    refine loop 7 1 H _ ls (by omega) (by omega) ?_ hS (lv_sub hl [0, 1, 3, 4, 5] rfl)
                    rw [zm_sh1]
                    exact hP
                · have hge : ma ≤ nI (zu_cnt ua (T - wi) (8 * zu_a cc cn ca x) (us (zu_a cc cn ca x)).toInt.toNat) := Int32.not_lt.mp c_96
                  refine lv_bipush (v := 65) hx hb d_MO_use_99 (by decide) ?_
                  have hm9 : zm_c rc rp rl ri us ua cc cn ca cb wi ma x T = 4 := by unfold zm_c; rw [if_neg hI, if_neg (fun h => h hix), if_neg (fun h => h hB), if_pos hge]
                  have hkk : zk_use no x T = 0 := by unfold zk_use; rw [if_pos hok]
                  exact W.iret (v := 65) hx hb hr (fun t ht hW => ⟨⟨_, (), rfl, by rw [hkk] <;> (show _ = zu_v (zm_c rc rp rl ri us ua cc cn ca cb wi ma x T); rw [hm9] <;> rfl), by show va_P _ _ _ t.heap; rw [ht, hkk]; rw [hm9]; exact hP⟩, hS.F ht⟩) hS.2.2 d_MO_use_101
              · have hB : ¬ cb (zc_at cc cn x) = 0 := c_70
                refine lv_bipush (v := 62) hx hb d_MO_use_73 (by decide) ?_
                have hm9 : zm_c rc rp rl ri us ua cc cn ca cb wi ma x T = 3 := by unfold zm_c; rw [if_neg hI, if_neg (fun h => h hix), if_pos hB]
                have hkk : zk_use no x T = 0 := by unfold zk_use; rw [if_pos hok]
                exact W.iret (v := 62) hx hb hr (fun t ht hW => ⟨⟨_, (), rfl, by rw [hkk] <;> (show _ = zu_v (zm_c rc rp rl ri us ua cc cn ca cb wi ma x T); rw [hm9] <;> rfl), by show va_P _ _ _ t.heap; rw [ht, hkk]; rw [hm9]; exact hP⟩, hS.F ht⟩) hS.2.2 d_MO_use_75
            · have hix : ¬ zc_at cc cn x < cc := fun h => c_57 ((zf_r_ge (by omega)).mpr h)
              refine lv_bipush (v := 14) hx hb d_MO_use_60 (by decide) ?_
              have hm9 : zm_c rc rp rl ri us ua cc cn ca cb wi ma x T = 2 := by unfold zm_c; rw [if_neg hI, if_pos hix]
              have hkk : zk_use no x T = 0 := by unfold zk_use; rw [if_pos hok]
              exact W.iret (v := 14) hx hb hr (fun t ht hW => ⟨⟨_, (), rfl, by rw [hkk] <;> (show _ = zu_v (zm_c rc rp rl ri us ua cc cn ca cb wi ma x T); rw [hm9] <;> rfl), by show va_P _ _ _ t.heap; rw [ht, hkk]; rw [hm9]; exact hP⟩, hS.F ht⟩) hS.2.2 d_MO_use_62
          · have hI : zf_iss rc rp rl ri (zd_dg 19 (zd_N x)) (zd_N x) = -1 := Classical.byContradiction fun h => c_42 ((zf_iss_ge hri _ _).mpr h)
            refine lv_bipush (v := 92) hx hb d_MO_use_45 (by decide) ?_
            have hm9 : zm_c rc rp rl ri us ua cc cn ca cb wi ma x T = 1 := by unfold zm_c; rw [if_pos hI]
            have hkk : zk_use no x T = 0 := by unfold zk_use; rw [if_pos hok]
            exact W.iret (v := 92) hx hb hr (fun t ht hW => ⟨⟨_, (), rfl, by rw [hkk] <;> (show _ = zu_v (zm_c rc rp rl ri us ua cc cn ca cb wi ma x T); rw [hm9] <;> rfl), by show va_P _ _ _ t.heap; rw [ht, hkk]; rw [hm9]; exact hP⟩, hS.F ht⟩) hS.2.2 d_MO_use_47
        · exact absurd c_27 (by decide)
  · rw [if_neg hn] at h_4
    subst h_4
    have hno : ¬ (zok_D x 1 18 ∧ no ≤ T) := fun h => hn h.1
    refine lv_if_eq (tgt := 22) hx hb d_MO_use_7 (by decide) (fun c_7 => ?_) (fun c_7 => ?_)
    · refine lv_iconst (v := 0) hx hb d_MO_use_22 (by decide) ?_
      refine lv_iconst (v := 1) hx hb d_MO_use_23 (by decide) ?_
      refine va_calli (zr_V (n := 2) (As := [.int 0, .int 1]) (rest := []) CF (c_MO_goes_a l dC dI hM np nd nl nk nu nt nc nf nb cMP cMD cML cMI cMU cMT cMC cMF cMB co wi ma no rc rp rl ri hrc ac ai us ua hac cc cn ca cb hcc 1 ((hD.sub (ws' := [(hM, .inr (4, [.int co, .int wi, .int ma, .int (nI rc), .ref np, .ref nd, .ref nl, .int (nI ac), .ref nk, .ref nu, .ref nt, .int (nI cc), .ref nc, .ref nf, .ref nb, .int no]))]) [0] (by decide) rfl).weaken (fun _ _ _ _ => trivial))) mc_MO_goes lk_MO_66 mi_MO_goes ms_MO_goes ni_MO rfl rfl (by decide +kernel) ⟨Nat.le_of_ble_eq_true rfl, Nat.le_of_ble_eq_true rfl⟩ (hP.sub (ws' := [(hM, .inr (4, [.int co, .int wi, .int ma, .int (nI rc), .ref np, .ref nd, .ref nl, .int (nI ac), .ref nk, .ref nu, .ref nt, .int (nI cc), .ref nc, .ref nf, .ref nb, .int no]))]) [0] rfl) (hK.sub (tys' := []) [] rfl) rfl rfl rfl hl.1 rfl (lv_room (Nat.le_of_ble_eq_true rfl)) d_MO_use_24 ⟨Nat.zero_le _, Nat.zero_le _⟩) hS (fun q _ h => zA_sub hD (wc := [(hM, .inr (4, [.int co, .int wi, .int ma, .int (nI rc), .ref np, .ref nd, .ref nl, .int (nI ac), .ref nk, .ref nu, .ref nt, .int (nI cc), .ref nc, .ref nf, .ref nb, .int no]))]) [0] rfl h) (fun q h => zA_sub hD (wc := [(hM, .inr (4, [.int co, .int wi, .int ma, .int (nI rc), .ref np, .ref nd, .ref nl, .int (nI ac), .ref nk, .ref nu, .ref nt, .int (nI cc), .ref nc, .ref nf, .ref nb, .int no]))]) [0] rfl h) (fun r_24 u t H1 locs1 ht hvm hw_24 hB hz hk9 hS => ?_)
      have hP1 : va_P (dC, dI) vwCl [(hM, .inr (4, [.int 1, .int wi, .int ma, .int (nI rc), .ref np, .ref nd, .ref nl, .int (nI ac), .ref nk, .ref nu, .ref nt, .int (nI cc), .ref nc, .ref nf, .ref nb, .int no]))] H1 := by
        have h9 : va_P (dC, dI) vwCl [(hM, .inr (4, [.int 1, .int wi, .int ma, .int (nI rc), .ref np, .ref nd, .ref nl, .int (nI ac), .ref nk, .ref nu, .ref nt, .int (nI cc), .ref nc, .ref nf, .ref nb, .int no]))] t.heap := hB
        rw [ht] at h9
        exact h9
      have hP : va_P (dC, dI) vwCl [(hM, .inr (4, [.int 1, .int wi, .int ma, .int (nI rc), .ref np, .ref nd, .ref nl, .int (nI ac), .ref nk, .ref nu, .ref nt, .int (nI cc), .ref nc, .ref nf, .ref nb, .int no])), (np, .inl (cMP, 40, .inl rp)), (nd, .inl (cMD, 40, .inl rl)), (nl, .inl (cML, 40, .inl ri)), (nk, .inl (cMI, 64, .inl ai)), (nu, .inl (cMU, 64, .inl us)), (nt, .inl (cMT, 512, .inl ua)), (nc, .inl (cMC, 100, .inr (.inl cn))), (nf, .inl (cMF, 100, .inl ca)), (nb, .inl (cMB, 100, .inl cb))] H1 := zj (wc := [(hM, .inr (4, [.int co, .int wi, .int ma, .int (nI rc), .ref np, .ref nd, .ref nl, .int (nI ac), .ref nk, .ref nu, .ref nt, .int (nI cc), .ref nc, .ref nf, .ref nb, .int no]))]) hP hD [0] rfl hP1 hk9 rfl rfl
      have hD : va_D A [(hM, .inr (4, [.int 1, .int wi, .int ma, .int (nI rc), .ref np, .ref nd, .ref nl, .int (nI ac), .ref nk, .ref nu, .ref nt, .int (nI cc), .ref nc, .ref nf, .ref nb, .int no])), (np, .inl (cMP, 40, .inl rp)), (nd, .inl (cMD, 40, .inl rl)), (nl, .inl (cML, 40, .inl ri)), (nk, .inl (cMI, 64, .inl ai)), (nu, .inl (cMU, 64, .inl us)), (nt, .inl (cMT, 512, .inl ua)), (nc, .inl (cMC, 100, .inr (.inl cn))), (nf, .inl (cMF, 100, .inl ca)), (nb, .inl (cMB, 100, .inl cb))] := zD_of (ws := [(hM, .inr (4, [.int co, .int wi, .int ma, .int (nI rc), .ref np, .ref nd, .ref nl, .int (nI ac), .ref nk, .ref nu, .ref nt, .int (nI cc), .ref nc, .ref nf, .ref nb, .int no])), (np, .inl (cMP, 40, .inl rp)), (nd, .inl (cMD, 40, .inl rl)), (nl, .inl (cML, 40, .inl ri)), (nk, .inl (cMI, 64, .inl ai)), (nu, .inl (cMU, 64, .inl us)), (nt, .inl (cMT, 512, .inl ua)), (nc, .inl (cMC, 100, .inr (.inl cn))), (nf, .inl (cMF, 100, .inl ca)), (nb, .inl (cMB, 100, .inl cb))]) rfl hD
      generalize H1 = H at hP hS ⊢
      subst hw_24
      refine lv_if_ne (tgt := 32) hx hb d_MO_use_27 (by decide) (fun c_27 => ?_) (fun c_27 => ?_)
      · exact absurd rfl c_27
      · refine lv_iconst (v := 0) hx hb d_MO_use_30 (by decide) ?_
        have hkk : zk_use no x T = 1 := by unfold zk_use; rw [if_neg hno]
        exact W.iret (v := 0) hx hb hr (fun t ht hW => ⟨⟨_, (), rfl, by rw [hkk] <;> rfl, by show va_P _ _ _ t.heap; rw [ht, hkk]; exact hP⟩, hS.F ht⟩) hS.2.2 d_MO_use_31
    · exact absurd rfl c_7
