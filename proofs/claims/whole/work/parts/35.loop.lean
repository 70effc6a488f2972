set_option maxHeartbeats 4000000 in
set_option maxRecDepth 100000 in
theorem law_loop {p : Program} {e : Env} {s : State} {m : MethodId} {below : List Frame} {meth : Method} {c : Code} (l : Launch) (hl0 : l.stackTraces = false) {b L : Nat} {xs : Nat → Int32} (hL : L ≤ 2050) (C0 : lw_At p s m meth c b L xs) (hSt : zt_S4 s) (hnc : va_Nc zISE zIAE s) (dC : Nat → ClassId) (dI : Nat → Nat → Nat) (A : Nat → Prop) (hAn : ∀ q, A q → s.heap.size ≤ q) (hX hR hp hq hi hT hs hu ho hC hn ha hk hM np nd nl nk nu nt nc nf nb hO : Nat) (cP cQ cS cI cU cO cN cA cK cMP cMD cML cMI cMU cMT cMC cMF cMB cJ : ClassId) (wi ma : Int32) (hwi : 1 ≤ wi.toInt ∧ wi.toInt ≤ 5000) (hK : va_K (dC, dI) vwCl [(cP, .int), (cQ, .int), (cS, .int), (cI, .int), (cU, .int), (cO, .int), (cN, .long), (cA, .int), (cK, .boolean), (cMP, .int), (cMD, .int), (cML, .int), (cMI, .int), (cMU, .int), (cMT, .int), (cMC, .long), (cMF, .int), (cMB, .boolean), (cJ, .long)] s) : ∀ (n j : Nat) (rc : Nat) (rp rl ri : Nat → Int32) (ac : Nat) (ai ut ol us ua : Nat → Int32) (cc : Nat) (cn : Nat → Int64) (ca cb : Nat → Int32) (no co : Int32) (ou : Nat → Int64) (H : Heap) (locs : List Loc) (ls : Array Slot), 512 ≤ n + j → j ≤ 512 → zI rc rp rl ri ac ai ut ol us ua cc cn ca cb no → va_P (dC, dI) vwCl [(hX, .inr (3, [.int wi, .int ma, .ref hR, .ref hT, .ref hC, .int no])), (hR, .inr (2, [.ref hp, .ref hq, .ref hi, .int (nI rc)])), (hp, .inl (cP, 40, .inl rp)), (hq, .inl (cQ, 40, .inl rl)), (hi, .inl (cS, 40, .inl ri)), (hT, .inr (0, [.ref hs, .ref hu, .ref ho, .int (nI ac)])), (hs, .inl (cI, 64, .inl ai)), (hu, .inl (cU, 512, .inl ut)), (ho, .inl (cO, 64, .inl ol)), (hC, .inr (1, [.ref hn, .ref ha, .ref hk, .int (nI cc)])), (hn, .inl (cN, 100, .inr (.inl cn))), (ha, .inl (cA, 100, .inl ca)), (hk, .inl (cK, 100, .inl cb)), (hM, .inr (4, [.int co, .int wi, .int ma, .int (nI rc), .ref np, .ref nd, .ref nl, .int (nI ac), .ref nk, .ref nu, .ref nt, .int (nI cc), .ref nc, .ref nf, .ref nb, .int no])), (np, .inl (cMP, 40, .inl rp)), (nd, .inl (cMD, 40, .inl rl)), (nl, .inl (cML, 40, .inl ri)), (nk, .inl (cMI, 64, .inl ai)), (nu, .inl (cMU, 64, .inl us)), (nt, .inl (cMT, 512, .inl ua)), (nc, .inl (cMC, 100, .inr (.inl cn))), (nf, .inl (cMF, 100, .inl ca)), (nb, .inl (cMB, 100, .inl cb)), (hO, .inl (cJ, 1, .inr (.inl ou)))] H → va_D A [(hX, .inr (3, [.int wi, .int ma, .ref hR, .ref hT, .ref hC, .int no])), (hR, .inr (2, [.ref hp, .ref hq, .ref hi, .int (nI rc)])), (hp, .inl (cP, 40, .inl rp)), (hq, .inl (cQ, 40, .inl rl)), (hi, .inl (cS, 40, .inl ri)), (hT, .inr (0, [.ref hs, .ref hu, .ref ho, .int (nI ac)])), (hs, .inl (cI, 64, .inl ai)), (hu, .inl (cU, 512, .inl ut)), (ho, .inl (cO, 64, .inl ol)), (hC, .inr (1, [.ref hn, .ref ha, .ref hk, .int (nI cc)])), (hn, .inl (cN, 100, .inr (.inl cn))), (ha, .inl (cA, 100, .inl ca)), (hk, .inl (cK, 100, .inl cb)), (hM, .inr (4, [.int co, .int wi, .int ma, .int (nI rc), .ref np, .ref nd, .ref nl, .int (nI ac), .ref nk, .ref nu, .ref nt, .int (nI cc), .ref nc, .ref nf, .ref nb, .int no])), (np, .inl (cMP, 40, .inl rp)), (nd, .inl (cMD, 40, .inl rl)), (nl, .inl (cML, 40, .inl ri)), (nk, .inl (cMI, 64, .inl ai)), (nu, .inl (cMU, 64, .inl us)), (nt, .inl (cMT, 512, .inl ua)), (nc, .inl (cMC, 100, .inr (.inl cn))), (nf, .inl (cMF, 100, .inl ca)), (nb, .inl (cMB, 100, .inl cb)), (hO, .inl (cJ, 1, .inr (.inl ou)))] → va_S A s.heap H locs → lv_has ls 8 [(4, .int (nI (2 + 4 * j))), (0, .ref b), (1, .ref hX), (2, .ref hM), (3, .ref hO)] → W p l e room_1 s m #[Value.ref b] below meth c H locs (24 + j) (2155 + 6 * j) (lw_Z below #[Value.ref b] s) (F0 m 43 ls []) := by
  obtain ⟨hx, hb, hr, hml, hown, hts, hXs, hbl, hlocks, hgv⟩ := id C0
  have htB : ∀ w ∈ BG, w.before #[Value.ref b] s = true := fun w h => hts w (BG_tbl h)
  have hown : s.vm.findClass R_LW = some m.cls := hown
  have CF : CallFix p m c code 8 s #[Value.ref b] BG R_LW := ⟨hx, hb, hml, hown, htB⟩
  have hbA : ¬ A b := fun h => absurd (hAn b h) (Nat.not_le.mpr hbl)
  intro n
  induction n with
  | zero =>
    intro j rc rp rl ri ac ai ut ol us ua cc cn ca cb no co ou H locs ls hn9 hj9 hI hP hD hS hl
    have hsub : (nI L - nI 4).toInt = (L : Int) - 4 := pk_sub_toInt (by omega) (by omega)
    have hit : (nI (2 + 4 * j)).toInt = ((2 + 4 * j : Nat) : Int) := nI_toInt (by omega)
    refine lv_iload hx hb d_LW_law_43 (lv_at hl 0 rfl) ?_
    refine lv_aload_n hx hb d_LW_law_45 rfl (lv_at hl 1 rfl) ?_
    refine va_slen hx hb hXs hbl hbA hS d_LW_law_46 ?_
    show W p l e _ s m _ below meth c _ _ _ _ _ (F0 m 47 ls [.int (nI L), .int (nI (2 + 4 * j))])
    refine lv_iconst (v := 4) hx hb d_LW_law_47 (by decide) ?_
    refine lv_isub hx hb d_LW_law_48 ?_
    refine lv_icmp_gt (tgt := 1040) hx hb d_LW_law_49 (by decide) (fun c_49 => ?_) (fun c_49 => ?_)
    · refine lv_iconst (v := 1) hx hb d_LW_law_1040 (by decide) ?_
      refine va_forget (fun q h => hAn _ (hS.2.2 q h)) ?_
      refine W.widen (k := 1059) (n := 10413) (by omega) (by omega) ?_
      exact lw_ret hx hb hr hlocks d_LW_law_1041
    · have hiL : 2 + 4 * j + 4 ≤ L := by
        have h9 : ¬ (nI L - nI 4) < nI (2 + 4 * j) := c_49
        rw [Int32.lt_iff_toInt_lt, hsub, hit] at h9
        omega
      omega
  | succ n ih =>
    intro j rc rp rl ri ac ai ut ol us ua cc cn ca cb no co ou H locs ls hn9 hj9 hI hP hD hS hl
    have hsub : (nI L - nI 4).toInt = (L : Int) - 4 := pk_sub_toInt (by omega) (by omega)
    have hit : (nI (2 + 4 * j)).toInt = ((2 + 4 * j : Nat) : Int) := nI_toInt (by omega)
    refine lv_iload hx hb d_LW_law_43 (lv_at hl 0 rfl) ?_
    refine lv_aload_n hx hb d_LW_law_45 rfl (lv_at hl 1 rfl) ?_
    refine va_slen hx hb hXs hbl hbA hS d_LW_law_46 ?_
    show W p l e _ s m _ below meth c _ _ _ _ _ (F0 m 47 ls [.int (nI L), .int (nI (2 + 4 * j))])
    refine lv_iconst (v := 4) hx hb d_LW_law_47 (by decide) ?_
    refine lv_isub hx hb d_LW_law_48 ?_
    refine lv_icmp_gt (tgt := 1040) hx hb d_LW_law_49 (by decide) (fun c_49 => ?_) (fun c_49 => ?_)
    · refine lv_iconst (v := 1) hx hb d_LW_law_1040 (by decide) ?_
      refine va_forget (fun q h => hAn _ (hS.2.2 q h)) ?_
      refine W.widen (k := 1059) (n := 10413) (by omega) (by omega) ?_
      exact lw_ret hx hb hr hlocks d_LW_law_1041
    · have hiL : 2 + 4 * j + 4 ≤ L := by
        have h9 : ¬ (nI L - nI 4) < nI (2 + 4 * j) := c_49
        rw [Int32.lt_iff_toInt_lt, hsub, hit] at h9
        omega
      have ih2 : ∀ (rc : Nat) (rp rl ri : Nat → Int32) (ac : Nat) (ai ut ol us ua : Nat → Int32) (cc : Nat) (cn : Nat → Int64) (ca cb : Nat → Int32) (no co : Int32) (ou : Nat → Int64) (H : Heap) (locs : List Loc) (ls : Array Slot), zI rc rp rl ri ac ai ut ol us ua cc cn ca cb no → va_P (dC, dI) vwCl [(hX, .inr (3, [.int wi, .int ma, .ref hR, .ref hT, .ref hC, .int no])), (hR, .inr (2, [.ref hp, .ref hq, .ref hi, .int (nI rc)])), (hp, .inl (cP, 40, .inl rp)), (hq, .inl (cQ, 40, .inl rl)), (hi, .inl (cS, 40, .inl ri)), (hT, .inr (0, [.ref hs, .ref hu, .ref ho, .int (nI ac)])), (hs, .inl (cI, 64, .inl ai)), (hu, .inl (cU, 512, .inl ut)), (ho, .inl (cO, 64, .inl ol)), (hC, .inr (1, [.ref hn, .ref ha, .ref hk, .int (nI cc)])), (hn, .inl (cN, 100, .inr (.inl cn))), (ha, .inl (cA, 100, .inl ca)), (hk, .inl (cK, 100, .inl cb)), (hM, .inr (4, [.int co, .int wi, .int ma, .int (nI rc), .ref np, .ref nd, .ref nl, .int (nI ac), .ref nk, .ref nu, .ref nt, .int (nI cc), .ref nc, .ref nf, .ref nb, .int no])), (np, .inl (cMP, 40, .inl rp)), (nd, .inl (cMD, 40, .inl rl)), (nl, .inl (cML, 40, .inl ri)), (nk, .inl (cMI, 64, .inl ai)), (nu, .inl (cMU, 64, .inl us)), (nt, .inl (cMT, 512, .inl ua)), (nc, .inl (cMC, 100, .inr (.inl cn))), (nf, .inl (cMF, 100, .inl ca)), (nb, .inl (cMB, 100, .inl cb)), (hO, .inl (cJ, 1, .inr (.inl ou)))] H → va_D A [(hX, .inr (3, [.int wi, .int ma, .ref hR, .ref hT, .ref hC, .int no])), (hR, .inr (2, [.ref hp, .ref hq, .ref hi, .int (nI rc)])), (hp, .inl (cP, 40, .inl rp)), (hq, .inl (cQ, 40, .inl rl)), (hi, .inl (cS, 40, .inl ri)), (hT, .inr (0, [.ref hs, .ref hu, .ref ho, .int (nI ac)])), (hs, .inl (cI, 64, .inl ai)), (hu, .inl (cU, 512, .inl ut)), (ho, .inl (cO, 64, .inl ol)), (hC, .inr (1, [.ref hn, .ref ha, .ref hk, .int (nI cc)])), (hn, .inl (cN, 100, .inr (.inl cn))), (ha, .inl (cA, 100, .inl ca)), (hk, .inl (cK, 100, .inl cb)), (hM, .inr (4, [.int co, .int wi, .int ma, .int (nI rc), .ref np, .ref nd, .ref nl, .int (nI ac), .ref nk, .ref nu, .ref nt, .int (nI cc), .ref nc, .ref nf, .ref nb, .int no])), (np, .inl (cMP, 40, .inl rp)), (nd, .inl (cMD, 40, .inl rl)), (nl, .inl (cML, 40, .inl ri)), (nk, .inl (cMI, 64, .inl ai)), (nu, .inl (cMU, 64, .inl us)), (nt, .inl (cMT, 512, .inl ua)), (nc, .inl (cMC, 100, .inr (.inl cn))), (nf, .inl (cMF, 100, .inl ca)), (nb, .inl (cMB, 100, .inl cb)), (hO, .inl (cJ, 1, .inr (.inl ou)))] → va_S A s.heap H locs → lv_has ls 8 [(4, .int (nI (2 + 4 * j + 4))), (0, .ref b), (1, .ref hX), (2, .ref hM), (3, .ref hO)] → W p l e room_1 s m #[Value.ref b] below meth c H locs (24 + (j + 1)) (2155 + 6 * (j + 1)) (lw_Z below #[Value.ref b] s) (F0 m 43 ls []) := by
        intro rc rp rl ri ac ai ut ol us ua cc cn ca cb no co ou H locs ls hI hP hD hS hl
        rw [show 2 + 4 * j + 4 = 2 + 4 * (j + 1) by omega] at hl
        exact ih (j + 1) rc rp rl ri ac ai ut ol us ua cc cn ca cb no co ou H locs ls (by omega) (by omega) hI hP hD hS hl
      refine lv_aload_n hx hb d_LW_law_52 rfl (lv_at hl 1 rfl) ?_
      refine lv_iload hx hb d_LW_law_53 (lv_at hl 0 rfl) ?_
      refine va_sld hx hb hXs hbl hbA hS (vp_in_nI (show 2 + 4 * j < L by omega) (by omega)) d_LW_law_55 ?_
      rw [nI_clamp (n := 2 + 4 * j) (by omega)]
      refine lv_bipush (v := 15) hx hb d_LW_law_56 (by decide) ?_
      refine lv_iand hx hb d_LW_law_58 ?_
      obtain ⟨k, hk16, ek⟩ := pk_andE (xs (2 + 4 * j)) (m := 15) 4 (by decide)
      rw [ek]
      rcases (show k = 0 ∨ k = 1 ∨ k = 2 ∨ k = 3 ∨ k = 4 ∨ k = 5 ∨ k = 6 ∨ k = 7 ∨ k = 8 ∨ k = 9 ∨ k = 10 ∨ k = 11 ∨ k = 12 ∨ k = 13 ∨ k = 14 ∨ k = 15 by omega) with rfl | rfl | rfl | rfl | rfl | rfl | rfl | rfl | rfl | rfl | rfl | rfl | rfl | rfl | rfl | rfl
      · refine lv_tableIn (off := 61) (tgt := 120) hx hb d_LW_law_59 (by decide) (by decide) (by decide) (by decide) ?_
        exact law_route l hl0 hL C0 hSt hnc dC dI A hAn hX hR hp hq hi hT hs hu ho hC hn ha hk hM np nd nl nk nu nt nc nf nb hO cP cQ cS cI cU cO cN cA cK cMP cMD cML cMI cMU cMT cMC cMF cMB cJ wi ma hwi hK (2 + 4 * j) j hiL rfl rc rp rl ri ac ai ut ol us ua cc cn ca cb no co ou H locs ls hI hP hD hS hl ih2
      · refine lv_tableIn (off := 141) (tgt := 200) hx hb d_LW_law_59 (by decide) (by decide) (by decide) (by decide) ?_
        exact law_unroute l hl0 hL C0 hSt hnc dC dI A hAn hX hR hp hq hi hT hs hu ho hC hn ha hk hM np nd nl nk nu nt nc nf nb hO cP cQ cS cI cU cO cN cA cK cMP cMD cML cMI cMU cMT cMC cMF cMB cJ wi ma hwi hK (2 + 4 * j) j hiL rfl rc rp rl ri ac ai ut ol us ua cc cn ca cb no co ou H locs ls hI hP hD hS hl ih2
      · refine lv_tableIn (off := 209) (tgt := 268) hx hb d_LW_law_59 (by decide) (by decide) (by decide) (by decide) ?_
        exact law_routes l hl0 hL C0 hSt hnc dC dI A hAn hX hR hp hq hi hT hs hu ho hC hn ha hk hM np nd nl nk nu nt nc nf nb hO cP cQ cS cI cU cO cN cA cK cMP cMD cML cMI cMU cMT cMC cMF cMB cJ wi ma hwi hK (2 + 4 * j) j hiL rfl rc rp rl ri ac ai ut ol us ua cc cn ca cb no co ou H locs ls hI hP hD hS hl ih2
      · refine lv_tableIn (off := 222) (tgt := 281) hx hb d_LW_law_59 (by decide) (by decide) (by decide) (by decide) ?_
        exact law_account l hl0 hL C0 hSt hnc dC dI A hAn hX hR hp hq hi hT hs hu ho hC hn ha hk hM np nd nl nk nu nt nc nf nb hO cP cQ cS cI cU cO cN cA cK cMP cMD cML cMI cMU cMT cMC cMF cMB cJ wi ma hwi hK (2 + 4 * j) j hiL rfl rc rp rl ri ac ai ut ol us ua cc cn ca cb no co ou H locs ls hI hP hD hS hl ih2
      · refine lv_tableIn (off := 278) (tgt := 337) hx hb d_LW_law_59 (by decide) (by decide) (by decide) (by decide) ?_
        exact law_card l hl0 hL C0 hSt hnc dC dI A hAn hX hR hp hq hi hT hs hu ho hC hn ha hk hM np nd nl nk nu nt nc nf nb hO cP cQ cS cI cU cO cN cA cK cMP cMD cML cMI cMU cMT cMC cMF cMB cJ wi ma hwi hK (2 + 4 * j) j hiL rfl rc rp rl ri ac ai ut ol us ua cc cn ca cb no co ou H locs ls hI hP hD hS hl ih2
      · refine lv_tableIn (off := 378) (tgt := 437) hx hb d_LW_law_59 (by decide) (by decide) (by decide) (by decide) ?_
        exact law_block l hl0 hL C0 hSt hnc dC dI A hAn hX hR hp hq hi hT hs hu ho hC hn ha hk hM np nd nl nk nu nt nc nf nb hO cP cQ cS cI cU cO cN cA cK cMP cMD cML cMI cMU cMT cMC cMF cMB cJ wi ma hwi hK (2 + 4 * j) j hiL rfl rc rp rl ri ac ai ut ol us ua cc cn ca cb no co ou H locs ls hI hP hD hS hl ih2
      · refine lv_tableIn (off := 469) (tgt := 528) hx hb d_LW_law_59 (by decide) (by decide) (by decide) (by decide) ?_
        exact law_whose l hl0 hL C0 hSt hnc dC dI A hAn hX hR hp hq hi hT hs hu ho hC hn ha hk hM np nd nl nk nu nt nc nf nb hO cP cQ cS cI cU cO cN cA cK cMP cMD cML cMI cMU cMT cMC cMF cMB cJ wi ma hwi hK (2 + 4 * j) j hiL rfl rc rp rl ri ac ai ut ol us ua cc cn ca cb no co ou H locs ls hI hP hD hS hl ih2
      · refine lv_tableIn (off := 557) (tgt := 616) hx hb d_LW_law_59 (by decide) (by decide) (by decide) (by decide) ?_
        exact law_good l hl0 hL C0 hSt hnc dC dI A hAn hX hR hp hq hi hT hs hu ho hC hn ha hk hM np nd nl nk nu nt nc nf nb hO cP cQ cS cI cU cO cN cA cK cMP cMD cML cMI cMU cMT cMC cMF cMB cJ wi ma hwi hK (2 + 4 * j) j hiL rfl rc rp rl ri ac ai ut ol us ua cc cn ca cb no co ou H locs ls hI hP hD hS hl ih2
      · refine lv_tableIn (off := 652) (tgt := 711) hx hb d_LW_law_59 (by decide) (by decide) (by decide) (by decide) ?_
        exact law_digit l hl0 hL C0 hSt hnc dC dI A hAn hX hR hp hq hi hT hs hu ho hC hn ha hk hM np nd nl nk nu nt nc nf nb hO cP cQ cS cI cU cO cN cA cK cMP cMD cML cMI cMU cMT cMC cMF cMB cJ wi ma hwi hK (2 + 4 * j) j hiL rfl rc rp rl ri ac ai ut ol us ua cc cn ca cb no co ou H locs ls hI hP hD hS hl ih2
      · refine lv_tableIn (off := 740) (tgt := 799) hx hb d_LW_law_59 (by decide) (by decide) (by decide) (by decide) ?_
        exact law_use l hl0 hL C0 hSt hnc dC dI A hAn hX hR hp hq hi hT hs hu ho hC hn ha hk hM np nd nl nk nu nt nc nf nb hO cP cQ cS cI cU cO cN cA cK cMP cMD cML cMI cMU cMT cMC cMF cMB cJ wi ma hwi hK (2 + 4 * j) j hiL rfl rc rp rl ri ac ai ut ol us ua cc cn ca cb no co ou H locs ls hI hP hD hS hl ih2
      · refine lv_tableIn (off := 840) (tgt := 899) hx hb d_LW_law_59 (by decide) (by decide) (by decide) (by decide) ?_
        exact law_used l hl0 hL C0 hSt hnc dC dI A hAn hX hR hp hq hi hT hs hu ho hC hn ha hk hM np nd nl nk nu nt nc nf nb hO cP cQ cS cI cU cO cN cA cK cMP cMD cML cMI cMU cMT cMC cMF cMB cJ wi ma hwi hK (2 + 4 * j) j hiL rfl rc rp rl ri ac ai ut ol us ua cc cn ca cb no co ou H locs ls hI hP hD hS hl ih2
      · refine lv_tableIn (off := 908) (tgt := 967) hx hb d_LW_law_59 (by decide) (by decide) (by decide) (by decide) ?_
        exact law_told l hl0 hL C0 hSt hnc dC dI A hAn hX hR hp hq hi hT hs hu ho hC hn ha hk hM np nd nl nk nu nt nc nf nb hO cP cQ cS cI cU cO cN cA cK cMP cMD cML cMI cMU cMT cMC cMF cMB cJ wi ma hwi hK (2 + 4 * j) j hiL rfl rc rp rl ri ac ai ut ol us ua cc cn ca cb no co ou H locs ls hI hP hD hS hl ih2
      · refine lv_tableOut (tgt := 1034) hx hb d_LW_law_59 (by decide) (by decide) ?_
        refine lv_iinc (v := (nI (2 + 4 * j)) + 4) (lv' := [(4, .int ((nI (2 + 4 * j)) + 4)), (0, .ref b), (1, .ref hX), (2, .ref hM), (3, .ref hO)]) hx hb d_LW_law_1034 hl (k := 0) rfl rfl (by decide) rfl (fun ls hl => ?_)
        refine lv_goto (tgt := 43) hx hb d_LW_law_1037 (by decide) ?_
        rw [show (nI (2 + 4 * j) + 4 : Int32) = nI (2 + 4 * j + 4) from nI_add (2 + 4 * j) 4] at hl
        refine W.widen (k := 24 + (j + 1)) (n := 2155 + 6 * (j + 1)) (by omega) (by omega) ?_
        exact ih2 rc rp rl ri ac ai ut ol us ua cc cn ca cb no co ou _ _ _ hI hP hD hS (lv_sub hl [0, 1, 2, 3, 4] rfl)
      · refine lv_tableOut (tgt := 1034) hx hb d_LW_law_59 (by decide) (by decide) ?_
        refine lv_iinc (v := (nI (2 + 4 * j)) + 4) (lv' := [(4, .int ((nI (2 + 4 * j)) + 4)), (0, .ref b), (1, .ref hX), (2, .ref hM), (3, .ref hO)]) hx hb d_LW_law_1034 hl (k := 0) rfl rfl (by decide) rfl (fun ls hl => ?_)
        refine lv_goto (tgt := 43) hx hb d_LW_law_1037 (by decide) ?_
        rw [show (nI (2 + 4 * j) + 4 : Int32) = nI (2 + 4 * j + 4) from nI_add (2 + 4 * j) 4] at hl
        refine W.widen (k := 24 + (j + 1)) (n := 2155 + 6 * (j + 1)) (by omega) (by omega) ?_
        exact ih2 rc rp rl ri ac ai ut ol us ua cc cn ca cb no co ou _ _ _ hI hP hD hS (lv_sub hl [0, 1, 2, 3, 4] rfl)
      · refine lv_tableOut (tgt := 1034) hx hb d_LW_law_59 (by decide) (by decide) ?_
        refine lv_iinc (v := (nI (2 + 4 * j)) + 4) (lv' := [(4, .int ((nI (2 + 4 * j)) + 4)), (0, .ref b), (1, .ref hX), (2, .ref hM), (3, .ref hO)]) hx hb d_LW_law_1034 hl (k := 0) rfl rfl (by decide) rfl (fun ls hl => ?_)
        refine lv_goto (tgt := 43) hx hb d_LW_law_1037 (by decide) ?_
        rw [show (nI (2 + 4 * j) + 4 : Int32) = nI (2 + 4 * j + 4) from nI_add (2 + 4 * j) 4] at hl
        refine W.widen (k := 24 + (j + 1)) (n := 2155 + 6 * (j + 1)) (by omega) (by omega) ?_
        exact ih2 rc rp rl ri ac ai ut ol us ua cc cn ca cb no co ou _ _ _ hI hP hD hS (lv_sub hl [0, 1, 2, 3, 4] rfl)
      · refine lv_tableOut (tgt := 1034) hx hb d_LW_law_59 (by decide) (by decide) ?_
        refine lv_iinc (v := (nI (2 + 4 * j)) + 4) (lv' := [(4, .int ((nI (2 + 4 * j)) + 4)), (0, .ref b), (1, .ref hX), (2, .ref hM), (3, .ref hO)]) hx hb d_LW_law_1034 hl (k := 0) rfl rfl (by decide) rfl (fun ls hl => ?_)
        refine lv_goto (tgt := 43) hx hb d_LW_law_1037 (by decide) ?_
        rw [show (nI (2 + 4 * j) + 4 : Int32) = nI (2 + 4 * j + 4) from nI_add (2 + 4 * j) 4] at hl
        refine W.widen (k := 24 + (j + 1)) (n := 2155 + 6 * (j + 1)) (by omega) (by omega) ?_
        exact ih2 rc rp rl ri ac ai ut ol us ua cc cn ca cb no co ou _ _ _ hI hP hD hS (lv_sub hl [0, 1, 2, 3, 4] rfl)
set_option maxHeartbeats 4000000 in
set_option maxRecDepth 100000 in
/-- THE LAW, from its entry -/
theorem whole_start {p : Program} {e : Env} {s : State} {m : MethodId} {below : List Frame} {meth : Method} {c : Code} (l : Launch) (hl0 : l.stackTraces = false) {b L : Nat} {xs : Nat → Int32} (hL : L ≤ 2050) (C0 : lw_At p s m meth c b L xs) : W p l e room_1 s m #[Value.ref b] below meth c s.heap [] 0 0 (lw_Z below #[Value.ref b] s) (entryFrame m ([Value.ref b] : List Value).toArray 8) := by
  obtain ⟨A, hAe⟩ : ∃ A : Nat → Prop, A = fun q : Nat => s.heap.size ≤ q := ⟨_, rfl⟩
  have hAn : ∀ q, A q → s.heap.size ≤ q := fun q h => by rw [hAe] at h; exact h
  have hA : ∀ q : Nat, s.heap.size ≤ q → A q := fun q h => by rw [hAe]; exact h
  obtain ⟨hx, hb, hr, hml, hown, hts, hXs, hbl, hlocks, hgv⟩ := id C0
  have htB : ∀ w ∈ BG, w.before #[Value.ref b] s = true := fun w h => hts w (BG_tbl h)
  have hown : s.vm.findClass R_LW = some m.cls := hown
  have CF : CallFix p m c code 8 s #[Value.ref b] BG R_LW := ⟨hx, hb, hml, hown, htB⟩
  have hbA : ¬ A b := fun h => absurd (hAn b h) (Nat.not_le.mpr hbl)
  have hsw := flat_of_before _ hgv
  have hu1 : (Cond.isRef (.static Bundle.tN "UNASSIGNED_STACK" Bundle.steD)).before #[Value.ref b] s = true := hsw _ (by decide +kernel)
  have hu2 : (Cond.isRef (.static Bundle.tN "SUPPRESSED_SENTINEL" Bundle.listD)).before #[Value.ref b] s = true := hsw _ (by decide +kernel)
  have hl1 : (Cond.laysStatic Bundle.tN "UNASSIGNED_STACK" Bundle.steD).before #[Value.ref b] s = true := hts _ (by decide +kernel)
  have hl2 : (Cond.laysStatic Bundle.tN "SUPPRESSED_SENTINEL" Bundle.listD).before #[Value.ref b] s = true := hts _ (by decide +kernel)
  have hSt : zt_S4 s := ⟨zt_stat (htB _ zm_init) hl1 hu1 (Vm.Alike.refl _) (fun _ _ => rfl), zt_stat (htB _ zm_init) hl2 hu2 (Vm.Alike.refl _) (fun _ _ => rfl), zt_lays hl1 (Vm.Alike.refl _) (fun _ _ => rfl), zt_lays hl2 (Vm.Alike.refl _) (fun _ _ => rfl)⟩
  have hnc : va_Nc zISE zIAE s := va_Nc.of (hsw (Cond.not (.castable zISE zIAE)) (by decide +kernel))
  obtain ⟨c0, iS0, hKn0⟩ := u_known (C := R_AT) (T := T_AT) (N := 4) (n := 4) htB i_AT (htB _ nn_AT)
  obtain ⟨c1, iS1, hKn1⟩ := u_known (C := R_CT) (T := T_CT) (N := 4) (n := 4) htB i_CT (htB _ nn_CT)
  obtain ⟨c2, iS2, hKn2⟩ := u_known (C := R_RT) (T := T_RT) (N := 4) (n := 4) htB i_RT (htB _ nn_RT)
  obtain ⟨c3, iS3, hKn3⟩ := u_known (C := R_CD) (T := T_CD) (N := 6) (n := 6) htB i_CD (htB _ nn_CD)
  obtain ⟨c4, iS4, hKn4⟩ := u_known (C := R_MO) (T := T_MO) (N := 16) (n := 16) htB i_MO (htB _ nn_MO)
  obtain ⟨dC, dI, hKc⟩ : ∃ (dC : Nat → ClassId) (dI : Nat → Nat → Nat), ∀ (k : Nat) (q : vw_C), vwCl[k]? = some q → u_Kn s q.1 q.2.1 q.2.2 (dC k) (dI k) := by
    refine ⟨fun k => if k = 0 then c0 else if k = 1 then c1 else if k = 2 then c2 else if k = 3 then c3 else c4, fun k => if k = 0 then iS0 else if k = 1 then iS1 else if k = 2 then iS2 else if k = 3 then iS3 else iS4, ?_⟩
    intro k q hq
    match k, hq with
    | 0, hq => cases hq; exact hKn0
    | 1, hq => cases hq; exact hKn1
    | 2, hq => cases hq; exact hKn2
    | 3, hq => cases hq; exact hKn3
    | 4, hq => cases hq; exact hKn4
    | k + 5, hq => simp [vwCl] at hq
  have hS : va_S A s.heap s.heap [] := va_S.rf
  have hK : va_K (dC, dI) vwCl [] s := ⟨hKc, fun k q h => by simp at h⟩
  have hP : va_P (dC, dI) vwCl [] s.heap := fun k q h => by simp at h
  have hD : va_D A [] := ⟨fun i j p q h => by simp at h, fun k q h => by simp at h⟩
  have hl := lv_entry ([.ref b]) (n := 8) (Nat.le_of_ble_eq_true rfl)
  rw [lg_entry_eq]
  generalize (lg_sl ([.ref b]) ++ List.replicate (8 - (lg_sl ([.ref b])).length) Slot.unset).toArray = ls at hl ⊢
  have hl : lv_has ls 8 [(0, .ref b)] := hl
  obtain ⟨w0, ew0⟩ : ∃ q : Int32, (if 0 < L then xs 0 else 0) = q := ⟨_, rfl⟩
  obtain ⟨w1, ew1⟩ : ∃ q : Int32, (if 1 < L then xs 1 else 0) = q := ⟨_, rfl⟩
  refine va_new (ci := 3) (fs := [.int 0, .int 0, .null, .null, .null, .int 0]) (C := R_CD) (T := T_CD) (N := 6) hx hb htB i_CD t_CD tk_CD hown (htB _ lc_LW_8) (htB _ nn_CD) (htB _ ni_CD) hK hP hD hS hA rfl (fun j hj => by rcases (show j = 0 ∨ j = 1 ∨ j = 2 ∨ j = 3 ∨ j = 4 ∨ j = 5 by omega) with rfl | rfl | rfl | rfl | rfl | rfl <;> rfl) (Nat.le_of_ble_eq_true rfl) (Nat.le_of_ble_eq_true rfl) d_LW_law_0 (fun q_0 H hP hD hS => ?_)
  have hP : va_P (dC, dI) vwCl [(q_0, .inr (3, [.int 0, .int 0, .null, .null, .null, .int 0]))] H := hP
  have hD : va_D A [(q_0, .inr (3, [.int 0, .int 0, .null, .null, .null, .int 0]))] := hD
  refine lv_dup hx hb d_LW_law_3 rfl ?_
  refine lv_aload_n hx hb d_LW_law_4 rfl (lv_at hl 0 rfl) ?_
  refine lv_iconst (v := 0) hx hb d_LW_law_5 (by decide) ?_
  refine vp_callSi (va_Run.run (zrx_S (n := 2) (As := [.ref b, .int 0]) (rest := [.ref q_0, .ref q_0]) CF (c_LW_cell l dC dI b L xs hL 0 (by decide)) mc_LW_cell lk_LW_54 mt_LW_cell ni_LW rfl rfl (by decide +kernel) ⟨Nat.le_of_ble_eq_true rfl, Nat.le_of_ble_eq_true rfl⟩ (hXs.kept (hS.2.1 b hbl hbA)) rfl rfl hl.1 rfl (lv_room (Nat.le_of_ble_eq_true rfl)) d_LW_law_6 ⟨Nat.le_of_ble_eq_true rfl, Nat.le_of_ble_eq_true rfl⟩)) (fun r_6 h_6 => ?_)
  rw [ew0] at h_6
  rw [h_6]
  refine lv_aload_n hx hb d_LW_law_9 rfl (lv_at hl 0 rfl) ?_
  refine lv_iconst (v := 1) hx hb d_LW_law_10 (by decide) ?_
  refine vp_callSi (va_Run.run (zrx_S (n := 2) (As := [.ref b, .int 1]) (rest := [.int w0, .ref q_0, .ref q_0]) CF (c_LW_cell l dC dI b L xs hL 1 (by decide)) mc_LW_cell lk_LW_54 mt_LW_cell ni_LW rfl rfl (by decide +kernel) ⟨Nat.le_of_ble_eq_true rfl, Nat.le_of_ble_eq_true rfl⟩ (hXs.kept (hS.2.1 b hbl hbA)) rfl rfl hl.1 rfl (lv_room (Nat.le_of_ble_eq_true rfl)) d_LW_law_11 ⟨Nat.le_of_ble_eq_true rfl, Nat.le_of_ble_eq_true rfl⟩)) (fun r_11 h_11 => ?_)
  rw [ew1] at h_11
  rw [h_11]
  have hFc := va_free (wc := [(q_0, .inr (3, [.int 0, .int 0, .null, .null, .null, .int 0]))]) hD hS hA [0] rfl
  refine va_callv (zrn_I (n := 2) (As := [.int w0, .int w1]) (rest := [.ref q_0]) CF (c_CD_init l dC dI q_0 w0 w1 H.size) mc_CD_init lk_LW_60 mi_CD_init rfl ni_CD rfl rfl (by decide +kernel) ⟨Nat.le_of_ble_eq_true rfl, Nat.le_of_ble_eq_true rfl⟩ rfl (hP.sub (ws' := [(q_0, .inr (3, [.int 0, .int 0, .null, .null, .null, .int 0]))]) [0] rfl) (hK.sub (tys' := []) [] rfl) rfl rfl hl.1 rfl (lv_room (Nat.le_of_ble_eq_true rfl)) d_LW_law_14 ⟨Nat.le_of_ble_eq_true rfl, Nat.le_of_ble_eq_true rfl⟩) hS (fun q _ h => hFc q h) hFc (fun u t H1 locs ht hvm _ hB hz1 hk1 hS => ?_)
  obtain ⟨hR14, hp14, hq14, hi14, hT14, hs14, hu14, ho14, hC14, hn14, ha14, hk14, cP14, cQ14, cS14, cI14, cU14, cO14, cN14, cA14, cK14, hP1, hK1, hD1⟩ := hB
  rw [ht] at hP1
  have hK1 := va_K.moved hvm.symm hK1
  obtain ⟨hP, hD⟩ := va_join (wr := []) (w1 := [(q_0, .inr (3, [.int (zn_cl w0 (nI 5000)), .int (zn_cl w1 (nI 8)), .ref hR14, .ref hT14, .ref hC14, .int 0])), (hR14, .inr (2, [.ref hp14, .ref hq14, .ref hi14, .int 0])), (hp14, .inl (cP14, 40, .inl (fun _ => 0))), (hq14, .inl (cQ14, 40, .inl (fun _ => 0))), (hi14, .inl (cS14, 40, .inl (fun _ => 0))), (hT14, .inr (0, [.ref hs14, .ref hu14, .ref ho14, .int 0])), (hs14, .inl (cI14, 64, .inl (fun _ => 0))), (hu14, .inl (cU14, 512, .inl (zn_fill (-5001) 512))), (ho14, .inl (cO14, 64, .inl (fun _ => 0))), (hC14, .inr (1, [.ref hn14, .ref ha14, .ref hk14, .int 0])), (hn14, .inl (cN14, 100, .inr (.inl (fun _ => 0)))), (ha14, .inl (cA14, 100, .inl (fun _ => 0))), (hk14, .inl (cK14, 100, .inl (fun _ => 0)))]) hP hD [0] [] rfl rfl (by decide) (by decide) hk1 hFc hP1 hD1
  have hK := hK.app hK1
  generalize H1 = H at hP hS ⊢
  have hP : va_P (dC, dI) vwCl [(q_0, .inr (3, [.int (zn_cl w0 (nI 5000)), .int (zn_cl w1 (nI 8)), .ref hR14, .ref hT14, .ref hC14, .int 0])), (hR14, .inr (2, [.ref hp14, .ref hq14, .ref hi14, .int 0])), (hp14, .inl (cP14, 40, .inl (fun _ => 0))), (hq14, .inl (cQ14, 40, .inl (fun _ => 0))), (hi14, .inl (cS14, 40, .inl (fun _ => 0))), (hT14, .inr (0, [.ref hs14, .ref hu14, .ref ho14, .int 0])), (hs14, .inl (cI14, 64, .inl (fun _ => 0))), (hu14, .inl (cU14, 512, .inl (zn_fill (-5001) 512))), (ho14, .inl (cO14, 64, .inl (fun _ => 0))), (hC14, .inr (1, [.ref hn14, .ref ha14, .ref hk14, .int 0])), (hn14, .inl (cN14, 100, .inr (.inl (fun _ => 0)))), (ha14, .inl (cA14, 100, .inl (fun _ => 0))), (hk14, .inl (cK14, 100, .inl (fun _ => 0)))] H := hP
  have hD : va_D A [(q_0, .inr (3, [.int (zn_cl w0 (nI 5000)), .int (zn_cl w1 (nI 8)), .ref hR14, .ref hT14, .ref hC14, .int 0])), (hR14, .inr (2, [.ref hp14, .ref hq14, .ref hi14, .int 0])), (hp14, .inl (cP14, 40, .inl (fun _ => 0))), (hq14, .inl (cQ14, 40, .inl (fun _ => 0))), (hi14, .inl (cS14, 40, .inl (fun _ => 0))), (hT14, .inr (0, [.ref hs14, .ref hu14, .ref ho14, .int 0])), (hs14, .inl (cI14, 64, .inl (fun _ => 0))), (hu14, .inl (cU14, 512, .inl (zn_fill (-5001) 512))), (ho14, .inl (cO14, 64, .inl (fun _ => 0))), (hC14, .inr (1, [.ref hn14, .ref ha14, .ref hk14, .int 0])), (hn14, .inl (cN14, 100, .inr (.inl (fun _ => 0)))), (ha14, .inl (cA14, 100, .inl (fun _ => 0))), (hk14, .inl (cK14, 100, .inl (fun _ => 0)))] := hD
  have hK : va_K (dC, dI) vwCl [(cP14, .int), (cQ14, .int), (cS14, .int), (cI14, .int), (cU14, .int), (cO14, .int), (cN14, .long), (cA14, .int), (cK14, .boolean)] s := hK
  refine lv_astore_n (lv' := [(1, .ref q_0), (0, .ref b)]) hx hb d_LW_law_17 rfl hl (by decide) rfl (fun ls hl => ?_)
  refine va_new (ci := 4) (fs := [.int 0, .int 0, .int 0, .int 0, .null, .null, .null, .int 0, .null, .null, .null, .int 0, .null, .null, .null, .int 0]) (C := R_MO) (T := T_MO) (N := 16) hx hb htB i_MO t_MO tk_MO hown (htB _ lc_LW_63) (htB _ nn_MO) (htB _ ni_MO) hK hP hD hS hA rfl (fun j hj => by rcases (show j = 0 ∨ j = 1 ∨ j = 2 ∨ j = 3 ∨ j = 4 ∨ j = 5 ∨ j = 6 ∨ j = 7 ∨ j = 8 ∨ j = 9 ∨ j = 10 ∨ j = 11 ∨ j = 12 ∨ j = 13 ∨ j = 14 ∨ j = 15 by omega) with rfl | rfl | rfl | rfl | rfl | rfl | rfl | rfl | rfl | rfl | rfl | rfl | rfl | rfl | rfl | rfl <;> rfl) (Nat.le_of_ble_eq_true rfl) (Nat.le_of_ble_eq_true rfl) d_LW_law_18 (fun q_18 H hP hD hS => ?_)
  have hP : va_P (dC, dI) vwCl [(q_0, .inr (3, [.int (zn_cl w0 (nI 5000)), .int (zn_cl w1 (nI 8)), .ref hR14, .ref hT14, .ref hC14, .int 0])), (hR14, .inr (2, [.ref hp14, .ref hq14, .ref hi14, .int 0])), (hp14, .inl (cP14, 40, .inl (fun _ => 0))), (hq14, .inl (cQ14, 40, .inl (fun _ => 0))), (hi14, .inl (cS14, 40, .inl (fun _ => 0))), (hT14, .inr (0, [.ref hs14, .ref hu14, .ref ho14, .int 0])), (hs14, .inl (cI14, 64, .inl (fun _ => 0))), (hu14, .inl (cU14, 512, .inl (zn_fill (-5001) 512))), (ho14, .inl (cO14, 64, .inl (fun _ => 0))), (hC14, .inr (1, [.ref hn14, .ref ha14, .ref hk14, .int 0])), (hn14, .inl (cN14, 100, .inr (.inl (fun _ => 0)))), (ha14, .inl (cA14, 100, .inl (fun _ => 0))), (hk14, .inl (cK14, 100, .inl (fun _ => 0))), (q_18, .inr (4, [.int 0, .int 0, .int 0, .int 0, .null, .null, .null, .int 0, .null, .null, .null, .int 0, .null, .null, .null, .int 0]))] H := hP
  have hD : va_D A [(q_0, .inr (3, [.int (zn_cl w0 (nI 5000)), .int (zn_cl w1 (nI 8)), .ref hR14, .ref hT14, .ref hC14, .int 0])), (hR14, .inr (2, [.ref hp14, .ref hq14, .ref hi14, .int 0])), (hp14, .inl (cP14, 40, .inl (fun _ => 0))), (hq14, .inl (cQ14, 40, .inl (fun _ => 0))), (hi14, .inl (cS14, 40, .inl (fun _ => 0))), (hT14, .inr (0, [.ref hs14, .ref hu14, .ref ho14, .int 0])), (hs14, .inl (cI14, 64, .inl (fun _ => 0))), (hu14, .inl (cU14, 512, .inl (zn_fill (-5001) 512))), (ho14, .inl (cO14, 64, .inl (fun _ => 0))), (hC14, .inr (1, [.ref hn14, .ref ha14, .ref hk14, .int 0])), (hn14, .inl (cN14, 100, .inr (.inl (fun _ => 0)))), (ha14, .inl (cA14, 100, .inl (fun _ => 0))), (hk14, .inl (cK14, 100, .inl (fun _ => 0))), (q_18, .inr (4, [.int 0, .int 0, .int 0, .int 0, .null, .null, .null, .int 0, .null, .null, .null, .int 0, .null, .null, .null, .int 0]))] := hD
  refine lv_dup hx hb d_LW_law_21 rfl ?_
  refine lv_aload_n hx hb d_LW_law_22 rfl (lv_at hl 1 rfl) ?_
  refine lv_iconst (v := 0) hx hb d_LW_law_23 (by decide) ?_
  refine vp_callSi (va_Run.run (zrx_S (n := 2) (As := [.ref b, .int 0]) (rest := [.ref q_18, .ref q_18]) CF (c_LW_cell l dC dI b L xs hL 0 (by decide)) mc_LW_cell lk_LW_54 mt_LW_cell ni_LW rfl rfl (by decide +kernel) ⟨Nat.le_of_ble_eq_true rfl, Nat.le_of_ble_eq_true rfl⟩ (hXs.kept (hS.2.1 b hbl hbA)) rfl rfl hl.1 rfl (lv_room (Nat.le_of_ble_eq_true rfl)) d_LW_law_24 ⟨Nat.le_of_ble_eq_true rfl, Nat.le_of_ble_eq_true rfl⟩)) (fun r_24 h_24 => ?_)
  rw [ew0] at h_24
  rw [h_24]
  refine lv_aload_n hx hb d_LW_law_27 rfl (lv_at hl 1 rfl) ?_
  refine lv_iconst (v := 1) hx hb d_LW_law_28 (by decide) ?_
  refine vp_callSi (va_Run.run (zrx_S (n := 2) (As := [.ref b, .int 1]) (rest := [.int w0, .ref q_18, .ref q_18]) CF (c_LW_cell l dC dI b L xs hL 1 (by decide)) mc_LW_cell lk_LW_54 mt_LW_cell ni_LW rfl rfl (by decide +kernel) ⟨Nat.le_of_ble_eq_true rfl, Nat.le_of_ble_eq_true rfl⟩ (hXs.kept (hS.2.1 b hbl hbA)) rfl rfl hl.1 rfl (lv_room (Nat.le_of_ble_eq_true rfl)) d_LW_law_29 ⟨Nat.le_of_ble_eq_true rfl, Nat.le_of_ble_eq_true rfl⟩)) (fun r_29 h_29 => ?_)
  rw [ew1] at h_29
  rw [h_29]
  have hFc := va_free (wc := [(q_18, .inr (4, [.int 0, .int 0, .int 0, .int 0, .null, .null, .null, .int 0, .null, .null, .null, .int 0, .null, .null, .null, .int 0]))]) hD hS hA [13] rfl
  refine va_callv (zrn_I (n := 2) (As := [.int w0, .int w1]) (rest := [.ref q_18]) CF (c_MO_init l dC dI q_18 w0 w1 H.size) mc_MO_init lk_LW_65 mi_MO_init rfl ni_MO rfl rfl (by decide +kernel) ⟨Nat.le_of_ble_eq_true rfl, Nat.le_of_ble_eq_true rfl⟩ rfl (hP.sub (ws' := [(q_18, .inr (4, [.int 0, .int 0, .int 0, .int 0, .null, .null, .null, .int 0, .null, .null, .null, .int 0, .null, .null, .null, .int 0]))]) [13] rfl) (hK.sub (tys' := []) [] rfl) rfl rfl hl.1 rfl (lv_room (Nat.le_of_ble_eq_true rfl)) d_LW_law_32 ⟨Nat.le_of_ble_eq_true rfl, Nat.le_of_ble_eq_true rfl⟩) hS (fun q _ h => hFc q h) hFc (fun u t H1 locs ht hvm _ hB hz1 hk1 hS => ?_)
  obtain ⟨np32, nd32, nl32, nk32, nu32, nt32, nc32, nf32, nb32, cMP32, cMD32, cML32, cMI32, cMU32, cMT32, cMC32, cMF32, cMB32, hP1, hK1, hD1⟩ := hB
  rw [ht] at hP1
  have hK1 := va_K.moved hvm.symm hK1
  obtain ⟨hP, hD⟩ := va_join (wr := [(q_0, .inr (3, [.int (zn_cl w0 (nI 5000)), .int (zn_cl w1 (nI 8)), .ref hR14, .ref hT14, .ref hC14, .int 0])), (hR14, .inr (2, [.ref hp14, .ref hq14, .ref hi14, .int 0])), (hp14, .inl (cP14, 40, .inl (fun _ => 0))), (hq14, .inl (cQ14, 40, .inl (fun _ => 0))), (hi14, .inl (cS14, 40, .inl (fun _ => 0))), (hT14, .inr (0, [.ref hs14, .ref hu14, .ref ho14, .int 0])), (hs14, .inl (cI14, 64, .inl (fun _ => 0))), (hu14, .inl (cU14, 512, .inl (zn_fill (-5001) 512))), (ho14, .inl (cO14, 64, .inl (fun _ => 0))), (hC14, .inr (1, [.ref hn14, .ref ha14, .ref hk14, .int 0])), (hn14, .inl (cN14, 100, .inr (.inl (fun _ => 0)))), (ha14, .inl (cA14, 100, .inl (fun _ => 0))), (hk14, .inl (cK14, 100, .inl (fun _ => 0)))]) (w1 := [(q_18, .inr (4, [.int 0, .int (zn_cl w0 (nI 5000)), .int (zn_cl w1 (nI 8)), .int 0, .ref np32, .ref nd32, .ref nl32, .int 0, .ref nk32, .ref nu32, .ref nt32, .int 0, .ref nc32, .ref nf32, .ref nb32, .int 0])), (np32, .inl (cMP32, 40, .inl (fun _ => 0))), (nd32, .inl (cMD32, 40, .inl (fun _ => 0))), (nl32, .inl (cML32, 40, .inl (fun _ => 0))), (nk32, .inl (cMI32, 64, .inl (fun _ => 0))), (nu32, .inl (cMU32, 64, .inl (fun _ => 0))), (nt32, .inl (cMT32, 512, .inl (fun _ => 0))), (nc32, .inl (cMC32, 100, .inr (.inl (fun _ => 0)))), (nf32, .inl (cMF32, 100, .inl (fun _ => 0))), (nb32, .inl (cMB32, 100, .inl (fun _ => 0)))]) hP hD [13] [0, 1, 2, 3, 4, 5, 6, 7, 8, 9, 10, 11, 12] rfl rfl (by decide) (by decide) hk1 hFc hP1 hD1
  have hK := hK.app hK1
  generalize H1 = H at hP hS ⊢
  have hP : va_P (dC, dI) vwCl [(q_0, .inr (3, [.int (zn_cl w0 (nI 5000)), .int (zn_cl w1 (nI 8)), .ref hR14, .ref hT14, .ref hC14, .int 0])), (hR14, .inr (2, [.ref hp14, .ref hq14, .ref hi14, .int 0])), (hp14, .inl (cP14, 40, .inl (fun _ => 0))), (hq14, .inl (cQ14, 40, .inl (fun _ => 0))), (hi14, .inl (cS14, 40, .inl (fun _ => 0))), (hT14, .inr (0, [.ref hs14, .ref hu14, .ref ho14, .int 0])), (hs14, .inl (cI14, 64, .inl (fun _ => 0))), (hu14, .inl (cU14, 512, .inl (zn_fill (-5001) 512))), (ho14, .inl (cO14, 64, .inl (fun _ => 0))), (hC14, .inr (1, [.ref hn14, .ref ha14, .ref hk14, .int 0])), (hn14, .inl (cN14, 100, .inr (.inl (fun _ => 0)))), (ha14, .inl (cA14, 100, .inl (fun _ => 0))), (hk14, .inl (cK14, 100, .inl (fun _ => 0))), (q_18, .inr (4, [.int 0, .int (zn_cl w0 (nI 5000)), .int (zn_cl w1 (nI 8)), .int 0, .ref np32, .ref nd32, .ref nl32, .int 0, .ref nk32, .ref nu32, .ref nt32, .int 0, .ref nc32, .ref nf32, .ref nb32, .int 0])), (np32, .inl (cMP32, 40, .inl (fun _ => 0))), (nd32, .inl (cMD32, 40, .inl (fun _ => 0))), (nl32, .inl (cML32, 40, .inl (fun _ => 0))), (nk32, .inl (cMI32, 64, .inl (fun _ => 0))), (nu32, .inl (cMU32, 64, .inl (fun _ => 0))), (nt32, .inl (cMT32, 512, .inl (fun _ => 0))), (nc32, .inl (cMC32, 100, .inr (.inl (fun _ => 0)))), (nf32, .inl (cMF32, 100, .inl (fun _ => 0))), (nb32, .inl (cMB32, 100, .inl (fun _ => 0)))] H := hP
  have hD : va_D A [(q_0, .inr (3, [.int (zn_cl w0 (nI 5000)), .int (zn_cl w1 (nI 8)), .ref hR14, .ref hT14, .ref hC14, .int 0])), (hR14, .inr (2, [.ref hp14, .ref hq14, .ref hi14, .int 0])), (hp14, .inl (cP14, 40, .inl (fun _ => 0))), (hq14, .inl (cQ14, 40, .inl (fun _ => 0))), (hi14, .inl (cS14, 40, .inl (fun _ => 0))), (hT14, .inr (0, [.ref hs14, .ref hu14, .ref ho14, .int 0])), (hs14, .inl (cI14, 64, .inl (fun _ => 0))), (hu14, .inl (cU14, 512, .inl (zn_fill (-5001) 512))), (ho14, .inl (cO14, 64, .inl (fun _ => 0))), (hC14, .inr (1, [.ref hn14, .ref ha14, .ref hk14, .int 0])), (hn14, .inl (cN14, 100, .inr (.inl (fun _ => 0)))), (ha14, .inl (cA14, 100, .inl (fun _ => 0))), (hk14, .inl (cK14, 100, .inl (fun _ => 0))), (q_18, .inr (4, [.int 0, .int (zn_cl w0 (nI 5000)), .int (zn_cl w1 (nI 8)), .int 0, .ref np32, .ref nd32, .ref nl32, .int 0, .ref nk32, .ref nu32, .ref nt32, .int 0, .ref nc32, .ref nf32, .ref nb32, .int 0])), (np32, .inl (cMP32, 40, .inl (fun _ => 0))), (nd32, .inl (cMD32, 40, .inl (fun _ => 0))), (nl32, .inl (cML32, 40, .inl (fun _ => 0))), (nk32, .inl (cMI32, 64, .inl (fun _ => 0))), (nu32, .inl (cMU32, 64, .inl (fun _ => 0))), (nt32, .inl (cMT32, 512, .inl (fun _ => 0))), (nc32, .inl (cMC32, 100, .inr (.inl (fun _ => 0)))), (nf32, .inl (cMF32, 100, .inl (fun _ => 0))), (nb32, .inl (cMB32, 100, .inl (fun _ => 0)))] := hD
  have hK : va_K (dC, dI) vwCl [(cP14, .int), (cQ14, .int), (cS14, .int), (cI14, .int), (cU14, .int), (cO14, .int), (cN14, .long), (cA14, .int), (cK14, .boolean), (cMP32, .int), (cMD32, .int), (cML32, .int), (cMI32, .int), (cMU32, .int), (cMT32, .int), (cMC32, .long), (cMF32, .int), (cMB32, .boolean)] s := hK
  refine lv_astore_n (lv' := [(2, .ref q_18), (1, .ref q_0), (0, .ref b)]) hx hb d_LW_law_35 rfl hl (by decide) rfl (fun ls hl => ?_)
  refine lv_iconst (v := 1) hx hb d_LW_law_36 (by decide) ?_
  refine va_newa (atype := .long) (a0 := (1, .inr (.inl (fun _ => 0)))) (ty := .long) (N' := 1) hx hb (htB _ ma_long) rfl hK hP hD hS hA (fun _ => rfl) (by decide) rfl (by decide) (Nat.le_of_ble_eq_true rfl) (Nat.le_of_ble_eq_true rfl) d_LW_law_37 (fun q_37 c_37A H hK hP hD hS => ?_)
  have hP : va_P (dC, dI) vwCl [(q_0, .inr (3, [.int (zn_cl w0 (nI 5000)), .int (zn_cl w1 (nI 8)), .ref hR14, .ref hT14, .ref hC14, .int 0])), (hR14, .inr (2, [.ref hp14, .ref hq14, .ref hi14, .int 0])), (hp14, .inl (cP14, 40, .inl (fun _ => 0))), (hq14, .inl (cQ14, 40, .inl (fun _ => 0))), (hi14, .inl (cS14, 40, .inl (fun _ => 0))), (hT14, .inr (0, [.ref hs14, .ref hu14, .ref ho14, .int 0])), (hs14, .inl (cI14, 64, .inl (fun _ => 0))), (hu14, .inl (cU14, 512, .inl (zn_fill (-5001) 512))), (ho14, .inl (cO14, 64, .inl (fun _ => 0))), (hC14, .inr (1, [.ref hn14, .ref ha14, .ref hk14, .int 0])), (hn14, .inl (cN14, 100, .inr (.inl (fun _ => 0)))), (ha14, .inl (cA14, 100, .inl (fun _ => 0))), (hk14, .inl (cK14, 100, .inl (fun _ => 0))), (q_18, .inr (4, [.int 0, .int (zn_cl w0 (nI 5000)), .int (zn_cl w1 (nI 8)), .int 0, .ref np32, .ref nd32, .ref nl32, .int 0, .ref nk32, .ref nu32, .ref nt32, .int 0, .ref nc32, .ref nf32, .ref nb32, .int 0])), (np32, .inl (cMP32, 40, .inl (fun _ => 0))), (nd32, .inl (cMD32, 40, .inl (fun _ => 0))), (nl32, .inl (cML32, 40, .inl (fun _ => 0))), (nk32, .inl (cMI32, 64, .inl (fun _ => 0))), (nu32, .inl (cMU32, 64, .inl (fun _ => 0))), (nt32, .inl (cMT32, 512, .inl (fun _ => 0))), (nc32, .inl (cMC32, 100, .inr (.inl (fun _ => 0)))), (nf32, .inl (cMF32, 100, .inl (fun _ => 0))), (nb32, .inl (cMB32, 100, .inl (fun _ => 0))), (q_37, .inl (c_37A, 1, .inr (.inl (fun _ => 0))))] H := hP
  have hD : va_D A [(q_0, .inr (3, [.int (zn_cl w0 (nI 5000)), .int (zn_cl w1 (nI 8)), .ref hR14, .ref hT14, .ref hC14, .int 0])), (hR14, .inr (2, [.ref hp14, .ref hq14, .ref hi14, .int 0])), (hp14, .inl (cP14, 40, .inl (fun _ => 0))), (hq14, .inl (cQ14, 40, .inl (fun _ => 0))), (hi14, .inl (cS14, 40, .inl (fun _ => 0))), (hT14, .inr (0, [.ref hs14, .ref hu14, .ref ho14, .int 0])), (hs14, .inl (cI14, 64, .inl (fun _ => 0))), (hu14, .inl (cU14, 512, .inl (zn_fill (-5001) 512))), (ho14, .inl (cO14, 64, .inl (fun _ => 0))), (hC14, .inr (1, [.ref hn14, .ref ha14, .ref hk14, .int 0])), (hn14, .inl (cN14, 100, .inr (.inl (fun _ => 0)))), (ha14, .inl (cA14, 100, .inl (fun _ => 0))), (hk14, .inl (cK14, 100, .inl (fun _ => 0))), (q_18, .inr (4, [.int 0, .int (zn_cl w0 (nI 5000)), .int (zn_cl w1 (nI 8)), .int 0, .ref np32, .ref nd32, .ref nl32, .int 0, .ref nk32, .ref nu32, .ref nt32, .int 0, .ref nc32, .ref nf32, .ref nb32, .int 0])), (np32, .inl (cMP32, 40, .inl (fun _ => 0))), (nd32, .inl (cMD32, 40, .inl (fun _ => 0))), (nl32, .inl (cML32, 40, .inl (fun _ => 0))), (nk32, .inl (cMI32, 64, .inl (fun _ => 0))), (nu32, .inl (cMU32, 64, .inl (fun _ => 0))), (nt32, .inl (cMT32, 512, .inl (fun _ => 0))), (nc32, .inl (cMC32, 100, .inr (.inl (fun _ => 0)))), (nf32, .inl (cMF32, 100, .inl (fun _ => 0))), (nb32, .inl (cMB32, 100, .inl (fun _ => 0))), (q_37, .inl (c_37A, 1, .inr (.inl (fun _ => 0))))] := hD
  have hK : va_K (dC, dI) vwCl [(cP14, .int), (cQ14, .int), (cS14, .int), (cI14, .int), (cU14, .int), (cO14, .int), (cN14, .long), (cA14, .int), (cK14, .boolean), (cMP32, .int), (cMD32, .int), (cML32, .int), (cMI32, .int), (cMU32, .int), (cMT32, .int), (cMC32, .long), (cMF32, .int), (cMB32, .boolean), (c_37A, .long)] s := hK
  refine lv_astore_n (lv' := [(3, .ref q_37), (2, .ref q_18), (1, .ref q_0), (0, .ref b)]) hx hb d_LW_law_39 rfl hl (by decide) rfl (fun ls hl => ?_)
  refine lv_iconst (v := 2) hx hb d_LW_law_40 (by decide) ?_
  refine lv_istore (lv' := [(4, .int 2), (3, .ref q_37), (2, .ref q_18), (1, .ref q_0), (0, .ref b)]) hx hb d_LW_law_41 hl (by decide) rfl (fun ls hl => ?_)
  refine W.widen (k := 24 + 0) (n := 2155 + 6 * 0) (by omega) (by omega) ?_
  exact law_loop l hl0 hL C0 hSt hnc dC dI A hAn q_0 hR14 hp14 hq14 hi14 hT14 hs14 hu14 ho14 hC14 hn14 ha14 hk14 q_18 np32 nd32 nl32 nk32 nu32 nt32 nc32 nf32 nb32 q_37 cP14 cQ14 cS14 cI14 cU14 cO14 cN14 cA14 cK14 cMP32 cMD32 cML32 cMI32 cMU32 cMT32 cMC32 cMF32 cMB32 c_37A (zn_cl w0 (nI 5000)) (zn_cl w1 (nI 8)) (zn_cl_in w0 (by decide) (by decide)) hK 512 0 0 (fun _ => 0) (fun _ => 0) (fun _ => 0) 0 (fun _ => 0) (zn_fill (-5001) 512) (fun _ => 0) (fun _ => 0) (fun _ => 0) 0 (fun _ => 0) (fun _ => 0) (fun _ => 0) 0 0 (fun _ => 0) _ _ _ (by omega) (by omega) zI_0 hP hD hS (lv_sub hl [0, 4, 3, 2, 1] rfl)
