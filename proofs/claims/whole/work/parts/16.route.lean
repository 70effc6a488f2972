theorem zu_self {f : Nat → Int32} {i : Nat} {v : Int32} (h : f i = v) : upd f i v = f := by
  funext j
  by_cases e : j = i
  · subst e; rw [pk_us, h]
  · rw [pk_un e]
theorem zi_of {x : Int32} {n : Nat} (h : 0 ≤ x.toInt ∧ x.toInt < n) : x = nI x.toInt.toNat ∧ x.toInt.toNat < n := by
  have hn : x.toInt < 2 ^ 31 := Int32.toInt_lt x
  refine ⟨Int32.toInt_inj.mp ?_, by omega⟩
  rw [nI_toInt (by omega)]
  omega
theorem zi_64 {x y : Int32} (h : x.toInt64 = y.toInt64) : x = y := by
  have h1 := congrArg Int64.toInt32 h
  rwa [lg_l2i_i2l, lg_l2i_i2l] at h1
theorem zl_of {x : Int64} {a b : Nat} (ha : 1 ≤ a) (h : zok_D x a b) : x = lN (zd_N x) ∧ zd_N x < 2 ^ 63 ∧ 0 < zd_N x := by
  rcases zd_of (x := x) with h0 | ⟨k, hk, rfl⟩
  · have h1 := h.1
    rw [zd_neg h0, zd_dg0] at h1
    omega
  · rw [zd_lN hk]
    refine ⟨rfl, hk, ?_⟩
    rcases Nat.eq_zero_or_pos k with e | e
    · have h1 := h.1
      rw [zd_lN hk, e, zd_dg0] at h1
      omega
    · exact e
theorem zd_pw : ∀ (K k n : Nat), n < 10 ^ K → zd_dg K n ≤ k → n < 10 ^ k
  | 0, k, n, h, _ => Nat.lt_of_lt_of_le h (Nat.pow_le_pow_right (by decide) (Nat.zero_le k))
  | K + 1, k, n, h, hd => by
    simp only [zd_dg] at hd
    split at hd
    · rename_i e; rw [e]; exact Nat.pow_pos (by decide)
    · cases k with
      | zero => omega
      | succ k =>
        have h1 := zd_pw K k (n / 10) (by rw [Nat.pow_succ] at h; omega) (by omega)
        rw [Nat.pow_succ]; omega
/-- the place of a route, or how many there are -/
def zr_at (rc : Nat) (rp rl : Nat → Int32) (y z : Int32) : Nat := zf_ix (fun j => decide (rl j = z ∧ (rp j).toInt64 = y.toInt64)) rc
theorem zr_le (rc : Nat) (rp rl : Nat → Int32) (y z : Int32) : zr_at rc rp rl y z ≤ rc := zf_le _ _
theorem zr_is {rc : Nat} {rp rl : Nat → Int32} {y z : Int32} (h : zr_at rc rp rl y z < rc) : rp (zr_at rc rp rl y z) = y ∧ rl (zr_at rc rp rl y z) = z := by
  have h1 := (zf_spec (fun j => decide (rl j = z ∧ (rp j).toInt64 = y.toInt64)) rc).1 h
  simp only [decide_eq_true_eq] at h1
  exact ⟨zi_64 h1.2, h1.1⟩
set_option maxHeartbeats 4000000 in
set_option maxRecDepth 100000 in
theorem c_CD_route (l : Launch) (dC : Nat → ClassId) (dI : Nat → Nat → Nat) (hl0 : l.stackTraces = false) (hX : Nat) (wi ma no : Int32) (hR hp hq hi : Nat) (cP cQ cS : ClassId) (rc : Nat) (rp rl ri : Nat → Int32) (hrc : rc ≤ 40) (hT hs hu ho : Nat) (cI cU cO : ClassId) (ac : Nat) (ai ut ol : Nat → Int32) (hac : ac ≤ 64) (hC hn ha hk : Nat) (cN cA cK : ClassId) (cc : Nat) (cn : Nat → Int64) (ca cb : Nat → Int32) (hcc : cc ≤ 100) (hri : ∀ j, j < rc → ¬ ri j = -1) (x y z : Int32) (hD0 : va_D (fun _ => True) [(hX, .inr (3, [.int wi, .int ma, .ref hR, .ref hT, .ref hC, .int no])), (hR, .inr (2, [.ref hp, .ref hq, .ref hi, .int (nI rc)])), (hp, .inl (cP, 40, .inl rp)), (hq, .inl (cQ, 40, .inl rl)), (hi, .inl (cS, 40, .inl ri)), (hT, .inr (0, [.ref hs, .ref hu, .ref ho, .int (nI ac)])), (hs, .inl (cI, 64, .inl ai)), (hu, .inl (cU, 512, .inl ut)), (ho, .inl (cO, 64, .inl ol)), (hC, .inr (1, [.ref hn, .ref ha, .ref hk, .int (nI cc)])), (hn, .inl (cN, 100, .inr (.inl cn))), (ha, .inl (cA, 100, .inl ca)), (hk, .inl (cK, 100, .inl cb))]) : MetT l y_CD_route (zw y_CD_route b_CD_route 5 (some .int)) ({ frames := 7, cells := 1, slots := 6, locals := 103 }) (zPreT [.ref hX, .int x, .int y, .int z] (dC, dI) [(hX, .inr (3, [.int wi, .int ma, .ref hR, .ref hT, .ref hC, .int no])), (hR, .inr (2, [.ref hp, .ref hq, .ref hi, .int (nI rc)])), (hp, .inl (cP, 40, .inl rp)), (hq, .inl (cQ, 40, .inl rl)), (hi, .inl (cS, 40, .inl ri)), (hT, .inr (0, [.ref hs, .ref hu, .ref ho, .int (nI ac)])), (hs, .inl (cI, 64, .inl ai)), (hu, .inl (cU, 512, .inl ut)), (ho, .inl (cO, 64, .inl ol)), (hC, .inr (1, [.ref hn, .ref ha, .ref hk, .int (nI cc)])), (hn, .inl (cN, 100, .inr (.inl cn))), (ha, .inl (cA, 100, .inl ca)), (hk, .inl (cK, 100, .inl cb))] [(cP, .int), (cQ, .int), (cS, .int), (cI, .int), (cU, .int), (cO, .int), (cN, .long), (cA, .int), (cK, .boolean)]) (zt_Q3 (S := Unit) (if (0 ≤ x.toInt ∧ x.toInt < 6) ∧ zok_P y z then (if zr_at rc rp rl y z < rc ∨ rc < 40 then 0 else 2) else 1) (fun _ => some (.int (if zr_at rc rp rl y z < rc then ri (zr_at rc rp rl y z) else -1))) (fun (_ : Unit) (t : State) => va_P (dC, dI) vwCl [(hX, .inr (3, [.int wi, .int ma, .ref hR, .ref hT, .ref hC, .int no])), (hR, .inr (2, [.ref hp, .ref hq, .ref hi, .int (nI (if zr_at rc rp rl y z < rc then rc else rc + 1))])), (hp, .inl (cP, 40, .inl (upd rp (zr_at rc rp rl y z) y))), (hq, .inl (cQ, 40, .inl (upd rl (zr_at rc rp rl y z) z))), (hi, .inl (cS, 40, .inl (upd ri (zr_at rc rp rl y z) x))), (hT, .inr (0, [.ref hs, .ref hu, .ref ho, .int (nI ac)])), (hs, .inl (cI, 64, .inl ai)), (hu, .inl (cU, 512, .inl ut)), (ho, .inl (cO, 64, .inl ol)), (hC, .inr (1, [.ref hn, .ref ha, .ref hk, .int (nI cc)])), (hn, .inl (cN, 100, .inr (.inl cn))), (ha, .inl (cA, 100, .inl ca)), (hk, .inl (cK, 100, .inl cb))] t.heap) (zA [(hX, .inr (3, [.int wi, .int ma, .ref hR, .ref hT, .ref hC, .int no])), (hR, .inr (2, [.ref hp, .ref hq, .ref hi, .int (nI rc)])), (hp, .inl (cP, 40, .inl rp)), (hq, .inl (cQ, 40, .inl rl)), (hi, .inl (cS, 40, .inl ri)), (hT, .inr (0, [.ref hs, .ref hu, .ref ho, .int (nI ac)])), (hs, .inl (cI, 64, .inl ai)), (hu, .inl (cU, 512, .inl ut)), (ho, .inl (cO, 64, .inl ol)), (hC, .inr (1, [.ref hn, .ref ha, .ref hk, .int (nI cc)])), (hn, .inl (cN, 100, .inr (.inl cn))), (ha, .inl (cA, 100, .inl ca)), (hk, .inl (cK, 100, .inl cb))])) 0 0 (zA [(hX, .inr (3, [.int wi, .int ma, .ref hR, .ref hT, .ref hC, .int no])), (hR, .inr (2, [.ref hp, .ref hq, .ref hi, .int (nI rc)])), (hp, .inl (cP, 40, .inl rp)), (hq, .inl (cQ, 40, .inl rl)), (hi, .inl (cS, 40, .inl ri)), (hT, .inr (0, [.ref hs, .ref hu, .ref ho, .int (nI ac)])), (hs, .inl (cI, 64, .inl ai)), (hu, .inl (cU, 512, .inl ut)), (ho, .inl (cO, 64, .inl ol)), (hC, .inr (1, [.ref hn, .ref ha, .ref hk, .int (nI cc)])), (hn, .inl (cN, 100, .inr (.inl cn))), (ha, .inl (cA, 100, .inl ca)), (hk, .inl (cK, 100, .inl cb))]) := by
  refine zt_ofW (cc := b_CD_route) (maxL := 5) (ret := (some .int)) (by decide) rfl ?_
  intro p e s m args below meth c s₁ B hml hout hv
  obtain ⟨rfl, ⟨hP, hK⟩, hSt⟩ := hv
  have hx := B.exec
  have hb := B.bytes
  have hr := B.returns
  have hts := atoms_spec (ws := (zw y_CD_route b_CD_route 5 (some .int))) B.pre
  have htB : ∀ w ∈ BG, w.before ([.ref hX, .int x, .int y, .int z] : List Value).toArray s = true := fun w h => hts w (List.mem_cons_of_mem _ h)
  have hown : s.vm.findClass R_CD = some m.cls := findClass_of_methodNamed B.named
  have hlocks := B.notSynchronized
  have htr : e.platform.stackTraces = false := (show e.platform.stackTraces = l.stackTraces by rw [B.admits.platform]).trans hl0
  have CF : CallFix p m c b_CD_route 5 s ([.ref hX, .int x, .int y, .int z] : List Value).toArray BG R_CD := ⟨hx, hb, hml, hown, htB⟩
  have hP : va_P (dC, dI) vwCl [(hX, .inr (3, [.int wi, .int ma, .ref hR, .ref hT, .ref hC, .int no])), (hR, .inr (2, [.ref hp, .ref hq, .ref hi, .int (nI rc)])), (hp, .inl (cP, 40, .inl rp)), (hq, .inl (cQ, 40, .inl rl)), (hi, .inl (cS, 40, .inl ri)), (hT, .inr (0, [.ref hs, .ref hu, .ref ho, .int (nI ac)])), (hs, .inl (cI, 64, .inl ai)), (hu, .inl (cU, 512, .inl ut)), (ho, .inl (cO, 64, .inl ol)), (hC, .inr (1, [.ref hn, .ref ha, .ref hk, .int (nI cc)])), (hn, .inl (cN, 100, .inr (.inl cn))), (ha, .inl (cA, 100, .inl ca)), (hk, .inl (cK, 100, .inl cb))] s.heap := hP
  have hl := lv_entry [.ref hX, .int x, .int y, .int z] (n := 5) (Nat.le_of_ble_eq_true rfl)
  rw [lg_entry_eq]
  generalize (lg_sl [.ref hX, .int x, .int y, .int z] ++ List.replicate (5 - (lg_sl [.ref hX, .int x, .int y, .int z]).length) Slot.unset).toArray = ls at hl ⊢
  have hl : lv_has ls 5 [(0, .ref hX), (1, .int x), (2, .int y), (3, .int z)] := hl
  have hD : va_D (zA [(hX, .inr (3, [.int wi, .int ma, .ref hR, .ref hT, .ref hC, .int no])), (hR, .inr (2, [.ref hp, .ref hq, .ref hi, .int (nI rc)])), (hp, .inl (cP, 40, .inl rp)), (hq, .inl (cQ, 40, .inl rl)), (hi, .inl (cS, 40, .inl ri)), (hT, .inr (0, [.ref hs, .ref hu, .ref ho, .int (nI ac)])), (hs, .inl (cI, 64, .inl ai)), (hu, .inl (cU, 512, .inl ut)), (ho, .inl (cO, 64, .inl ol)), (hC, .inr (1, [.ref hn, .ref ha, .ref hk, .int (nI cc)])), (hn, .inl (cN, 100, .inr (.inl cn))), (ha, .inl (cA, 100, .inl ca)), (hk, .inl (cK, 100, .inl cb))]) [(hX, .inr (3, [.int wi, .int ma, .ref hR, .ref hT, .ref hC, .int no])), (hR, .inr (2, [.ref hp, .ref hq, .ref hi, .int (nI rc)])), (hp, .inl (cP, 40, .inl rp)), (hq, .inl (cQ, 40, .inl rl)), (hi, .inl (cS, 40, .inl ri)), (hT, .inr (0, [.ref hs, .ref hu, .ref ho, .int (nI ac)])), (hs, .inl (cI, 64, .inl ai)), (hu, .inl (cU, 512, .inl ut)), (ho, .inl (cO, 64, .inl ol)), (hC, .inr (1, [.ref hn, .ref ha, .ref hk, .int (nI cc)])), (hn, .inl (cN, 100, .inr (.inl cn))), (ha, .inl (cA, 100, .inl ca)), (hk, .inl (cK, 100, .inl cb))] := zA_of hD0
  have hS : va_S (zA [(hX, .inr (3, [.int wi, .int ma, .ref hR, .ref hT, .ref hC, .int no])), (hR, .inr (2, [.ref hp, .ref hq, .ref hi, .int (nI rc)])), (hp, .inl (cP, 40, .inl rp)), (hq, .inl (cQ, 40, .inl rl)), (hi, .inl (cS, 40, .inl ri)), (hT, .inr (0, [.ref hs, .ref hu, .ref ho, .int (nI ac)])), (hs, .inl (cI, 64, .inl ai)), (hu, .inl (cU, 512, .inl ut)), (ho, .inl (cO, 64, .inl ol)), (hC, .inr (1, [.ref hn, .ref ha, .ref hk, .int (nI cc)])), (hn, .inl (cN, 100, .inr (.inl cn))), (ha, .inl (cA, 100, .inl ca)), (hk, .inl (cK, 100, .inl cb))]) s.heap s.heap [] := va_S.rf
  generalize zA [(hX, .inr (3, [.int wi, .int ma, .ref hR, .ref hT, .ref hC, .int no])), (hR, .inr (2, [.ref hp, .ref hq, .ref hi, .int (nI rc)])), (hp, .inl (cP, 40, .inl rp)), (hq, .inl (cQ, 40, .inl rl)), (hi, .inl (cS, 40, .inl ri)), (hT, .inr (0, [.ref hs, .ref hu, .ref ho, .int (nI ac)])), (hs, .inl (cI, 64, .inl ai)), (hu, .inl (cU, 512, .inl ut)), (ho, .inl (cO, 64, .inl ol)), (hC, .inr (1, [.ref hn, .ref ha, .ref hk, .int (nI cc)])), (hn, .inl (cN, 100, .inr (.inl cn))), (ha, .inl (cA, 100, .inl ca)), (hk, .inl (cK, 100, .inl cb))] = A at hD hS ⊢
  have hle := zr_le rc rp rl y z
  refine lv_iload_n hx hb d_CD_route_0 rfl (lv_at hl 1 rfl) ?_
  refine zt_callv (zr_TS (n := 1) (As := [.int x]) (rest := []) CF (c_CD_requireIssuer l dC dI hl0 x) mc_CD_requireIssuer lk_CD_49 mt_CD_requireIssuer ni_CD (by decide +kernel) ⟨Nat.le_of_ble_eq_true rfl, Nat.le_of_ble_eq_true rfl⟩ (hP.sub (ws' := []) [] rfl) (hK.sub (tys' := []) [] rfl) hSt (fun _ _ => rfl) rfl rfl hl.1 rfl (lv_room (Nat.le_of_ble_eq_true rfl)) d_CD_route_1 ⟨Nat.le_of_ble_eq_true rfl, Nat.le_of_ble_eq_true rfl⟩) (fun hI => ?_) (fun x H1 hno hth => zt_leave (fun t ht hW => Or.inr (Or.inl ⟨by rw [if_neg (fun h => hno h.1)], x, rfl, hth.to ht hW⟩)) (fun _ h => by cases h) (fun z hz => hout z hz _) hlocks (Nat.le_of_ble_eq_true rfl) (Nat.le_of_ble_eq_true rfl))
  refine lv_iload_n hx hb d_CD_route_4 rfl (lv_at hl 2 rfl) ?_
  refine lv_iload_n hx hb d_CD_route_5 rfl (lv_at hl 3 rfl) ?_
  refine zt_callv (zr_TS (n := 2) (As := [.int y, .int z]) (rest := []) CF (c_CD_requirePrefix l dC dI hl0 y z) mc_CD_requirePrefix lk_CD_53 mt_CD_requirePrefix ni_CD (by decide +kernel) ⟨Nat.le_of_ble_eq_true rfl, Nat.le_of_ble_eq_true rfl⟩ (hP.sub (ws' := []) [] rfl) (hK.sub (tys' := []) [] rfl) hSt (fun _ _ => rfl) rfl rfl hl.1 rfl (lv_room (Nat.le_of_ble_eq_true rfl)) d_CD_route_6 ⟨Nat.le_of_ble_eq_true rfl, Nat.le_of_ble_eq_true rfl⟩) (fun hPx => ?_) (fun x H1 hno hth => zt_leave (fun t ht hW => Or.inr (Or.inl ⟨by rw [if_neg (fun h => hno h.2)], x, rfl, hth.to ht hW⟩)) (fun _ h => by cases h) (fun z hz => hout z hz _) hlocks (Nat.le_of_ble_eq_true rfl) (Nat.le_of_ble_eq_true rfl))
  refine lv_aload_n hx hb d_CD_route_9 rfl (lv_at hl 0 rfl) ?_
  refine va_get (D := (dC, dI)) (ci := 3) (v := .ref hR) (C := R_CD) (T := T_CD) (N := 6) hx hb htB i_CD hown hK hP 0 rfl rfl 2 (by decide) (htB _ lf_CD_28) (fun _ h9 => h9) rfl d_CD_route_10 ?_
  refine lv_iload_n hx hb d_CD_route_13 rfl (lv_at hl 2 rfl) ?_
  refine lv_i2l (v := y.toInt64) hx hb d_CD_route_14 rfl ?_
  refine lv_iload_n hx hb d_CD_route_15 rfl (lv_at hl 3 rfl) ?_
  refine vp_callSi (va_Run.run (zr_V (n := 2) (As := [.long y.toInt64, .int z]) (rest := []) CF (c_RT_find l dC dI hR hp hq hi cP cQ cS rc rp rl ri hrc y.toInt64 z) mc_RT_find lk_CD_57 mi_RT_find ms_RT_find ni_RT rfl rfl (by decide +kernel) ⟨Nat.le_of_ble_eq_true rfl, Nat.le_of_ble_eq_true rfl⟩ (hP.sub (ws' := [(hR, .inr (2, [.ref hp, .ref hq, .ref hi, .int (nI rc)])), (hp, .inl (cP, 40, .inl rp)), (hq, .inl (cQ, 40, .inl rl)), (hi, .inl (cS, 40, .inl ri))]) [1, 2, 3, 4] rfl) (hK.sub (tys' := [(cP, .int), (cQ, .int), (cS, .int)]) [0, 1, 2] rfl) rfl rfl rfl hl.1 rfl (lv_room (Nat.le_of_ble_eq_true rfl)) d_CD_route_16 ⟨Nat.zero_le _, Nat.zero_le _⟩)) (fun r_16 h_16 => ?_)
  subst h_16
  refine lv_istore (lv' := [(4, .int (zf_r (fun j => decide (rl j = z ∧ (rp j).toInt64 = y.toInt64)) rc)), (0, .ref hX), (1, .int x), (2, .int y), (3, .int z)]) hx hb d_CD_route_19 hl (by decide) rfl (fun ls hl => ?_)
  refine lv_iload hx hb d_CD_route_21 (lv_at hl 0 rfl) ?_
  refine lv_iconst (v := (-1)) hx hb d_CD_route_23 (by decide) ?_
  refine lv_icmp_eq (tgt := 38) hx hb d_CD_route_24 (by decide) (fun c_24 => ?_) (fun c_24 => ?_)
  · have hix : ¬ zr_at rc rp rl y z < rc := fun h => zf_m1 (show zr_at rc rp rl y z < 2 ^ 31 by omega) ((if_pos h).symm.trans c_24)
    have hrceq : zr_at rc rp rl y z = rc := by omega
    refine lv_aload_n hx hb d_CD_route_38 rfl (lv_at hl 1 rfl) ?_
    refine va_get (D := (dC, dI)) (ci := 3) (v := .ref hR) (C := R_CD) (T := T_CD) (N := 6) hx hb htB i_CD hown hK hP 0 rfl rfl 2 (by decide) (htB _ lf_CD_28) (fun _ h9 => h9) rfl d_CD_route_39 ?_
    refine vp_callSi (va_Run.run (zr_V (n := 0) (As := []) (rest := []) CF (c_RT_isFull l dC dI hR hp hq hi cP cQ cS rc rp rl ri hrc) mc_RT_isFull lk_CD_64 mi_RT_isFull ms_RT_isFull ni_RT rfl rfl (by decide +kernel) ⟨Nat.le_of_ble_eq_true rfl, Nat.le_of_ble_eq_true rfl⟩ (hP.sub (ws' := [(hR, .inr (2, [.ref hp, .ref hq, .ref hi, .int (nI rc)])), (hp, .inl (cP, 40, .inl rp)), (hq, .inl (cQ, 40, .inl rl)), (hi, .inl (cS, 40, .inl ri))]) [1, 2, 3, 4] rfl) (hK.sub (tys' := [(cP, .int), (cQ, .int), (cS, .int)]) [0, 1, 2] rfl) rfl rfl rfl hl.1 rfl (lv_room (Nat.le_of_ble_eq_true rfl)) d_CD_route_42 ⟨Nat.zero_le _, Nat.zero_le _⟩)) (fun r_42 h_42 => ?_)
    refine lv_if_eq (tgt := 58) hx hb d_CD_route_45 (by decide) (fun c_45 => ?_) (fun c_45 => ?_)
    · have h40 : rc < 40 := Nat.not_le.mp (fun h => by rw [h_42, if_pos h] at c_45; exact absurd c_45 (by decide))
      refine lv_aload_n hx hb d_CD_route_58 rfl (lv_at hl 1 rfl) ?_
      refine va_get (D := (dC, dI)) (ci := 3) (v := .ref hR) (C := R_CD) (T := T_CD) (N := 6) hx hb htB i_CD hown hK hP 0 rfl rfl 2 (by decide) (htB _ lf_CD_28) (fun _ h9 => h9) rfl d_CD_route_59 ?_
      refine lv_iload_n hx hb d_CD_route_62 rfl (lv_at hl 2 rfl) ?_
      refine lv_iload_n hx hb d_CD_route_63 rfl (lv_at hl 3 rfl) ?_
      refine lv_iload_n hx hb d_CD_route_64 rfl (lv_at hl 4 rfl) ?_
      refine va_callv (zr_V (n := 3) (As := [.int x, .int y, .int z]) (rest := []) CF (c_RT_add l dC dI hR hp hq hi cP cQ cS rc rp rl ri hrc h40 x y z ((hD.sub (ws' := [(hR, .inr (2, [.ref hp, .ref hq, .ref hi, .int (nI rc)])), (hp, .inl (cP, 40, .inl rp)), (hq, .inl (cQ, 40, .inl rl)), (hi, .inl (cS, 40, .inl ri))]) [1, 2, 3, 4] (by decide) rfl).weaken (fun _ _ _ _ => trivial))) mc_RT_add lk_CD_75 mi_RT_add ms_RT_add ni_RT rfl rfl (by decide +kernel) ⟨Nat.le_of_ble_eq_true rfl, Nat.le_of_ble_eq_true rfl⟩ (hP.sub (ws' := [(hR, .inr (2, [.ref hp, .ref hq, .ref hi, .int (nI rc)])), (hp, .inl (cP, 40, .inl rp)), (hq, .inl (cQ, 40, .inl rl)), (hi, .inl (cS, 40, .inl ri))]) [1, 2, 3, 4] rfl) (hK.sub (tys' := [(cP, .int), (cQ, .int), (cS, .int)]) [0, 1, 2] rfl) rfl rfl rfl hl.1 rfl (lv_room (Nat.le_of_ble_eq_true rfl)) d_CD_route_65 ⟨Nat.zero_le _, Nat.zero_le _⟩) hS (fun q _ h => zA_sub hD (wc := [(hR, .inr (2, [.ref hp, .ref hq, .ref hi, .int (nI rc)])), (hp, .inl (cP, 40, .inl rp)), (hq, .inl (cQ, 40, .inl rl)), (hi, .inl (cS, 40, .inl ri))]) [1, 2, 3, 4] rfl h) (fun q h => zA_sub hD (wc := [(hR, .inr (2, [.ref hp, .ref hq, .ref hi, .int (nI rc)])), (hp, .inl (cP, 40, .inl rp)), (hq, .inl (cQ, 40, .inl rl)), (hi, .inl (cS, 40, .inl ri))]) [1, 2, 3, 4] rfl h) (fun u t H1 locs1 ht hvm hw_65 hB hz hk9 hS => ?_)
      have hP1 : va_P (dC, dI) vwCl [(hR, .inr (2, [.ref hp, .ref hq, .ref hi, .int (nI (rc + 1))])), (hp, .inl (cP, 40, .inl (upd rp rc y))), (hq, .inl (cQ, 40, .inl (upd rl rc z))), (hi, .inl (cS, 40, .inl (upd ri rc x)))] H1 := by
        have h9 : va_P (dC, dI) vwCl [(hR, .inr (2, [.ref hp, .ref hq, .ref hi, .int (nI (rc + 1))])), (hp, .inl (cP, 40, .inl (upd rp rc y))), (hq, .inl (cQ, 40, .inl (upd rl rc z))), (hi, .inl (cS, 40, .inl (upd ri rc x)))] t.heap := hB
        rw [ht] at h9
        exact h9
      have hP : va_P (dC, dI) vwCl [(hX, .inr (3, [.int wi, .int ma, .ref hR, .ref hT, .ref hC, .int no])), (hR, .inr (2, [.ref hp, .ref hq, .ref hi, .int (nI (rc + 1))])), (hp, .inl (cP, 40, .inl (upd rp rc y))), (hq, .inl (cQ, 40, .inl (upd rl rc z))), (hi, .inl (cS, 40, .inl (upd ri rc x))), (hT, .inr (0, [.ref hs, .ref hu, .ref ho, .int (nI ac)])), (hs, .inl (cI, 64, .inl ai)), (hu, .inl (cU, 512, .inl ut)), (ho, .inl (cO, 64, .inl ol)), (hC, .inr (1, [.ref hn, .ref ha, .ref hk, .int (nI cc)])), (hn, .inl (cN, 100, .inr (.inl cn))), (ha, .inl (cA, 100, .inl ca)), (hk, .inl (cK, 100, .inl cb))] H1 := zj (wc := [(hR, .inr (2, [.ref hp, .ref hq, .ref hi, .int (nI rc)])), (hp, .inl (cP, 40, .inl rp)), (hq, .inl (cQ, 40, .inl rl)), (hi, .inl (cS, 40, .inl ri))]) hP hD [1, 2, 3, 4] rfl hP1 hk9 rfl rfl
      have hD : va_D A [(hX, .inr (3, [.int wi, .int ma, .ref hR, .ref hT, .ref hC, .int no])), (hR, .inr (2, [.ref hp, .ref hq, .ref hi, .int (nI (rc + 1))])), (hp, .inl (cP, 40, .inl (upd rp rc y))), (hq, .inl (cQ, 40, .inl (upd rl rc z))), (hi, .inl (cS, 40, .inl (upd ri rc x))), (hT, .inr (0, [.ref hs, .ref hu, .ref ho, .int (nI ac)])), (hs, .inl (cI, 64, .inl ai)), (hu, .inl (cU, 512, .inl ut)), (ho, .inl (cO, 64, .inl ol)), (hC, .inr (1, [.ref hn, .ref ha, .ref hk, .int (nI cc)])), (hn, .inl (cN, 100, .inr (.inl cn))), (ha, .inl (cA, 100, .inl ca)), (hk, .inl (cK, 100, .inl cb))] := zD_of (ws := [(hX, .inr (3, [.int wi, .int ma, .ref hR, .ref hT, .ref hC, .int no])), (hR, .inr (2, [.ref hp, .ref hq, .ref hi, .int (nI rc)])), (hp, .inl (cP, 40, .inl rp)), (hq, .inl (cQ, 40, .inl rl)), (hi, .inl (cS, 40, .inl ri)), (hT, .inr (0, [.ref hs, .ref hu, .ref ho, .int (nI ac)])), (hs, .inl (cI, 64, .inl ai)), (hu, .inl (cU, 512, .inl ut)), (ho, .inl (cO, 64, .inl ol)), (hC, .inr (1, [.ref hn, .ref ha, .ref hk, .int (nI cc)])), (hn, .inl (cN, 100, .inr (.inl cn))), (ha, .inl (cA, 100, .inl ca)), (hk, .inl (cK, 100, .inl cb))]) rfl hD
      generalize H1 = H at hP hS ⊢
      refine lv_iconst (v := (-1)) hx hb d_CD_route_68 (by decide) ?_
      exact zt_ret (W.iret (v := -1) hx hb hr (fun t ht hW => Or.inl ⟨by rw [if_pos ⟨hI, hPx⟩, if_pos (Or.inr h40)], (), by rw [if_neg hix], by show va_P _ _ _ t.heap; rw [ht]; rw [if_neg hix, hrceq]; exact hP, hS.F ht⟩) hS.2.2 d_CD_route_69)
    · have h40 : ¬ rc < 40 := fun h => c_45 (by rw [h_42, if_neg (by omega)])
      exact zt_new hx hb htr (own := R_CD) (cls := zISE) (names := zUp) hown (by decide +kernel) (by decide +kernel) (zt_words zw_ISE htB hSt) (htB _ lc_CD_68) (htB _ nn_ISE) (htB _ ni_ISE) (htB _ sr_CD_70) hl.1 hml d_CD_route_48 d_CD_route_51 d_CD_route_52 d_CD_route_54 d_CD_route_57 hout hlocks rfl (Nat.le_of_ble_eq_true rfl) (Nat.le_of_ble_eq_true rfl) (Nat.le_of_ble_eq_true rfl) (Nat.le_of_ble_eq_true rfl) (fun x t hT hW => Or.inr (Or.inr ⟨by rw [if_pos ⟨hI, hPx⟩, if_neg (fun h => h.elim hix h40)], x, rfl, hT⟩)) (Nat.le_of_ble_eq_true rfl) (Nat.le_of_ble_eq_true rfl)
  · have hix : zr_at rc rp rl y z < rc := Classical.byContradiction fun h => c_24 (if_neg h)
    refine lv_aload_n hx hb d_CD_route_27 rfl (lv_at hl 1 rfl) ?_
    refine va_get (D := (dC, dI)) (ci := 3) (v := .ref hR) (C := R_CD) (T := T_CD) (N := 6) hx hb htB i_CD hown hK hP 0 rfl rfl 2 (by decide) (htB _ lf_CD_28) (fun _ h9 => h9) rfl d_CD_route_28 ?_
    refine lv_iload hx hb d_CD_route_31 (lv_at hl 0 rfl) ?_
    refine lv_iload_n hx hb d_CD_route_33 rfl (lv_at hl 2 rfl) ?_
    rw [show (zf_r (fun j => decide (rl j = z ∧ (rp j).toInt64 = y.toInt64)) rc : Int32) = nI (zr_at rc rp rl y z) from if_pos hix]
    refine va_calli (zr_V (n := 2) (As := [.int (nI (zr_at rc rp rl y z)), .int x]) (rest := []) CF (c_RT_redirect l dC dI hR hp hq hi cP cQ cS rc rp rl ri hrc (zr_at rc rp rl y z) hix (hri _ hix) x ((hD.sub (ws' := [(hR, .inr (2, [.ref hp, .ref hq, .ref hi, .int (nI rc)])), (hp, .inl (cP, 40, .inl rp)), (hq, .inl (cQ, 40, .inl rl)), (hi, .inl (cS, 40, .inl ri))]) [1, 2, 3, 4] (by decide) rfl).weaken (fun _ _ _ _ => trivial))) mc_RT_redirect lk_CD_61 mi_RT_redirect ms_RT_redirect ni_RT rfl rfl (by decide +kernel) ⟨Nat.le_of_ble_eq_true rfl, Nat.le_of_ble_eq_true rfl⟩ (hP.sub (ws' := [(hR, .inr (2, [.ref hp, .ref hq, .ref hi, .int (nI rc)])), (hp, .inl (cP, 40, .inl rp)), (hq, .inl (cQ, 40, .inl rl)), (hi, .inl (cS, 40, .inl ri))]) [1, 2, 3, 4] rfl) (hK.sub (tys' := [(cP, .int), (cQ, .int), (cS, .int)]) [0, 1, 2] rfl) rfl rfl rfl hl.1 rfl (lv_room (Nat.le_of_ble_eq_true rfl)) d_CD_route_34 ⟨Nat.zero_le _, Nat.zero_le _⟩) hS (fun q _ h => zA_sub hD (wc := [(hR, .inr (2, [.ref hp, .ref hq, .ref hi, .int (nI rc)])), (hp, .inl (cP, 40, .inl rp)), (hq, .inl (cQ, 40, .inl rl)), (hi, .inl (cS, 40, .inl ri))]) [1, 2, 3, 4] rfl h) (fun q h => zA_sub hD (wc := [(hR, .inr (2, [.ref hp, .ref hq, .ref hi, .int (nI rc)])), (hp, .inl (cP, 40, .inl rp)), (hq, .inl (cQ, 40, .inl rl)), (hi, .inl (cS, 40, .inl ri))]) [1, 2, 3, 4] rfl h) (fun r_34 u t H1 locs1 ht hvm hw_34 hB hz hk9 hS => ?_)
    have hP1 : va_P (dC, dI) vwCl [(hR, .inr (2, [.ref hp, .ref hq, .ref hi, .int (nI rc)])), (hp, .inl (cP, 40, .inl rp)), (hq, .inl (cQ, 40, .inl rl)), (hi, .inl (cS, 40, .inl (upd ri (zr_at rc rp rl y z) x)))] H1 := by
      have h9 : va_P (dC, dI) vwCl [(hR, .inr (2, [.ref hp, .ref hq, .ref hi, .int (nI rc)])), (hp, .inl (cP, 40, .inl rp)), (hq, .inl (cQ, 40, .inl rl)), (hi, .inl (cS, 40, .inl (upd ri (zr_at rc rp rl y z) x)))] t.heap := hB
      rw [ht] at h9
      exact h9
    have hP : va_P (dC, dI) vwCl [(hX, .inr (3, [.int wi, .int ma, .ref hR, .ref hT, .ref hC, .int no])), (hR, .inr (2, [.ref hp, .ref hq, .ref hi, .int (nI rc)])), (hp, .inl (cP, 40, .inl rp)), (hq, .inl (cQ, 40, .inl rl)), (hi, .inl (cS, 40, .inl (upd ri (zr_at rc rp rl y z) x))), (hT, .inr (0, [.ref hs, .ref hu, .ref ho, .int (nI ac)])), (hs, .inl (cI, 64, .inl ai)), (hu, .inl (cU, 512, .inl ut)), (ho, .inl (cO, 64, .inl ol)), (hC, .inr (1, [.ref hn, .ref ha, .ref hk, .int (nI cc)])), (hn, .inl (cN, 100, .inr (.inl cn))), (ha, .inl (cA, 100, .inl ca)), (hk, .inl (cK, 100, .inl cb))] H1 := zj (wc := [(hR, .inr (2, [.ref hp, .ref hq, .ref hi, .int (nI rc)])), (hp, .inl (cP, 40, .inl rp)), (hq, .inl (cQ, 40, .inl rl)), (hi, .inl (cS, 40, .inl ri))]) hP hD [1, 2, 3, 4] rfl hP1 hk9 rfl rfl
    have hD : va_D A [(hX, .inr (3, [.int wi, .int ma, .ref hR, .ref hT, .ref hC, .int no])), (hR, .inr (2, [.ref hp, .ref hq, .ref hi, .int (nI rc)])), (hp, .inl (cP, 40, .inl rp)), (hq, .inl (cQ, 40, .inl rl)), (hi, .inl (cS, 40, .inl (upd ri (zr_at rc rp rl y z) x))), (hT, .inr (0, [.ref hs, .ref hu, .ref ho, .int (nI ac)])), (hs, .inl (cI, 64, .inl ai)), (hu, .inl (cU, 512, .inl ut)), (ho, .inl (cO, 64, .inl ol)), (hC, .inr (1, [.ref hn, .ref ha, .ref hk, .int (nI cc)])), (hn, .inl (cN, 100, .inr (.inl cn))), (ha, .inl (cA, 100, .inl ca)), (hk, .inl (cK, 100, .inl cb))] := zD_of (ws := [(hX, .inr (3, [.int wi, .int ma, .ref hR, .ref hT, .ref hC, .int no])), (hR, .inr (2, [.ref hp, .ref hq, .ref hi, .int (nI rc)])), (hp, .inl (cP, 40, .inl rp)), (hq, .inl (cQ, 40, .inl rl)), (hi, .inl (cS, 40, .inl ri)), (hT, .inr (0, [.ref hs, .ref hu, .ref ho, .int (nI ac)])), (hs, .inl (cI, 64, .inl ai)), (hu, .inl (cU, 512, .inl ut)), (ho, .inl (cO, 64, .inl ol)), (hC, .inr (1, [.ref hn, .ref ha, .ref hk, .int (nI cc)])), (hn, .inl (cN, 100, .inr (.inl cn))), (ha, .inl (cA, 100, .inl ca)), (hk, .inl (cK, 100, .inl cb))]) rfl hD
    generalize H1 = H at hP hS ⊢
    subst hw_34
    exact zt_ret (W.iret (v := ri (zr_at rc rp rl y z)) hx hb hr (fun t ht hW => Or.inl ⟨by rw [if_pos ⟨hI, hPx⟩, if_pos (Or.inl hix)], (), by rw [if_pos hix], by show va_P _ _ _ t.heap; rw [ht]; rw [if_pos hix, zu_self (zr_is hix).1, zu_self (zr_is hix).2]; exact hP, hS.F ht⟩) hS.2.2 d_CD_route_37)
