/-- the length of the longest route that fits -/
def zf_len (rc : Nat) (rp rl : Nat → Int32) : Nat → Nat → Nat
  | 0, _ => 0
  | d + 1, b => if d + 1 ≤ 8 ∧ zf_ix (zf_m rp rl b (d + 1)) rc < rc then d + 1 else zf_len rc rp rl d (b / 10)
theorem zf_len_le (rc : Nat) (rp rl : Nat → Int32) : ∀ (d b : Nat), zf_len rc rp rl d b ≤ d
  | 0, _ => by simp [zf_len]
  | d + 1, b => by
    have := zf_len_le rc rp rl d (b / 10)
    rw [zf_len]; split <;> omega
theorem zf_iss0 (rp rl ri : Nat → Int32) : ∀ (d b : Nat), zf_iss 0 rp rl ri d b = -1
  | 0, _ => rfl
  | d + 1, b => by rw [zf_iss, if_neg (fun h => absurd h.2 (by simp [zf_ix]))]; exact zf_iss0 rp rl ri d (b / 10)
theorem zf_len0 (rp rl : Nat → Int32) : ∀ (d b : Nat), zf_len 0 rp rl d b = 0
  | 0, _ => rfl
  | d + 1, b => by rw [zf_len, if_neg (fun h => absurd h.2 (by simp [zf_ix]))]; exact zf_len0 rp rl d (b / 10)
/-- one route more -/
theorem zf_step {k L : Nat} {rp rl ri : Nat → Int32} (h1 : 1 ≤ L) (h8 : L ≤ 8) (eL : rl k = nI L) : ∀ (d b : Nat),
    (L ≤ d ∧ (rp k).toInt64 = lN (zd_sh (d - L) b) ∧ zf_len k rp rl d b < L → zf_iss (k + 1) rp rl ri d b = ri k ∧ zf_len (k + 1) rp rl d b = L) ∧
    (¬ (L ≤ d ∧ (rp k).toInt64 = lN (zd_sh (d - L) b) ∧ zf_len k rp rl d b < L) → zf_iss (k + 1) rp rl ri d b = zf_iss k rp rl ri d b ∧ zf_len (k + 1) rp rl d b = zf_len k rp rl d b)
  | 0, b => ⟨fun h => absurd h.1 (by omega), fun _ => ⟨rfl, rfl⟩⟩
  | d + 1, b => by
    have ih := zf_step (rp := rp) (ri := ri) h1 h8 eL d (b / 10)
    by_cases hA : d + 1 ≤ 8 ∧ zf_ix (zf_m rp rl b (d + 1)) k < k
    · have e1 : zf_ix (zf_m rp rl b (d + 1)) (k + 1) = zf_ix (zf_m rp rl b (d + 1)) k := by simp only [zf_ix]; rw [if_pos hA.2]
      have hk1 : d + 1 ≤ 8 ∧ zf_ix (zf_m rp rl b (d + 1)) (k + 1) < k + 1 := ⟨hA.1, by rw [e1]; omega⟩
      have el : zf_len k rp rl (d + 1) b = d + 1 := by rw [zf_len, if_pos hA]
      refine ⟨fun h => absurd h.2.2 (by rw [el]; omega), fun _ => ⟨?_, ?_⟩⟩
      · rw [zf_iss, if_pos hk1, e1, zf_iss, if_pos hA]
      · rw [zf_len, if_pos hk1, el]
    · have el : zf_len k rp rl (d + 1) b = zf_len k rp rl d (b / 10) := by rw [zf_len, if_neg hA]
      have ei : zf_iss k rp rl ri (d + 1) b = zf_iss k rp rl ri d (b / 10) := by rw [zf_iss, if_neg hA]
      by_cases hB : d + 1 ≤ 8 ∧ zf_m rp rl b (d + 1) k = true
      · have hn : ¬ zf_ix (zf_m rp rl b (d + 1)) k < k := fun h => hA ⟨hB.1, h⟩
        have e1 : zf_ix (zf_m rp rl b (d + 1)) (k + 1) = k := by simp only [zf_ix]; rw [if_neg hn, if_pos hB.2]
        have hm := hB.2
        simp only [zf_m, decide_eq_true_eq] at hm
        have eLd : L = d + 1 := (nI_eq (by omega) (by omega)).mp (eL.symm.trans hm.1)
        have hk1 : d + 1 ≤ 8 ∧ zf_ix (zf_m rp rl b (d + 1)) (k + 1) < k + 1 := ⟨hB.1, by rw [e1]; omega⟩
        have hle := zf_len_le k rp rl d (b / 10)
        refine ⟨fun _ => ⟨by rw [zf_iss, if_pos hk1, e1], by rw [zf_len, if_pos hk1, eLd]⟩, fun h => absurd ⟨by omega, ?_, by rw [el]; omega⟩ h⟩
        rw [eLd, Nat.sub_self]; exact hm.2
      · have e1 : ¬ (d + 1 ≤ 8 ∧ zf_ix (zf_m rp rl b (d + 1)) (k + 1) < k + 1) := fun h => by
          have h2 := h.2
          simp only [zf_ix] at h2
          rw [if_neg (fun q => hA ⟨h.1, q⟩), if_neg (fun q => hB ⟨h.1, q⟩)] at h2
          omega
        have el1 : zf_len (k + 1) rp rl (d + 1) b = zf_len (k + 1) rp rl d (b / 10) := by rw [zf_len, if_neg e1]
        have ei1 : zf_iss (k + 1) rp rl ri (d + 1) b = zf_iss (k + 1) rp rl ri d (b / 10) := by rw [zf_iss, if_neg e1]
        have hiff : (L ≤ d + 1 ∧ (rp k).toInt64 = lN (zd_sh (d + 1 - L) b) ∧ zf_len k rp rl (d + 1) b < L) ↔ (L ≤ d ∧ (rp k).toInt64 = lN (zd_sh (d - L) (b / 10)) ∧ zf_len k rp rl d (b / 10) < L) := by
          rw [el]
          by_cases e : L = d + 1
          · constructor
            · intro h
              refine absurd ⟨by omega, ?_⟩ hB
              simp only [zf_m, decide_eq_true_eq]
              refine ⟨by rw [eL, e], ?_⟩
              have h2 := h.2.1
              rw [e, Nat.sub_self] at h2
              exact h2
            · intro h; omega
          · constructor
            · intro h
              have h2 := h.2.1
              have h3 := h.1
              rw [show d + 1 - L = (d - L) + 1 by omega] at h2
              exact ⟨by omega, h2, h.2.2⟩
            · intro h
              refine ⟨by omega, ?_, h.2.2⟩
              have h3 := h.1
              rw [show d + 1 - L = (d - L) + 1 by omega]
              exact h.2.1
        rw [hiff, ei1, el1, ei, el]
        exact ih
theorem zf_rk {P : Nat → Bool} {k : Nat} (h : P k = false) : zf_r P (k + 1) = zf_r P k := by
  have hle := zf_le P k
  unfold zf_r
  by_cases hk : zf_ix P k < k
  · have e1 : zf_ix P (k + 1) = zf_ix P k := by simp only [zf_ix]; rw [if_pos hk]
    rw [e1, if_pos hk, if_pos (by omega)]
  · have e1 : zf_ix P (k + 1) = k + 1 := by simp only [zf_ix]; rw [if_neg hk, h]; rfl
    rw [e1, if_neg hk, if_neg (by omega)]
set_option maxHeartbeats 4000000 in
set_option maxRecDepth 100000 in
theorem c_MO_thrown (l : Launch) (dC : Nat → ClassId) (dI : Nat → Nat → Nat) (hM np nd nl nk nu nt nc nf nb : Nat) (cMP cMD cML cMI cMU cMT cMC cMF cMB : ClassId) (co wi ma no : Int32) (rc : Nat) (rp rl ri : Nat → Int32) (hrc : rc ≤ 40) (ac : Nat) (ai us ua : Nat → Int32) (hac : ac ≤ 64) (cc : Nat) (cn : Nat → Int64) (ca cb : Nat → Int32) (hcc : cc ≤ 100) : Met l y_MO_thrown (zw y_MO_thrown b_MO_thrown 1 (some .int)) ({ frames := 0, cells := 0, slots := 0, locals := 0 }) (zPre [.ref hM] (dC, dI) [(hM, .inr (4, [.int co, .int wi, .int ma, .int (nI rc), .ref np, .ref nd, .ref nl, .int (nI ac), .ref nk, .ref nu, .ref nt, .int (nI cc), .ref nc, .ref nf, .ref nb, .int no]))] []) (vp_Si (fun r => r = co)) 0 0 (fun _ => False) := by
  refine Met.ofW (cc := b_MO_thrown) (maxL := 1) (ret := (some .int)) (by decide) rfl ?_
  intro p e s m args below meth c s₁ B hml hv
  obtain ⟨rfl, hP, hK⟩ := hv
  have hx := B.exec
  have hb := B.bytes
  have hr := B.returns
  have hts := atoms_spec (ws := (zw y_MO_thrown b_MO_thrown 1 (some .int))) B.pre
  have htB : ∀ w ∈ BG, w.before ([.ref hM] : List Value).toArray s = true := fun w h => hts w (List.mem_cons_of_mem _ h)
  have hown : s.vm.findClass R_MO = some m.cls := findClass_of_methodNamed B.named
  have hlocks := B.notSynchronized
  have CF : CallFix p m c b_MO_thrown 1 s ([.ref hM] : List Value).toArray BG R_MO := ⟨hx, hb, hml, hown, htB⟩
  have hP : va_P (dC, dI) vwCl [(hM, .inr (4, [.int co, .int wi, .int ma, .int (nI rc), .ref np, .ref nd, .ref nl, .int (nI ac), .ref nk, .ref nu, .ref nt, .int (nI cc), .ref nc, .ref nf, .ref nb, .int no]))] s.heap := hP
  have hl := lv_entry [.ref hM] (n := 1) (Nat.le_of_ble_eq_true rfl)
  rw [lg_entry_eq]
  generalize (lg_sl [.ref hM] ++ List.replicate (1 - (lg_sl [.ref hM]).length) Slot.unset).toArray = ls at hl ⊢
  have hl : lv_has ls 1 [(0, .ref hM)] := hl
  refine lv_aload_n hx hb d_MO_thrown_0 rfl (lv_at hl 0 rfl) ?_
  refine va_get (D := (dC, dI)) (ci := 4) (v := .int co) (C := R_MO) (T := T_MO) (N := 16) hx hb htB i_MO hown hK hP 0 rfl rfl 0 (by decide) (htB _ lf_MO_46) (fun _ h9 => h9) rfl d_MO_thrown_1 ?_
  exact W.iret (v := co) hx hb hr (fun t ht hW => ⟨_, rfl, rfl, ht⟩) (fun _ h => by cases h) d_MO_thrown_4
set_option maxHeartbeats 4000000 in
set_option maxRecDepth 100000 in
theorem c_MO_goes_a (l : Launch) (dC : Nat → ClassId) (dI : Nat → Nat → Nat) (hM np nd nl nk nu nt nc nf nb : Nat) (cMP cMD cML cMI cMU cMT cMC cMF cMB : ClassId) (co wi ma no : Int32) (rc : Nat) (rp rl ri : Nat → Int32) (hrc : rc ≤ 40) (ac : Nat) (ai us ua : Nat → Int32) (hac : ac ≤ 64) (cc : Nat) (cn : Nat → Int64) (ca cb : Nat → Int32) (hcc : cc ≤ 100) (g : Int32) (hD0 : va_D (fun _ => True) [(hM, .inr (4, [.int co, .int wi, .int ma, .int (nI rc), .ref np, .ref nd, .ref nl, .int (nI ac), .ref nk, .ref nu, .ref nt, .int (nI cc), .ref nc, .ref nf, .ref nb, .int no]))]) : Met l y_MO_goes (zw y_MO_goes b_MO_goes 3 (some .boolean)) ({ frames := 0, cells := 0, slots := 0, locals := 0 }) (zPre [.ref hM, .int 0, .int g] (dC, dI) [(hM, .inr (4, [.int co, .int wi, .int ma, .int (nI rc), .ref np, .ref nd, .ref nl, .int (nI ac), .ref nk, .ref nu, .ref nt, .int (nI cc), .ref nc, .ref nf, .ref nb, .int no]))] []) (va_Qi (fun (r : Int32) (_ : Unit) => r = 0) (fun (_ : Unit) (t : State) => va_P (dC, dI) vwCl [(hM, .inr (4, [.int 1, .int wi, .int ma, .int (nI rc), .ref np, .ref nd, .ref nl, .int (nI ac), .ref nk, .ref nu, .ref nt, .int (nI cc), .ref nc, .ref nf, .ref nb, .int no]))] t.heap) (zA [(hM, .inr (4, [.int co, .int wi, .int ma, .int (nI rc), .ref np, .ref nd, .ref nl, .int (nI ac), .ref nk, .ref nu, .ref nt, .int (nI cc), .ref nc, .ref nf, .ref nb, .int no]))])) 0 0 (zA [(hM, .inr (4, [.int co, .int wi, .int ma, .int (nI rc), .ref np, .ref nd, .ref nl, .int (nI ac), .ref nk, .ref nu, .ref nt, .int (nI cc), .ref nc, .ref nf, .ref nb, .int no]))]) := by
  refine Met.ofW (cc := b_MO_goes) (maxL := 3) (ret := (some .boolean)) (by decide) rfl ?_
  intro p e s m args below meth c s₁ B hml hv
  obtain ⟨rfl, hP, hK⟩ := hv
  have hx := B.exec
  have hb := B.bytes
  have hr := B.returns
  have hts := atoms_spec (ws := (zw y_MO_goes b_MO_goes 3 (some .boolean))) B.pre
  have htB : ∀ w ∈ BG, w.before ([.ref hM, .int 0, .int g] : List Value).toArray s = true := fun w h => hts w (List.mem_cons_of_mem _ h)
  have hown : s.vm.findClass R_MO = some m.cls := findClass_of_methodNamed B.named
  have hlocks := B.notSynchronized
  have CF : CallFix p m c b_MO_goes 3 s ([.ref hM, .int 0, .int g] : List Value).toArray BG R_MO := ⟨hx, hb, hml, hown, htB⟩
  have hP : va_P (dC, dI) vwCl [(hM, .inr (4, [.int co, .int wi, .int ma, .int (nI rc), .ref np, .ref nd, .ref nl, .int (nI ac), .ref nk, .ref nu, .ref nt, .int (nI cc), .ref nc, .ref nf, .ref nb, .int no]))] s.heap := hP
  have hl := lv_entry [.ref hM, .int 0, .int g] (n := 3) (Nat.le_of_ble_eq_true rfl)
  rw [lg_entry_eq]
  generalize (lg_sl [.ref hM, .int 0, .int g] ++ List.replicate (3 - (lg_sl [.ref hM, .int 0, .int g]).length) Slot.unset).toArray = ls at hl ⊢
  have hl : lv_has ls 3 [(0, .ref hM), (1, .int 0), (2, .int g)] := hl
  have hD : va_D (zA [(hM, .inr (4, [.int co, .int wi, .int ma, .int (nI rc), .ref np, .ref nd, .ref nl, .int (nI ac), .ref nk, .ref nu, .ref nt, .int (nI cc), .ref nc, .ref nf, .ref nb, .int no]))]) [(hM, .inr (4, [.int co, .int wi, .int ma, .int (nI rc), .ref np, .ref nd, .ref nl, .int (nI ac), .ref nk, .ref nu, .ref nt, .int (nI cc), .ref nc, .ref nf, .ref nb, .int no]))] := zA_of hD0
  have hS : va_S (zA [(hM, .inr (4, [.int co, .int wi, .int ma, .int (nI rc), .ref np, .ref nd, .ref nl, .int (nI ac), .ref nk, .ref nu, .ref nt, .int (nI cc), .ref nc, .ref nf, .ref nb, .int no]))]) s.heap s.heap [] := va_S.rf
  generalize zA [(hM, .inr (4, [.int co, .int wi, .int ma, .int (nI rc), .ref np, .ref nd, .ref nl, .int (nI ac), .ref nk, .ref nu, .ref nt, .int (nI cc), .ref nc, .ref nf, .ref nb, .int no]))] = A at hD hS ⊢
  refine lv_aload_n hx hb d_MO_goes_0 rfl (lv_at hl 0 rfl) ?_
  refine lv_iload_n hx hb d_MO_goes_1 rfl (lv_at hl 1 rfl) ?_
  refine lv_if_ne (tgt := 9) hx hb d_MO_goes_2 (by decide) (fun c_2 => ?_) (fun c_2 => ?_)
  · exact absurd rfl c_2
  · refine lv_iconst (v := 1) hx hb d_MO_goes_5 (by decide) ?_
    refine lv_goto (tgt := 18) hx hb d_MO_goes_6 (by decide) ?_
    refine va_put (D := (dC, dI)) (ci := 4) (v := .int 1) (ty := .int) (C := R_MO) (T := T_MO) (N := 16) hx hb htB i_MO t_MO tk_MO n_MO hown hK hP hD hS 0 rfl rfl 0 (by decide) (htB _ lf_MO_46) (fun _ h9 => h9) rfl (by decide +kernel) rfl rfl (Nat.le_of_ble_eq_true rfl) d_MO_goes_18 (fun H locs hP hD hS => ?_)
    have hP : va_P (dC, dI) vwCl [(hM, .inr (4, [.int 1, .int wi, .int ma, .int (nI rc), .ref np, .ref nd, .ref nl, .int (nI ac), .ref nk, .ref nu, .ref nt, .int (nI cc), .ref nc, .ref nf, .ref nb, .int no]))] H := hP
    have hD : va_D A [(hM, .inr (4, [.int 1, .int wi, .int ma, .int (nI rc), .ref np, .ref nd, .ref nl, .int (nI ac), .ref nk, .ref nu, .ref nt, .int (nI cc), .ref nc, .ref nf, .ref nb, .int no]))] := hD
    refine lv_aload_n hx hb d_MO_goes_21 rfl (lv_at hl 0 rfl) ?_
    refine va_get (D := (dC, dI)) (ci := 4) (v := .int 1) (C := R_MO) (T := T_MO) (N := 16) hx hb htB i_MO hown hK hP 0 rfl rfl 0 (by decide) (htB _ lf_MO_46) (fun _ h9 => h9) rfl d_MO_goes_22 ?_
    refine lv_if_ne (tgt := 32) hx hb d_MO_goes_25 (by decide) (fun c_25 => ?_) (fun c_25 => ?_)
    · refine lv_iconst (v := 0) hx hb d_MO_goes_32 (by decide) ?_
      exact W.zret (v := 0) (ty := .boolean) hx hb hr (by rfl) (fun t ht hW => ⟨⟨_, (), rfl, rfl, by show va_P _ _ _ t.heap; rw [ht]; exact hP⟩, hS.F ht⟩) hS.2.2 d_MO_goes_33
    · exact absurd c_25 (by decide)
set_option maxHeartbeats 4000000 in
set_option maxRecDepth 100000 in
theorem c_MO_goes_b (l : Launch) (dC : Nat → ClassId) (dI : Nat → Nat → Nat) (hM np nd nl nk nu nt nc nf nb : Nat) (cMP cMD cML cMI cMU cMT cMC cMF cMB : ClassId) (co wi ma no : Int32) (rc : Nat) (rp rl ri : Nat → Int32) (hrc : rc ≤ 40) (ac : Nat) (ai us ua : Nat → Int32) (hac : ac ≤ 64) (cc : Nat) (cn : Nat → Int64) (ca cb : Nat → Int32) (hcc : cc ≤ 100) (hD0 : va_D (fun _ => True) [(hM, .inr (4, [.int co, .int wi, .int ma, .int (nI rc), .ref np, .ref nd, .ref nl, .int (nI ac), .ref nk, .ref nu, .ref nt, .int (nI cc), .ref nc, .ref nf, .ref nb, .int no]))]) : Met l y_MO_goes (zw y_MO_goes b_MO_goes 3 (some .boolean)) ({ frames := 0, cells := 0, slots := 0, locals := 0 }) (zPre [.ref hM, .int 1, .int 0] (dC, dI) [(hM, .inr (4, [.int co, .int wi, .int ma, .int (nI rc), .ref np, .ref nd, .ref nl, .int (nI ac), .ref nk, .ref nu, .ref nt, .int (nI cc), .ref nc, .ref nf, .ref nb, .int no]))] []) (va_Qi (fun (r : Int32) (_ : Unit) => r = 0) (fun (_ : Unit) (t : State) => va_P (dC, dI) vwCl [(hM, .inr (4, [.int 2, .int wi, .int ma, .int (nI rc), .ref np, .ref nd, .ref nl, .int (nI ac), .ref nk, .ref nu, .ref nt, .int (nI cc), .ref nc, .ref nf, .ref nb, .int no]))] t.heap) (zA [(hM, .inr (4, [.int co, .int wi, .int ma, .int (nI rc), .ref np, .ref nd, .ref nl, .int (nI ac), .ref nk, .ref nu, .ref nt, .int (nI cc), .ref nc, .ref nf, .ref nb, .int no]))])) 0 0 (zA [(hM, .inr (4, [.int co, .int wi, .int ma, .int (nI rc), .ref np, .ref nd, .ref nl, .int (nI ac), .ref nk, .ref nu, .ref nt, .int (nI cc), .ref nc, .ref nf, .ref nb, .int no]))]) := by
  refine Met.ofW (cc := b_MO_goes) (maxL := 3) (ret := (some .boolean)) (by decide) rfl ?_
  intro p e s m args below meth c s₁ B hml hv
  obtain ⟨rfl, hP, hK⟩ := hv
  have hx := B.exec
  have hb := B.bytes
  have hr := B.returns
  have hts := atoms_spec (ws := (zw y_MO_goes b_MO_goes 3 (some .boolean))) B.pre
  have htB : ∀ w ∈ BG, w.before ([.ref hM, .int 1, .int 0] : List Value).toArray s = true := fun w h => hts w (List.mem_cons_of_mem _ h)
  have hown : s.vm.findClass R_MO = some m.cls := findClass_of_methodNamed B.named
  have hlocks := B.notSynchronized
  have CF : CallFix p m c b_MO_goes 3 s ([.ref hM, .int 1, .int 0] : List Value).toArray BG R_MO := ⟨hx, hb, hml, hown, htB⟩
  have hP : va_P (dC, dI) vwCl [(hM, .inr (4, [.int co, .int wi, .int ma, .int (nI rc), .ref np, .ref nd, .ref nl, .int (nI ac), .ref nk, .ref nu, .ref nt, .int (nI cc), .ref nc, .ref nf, .ref nb, .int no]))] s.heap := hP
  have hl := lv_entry [.ref hM, .int 1, .int 0] (n := 3) (Nat.le_of_ble_eq_true rfl)
  rw [lg_entry_eq]
  generalize (lg_sl [.ref hM, .int 1, .int 0] ++ List.replicate (3 - (lg_sl [.ref hM, .int 1, .int 0]).length) Slot.unset).toArray = ls at hl ⊢
  have hl : lv_has ls 3 [(0, .ref hM), (1, .int 1), (2, .int 0)] := hl
  have hD : va_D (zA [(hM, .inr (4, [.int co, .int wi, .int ma, .int (nI rc), .ref np, .ref nd, .ref nl, .int (nI ac), .ref nk, .ref nu, .ref nt, .int (nI cc), .ref nc, .ref nf, .ref nb, .int no]))]) [(hM, .inr (4, [.int co, .int wi, .int ma, .int (nI rc), .ref np, .ref nd, .ref nl, .int (nI ac), .ref nk, .ref nu, .ref nt, .int (nI cc), .ref nc, .ref nf, .ref nb, .int no]))] := zA_of hD0
  have hS : va_S (zA [(hM, .inr (4, [.int co, .int wi, .int ma, .int (nI rc), .ref np, .ref nd, .ref nl, .int (nI ac), .ref nk, .ref nu, .ref nt, .int (nI cc), .ref nc, .ref nf, .ref nb, .int no]))]) s.heap s.heap [] := va_S.rf
  generalize zA [(hM, .inr (4, [.int co, .int wi, .int ma, .int (nI rc), .ref np, .ref nd, .ref nl, .int (nI ac), .ref nk, .ref nu, .ref nt, .int (nI cc), .ref nc, .ref nf, .ref nb, .int no]))] = A at hD hS ⊢
  refine lv_aload_n hx hb d_MO_goes_0 rfl (lv_at hl 0 rfl) ?_
  refine lv_iload_n hx hb d_MO_goes_1 rfl (lv_at hl 1 rfl) ?_
  refine lv_if_ne (tgt := 9) hx hb d_MO_goes_2 (by decide) (fun c_2 => ?_) (fun c_2 => ?_)
  · refine lv_iload_n hx hb d_MO_goes_9 rfl (lv_at hl 2 rfl) ?_
    refine lv_if_ne (tgt := 17) hx hb d_MO_goes_10 (by decide) (fun c_10 => ?_) (fun c_10 => ?_)
    · exact absurd rfl c_10
    · refine lv_iconst (v := 2) hx hb d_MO_goes_13 (by decide) ?_
      refine lv_goto (tgt := 18) hx hb d_MO_goes_14 (by decide) ?_
      refine va_put (D := (dC, dI)) (ci := 4) (v := .int 2) (ty := .int) (C := R_MO) (T := T_MO) (N := 16) hx hb htB i_MO t_MO tk_MO n_MO hown hK hP hD hS 0 rfl rfl 0 (by decide) (htB _ lf_MO_46) (fun _ h9 => h9) rfl (by decide +kernel) rfl rfl (Nat.le_of_ble_eq_true rfl) d_MO_goes_18 (fun H locs hP hD hS => ?_)
      have hP : va_P (dC, dI) vwCl [(hM, .inr (4, [.int 2, .int wi, .int ma, .int (nI rc), .ref np, .ref nd, .ref nl, .int (nI ac), .ref nk, .ref nu, .ref nt, .int (nI cc), .ref nc, .ref nf, .ref nb, .int no]))] H := hP
      have hD : va_D A [(hM, .inr (4, [.int 2, .int wi, .int ma, .int (nI rc), .ref np, .ref nd, .ref nl, .int (nI ac), .ref nk, .ref nu, .ref nt, .int (nI cc), .ref nc, .ref nf, .ref nb, .int no]))] := hD
      refine lv_aload_n hx hb d_MO_goes_21 rfl (lv_at hl 0 rfl) ?_
      refine va_get (D := (dC, dI)) (ci := 4) (v := .int 2) (C := R_MO) (T := T_MO) (N := 16) hx hb htB i_MO hown hK hP 0 rfl rfl 0 (by decide) (htB _ lf_MO_46) (fun _ h9 => h9) rfl d_MO_goes_22 ?_
      refine lv_if_ne (tgt := 32) hx hb d_MO_goes_25 (by decide) (fun c_25 => ?_) (fun c_25 => ?_)
      · refine lv_iconst (v := 0) hx hb d_MO_goes_32 (by decide) ?_
        exact W.zret (v := 0) (ty := .boolean) hx hb hr (by rfl) (fun t ht hW => ⟨⟨_, (), rfl, rfl, by show va_P _ _ _ t.heap; rw [ht]; exact hP⟩, hS.F ht⟩) hS.2.2 d_MO_goes_33
      · exact absurd c_25 (by decide)
  · exact absurd c_2 (by decide)
set_option maxHeartbeats 4000000 in
set_option maxRecDepth 100000 in
theorem c_MO_goes_c (l : Launch) (dC : Nat → ClassId) (dI : Nat → Nat → Nat) (hM np nd nl nk nu nt nc nf nb : Nat) (cMP cMD cML cMI cMU cMT cMC cMF cMB : ClassId) (co wi ma no : Int32) (rc : Nat) (rp rl ri : Nat → Int32) (hrc : rc ≤ 40) (ac : Nat) (ai us ua : Nat → Int32) (hac : ac ≤ 64) (cc : Nat) (cn : Nat → Int64) (ca cb : Nat → Int32) (hcc : cc ≤ 100) (hD0 : va_D (fun _ => True) [(hM, .inr (4, [.int co, .int wi, .int ma, .int (nI rc), .ref np, .ref nd, .ref nl, .int (nI ac), .ref nk, .ref nu, .ref nt, .int (nI cc), .ref nc, .ref nf, .ref nb, .int no]))]) : Met l y_MO_goes (zw y_MO_goes b_MO_goes 3 (some .boolean)) ({ frames := 0, cells := 0, slots := 0, locals := 0 }) (zPre [.ref hM, .int 1, .int 1] (dC, dI) [(hM, .inr (4, [.int co, .int wi, .int ma, .int (nI rc), .ref np, .ref nd, .ref nl, .int (nI ac), .ref nk, .ref nu, .ref nt, .int (nI cc), .ref nc, .ref nf, .ref nb, .int no]))] []) (va_Qi (fun (r : Int32) (_ : Unit) => r = 1) (fun (_ : Unit) (t : State) => va_P (dC, dI) vwCl [(hM, .inr (4, [.int 0, .int wi, .int ma, .int (nI rc), .ref np, .ref nd, .ref nl, .int (nI ac), .ref nk, .ref nu, .ref nt, .int (nI cc), .ref nc, .ref nf, .ref nb, .int no]))] t.heap) (zA [(hM, .inr (4, [.int co, .int wi, .int ma, .int (nI rc), .ref np, .ref nd, .ref nl, .int (nI ac), .ref nk, .ref nu, .ref nt, .int (nI cc), .ref nc, .ref nf, .ref nb, .int no]))])) 0 0 (zA [(hM, .inr (4, [.int co, .int wi, .int ma, .int (nI rc), .ref np, .ref nd, .ref nl, .int (nI ac), .ref nk, .ref nu, .ref nt, .int (nI cc), .ref nc, .ref nf, .ref nb, .int no]))]) := by
  refine Met.ofW (cc := b_MO_goes) (maxL := 3) (ret := (some .boolean)) (by decide) rfl ?_
  intro p e s m args below meth c s₁ B hml hv
  obtain ⟨rfl, hP, hK⟩ := hv
  have hx := B.exec
  have hb := B.bytes
  have hr := B.returns
  have hts := atoms_spec (ws := (zw y_MO_goes b_MO_goes 3 (some .boolean))) B.pre
  have htB : ∀ w ∈ BG, w.before ([.ref hM, .int 1, .int 1] : List Value).toArray s = true := fun w h => hts w (List.mem_cons_of_mem _ h)
  have hown : s.vm.findClass R_MO = some m.cls := findClass_of_methodNamed B.named
  have hlocks := B.notSynchronized
  have CF : CallFix p m c b_MO_goes 3 s ([.ref hM, .int 1, .int 1] : List Value).toArray BG R_MO := ⟨hx, hb, hml, hown, htB⟩
  have hP : va_P (dC, dI) vwCl [(hM, .inr (4, [.int co, .int wi, .int ma, .int (nI rc), .ref np, .ref nd, .ref nl, .int (nI ac), .ref nk, .ref nu, .ref nt, .int (nI cc), .ref nc, .ref nf, .ref nb, .int no]))] s.heap := hP
  have hl := lv_entry [.ref hM, .int 1, .int 1] (n := 3) (Nat.le_of_ble_eq_true rfl)
  rw [lg_entry_eq]
  generalize (lg_sl [.ref hM, .int 1, .int 1] ++ List.replicate (3 - (lg_sl [.ref hM, .int 1, .int 1]).length) Slot.unset).toArray = ls at hl ⊢
  have hl : lv_has ls 3 [(0, .ref hM), (1, .int 1), (2, .int 1)] := hl
  have hD : va_D (zA [(hM, .inr (4, [.int co, .int wi, .int ma, .int (nI rc), .ref np, .ref nd, .ref nl, .int (nI ac), .ref nk, .ref nu, .ref nt, .int (nI cc), .ref nc, .ref nf, .ref nb, .int no]))]) [(hM, .inr (4, [.int co, .int wi, .int ma, .int (nI rc), .ref np, .ref nd, .ref nl, .int (nI ac), .ref nk, .ref nu, .ref nt, .int (nI cc), .ref nc, .ref nf, .ref nb, .int no]))] := zA_of hD0
  have hS : va_S (zA [(hM, .inr (4, [.int co, .int wi, .int ma, .int (nI rc), .ref np, .ref nd, .ref nl, .int (nI ac), .ref nk, .ref nu, .ref nt, .int (nI cc), .ref nc, .ref nf, .ref nb, .int no]))]) s.heap s.heap [] := va_S.rf
  generalize zA [(hM, .inr (4, [.int co, .int wi, .int ma, .int (nI rc), .ref np, .ref nd, .ref nl, .int (nI ac), .ref nk, .ref nu, .ref nt, .int (nI cc), .ref nc, .ref nf, .ref nb, .int no]))] = A at hD hS ⊢
  refine lv_aload_n hx hb d_MO_goes_0 rfl (lv_at hl 0 rfl) ?_
  refine lv_iload_n hx hb d_MO_goes_1 rfl (lv_at hl 1 rfl) ?_
  refine lv_if_ne (tgt := 9) hx hb d_MO_goes_2 (by decide) (fun c_2 => ?_) (fun c_2 => ?_)
  · refine lv_iload_n hx hb d_MO_goes_9 rfl (lv_at hl 2 rfl) ?_
    refine lv_if_ne (tgt := 17) hx hb d_MO_goes_10 (by decide) (fun c_10 => ?_) (fun c_10 => ?_)
    · refine lv_iconst (v := 0) hx hb d_MO_goes_17 (by decide) ?_
      refine va_put (D := (dC, dI)) (ci := 4) (v := .int 0) (ty := .int) (C := R_MO) (T := T_MO) (N := 16) hx hb htB i_MO t_MO tk_MO n_MO hown hK hP hD hS 0 rfl rfl 0 (by decide) (htB _ lf_MO_46) (fun _ h9 => h9) rfl (by decide +kernel) rfl rfl (Nat.le_of_ble_eq_true rfl) d_MO_goes_18 (fun H locs hP hD hS => ?_)
      have hP : va_P (dC, dI) vwCl [(hM, .inr (4, [.int 0, .int wi, .int ma, .int (nI rc), .ref np, .ref nd, .ref nl, .int (nI ac), .ref nk, .ref nu, .ref nt, .int (nI cc), .ref nc, .ref nf, .ref nb, .int no]))] H := hP
      have hD : va_D A [(hM, .inr (4, [.int 0, .int wi, .int ma, .int (nI rc), .ref np, .ref nd, .ref nl, .int (nI ac), .ref nk, .ref nu, .ref nt, .int (nI cc), .ref nc, .ref nf, .ref nb, .int no]))] := hD
      refine lv_aload_n hx hb d_MO_goes_21 rfl (lv_at hl 0 rfl) ?_
      refine va_get (D := (dC, dI)) (ci := 4) (v := .int 0) (C := R_MO) (T := T_MO) (N := 16) hx hb htB i_MO hown hK hP 0 rfl rfl 0 (by decide) (htB _ lf_MO_46) (fun _ h9 => h9) rfl d_MO_goes_22 ?_
      refine lv_if_ne (tgt := 32) hx hb d_MO_goes_25 (by decide) (fun c_25 => ?_) (fun c_25 => ?_)
      · exact absurd rfl c_25
      · refine lv_iconst (v := 1) hx hb d_MO_goes_28 (by decide) ?_
        refine lv_goto (tgt := 33) hx hb d_MO_goes_29 (by decide) ?_
        exact W.zret (v := 1) (ty := .boolean) hx hb hr (by rfl) (fun t ht hW => ⟨⟨_, (), rfl, rfl, by show va_P _ _ _ t.heap; rw [ht]; exact hP⟩, hS.F ht⟩) hS.2.2 d_MO_goes_33
    · exact absurd c_10 (by decide)
  · exact absurd c_2 (by decide)
set_option maxHeartbeats 4000000 in
set_option maxRecDepth 100000 in
theorem c_MO_routes (l : Launch) (dC : Nat → ClassId) (dI : Nat → Nat → Nat) (hM np nd nl nk nu nt nc nf nb : Nat) (cMP cMD cML cMI cMU cMT cMC cMF cMB : ClassId) (co wi ma no : Int32) (rc : Nat) (rp rl ri : Nat → Int32) (hrc : rc ≤ 40) (ac : Nat) (ai us ua : Nat → Int32) (hac : ac ≤ 64) (cc : Nat) (cn : Nat → Int64) (ca cb : Nat → Int32) (hcc : cc ≤ 100) (hD0 : va_D (fun _ => True) [(hM, .inr (4, [.int co, .int wi, .int ma, .int (nI rc), .ref np, .ref nd, .ref nl, .int (nI ac), .ref nk, .ref nu, .ref nt, .int (nI cc), .ref nc, .ref nf, .ref nb, .int no]))]) : Met l y_MO_routes (zw y_MO_routes b_MO_routes 1 (some .int)) ({ frames := 0, cells := 0, slots := 0, locals := 0 }) (zPre [.ref hM] (dC, dI) [(hM, .inr (4, [.int co, .int wi, .int ma, .int (nI rc), .ref np, .ref nd, .ref nl, .int (nI ac), .ref nk, .ref nu, .ref nt, .int (nI cc), .ref nc, .ref nf, .ref nb, .int no]))] []) (va_Qi (fun (r : Int32) (_ : Unit) => r = nI rc) (fun (_ : Unit) (t : State) => va_P (dC, dI) vwCl [(hM, .inr (4, [.int 0, .int wi, .int ma, .int (nI rc), .ref np, .ref nd, .ref nl, .int (nI ac), .ref nk, .ref nu, .ref nt, .int (nI cc), .ref nc, .ref nf, .ref nb, .int no]))] t.heap) (zA [(hM, .inr (4, [.int co, .int wi, .int ma, .int (nI rc), .ref np, .ref nd, .ref nl, .int (nI ac), .ref nk, .ref nu, .ref nt, .int (nI cc), .ref nc, .ref nf, .ref nb, .int no]))])) 0 0 (zA [(hM, .inr (4, [.int co, .int wi, .int ma, .int (nI rc), .ref np, .ref nd, .ref nl, .int (nI ac), .ref nk, .ref nu, .ref nt, .int (nI cc), .ref nc, .ref nf, .ref nb, .int no]))]) := by
  refine Met.ofW (cc := b_MO_routes) (maxL := 1) (ret := (some .int)) (by decide) rfl ?_
  intro p e s m args below meth c s₁ B hml hv
  obtain ⟨rfl, hP, hK⟩ := hv
  have hx := B.exec
  have hb := B.bytes
  have hr := B.returns
  have hts := atoms_spec (ws := (zw y_MO_routes b_MO_routes 1 (some .int))) B.pre
  have htB : ∀ w ∈ BG, w.before ([.ref hM] : List Value).toArray s = true := fun w h => hts w (List.mem_cons_of_mem _ h)
  have hown : s.vm.findClass R_MO = some m.cls := findClass_of_methodNamed B.named
  have hlocks := B.notSynchronized
  have CF : CallFix p m c b_MO_routes 1 s ([.ref hM] : List Value).toArray BG R_MO := ⟨hx, hb, hml, hown, htB⟩
  have hP : va_P (dC, dI) vwCl [(hM, .inr (4, [.int co, .int wi, .int ma, .int (nI rc), .ref np, .ref nd, .ref nl, .int (nI ac), .ref nk, .ref nu, .ref nt, .int (nI cc), .ref nc, .ref nf, .ref nb, .int no]))] s.heap := hP
  have hl := lv_entry [.ref hM] (n := 1) (Nat.le_of_ble_eq_true rfl)
  rw [lg_entry_eq]
  generalize (lg_sl [.ref hM] ++ List.replicate (1 - (lg_sl [.ref hM]).length) Slot.unset).toArray = ls at hl ⊢
  have hl : lv_has ls 1 [(0, .ref hM)] := hl
  have hD : va_D (zA [(hM, .inr (4, [.int co, .int wi, .int ma, .int (nI rc), .ref np, .ref nd, .ref nl, .int (nI ac), .ref nk, .ref nu, .ref nt, .int (nI cc), .ref nc, .ref nf, .ref nb, .int no]))]) [(hM, .inr (4, [.int co, .int wi, .int ma, .int (nI rc), .ref np, .ref nd, .ref nl, .int (nI ac), .ref nk, .ref nu, .ref nt, .int (nI cc), .ref nc, .ref nf, .ref nb, .int no]))] := zA_of hD0
  have hS : va_S (zA [(hM, .inr (4, [.int co, .int wi, .int ma, .int (nI rc), .ref np, .ref nd, .ref nl, .int (nI ac), .ref nk, .ref nu, .ref nt, .int (nI cc), .ref nc, .ref nf, .ref nb, .int no]))]) s.heap s.heap [] := va_S.rf
  generalize zA [(hM, .inr (4, [.int co, .int wi, .int ma, .int (nI rc), .ref np, .ref nd, .ref nl, .int (nI ac), .ref nk, .ref nu, .ref nt, .int (nI cc), .ref nc, .ref nf, .ref nb, .int no]))] = A at hD hS ⊢
  refine lv_aload_n hx hb d_MO_routes_0 rfl (lv_at hl 0 rfl) ?_
  refine lv_iconst (v := 0) hx hb d_MO_routes_1 (by decide) ?_
  refine va_put (D := (dC, dI)) (ci := 4) (v := .int 0) (ty := .int) (C := R_MO) (T := T_MO) (N := 16) hx hb htB i_MO t_MO tk_MO n_MO hown hK hP hD hS 0 rfl rfl 0 (by decide) (htB _ lf_MO_46) (fun _ h9 => h9) rfl (by decide +kernel) rfl rfl (Nat.le_of_ble_eq_true rfl) d_MO_routes_2 (fun H locs hP hD hS => ?_)
  have hP : va_P (dC, dI) vwCl [(hM, .inr (4, [.int 0, .int wi, .int ma, .int (nI rc), .ref np, .ref nd, .ref nl, .int (nI ac), .ref nk, .ref nu, .ref nt, .int (nI cc), .ref nc, .ref nf, .ref nb, .int no]))] H := hP
  have hD : va_D A [(hM, .inr (4, [.int 0, .int wi, .int ma, .int (nI rc), .ref np, .ref nd, .ref nl, .int (nI ac), .ref nk, .ref nu, .ref nt, .int (nI cc), .ref nc, .ref nf, .ref nb, .int no]))] := hD
  refine lv_aload_n hx hb d_MO_routes_5 rfl (lv_at hl 0 rfl) ?_
  refine va_get (D := (dC, dI)) (ci := 4) (v := .int (nI rc)) (C := R_MO) (T := T_MO) (N := 16) hx hb htB i_MO hown hK hP 0 rfl rfl 3 (by decide) (htB _ lf_MO_55) (fun _ h9 => h9) rfl d_MO_routes_6 ?_
  exact W.iret (v := nI rc) hx hb hr (fun t ht hW => ⟨⟨_, (), rfl, rfl, by show va_P _ _ _ t.heap; rw [ht]; exact hP⟩, hS.F ht⟩) hS.2.2 d_MO_routes_9
set_option maxHeartbeats 4000000 in
set_option maxRecDepth 100000 in
theorem c_MO_placeOf (l : Launch) (dC : Nat → ClassId) (dI : Nat → Nat → Nat) (hM np nd nl nk nu nt nc nf nb : Nat) (cMP cMD cML cMI cMU cMT cMC cMF cMB : ClassId) (co wi ma no : Int32) (rc : Nat) (rp rl ri : Nat → Int32) (hrc : rc ≤ 40) (ac : Nat) (ai us ua : Nat → Int32) (hac : ac ≤ 64) (cc : Nat) (cn : Nat → Int64) (ca cb : Nat → Int32) (hcc : cc ≤ 100) (y z : Int32) : Met l y_MO_placeOf (zw y_MO_placeOf b_MO_placeOf 4 (some .int)) ({ frames := 0, cells := 0, slots := 0, locals := 0 }) (zPre [.ref hM, .int y, .int z] (dC, dI) [(hM, .inr (4, [.int co, .int wi, .int ma, .int (nI rc), .ref np, .ref nd, .ref nl, .int (nI ac), .ref nk, .ref nu, .ref nt, .int (nI cc), .ref nc, .ref nf, .ref nb, .int no])), (np, .inl (cMP, 40, .inl rp)), (nd, .inl (cMD, 40, .inl rl)), (nl, .inl (cML, 40, .inl ri)), (nk, .inl (cMI, 64, .inl ai)), (nu, .inl (cMU, 64, .inl us)), (nt, .inl (cMT, 512, .inl ua)), (nc, .inl (cMC, 100, .inr (.inl cn))), (nf, .inl (cMF, 100, .inl ca)), (nb, .inl (cMB, 100, .inl cb))] [(cMP, .int), (cMD, .int), (cML, .int), (cMI, .int), (cMU, .int), (cMT, .int), (cMC, .long), (cMF, .int), (cMB, .boolean)]) (vp_Si (fun r => r = nI (zr_at rc rp rl y z))) 0 0 (fun _ => False) := by
  refine Met.ofW (cc := b_MO_placeOf) (maxL := 4) (ret := (some .int)) (by decide) rfl ?_
  intro p e s m args below meth c s₁ B hml hv
  obtain ⟨rfl, hP, hK⟩ := hv
  have hx := B.exec
  have hb := B.bytes
  have hr := B.returns
  have hts := atoms_spec (ws := (zw y_MO_placeOf b_MO_placeOf 4 (some .int))) B.pre
  have htB : ∀ w ∈ BG, w.before ([.ref hM, .int y, .int z] : List Value).toArray s = true := fun w h => hts w (List.mem_cons_of_mem _ h)
  have hown : s.vm.findClass R_MO = some m.cls := findClass_of_methodNamed B.named
  have hlocks := B.notSynchronized
  have CF : CallFix p m c b_MO_placeOf 4 s ([.ref hM, .int y, .int z] : List Value).toArray BG R_MO := ⟨hx, hb, hml, hown, htB⟩
  have hP : va_P (dC, dI) vwCl [(hM, .inr (4, [.int co, .int wi, .int ma, .int (nI rc), .ref np, .ref nd, .ref nl, .int (nI ac), .ref nk, .ref nu, .ref nt, .int (nI cc), .ref nc, .ref nf, .ref nb, .int no])), (np, .inl (cMP, 40, .inl rp)), (nd, .inl (cMD, 40, .inl rl)), (nl, .inl (cML, 40, .inl ri)), (nk, .inl (cMI, 64, .inl ai)), (nu, .inl (cMU, 64, .inl us)), (nt, .inl (cMT, 512, .inl ua)), (nc, .inl (cMC, 100, .inr (.inl cn))), (nf, .inl (cMF, 100, .inl ca)), (nb, .inl (cMB, 100, .inl cb))] s.heap := hP
  have hl := lv_entry [.ref hM, .int y, .int z] (n := 4) (Nat.le_of_ble_eq_true rfl)
  rw [lg_entry_eq]
  generalize (lg_sl [.ref hM, .int y, .int z] ++ List.replicate (4 - (lg_sl [.ref hM, .int y, .int z]).length) Slot.unset).toArray = ls at hl ⊢
  have hl : lv_has ls 4 [(0, .ref hM), (1, .int y), (2, .int z)] := hl
  refine lv_iconst (v := 0) hx hb d_MO_placeOf_0 (by decide) ?_
  refine lv_istore_n (lv' := [(3, .int 0), (0, .ref hM), (1, .int y), (2, .int z)]) hx hb d_MO_placeOf_1 rfl hl (by decide) rfl (fun ls hl => ?_)
  have loop : ∀ (k i : Nat) (ls : Array Slot), i + k = rc → (∀ j, j < i → decide (rl j = z ∧ (rp j).toInt64 = y.toInt64) = false) → lv_has ls 4 [(3, .int (nI i)), (0, .ref hM), (1, .int y), (2, .int z)] → W p l e (headSpec (zw y_MO_placeOf b_MO_placeOf 4 (some .int)) ({ frames := 0, cells := 0, slots := 0, locals := 0 })).room s m ([.ref hM, .int y, .int z] : List Value).toArray below meth c s.heap [] 0 0 (MQ below (vp_Si (fun r => r = nI (zr_at rc rp rl y z))) ([.ref hM, .int y, .int z] : List Value).toArray s 0 0 (fun _ => False)) (F0 m 2 ls []) := by
    intro k
    induction k with
    | zero =>
      intro i ls hi hb9 hl
      have hres : zr_at rc rp rl y z = i := (zf_none (by intro k hk; exact hb9 k (by omega))).trans (by omega)
      refine lv_iload_n hx hb d_MO_placeOf_2 rfl (lv_at hl 0 rfl) ?_
      refine lv_aload_n hx hb d_MO_placeOf_3 rfl (lv_at hl 1 rfl) ?_
      refine va_get (D := (dC, dI)) (ci := 4) (v := .int (nI rc)) (C := R_MO) (T := T_MO) (N := 16) hx hb htB i_MO hown hK hP 0 rfl rfl 3 (by decide) (htB _ lf_MO_55) (fun _ h9 => h9) rfl d_MO_placeOf_4 ?_
      refine lv_icmp_ge (tgt := 36) hx hb d_MO_placeOf_7 (by decide) (fun c_7 => ?_) (fun c_7 => ?_)
      · refine lv_iload_n hx hb d_MO_placeOf_36 rfl (lv_at hl 0 rfl) ?_
        exact W.iret (v := nI i) hx hb hr (fun t ht hW => ⟨_, rfl, by rw [hres], ht⟩) (fun _ h => by cases h) d_MO_placeOf_37
      · exact absurd (nI_le (show rc ≤ i by omega) (by omega)) c_7
    | succ k ih =>
      intro i ls hi hb9 hl
      have b_15 : vp_in (nI i) 40 := vp_in_nI (by omega) (by omega)
      have b_25 := b_15
      refine lv_iload_n hx hb d_MO_placeOf_2 rfl (lv_at hl 0 rfl) ?_
      refine lv_aload_n hx hb d_MO_placeOf_3 rfl (lv_at hl 1 rfl) ?_
      refine va_get (D := (dC, dI)) (ci := 4) (v := .int (nI rc)) (C := R_MO) (T := T_MO) (N := 16) hx hb htB i_MO hown hK hP 0 rfl rfl 3 (by decide) (htB _ lf_MO_55) (fun _ h9 => h9) rfl d_MO_placeOf_4 ?_
      refine lv_icmp_ge (tgt := 36) hx hb d_MO_placeOf_7 (by decide) (fun c_7 => ?_) (fun c_7 => ?_)
      · exact absurd c_7 (nI_ge (show i < rc by omega) (by omega))
      · refine lv_aload_n hx hb d_MO_placeOf_10 rfl (lv_at hl 1 rfl) ?_
        refine va_get (D := (dC, dI)) (ci := 4) (v := .ref np) (C := R_MO) (T := T_MO) (N := 16) hx hb htB i_MO hown hK hP 0 rfl rfl 4 (by decide) (htB _ lf_MO_7) (fun _ h9 => h9) rfl d_MO_placeOf_11 ?_
        refine lv_iload_n hx hb d_MO_placeOf_14 rfl (lv_at hl 0 rfl) ?_
        refine va_iald hx hb hK hP 1 0 rfl rfl b_15 d_MO_placeOf_15 ?_
        rw [nI_clamp (n := i) (by omega)]
        refine lv_iload_n hx hb d_MO_placeOf_16 rfl (lv_at hl 2 rfl) ?_
        refine lv_icmp_ne (tgt := 30) hx hb d_MO_placeOf_17 (by decide) (fun c_17 => ?_) (fun c_17 => ?_)
        · have hno : ¬ (rl i = z ∧ (rp i).toInt64 = y.toInt64) := fun h => c_17 (zi_64 h.2)
          refine lv_iinc (v := (nI i) + 1) (lv' := [(3, .int ((nI i) + 1)), (0, .ref hM), (1, .int y), (2, .int z)]) hx hb d_MO_placeOf_30 hl (k := 0) rfl rfl (by decide) rfl (fun ls hl => ?_)
          refine lv_goto (tgt := 2) hx hb d_MO_placeOf_33 (by decide) ?_
          rw [nI_1] at hl
          refine ih (i + 1) ls (by omega) (fun j hj => ?_) (lv_sub hl [0, 1, 2, 3] rfl)
          by_cases e : j = i
          · subst e; rw [decide_eq_false_iff_not]; exact hno
          · exact hb9 j (by omega)
        · refine lv_aload_n hx hb d_MO_placeOf_20 rfl (lv_at hl 1 rfl) ?_
          refine va_get (D := (dC, dI)) (ci := 4) (v := .ref nd) (C := R_MO) (T := T_MO) (N := 16) hx hb htB i_MO hown hK hP 0 rfl rfl 5 (by decide) (htB _ lf_MO_13) (fun _ h9 => h9) rfl d_MO_placeOf_21 ?_
          refine lv_iload_n hx hb d_MO_placeOf_24 rfl (lv_at hl 0 rfl) ?_
          refine va_iald hx hb hK hP 2 1 rfl rfl b_25 d_MO_placeOf_25 ?_
          rw [nI_clamp (n := i) (by omega)]
          refine lv_iload_n hx hb d_MO_placeOf_26 rfl (lv_at hl 3 rfl) ?_
          refine lv_icmp_eq (tgt := 36) hx hb d_MO_placeOf_27 (by decide) (fun c_27 => ?_) (fun c_27 => ?_)
          · have hres : zr_at rc rp rl y z = i := zf_eq (show i < rc by omega) (by rw [decide_eq_true_eq]; exact ⟨c_27, by rw [c_17]⟩) hb9
            refine lv_iload_n hx hb d_MO_placeOf_36 rfl (lv_at hl 0 rfl) ?_
            exact W.iret (v := nI i) hx hb hr (fun t ht hW => ⟨_, rfl, by rw [hres], ht⟩) (fun _ h => by cases h) d_MO_placeOf_37
          · have hno : ¬ (rl i = z ∧ (rp i).toInt64 = y.toInt64) := fun h => c_27 h.1
            refine lv_iinc (v := (nI i) + 1) (lv' := [(3, .int ((nI i) + 1)), (0, .ref hM), (1, .int y), (2, .int z)]) hx hb d_MO_placeOf_30 hl (k := 0) rfl rfl (by decide) rfl (fun ls hl => ?_)
            refine lv_goto (tgt := 2) hx hb d_MO_placeOf_33 (by decide) ?_
            rw [nI_1] at hl
            refine ih (i + 1) ls (by omega) (fun j hj => ?_) (lv_sub hl [0, 1, 2, 3] rfl)
            by_cases e : j = i
            · subst e; rw [decide_eq_false_iff_not]; exact hno
            · exact hb9 j (by omega)
  exact loop rc 0 ls (by omega) (fun j hj => absurd hj (Nat.not_lt_zero j)) (lv_sub hl [0, 1, 2, 3] rfl)
set_option maxHeartbeats 4000000 in
set_option maxRecDepth 100000 in
theorem c_MO_routed (l : Launch) (dC : Nat → ClassId) (dI : Nat → Nat → Nat) (hM np nd nl nk nu nt nc nf nb : Nat) (cMP cMD cML cMI cMU cMT cMC cMF cMB : ClassId) (co wi ma no : Int32) (rc : Nat) (rp rl ri : Nat → Int32) (hrc : rc ≤ 40) (ac : Nat) (ai us ua : Nat → Int32) (hac : ac ≤ 64) (cc : Nat) (cn : Nat → Int64) (ca cb : Nat → Int32) (hcc : cc ≤ 100) (hrl : ∀ j, j < rc → 1 ≤ (rl j).toInt ∧ (rl j).toInt ≤ 8) (n : Nat) (hn63 : n < 2 ^ 63) (hn1 : 1 ≤ zd_dg 19 n) : Met l y_MO_routed (zw y_MO_routed b_MO_routed 6 (some .int)) ({ frames := 2, cells := 0, slots := 0, locals := 49 }) (zPre [.ref hM, .long (lN n)] (dC, dI) [(hM, .inr (4, [.int co, .int wi, .int ma, .int (nI rc), .ref np, .ref nd, .ref nl, .int (nI ac), .ref nk, .ref nu, .ref nt, .int (nI cc), .ref nc, .ref nf, .ref nb, .int no])), (np, .inl (cMP, 40, .inl rp)), (nd, .inl (cMD, 40, .inl rl)), (nl, .inl (cML, 40, .inl ri)), (nk, .inl (cMI, 64, .inl ai)), (nu, .inl (cMU, 64, .inl us)), (nt, .inl (cMT, 512, .inl ua)), (nc, .inl (cMC, 100, .inr (.inl cn))), (nf, .inl (cMF, 100, .inl ca)), (nb, .inl (cMB, 100, .inl cb))] [(cMP, .int), (cMD, .int), (cML, .int), (cMI, .int), (cMU, .int), (cMT, .int), (cMC, .long), (cMF, .int), (cMB, .boolean)]) (vp_Si (fun r => r = zf_iss rc rp rl ri (zd_dg 19 n) n)) 0 0 (fun _ => False) := by
  refine Met.ofW (cc := b_MO_routed) (maxL := 6) (ret := (some .int)) (by decide) rfl ?_
  intro p e s m args below meth c s₁ B hml hv
  obtain ⟨rfl, hP, hK⟩ := hv
  have hx := B.exec
  have hb := B.bytes
  have hr := B.returns
  have hts := atoms_spec (ws := (zw y_MO_routed b_MO_routed 6 (some .int))) B.pre
  have htB : ∀ w ∈ BG, w.before ([.ref hM, .long (lN n)] : List Value).toArray s = true := fun w h => hts w (List.mem_cons_of_mem _ h)
  have hown : s.vm.findClass R_MO = some m.cls := findClass_of_methodNamed B.named
  have hlocks := B.notSynchronized
  have CF : CallFix p m c b_MO_routed 6 s ([.ref hM, .long (lN n)] : List Value).toArray BG R_MO := ⟨hx, hb, hml, hown, htB⟩
  have hP : va_P (dC, dI) vwCl [(hM, .inr (4, [.int co, .int wi, .int ma, .int (nI rc), .ref np, .ref nd, .ref nl, .int (nI ac), .ref nk, .ref nu, .ref nt, .int (nI cc), .ref nc, .ref nf, .ref nb, .int no])), (np, .inl (cMP, 40, .inl rp)), (nd, .inl (cMD, 40, .inl rl)), (nl, .inl (cML, 40, .inl ri)), (nk, .inl (cMI, 64, .inl ai)), (nu, .inl (cMU, 64, .inl us)), (nt, .inl (cMT, 512, .inl ua)), (nc, .inl (cMC, 100, .inr (.inl cn))), (nf, .inl (cMF, 100, .inl ca)), (nb, .inl (cMB, 100, .inl cb))] s.heap := hP
  have hl := lv_entry [.ref hM, .long (lN n)] (n := 6) (Nat.le_of_ble_eq_true rfl)
  rw [lg_entry_eq]
  generalize (lg_sl [.ref hM, .long (lN n)] ++ List.replicate (6 - (lg_sl [.ref hM, .long (lN n)]).length) Slot.unset).toArray = ls at hl ⊢
  have hl : lv_has ls 6 [(0, .ref hM), (1, .long (lN n))] := hl
  have hdl := zd_dg_le 19 n
  refine lv_iconst (v := (-1)) hx hb d_MO_routed_0 (by decide) ?_
  refine lv_istore_n (lv' := [(3, .int (-1)), (0, .ref hM), (1, .long (lN n))]) hx hb d_MO_routed_1 rfl hl (by decide) rfl (fun ls hl => ?_)
  refine lv_iconst (v := 0) hx hb d_MO_routed_2 (by decide) ?_
  refine lv_istore (lv' := [(4, .int 0), (3, .int (-1)), (0, .ref hM), (1, .long (lN n))]) hx hb d_MO_routed_3 hl (by decide) rfl (fun ls hl => ?_)
  refine lv_iconst (v := 0) hx hb d_MO_routed_5 (by decide) ?_
  refine lv_istore (lv' := [(5, .int 0), (4, .int 0), (3, .int (-1)), (0, .ref hM), (1, .long (lN n))]) hx hb d_MO_routed_6 hl (by decide) rfl (fun ls hl => ?_)
  have loop : ∀ (k i : Nat) (ls : Array Slot), i + k = rc → lv_has ls 6 [(5, .int (nI i)), (4, .int (nI (zf_len i rp rl (zd_dg 19 n) n))), (3, .int (zf_iss i rp rl ri (zd_dg 19 n) n)), (0, .ref hM), (1, .long (lN n))] → W p l e (headSpec (zw y_MO_routed b_MO_routed 6 (some .int)) ({ frames := 2, cells := 0, slots := 0, locals := 49 })).room s m ([.ref hM, .long (lN n)] : List Value).toArray below meth c s.heap [] 0 0 (MQ below (vp_Si (fun r => r = zf_iss rc rp rl ri (zd_dg 19 n) n)) ([.ref hM, .long (lN n)] : List Value).toArray s 0 0 (fun _ => False)) (F0 m 8 ls []) := by
    intro k
    induction k with
    | zero =>
      intro i ls hi hl
      refine lv_iload hx hb d_MO_routed_8 (lv_at hl 0 rfl) ?_
      refine lv_aload_n hx hb d_MO_routed_10 rfl (lv_at hl 3 rfl) ?_
      refine va_get (D := (dC, dI)) (ci := 4) (v := .int (nI rc)) (C := R_MO) (T := T_MO) (N := 16) hx hb htB i_MO hown hK hP 0 rfl rfl 3 (by decide) (htB _ lf_MO_55) (fun _ h9 => h9) rfl d_MO_routed_11 ?_
      refine lv_icmp_ge (tgt := 89) hx hb d_MO_routed_14 (by decide) (fun c_14 => ?_) (fun c_14 => ?_)
      · refine lv_iload_n hx hb d_MO_routed_89 rfl (lv_at hl 2 rfl) ?_
        exact W.iret (v := zf_iss i rp rl ri (zd_dg 19 n) n) hx hb hr (fun t ht hW => ⟨_, rfl, by rw [show i = rc by omega], ht⟩) (fun _ h => by cases h) d_MO_routed_90
      · exact absurd (nI_le (show rc ≤ i by omega) (by omega)) c_14
    | succ k ih =>
      intro i ls hi hl
      have b_23 : vp_in (nI i) 40 := vp_in_nI (by omega) (by omega)
      have b_35 := b_23
      have b_50 := b_23
      have b_60 := b_23
      have b_72 := b_23
      have b_81 := b_23
      have hlb := hrl i (by omega)
      obtain ⟨eL, hL9⟩ := zi_of (x := rl i) (n := 9) ⟨by omega, by omega⟩
      have hL1 : 1 ≤ (rl i).toInt.toNat := by omega
      have hL8 : (rl i).toInt.toNat ≤ 8 := by omega
      generalize (rl i).toInt.toNat = L at eL hL9 hL1 hL8
      have hst := zf_step (rp := rp) (ri := ri) hL1 hL8 eL (zd_dg 19 n) n
      have hll := zf_len_le i rp rl (zd_dg 19 n) n
      refine lv_iload hx hb d_MO_routed_8 (lv_at hl 0 rfl) ?_
      refine lv_aload_n hx hb d_MO_routed_10 rfl (lv_at hl 3 rfl) ?_
      refine va_get (D := (dC, dI)) (ci := 4) (v := .int (nI rc)) (C := R_MO) (T := T_MO) (N := 16) hx hb htB i_MO hown hK hP 0 rfl rfl 3 (by decide) (htB _ lf_MO_55) (fun _ h9 => h9) rfl d_MO_routed_11 ?_
      refine lv_icmp_ge (tgt := 89) hx hb d_MO_routed_14 (by decide) (fun c_14 => ?_) (fun c_14 => ?_)
      · exact absurd c_14 (nI_ge (show i < rc by omega) (by omega))
      · refine lv_aload_n hx hb d_MO_routed_17 rfl (lv_at hl 3 rfl) ?_
        refine va_get (D := (dC, dI)) (ci := 4) (v := .ref nd) (C := R_MO) (T := T_MO) (N := 16) hx hb htB i_MO hown hK hP 0 rfl rfl 5 (by decide) (htB _ lf_MO_13) (fun _ h9 => h9) rfl d_MO_routed_18 ?_
        refine lv_iload hx hb d_MO_routed_21 (lv_at hl 0 rfl) ?_
        refine va_iald hx hb hK hP 2 1 rfl rfl b_23 d_MO_routed_23 ?_
        rw [nI_clamp (n := i) (by omega)]
        refine lv_iload hx hb d_MO_routed_24 (lv_at hl 1 rfl) ?_
        refine lv_icmp_le (tgt := 83) hx hb d_MO_routed_26 (by decide) (fun c_26 => ?_) (fun c_26 => ?_)
        · have hno : ¬ (L ≤ zd_dg 19 n ∧ (rp i).toInt64 = lN (zd_sh (zd_dg 19 n - L) n) ∧ zf_len i rp rl (zd_dg 19 n) n < L) := fun h => by rw [eL] at c_26; exact absurd c_26 (nI_ge h.2.2 (by omega))
          refine lv_iinc (v := (nI i) + 1) (lv' := [(5, .int ((nI i) + 1)), (4, .int (nI (zf_len i rp rl (zd_dg 19 n) n))), (3, .int (zf_iss i rp rl ri (zd_dg 19 n) n)), (0, .ref hM), (1, .long (lN n))]) hx hb d_MO_routed_83 hl (k := 0) rfl rfl (by decide) rfl (fun ls hl => ?_)
          refine lv_goto (tgt := 8) hx hb d_MO_routed_86 (by decide) ?_
          rw [nI_1] at hl
          refine ih (i + 1) ls (by omega) ?_
          rw [(hst.2 hno).1, (hst.2 hno).2]
          exact lv_sub hl [0, 1, 2, 3, 4] rfl
        · have hlt : zf_len i rp rl (zd_dg 19 n) n < L := Nat.not_le.mp (fun h => c_26 (by rw [eL]; exact nI_le h (by omega)))
          refine lv_aload_n hx hb d_MO_routed_29 rfl (lv_at hl 3 rfl) ?_
          refine va_get (D := (dC, dI)) (ci := 4) (v := .ref nd) (C := R_MO) (T := T_MO) (N := 16) hx hb htB i_MO hown hK hP 0 rfl rfl 5 (by decide) (htB _ lf_MO_13) (fun _ h9 => h9) rfl d_MO_routed_30 ?_
          refine lv_iload hx hb d_MO_routed_33 (lv_at hl 0 rfl) ?_
          refine va_iald hx hb hK hP 2 1 rfl rfl b_35 d_MO_routed_35 ?_
          rw [nI_clamp (n := i) (by omega)]
          refine lv_lload_n hx hb d_MO_routed_36 rfl (lv_at hl 4 rfl) ?_
          refine vp_callSi (va_Run.run (zr_S (n := 1) (As := [.long (lN n)]) (rest := [.int (rl i)]) CF (c_MO_width l dC dI (lN n)) mc_MO_width lk_MO_51 mt_MO_width ni_MO rfl rfl (by decide +kernel) ⟨Nat.le_of_ble_eq_true rfl, Nat.le_of_ble_eq_true rfl⟩ (hP.sub (ws' := []) [] rfl) (hK.sub (tys' := []) [] rfl) rfl rfl hl.1 rfl (lv_room (Nat.le_of_ble_eq_true rfl)) d_MO_routed_37 ⟨Nat.zero_le _, Nat.zero_le _⟩)) (fun r_37 h_37 => ?_)
          rw [zd_lN hn63, zd_wdp hn1] at h_37
          refine lv_icmp_gt (tgt := 83) hx hb d_MO_routed_40 (by decide) (fun c_40 => ?_) (fun c_40 => ?_)
          · have hno : ¬ (L ≤ zd_dg 19 n ∧ (rp i).toInt64 = lN (zd_sh (zd_dg 19 n - L) n) ∧ zf_len i rp rl (zd_dg 19 n) n < L) := fun h => by rw [eL, h_37] at c_40; exact absurd c_40 (nI_nlt h.1 (by omega))
            refine lv_iinc (v := (nI i) + 1) (lv' := [(5, .int ((nI i) + 1)), (4, .int (nI (zf_len i rp rl (zd_dg 19 n) n))), (3, .int (zf_iss i rp rl ri (zd_dg 19 n) n)), (0, .ref hM), (1, .long (lN n))]) hx hb d_MO_routed_83 hl (k := 0) rfl rfl (by decide) rfl (fun ls hl => ?_)
            refine lv_goto (tgt := 8) hx hb d_MO_routed_86 (by decide) ?_
            rw [nI_1] at hl
            refine ih (i + 1) ls (by omega) ?_
            rw [(hst.2 hno).1, (hst.2 hno).2]
            exact lv_sub hl [0, 1, 2, 3, 4] rfl
          · have hLD : L ≤ zd_dg 19 n := Nat.not_lt.mp (fun h => c_40 (by rw [eL, h_37]; exact nI_lt h (by omega)))
            refine lv_lload_n hx hb d_MO_routed_43 rfl (lv_at hl 4 rfl) ?_
            refine lv_aload_n hx hb d_MO_routed_44 rfl (lv_at hl 3 rfl) ?_
            refine va_get (D := (dC, dI)) (ci := 4) (v := .ref nd) (C := R_MO) (T := T_MO) (N := 16) hx hb htB i_MO hown hK hP 0 rfl rfl 5 (by decide) (htB _ lf_MO_13) (fun _ h9 => h9) rfl d_MO_routed_45 ?_
            refine lv_iload hx hb d_MO_routed_48 (lv_at hl 0 rfl) ?_
            refine va_iald hx hb hK hP 2 1 rfl rfl b_50 d_MO_routed_50 ?_
            rw [nI_clamp (n := i) (by omega)]
            rw [show (rl i : Int32) = nI L from eL]
            refine vp_callSl (va_Run.run (zr_S (n := 2) (As := [.long (lN n), .int (nI L)]) (rest := []) CF (c_MO_front l dC dI n L hn63 hn1 hLD) mc_MO_front lk_MO_70 mt_MO_front ni_MO rfl rfl (by decide +kernel) ⟨Nat.le_of_ble_eq_true rfl, Nat.le_of_ble_eq_true rfl⟩ (hP.sub (ws' := []) [] rfl) (hK.sub (tys' := []) [] rfl) rfl rfl hl.1 rfl (lv_room (Nat.le_of_ble_eq_true rfl)) d_MO_routed_51 ⟨Nat.zero_le _, Nat.zero_le _⟩)) (fun r_51 h_51 => ?_)
            subst h_51
            refine lv_aload_n hx hb d_MO_routed_54 rfl (lv_at hl 3 rfl) ?_
            refine va_get (D := (dC, dI)) (ci := 4) (v := .ref np) (C := R_MO) (T := T_MO) (N := 16) hx hb htB i_MO hown hK hP 0 rfl rfl 4 (by decide) (htB _ lf_MO_7) (fun _ h9 => h9) rfl d_MO_routed_55 ?_
            refine lv_iload hx hb d_MO_routed_58 (lv_at hl 0 rfl) ?_
            refine va_iald hx hb hK hP 1 0 rfl rfl b_60 d_MO_routed_60 ?_
            rw [nI_clamp (n := i) (by omega)]
            refine lv_i2l (v := (rp i).toInt64) hx hb d_MO_routed_61 rfl ?_
            refine W.lcmp hx hb d_MO_routed_62 ?_
            refine lv_if_ne (tgt := 83) hx hb d_MO_routed_63 (by decide) (fun c_63 => ?_) (fun c_63 => ?_)
            · have hno : ¬ (L ≤ zd_dg 19 n ∧ (rp i).toInt64 = lN (zd_sh (zd_dg 19 n - L) n) ∧ zf_len i rp rl (zd_dg 19 n) n < L) := fun h => c_63 ((lg_cmp_eq _ _).mpr h.2.1.symm)
              refine lv_iinc (v := (nI i) + 1) (lv' := [(5, .int ((nI i) + 1)), (4, .int (nI (zf_len i rp rl (zd_dg 19 n) n))), (3, .int (zf_iss i rp rl ri (zd_dg 19 n) n)), (0, .ref hM), (1, .long (lN n))]) hx hb d_MO_routed_83 hl (k := 0) rfl rfl (by decide) rfl (fun ls hl => ?_)
              refine lv_goto (tgt := 8) hx hb d_MO_routed_86 (by decide) ?_
              rw [nI_1] at hl
              refine ih (i + 1) ls (by omega) ?_
              rw [(hst.2 hno).1, (hst.2 hno).2]
              exact lv_sub hl [0, 1, 2, 3, 4] rfl
            · have hyes : L ≤ zd_dg 19 n ∧ (rp i).toInt64 = lN (zd_sh (zd_dg 19 n - L) n) ∧ zf_len i rp rl (zd_dg 19 n) n < L := ⟨hLD, ((lg_cmp_eq _ _).mp c_63).symm, hlt⟩
              refine lv_aload_n hx hb d_MO_routed_66 rfl (lv_at hl 3 rfl) ?_
              refine va_get (D := (dC, dI)) (ci := 4) (v := .ref nd) (C := R_MO) (T := T_MO) (N := 16) hx hb htB i_MO hown hK hP 0 rfl rfl 5 (by decide) (htB _ lf_MO_13) (fun _ h9 => h9) rfl d_MO_routed_67 ?_
              refine lv_iload hx hb d_MO_routed_70 (lv_at hl 0 rfl) ?_
              refine va_iald hx hb hK hP 2 1 rfl rfl b_72 d_MO_routed_72 ?_
              rw [nI_clamp (n := i) (by omega)]
              refine lv_istore (lv' := [(4, .int (rl i)), (5, .int (nI i)), (3, .int (zf_iss i rp rl ri (zd_dg 19 n) n)), (0, .ref hM), (1, .long (lN n))]) hx hb d_MO_routed_73 hl (by decide) rfl (fun ls hl => ?_)
              refine lv_aload_n hx hb d_MO_routed_75 rfl (lv_at hl 3 rfl) ?_
              refine va_get (D := (dC, dI)) (ci := 4) (v := .ref nl) (C := R_MO) (T := T_MO) (N := 16) hx hb htB i_MO hown hK hP 0 rfl rfl 6 (by decide) (htB _ lf_MO_16) (fun _ h9 => h9) rfl d_MO_routed_76 ?_
              refine lv_iload hx hb d_MO_routed_79 (lv_at hl 1 rfl) ?_
              refine va_iald hx hb hK hP 3 2 rfl rfl b_81 d_MO_routed_81 ?_
              rw [nI_clamp (n := i) (by omega)]
              refine lv_istore_n (lv' := [(3, .int (ri i)), (4, .int (rl i)), (5, .int (nI i)), (0, .ref hM), (1, .long (lN n))]) hx hb d_MO_routed_82 rfl hl (by decide) rfl (fun ls hl => ?_)
              refine lv_iinc (v := (nI i) + 1) (lv' := [(5, .int ((nI i) + 1)), (3, .int (ri i)), (4, .int (rl i)), (0, .ref hM), (1, .long (lN n))]) hx hb d_MO_routed_83 hl (k := 2) rfl rfl (by decide) rfl (fun ls hl => ?_)
              refine lv_goto (tgt := 8) hx hb d_MO_routed_86 (by decide) ?_
              rw [nI_1, eL] at hl
              refine ih (i + 1) ls (by omega) ?_
              rw [(hst.1 hyes).1, (hst.1 hyes).2]
              exact lv_sub hl [0, 2, 1, 3, 4] rfl
  refine loop rc 0 ls (by omega) ?_
  rw [zf_iss0, zf_len0]
  exact lv_sub hl [0, 1, 2, 3, 4] rfl
theorem x_MO_routed (l : Launch) (dC : Nat → ClassId) (dI : Nat → Nat → Nat) (hM np nd nl nk nu nt nc nf nb : Nat) (cMP cMD cML cMI cMU cMT cMC cMF cMB : ClassId) (co wi ma no : Int32) (rc : Nat) (rp rl ri : Nat → Int32) (hrc : rc ≤ 40) (ac : Nat) (ai us ua : Nat → Int32) (hac : ac ≤ 64) (cc : Nat) (cn : Nat → Int64) (ca cb : Nat → Int32) (hcc : cc ≤ 100) (hrl : ∀ j, j < rc → 1 ≤ (rl j).toInt ∧ (rl j).toInt ≤ 8) (x : Int64) (hx0 : 1 ≤ zd_dg 19 (zd_N x)) : Met l y_MO_routed (zw y_MO_routed b_MO_routed 6 (some .int)) ({ frames := 2, cells := 0, slots := 0, locals := 49 }) (zPre [.ref hM, .long x] (dC, dI) [(hM, .inr (4, [.int co, .int wi, .int ma, .int (nI rc), .ref np, .ref nd, .ref nl, .int (nI ac), .ref nk, .ref nu, .ref nt, .int (nI cc), .ref nc, .ref nf, .ref nb, .int no])), (np, .inl (cMP, 40, .inl rp)), (nd, .inl (cMD, 40, .inl rl)), (nl, .inl (cML, 40, .inl ri)), (nk, .inl (cMI, 64, .inl ai)), (nu, .inl (cMU, 64, .inl us)), (nt, .inl (cMT, 512, .inl ua)), (nc, .inl (cMC, 100, .inr (.inl cn))), (nf, .inl (cMF, 100, .inl ca)), (nb, .inl (cMB, 100, .inl cb))] [(cMP, .int), (cMD, .int), (cML, .int), (cMI, .int), (cMU, .int), (cMT, .int), (cMC, .long), (cMF, .int), (cMB, .boolean)]) (vp_Si (fun r => r = zf_iss rc rp rl ri (zd_dg 19 (zd_N x)) (zd_N x))) 0 0 (fun _ => False) := by
  have h9 := c_MO_routed l dC dI hM np nd nl nk nu nt nc nf nb cMP cMD cML cMI cMU cMT cMC cMF cMB co wi ma no rc rp rl ri hrc ac ai us ua hac cc cn ca cb hcc hrl (zd_N x) (zl_of (Nat.le_refl 1) ⟨hx0, zd_dg_le 19 (zd_N x)⟩).2.1 hx0
  rwa [← (zl_of (Nat.le_refl 1) ⟨hx0, zd_dg_le 19 (zd_N x)⟩).1] at h9
set_option maxHeartbeats 4000000 in
set_option maxRecDepth 100000 in
theorem c_MO_cardOf (l : Launch) (dC : Nat → ClassId) (dI : Nat → Nat → Nat) (hM np nd nl nk nu nt nc nf nb : Nat) (cMP cMD cML cMI cMU cMT cMC cMF cMB : ClassId) (co wi ma no : Int32) (rc : Nat) (rp rl ri : Nat → Int32) (hrc : rc ≤ 40) (ac : Nat) (ai us ua : Nat → Int32) (hac : ac ≤ 64) (cc : Nat) (cn : Nat → Int64) (ca cb : Nat → Int32) (hcc : cc ≤ 100) (hdist : ∀ i j, i < cc → j < cc → cn i = cn j → i = j) (x : Int64) : Met l y_MO_cardOf (zw y_MO_cardOf b_MO_cardOf 5 (some .int)) ({ frames := 0, cells := 0, slots := 0, locals := 0 }) (zPre [.ref hM, .long x] (dC, dI) [(hM, .inr (4, [.int co, .int wi, .int ma, .int (nI rc), .ref np, .ref nd, .ref nl, .int (nI ac), .ref nk, .ref nu, .ref nt, .int (nI cc), .ref nc, .ref nf, .ref nb, .int no])), (np, .inl (cMP, 40, .inl rp)), (nd, .inl (cMD, 40, .inl rl)), (nl, .inl (cML, 40, .inl ri)), (nk, .inl (cMI, 64, .inl ai)), (nu, .inl (cMU, 64, .inl us)), (nt, .inl (cMT, 512, .inl ua)), (nc, .inl (cMC, 100, .inr (.inl cn))), (nf, .inl (cMF, 100, .inl ca)), (nb, .inl (cMB, 100, .inl cb))] [(cMP, .int), (cMD, .int), (cML, .int), (cMI, .int), (cMU, .int), (cMT, .int), (cMC, .long), (cMF, .int), (cMB, .boolean)]) (vp_Si (fun r => r = zf_r (fun j => decide (cn j = x)) cc)) 0 0 (fun _ => False) := by
  refine Met.ofW (cc := b_MO_cardOf) (maxL := 5) (ret := (some .int)) (by decide) rfl ?_
  intro p e s m args below meth c s₁ B hml hv
  obtain ⟨rfl, hP, hK⟩ := hv
  have hx := B.exec
  have hb := B.bytes
  have hr := B.returns
  have hts := atoms_spec (ws := (zw y_MO_cardOf b_MO_cardOf 5 (some .int))) B.pre
  have htB : ∀ w ∈ BG, w.before ([.ref hM, .long x] : List Value).toArray s = true := fun w h => hts w (List.mem_cons_of_mem _ h)
  have hown : s.vm.findClass R_MO = some m.cls := findClass_of_methodNamed B.named
  have hlocks := B.notSynchronized
  have CF : CallFix p m c b_MO_cardOf 5 s ([.ref hM, .long x] : List Value).toArray BG R_MO := ⟨hx, hb, hml, hown, htB⟩
  have hP : va_P (dC, dI) vwCl [(hM, .inr (4, [.int co, .int wi, .int ma, .int (nI rc), .ref np, .ref nd, .ref nl, .int (nI ac), .ref nk, .ref nu, .ref nt, .int (nI cc), .ref nc, .ref nf, .ref nb, .int no])), (np, .inl (cMP, 40, .inl rp)), (nd, .inl (cMD, 40, .inl rl)), (nl, .inl (cML, 40, .inl ri)), (nk, .inl (cMI, 64, .inl ai)), (nu, .inl (cMU, 64, .inl us)), (nt, .inl (cMT, 512, .inl ua)), (nc, .inl (cMC, 100, .inr (.inl cn))), (nf, .inl (cMF, 100, .inl ca)), (nb, .inl (cMB, 100, .inl cb))] s.heap := hP
  have hl := lv_entry [.ref hM, .long x] (n := 5) (Nat.le_of_ble_eq_true rfl)
  rw [lg_entry_eq]
  generalize (lg_sl [.ref hM, .long x] ++ List.replicate (5 - (lg_sl [.ref hM, .long x]).length) Slot.unset).toArray = ls at hl ⊢
  have hl : lv_has ls 5 [(0, .ref hM), (1, .long x)] := hl
  refine lv_iconst (v := (-1)) hx hb d_MO_cardOf_0 (by decide) ?_
  refine lv_istore_n (lv' := [(3, .int (-1)), (0, .ref hM), (1, .long x)]) hx hb d_MO_cardOf_1 rfl hl (by decide) rfl (fun ls hl => ?_)
  refine lv_iconst (v := 0) hx hb d_MO_cardOf_2 (by decide) ?_
  refine lv_istore (lv' := [(4, .int 0), (3, .int (-1)), (0, .ref hM), (1, .long x)]) hx hb d_MO_cardOf_3 hl (by decide) rfl (fun ls hl => ?_)
  have loop : ∀ (k i : Nat) (ls : Array Slot), i + k = cc → lv_has ls 5 [(4, .int (nI i)), (3, .int (zf_r (fun j => decide (cn j = x)) i)), (0, .ref hM), (1, .long x)] → W p l e (headSpec (zw y_MO_cardOf b_MO_cardOf 5 (some .int)) ({ frames := 0, cells := 0, slots := 0, locals := 0 })).room s m ([.ref hM, .long x] : List Value).toArray below meth c s.heap [] 0 0 (MQ below (vp_Si (fun r => r = zf_r (fun j => decide (cn j = x)) cc)) ([.ref hM, .long x] : List Value).toArray s 0 0 (fun _ => False)) (F0 m 5 ls []) := by
    intro k
    induction k with
    | zero =>
      intro i ls hi hl
      refine lv_iload hx hb d_MO_cardOf_5 (lv_at hl 0 rfl) ?_
      refine lv_aload_n hx hb d_MO_cardOf_7 rfl (lv_at hl 2 rfl) ?_
      refine va_get (D := (dC, dI)) (ci := 4) (v := .int (nI cc)) (C := R_MO) (T := T_MO) (N := 16) hx hb htB i_MO hown hK hP 0 rfl rfl 11 (by decide) (htB _ lf_MO_88) (fun _ h9 => h9) rfl d_MO_cardOf_8 ?_
      refine lv_icmp_ge (tgt := 39) hx hb d_MO_cardOf_11 (by decide) (fun c_11 => ?_) (fun c_11 => ?_)
      · refine lv_iload_n hx hb d_MO_cardOf_39 rfl (lv_at hl 1 rfl) ?_
        exact W.iret (v := zf_r (fun j => decide (cn j = x)) i) hx hb hr (fun t ht hW => ⟨_, rfl, by rw [show i = cc by omega], ht⟩) (fun _ h => by cases h) d_MO_cardOf_40
      · exact absurd (nI_le (show cc ≤ i by omega) (by omega)) c_11
    | succ k ih =>
      intro i ls hi hl
      have b_20 : vp_in (nI i) 100 := vp_in_nI (by omega) (by omega)
      refine lv_iload hx hb d_MO_cardOf_5 (lv_at hl 0 rfl) ?_
      refine lv_aload_n hx hb d_MO_cardOf_7 rfl (lv_at hl 2 rfl) ?_
      refine va_get (D := (dC, dI)) (ci := 4) (v := .int (nI cc)) (C := R_MO) (T := T_MO) (N := 16) hx hb htB i_MO hown hK hP 0 rfl rfl 11 (by decide) (htB _ lf_MO_88) (fun _ h9 => h9) rfl d_MO_cardOf_8 ?_
      refine lv_icmp_ge (tgt := 39) hx hb d_MO_cardOf_11 (by decide) (fun c_11 => ?_) (fun c_11 => ?_)
      · exact absurd c_11 (nI_ge (show i < cc by omega) (by omega))
      · refine lv_aload_n hx hb d_MO_cardOf_14 rfl (lv_at hl 2 rfl) ?_
        refine va_get (D := (dC, dI)) (ci := 4) (v := .ref nc) (C := R_MO) (T := T_MO) (N := 16) hx hb htB i_MO hown hK hP 0 rfl rfl 12 (by decide) (htB _ lf_MO_28) (fun _ h9 => h9) rfl d_MO_cardOf_15 ?_
        refine lv_iload hx hb d_MO_cardOf_18 (lv_at hl 0 rfl) ?_
        refine va_lald hx hb hK hP 7 6 rfl rfl b_20 d_MO_cardOf_20 ?_
        rw [nI_clamp (n := i) (by omega)]
        refine lv_lload_n hx hb d_MO_cardOf_21 rfl (lv_at hl 3 rfl) ?_
        refine W.lcmp hx hb d_MO_cardOf_22 ?_
        refine lv_if_ne (tgt := 31) hx hb d_MO_cardOf_23 (by decide) (fun c_23 => ?_) (fun c_23 => ?_)
        · have hst : zf_r (fun j => decide (cn j = x)) (i + 1) = zf_r (fun j => decide (cn j = x)) i := zf_rk (by rw [decide_eq_false_iff_not]; exact fun h => c_23 ((lg_cmp_eq _ _).mpr h))
          refine lv_iload_n hx hb d_MO_cardOf_31 rfl (lv_at hl 1 rfl) ?_
          refine lv_istore_n (lv' := [(3, .int (zf_r (fun j => decide (cn j = x)) i)), (4, .int (nI i)), (0, .ref hM), (1, .long x)]) hx hb d_MO_cardOf_32 rfl hl (by decide) rfl (fun ls hl => ?_)
          refine lv_iinc (v := (nI i) + 1) (lv' := [(4, .int ((nI i) + 1)), (3, .int (zf_r (fun j => decide (cn j = x)) i)), (0, .ref hM), (1, .long x)]) hx hb d_MO_cardOf_33 hl (k := 1) rfl rfl (by decide) rfl (fun ls hl => ?_)
          refine lv_goto (tgt := 5) hx hb d_MO_cardOf_36 (by decide) ?_
          rw [nI_1] at hl
          refine ih (i + 1) ls (by omega) ?_
          rw [hst]
          exact lv_sub hl [0, 1, 2, 3] rfl
        · have hst : zf_r (fun j => decide (cn j = x)) (i + 1) = nI i := zf_rs (Nat.lt_succ_self i) (by rw [decide_eq_true_eq]; exact (lg_cmp_eq _ _).mp c_23) (fun j hj => by rw [decide_eq_false_iff_not]; exact fun h => absurd (hdist j i (by omega) (by omega) (h.trans ((lg_cmp_eq _ _).mp c_23).symm)) (by omega))
          refine lv_iload hx hb d_MO_cardOf_26 (lv_at hl 0 rfl) ?_
          refine lv_goto (tgt := 32) hx hb d_MO_cardOf_28 (by decide) ?_
          refine lv_istore_n (lv' := [(3, .int (nI i)), (4, .int (nI i)), (0, .ref hM), (1, .long x)]) hx hb d_MO_cardOf_32 rfl hl (by decide) rfl (fun ls hl => ?_)
          refine lv_iinc (v := (nI i) + 1) (lv' := [(4, .int ((nI i) + 1)), (3, .int (nI i)), (0, .ref hM), (1, .long x)]) hx hb d_MO_cardOf_33 hl (k := 1) rfl rfl (by decide) rfl (fun ls hl => ?_)
          refine lv_goto (tgt := 5) hx hb d_MO_cardOf_36 (by decide) ?_
          rw [nI_1] at hl
          refine ih (i + 1) ls (by omega) ?_
          rw [hst]
          exact lv_sub hl [0, 1, 2, 3] rfl
  exact loop cc 0 ls (by omega) (lv_sub hl [0, 1, 2, 3] rfl)
set_option maxHeartbeats 4000000 in
set_option maxRecDepth 100000 in
theorem c_MO_since (l : Launch) (dC : Nat → ClassId) (dI : Nat → Nat → Nat) (hM np nd nl nk nu nt nc nf nb : Nat) (cMP cMD cML cMI cMU cMT cMC cMF cMB : ClassId) (co wi ma no : Int32) (rc : Nat) (rp rl ri : Nat → Int32) (hrc : rc ≤ 40) (ac : Nat) (ai us ua : Nat → Int32) (hac : ac ≤ 64) (cc : Nat) (cn : Nat → Int64) (ca cb : Nat → Int32) (hcc : cc ≤ 100) (z : Int32) (hz : 0 ≤ z.toInt ∧ z.toInt < 64) (hus : 0 ≤ (us z.toInt.toNat).toInt ∧ (us z.toInt.toNat).toInt < 9) (T : Int32) : Met l y_MO_since (zw y_MO_since b_MO_since 5 (some .int)) ({ frames := 0, cells := 0, slots := 0, locals := 0 }) (zPre [.ref hM, .int z, .int T] (dC, dI) [(hM, .inr (4, [.int co, .int wi, .int ma, .int (nI rc), .ref np, .ref nd, .ref nl, .int (nI ac), .ref nk, .ref nu, .ref nt, .int (nI cc), .ref nc, .ref nf, .ref nb, .int no])), (np, .inl (cMP, 40, .inl rp)), (nd, .inl (cMD, 40, .inl rl)), (nl, .inl (cML, 40, .inl ri)), (nk, .inl (cMI, 64, .inl ai)), (nu, .inl (cMU, 64, .inl us)), (nt, .inl (cMT, 512, .inl ua)), (nc, .inl (cMC, 100, .inr (.inl cn))), (nf, .inl (cMF, 100, .inl ca)), (nb, .inl (cMB, 100, .inl cb))] [(cMP, .int), (cMD, .int), (cML, .int), (cMI, .int), (cMU, .int), (cMT, .int), (cMC, .long), (cMF, .int), (cMB, .boolean)]) (vp_Si (fun r => r = nI (zu_cnt ua (T - wi) (8 * z.toInt.toNat) (us z.toInt.toNat).toInt.toNat))) 0 0 (fun _ => False) := by
  refine Met.ofW (cc := b_MO_since) (maxL := 5) (ret := (some .int)) (by decide) rfl ?_
  intro p e s m args below meth c s₁ B hml hv
  obtain ⟨rfl, hP, hK⟩ := hv
  have hx := B.exec
  have hb := B.bytes
  have hr := B.returns
  have hts := atoms_spec (ws := (zw y_MO_since b_MO_since 5 (some .int))) B.pre
  have htB : ∀ w ∈ BG, w.before ([.ref hM, .int z, .int T] : List Value).toArray s = true := fun w h => hts w (List.mem_cons_of_mem _ h)
  have hown : s.vm.findClass R_MO = some m.cls := findClass_of_methodNamed B.named
  have hlocks := B.notSynchronized
  have CF : CallFix p m c b_MO_since 5 s ([.ref hM, .int z, .int T] : List Value).toArray BG R_MO := ⟨hx, hb, hml, hown, htB⟩
  have hP : va_P (dC, dI) vwCl [(hM, .inr (4, [.int co, .int wi, .int ma, .int (nI rc), .ref np, .ref nd, .ref nl, .int (nI ac), .ref nk, .ref nu, .ref nt, .int (nI cc), .ref nc, .ref nf, .ref nb, .int no])), (np, .inl (cMP, 40, .inl rp)), (nd, .inl (cMD, 40, .inl rl)), (nl, .inl (cML, 40, .inl ri)), (nk, .inl (cMI, 64, .inl ai)), (nu, .inl (cMU, 64, .inl us)), (nt, .inl (cMT, 512, .inl ua)), (nc, .inl (cMC, 100, .inr (.inl cn))), (nf, .inl (cMF, 100, .inl ca)), (nb, .inl (cMB, 100, .inl cb))] s.heap := hP
  have hl := lv_entry [.ref hM, .int z, .int T] (n := 5) (Nat.le_of_ble_eq_true rfl)
  rw [lg_entry_eq]
  generalize (lg_sl [.ref hM, .int z, .int T] ++ List.replicate (5 - (lg_sl [.ref hM, .int z, .int T]).length) Slot.unset).toArray = ls at hl ⊢
  have hl : lv_has ls 5 [(0, .ref hM), (1, .int z), (2, .int T)] := hl
  obtain ⟨ez, hz64⟩ := zi_of (n := 64) hz
  obtain ⟨eu, hu9⟩ := zi_of (n := 9) hus
  generalize z.toInt.toNat = a at ez hz64 eu hu9 hus ⊢
  subst ez
  generalize (us a).toInt.toNat = u at eu hu9 ⊢
  have b_12 : vp_in (nI a) 64 := vp_in_nI (by omega) (by omega)
  refine lv_iconst (v := 0) hx hb d_MO_since_0 (by decide) ?_
  refine lv_istore_n (lv' := [(3, .int 0), (0, .ref hM), (1, .int (nI a)), (2, .int T)]) hx hb d_MO_since_1 rfl hl (by decide) rfl (fun ls hl => ?_)
  refine lv_iconst (v := 0) hx hb d_MO_since_2 (by decide) ?_
  refine lv_istore (lv' := [(4, .int 0), (3, .int 0), (0, .ref hM), (1, .int (nI a)), (2, .int T)]) hx hb d_MO_since_3 hl (by decide) rfl (fun ls hl => ?_)
  have loop : ∀ (k i : Nat) (ls : Array Slot), i + k = u → lv_has ls 5 [(4, .int (nI i)), (3, .int (nI (zu_cnt ua (T - wi) (8 * a) i))), (0, .ref hM), (1, .int (nI a)), (2, .int T)] → W p l e (headSpec (zw y_MO_since b_MO_since 5 (some .int)) ({ frames := 0, cells := 0, slots := 0, locals := 0 })).room s m ([.ref hM, .int (nI a), .int T] : List Value).toArray below meth c s.heap [] 0 0 (MQ below (vp_Si (fun r => r = nI (zu_cnt ua (T - wi) (8 * a) u))) ([.ref hM, .int (nI a), .int T] : List Value).toArray s 0 0 (fun _ => False)) (F0 m 5 ls []) := by
    intro k
    induction k with
    | zero =>
      intro i ls hi hl
      refine lv_iload hx hb d_MO_since_5 (lv_at hl 0 rfl) ?_
      refine lv_aload_n hx hb d_MO_since_7 rfl (lv_at hl 2 rfl) ?_
      refine va_get (D := (dC, dI)) (ci := 4) (v := .ref nu) (C := R_MO) (T := T_MO) (N := 16) hx hb htB i_MO hown hK hP 0 rfl rfl 9 (by decide) (htB _ lf_MO_22) (fun _ h9 => h9) rfl d_MO_since_8 ?_
      refine lv_iload_n hx hb d_MO_since_11 rfl (lv_at hl 3 rfl) ?_
      refine va_iald hx hb hK hP 5 4 rfl rfl b_12 d_MO_since_12 ?_
      rw [nI_clamp (n := a) (by omega)]
      rw [show (us a : Int32) = nI u from eu]
      refine lv_icmp_ge (tgt := 51) hx hb d_MO_since_13 (by decide) (fun c_13 => ?_) (fun c_13 => ?_)
      · refine lv_iload_n hx hb d_MO_since_51 rfl (lv_at hl 1 rfl) ?_
        exact W.iret (v := nI (zu_cnt ua (T - wi) (8 * a) i)) hx hb hr (fun t ht hW => ⟨_, rfl, by rw [show i = u by omega], ht⟩) (fun _ h => by cases h) d_MO_since_52
      · exact absurd (nI_le (show u ≤ i by omega) (by omega)) c_13
    | succ k ih =>
      intro i ls hi hl
      have b_28 : vp_in (nI (8 * a + i)) 512 := vp_in_nI (by omega) (by omega)
      refine lv_iload hx hb d_MO_since_5 (lv_at hl 0 rfl) ?_
      refine lv_aload_n hx hb d_MO_since_7 rfl (lv_at hl 2 rfl) ?_
      refine va_get (D := (dC, dI)) (ci := 4) (v := .ref nu) (C := R_MO) (T := T_MO) (N := 16) hx hb htB i_MO hown hK hP 0 rfl rfl 9 (by decide) (htB _ lf_MO_22) (fun _ h9 => h9) rfl d_MO_since_8 ?_
      refine lv_iload_n hx hb d_MO_since_11 rfl (lv_at hl 3 rfl) ?_
      refine va_iald hx hb hK hP 5 4 rfl rfl b_12 d_MO_since_12 ?_
      rw [nI_clamp (n := a) (by omega)]
      rw [show (us a : Int32) = nI u from eu]
      refine lv_icmp_ge (tgt := 51) hx hb d_MO_since_13 (by decide) (fun c_13 => ?_) (fun c_13 => ?_)
      · exact absurd c_13 (nI_ge (show i < u by omega) (by omega))
      · refine lv_iload_n hx hb d_MO_since_16 rfl (lv_at hl 1 rfl) ?_
        refine lv_aload_n hx hb d_MO_since_17 rfl (lv_at hl 2 rfl) ?_
        refine va_get (D := (dC, dI)) (ci := 4) (v := .ref nt) (C := R_MO) (T := T_MO) (N := 16) hx hb htB i_MO hown hK hP 0 rfl rfl 10 (by decide) (htB _ lf_MO_25) (fun _ h9 => h9) rfl d_MO_since_18 ?_
        refine lv_bipush (v := 8) hx hb d_MO_since_21 (by decide) ?_
        refine lv_iload_n hx hb d_MO_since_23 rfl (lv_at hl 3 rfl) ?_
        refine lv_imul hx hb d_MO_since_24 ?_
        rw [show (8 * (nI a) : Int32) = nI (8 * a) from pk_mul 8 a]
        refine lv_iload hx hb d_MO_since_25 (lv_at hl 0 rfl) ?_
        refine lv_iadd hx hb d_MO_since_27 ?_
        rw [show ((nI (8 * a)) + (nI i) : Int32) = nI (8 * a + i) from nI_add (8 * a) i]
        refine va_iald hx hb hK hP 6 5 rfl rfl b_28 d_MO_since_28 ?_
        rw [nI_clamp (n := (8 * a + i)) (by omega)]
        refine lv_iload_n hx hb d_MO_since_29 rfl (lv_at hl 4 rfl) ?_
        refine lv_aload_n hx hb d_MO_since_30 rfl (lv_at hl 2 rfl) ?_
        refine va_get (D := (dC, dI)) (ci := 4) (v := .int wi) (C := R_MO) (T := T_MO) (N := 16) hx hb htB i_MO hown hK hP 0 rfl rfl 1 (by decide) (htB _ lf_MO_39) (fun _ h9 => h9) rfl d_MO_since_31 ?_
        refine lv_isub hx hb d_MO_since_34 ?_
        refine lv_icmp_lt (tgt := 42) hx hb d_MO_since_35 (by decide) (fun c_35 => ?_) (fun c_35 => ?_)
        · refine lv_iconst (v := 0) hx hb d_MO_since_42 (by decide) ?_
          refine lv_iadd hx hb d_MO_since_43 ?_
          refine lv_istore_n (lv' := [(3, .int ((nI (zu_cnt ua (T - wi) (8 * a) i)) + 0)), (4, .int (nI i)), (0, .ref hM), (1, .int (nI a)), (2, .int T)]) hx hb d_MO_since_44 rfl hl (by decide) rfl (fun ls hl => ?_)
          refine lv_iinc (v := (nI i) + 1) (lv' := [(4, .int ((nI i) + 1)), (3, .int ((nI (zu_cnt ua (T - wi) (8 * a) i)) + 0)), (0, .ref hM), (1, .int (nI a)), (2, .int T)]) hx hb d_MO_since_45 hl (k := 1) rfl rfl (by decide) rfl (fun ls hl => ?_)
          refine lv_goto (tgt := 5) hx hb d_MO_since_48 (by decide) ?_
          rw [nI_1, show nI (zu_cnt ua (T - wi) (8 * a) i) + 0 = nI (zu_cnt ua (T - wi) (8 * a) i) from nI_add _ 0] at hl
          have ez : zu_cnt ua (T - wi) (8 * a) (i + 1) = zu_cnt ua (T - wi) (8 * a) i := by simp only [zu_cnt]; rw [if_neg (fun h => absurd c_35 (Int32.not_lt.mpr h))]; rfl
          refine ih (i + 1) ls (by omega) ?_
          rw [ez]
          exact lv_sub hl [0, 1, 2, 3, 4] rfl
        · refine lv_iconst (v := 1) hx hb d_MO_since_38 (by decide) ?_
          refine lv_goto (tgt := 43) hx hb d_MO_since_39 (by decide) ?_
          refine lv_iadd hx hb d_MO_since_43 ?_
          refine lv_istore_n (lv' := [(3, .int ((nI (zu_cnt ua (T - wi) (8 * a) i)) + 1)), (4, .int (nI i)), (0, .ref hM), (1, .int (nI a)), (2, .int T)]) hx hb d_MO_since_44 rfl hl (by decide) rfl (fun ls hl => ?_)
          refine lv_iinc (v := (nI i) + 1) (lv' := [(4, .int ((nI i) + 1)), (3, .int ((nI (zu_cnt ua (T - wi) (8 * a) i)) + 1)), (0, .ref hM), (1, .int (nI a)), (2, .int T)]) hx hb d_MO_since_45 hl (k := 1) rfl rfl (by decide) rfl (fun ls hl => ?_)
          refine lv_goto (tgt := 5) hx hb d_MO_since_48 (by decide) ?_
          rw [nI_1, nI_1] at hl
          have ez : zu_cnt ua (T - wi) (8 * a) (i + 1) = zu_cnt ua (T - wi) (8 * a) i + 1 := by simp only [zu_cnt]; rw [if_pos (Int32.not_lt.mp c_35)]
          refine ih (i + 1) ls (by omega) ?_
          rw [ez]
          exact lv_sub hl [0, 1, 2, 3, 4] rfl
  exact loop u 0 ls (by omega) (lv_sub hl [0, 1, 2, 3, 4] rfl)
