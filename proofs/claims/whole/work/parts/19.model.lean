/-- how many digits are written: 1 for 0 -/
def zd_wd (n : Nat) : Nat := if zd_dg 19 n = 0 then 1 else zd_dg 19 n
/-- without its last k digits -/
def zd_sh : Nat → Nat → Nat
  | 0, b => b
  | k + 1, b => zd_sh k (b / 10)
theorem zd_dgp {n : Nat} (h : n ≠ 0) : 1 ≤ zd_dg 19 n := by
  simp only [zd_dg, h, if_false]; omega
theorem zd_wdp {n : Nat} (h : 1 ≤ zd_dg 19 n) : zd_wd n = zd_dg 19 n := by
  unfold zd_wd; rw [if_neg (by omega)]
theorem zd_wd_le (n : Nat) : zd_wd n ≤ 19 := by
  have := zd_dg_le 19 n
  unfold zd_wd; split <;> omega
theorem zd_wd_iff {n : Nat} {m : Int} (hm : 1 ≤ m) : (zd_wd n : Int) ≤ m ↔ (zd_dg 19 n : Int) ≤ m := by
  unfold zd_wd; split <;> omega
theorem zd_p19 {n : Nat} (h : n < 2 ^ 63) : n < 10 ^ 19 := Nat.lt_trans h (by decide)
theorem zd_lt1 {x : Int64} : x < 1 ↔ zd_N x = 0 := by
  rcases zd_of (x := x) with h | ⟨k, hk, rfl⟩
  · rw [zd_neg h]
    exact ⟨fun _ => rfl, fun _ => Int64.lt_trans h (by decide)⟩
  · rw [zd_lN hk, show (1 : Int64) = lN 1 from rfl, pk_lLT hk (by decide)]; omega
theorem zd_1 {n : Nat} : 1 ≤ zd_dg 19 n ↔ n ≠ 0 := ⟨fun h e => by rw [e, zd_dg0] at h; omega, zd_dgp⟩
theorem zd_twm {d : Nat} (h : d < 10) : zd_tw d = if d < 5 then 2 * d else 2 * d - 9 := by
  unfold zd_tw; split <;> split <;> omega
set_option maxHeartbeats 4000000 in
set_option maxRecDepth 100000 in
theorem c_MO_width (l : Launch) (dC : Nat → ClassId) (dI : Nat → Nat → Nat) (x : Int64) : Met l y_MO_width (zw y_MO_width b_MO_width 5 (some .int)) ({ frames := 0, cells := 0, slots := 0, locals := 0 }) (zPre [.long x] (dC, dI) [] []) (vp_Si (fun r => r = nI (zd_wd (zd_N x)))) 0 0 (fun _ => False) := by
  refine Met.ofW (cc := b_MO_width) (maxL := 5) (ret := (some .int)) (by decide) rfl ?_
  intro p e s m args below meth c s₁ B hml hv
  obtain ⟨rfl, hP, hK⟩ := hv
  have hx := B.exec
  have hb := B.bytes
  have hr := B.returns
  have hts := atoms_spec (ws := (zw y_MO_width b_MO_width 5 (some .int))) B.pre
  have htB : ∀ w ∈ BG, w.before ([.long x] : List Value).toArray s = true := fun w h => hts w (List.mem_cons_of_mem _ h)
  have hown : s.vm.findClass R_MO = some m.cls := findClass_of_methodNamed B.named
  have hlocks := B.notSynchronized
  have CF : CallFix p m c b_MO_width 5 s ([.long x] : List Value).toArray BG R_MO := ⟨hx, hb, hml, hown, htB⟩
  have hP : va_P (dC, dI) vwCl [] s.heap := hP
  have hl := lv_entry [.long x] (n := 5) (Nat.le_of_ble_eq_true rfl)
  rw [lg_entry_eq]
  generalize (lg_sl [.long x] ++ List.replicate (5 - (lg_sl [.long x]).length) Slot.unset).toArray = ls at hl ⊢
  have hl : lv_has ls 5 [(0, .long x)] := hl
  refine lv_iconst (v := 0) hx hb d_MO_width_0 (by decide) ?_
  refine lv_istore_n (lv' := [(2, .int 0), (0, .long x)]) hx hb d_MO_width_1 rfl hl (by decide) rfl (fun ls hl => ?_)
  refine lv_lload_n hx hb d_MO_width_2 rfl (lv_at hl 1 rfl) ?_
  refine lv_lstore_n (lv' := [(3, .long x), (2, .int 0), (0, .long x)]) hx hb d_MO_width_3 rfl hl (by decide) rfl (fun ls hl => ?_)
  have loop : ∀ (k i r : Nat) (ls : Array Slot), i + k = 19 → r < 2 ^ 63 → r < 10 ^ k → i + zd_dg k r = zd_dg 19 (zd_N x) → lv_has ls 5 [(3, .long (lN r)), (2, .int (nI i)), (0, .long x)] → W p l e (headSpec (zw y_MO_width b_MO_width 5 (some .int)) ({ frames := 0, cells := 0, slots := 0, locals := 0 })).room s m ([.long x] : List Value).toArray below meth c s.heap [] 0 0 (MQ below (vp_Si (fun r => r = nI (zd_wd (zd_N x)))) ([.long x] : List Value).toArray s 0 0 (fun _ => False)) (F0 m 4 ls []) := by
    intro k
    induction k with
    | zero =>
      intro i r ls hi hr9 hr10 he hl
      have hr0 : r = 0 := by omega
      have hD9 : i = zd_dg 19 (zd_N x) := by rw [← he]; simp [zd_dg]
      refine lv_lload_n hx hb d_MO_width_4 rfl (lv_at hl 0 rfl) ?_
      refine lv_lconst (v := 0) hx hb d_MO_width_5 (by decide) ?_
      refine W.lcmp hx hb d_MO_width_6 ?_
      refine lv_if_le (tgt := 22) hx hb d_MO_width_7 (by decide) (fun c_7 => ?_) (fun c_7 => ?_)
      · refine lv_iload_n hx hb d_MO_width_22 rfl (lv_at hl 1 rfl) ?_
        refine lv_if_ne (tgt := 30) hx hb d_MO_width_23 (by decide) (fun c_23 => ?_) (fun c_23 => ?_)
        · have hi0 : ¬ i = 0 := fun h => c_23 (by rw [h]; rfl)
          refine lv_iload_n hx hb d_MO_width_30 rfl (lv_at hl 1 rfl) ?_
          exact W.iret (v := nI i) hx hb hr (fun t ht hW => ⟨_, rfl, by unfold zd_wd; rw [← hD9, if_neg hi0], ht⟩) (fun _ h => by cases h) d_MO_width_31
        · have hi0 : i = 0 := (nI_eq (b := 0) (by omega) (by decide)).mp c_23
          refine lv_iconst (v := 1) hx hb d_MO_width_26 (by decide) ?_
          refine lv_goto (tgt := 31) hx hb d_MO_width_27 (by decide) ?_
          exact W.iret (v := 1) hx hb hr (fun t ht hW => ⟨_, rfl, by unfold zd_wd; rw [← hD9, if_pos hi0]; rfl, ht⟩) (fun _ h => by cases h) d_MO_width_31
      · exact absurd ((zd_le0 hr9).mpr hr0) c_7
    | succ k ih =>
      intro i r ls hi hr9 hr10 he hl
      refine lv_lload_n hx hb d_MO_width_4 rfl (lv_at hl 0 rfl) ?_
      refine lv_lconst (v := 0) hx hb d_MO_width_5 (by decide) ?_
      refine W.lcmp hx hb d_MO_width_6 ?_
      refine lv_if_le (tgt := 22) hx hb d_MO_width_7 (by decide) (fun c_7 => ?_) (fun c_7 => ?_)
      · have hr0 : r = 0 := (zd_le0 hr9).mp c_7
        have hD9 : i = zd_dg 19 (zd_N x) := by rw [← he, hr0, zd_dg0]; rfl
        refine lv_iload_n hx hb d_MO_width_22 rfl (lv_at hl 1 rfl) ?_
        refine lv_if_ne (tgt := 30) hx hb d_MO_width_23 (by decide) (fun c_23 => ?_) (fun c_23 => ?_)
        · have hi0 : ¬ i = 0 := fun h => c_23 (by rw [h]; rfl)
          refine lv_iload_n hx hb d_MO_width_30 rfl (lv_at hl 1 rfl) ?_
          exact W.iret (v := nI i) hx hb hr (fun t ht hW => ⟨_, rfl, by unfold zd_wd; rw [← hD9, if_neg hi0], ht⟩) (fun _ h => by cases h) d_MO_width_31
        · have hi0 : i = 0 := (nI_eq (b := 0) (by omega) (by decide)).mp c_23
          refine lv_iconst (v := 1) hx hb d_MO_width_26 (by decide) ?_
          refine lv_goto (tgt := 31) hx hb d_MO_width_27 (by decide) ?_
          exact W.iret (v := 1) hx hb hr (fun t ht hW => ⟨_, rfl, by unfold zd_wd; rw [← hD9, if_pos hi0]; rfl, ht⟩) (fun _ h => by cases h) d_MO_width_31
      · refine lv_lload_n hx hb d_MO_width_10 rfl (lv_at hl 0 rfl) ?_
        refine lv_ldc2 (v := 10) hx hb hown (htB _ kl_MO_49) d_MO_width_11 ?_
        refine lv_ldiv hx hb d_MO_width_14 (by decide) ?_
        refine lv_lstore_n (lv' := [(3, .long ((lN r) / 10)), (2, .int (nI i)), (0, .long x)]) hx hb d_MO_width_15 rfl hl (by decide) rfl (fun ls hl => ?_)
        refine lv_iinc (v := (nI i) + 1) (lv' := [(2, .int ((nI i) + 1)), (3, .long ((lN r) / 10)), (0, .long x)]) hx hb d_MO_width_16 hl (k := 1) rfl rfl (by decide) rfl (fun ls hl => ?_)
        refine lv_goto (tgt := 4) hx hb d_MO_width_19 (by decide) ?_
        have hr0 : r ≠ 0 := fun h => c_7 ((zd_le0 hr9).mpr h)
        rw [zd_div hr9, nI_1] at hl
        refine ih (i + 1) (r / 10) ls (by omega) (by omega) (by rw [Nat.pow_succ] at hr10; omega) ?_ (lv_sub hl [1, 0, 2] rfl)
        rw [← he]; simp only [zd_dg, hr0, if_false]; omega
  rcases zd_of (x := x) with hx0 | ⟨n, hn, rfl⟩
  · refine lv_lload_n hx hb d_MO_width_4 rfl (lv_at hl 0 rfl) ?_
    refine lv_lconst (v := 0) hx hb d_MO_width_5 (by decide) ?_
    refine W.lcmp hx hb d_MO_width_6 ?_
    refine lv_if_le (tgt := 22) hx hb d_MO_width_7 (by decide) (fun c_7 => ?_) (fun c_7 => ?_)
    · refine lv_iload_n hx hb d_MO_width_22 rfl (lv_at hl 1 rfl) ?_
      refine lv_if_ne (tgt := 30) hx hb d_MO_width_23 (by decide) (fun c_23 => ?_) (fun c_23 => ?_)
      · exact absurd rfl c_23
      · refine lv_iconst (v := 1) hx hb d_MO_width_26 (by decide) ?_
        refine lv_goto (tgt := 31) hx hb d_MO_width_27 (by decide) ?_
        exact W.iret (v := 1) hx hb hr (fun t ht hW => ⟨_, rfl, by rw [zd_neg hx0]; rfl, ht⟩) (fun _ h => by cases h) d_MO_width_31
    · exact absurd ((lg_cmp_le x 0).mpr (Int64.le_of_lt hx0)) c_7
  · exact loop 19 0 n ls rfl hn (zd_p19 hn) (by rw [zd_lN hn]; omega) (lv_sub hl [0, 1, 2] rfl)
set_option maxHeartbeats 4000000 in
set_option maxRecDepth 100000 in
theorem c_MO_isNumber (l : Launch) (dC : Nat → ClassId) (dI : Nat → Nat → Nat) (x : Int64) (k : Nat) (hk20 : k < 20) : Met l y_MO_isNumber (zw y_MO_isNumber b_MO_isNumber 3 (some .boolean)) ({ frames := 1, cells := 0, slots := 0, locals := 24 }) (zPre [.long x, .int (nI k)] (dC, dI) [] []) (vp_Si (fun r => r = if zok_D x 1 k then 1 else 0)) 0 0 (fun _ => False) := by
  refine Met.ofW (cc := b_MO_isNumber) (maxL := 3) (ret := (some .boolean)) (by decide) rfl ?_
  intro p e s m args below meth c s₁ B hml hv
  obtain ⟨rfl, hP, hK⟩ := hv
  have hx := B.exec
  have hb := B.bytes
  have hr := B.returns
  have hts := atoms_spec (ws := (zw y_MO_isNumber b_MO_isNumber 3 (some .boolean))) B.pre
  have htB : ∀ w ∈ BG, w.before ([.long x, .int (nI k)] : List Value).toArray s = true := fun w h => hts w (List.mem_cons_of_mem _ h)
  have hown : s.vm.findClass R_MO = some m.cls := findClass_of_methodNamed B.named
  have hlocks := B.notSynchronized
  have CF : CallFix p m c b_MO_isNumber 3 s ([.long x, .int (nI k)] : List Value).toArray BG R_MO := ⟨hx, hb, hml, hown, htB⟩
  have hP : va_P (dC, dI) vwCl [] s.heap := hP
  have hl := lv_entry [.long x, .int (nI k)] (n := 3) (Nat.le_of_ble_eq_true rfl)
  rw [lg_entry_eq]
  generalize (lg_sl [.long x, .int (nI k)] ++ List.replicate (3 - (lg_sl [.long x, .int (nI k)]).length) Slot.unset).toArray = ls at hl ⊢
  have hl : lv_has ls 3 [(0, .long x), (2, .int (nI k))] := hl
  have hwl := zd_wd_le (zd_N x)
  refine lv_lload_n hx hb d_MO_isNumber_0 rfl (lv_at hl 0 rfl) ?_
  refine lv_lconst (v := 1) hx hb d_MO_isNumber_1 (by decide) ?_
  refine W.lcmp hx hb d_MO_isNumber_2 ?_
  refine lv_if_lt (tgt := 18) hx hb d_MO_isNumber_3 (by decide) (fun c_3 => ?_) (fun c_3 => ?_)
  · have hno : ¬ zok_D x 1 k := fun h => zd_1.mp h.1 (zd_lt1.mp ((lg_cmp_lt x 1).mp c_3))
    refine lv_iconst (v := 0) hx hb d_MO_isNumber_18 (by decide) ?_
    exact W.zret (v := 0) (ty := .boolean) hx hb hr rfl (fun t ht hW => ⟨_, rfl, by rw [if_neg hno], ht⟩) (fun _ h => by cases h) d_MO_isNumber_19
  · have h1 : 1 ≤ zd_dg 19 (zd_N x) := zd_1.mpr (fun h => c_3 ((lg_cmp_lt x 1).mpr (zd_lt1.mpr h)))
    have hwd := zd_wdp h1
    refine lv_lload_n hx hb d_MO_isNumber_6 rfl (lv_at hl 0 rfl) ?_
    refine vp_callSi (va_Run.run (zr_S (n := 1) (As := [.long x]) (rest := []) CF (c_MO_width l dC dI x) mc_MO_width lk_MO_51 mt_MO_width ni_MO rfl rfl (by decide +kernel) ⟨Nat.le_of_ble_eq_true rfl, Nat.le_of_ble_eq_true rfl⟩ (hP.sub (ws' := []) [] rfl) (hK.sub (tys' := []) [] rfl) rfl rfl hl.1 rfl (lv_room (Nat.le_of_ble_eq_true rfl)) d_MO_isNumber_7 ⟨Nat.zero_le _, Nat.zero_le _⟩)) (fun r_7 h_7 => ?_)
    subst h_7
    refine lv_iload_n hx hb d_MO_isNumber_10 rfl (lv_at hl 1 rfl) ?_
    refine lv_icmp_gt (tgt := 18) hx hb d_MO_isNumber_11 (by decide) (fun c_11 => ?_) (fun c_11 => ?_)
    · have hno : ¬ zok_D x 1 k := fun h => absurd c_11 (nI_nlt (show zd_wd (zd_N x) ≤ k by rw [hwd]; exact h.2) (by omega))
      refine lv_iconst (v := 0) hx hb d_MO_isNumber_18 (by decide) ?_
      exact W.zret (v := 0) (ty := .boolean) hx hb hr rfl (fun t ht hW => ⟨_, rfl, by rw [if_neg hno], ht⟩) (fun _ h => by cases h) d_MO_isNumber_19
    · have hok : zok_D x 1 k := ⟨h1, by rw [← hwd]; exact Nat.not_lt.mp (fun h => c_11 (nI_lt h (by omega)))⟩
      refine lv_iconst (v := 1) hx hb d_MO_isNumber_14 (by decide) ?_
      refine lv_goto (tgt := 19) hx hb d_MO_isNumber_15 (by decide) ?_
      exact W.zret (v := 1) (ty := .boolean) hx hb hr rfl (fun t ht hW => ⟨_, rfl, by rw [if_pos hok], ht⟩) (fun _ h => by cases h) d_MO_isNumber_19
set_option maxHeartbeats 4000000 in
set_option maxRecDepth 100000 in
theorem c_MO_isPrefix (l : Launch) (dC : Nat → ClassId) (dI : Nat → Nat → Nat) (y z : Int32) : Met l y_MO_isPrefix (zw y_MO_isPrefix b_MO_isPrefix 2 (some .boolean)) ({ frames := 1, cells := 0, slots := 0, locals := 24 }) (zPre [.int y, .int z] (dC, dI) [] []) (vp_Si (fun r => r = if zok_P y z then 1 else 0)) 0 0 (fun _ => False) := by
  refine Met.ofW (cc := b_MO_isPrefix) (maxL := 2) (ret := (some .boolean)) (by decide) rfl ?_
  intro p e s m args below meth c s₁ B hml hv
  obtain ⟨rfl, hP, hK⟩ := hv
  have hx := B.exec
  have hb := B.bytes
  have hr := B.returns
  have hts := atoms_spec (ws := (zw y_MO_isPrefix b_MO_isPrefix 2 (some .boolean))) B.pre
  have htB : ∀ w ∈ BG, w.before ([.int y, .int z] : List Value).toArray s = true := fun w h => hts w (List.mem_cons_of_mem _ h)
  have hown : s.vm.findClass R_MO = some m.cls := findClass_of_methodNamed B.named
  have hlocks := B.notSynchronized
  have CF : CallFix p m c b_MO_isPrefix 2 s ([.int y, .int z] : List Value).toArray BG R_MO := ⟨hx, hb, hml, hown, htB⟩
  have hP : va_P (dC, dI) vwCl [] s.heap := hP
  have hl := lv_entry [.int y, .int z] (n := 2) (Nat.le_of_ble_eq_true rfl)
  rw [lg_entry_eq]
  generalize (lg_sl [.int y, .int z] ++ List.replicate (2 - (lg_sl [.int y, .int z]).length) Slot.unset).toArray = ls at hl ⊢
  have hl : lv_has ls 2 [(0, .int y), (1, .int z)] := hl
  have hwl := zd_wd_le (zd_N y.toInt64)
  refine lv_iload_n hx hb d_MO_isPrefix_0 rfl (lv_at hl 0 rfl) ?_
  refine lv_if_lt (tgt := 28) hx hb d_MO_isPrefix_1 (by decide) (fun c_1 => ?_) (fun c_1 => ?_)
  · have hno : ¬ zok_P y z := fun h => by
      have h0 : y.toInt < 0 := Int32.lt_iff_toInt_lt.mp c_1
      have := h.2.2.1
      omega
    refine lv_iconst (v := 0) hx hb d_MO_isPrefix_28 (by decide) ?_
    exact W.zret (v := 0) (ty := .boolean) hx hb hr rfl (fun t ht hW => ⟨_, rfl, by rw [if_neg hno], ht⟩) (fun _ h => by cases h) d_MO_isPrefix_29
  · have h3 : 0 ≤ y.toInt := Int.not_lt.mp (fun h => c_1 (Int32.lt_iff_toInt_lt.mpr h))
    refine lv_iload_n hx hb d_MO_isPrefix_4 rfl (lv_at hl 1 rfl) ?_
    refine lv_iconst (v := 1) hx hb d_MO_isPrefix_5 (by decide) ?_
    refine lv_icmp_lt (tgt := 28) hx hb d_MO_isPrefix_6 (by decide) (fun c_6 => ?_) (fun c_6 => ?_)
    · have hno : ¬ zok_P y z := fun h => by
        have h0 : z.toInt < 1 := Int32.lt_iff_toInt_lt.mp c_6
        have := h.1
        omega
      refine lv_iconst (v := 0) hx hb d_MO_isPrefix_28 (by decide) ?_
      exact W.zret (v := 0) (ty := .boolean) hx hb hr rfl (fun t ht hW => ⟨_, rfl, by rw [if_neg hno], ht⟩) (fun _ h => by cases h) d_MO_isPrefix_29
    · have h1 : 1 ≤ z.toInt := Int.not_lt.mp (fun h => c_6 (Int32.lt_iff_toInt_lt.mpr h))
      refine lv_iload_n hx hb d_MO_isPrefix_9 rfl (lv_at hl 1 rfl) ?_
      refine lv_bipush (v := 8) hx hb d_MO_isPrefix_10 (by decide) ?_
      refine lv_icmp_gt (tgt := 28) hx hb d_MO_isPrefix_12 (by decide) (fun c_12 => ?_) (fun c_12 => ?_)
      · have hno : ¬ zok_P y z := fun h => absurd (Int32.lt_iff_toInt_lt.mp c_12) (Int.not_lt.mpr h.2.1)
        refine lv_iconst (v := 0) hx hb d_MO_isPrefix_28 (by decide) ?_
        exact W.zret (v := 0) (ty := .boolean) hx hb hr rfl (fun t ht hW => ⟨_, rfl, by rw [if_neg hno], ht⟩) (fun _ h => by cases h) d_MO_isPrefix_29
      · have h2 : z.toInt ≤ 8 := Int.not_lt.mp (fun h => c_12 (Int32.lt_iff_toInt_lt.mpr h))
        refine lv_iload_n hx hb d_MO_isPrefix_15 rfl (lv_at hl 0 rfl) ?_
        refine lv_i2l (v := y.toInt64) hx hb d_MO_isPrefix_16 rfl ?_
        refine vp_callSi (va_Run.run (zr_S (n := 1) (As := [.long y.toInt64]) (rest := []) CF (c_MO_width l dC dI y.toInt64) mc_MO_width lk_MO_51 mt_MO_width ni_MO rfl rfl (by decide +kernel) ⟨Nat.le_of_ble_eq_true rfl, Nat.le_of_ble_eq_true rfl⟩ (hP.sub (ws' := []) [] rfl) (hK.sub (tys' := []) [] rfl) rfl rfl hl.1 rfl (lv_room (Nat.le_of_ble_eq_true rfl)) d_MO_isPrefix_17 ⟨Nat.zero_le _, Nat.zero_le _⟩)) (fun r_17 h_17 => ?_)
        subst h_17
        refine lv_iload_n hx hb d_MO_isPrefix_20 rfl (lv_at hl 1 rfl) ?_
        refine lv_icmp_gt (tgt := 28) hx hb d_MO_isPrefix_21 (by decide) (fun c_21 => ?_) (fun c_21 => ?_)
        · have hno : ¬ zok_P y z := fun h => absurd ((zi_le (by omega)).mpr ((zd_wd_iff h1).mpr h.2.2.2)) (Int32.not_le.mpr c_21)
          refine lv_iconst (v := 0) hx hb d_MO_isPrefix_28 (by decide) ?_
          exact W.zret (v := 0) (ty := .boolean) hx hb hr rfl (fun t ht hW => ⟨_, rfl, by rw [if_neg hno], ht⟩) (fun _ h => by cases h) d_MO_isPrefix_29
        · have hok : zok_P y z := ⟨h1, h2, h3, (zd_wd_iff h1).mp ((zi_le (by omega)).mp (Int32.not_lt.mp c_21))⟩
          refine lv_iconst (v := 1) hx hb d_MO_isPrefix_24 (by decide) ?_
          refine lv_goto (tgt := 29) hx hb d_MO_isPrefix_25 (by decide) ?_
          exact W.zret (v := 1) (ty := .boolean) hx hb hr rfl (fun t ht hW => ⟨_, rfl, by rw [if_pos hok], ht⟩) (fun _ h => by cases h) d_MO_isPrefix_29
set_option maxHeartbeats 4000000 in
set_option maxRecDepth 100000 in
theorem c_MO_front (l : Launch) (dC : Nat → ClassId) (dI : Nat → Nat → Nat) (n d : Nat) (hn63 : n < 2 ^ 63) (hn1 : 1 ≤ zd_dg 19 n) (hd : d ≤ zd_dg 19 n) : Met l y_MO_front (zw y_MO_front b_MO_front 6 (some .long)) ({ frames := 1, cells := 0, slots := 0, locals := 24 }) (zPre [.long (lN n), .int (nI d)] (dC, dI) [] []) (vp_Sl (fun r => r = lN (zd_sh (zd_dg 19 n - d) n))) 0 0 (fun _ => False) := by
  refine Met.ofW (cc := b_MO_front) (maxL := 6) (ret := (some .long)) (by decide) rfl ?_
  intro p e s m args below meth c s₁ B hml hv
  obtain ⟨rfl, hP, hK⟩ := hv
  have hx := B.exec
  have hb := B.bytes
  have hr := B.returns
  have hts := atoms_spec (ws := (zw y_MO_front b_MO_front 6 (some .long))) B.pre
  have htB : ∀ w ∈ BG, w.before ([.long (lN n), .int (nI d)] : List Value).toArray s = true := fun w h => hts w (List.mem_cons_of_mem _ h)
  have hown : s.vm.findClass R_MO = some m.cls := findClass_of_methodNamed B.named
  have hlocks := B.notSynchronized
  have CF : CallFix p m c b_MO_front 6 s ([.long (lN n), .int (nI d)] : List Value).toArray BG R_MO := ⟨hx, hb, hml, hown, htB⟩
  have hP : va_P (dC, dI) vwCl [] s.heap := hP
  have hl := lv_entry [.long (lN n), .int (nI d)] (n := 6) (Nat.le_of_ble_eq_true rfl)
  rw [lg_entry_eq]
  generalize (lg_sl [.long (lN n), .int (nI d)] ++ List.replicate (6 - (lg_sl [.long (lN n), .int (nI d)]).length) Slot.unset).toArray = ls at hl ⊢
  have hl : lv_has ls 6 [(0, .long (lN n)), (2, .int (nI d))] := hl
  have hdl := zd_dg_le 19 n
  refine lv_lload_n hx hb d_MO_front_0 rfl (lv_at hl 0 rfl) ?_
  refine lv_lstore_n (lv' := [(3, .long (lN n)), (0, .long (lN n)), (2, .int (nI d))]) hx hb d_MO_front_1 rfl hl (by decide) rfl (fun ls hl => ?_)
  refine lv_lload_n hx hb d_MO_front_2 rfl (lv_at hl 1 rfl) ?_
  refine vp_callSi (va_Run.run (zr_S (n := 1) (As := [.long (lN n)]) (rest := []) CF (c_MO_width l dC dI (lN n)) mc_MO_width lk_MO_51 mt_MO_width ni_MO rfl rfl (by decide +kernel) ⟨Nat.le_of_ble_eq_true rfl, Nat.le_of_ble_eq_true rfl⟩ (hP.sub (ws' := []) [] rfl) (hK.sub (tys' := []) [] rfl) rfl rfl hl.1 rfl (lv_room (Nat.le_of_ble_eq_true rfl)) d_MO_front_3 ⟨Nat.zero_le _, Nat.zero_le _⟩)) (fun r_3 h_3 => ?_)
  rw [zd_lN hn63, zd_wdp hn1] at h_3
  rw [show zd_dg 19 n = d + (zd_dg 19 n - d) by omega] at h_3
  subst h_3
  refine lv_istore (lv' := [(5, .int (nI (d + (zd_dg 19 n - d)))), (3, .long (lN n)), (0, .long (lN n)), (2, .int (nI d))]) hx hb d_MO_front_6 hl (by decide) rfl (fun ls hl => ?_)
  have loop : ∀ (k b : Nat) (ls : Array Slot), d + k ≤ 19 → b < 2 ^ 63 → zd_sh k b = zd_sh (zd_dg 19 n - d) n → lv_has ls 6 [(5, .int (nI (d + k))), (3, .long (lN b)), (2, .int (nI d))] → W p l e (headSpec (zw y_MO_front b_MO_front 6 (some .long)) ({ frames := 1, cells := 0, slots := 0, locals := 24 })).room s m ([.long (lN n), .int (nI d)] : List Value).toArray below meth c s.heap [] 0 0 (MQ below (vp_Sl (fun r => r = lN (zd_sh (zd_dg 19 n - d) n))) ([.long (lN n), .int (nI d)] : List Value).toArray s 0 0 (fun _ => False)) (F0 m 8 ls []) := by
    intro k
    induction k with
    | zero =>
      intro b ls hk hb9 he hl
      refine lv_iload hx hb d_MO_front_8 (lv_at hl 0 rfl) ?_
      refine lv_iload_n hx hb d_MO_front_10 rfl (lv_at hl 2 rfl) ?_
      refine lv_icmp_le (tgt := 26) hx hb d_MO_front_11 (by decide) (fun c_11 => ?_) (fun c_11 => ?_)
      · refine lv_lload_n hx hb d_MO_front_26 rfl (lv_at hl 1 rfl) ?_
        exact W.lret (v := lN b) hx hb hr (fun t ht hW => ⟨_, rfl, by rw [← he]; rfl, ht⟩) (fun _ h => by cases h) d_MO_front_27
      · exact absurd (nI_le (Nat.le_refl d) (by omega)) c_11
    | succ k ih =>
      intro b ls hk hb9 he hl
      refine lv_iload hx hb d_MO_front_8 (lv_at hl 0 rfl) ?_
      refine lv_iload_n hx hb d_MO_front_10 rfl (lv_at hl 2 rfl) ?_
      refine lv_icmp_le (tgt := 26) hx hb d_MO_front_11 (by decide) (fun c_11 => ?_) (fun c_11 => ?_)
      · exact absurd c_11 (nI_ge (show d < d + (k + 1) by omega) (by omega))
      · refine lv_lload_n hx hb d_MO_front_14 rfl (lv_at hl 1 rfl) ?_
        refine lv_ldc2 (v := 10) hx hb hown (htB _ kl_MO_49) d_MO_front_15 ?_
        refine lv_ldiv hx hb d_MO_front_18 (by decide) ?_
        refine lv_lstore_n (lv' := [(3, .long ((lN b) / 10)), (5, .int (nI (d + (k + 1)))), (2, .int (nI d))]) hx hb d_MO_front_19 rfl hl (by decide) rfl (fun ls hl => ?_)
        refine lv_iinc (v := (nI (d + (k + 1))) + (-1)) (lv' := [(5, .int ((nI (d + (k + 1))) + (-1))), (3, .long ((lN b) / 10)), (2, .int (nI d))]) hx hb d_MO_front_20 hl (k := 1) rfl rfl (by decide) rfl (fun ls hl => ?_)
        refine lv_goto (tgt := 8) hx hb d_MO_front_23 (by decide) ?_
        rw [zd_div hb9, show nI (d + (k + 1)) + (-1) = nI (d + k) from pk_m1 (d + k)] at hl
        exact ih (b / 10) ls (by omega) (by omega) he (lv_sub hl [0, 1, 2] rfl)
  exact loop (zd_dg 19 n - d) n ls (by omega) hn63 rfl (lv_sub hl [0, 1, 3] rfl)
set_option maxHeartbeats 4000000 in
set_option maxRecDepth 100000 in
theorem c_MO_sum (l : Launch) (dC : Nat → ClassId) (dI : Nat → Nat → Nat) (x : Int64) : Met l y_MO_sum (zw y_MO_sum b_MO_sum 8 (some .int)) ({ frames := 0, cells := 0, slots := 0, locals := 0 }) (zPre [.long x, .int 0] (dC, dI) [] []) (vp_Si (fun r => r = nI (zd_cs 19 false (zd_N x)))) 0 0 (fun _ => False) := by
  refine Met.ofW (cc := b_MO_sum) (maxL := 8) (ret := (some .int)) (by decide) rfl ?_
  intro p e s m args below meth c s₁ B hml hv
  obtain ⟨rfl, hP, hK⟩ := hv
  have hx := B.exec
  have hb := B.bytes
  have hr := B.returns
  have hts := atoms_spec (ws := (zw y_MO_sum b_MO_sum 8 (some .int))) B.pre
  have htB : ∀ w ∈ BG, w.before ([.long x, .int 0] : List Value).toArray s = true := fun w h => hts w (List.mem_cons_of_mem _ h)
  have hown : s.vm.findClass R_MO = some m.cls := findClass_of_methodNamed B.named
  have hlocks := B.notSynchronized
  have CF : CallFix p m c b_MO_sum 8 s ([.long x, .int 0] : List Value).toArray BG R_MO := ⟨hx, hb, hml, hown, htB⟩
  have hP : va_P (dC, dI) vwCl [] s.heap := hP
  have hl := lv_entry [.long x, .int 0] (n := 8) (Nat.le_of_ble_eq_true rfl)
  rw [lg_entry_eq]
  generalize (lg_sl [.long x, .int 0] ++ List.replicate (8 - (lg_sl [.long x, .int 0]).length) Slot.unset).toArray = ls at hl ⊢
  have hl : lv_has ls 8 [(0, .long x), (2, .int 0)] := hl
  refine lv_iconst (v := 0) hx hb d_MO_sum_0 (by decide) ?_
  refine lv_istore_n (lv' := [(3, .int 0), (0, .long x), (2, .int 0)]) hx hb d_MO_sum_1 rfl hl (by decide) rfl (fun ls hl => ?_)
  refine lv_lload_n hx hb d_MO_sum_2 rfl (lv_at hl 1 rfl) ?_
  refine lv_lstore (lv' := [(4, .long x), (3, .int 0), (0, .long x), (2, .int 0)]) hx hb d_MO_sum_3 hl (by decide) rfl (fun ls hl => ?_)
  refine lv_iload_n hx hb d_MO_sum_5 rfl (lv_at hl 3 rfl) ?_
  refine lv_istore (lv' := [(6, .int 0), (4, .long x), (3, .int 0), (0, .long x), (2, .int 0)]) hx hb d_MO_sum_6 hl (by decide) rfl (fun ls hl => ?_)
  have loop : ∀ (k i r S : Nat) (b : Bool) (ls : Array Slot), i + k = 19 → r < 2 ^ 63 → r < 10 ^ k → S ≤ 9 * i → S + zd_cs k b r = zd_cs 19 false (zd_N x) → lv_has ls 8 [(6, .int (cond b 1 0)), (4, .long (lN r)), (3, .int (nI S)), (0, .long x)] → W p l e (headSpec (zw y_MO_sum b_MO_sum 8 (some .int)) ({ frames := 0, cells := 0, slots := 0, locals := 0 })).room s m ([.long x, .int 0] : List Value).toArray below meth c s.heap [] 0 0 (MQ below (vp_Si (fun r => r = nI (zd_cs 19 false (zd_N x)))) ([.long x, .int 0] : List Value).toArray s 0 0 (fun _ => False)) (F0 m 8 ls []) := by
    intro k
    induction k with
    | zero =>
      intro i r S b ls hi hr9 hr10 hS he hl
      have hr0 : r = 0 := by omega
      refine lv_lload hx hb d_MO_sum_8 (lv_at hl 1 rfl) ?_
      refine lv_lconst (v := 0) hx hb d_MO_sum_10 (by decide) ?_
      refine W.lcmp hx hb d_MO_sum_11 ?_
      refine lv_if_le (tgt := 80) hx hb d_MO_sum_12 (by decide) (fun c_12 => ?_) (fun c_12 => ?_)
      · refine lv_iload_n hx hb d_MO_sum_80 rfl (lv_at hl 2 rfl) ?_
        exact W.iret (v := nI S) hx hb hr (fun t ht hW => ⟨_, rfl, by rw [← he]; simp [zd_cs], ht⟩) (fun _ h => by cases h) d_MO_sum_81
      · exact absurd ((zd_le0 hr9).mpr hr0) c_12
    | succ k ih =>
      intro i r S b ls hi hr9 hr10 hS he hl
      cases b with
      | false =>
        have hl : lv_has ls 8 [(6, .int 0), (4, .long (lN r)), (3, .int (nI S)), (0, .long x)] := hl
        refine lv_lload hx hb d_MO_sum_8 (lv_at hl 1 rfl) ?_
        refine lv_lconst (v := 0) hx hb d_MO_sum_10 (by decide) ?_
        refine W.lcmp hx hb d_MO_sum_11 ?_
        refine lv_if_le (tgt := 80) hx hb d_MO_sum_12 (by decide) (fun c_12 => ?_) (fun c_12 => ?_)
        · have hr0 : r = 0 := (zd_le0 hr9).mp c_12
          subst hr0
          refine lv_iload_n hx hb d_MO_sum_80 rfl (lv_at hl 2 rfl) ?_
          exact W.iret (v := nI S) hx hb hr (fun t ht hW => ⟨_, rfl, by rw [← he]; simp [zd_cs], ht⟩) (fun _ h => by cases h) d_MO_sum_81
        · have hr0 : r ≠ 0 := fun h => c_12 ((zd_le0 hr9).mpr h)
          refine lv_lload hx hb d_MO_sum_15 (lv_at hl 1 rfl) ?_
          refine lv_ldc2 (v := 10) hx hb hown (htB _ kl_MO_49) d_MO_sum_17 ?_
          refine lv_lrem hx hb d_MO_sum_20 (by decide) ?_
          refine lv_l2i (v := ((lN r) - (lN r) / 10 * 10).toInt32) hx hb d_MO_sum_21 rfl ?_
          rw [show (((lN r) - (lN r) / 10 * 10).toInt32 : Int32) = nI (r % 10) from zd_rem hr9]
          refine lv_istore (lv' := [(7, .int (nI (r % 10))), (6, .int 0), (4, .long (lN r)), (3, .int (nI S)), (0, .long x)]) hx hb d_MO_sum_22 hl (by decide) rfl (fun ls hl => ?_)
          refine lv_iload_n hx hb d_MO_sum_24 rfl (lv_at hl 3 rfl) ?_
          refine lv_iload hx hb d_MO_sum_25 (lv_at hl 1 rfl) ?_
          refine lv_if_ne (tgt := 35) hx hb d_MO_sum_27 (by decide) (fun c_27 => ?_) (fun c_27 => ?_)
          · exact absurd rfl c_27
          · refine lv_iload hx hb d_MO_sum_30 (lv_at hl 0 rfl) ?_
            refine lv_goto (tgt := 55) hx hb d_MO_sum_32 (by decide) ?_
            obtain ⟨S2, hS2⟩ : ∃ z : Nat, z = S + (r % 10) := ⟨_, rfl⟩
            have he2 : S2 + zd_cs k true (r / 10) = zd_cs 19 false (zd_N x) := by rw [← he, hS2]; simp only [zd_cs, hr0, if_false]; simp; omega
            refine lv_iadd hx hb d_MO_sum_55 ?_
            rw [show ((nI S) + (nI (r % 10)) : Int32) = nI S2 by rw [hS2]; exact nI_add _ _]
            refine lv_istore_n (lv' := [(3, .int (nI S2)), (7, .int (nI (r % 10))), (6, .int 0), (4, .long (lN r)), (0, .long x)]) hx hb d_MO_sum_56 rfl hl (by decide) rfl (fun ls hl => ?_)
            refine lv_iload hx hb d_MO_sum_57 (lv_at hl 2 rfl) ?_
            refine lv_if_ne (tgt := 66) hx hb d_MO_sum_59 (by decide) (fun c_59 => ?_) (fun c_59 => ?_)
            · exact absurd rfl c_59
            · refine lv_iconst (v := 1) hx hb d_MO_sum_62 (by decide) ?_
              refine lv_goto (tgt := 67) hx hb d_MO_sum_63 (by decide) ?_
              refine lv_istore (lv' := [(6, .int 1), (3, .int (nI S2)), (7, .int (nI (r % 10))), (4, .long (lN r)), (0, .long x)]) hx hb d_MO_sum_67 hl (by decide) rfl (fun ls hl => ?_)
              refine lv_lload hx hb d_MO_sum_69 (lv_at hl 3 rfl) ?_
              refine lv_ldc2 (v := 10) hx hb hown (htB _ kl_MO_49) d_MO_sum_71 ?_
              refine lv_ldiv hx hb d_MO_sum_74 (by decide) ?_
              refine lv_lstore (lv' := [(4, .long ((lN r) / 10)), (6, .int 1), (3, .int (nI S2)), (7, .int (nI (r % 10))), (0, .long x)]) hx hb d_MO_sum_75 hl (by decide) rfl (fun ls hl => ?_)
              refine lv_goto (tgt := 8) hx hb d_MO_sum_77 (by decide) ?_
              rw [zd_div hr9] at hl
              exact ih (i + 1) (r / 10) S2 true ls (by omega) (by omega) (by rw [Nat.pow_succ] at hr10; omega) (by omega) he2 (lv_sub hl [1, 0, 2, 4] rfl)
      | true =>
        have hl : lv_has ls 8 [(6, .int 1), (4, .long (lN r)), (3, .int (nI S)), (0, .long x)] := hl
        refine lv_lload hx hb d_MO_sum_8 (lv_at hl 1 rfl) ?_
        refine lv_lconst (v := 0) hx hb d_MO_sum_10 (by decide) ?_
        refine W.lcmp hx hb d_MO_sum_11 ?_
        refine lv_if_le (tgt := 80) hx hb d_MO_sum_12 (by decide) (fun c_12 => ?_) (fun c_12 => ?_)
        · have hr0 : r = 0 := (zd_le0 hr9).mp c_12
          subst hr0
          refine lv_iload_n hx hb d_MO_sum_80 rfl (lv_at hl 2 rfl) ?_
          exact W.iret (v := nI S) hx hb hr (fun t ht hW => ⟨_, rfl, by rw [← he]; simp [zd_cs], ht⟩) (fun _ h => by cases h) d_MO_sum_81
        · have hr0 : r ≠ 0 := fun h => c_12 ((zd_le0 hr9).mpr h)
          refine lv_lload hx hb d_MO_sum_15 (lv_at hl 1 rfl) ?_
          refine lv_ldc2 (v := 10) hx hb hown (htB _ kl_MO_49) d_MO_sum_17 ?_
          refine lv_lrem hx hb d_MO_sum_20 (by decide) ?_
          refine lv_l2i (v := ((lN r) - (lN r) / 10 * 10).toInt32) hx hb d_MO_sum_21 rfl ?_
          rw [show (((lN r) - (lN r) / 10 * 10).toInt32 : Int32) = nI (r % 10) from zd_rem hr9]
          refine lv_istore (lv' := [(7, .int (nI (r % 10))), (6, .int 1), (4, .long (lN r)), (3, .int (nI S)), (0, .long x)]) hx hb d_MO_sum_22 hl (by decide) rfl (fun ls hl => ?_)
          refine lv_iload_n hx hb d_MO_sum_24 rfl (lv_at hl 3 rfl) ?_
          refine lv_iload hx hb d_MO_sum_25 (lv_at hl 1 rfl) ?_
          refine lv_if_ne (tgt := 35) hx hb d_MO_sum_27 (by decide) (fun c_27 => ?_) (fun c_27 => ?_)
          · refine lv_iload hx hb d_MO_sum_35 (lv_at hl 0 rfl) ?_
            refine lv_iconst (v := 5) hx hb d_MO_sum_37 (by decide) ?_
            refine lv_icmp_ge (tgt := 48) hx hb d_MO_sum_38 (by decide) (fun c_38 => ?_) (fun c_38 => ?_)
            · have h5 : ¬ r % 10 < 5 := fun h => absurd c_38 (show ¬ nI 5 ≤ nI (r % 10) from nI_ge h (by omega))
              refine lv_iconst (v := 2) hx hb d_MO_sum_48 (by decide) ?_
              refine lv_iload hx hb d_MO_sum_49 (lv_at hl 0 rfl) ?_
              refine lv_imul hx hb d_MO_sum_51 ?_
              refine lv_bipush (v := 9) hx hb d_MO_sum_52 (by decide) ?_
              refine lv_isub hx hb d_MO_sum_54 ?_
              obtain ⟨S2, hS2⟩ : ∃ z : Nat, z = S + (2 * (r % 10) - 9) := ⟨_, rfl⟩
              have htw : zd_tw (r % 10) = 2 * (r % 10) - 9 := by rw [zd_twm (by omega), if_neg h5]
              have he2 : S2 + zd_cs k false (r / 10) = zd_cs 19 false (zd_N x) := by rw [← he, hS2]; simp only [zd_cs, hr0, if_false]; simp [htw]; omega
              rw [show ((2 * (nI (r % 10))) - 9 : Int32) = nI (2 * (r % 10) - 9) by rw [show (2 : Int32) * nI (r % 10) = nI (2 * (r % 10)) from pk_mul 2 _]; exact pk_sub (show 9 ≤ 2 * (r % 10) by omega)]
              refine lv_iadd hx hb d_MO_sum_55 ?_
              rw [show ((nI S) + (nI (2 * (r % 10) - 9)) : Int32) = nI S2 by rw [hS2]; exact nI_add _ _]
              refine lv_istore_n (lv' := [(3, .int (nI S2)), (7, .int (nI (r % 10))), (6, .int 1), (4, .long (lN r)), (0, .long x)]) hx hb d_MO_sum_56 rfl hl (by decide) rfl (fun ls hl => ?_)
              refine lv_iload hx hb d_MO_sum_57 (lv_at hl 2 rfl) ?_
              refine lv_if_ne (tgt := 66) hx hb d_MO_sum_59 (by decide) (fun c_59 => ?_) (fun c_59 => ?_)
              · refine lv_iconst (v := 0) hx hb d_MO_sum_66 (by decide) ?_
                refine lv_istore (lv' := [(6, .int 0), (3, .int (nI S2)), (7, .int (nI (r % 10))), (4, .long (lN r)), (0, .long x)]) hx hb d_MO_sum_67 hl (by decide) rfl (fun ls hl => ?_)
                refine lv_lload hx hb d_MO_sum_69 (lv_at hl 3 rfl) ?_
                refine lv_ldc2 (v := 10) hx hb hown (htB _ kl_MO_49) d_MO_sum_71 ?_
                refine lv_ldiv hx hb d_MO_sum_74 (by decide) ?_
                refine lv_lstore (lv' := [(4, .long ((lN r) / 10)), (6, .int 0), (3, .int (nI S2)), (7, .int (nI (r % 10))), (0, .long x)]) hx hb d_MO_sum_75 hl (by decide) rfl (fun ls hl => ?_)
                refine lv_goto (tgt := 8) hx hb d_MO_sum_77 (by decide) ?_
                rw [zd_div hr9] at hl
                exact ih (i + 1) (r / 10) S2 false ls (by omega) (by omega) (by rw [Nat.pow_succ] at hr10; omega) (by omega) he2 (lv_sub hl [1, 0, 2, 4] rfl)
              · exact absurd c_59 (by decide)
            · have h5 : r % 10 < 5 := Nat.not_le.mp (fun h => c_38 (show nI 5 ≤ nI (r % 10) from nI_le h (by omega)))
              refine lv_iconst (v := 2) hx hb d_MO_sum_41 (by decide) ?_
              refine lv_iload hx hb d_MO_sum_42 (lv_at hl 0 rfl) ?_
              refine lv_imul hx hb d_MO_sum_44 ?_
              refine lv_goto (tgt := 55) hx hb d_MO_sum_45 (by decide) ?_
              obtain ⟨S2, hS2⟩ : ∃ z : Nat, z = S + (2 * (r % 10)) := ⟨_, rfl⟩
              have htw : zd_tw (r % 10) = 2 * (r % 10) := by rw [zd_twm (by omega), if_pos h5]
              have he2 : S2 + zd_cs k false (r / 10) = zd_cs 19 false (zd_N x) := by rw [← he, hS2]; simp only [zd_cs, hr0, if_false]; simp [htw]; omega
              rw [show (2 * (nI (r % 10)) : Int32) = nI (2 * (r % 10)) from pk_mul 2 _]
              refine lv_iadd hx hb d_MO_sum_55 ?_
              rw [show ((nI S) + (nI (2 * (r % 10))) : Int32) = nI S2 by rw [hS2]; exact nI_add _ _]
              refine lv_istore_n (lv' := [(3, .int (nI S2)), (7, .int (nI (r % 10))), (6, .int 1), (4, .long (lN r)), (0, .long x)]) hx hb d_MO_sum_56 rfl hl (by decide) rfl (fun ls hl => ?_)
              refine lv_iload hx hb d_MO_sum_57 (lv_at hl 2 rfl) ?_
              refine lv_if_ne (tgt := 66) hx hb d_MO_sum_59 (by decide) (fun c_59 => ?_) (fun c_59 => ?_)
              · refine lv_iconst (v := 0) hx hb d_MO_sum_66 (by decide) ?_
                refine lv_istore (lv' := [(6, .int 0), (3, .int (nI S2)), (7, .int (nI (r % 10))), (4, .long (lN r)), (0, .long x)]) hx hb d_MO_sum_67 hl (by decide) rfl (fun ls hl => ?_)
                refine lv_lload hx hb d_MO_sum_69 (lv_at hl 3 rfl) ?_
                refine lv_ldc2 (v := 10) hx hb hown (htB _ kl_MO_49) d_MO_sum_71 ?_
                refine lv_ldiv hx hb d_MO_sum_74 (by decide) ?_
                refine lv_lstore (lv' := [(4, .long ((lN r) / 10)), (6, .int 0), (3, .int (nI S2)), (7, .int (nI (r % 10))), (0, .long x)]) hx hb d_MO_sum_75 hl (by decide) rfl (fun ls hl => ?_)
                refine lv_goto (tgt := 8) hx hb d_MO_sum_77 (by decide) ?_
                rw [zd_div hr9] at hl
                exact ih (i + 1) (r / 10) S2 false ls (by omega) (by omega) (by rw [Nat.pow_succ] at hr10; omega) (by omega) he2 (lv_sub hl [1, 0, 2, 4] rfl)
              · exact absurd c_59 (by decide)
          · exact absurd c_27 (by decide)
  rcases zd_of (x := x) with hx0 | ⟨n, hn, rfl⟩
  · refine lv_lload hx hb d_MO_sum_8 (lv_at hl 1 rfl) ?_
    refine lv_lconst (v := 0) hx hb d_MO_sum_10 (by decide) ?_
    refine W.lcmp hx hb d_MO_sum_11 ?_
    refine lv_if_le (tgt := 80) hx hb d_MO_sum_12 (by decide) (fun c_12 => ?_) (fun c_12 => ?_)
    · refine lv_iload_n hx hb d_MO_sum_80 rfl (lv_at hl 2 rfl) ?_
      exact W.iret (v := 0) hx hb hr (fun t ht hW => ⟨_, rfl, by rw [zd_neg hx0]; rfl, ht⟩) (fun _ h => by cases h) d_MO_sum_81
    · exact absurd ((lg_cmp_le x 0).mpr (Int64.le_of_lt hx0)) c_12
  · exact loop 19 0 n 0 false ls rfl hn (zd_p19 hn) (by omega) (by rw [zd_lN hn]; omega) (lv_sub hl [0, 1, 2, 3] rfl)
