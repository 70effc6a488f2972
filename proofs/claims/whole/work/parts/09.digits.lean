/-! digits and sums of a number, as numbers -/
/-- how many digits, at most k of them -/
def zd_dg : Nat → Nat → Nat
  | 0, _ => 0
  | k + 1, n => if n = 0 then 0 else zd_dg k (n / 10) + 1
def zd_tw (d : Nat) : Nat := if 9 < 2 * d then 2 * d - 9 else 2 * d
/-- the sum, at most k digits; odd: the last is doubled -/
def zd_cs : Nat → Bool → Nat → Nat
  | 0, _, _ => 0
  | k + 1, b, n => if n = 0 then 0 else (if b then zd_tw (n % 10) else n % 10) + zd_cs k (!b) (n / 10)
def zd_N (x : Int64) : Nat := x.toInt.toNat
theorem zd_neg {x : Int64} (h : x < 0) : zd_N x = 0 := by
  have := Int64.lt_iff_toInt_lt.mp h
  simp at this
  unfold zd_N; omega
theorem zd_lN {n : Nat} (h : n < 2 ^ 63) : zd_N (lN n) = n := by
  unfold zd_N; rw [pk_lT h]; simp
theorem zd_dg0 (k : Nat) : zd_dg k 0 = 0 := by cases k <;> simp [zd_dg]
theorem zd_dg_le (k n : Nat) : zd_dg k n ≤ k := by
  induction k generalizing n with
  | zero => simp [zd_dg]
  | succ k ih =>
    simp only [zd_dg]
    split
    · omega
    · have := ih (n / 10); omega
theorem zd_of {x : Int64} : x < 0 ∨ ∃ k : Nat, k < 2 ^ 63 ∧ x = lN k := by
  by_cases h : x < 0
  · exact Or.inl h
  · exact Or.inr (pk_lOf h)
theorem zd_l0 : (0 : Int64) = lN 0 := rfl
theorem zd_l10 : (10 : Int64) = lN 10 := rfl
theorem zd_div {n : Nat} (h : n < 2 ^ 63) : lN n / 10 = lN (n / 10) := by rw [zd_l10]; exact pk_lDiv h (by decide) (by decide)
theorem zd_rem {n : Nat} (h : n < 2 ^ 63) : (lN n - lN n / 10 * 10).toInt32 = nI (n % 10) := by rw [zd_l10, pk_lRem h (by decide) (by decide), lN_i]
theorem zd_le0 {n : Nat} (h : n < 2 ^ 63) : lg_cmp (lN n) 0 ≤ 0 ↔ n = 0 := by
  rw [lg_cmp_le, zd_l0, pk_lLE h (by decide)]; omega
theorem zd_tw_le {d : Nat} (h : d < 10) : zd_tw d ≤ 9 := by unfold zd_tw; split <;> omega
theorem zd_cs_le (k : Nat) (b : Bool) (n : Nat) : zd_cs k b n ≤ 9 * k := by
  induction k generalizing b n with
  | zero => simp [zd_cs]
  | succ k ih =>
    simp only [zd_cs]
    split
    · omega
    · have h1 := ih true (n / 10)
      have h3 := ih false (n / 10)
      have h2 := zd_tw_le (d := n % 10) (by omega)
      cases b <;> simp <;> omega
set_option maxHeartbeats 4000000 in
set_option maxRecDepth 100000 in
/-- how many digits: none below 1 -/
theorem c_CD_digitsOf (l : Launch) (dC : Nat → ClassId) (dI : Nat → Nat → Nat) (x : Int64) : Met l y_CD_digitsOf (zw y_CD_digitsOf b_CD_digitsOf 5 (some .int)) ({ frames := 0, cells := 0, slots := 0, locals := 0 }) (zPre [.long x] (dC, dI) [] []) (vp_Si (fun r => r = nI (zd_dg 19 (zd_N x)))) 0 0 (fun _ => False) := by
  refine Met.ofW (cc := b_CD_digitsOf) (maxL := 5) (ret := (some .int)) (by decide) rfl ?_
  intro p e s m args below meth c s₁ B hml hv
  obtain ⟨rfl, hP, hK⟩ := hv
  have hx := B.exec
  have hb := B.bytes
  have hr := B.returns
  have hts := atoms_spec (ws := (zw y_CD_digitsOf b_CD_digitsOf 5 (some .int))) B.pre
  have htB : ∀ w ∈ BG, w.before ([.long x] : List Value).toArray s = true := fun w h => hts w (List.mem_cons_of_mem _ h)
  have hown : s.vm.findClass R_CD = some m.cls := findClass_of_methodNamed B.named
  have hlocks := B.notSynchronized
  have CF : CallFix p m c b_CD_digitsOf 5 s ([.long x] : List Value).toArray BG R_CD := ⟨hx, hb, hml, hown, htB⟩
  have hP : va_P (dC, dI) vwCl [] s.heap := hP
  have hl := lv_entry [.long x] (n := 5) (Nat.le_of_ble_eq_true rfl)
  rw [lg_entry_eq]
  generalize (lg_sl [.long x] ++ List.replicate (5 - (lg_sl [.long x]).length) Slot.unset).toArray = ls at hl ⊢
  have hl : lv_has ls 5 [(0, .long x)] := hl
  refine lv_iconst (v := 0) hx hb d_CD_digitsOf_0 (by decide) ?_
  refine lv_istore_n (lv' := [(2, .int 0), (0, .long x)]) hx hb d_CD_digitsOf_1 rfl hl (by decide) rfl (fun ls hl => ?_)
  refine lv_lload_n hx hb d_CD_digitsOf_2 rfl (lv_at hl 1 rfl) ?_
  refine lv_lstore_n (lv' := [(3, .long x), (2, .int 0), (0, .long x)]) hx hb d_CD_digitsOf_3 rfl hl (by decide) rfl (fun ls hl => ?_)
  have loop : ∀ (k i r : Nat) (ls : Array Slot), i + k = 19 → r < 2 ^ 63 → i + zd_dg k r = zd_dg 19 (zd_N x) → lv_has ls 5 [(3, .long (lN r)), (2, .int (nI i)), (0, .long x)] → W p l e (headSpec (zw y_CD_digitsOf b_CD_digitsOf 5 (some .int)) ({ frames := 0, cells := 0, slots := 0, locals := 0 })).room s m ([.long x] : List Value).toArray below meth c s.heap [] 0 0 (MQ below (vp_Si (fun r => r = nI (zd_dg 19 (zd_N x)))) ([.long x] : List Value).toArray s 0 0 (fun _ => False)) (F0 m 4 ls []) := by
    intro k
    induction k with
    | zero =>
      intro i r ls hi hr9 he hl
      refine lv_iload_n hx hb d_CD_digitsOf_4 rfl (lv_at hl 1 rfl) ?_
      refine lv_bipush (v := 19) hx hb d_CD_digitsOf_5 (by decide) ?_
      refine lv_icmp_ge (tgt := 28) hx hb d_CD_digitsOf_7 (by decide) (fun c_7 => ?_) (fun c_7 => ?_)
      · refine lv_iload_n hx hb d_CD_digitsOf_28 rfl (lv_at hl 1 rfl) ?_
        exact W.iret (v := nI i) hx hb hr (fun t ht hW => ⟨_, rfl, by rw [← he]; simp [zd_dg], ht⟩) (fun _ h => by cases h) d_CD_digitsOf_29
      · exact absurd (by show nI 19 ≤ nI i; exact nI_le (by omega) (by omega)) c_7
    | succ k ih =>
      intro i r ls hi hr9 he hl
      refine lv_iload_n hx hb d_CD_digitsOf_4 rfl (lv_at hl 1 rfl) ?_
      refine lv_bipush (v := 19) hx hb d_CD_digitsOf_5 (by decide) ?_
      refine lv_icmp_ge (tgt := 28) hx hb d_CD_digitsOf_7 (by decide) (fun c_7 => ?_) (fun c_7 => ?_)
      · exact absurd c_7 (by show ¬ nI 19 ≤ nI i; exact nI_ge (by omega) (by omega))
      · refine lv_lload_n hx hb d_CD_digitsOf_10 rfl (lv_at hl 0 rfl) ?_
        refine lv_lconst (v := 0) hx hb d_CD_digitsOf_11 (by decide) ?_
        refine W.lcmp hx hb d_CD_digitsOf_12 ?_
        refine lv_if_le (tgt := 28) hx hb d_CD_digitsOf_13 (by decide) (fun c_13 => ?_) (fun c_13 => ?_)
        · have hr0 : r = 0 := (zd_le0 hr9).mp c_13
          subst hr0
          refine lv_iload_n hx hb d_CD_digitsOf_28 rfl (lv_at hl 1 rfl) ?_
          exact W.iret (v := nI i) hx hb hr (fun t ht hW => ⟨_, rfl, by rw [← he, zd_dg0]; rfl, ht⟩) (fun _ h => by cases h) d_CD_digitsOf_29
        · refine lv_lload_n hx hb d_CD_digitsOf_16 rfl (lv_at hl 0 rfl) ?_
          refine lv_ldc2 (v := 10) hx hb hown (htB _ kl_CD_123) d_CD_digitsOf_17 ?_
          refine lv_ldiv hx hb d_CD_digitsOf_20 (by decide) ?_
          refine lv_lstore_n (lv' := [(3, .long ((lN r) / 10)), (2, .int (nI i)), (0, .long x)]) hx hb d_CD_digitsOf_21 rfl hl (by decide) rfl (fun ls hl => ?_)
          refine lv_iinc (v := (nI i) + 1) (lv' := [(2, .int ((nI i) + 1)), (3, .long ((lN r) / 10)), (0, .long x)]) hx hb d_CD_digitsOf_22 hl (k := 1) rfl rfl (by decide) rfl (fun ls hl => ?_)
          refine lv_goto (tgt := 4) hx hb d_CD_digitsOf_25 (by decide) ?_
          have hr0 : r ≠ 0 := fun h => c_13 ((zd_le0 hr9).mpr h)
          refine ih (i + 1) (r / 10) ls (by omega) (by omega) ?_ ?_
          · rw [← he]; simp only [zd_dg, hr0, if_false]; omega
          · have e1 := zd_div hr9
            rw [e1, nI_1] at hl
            exact lv_sub hl [1, 0, 2] rfl
  rcases zd_of (x := x) with hx0 | ⟨n, hn, rfl⟩
  · refine lv_iload_n hx hb d_CD_digitsOf_4 rfl (lv_at hl 1 rfl) ?_
    refine lv_bipush (v := 19) hx hb d_CD_digitsOf_5 (by decide) ?_
    refine lv_icmp_ge (tgt := 28) hx hb d_CD_digitsOf_7 (by decide) (fun c_7 => ?_) (fun c_7 => ?_)
    · exact absurd c_7 (by decide)
    · refine lv_lload_n hx hb d_CD_digitsOf_10 rfl (lv_at hl 0 rfl) ?_
      refine lv_lconst (v := 0) hx hb d_CD_digitsOf_11 (by decide) ?_
      refine W.lcmp hx hb d_CD_digitsOf_12 ?_
      refine lv_if_le (tgt := 28) hx hb d_CD_digitsOf_13 (by decide) (fun c_13 => ?_) (fun c_13 => ?_)
      · refine lv_iload_n hx hb d_CD_digitsOf_28 rfl (lv_at hl 1 rfl) ?_
        exact W.iret (v := 0) hx hb hr (fun t ht hW => ⟨_, rfl, by rw [zd_neg hx0]; rfl, ht⟩) (fun _ h => by cases h) d_CD_digitsOf_29
      · exact absurd ((lg_cmp_le x 0).mpr (Int64.le_of_lt hx0)) c_13
  · exact loop 19 0 n ls rfl hn (by rw [zd_lN hn]; omega) (lv_sub hl [0, 1, 2] rfl)
