/-! WHAT HOLDS BETWEEN CALLS -/
def zu_i (t x : Int32) : Nat := if t ≤ x then 1 else 0
theorem zu_8 (f : Nat → Int32) (t : Int32) (b : Nat) : zu_cnt f t b 8 = 0 + zu_i t (f (b + 0)) + zu_i t (f (b + 1)) + zu_i t (f (b + 2)) + zu_i t (f (b + 3)) + zu_i t (f (b + 4)) + zu_i t (f (b + 5)) + zu_i t (f (b + 6)) + zu_i t (f (b + 7)) := rfl
theorem zu_congr {f g : Nat → Int32} {t : Int32} {b n : Nat} (h : ∀ k, k < n → f (b + k) = g (b + k)) : zu_cnt f t b n = zu_cnt g t b n := by
  induction n with
  | zero => rfl
  | succ n ih => simp only [zu_cnt]; rw [ih (fun k hk => h k (by omega)), h n (by omega)]
theorem zu_tail {f : Nat → Int32} {t : Int32} {b u n : Nat} (h : ∀ k, u ≤ k → k < u + n → ¬ t ≤ f (b + k)) : zu_cnt f t b (u + n) = zu_cnt f t b u := by
  induction n with
  | zero => rfl
  | succ n ih =>
    show zu_cnt f t b (u + n) + (if t ≤ f (b + (u + n)) then 1 else 0) = _
    rw [ih (fun k h1 h2 => h k h1 (by omega)), if_neg (h (u + n) (by omega) (by omega)), Nat.add_zero]
/-- the ring of the last 8 uses, and the reference's list of them -/
def zU (ut ol us ua : Nat → Int32) (a : Nat) : Prop := ∃ u : Nat, u ≤ 8 ∧ us a = nI u ∧ ((u < 8 ∧ ol a = nI u ∧ (∀ k, k < u → ut (8 * a + k) = ua (8 * a + k)) ∧ ∀ k, u ≤ k → k < 8 → ut (8 * a + k) = -5001) ∨ (u = 8 ∧ ∃ o : Nat, o < 8 ∧ ol a = nI o ∧ ∀ k, k < 8 → ut (8 * a + (o + k) % 8) = ua (8 * a + k)))
theorem zU_cnt {ut ol us ua : Nat → Int32} {a : Nat} {t : Int32} (h : zU ut ol us ua a) (ht : ¬ t ≤ (-5001 : Int32)) : zu_cnt ut t (8 * a) 8 = zu_cnt ua t (8 * a) (us a).toInt.toNat := by
  obtain ⟨u, hu, eu, h⟩ := h
  rw [eu, nI_toInt (by omega), Int.toNat_natCast]
  rcases h with ⟨h8, -, h1, h2⟩ | ⟨rfl, o, ho, -, h1⟩
  · rw [← zu_congr h1, show 8 = u + (8 - u) by omega]
    refine zu_tail (b := (u + (8 - u)) * a) ?_ |>.trans ?_
    · intro k hk1 hk2
      rw [show (u + (8 - u)) * a = 8 * a by rw [show u + (8 - u) = 8 by omega], h2 k hk1 (by omega)]
      exact ht
    · rfl
  · rw [zu_8, zu_8]
    rcases (show o = 0 ∨ o = 1 ∨ o = 2 ∨ o = 3 ∨ o = 4 ∨ o = 5 ∨ o = 6 ∨ o = 7 by omega) with rfl | rfl | rfl | rfl | rfl | rfl | rfl | rfl
    · have e0 : ut (8 * a + 0) = ua (8 * a + 0) := h1 0 (by decide)
      have e1 : ut (8 * a + 1) = ua (8 * a + 1) := h1 1 (by decide)
      have e2 : ut (8 * a + 2) = ua (8 * a + 2) := h1 2 (by decide)
      have e3 : ut (8 * a + 3) = ua (8 * a + 3) := h1 3 (by decide)
      have e4 : ut (8 * a + 4) = ua (8 * a + 4) := h1 4 (by decide)
      have e5 : ut (8 * a + 5) = ua (8 * a + 5) := h1 5 (by decide)
      have e6 : ut (8 * a + 6) = ua (8 * a + 6) := h1 6 (by decide)
      have e7 : ut (8 * a + 7) = ua (8 * a + 7) := h1 7 (by decide)
      rw [e0, e1, e2, e3, e4, e5, e6, e7]
    · have e0 : ut (8 * a + 1) = ua (8 * a + 0) := h1 0 (by decide)
      have e1 : ut (8 * a + 2) = ua (8 * a + 1) := h1 1 (by decide)
      have e2 : ut (8 * a + 3) = ua (8 * a + 2) := h1 2 (by decide)
      have e3 : ut (8 * a + 4) = ua (8 * a + 3) := h1 3 (by decide)
      have e4 : ut (8 * a + 5) = ua (8 * a + 4) := h1 4 (by decide)
      have e5 : ut (8 * a + 6) = ua (8 * a + 5) := h1 5 (by decide)
      have e6 : ut (8 * a + 7) = ua (8 * a + 6) := h1 6 (by decide)
      have e7 : ut (8 * a + 0) = ua (8 * a + 7) := h1 7 (by decide)
      rw [e0, e1, e2, e3, e4, e5, e6, e7]
      omega
    · have e0 : ut (8 * a + 2) = ua (8 * a + 0) := h1 0 (by decide)
      have e1 : ut (8 * a + 3) = ua (8 * a + 1) := h1 1 (by decide)
      have e2 : ut (8 * a + 4) = ua (8 * a + 2) := h1 2 (by decide)
      have e3 : ut (8 * a + 5) = ua (8 * a + 3) := h1 3 (by decide)
      have e4 : ut (8 * a + 6) = ua (8 * a + 4) := h1 4 (by decide)
      have e5 : ut (8 * a + 7) = ua (8 * a + 5) := h1 5 (by decide)
      have e6 : ut (8 * a + 0) = ua (8 * a + 6) := h1 6 (by decide)
      have e7 : ut (8 * a + 1) = ua (8 * a + 7) := h1 7 (by decide)
      rw [e0, e1, e2, e3, e4, e5, e6, e7]
      omega
    · have e0 : ut (8 * a + 3) = ua (8 * a + 0) := h1 0 (by decide)
      have e1 : ut (8 * a + 4) = ua (8 * a + 1) := h1 1 (by decide)
      have e2 : ut (8 * a + 5) = ua (8 * a + 2) := h1 2 (by decide)
      have e3 : ut (8 * a + 6) = ua (8 * a + 3) := h1 3 (by decide)
      have e4 : ut (8 * a + 7) = ua (8 * a + 4) := h1 4 (by decide)
      have e5 : ut (8 * a + 0) = ua (8 * a + 5) := h1 5 (by decide)
      have e6 : ut (8 * a + 1) = ua (8 * a + 6) := h1 6 (by decide)
      have e7 : ut (8 * a + 2) = ua (8 * a + 7) := h1 7 (by decide)
      rw [e0, e1, e2, e3, e4, e5, e6, e7]
      omega
    · have e0 : ut (8 * a + 4) = ua (8 * a + 0) := h1 0 (by decide)
      have e1 : ut (8 * a + 5) = ua (8 * a + 1) := h1 1 (by decide)
      have e2 : ut (8 * a + 6) = ua (8 * a + 2) := h1 2 (by decide)
      have e3 : ut (8 * a + 7) = ua (8 * a + 3) := h1 3 (by decide)
      have e4 : ut (8 * a + 0) = ua (8 * a + 4) := h1 4 (by decide)
      have e5 : ut (8 * a + 1) = ua (8 * a + 5) := h1 5 (by decide)
      have e6 : ut (8 * a + 2) = ua (8 * a + 6) := h1 6 (by decide)
      have e7 : ut (8 * a + 3) = ua (8 * a + 7) := h1 7 (by decide)
      rw [e0, e1, e2, e3, e4, e5, e6, e7]
      omega
    · have e0 : ut (8 * a + 5) = ua (8 * a + 0) := h1 0 (by decide)
      have e1 : ut (8 * a + 6) = ua (8 * a + 1) := h1 1 (by decide)
      have e2 : ut (8 * a + 7) = ua (8 * a + 2) := h1 2 (by decide)
      have e3 : ut (8 * a + 0) = ua (8 * a + 3) := h1 3 (by decide)
      have e4 : ut (8 * a + 1) = ua (8 * a + 4) := h1 4 (by decide)
      have e5 : ut (8 * a + 2) = ua (8 * a + 5) := h1 5 (by decide)
      have e6 : ut (8 * a + 3) = ua (8 * a + 6) := h1 6 (by decide)
      have e7 : ut (8 * a + 4) = ua (8 * a + 7) := h1 7 (by decide)
      rw [e0, e1, e2, e3, e4, e5, e6, e7]
      omega
    · have e0 : ut (8 * a + 6) = ua (8 * a + 0) := h1 0 (by decide)
      have e1 : ut (8 * a + 7) = ua (8 * a + 1) := h1 1 (by decide)
      have e2 : ut (8 * a + 0) = ua (8 * a + 2) := h1 2 (by decide)
      have e3 : ut (8 * a + 1) = ua (8 * a + 3) := h1 3 (by decide)
      have e4 : ut (8 * a + 2) = ua (8 * a + 4) := h1 4 (by decide)
      have e5 : ut (8 * a + 3) = ua (8 * a + 5) := h1 5 (by decide)
      have e6 : ut (8 * a + 4) = ua (8 * a + 6) := h1 6 (by decide)
      have e7 : ut (8 * a + 5) = ua (8 * a + 7) := h1 7 (by decide)
      rw [e0, e1, e2, e3, e4, e5, e6, e7]
      omega
    · have e0 : ut (8 * a + 7) = ua (8 * a + 0) := h1 0 (by decide)
      have e1 : ut (8 * a + 0) = ua (8 * a + 1) := h1 1 (by decide)
      have e2 : ut (8 * a + 1) = ua (8 * a + 2) := h1 2 (by decide)
      have e3 : ut (8 * a + 2) = ua (8 * a + 3) := h1 3 (by decide)
      have e4 : ut (8 * a + 3) = ua (8 * a + 4) := h1 4 (by decide)
      have e5 : ut (8 * a + 4) = ua (8 * a + 5) := h1 5 (by decide)
      have e6 : ut (8 * a + 5) = ua (8 * a + 6) := h1 6 (by decide)
      have e7 : ut (8 * a + 6) = ua (8 * a + 7) := h1 7 (by decide)
      rw [e0, e1, e2, e3, e4, e5, e6, e7]
      omega
theorem zU_use {ut ol us ua : Nat → Int32} {a : Nat} (t : Int32) (h : zU ut ol us ua a) : zU (upd ut (8 * a + (ol a).toInt.toNat) t) (upd ol a (nI (((ol a).toInt.toNat + 1) % 8))) (upd us a (nI (zm_u (zm_n us a)))) (zm_ua ua a (zm_n us a) t) a := by
  obtain ⟨u, hu, eu, h⟩ := h
  have en : zm_n us a = u := by unfold zm_n; rw [eu, nI_toInt (by omega), Int.toNat_natCast]
  rw [en]
  rcases h with ⟨h8, eo, h1, h2⟩ | ⟨rfl, o, ho, eo, h1⟩
  · rw [eo, nI_toInt (by omega), Int.toNat_natCast]
    have e1 : zm_u u = u + 1 := by unfold zm_u; rw [if_neg (by omega)]
    have e2 : zm_ua ua a u t = upd ua (8 * a + u) t := by unfold zm_ua; rw [if_neg (by omega)]
    rw [e1, e2]
    refine ⟨u + 1, by omega, pk_us, ?_⟩
    by_cases h7 : u + 1 < 8
    · refine Or.inl ⟨h7, by rw [pk_us, Nat.mod_eq_of_lt h7], fun k hk => ?_, fun k hk1 hk2 => ?_⟩
      · by_cases e : k = u
        · subst e; rw [pk_us, pk_us]
        · rw [pk_un (by omega), pk_un (by omega)]; exact h1 k (by omega)
      · rw [pk_un (by omega)]; exact h2 k (by omega) hk2
    · refine Or.inr ⟨by omega, 0, by omega, by rw [pk_us, show u + 1 = 8 by omega], fun k hk => ?_⟩
      rw [Nat.zero_add, Nat.mod_eq_of_lt hk]
      by_cases e : k = u
      · subst e; rw [pk_us, pk_us]
      · rw [pk_un (by omega), pk_un (by omega)]; exact h1 k (by omega)
  · rw [eo, nI_toInt (by omega), Int.toNat_natCast]
    have e1 : zm_u 8 = 8 := rfl
    have e2 : zm_ua ua a 8 t = upd (zm_sh ua a 8) (8 * a + 7) t := by unfold zm_ua; rw [if_pos rfl]
    rw [e1, e2]
    refine ⟨8, by omega, pk_us, Or.inr ⟨rfl, (o + 1) % 8, by omega, pk_us, fun k hk => ?_⟩⟩
    by_cases e : k = 7
    · subst e
      rw [show ((o + 1) % 8 + 7) % 8 = o by omega, pk_us, pk_us]
    · rw [show ((o + 1) % 8 + k) % 8 = (o + (k + 1)) % 8 by omega, pk_un (by omega), pk_un (by omega), h1 (k + 1) (by omega)]
      unfold zm_sh
      rw [if_pos (by omega)]
      rfl
theorem zU_other {ut ol us ua : Nat → Int32} {a b o u : Nat} (t w : Int32) (v : Int32) (hb : b ≠ a) (ho : o < 8) (hu : u ≤ 8) (h : zU ut ol us ua b) : zU (upd ut (8 * a + o) t) (upd ol a w) (upd us a v) (zm_ua ua a u t) b := by
  have e1 : ∀ k, k < 8 → upd ut (8 * a + o) t (8 * b + k) = ut (8 * b + k) := fun k hk => pk_un (by omega)
  have e2 : ∀ k, k < 8 → zm_ua ua a u t (8 * b + k) = ua (8 * b + k) := fun k hk => by
    unfold zm_ua
    split
    · rw [pk_un (by omega)]; unfold zm_sh; rw [if_neg (by omega)]
    · rw [pk_un (by omega)]
  obtain ⟨q, hq, eq, h⟩ := h
  refine ⟨q, hq, by rw [pk_un hb]; exact eq, ?_⟩
  rcases h with ⟨h8, eo, h1, h2⟩ | ⟨rfl, p, hp, eo, h1⟩
  · exact Or.inl ⟨h8, by rw [pk_un hb]; exact eo, fun k hk => by rw [e1 k (by omega), e2 k (by omega)]; exact h1 k hk, fun k hk1 hk2 => by rw [e1 k hk2]; exact h2 k hk1 hk2⟩
  · exact Or.inr ⟨rfl, p, hp, by rw [pk_un hb]; exact eo, fun k hk => by rw [e1 _ (by omega), e2 k hk]; exact h1 k hk⟩
theorem zU_0 {a : Nat} (h : a < 64) : zU (zn_fill (-5001) 512) (fun _ => 0) (fun _ => 0) (fun _ => 0) a :=
  ⟨0, by omega, rfl, Or.inl ⟨by omega, rfl, fun k hk => absurd hk (by omega), fun k _ hk => by unfold zn_fill; rw [if_pos (by omega)]⟩⟩
theorem zU_us {ut ol us ua : Nat → Int32} {a : Nat} (h : zU ut ol us ua a) : 0 ≤ (us a).toInt ∧ (us a).toInt < 9 := by
  obtain ⟨u, hu, eu, -⟩ := h
  rw [eu, nI_toInt (by omega)]; omega
theorem zU_ol {ut ol us ua : Nat → Int32} {a : Nat} (h : zU ut ol us ua a) : 0 ≤ (ol a).toInt ∧ (ol a).toInt < 8 := by
  obtain ⟨u, hu, eu, h⟩ := h
  rcases h with ⟨h8, eo, -, -⟩ | ⟨rfl, o, ho, eo, -⟩ <;> rw [eo, nI_toInt (by omega)] <;> omega
/-- the state between calls: of the class and of the reference at once -/
def zI (rc : Nat) (rp rl ri : Nat → Int32) (ac : Nat) (ai ut ol us ua : Nat → Int32) (cc : Nat) (cn : Nat → Int64) (ca cb : Nat → Int32) (no : Int32) : Prop :=
  rc ≤ 40 ∧ (∀ j, j < rc → 1 ≤ (rl j).toInt ∧ (rl j).toInt ≤ 8) ∧ (∀ j, j < rc → 0 ≤ (ri j).toInt ∧ (ri j).toInt < 6) ∧ ac ≤ 64 ∧ cc ≤ 100 ∧ (∀ j, j < cc → zd_cs 19 false (zd_N (cn j)) % 10 = 0) ∧ (∀ j, j < cc → 1 ≤ zd_dg 19 (zd_N (cn j))) ∧ (∀ i j, i < cc → j < cc → cn i = cn j → i = j) ∧ (∀ j, j < cc → 0 ≤ (ca j).toInt ∧ (ca j).toInt < ac) ∧ (∀ j, cb j = 0 ∨ cb j = 1) ∧ 0 ≤ no.toInt ∧ (∀ a, a < 64 → zU ut ol us ua a)
theorem zI_0 : zI 0 (fun _ => 0) (fun _ => 0) (fun _ => 0) 0 (fun _ => 0) (zn_fill (-5001) 512) (fun _ => 0) (fun _ => 0) (fun _ => 0) 0 (fun _ => 0) (fun _ => 0) (fun _ => 0) 0 :=
  ⟨by omega, fun j h => absurd h (by omega), fun j h => absurd h (by omega), by omega, by omega, fun j h => absurd h (by omega), fun j h => absurd h (by omega), fun i j h => absurd h (by omega), fun j h => absurd h (by omega), fun _ => Or.inl rfl, by decide, fun a h => zU_0 h⟩
section ZIV
variable {rc ac cc : Nat} {rp rl ri ai ut ol us ua ca cb : Nat → Int32} {cn : Nat → Int64} {no : Int32}
theorem zk_route_0 {x y z : Int32} (h : zk_route rc rp rl x y z = 0) : (0 ≤ x.toInt ∧ x.toInt < 6) ∧ zok_P y z ∧ (zr_at rc rp rl y z < rc ∨ rc < 40) := by
  unfold zk_route at h
  split at h
  · rename_i h1
    split at h
    · rename_i h2; exact ⟨h1.1, h1.2, h2⟩
    · cases h
  · cases h
theorem zk_unroute_0 {y z : Int32} (h : zk_unroute y z = 0) : zok_P y z := by
  unfold zk_unroute at h
  split at h
  · assumption
  · cases h
theorem zk_account_0 {x : Int32} (h : zk_account ac x = 0) : (0 ≤ x.toInt ∧ x.toInt < 6) ∧ ac < 64 := by
  unfold zk_account at h
  split at h
  · rename_i h1
    split at h
    · rename_i h2; exact ⟨h1, h2⟩
    · cases h
  · cases h
theorem zk_card_0 {x : Int64} {z : Int32} (h : zk_card ac cc x z = 0) : zok_D x 12 18 ∧ (0 ≤ z.toInt ∧ z.toInt < ac) ∧ cc < 100 := by
  unfold zk_card at h
  split at h
  · rename_i h1
    split at h
    · rename_i h2; exact ⟨h1.1, h1.2, h2⟩
    · cases h
  · cases h
theorem zk_use_0 {x : Int64} {t : Int32} (h : zk_use no x t = 0) : zok_D x 1 18 ∧ no ≤ t := by
  unfold zk_use at h
  split at h
  · assumption
  · cases h
theorem zc_c_0 {x : Int64} {a : Nat} (h : zc_c rc rp rl ri ai cc cn x a = 0) : zd_cs 19 false (zd_N x) % 10 = 0 ∧ ¬ zc_at cc cn x < cc := by
  unfold zc_c at h
  split at h
  · cases h
  · rename_i h1
    split at h
    · cases h
    · split at h
      · cases h
      · split at h
        · cases h
        · rename_i h4; exact ⟨Classical.byContradiction h1, h4⟩
theorem zI_route (x y z : Int32) (h : zI rc rp rl ri ac ai ut ol us ua cc cn ca cb no) : zI (if zk_route rc rp rl x y z = 0 then (if zr_at rc rp rl y z < rc then rc else rc + 1) else rc) (if zk_route rc rp rl x y z = 0 then upd rp (zr_at rc rp rl y z) y else rp) (if zk_route rc rp rl x y z = 0 then upd rl (zr_at rc rp rl y z) z else rl) (if zk_route rc rp rl x y z = 0 then upd ri (zr_at rc rp rl y z) x else ri) ac ai ut ol us ua cc cn ca cb no := by
  by_cases hk : zk_route rc rp rl x y z = 0
  · rw [if_pos hk, if_pos hk, if_pos hk, if_pos hk]
    obtain ⟨h1, h2, h3, h4⟩ := h
    obtain ⟨k1, k2, k3⟩ := zk_route_0 hk
    have hle := zr_le rc rp rl y z
    have key : ∀ j, j < (if zr_at rc rp rl y z < rc then rc else rc + 1) → j = zr_at rc rp rl y z ∨ (j ≠ zr_at rc rp rl y z ∧ j < rc) := by
      intro j hj
      split at hj <;> omega
    refine ⟨by split <;> omega, fun j hj => ?_, fun j hj => ?_, h4⟩
    · rcases key j hj with e | ⟨e, hj⟩
      · rw [e, pk_us]; exact ⟨k2.1, k2.2.1⟩
      · rw [pk_un e]; exact h2 j hj
    · rcases key j hj with e | ⟨e, hj⟩
      · rw [e, pk_us]; exact k1
      · rw [pk_un e]; exact h3 j hj
  · rw [if_neg hk, if_neg hk, if_neg hk, if_neg hk]; exact h
theorem zI_unroute (y z : Int32) (h : zI rc rp rl ri ac ai ut ol us ua cc cn ca cb no) : zI (if zk_unroute y z = 0 then (if zr_at rc rp rl y z < rc then rc - 1 else rc) else rc) (if zk_unroute y z = 0 then (if zr_at rc rp rl y z < rc then upd rp (zr_at rc rp rl y z) (rp (rc - 1)) else rp) else rp) (if zk_unroute y z = 0 then (if zr_at rc rp rl y z < rc then upd rl (zr_at rc rp rl y z) (rl (rc - 1)) else rl) else rl) (if zk_unroute y z = 0 then (if zr_at rc rp rl y z < rc then upd ri (zr_at rc rp rl y z) (ri (rc - 1)) else ri) else ri) ac ai ut ol us ua cc cn ca cb no := by
  by_cases hk : zk_unroute y z = 0
  · rw [if_pos hk, if_pos hk, if_pos hk, if_pos hk]
    by_cases hx : zr_at rc rp rl y z < rc
    · rw [if_pos hx, if_pos hx, if_pos hx, if_pos hx]
      obtain ⟨h1, h2, h3, h4⟩ := h
      refine ⟨by omega, fun j hj => ?_, fun j hj => ?_, h4⟩
      · by_cases e : j = zr_at rc rp rl y z
        · rw [e, pk_us]; exact h2 _ (by omega)
        · rw [pk_un e]; exact h2 j (by omega)
      · by_cases e : j = zr_at rc rp rl y z
        · rw [e, pk_us]; exact h3 _ (by omega)
        · rw [pk_un e]; exact h3 j (by omega)
    · rw [if_neg hx, if_neg hx, if_neg hx, if_neg hx]; exact h
  · rw [if_neg hk, if_neg hk, if_neg hk, if_neg hk]; exact h
theorem zI_account (x : Int32) (h : zI rc rp rl ri ac ai ut ol us ua cc cn ca cb no) : zI rc rp rl ri (if zk_account ac x = 0 then ac + 1 else ac) (if zk_account ac x = 0 then upd ai ac x else ai) ut ol us ua cc cn ca cb no := by
  by_cases hk : zk_account ac x = 0
  · rw [if_pos hk, if_pos hk]
    obtain ⟨h1, h2, h3, h4, h5, h6, h7, h8, h9, h10⟩ := h
    have k := (zk_account_0 hk).2
    exact ⟨h1, h2, h3, by omega, h5, h6, h7, h8, fun j hj => ⟨(h9 j hj).1, by have := (h9 j hj).2; omega⟩, h10⟩
  · rw [if_neg hk, if_neg hk]; exact h
theorem zI_card (x : Int64) (z : Int32) (h : zI rc rp rl ri ac ai ut ol us ua cc cn ca cb no) : zI rc rp rl ri ac ai ut ol us ua (if zk_card ac cc x z = 0 then (if zc_c rc rp rl ri ai cc cn x z.toInt.toNat = 0 then cc + 1 else cc) else cc) (if zk_card ac cc x z = 0 then (if zc_c rc rp rl ri ai cc cn x z.toInt.toNat = 0 then vp_updL cn cc x else cn) else cn) (if zk_card ac cc x z = 0 then (if zc_c rc rp rl ri ai cc cn x z.toInt.toNat = 0 then upd ca cc z else ca) else ca) cb no := by
  by_cases hk : zk_card ac cc x z = 0
  · rw [if_pos hk, if_pos hk, if_pos hk]
    by_cases hc : zc_c rc rp rl ri ai cc cn x z.toInt.toNat = 0
    · rw [if_pos hc, if_pos hc, if_pos hc]
      obtain ⟨h1, h2, h3, h4, h5, h6, h7, h8, h9, h10⟩ := h
      obtain ⟨k1, k2, k3⟩ := zk_card_0 hk
      obtain ⟨c1, c2⟩ := zc_c_0 hc
      have hne : ∀ j, j < cc → ¬ cn j = x := by
        intro j hj e
        have hs := (zf_spec (fun j => decide (cn j = x)) cc).2 j (Nat.lt_of_lt_of_le hj (Nat.not_lt.mp c2))
        rw [decide_eq_false_iff_not] at hs
        exact hs e
      refine ⟨h1, h2, h3, h4, by omega, fun j hj => ?_, fun j hj => ?_, fun i j hi hj e => ?_, fun j hj => ?_, h10⟩
      · by_cases e : j = cc
        · rw [e, pk_uLs]; exact c1
        · rw [pk_uLn e]; exact h6 j (by omega)
      · by_cases e : j = cc
        · rw [e, pk_uLs]; exact Nat.le_trans (by decide) k1.1
        · rw [pk_uLn e]; exact h7 j (by omega)
      · by_cases e1 : i = cc
        · by_cases e2 : j = cc
          · rw [e1, e2]
          · rw [e1, pk_uLs, pk_uLn e2] at e
            exact absurd e.symm (hne j (by omega))
        · by_cases e2 : j = cc
          · rw [e2, pk_uLs, pk_uLn e1] at e
            exact absurd e (hne i (by omega))
          · rw [pk_uLn e1, pk_uLn e2] at e
            exact h8 i j (by omega) (by omega) e
      · by_cases e : j = cc
        · rw [e, pk_us]; exact k2
        · rw [pk_un e]; exact h9 j (by omega)
    · rw [if_neg hc, if_neg hc, if_neg hc]; exact h
  · rw [if_neg hk, if_neg hk, if_neg hk]; exact h
theorem zI_block (x on : Int32) (ho : on = 0 ∨ on = 1) (h : zI rc rp rl ri ac ai ut ol us ua cc cn ca cb no) : zI rc rp rl ri ac ai ut ol us ua cc cn ca (if zk_ix cc x = 0 then upd cb x.toInt.toNat (vp_nar .boolean on) else cb) no := by
  by_cases hk : zk_ix cc x = 0
  · rw [if_pos hk]
    obtain ⟨h1, h2, h3, h4, h5, h6, h7, h8, h9, h10, h11⟩ := h
    refine ⟨h1, h2, h3, h4, h5, h6, h7, h8, h9, fun j => ?_, h11⟩
    by_cases e : j = x.toInt.toNat
    · rw [e, pk_us]
      rcases ho with rfl | rfl
      · exact Or.inl rfl
      · exact Or.inr rfl
    · rw [pk_un e]; exact h10 j
  · rw [if_neg hk]; exact h
theorem zT_ok {t wi : Int32} (h0 : 0 ≤ t.toInt) (h1 : 1 ≤ wi.toInt) (h2 : wi.toInt ≤ 5000) : ¬ t - wi ≤ (-5001 : Int32) := by
  intro h
  have h3 := Int32.le_iff_toInt_le.mp h
  have e1 : ((-5001 : Int32)).toInt = -5001 := by decide
  obtain ⟨et, ht⟩ := zi_of (x := t) (n := 2 ^ 31) ⟨h0, Int32.toInt_lt t⟩
  obtain ⟨ew, hw⟩ := zi_of (x := wi) (n := 5001) ⟨by omega, by omega⟩
  generalize t.toInt.toNat = a at et ht
  generalize wi.toInt.toNat = b at ew hw
  rcases Nat.lt_or_ge a b with hab | hab
  · rw [et, ew, pk_sub_toInt (by omega) (by omega)] at h3
    omega
  · rw [et, ew, pk_sub hab, nI_toInt (by omega)] at h3
    omega
/-- class and reference answer a use alike -/
theorem zc_eq {wi ma t : Int32} {x : Int64} (h : zI rc rp rl ri ac ai ut ol us ua cc cn ca cb no) (ht : ¬ t - wi ≤ (-5001 : Int32)) : zm_c rc rp rl ri us ua cc cn ca cb wi ma x t = zu_c rc rp rl ri ut cc cn ca cb wi ma x t := by
  obtain ⟨h1, h2, h3, h4, h5, h6, h7, h8, h9, h10, h11, h12⟩ := h
  unfold zm_c zu_c
  by_cases e1 : zf_iss rc rp rl ri (zd_dg 19 (zd_N x)) (zd_N x) = -1
  · rw [if_pos e1, if_pos e1]
  · rw [if_neg e1, if_neg e1]
    by_cases e2 : zc_at cc cn x < cc
    · have ha := (zi_of (h9 _ e2)).2
      have hu := zU_cnt (h12 (ca (zc_at cc cn x)).toInt.toNat (by omega)) ht
      unfold zu_a
      rw [hu]
    · rw [if_pos e2, if_pos e2]
theorem zU_cntI {wi t z : Int32} (h : zI rc rp rl ri ac ai ut ol us ua cc cn ca cb no) (ht : ¬ t - wi ≤ (-5001 : Int32)) (hz : 0 ≤ z.toInt ∧ z.toInt < ac) : zu_cnt ua (t - wi) (8 * z.toInt.toNat) (us z.toInt.toNat).toInt.toNat = zu_cnt ut (t - wi) (8 * z.toInt.toNat) 8 := by
  obtain ⟨h1, h2, h3, h4, h5, h6, h7, h8, h9, h10, h11, h12⟩ := h
  have ha := (zi_of hz).2
  exact (zU_cnt (h12 _ (by omega)) ht).symm
theorem zI_use (wi ma : Int32) (x : Int64) (t : Int32) (h : zI rc rp rl ri ac ai ut ol us ua cc cn ca cb no) : zI rc rp rl ri ac ai (if zk_use no x t = 0 then (if zu_c rc rp rl ri ut cc cn ca cb wi ma x t = 0 then upd ut (8 * (ca (zc_at cc cn x)).toInt.toNat + (ol (ca (zc_at cc cn x)).toInt.toNat).toInt.toNat) t else ut) else ut) (if zk_use no x t = 0 then (if zu_c rc rp rl ri ut cc cn ca cb wi ma x t = 0 then upd ol ((ca (zc_at cc cn x)).toInt.toNat) (nI (((ol (ca (zc_at cc cn x)).toInt.toNat).toInt.toNat + 1) % 8)) else ol) else ol)
    (if zk_use no x t = 0 then (if zu_c rc rp rl ri ut cc cn ca cb wi ma x t = 0 then upd us (zu_a cc cn ca x) (nI (zm_u (zm_n us (zu_a cc cn ca x)))) else us) else us) (if zk_use no x t = 0 then (if zu_c rc rp rl ri ut cc cn ca cb wi ma x t = 0 then zm_ua ua (zu_a cc cn ca x) (zm_n us (zu_a cc cn ca x)) t else ua) else ua) cc cn ca cb (if zk_use no x t = 0 then t else no) := by
  by_cases hk : zk_use no x t = 0
  · rw [if_pos hk, if_pos hk, if_pos hk, if_pos hk, if_pos hk]
    obtain ⟨h1, h2, h3, h4, h5, h6, h7, h8, h9, h10, h11, h12⟩ := h
    have ht : 0 ≤ t.toInt := by
      have := Int32.le_iff_toInt_le.mp (zk_use_0 hk).2
      omega
    by_cases hc : zu_c rc rp rl ri ut cc cn ca cb wi ma x t = 0
    · rw [if_pos hc, if_pos hc, if_pos hc, if_pos hc]
      refine ⟨h1, h2, h3, h4, h5, h6, h7, h8, h9, h10, ht, fun b hb => ?_⟩
      have hx : zc_at cc cn x < cc := by
        unfold zu_c at hc
        split at hc
        · cases hc
        · split at hc
          · cases hc
          · rename_i q; exact Classical.byContradiction q
      have ha := (zi_of (h9 _ hx)).2
      by_cases e : b = (ca (zc_at cc cn x)).toInt.toNat
      · subst e
        exact zU_use t (h12 _ hb)
      · refine zU_other t _ _ e ?_ ?_ (h12 b hb)
        · have := zU_ol (h12 (ca (zc_at cc cn x)).toInt.toNat (by omega)); omega
        · have := zU_us (h12 (ca (zc_at cc cn x)).toInt.toNat (by omega))
          show (us (ca (zc_at cc cn x)).toInt.toNat).toInt.toNat ≤ 8
          omega
    · rw [if_neg hc, if_neg hc, if_neg hc, if_neg hc]
      exact ⟨h1, h2, h3, h4, h5, h6, h7, h8, h9, h10, ht, h12⟩
  · rw [if_neg hk, if_neg hk, if_neg hk, if_neg hk, if_neg hk]; exact h
end ZIV
theorem zk_2 {k : Nat} (h : k ≤ 2) : nI k = 0 ↔ k = 0 := nI_eq (b := 0) (by omega) (by decide)
theorem zk_route_2 (rc : Nat) (rp rl : Nat → Int32) (x y z : Int32) : zk_route rc rp rl x y z ≤ 2 := by
  unfold zk_route
  split
  · first | omega | (split <;> omega)
  · omega
theorem zk_unroute_2 (y z : Int32) : zk_unroute y z ≤ 2 := by
  unfold zk_unroute
  split
  · first | omega | (split <;> omega)
  · omega
theorem zk_account_2 (ac : Nat) (x : Int32) : zk_account ac x ≤ 2 := by
  unfold zk_account
  split
  · first | omega | (split <;> omega)
  · omega
theorem zk_card_2 (ac cc : Nat) (x : Int64) (z : Int32) : zk_card ac cc x z ≤ 2 := by
  unfold zk_card
  split
  · first | omega | (split <;> omega)
  · omega
theorem zk_ix_2 (n : Nat) (x : Int32) : zk_ix n x ≤ 2 := by
  unfold zk_ix
  split
  · first | omega | (split <;> omega)
  · omega
theorem zk_num_2 (x : Int64) (k : Nat) : zk_num x k ≤ 2 := by
  unfold zk_num
  split
  · first | omega | (split <;> omega)
  · omega
theorem zk_use_2 (no : Int32) (x : Int64) (t : Int32) : zk_use no x t ≤ 2 := by
  unfold zk_use
  split
  · first | omega | (split <;> omega)
  · omega
theorem zk_used_2 (ac : Nat) (no z t : Int32) : zk_used ac no z t ≤ 2 := by
  unfold zk_used
  split
  · first | omega | (split <;> omega)
  · omega
theorem zk_told_2 (cc : Nat) (z v : Int32) : zk_told cc z v ≤ 2 := by
  unfold zk_told
  split
  · first | omega | (split <;> omega)
  · omega
