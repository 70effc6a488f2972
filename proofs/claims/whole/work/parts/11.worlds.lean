/-! WORLDS OF A FIXED SHAPE: which cells a method may change, what stands behind a call; the first place where something holds -/
def zA (ws : va_W) : Nat → Prop := fun q => ∃ (k : Nat) (e : va_E), ws[k]? = some (q, e)
theorem zA_of {ws : va_W} {A : Nat → Prop} (h : va_D A ws) : va_D (zA ws) ws := ⟨h.1, fun k q hk => ⟨k, q.2, hk⟩⟩
theorem zA_lt {D : va_G} {ws : va_W} {H : Heap} (h : va_P D vwCl ws H) {q : Nat} (hq : zA ws q) : q < H.size := by
  obtain ⟨k, e, hk⟩ := hq
  exact (h k _ hk).lt
theorem zA_sub {ws wc : va_W} {A : Nat → Prop} (hD : va_D A ws) (is : List Nat) (h : is.map (fun i => ws[i]?) = wc.map some) {q : Nat} (hq : zA wc q) : A q := by
  obtain ⟨k, e, hk⟩ := hq
  have h1 : (wc.map some)[k]? = some (some (q, e)) := by rw [List.getElem?_map, hk]; rfl
  rw [← h, List.getElem?_map] at h1
  cases hi : is[k]? with
  | none => simp [hi] at h1
  | some i =>
    simp [hi] at h1
    exact hD.2 i _ h1
def zset : va_W → List Nat → va_W → va_W
  | ws, i :: is, e :: es => zset (ws.set i e) is es
  | ws, _, _ => ws
theorem zset_get : ∀ (is : List Nat) (es ws : va_W) (k : Nat) (q : Nat × va_E), is.length = es.length → (zset ws is es)[k]? = some q → (∃ j : Nat, es[j]? = some q) ∨ (ws[k]? = some q ∧ k ∉ is)
  | [], [], ws, k, q, _, h => Or.inr ⟨h, by simp⟩
  | i :: is, e :: es, ws, k, q, hl, h => by
    rcases zset_get is es (ws.set i e) k q (by simpa using hl) h with ⟨j, hj⟩ | ⟨h1, h2⟩
    · exact Or.inl ⟨j + 1, hj⟩
    · by_cases hk : i = k
      · subst hk
        rw [List.getElem?_set] at h1
        simp only [if_true] at h1
        split at h1
        · exact Or.inl ⟨0, h1⟩
        · cases h1
      · rw [List.getElem?_set_ne hk] at h1
        exact Or.inr ⟨h1, by simp [Ne.symm hk, h2]⟩
  | [], _ :: _, _, _, _, hl, _ => by simp at hl
  | _ :: _, [], _, _, _, hl, _ => by simp at hl
theorem zD_of {A : Nat → Prop} {ws ws' : va_W} (h : ws'.map (·.1) = ws.map (·.1)) (hD : va_D A ws) : va_D A ws' := by
  have key : ∀ (k : Nat) (q : Nat × va_E), ws'[k]? = some q → ∃ e, ws[k]? = some (q.1, e) := by
    intro k q hq
    have h1 : (ws'.map (·.1))[k]? = some q.1 := by rw [List.getElem?_map, hq]; rfl
    rw [h, List.getElem?_map] at h1
    cases hw : ws[k]? with
    | none => simp [hw] at h1
    | some x =>
      simp [hw] at h1
      exact ⟨x.2, by rw [← h1]⟩
  refine ⟨fun i j p q hi hj e => ?_, fun k q hk => ?_⟩
  · obtain ⟨e1, h1⟩ := key i p hi
    obtain ⟨e2, h2⟩ := key j q hj
    exact hD.1 i j _ _ h1 h2 e
  · obtain ⟨e1, h1⟩ := key k q hk
    exact hD.2 k (q.1, e1) h1
/-- behind a call: the callee's cells anew, the others as they were -/
theorem zj {D : va_G} {ws wc w1 ws' : va_W} {A0 : Nat → Prop} {H H1 : Heap} (hP : va_P D vwCl ws H) (hD : va_D A0 ws) (is : List Nat) (hC : is.map (fun i => ws[i]?) = wc.map some) (hP1 : va_P D vwCl w1 H1) (hk : ∀ q : Nat, q < H.size → ¬ zA wc q → H1[q]? = H[q]?) (hlen : is.length = w1.length) (hs : zset ws is w1 = ws') : va_P D vwCl ws' H1 := by
  subst hs
  intro k q hq
  rcases zset_get is w1 ws k q hlen hq with ⟨j, hj⟩ | ⟨h1, h2⟩
  · exact hP1 j q hj
  · refine (hP k q h1).kept (hk q.1 (hP k q h1).lt ?_)
    rintro ⟨k2, e, h3⟩
    have h4 : (wc.map some)[k2]? = some (some (q.1, e)) := by rw [List.getElem?_map, h3]; rfl
    rw [← hC, List.getElem?_map] at h4
    cases hi : is[k2]? with
    | none => simp [hi] at h4
    | some i =>
      simp [hi] at h4
      have := hD.1 k i q _ h1 h4 rfl
      subst this
      exact h2 (List.mem_of_getElem? hi)
/-- the first place below n where P holds, else n -/
def zf_ix (P : Nat → Bool) : Nat → Nat
  | 0 => 0
  | n + 1 => if zf_ix P n < n then zf_ix P n else if P n then n else n + 1
theorem zf_le (P : Nat → Bool) (n : Nat) : zf_ix P n ≤ n := by
  induction n with
  | zero => simp [zf_ix]
  | succ n ih =>
    simp only [zf_ix]
    split
    · omega
    · split <;> omega
theorem zf_spec (P : Nat → Bool) (n : Nat) : (zf_ix P n < n → P (zf_ix P n) = true) ∧ ∀ k, k < zf_ix P n → P k = false := by
  induction n with
  | zero => simp [zf_ix]
  | succ n ih =>
    have hle := zf_le P n
    simp only [zf_ix]
    split
    · rename_i h
      exact ⟨fun _ => ih.1 h, ih.2⟩
    · rename_i h
      have hn : zf_ix P n = n := by omega
      rw [hn] at ih
      split
      · rename_i hp
        exact ⟨fun _ => hp, ih.2⟩
      · rename_i hp
        refine ⟨fun h => absurd h (by omega), fun k hk => ?_⟩
        by_cases e : k = n
        · subst e; simpa using hp
        · exact ih.2 k (by omega)
theorem zf_eq {P : Nat → Bool} {n i : Nat} (hi : i < n) (hp : P i = true) (hb : ∀ k, k < i → P k = false) : zf_ix P n = i := by
  have h := zf_spec P n
  rcases Nat.lt_trichotomy (zf_ix P n) i with h1 | h1 | h1
  · have := h.1 (by omega); rw [hb _ h1] at this; cases this
  · exact h1
  · have := h.2 i h1; rw [hp] at this; cases this
theorem zf_none {P : Nat → Bool} {n : Nat} (hb : ∀ k, k < n → P k = false) : zf_ix P n = n := by
  have h := zf_spec P n
  have hle := zf_le P n
  rcases Nat.lt_or_ge (zf_ix P n) n with h1 | h1
  · have := h.1 h1; rw [hb _ h1] at this; cases this
  · omega
def zf_r (P : Nat → Bool) (n : Nat) : Int32 := if zf_ix P n < n then nI (zf_ix P n) else -1
theorem zf_rs {P : Nat → Bool} {n i : Nat} (hi : i < n) (hp : P i = true) (hb : ∀ k, k < i → P k = false) : zf_r P n = nI i := by
  unfold zf_r; rw [zf_eq hi hp hb, if_pos hi]
theorem zf_rn {P : Nat → Bool} {n : Nat} (hb : ∀ k, k < n → P k = false) : zf_r P n = -1 := by
  unfold zf_r; rw [zf_none hb, if_neg (Nat.lt_irrefl n)]
theorem zf_m1 {n : Nat} (h : n < 2 ^ 31) : ¬ nI n = -1 := by
  intro e
  have h1 := nI_toInt h
  rw [e] at h1
  have : ((-1 : Int32)).toInt = -1 := by decide
  omega
theorem zb_in {i : Int32} {n : Nat} (j : Nat) (e : i = nI j) (h : j < n) (hn : n < 2 ^ 31) : vp_in i n := by rw [e]; exact vp_in_nI h hn
theorem zb_cl {j : Nat} (h : j < 2 ^ 31) : (nI j).toNatClampNeg = j := nI_clamp h
