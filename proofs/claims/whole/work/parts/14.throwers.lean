/-! METHODS THAT RETURN NOTHING OR THROW, and methods that answer a number and write, or throw one of two -/
def zt_Qv (ok : Prop) (cls : String) : Array Value → State → Outcome → State → Prop := fun _ st o t => (ok ∧ o = .returned none ∧ t.heap = st.heap) ∨ (¬ ok ∧ ∃ x, o = .threw x ∧ zt_Th cls st t x)
/-- the same, said of heaps -/
def zt_ThH (cls : String) (s : State) (H : Heap) (x : Nat) (H1 : Heap) : Prop := (∃ ce : Cell, H1[x]? = some ce ∧ ce.vm.isStatics = false ∧ s.vm.findClass cls = some ce.cls) ∧ H.size ≤ H1.size ∧ ∀ q : Nat, q < H.size → H1[q]? = H[q]?
theorem zt_ThH.to {cls : String} {s t : State} {x : Nat} {H1 : Heap} (h : zt_ThH cls s s.heap x H1) (ht : t.heap = H1) (hW : s.WarmedH t.vm) : zt_Th cls s t x := by
  obtain ⟨⟨ce, h1, h2, h3⟩, h4, h5⟩ := h
  exact ⟨⟨ce, by rw [ht]; exact h1, h2, by rw [hW.alike.findClass]; exact h3⟩, by rw [ht]; exact h4, fun q hq => by rw [ht]; exact h5 q hq⟩
theorem zt_Th.heap {cls : String} {s st t : State} {x : Nat} {H H1 : Heap} (h : zt_Th cls st t x) (h0 : st.heap = H) (h1 : t.heap = H1) (hal : s.vm.Alike t.vm) : zt_ThH cls s H x H1 := by
  obtain ⟨⟨ce, q1, q2, q3⟩, q4, q5⟩ := h
  exact ⟨⟨ce, by rw [← h1]; exact q1, q2, by rw [← hal.findClass]; exact q3⟩, by rw [← h0, ← h1]; exact q4, fun q hq => by rw [← h0, ← h1]; exact q5 q (by rw [h0]; exact hq)⟩
theorem zt_L0 {L : List Loc} (h : ∀ q ∈ L, (fun _ : Addr => False) q.base) : L = [] := by
  cases L with
  | nil => rfl
  | cons a l => exact (h a List.mem_cons_self).elim
section ZTV
variable {p : Program} {l : Launch} {e : Env} {R : Room} {s : State} {m : MethodId} {args : Array Value} {below : List Frame} {meth : Method} {c : Code} {H : Heap} {locs : List Loc} {cells slots : Nat} {Q : State → Prop}
variable {pc : Nat} {ls : Array Slot} {rest st0 : List Value} {a : Array Value}
theorem zt_callv {ok : Prop} {cls : String} (hr : zt_Run p l e R s m args below meth c H locs cells slots 0 0 (F0 m pc ls st0) rest (zt_Qv ok cls a) (fun _ => False))
    (kr : ok → W p l e R s m args below meth c H locs cells slots Q (F0 m (pc + 3) ls rest))
    (kt : ∀ (x : Nat) (H1 : Heap), ¬ ok → zt_ThH cls s H x H1 → WT p l e R s m args below meth c H1 locs (cells + 1) (slots + 6) Q (F0 m pc ls rest) x) : W p l e R s m args below meth c H locs cells slots Q (F0 m pc ls st0) := by
  refine zt_call hr (fun v st₀ t H1 L h0 ha ht hal hL hq => ?_) (fun x st₀ t H1 L h0 ha ht hal hL hq => ?_)
  · rcases hq with ⟨hok, hv, hh⟩ | ⟨-, x, hv, -⟩
    · cases hv
      have e1 : H1 = H := by rw [← ht, hh, h0]
      have e2 := zt_L0 hL
      subst e1; subst e2
      rw [List.append_nil]
      exact kr hok
    · cases hv
  · rcases hq with ⟨-, hv, -⟩ | ⟨hno, x', hv, hth⟩
    · cases hv
    · cases hv
      have e2 := zt_L0 hL
      subst e2
      rw [List.append_nil]
      exact kt x H1 hno (hth.heap h0 ht hal)
end ZTV
/-- k: 0 it answers r and the world is new; 1, 2: it throws, nothing is new -/
def zt_Q3 {S : Type} (k : Nat) (ans : S → Option Value) (B : S → State → Prop) (A : Nat → Prop) : Array Value → State → Outcome → State → Prop := fun _ st o t =>
  (k = 0 ∧ ∃ u : S, o = .returned (ans u) ∧ B u t ∧ va_F A st t) ∨ (k = 1 ∧ ∃ x, o = .threw x ∧ zt_Th zIAE st t x) ∨ (k = 2 ∧ ∃ x, o = .threw x ∧ zt_Th zISE st t x)
/-- the longest route that fits: of lengths d and below, b the number's beginning of d digits -/
def zf_m (rp rl : Nat → Int32) (b d : Nat) : Nat → Bool := fun j => decide (rl j = nI d ∧ (rp j).toInt64 = lN b)
def zf_iss (rc : Nat) (rp rl ri : Nat → Int32) : Nat → Nat → Int32
  | 0, _ => -1
  | d + 1, b => if d + 1 ≤ 8 ∧ zf_ix (zf_m rp rl b (d + 1)) rc < rc then ri (zf_ix (zf_m rp rl b (d + 1)) rc) else zf_iss rc rp rl ri d (b / 10)
