/-! ===== values small enough, of the windows that are there alone ===== -/
/-- as Wf, but nothing is said of what lies behind the windows -/
def Wk (x : Sg) : Prop := Sn x ≤ 10 ∧ Se x < 1024 ∧ Sv x ≤ 3 ∧ So x < 1024 ∧ ∀ k, k < Sn x → SK x k < 1024 ∧ SP x k < 10 ∧ SD x k < 1024 ∧ SG x k < 1024 ∧ SS x k < 1024
theorem Wf.k {x : Sg} (h : Wf x) : Wk x := ⟨h.1, h.2.1, h.2.2.1, h.2.2.2.1, fun k hk => h.2.2.2.2 k (by have := h.1; omega)⟩
theorem picsK_lt {x : Sg} (some : Nat) (h : Wk x) : picsF x some < 1024 := by
  refine orN_lt (m := 10) (fun k hk => ?_)
  unfold picT
  split
  · exact pow10 (h.2.2.2.2 k hk).2.1
  · decide
theorem Wk.o {x : Sg} (h : Wk x) {o : Nat} (ho : o < 1024) : Wk (wO x o) := ⟨h.1, h.2.1, h.2.2.1, ho, h.2.2.2.2⟩
theorem Wk.t {x : Sg} (h : Wk x) (t : Nat) : Wk (wT x t) := h
theorem Wk.g {x : Sg} (h : Wk x) {g : Nat → Nat} (hg : ∀ k, k < Sn x → g k < 1024) : Wk (wG x g) := ⟨h.1, h.2.1, h.2.2.1, h.2.2.2.1, fun k hk => by
  obtain ⟨a, b, c, d, e⟩ := h.2.2.2.2 k hk
  exact ⟨a, b, c, hg k hk, e⟩⟩
theorem Wk.s {x : Sg} (h : Wk x) {g : Nat → Nat} (hg : ∀ k, k < Sn x → g k < 1024) : Wk (wS x g) := ⟨h.1, h.2.1, h.2.2.1, h.2.2.2.1, fun k hk => by
  obtain ⟨a, b, c, d, e⟩ := h.2.2.2.2 k hk
  exact ⟨a, b, c, d, hg k hk⟩⟩
theorem Wk.d {x : Sg} (h : Wk x) {g : Nat → Nat} (hg : ∀ k, k < Sn x → g k < 1024) : Wk (wD x g) := ⟨h.1, h.2.1, h.2.2.1, h.2.2.2.1, fun k hk => by
  obtain ⟨a, b, c, d, e⟩ := h.2.2.2.2 k hk
  exact ⟨a, b, hg k hk, d, e⟩⟩
theorem donK_lt {n m b : Nat} {g f : Nat → Nat} (hg : ∀ k, k < b → g k < m) (hf : ∀ k, k < b → f k < m) : ∀ k, k < b → don n g f k < m := fun k hk => by
  unfold don
  split
  · exact hg k hk
  · exact hf k hk
theorem Wk.look {x : Sg} (h : Wk x) : Wk (lookF x) := by
  unfold lookF
  split
  · exact h
  · exact h.s (donK_lt (fun k hk => or10 (h.2.2.2.2 k hk).2.2.2.2 (picsK_lt _ h)) (fun k hk => (h.2.2.2.2 k hk).2.2.2.2))
theorem Wk.wear {x : Sg} (h : Wk x) (some : Nat) : Wk (wearF x some) := h.g (donK_lt (fun k hk => by
  have := (h.2.2.2.2 k hk).2.2.2.1
  unfold wearG
  split <;> omega) (fun k hk => (h.2.2.2.2 k hk).2.2.2.1))
theorem Wk.close {x : Sg} (h : Wk x) (d op : Nat) : Wk (closeF x d op) := by
  unfold closeF
  split
  · exact ((h.wear _).o (by decide)).t _
  · exact (h.wear _).t _
theorem Wk.turn {x : Sg} (h : Wk x) : Wk (turnF x) := ((h.o (or10 h.2.2.2.1 (openF_lt _ _ h.1))).look).close _ _
theorem Wk.turnU {x : Sg} (h : Wk x) (part : Nat) : Wk (turnU x part) := (h.o (or10 h.2.2.2.1 (openF_lt _ _ h.1))).close _ _
theorem dateK_lt {x : Sg} (h : Wk x) : dateF x < 1025 := by
  unfold dateF
  split
  · have := Nat.mod_lt (St x) (by assumption)
    have := h.2.1
    omega
  · omega
