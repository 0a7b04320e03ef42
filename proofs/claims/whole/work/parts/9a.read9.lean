/-! ===== a street, read by both ===== -/
theorem nm_in {len : Nat} {f : Nat → Nat} {lo hi c : Nat} (h : nmB len f lo hi c = true) : lo ≤ numM f c (runM len f c) ∧ numM f c (runM len f c) ≤ hi := by
  unfold nmB at h
  simp only [Bool.and_eq_true, decide_eq_true_eq] at h
  exact h.2
theorem mw_in {len : Nat} {f : Nat → Nat} {c i : Nat} (h : mwB len f c i = true) : (1 ≤ numM f (c + 1) (runM len f (c + 1)) ∧ numM f (c + 1) (runM len f (c + 1)) ≤ 24) ∧ numM f (mwC2 len f c + 1) (runM len f (mwC2 len f c + 1)) ≤ 9 ∧ numM f (mwC4 len f c + 1) (runM len f (mwC4 len f c + 1)) ≤ 9 := by
  unfold mwB at h
  simp only [Bool.and_eq_true] at h
  obtain ⟨⟨⟨⟨⟨⟨⟨h1, h2⟩, h3⟩, h4⟩, h5⟩, h6⟩, h7⟩, h8⟩ := h
  exact ⟨nm_in h3, (nm_in h5).2, (nm_in h7).2⟩
theorem mwW_v {len : Nat} {f : Nat → Nat} {c i k : Nat} {V : Nat → Nat} (hi : i < 10) (hk : k < 10) : mwW len f c i V (225 + k) = (if k = i then kindM (herI len f c) else V (225 + k)) ∧ mwW len f c i V (235 + k) = (if k = i then numM f (mwC2 len f c + 1) (runM len f (mwC2 len f c + 1)) else V (235 + k)) ∧ mwW len f c i V (245 + k) = (if k = i then numM f (c + 1) (runM len f (c + 1)) else V (245 + k)) ∧ mwW len f c i V (255 + k) = (if k = i then numM f (mwC4 len f c + 1) (runM len f (mwC4 len f c + 1)) else V (255 + k)) ∧ mwW len f c i V (265 + k) = V (265 + k) := by
  unfold mwW
  refine ⟨?_, ?_, ?_, ?_, ?_⟩
  · rw [upN_n (by omega), upN_n (by omega), upN_n (by omega), upN_n (by omega)]
    by_cases e : k = i
    · subst e; rw [upN_s, if_pos rfl]
    · rw [upN_n (by omega), if_neg e]
  · rw [upN_n (by omega), upN_n (by omega)]
    by_cases e : k = i
    · subst e; rw [upN_s, if_pos rfl]
    · rw [upN_n (by omega), upN_n (by omega), upN_n (by omega), if_neg e]
  · rw [upN_n (by omega), upN_n (by omega), upN_n (by omega)]
    by_cases e : k = i
    · subst e; rw [upN_s, if_pos rfl]
    · rw [upN_n (by omega), upN_n (by omega), if_neg e]
  · rw [upN_n (by omega)]
    by_cases e : k = i
    · subst e; rw [upN_s, if_pos rfl]
    · rw [upN_n (by omega), upN_n (by omega), upN_n (by omega), upN_n (by omega), if_neg e]
  · rw [upN_n (by omega), upN_n (by omega), upN_n (by omega), upN_n (by omega), upN_n (by omega)]
theorem mwW_n {len : Nat} {f : Nat → Nat} {c i j : Nat} {V : Nat → Nat} (hj : 220 < j) (hj2 : j < 225) : mwW len f c i V j = V j := by
  unfold mwW
  rw [upN_n (by omega), upN_n (by omega), upN_n (by omega), upN_n (by omega), upN_n (by omega)]
/-- the region that is being read, behind i windows -/
def RdV (V : Nat → Nat) (i : Nat) : Prop := V 220 = i ∧ V 223 = 0 ∧ V 224 = 0 ∧ (2 ≤ V 221 ∧ V 221 ≤ 24) ∧ V 222 ≤ 3 ∧ (∀ k, k < i → 1 ≤ V (225 + k) ∧ V (225 + k) ≤ 5) ∧ ∀ k, k < 10 → V (225 + k) ≤ 5 ∧ V (235 + k) ≤ 9 ∧ V (245 + k) ≤ 24 ∧ V (255 + k) ≤ 9 ∧ V (265 + k) = 0
theorem RdV.wf {V : Nat → Nat} {i : Nat} (h : RdV V i) (hi : i ≤ 10) : Wf (sg V 220) := by
  obtain ⟨h0, h3, h4, h1, h2, hk, hv⟩ := h
  refine wf_mk (by rw [h0]; exact hi) (show V 221 < 1024 by omega) h2 (show V 224 < 1024 by omega) (fun k hk => ?_)
  obtain ⟨a, b, d, e, g⟩ := hv k hk
  exact ⟨show V (225 + k) < 1024 by omega, show V (235 + k) < 10 by omega, show V (245 + k) < 1024 by omega, show V (255 + k) < 1024 by omega, show V (265 + k) < 1024 by omega⟩
theorem ifup {g : Nat → Nat} {i k w z : Nat} (h : ¬ k = i → z = g k) : (if k = i then w else z) = upN g i w k := by
  unfold upN
  by_cases q : k = i
  · rw [if_pos q, if_pos q]
  · rw [if_neg q, if_neg q]; exact h q
theorem rd_step {len : Nat} {f : Nat → Nat} (hf : ∀ i, i < 130 → f i < 256) (hlen : len ≤ 130) {c i : Nat} {V : Nat → Nat} {X : Sg} (hi : i ≤ 10) (hB : mwB len f c i = true) (e : Eqv (sg V 220) X) (h : RdV V i) : wnR len f (decide (Sn X < 10)) (c, 0) = (mwC6 len f c + 1, 0) ∧ Eqv (sg (mwW len f c i V) 220) (wnX len f (c, 0) X) ∧ RdV (mwW len f c i V) (i + 1) := by
  obtain ⟨-, b1, b2, b3, b4, b5, b6⟩ := (wn_both hf hlen (c := c) hi).resolve_right (fun b => by rw [b.1] at hB; cases hB)
  obtain ⟨h0, h3, h4, h1, h2, hk, hv⟩ := h
  have hX : Sn X = i := e.1.symm.trans h0
  obtain ⟨m1, m2, m3⟩ := mw_in hB
  have mk := kindM_le (herI len f c)
  have e0 : mwW len f c i V 220 = i + 1 := by unfold mwW; rw [upN_s]
  refine ⟨by rw [hX]; exact b3, ?_, ?_⟩
  · unfold wnX
    rw [hX, b3, b4, b5, b6, if_pos rfl, kd_tap]
    unfold buildF
    rw [hX, if_neg (by omega)]
    refine ⟨e0, (mwW_n (by decide) (by decide)).trans e.2.1, (mwW_n (by decide) (by decide)).trans e.2.2.1, (mwW_n (by decide) (by decide)).trans e.2.2.2.1, (mwW_n (by decide) (by decide)).trans e.2.2.2.2.1, fun k hk => ?_⟩
    have hk : k < i + 1 := by rw [show Sn (sg (mwW len f c i V) 220) = i + 1 from e0] at hk; exact hk
    obtain ⟨v1, v2, v3, v4, v5⟩ := mwW_v (len := len) (f := f) (c := c) (V := V) b1 (show k < 10 by omega)
    have ek : ¬ k = i → SK (sg V 220) k = SK X k ∧ SP (sg V 220) k = SP X k ∧ SD (sg V 220) k = SD X k ∧ SG (sg V 220) k = SG X k ∧ SS (sg V 220) k = SS X k := fun q => e.2.2.2.2.2 k (show k < V 220 by omega)
    refine ⟨v1.trans (ifup (fun q => (ek q).1)), v2.trans (ifup (fun q => (ek q).2.1)), v3.trans (ifup (fun q => (ek q).2.2.1)), v4.trans (ifup (fun q => (ek q).2.2.2.1)), v5.trans ?_⟩
    show V (265 + k) = upN (SS X) i 0 k
    unfold upN
    by_cases q : k = i
    · rw [if_pos q]; exact (hv k (by omega)).2.2.2.2
    · rw [if_neg q]; exact (ek q).2.2.2.2
  · refine ⟨e0, (mwW_n (by decide) (by decide)).trans h3, (mwW_n (by decide) (by decide)).trans h4, by rw [mwW_n (by decide) (by decide)]; exact h1, by rw [mwW_n (by decide) (by decide)]; exact h2, fun k hk9 => ?_, fun k hk9 => ?_⟩
    · rw [(mwW_v b1 (show k < 10 by omega)).1]
      by_cases q : k = i
      · rw [if_pos q]; omega
      · rw [if_neg q]; exact hk k (by omega)
    · obtain ⟨v1, v2, v3, v4, v5⟩ := mwW_v (len := len) (f := f) (c := c) (V := V) b1 hk9
      rw [v1, v2, v3, v4, v5]
      by_cases q : k = i
      · rw [if_pos q, if_pos q, if_pos q, if_pos q]
        exact ⟨mk, m2, m1.2, m3, (hv k hk9).2.2.2.2⟩
      · rw [if_neg q, if_neg q, if_neg q, if_neg q]
        exact hv k hk9
theorem rdZ_in {Z : Nat → Nat} {j : Nat} (h1 : 220 ≤ j) (h2 : j < 275) : rdZ Z j = 0 := by
  have := rg_in (Z := Z) (b := 220) (k := 55) (g := fun _ => 0) (j := j - 220) (by omega)
  rw [show 220 + (j - 220) = j by omega] at this
  exact this
theorem rd_base {len : Nat} {f : Nat → Nat} (hf : ∀ i, i < 130 → f i < 256) (hlen : len ≤ 130) {Z : Nat → Nat} {y : Sg} (hB : mlB len f 0 = true) : Eqv (sg (mlW len f 0 (rdZ Z)) 220) (beginF y (lwE len f (0, 0)).1 (lwS len f (0, 0)).1) ∧ RdV (mlW len f 0 (rdZ Z)) 0 ∧ lwR len f (0, 0) = (mlC4 len f 0 + 1, 0) := by
  obtain ⟨-, b1, b2, b3⟩ := (lw_both hf hlen).resolve_right (fun b => by rw [b.1] at hB; cases hB)
  have hB2 := hB
  unfold mlB at hB2
  simp only [Bool.and_eq_true] at hB2
  obtain ⟨⟨⟨⟨t1, n1⟩, t2⟩, n2⟩, t3⟩ := hB2
  have m1 := nm_in n1
  have m2 := nm_in n2
  have eW : mlW len f 0 (rdZ Z) = upN (upN (rdZ Z) 221 (numM f (0 + 1) (runM len f (0 + 1)))) 222 (numM f (mlC2 len f 0 + 1) (runM len f (mlC2 len f 0 + 1))) := by
    unfold mlW
    rw [t1, n1, t2, n2]
    rfl
  rw [eW, b2, b3]
  generalize numM f (0 + 1) (runM len f (0 + 1)) = E at m1 ⊢
  generalize numM f (mlC2 len f 0 + 1) (runM len f (mlC2 len f 0 + 1)) = S at m2 ⊢
  have v : ∀ j, ¬ j = 221 → ¬ j = 222 → 220 ≤ j → j < 275 → upN (upN (rdZ Z) 221 E) 222 S j = 0 := fun j h1 h2 h3 h4 => by
    rw [upN_n h2, upN_n h1]
    exact rdZ_in h3 h4
  have v1 : upN (upN (rdZ Z) 221 E) 222 S 221 = E := by rw [upN_n (by decide), upN_s]
  have v2 : upN (upN (rdZ Z) 221 E) 222 S 222 = S := upN_s
  have v0 := v 220 (by decide) (by decide) (by decide) (by decide)
  have v3 := v 223 (by decide) (by decide) (by decide) (by decide)
  have v4 := v 224 (by decide) (by decide) (by decide) (by decide)
  refine ⟨⟨v0, v1, v2, v3, v4, fun k hk => ?_⟩, ⟨v0, v3, v4, by rw [v1]; omega, by rw [v2]; omega, fun k hk => absurd hk (Nat.not_lt_zero _), fun k hk => ?_⟩, b1⟩
  · exfalso
    rw [show Sn (sg (upN (upN (rdZ Z) 221 E) 222 S) 220) = 0 from v0] at hk
    exact Nat.not_lt_zero _ hk
  · rw [v (225 + k) (by omega) (by omega) (by omega) (by omega), v (235 + k) (by omega) (by omega) (by omega) (by omega), v (245 + k) (by omega) (by omega) (by omega) (by omega), v (255 + k) (by omega) (by omega) (by omega) (by omega), v (265 + k) (by omega) (by omega) (by omega) (by omega)]
    exact ⟨Nat.zero_le _, Nat.zero_le _, Nat.zero_le _, Nat.zero_le _, rfl⟩
theorem rdK_le {len : Nat} {f Z : Nat → Nat} : rdKm len f 0 Z ≤ 10 ∧ rdQ len f 0 Z (rdKm len f 0 Z) = true ∧ ∀ j, j < rdKm len f 0 Z → rdQ len f 0 Z j = false := by
  obtain ⟨a1, a2, a3⟩ := fstN_spec 11 (rdQ len f 0 Z)
  have t : rdQ len f 0 Z 10 = true := by
    unfold rdQ mwB
    rw [show decide (¬ (10 : Nat) = 10) = false from rfl, Bool.and_false, Bool.false_and, Bool.false_and, Bool.false_and, Bool.false_and, Bool.false_and, Bool.false_and]
    simp
  have h10 : rdKm len f 0 Z ≤ 10 := by
    rcases Nat.lt_or_ge 10 (rdKm len f 0 Z) with q | q
    · rw [a2 10 q] at t; cases t
    · exact q
  refine ⟨h10, ?_, a2⟩
  rcases a3 with a3 | a3
  · have : rdKm len f 0 Z = 11 := a3
    omega
  · exact a3
theorem rdA_s (len : Nat) (f Z : Nat → Nat) (i : Nat) : rdA len f 0 Z (i + 1) = (mwC6 len f (rdA len f 0 Z i).1 + 1, mwW len f (rdA len f 0 Z i).1 i (rdA len f 0 Z i).2) := rfl
theorem rd_inv {len : Nat} {f : Nat → Nat} (hf : ∀ i, i < 130 → f i < 256) (hlen : len ≤ 130) {Z : Nat → Nat} {y : Sg} (hB : mlB len f 0 = true) (i : Nat) (hi : i ≤ rdKm len f 0 (rdZ Z)) : (rdS len f y i).1 = ((rdA len f 0 (rdZ Z) i).1, 0) ∧ Eqv (sg (rdA len f 0 (rdZ Z) i).2 220) (rdS len f y i).2 ∧ RdV (rdA len f 0 (rdZ Z) i).2 i := by
  induction i with
  | zero =>
    obtain ⟨a, b, d⟩ := rd_base hf hlen (Z := Z) (y := y) hB
    rw [rdS_0]
    exact And.intro d (And.intro a b)
  | succ i ih =>
    obtain ⟨a, b, d⟩ := ih (by omega)
    obtain ⟨k1, k2, k3⟩ := rdK_le (len := len) (f := f) (Z := rdZ Z)
    have q := k3 i (by omega)
    unfold rdQ at q
    rw [Bool.or_eq_false_iff] at q
    have qB : mwB len f (rdA len f 0 (rdZ Z) i).1 i = true := by simpa using q.2
    have st := rd_step hf hlen (c := (rdA len f 0 (rdZ Z) i).1) (V := (rdA len f 0 (rdZ Z) i).2) (X := (rdS len f y i).2) (by omega) qB b d
    rw [rdS_s, rdA_s, a]
    generalize wnR len f (decide (Sn (rdS len f y i).2 < 10)) ((rdA len f 0 (rdZ Z) i).1, 0) = w1 at st ⊢
    generalize wnX len f ((rdA len f 0 (rdZ Z) i).1, 0) (rdS len f y i).2 = w2 at st ⊢
    generalize mwW len f (rdA len f 0 (rdZ Z) i).1 i (rdA len f 0 (rdZ Z) i).2 = w3 at st ⊢
    generalize mwC6 len f (rdA len f 0 (rdZ Z) i).1 = w4 at st ⊢
    exact st
theorem Ok.of_eqv {a x : Sg} (h : Ok a) (e : Eqv a x) : Ok x := by
  obtain ⟨⟨w1, w2, w3, w4, w5⟩, hk, ho⟩ := h
  obtain ⟨e1, e2, e3, e4, e5, e6⟩ := e
  refine ⟨⟨by rw [← e1]; exact w1, by rw [← e2]; exact w2, by rw [← e3]; exact w3, by rw [← e5]; exact w4, fun k hk => ?_⟩, fun k hk9 => ?_, by rw [← e5, ← e1]; exact ho⟩
  · obtain ⟨f1, f2, f3, f4, f5⟩ := e6 k (by rw [e1]; exact hk)
    rw [← f1, ← f2, ← f3, ← f4, ← f5]
    exact w5 k (by rw [e1]; exact hk)
  · obtain ⟨f1, f2, f3, f4, f5⟩ := e6 k (by rw [e1]; exact hk9)
    rw [← f1]
    exact hk k (by rw [e1]; exact hk9)
theorem rdP_no {len : Nat} {f : Nat → Nat} {y : Sg} {j c : Nat} (a : (rdS len f y j).1 = (c, 0)) (hq : stp len c j = false) (hj : j ≤ 10) : rdP len f y j = false := by
  unfold rdP
  rw [a]
  dsimp only
  rw [decide_eq_false (show ¬ 10 < j by omega), decide_eq_true rfl, Bool.not_true, Bool.false_or, Bool.false_or, ← Bool.not_eq_true, Bool.and_eq_true, decide_eq_true_eq, decide_eq_true_eq]
  rintro ⟨z1, z2⟩
  rw [stp_t z1 (by omega)] at hq
  cases hq
theorem rdP_end {len : Nat} {f : Nat → Nat} {y : Sg} {j c : Nat} (a : (rdS len f y j).1 = (c, 0)) (h2 : 2 ≤ j) (hc : c = len) : rdP len f y j = true := by
  unfold rdP
  rw [a]
  dsimp only
  rw [decide_eq_true h2, decide_eq_true hc]
  simp
theorem rdP_bad {len : Nat} {f : Nat → Nat} {y : Sg} {j c d : Nat} (a : (rdS len f y j).1 = (c, d)) (hd : ¬ d = 0) : rdP len f y j = true := by
  unfold rdP
  rw [a]
  dsimp only
  rw [decide_eq_false hd]
  simp
theorem rd_ok {V : Nat → Nat} {K : Nat} {x : Sg} (k1 : K ≤ 10) (h2 : 2 ≤ K) (b : Eqv (sg V 220) x) (d : RdV V K) : Sim (cpW V 220 0) 0 x ∧ Good x := by
  have w := d.wf k1
  obtain ⟨d1, d2, d3, d4, d5, d6, d7⟩ := d
  have o : OkS (sg V 220) := by
    refine ⟨w, fun k hk => ?_, ?_⟩
    · have hk : k < K := by rw [show Sn (sg V 220) = K from d1] at hk; exact hk
      exact d6 k hk
    · show V 224 < _
      rw [d3]
      exact Nat.two_pow_pos _
  refine ⟨Sim.copy (fr := 220) ⟨b, o, o.k.of_eqv b⟩ 0, ?_⟩
  obtain ⟨e1, e2, e3, e4, e5, e6⟩ := b
  have n : Sn x = K := e1.symm.trans d1
  refine ⟨?_, ?_, by rw [n]; exact h2, fun k hk => ?_⟩
  · rw [← e4, show St (sg V 220) = 0 from d2]
    exact Nat.zero_le _
  · rw [← e2]; exact d4.1
  · rw [n] at hk
    rw [← (e6 k (by rw [show Sn (sg V 220) = K from d1]; exact hk)).2.2.2.1]
    exact (d7 k (by omega)).2.2.2.1
/-- both read the same, and refuse the same at the same place -/
theorem read_both {len : Nat} {f : Nat → Nat} (hf : ∀ i, i < 130 → f i < 256) (hlen : len ≤ 130) (Z : Nat → Nat) (y : Sg) : (maB len f 0 (rdZ Z) = true ∧ (rdF len f y).1.2 = 0 ∧ Sim (cpW (rdA len f 0 (rdZ Z) (rdKm len f 0 (rdZ Z))).2 220 0) 0 (rdF len f y).2 ∧ Good (rdF len f y).2) ∨ (maB len f 0 (rdZ Z) = false ∧ ¬ (rdF len f y).1.2 = 0 ∧ (rdF len f y).1 = (maS len f 0 (rdZ Z), maF len f 0 (rdZ Z))) := by
  by_cases hB : mlB len f 0 = true
  · obtain ⟨k1, k2, k3⟩ := rdK_le (len := len) (f := f) (Z := rdZ Z)
    have inv := rd_inv hf hlen (Z := Z) (y := y) hB
    unfold maB maS maF
    rw [hB, if_pos rfl, if_pos rfl]
    generalize rdKm len f 0 (rdZ Z) = K at k1 k2 k3 inv ⊢
    have pre : ∀ j, j < K → rdP len f y j = false := fun j hj => by
      have q := k3 j hj
      unfold rdQ at q
      rw [Bool.or_eq_false_iff] at q
      exact rdP_no (inv j (Nat.le_of_lt hj)).1 q.1 (Nat.le_of_lt (Nat.lt_of_lt_of_le hj k1))
    obtain ⟨a, b, d⟩ := inv K (Nat.le_refl _)
    have le := (rdS_ok len f y K).1.1
    have nx := rdS_s len f y K
    unfold rdQ at k2
    rw [a] at le nx
    have le : (rdA len f 0 (rdZ Z) K).1 ≤ len := le
    generalize hA : rdA len f 0 (rdZ Z) K = A at k2 a b d le nx ⊢
    clear hA inv k3
    by_cases hs : stp len A.1 K = true
    · have h2 : 2 ≤ K ∧ len ≤ A.1 := by
        unfold stp at hs
        simpa using hs
      have eK : rdK len f y = K := rdK_of (Nat.le_succ_of_le k1) pre (rdP_end a h2.1 (Nat.le_antisymm le h2.2))
      unfold rdF
      rw [eK, hs]
      obtain ⟨s1, s2⟩ := rd_ok k1 h2.1 b d
      exact Or.inl ⟨rfl, by rw [a], s1, s2⟩
    · rw [Bool.not_eq_true] at hs
      rw [hs, Bool.false_or] at k2
      have qB : mwB len f A.1 K = false := by simpa using k2
      have hX : Sn (rdS len f y K).2 = K := b.1.symm.trans d.1
      rw [hX] at nx
      rcases wn_both hf hlen (c := A.1) k1 with ⟨z, -⟩ | ⟨-, w1, w2⟩
      · rw [qB] at z; cases z
      · rw [w1] at nx
        have n1 : (rdS len f y (K + 1)).1 = (mwS len f A.1 K, mwF len f A.1 K) := by rw [nx]
        have pK : rdP len f y K = false := rdP_no a hs k1
        have pre2 : ∀ j, j < K + 1 → rdP len f y j = false := fun j hj => by
          rcases Nat.lt_or_eq_of_le (Nat.le_of_lt_succ hj) with q | q
          · exact pre j q
          · rw [q]; exact pK
        have eK : rdK len f y = K + 1 := rdK_of (Nat.succ_le_succ k1) pre2 (rdP_bad n1 w2)
        unfold rdF
        rw [eK, hs, n1]
        exact Or.inr ⟨rfl, w2, rfl⟩
  · rw [Bool.not_eq_true] at hB
    rcases lw_both hf hlen with ⟨b, -⟩ | ⟨-, b1, b2⟩
    · rw [hB] at b; cases b
    · have n0 : (rdS len f y 0).1 = (mlS len f 0, mlF len f 0) := by
        rw [rdS_0]
        dsimp only
        exact b1
      have eK : rdK len f y = 0 := rdK_of (Nat.zero_le _) (fun j hj => absurd hj (Nat.not_lt_zero _)) (rdP_bad n0 b2)
      unfold maB maS maF rdF
      rw [eK, n0, hB]
      exact Or.inr ⟨rfl, b2, rfl⟩
theorem street_ans {len : Nat} {f : Nat → Nat} (hf : ∀ i, i < 130 → f i < 256) (hlen : len ≤ 130) (Z : Nat → Nat) (y : Sg) : stmS len f Z = strR len f y := by
  unfold stmS strR
  rcases read_both hf hlen Z y with ⟨a, b, d, -⟩ | ⟨a, b, d⟩
  · rw [if_pos a, if_pos b]
    exact congrArg nI d.1.1
  · rw [a, if_neg Bool.false_ne_true, if_neg b, d]
