/-! ===== acts of both ===== -/
theorem Sim.same {V Z : Nat → Nat} {r r' : Nat} {x : Sg} (h : Sim Z r x) (e : ∀ k, k < 55 → V (r' + k) = Z (r + k)) : Sim V r' x := by
  obtain ⟨a, b, d⟩ := h
  have hn : Z r ≤ 10 := b.1.1
  have a5 : ∀ q k, q + k < 55 → V (r' + q + k) = Z (r + q + k) := fun q k hq => by rw [Nat.add_assoc, e _ hq, Nat.add_assoc]
  have ev : Eqv (sg V r') (sg Z r) := by
    refine ⟨e 0 (by decide), e 1 (by decide), e 2 (by decide), e 3 (by decide), e 4 (by decide), fun k hk => ?_⟩
    have hk : k < 10 := by rw [show Sn (sg V r') = Z r from e 0 (by decide)] at hk; omega
    exact ⟨a5 5 k (by omega), a5 15 k (by omega), a5 25 k (by omega), a5 35 k (by omega), a5 45 k (by omega)⟩
  have hw : Wf (sg V r') := by
    obtain ⟨w1, w2, w3, w4, w5⟩ := wfW b.1
    refine wf_mk (by rw [show V r' = Z r from e 0 (by decide)]; exact w1) (by rw [e 1 (by decide)]; exact w2) (by rw [e 2 (by decide)]; exact w3) (by rw [e 4 (by decide)]; exact w4) (fun k hk => ?_)
    rw [a5 5 k (by omega), a5 15 k (by omega), a5 25 k (by omega), a5 35 k (by omega), a5 45 k (by omega)]
    exact w5 k hk
  exact ⟨ev.trans a, b.k.eqv ev.symm hw, d⟩
theorem Sim.o {Z : Nat → Nat} {r : Nat} {x : Sg} (h : Sim Z r x) {o : Nat} (ho : o < 2 ^ Sn x) : Sim (upN Z (r + 4) o) r (wO x o) := by
  obtain ⟨a, b, d⟩ := h
  have h10 : 2 ^ Sn x ≤ 1024 := Nat.pow_le_pow_right (n := 2) (by decide) d.1.1
  have hd : Ok (wO x o) := ⟨d.1.o (by omega), d.2.1, ho⟩
  have e := sg_up4.trans (a.o o)
  exact ⟨e, hd.eqv e.symm (wf_o b.1 (by omega)), hd⟩
theorem sg_upg {Z : Nat → Nat} {r k v : Nat} (hk : k < 10) (hn : Z r ≤ 10) : Eqv (sg (upN Z (r + 35 + k) v) r) (wG (sg Z r) (upN (SG (sg Z r)) k v)) := by
  refine ⟨upN_n (by omega), upN_n (by omega), upN_n (by omega), upN_n (by omega), upN_n (by omega), fun i hi => ?_⟩
  have hi : i < 10 := by rw [show Sn (sg (upN Z (r + 35 + k) v) r) = Z r from upN_n (by omega)] at hi; omega
  refine ⟨upN_n (by omega), upN_n (by omega), upN_n (by omega), ?_, upN_n (by omega)⟩
  show upN Z (r + 35 + k) v (r + 35 + i) = upN (fun i => Z (r + 35 + i)) k v i
  by_cases q : i = k
  · subst q; rw [upN_s, upN_s]
  · rw [upN_n (by omega), upN_n q]
theorem up_eq {f g : Nat → Nat} {n k v : Nat} (h : ∀ i, i < n → f i = g i) : ∀ i, i < n → upN f k v i = upN g k v i := fun i hi => by
  unfold upN
  split
  · rfl
  · exact h i hi
theorem Sim.g {Z : Nat → Nat} {r : Nat} {x : Sg} (h : Sim Z r x) {k v : Nat} (hk : k < 10) (hv : v < 1024) : Sim (upN Z (r + 35 + k) v) r (wG x (upN (SG x) k v)) := by
  obtain ⟨a, b, d⟩ := h
  have hd : Ok (wG x (upN (SG x) k v)) := ⟨d.1.g (fun i hi => by
    unfold upN
    split
    · exact hv
    · exact (d.1.2.2.2.2 i hi).2.2.2.1), d.2.1, d.2.2⟩
  have e := (sg_upg (v := v) hk b.1.1).trans (a.g (up_eq (fun i hi => (a.2.2.2.2.2 i hi).2.2.2.1)))
  exact ⟨e, hd.eqv e.symm (wf_g b.1 hk hv), hd⟩
theorem Sim.v {Z : Nat → Nat} {r : Nat} {x : Sg} (h : Sim Z r x) {v : Nat} (hv : v ≤ 3) : Sim (upN Z (r + 2) v) r (Sn x, Se x, v, St x, So x, SK x, SP x, SD x, SG x, SS x) := by
  obtain ⟨a, b, d⟩ := h
  have hd : Ok (Sn x, Se x, v, St x, So x, SK x, SP x, SD x, SG x, SS x) := ⟨⟨d.1.1, d.1.2.1, hv, d.1.2.2.2.1, d.1.2.2.2.2⟩, d.2.1, d.2.2⟩
  have e : Eqv (sg (upN Z (r + 2) v) r) (Sn x, Se x, v, St x, So x, SK x, SP x, SD x, SG x, SS x) := by
    refine ⟨(upN_n (by omega)).trans a.1, (upN_n (by omega)).trans a.2.1, upN_s, (upN_n (by omega)).trans a.2.2.2.1, (upN_n (by omega)).trans a.2.2.2.2.1, fun i hi => ?_⟩
    obtain ⟨f1, f2, f3, f4, f5⟩ := a.2.2.2.2.2 i (by rw [show Sn (sg (upN Z (r + 2) v) r) = Z r from upN_n (by omega)] at hi; exact hi)
    exact ⟨(upN_n (by omega)).trans f1, (upN_n (by omega)).trans f2, (upN_n (by omega)).trans f3, (upN_n (by omega)).trans f4, (upN_n (by omega)).trans f5⟩
  refine ⟨e, hd.eqv e.symm ?_, hd⟩
  obtain ⟨w1, w2, w3, w4, w5⟩ := wfW b.1
  refine wf_mk (by rw [upN_n (by omega)]; exact w1) (by rw [upN_n (by omega)]; exact w2) (by rw [upN_s]; exact hv) (by rw [upN_n (by omega)]; exact w4) (fun k hk => ?_)
  rw [upN_n (by omega), upN_n (by omega), upN_n (by omega), upN_n (by omega), upN_n (by omega)]
  exact w5 k hk
theorem Sim.swap {Z : Nat → Nat} {r : Nat} {x : Sg} (h : Sim Z r x) {i j : Nat} (hi : i < Sn x) (hj : j < Sn x) : Sim (swW Z r i j) r (swapD x i j) := by
  obtain ⟨a, b, d⟩ := h
  have hn := d.1.1
  have hd : Ok (swapD x i j) := ⟨d.1.swap (by omega) (by omega), d.2.1, d.2.2⟩
  have hZ : Z r = Sn x := a.1
  have so : ∀ q, (q < r + 25 ∨ r + 35 ≤ q) → swW Z r i j q = Z q := fun q hq => sw_o hq (by omega) (by omega)
  have e : Eqv (sg (swW Z r i j) r) (swapD x i j) := by
    refine ⟨(so _ (by omega)).trans a.1, (so _ (by omega)).trans a.2.1, (so _ (by omega)).trans a.2.2.1, (so _ (by omega)).trans a.2.2.2.1, (so _ (by omega)).trans a.2.2.2.2.1, fun k hk => ?_⟩
    have hk : k < Sn x := by rw [show Sn (sg (swW Z r i j) r) = Z r from so _ (by omega), hZ] at hk; exact hk
    obtain ⟨f1, f2, f3, f4, f5⟩ := a.2.2.2.2.2 k (by show k < Z r; omega)
    refine ⟨(so _ (by omega)).trans f1, (so _ (by omega)).trans f2, ?_, (so _ (by omega)).trans f4, (so _ (by omega)).trans f5⟩
    show upN (upN Z (r + 25 + i) (Z (r + 25 + j))) (r + 25 + j) (Z (r + 25 + i)) (r + 25 + k) = upN (upN (SD x) i (SD x j)) j (SD x i) k
    have di : Z (r + 25 + i) = SD x i := (a.2.2.2.2.2 i (by show i < Z r; omega)).2.2.1
    have dj : Z (r + 25 + j) = SD x j := (a.2.2.2.2.2 j (by show j < Z r; omega)).2.2.1
    rw [di, dj]
    by_cases q : k = j
    · subst q; rw [upN_s, upN_s]
    · rw [upN_n (by omega), upN_n q]
      by_cases q2 : k = i
      · subst q2; rw [upN_s, upN_s]
      · rw [upN_n (by omega), upN_n q2]; exact f3
  exact ⟨e, hd.eqv e.symm (sw_wf b.1 (by omega) (by omega)), hd⟩
/-- a street that was read, and lived on -/
def Good (x : Sg) : Prop := St x ≤ 9999 ∧ 2 ≤ Se x ∧ 2 ≤ Sn x ∧ ∀ k, k < Sn x → SG x k ≤ 9
theorem wearG_le (x y : Sg) (s k n : Nat) : don n (wearG x s) (SG x) k ≤ SG x k := by
  unfold don wearG
  split
  · split <;> omega
  · exact Nat.le_refl _
theorem turn_gle (x : Sg) (k : Nat) : SG (turnF x) k ≤ SG x k := by
  have hL : ∀ z : Sg, SG (lookF z) = SG z := fun z => by unfold lookF; split <;> rfl
  unfold turnF
  generalize hz : lookF (wO x (So x ||| openF x (dateF x) (allF x))) = z
  have e : SG z = SG x := by rw [← hz, hL]
  rw [← e]
  unfold closeF wearF
  split
  · exact wearG_le z z _ k _
  · exact wearG_le z z _ k _
theorem turnN_gle (x : Sg) (k : Nat) : ∀ i, SG (turnN x i) k ≤ SG x k
  | 0 => Nat.le_refl _
  | i + 1 => Nat.le_trans (turn_gle _ k) (turnN_gle x k i)
/-- the streets ahead of the latest acts: the ring, and the reference's row of regions -/
def RingR (Z : Nat → Nat) (ud nx kp : Nat) (rs : Nat → Sg) : Prop := kp = ud ∧ ud ≤ 24 ∧ nx < 24 ∧ ∀ j, j < ud → Sim Z (275 + 55 * j) (rs ((nx + 24 - ud + j) % 24)) ∧ Good (rs ((nx + 24 - ud + j) % 24))
theorem RingR.same {V Z : Nat → Nat} {ud nx kp : Nat} {rs : Nat → Sg} (h : RingR Z ud nx kp rs) (e : ∀ j, 275 ≤ j → V j = Z j) : RingR V ud nx kp rs := ⟨h.1, h.2.1, h.2.2.1, fun j hj => ⟨(h.2.2.2 j hj).1.same (fun k _ => e _ (by omega)), (h.2.2.2 j hj).2⟩⟩
theorem RingR.mind {Z : Nat → Nat} {ud nx kp : Nat} {rs : Nat → Sg} {x : Sg} (h : RingR Z ud nx kp rs) (hs : Sim Z 0 x) (hg : Good x) : RingR (mdW Z ud) (mdU ud) ((nx + 1) % 24) (min 24 (kp + 1)) (upS rs nx x) := by
  obtain ⟨h1, h2, h3, h4⟩ := h
  by_cases q : ud = 24
  · subst q
    have eu : mdU 24 = 24 := rfl
    have ew : mdW Z 24 = cpW (rg Z 275 1265 (fun j => Z (275 + j + 55))) 0 (275 + 55 * 23) := rfl
    rw [eu, ew]
    refine ⟨by omega, by omega, Nat.mod_lt _ (by decide), fun j hj => ?_⟩
    by_cases qj : j = 23
    · subst qj
      have ei : ((nx + 1) % 24 + 24 - 24 + 23) % 24 = nx := by omega
      rw [ei, upS_s]
      refine ⟨hs.same (fun k hk => ?_), hg⟩
      unfold cpW
      rw [rg_in hk, rg_out (by omega)]
    · have ei : ((nx + 1) % 24 + 24 - 24 + j) % 24 = (nx + 24 - 24 + (j + 1)) % 24 := by omega
      rw [ei, upS_n (by omega)]
      refine ⟨(h4 (j + 1) (by omega)).1.same (fun k hk => ?_), (h4 (j + 1) (by omega)).2⟩
      unfold cpW
      rw [rg_out (by omega), show 275 + 55 * j + k = 275 + (55 * j + k) by omega, rg_in (by omega)]
      congr 1
      omega
  · have eu : mdU ud = ud + 1 := if_neg q
    have ew : mdW Z ud = cpW Z 0 (275 + 55 * ud) := by unfold mdW; rw [if_neg q, if_neg q]
    rw [eu, ew]
    refine ⟨by omega, by omega, Nat.mod_lt _ (by decide), fun j hj => ?_⟩
    by_cases qj : j = ud
    · subst qj
      have ei : ((nx + 1) % 24 + 24 - (j + 1) + j) % 24 = nx := by omega
      rw [ei, upS_s]
      exact ⟨hs.copy _, hg⟩
    · have ei : ((nx + 1) % 24 + 24 - (ud + 1) + j) % 24 = (nx + 24 - ud + j) % 24 := by omega
      rw [ei, upS_n (by omega)]
      refine ⟨(h4 j (by omega)).1.same (fun k hk => ?_), (h4 j (by omega)).2⟩
      unfold cpW
      rw [rg_out (by omega)]
theorem Sim.md {Z : Nat → Nat} {x : Sg} (h : Sim Z 0 x) (ud : Nat) : Sim (mdW Z ud) 0 x := h.same (fun k hk => mdW_o (by omega))
theorem RingR.back {Z : Nat → Nat} {ud nx kp : Nat} {rs : Nat → Sg} (h : RingR Z ud nx kp rs) (h0 : ¬ ud = 0) : Sim (cpW Z (275 + 55 * (ud - 1)) 0) 0 (rs ((nx + 24 - 1) % 24)) ∧ Good (rs ((nx + 24 - 1) % 24)) ∧ RingR (cpW Z (275 + 55 * (ud - 1)) 0) (ud - 1) ((nx + 24 - 1) % 24) (kp - 1) rs := by
  obtain ⟨h1, h2, h3, h4⟩ := h
  have ei : (nx + 24 - ud + (ud - 1)) % 24 = (nx + 24 - 1) % 24 := by omega
  have h5 := h4 (ud - 1) (by omega)
  rw [ei] at h5
  refine ⟨h5.1.copy 0, h5.2, by omega, by omega, Nat.mod_lt _ (by decide), fun j hj => ?_⟩
  have ej : ((nx + 24 - 1) % 24 + 24 - (ud - 1) + j) % 24 = (nx + 24 - ud + j) % 24 := by omega
  rw [ej]
  exact ⟨(h4 j (by omega)).1.same (fun k _ => by unfold cpW; rw [rg_out (by omega)]), (h4 j (by omega)).2⟩
