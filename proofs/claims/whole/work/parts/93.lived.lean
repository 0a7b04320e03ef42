/-! ===== acts' answers, turns on end, trades, draws ===== -/
theorem opn_ans {x y : Sg} (h : Eqv x y) (hn : Sn x ≤ 10) (pk : Int32) : opnR x pk = opnR y pk ∧ opnB x pk = opnB y pk := by
  unfold opnR opnB
  rw [← h.1, ← h.2.2.2.2.1]
  refine ⟨?_, rfl⟩
  split
  · rename_i q
    rw [(h.2.2.2.2.2 _ (inW_at hn q)).2.1]
  · rfl
theorem prs_ans {x y : Sg} (h : Eqv x y) (hn : Sn x ≤ 10) (pk : Int32) : prsR x pk = prsR y pk ∧ prsB x pk = prsB y pk := by
  unfold prsR prsB
  rw [← h.1, ← h.2.2.2.2.1]
  refine ⟨?_, rfl⟩
  split
  · rename_i q
    rw [(h.2.2.2.2.2 _ (inW_at hn q)).2.2.2.1]
  · rfl
theorem glu_ans {x y : Sg} (h : Eqv x y) (hn : Sn x ≤ 10) (pk pn : Int32) : gluR x pk pn = gluR y pk pn ∧ gluB x pk pn = gluB y pk pn := by
  unfold gluR gluB
  rw [← h.1]
  refine ⟨?_, rfl⟩
  split
  · rename_i q
    rw [Bool.and_eq_true] at q
    rw [(h.2.2.2.2.2 _ (inW_at hn q.1)).2.2.2.1]
  · rfl
theorem trd_ans {x y : Sg} (h : Eqv x y) (hn : Sn x ≤ 10) (pk po : Int32) : trdR x pk po = trdR y pk po ∧ trdB x pk po = trdB y pk po := by
  unfold trdR trdB
  rw [← h.1]
  refine ⟨?_, rfl⟩
  split
  · rename_i q
    rw [Bool.and_eq_true, Bool.and_eq_true] at q
    have a := inW_at hn q.1.1
    have b := inW_at hn q.1.2
    have e1 := (h.2.2.2.2.2 _ a).2.2.1
    have e2 := (h.2.2.2.2.2 _ b).2.2.1
    congr 1
    show upN (upN (SD x) pk.toNatClampNeg (SD x po.toNatClampNeg)) po.toNatClampNeg (SD x pk.toNatClampNeg) pk.toNatClampNeg = upN (upN (SD y) pk.toNatClampNeg (SD y po.toNatClampNeg)) po.toNatClampNeg (SD y pk.toNatClampNeg) pk.toNatClampNeg
    rw [e1, e2]
    unfold upN
    split
    · rfl
    · rw [if_pos rfl, if_pos rfl]
  · rfl
theorem sgt_ans {x y : Sg} (h : Eqv x y) (pn : Int32) : sgtR x pn = sgtR y pn ∧ sgtB x pn = sgtB y pn := by
  unfold sgtR sgtB
  rw [h.1, h.2.2.1]
  exact ⟨rfl, rfl⟩
theorem turn_e (x : Sg) : Se (turnF x) = Se x ∧ St (turnF x) = St x + 1 ∧ Sn (turnF x) = Sn x := by
  unfold turnF closeF lookF
  split <;> split <;> exact ⟨rfl, rfl, rfl⟩
theorem turnN_e (x : Sg) : ∀ i, Se (turnN x i) = Se x ∧ St (turnN x i) = St x + i ∧ Sn (turnN x i) = Sn x
  | 0 => ⟨rfl, rfl, rfl⟩
  | i + 1 => by
    obtain ⟨a, b, d⟩ := turnN_e x i
    obtain ⟨a1, b1, d1⟩ := turn_e (turnN x i)
    exact ⟨a1.trans a, by rw [turnN, b1, b]; omega, d1.trans d⟩
theorem Sim.lives {Z : Nat → Nat} {ud nx kp : Nat} {rs : Nat → Sg} {x : Sg} (h : Sim Z 0 x) (hr : RingR Z ud nx kp rs) (hg : Good x) : ∀ i, St x + i ≤ 9999 → Sim (tmM (Z, ud) i).1 0 (turnN x i) ∧ RingR (tmM (Z, ud) i).1 (tmM (Z, ud) i).2 (tmQ x (nx, kp, rs) i).1 (tmQ x (nx, kp, rs) i).2.1 (tmQ x (nx, kp, rs) i).2.2 ∧ (∀ j, 110 ≤ j → j < 275 → (tmM (Z, ud) i).1 j = Z j)
  | 0 => fun _ => ⟨h, hr, fun _ _ _ => rfl⟩
  | i + 1 => fun hi => by
    obtain ⟨a, b, d⟩ := Sim.lives h hr hg i (by omega)
    obtain ⟨e1, e2, e3⟩ := turnN_e x i
    have g : Good (turnN x i) := ⟨by omega, by rw [e1]; exact hg.2.1, by rw [e3]; exact hg.2.2.1, fun k hk => Nat.le_trans (turnN_gle x k i) (hg.2.2.2 k (by rw [← e3]; exact hk))⟩
    have m := b.mind a g
    have s := (a.md (tmM (Z, ud) i).2)
    have hn : mdW (tmM (Z, ud) i).1 (tmM (Z, ud) i).2 0 ≤ 10 := s.2.1.1.1
    refine ⟨s.pass, m.same (fun j hj => passW_o hn (Or.inr (by omega))), fun j h1 h2 => ?_⟩
    show passW (mdW (tmM (Z, ud) i).1 (tmM (Z, ud) i).2) 0 j = Z j
    rw [passW_o hn (Or.inr (by omega)), mdW_o h2]
    exact d j h1 h2
theorem tim_ans {Z : Nat → Nat} {ud nx kp : Nat} {rs : Nat → Sg} {x : Sg} (h : Sim Z 0 x) (hr : RingR Z ud nx kp rs) (hg : Sn x = 0 ∨ Good x) (pn : Int32) : timM Z ud pn = timR x pn ∧ timB (sg Z 0) pn = timB x pn := by
  unfold timM timR timB
  rw [h.1.1, h.1.2.2.2.1]
  refine ⟨?_, rfl⟩
  by_cases n0 : Sn x = 0
  · rw [if_pos n0, if_pos n0]
  · rw [if_neg n0, if_neg n0]
    by_cases hp : inI pn (nI 1) (nI 24) = true
    · rw [if_pos hp, if_pos hp]
      by_cases q : St x + pn.toNatClampNeg ≤ 9999
      · rw [if_pos q, if_pos q]
        have := (Sim.lives h hr (hg.resolve_left n0) pn.toNatClampNeg q).1
        exact congrArg nI this.1.2.2.2.2.1
      · rw [if_neg q, if_neg q]
    · rw [if_neg hp, if_neg hp]
/-! trades -/
theorem mtV_eq {Z : Nat → Nat} {x : Sg} (h : Sim Z 0 x) {k : Nat} (hk : k < Sn x) (n : Nat) {a b : Nat} (ha : a < Sn x) (hb : b < Sn x) : mtV Z k n a b = tradeN x k n a b := by
  have g := (((h.copy 55).swap ha hb).goes n).1
  have hn : Sn (sg (goW (swW (cpW Z 0 55) 55 a b) n) 55) = Sn x := g.1.trans (turnN_e _ _).2.2
  unfold mtV tradeN
  rw [show goW (swW (cpW Z 0 55) 55 a b) n (100 + k) = SS (turnN (swapD x a b) n) k from (g.2.2.2.2.2 k (by rw [hn]; exact hk)).2.2.2.2]
def btP (p : Option (Nat × Nat)) : Int32 × Int32 := match p with
  | none => (-1000000, -1)
  | some q => (nI q.1, nI q.2)
theorem n_neg1 : ∀ k, k ≤ 1024 → ¬ nI k ≤ -1 := by decide +kernel
theorem mtU_eq {p : Option (Nat × Nat)} (ho : oOk p) {a b c : Nat} (hc : c ≤ 10) : mtU (btP p) c (10 * a + b) = btP (btU p a b c) := by
  cases p with
  | none =>
    unfold mtU btP
    rw [if_neg (n_neg1 c (by omega))]
    rfl
  | some q =>
    have := ho q rfl
    unfold mtU btP btU
    dsimp only
    by_cases h : c ≤ q.2
    · rw [if_pos h, if_pos (by rw [nI_leI (by omega) (by omega)]; exact h)]
    · rw [if_neg h, if_neg (by rw [nI_leI (by omega) (by omega)]; exact h)]
theorem btU_okk {p : Option (Nat × Nat)} (ho : oOk p) {a b c : Nat} (hc : c ≤ 10) (ha : a < 10) (hb : b < 10) : oOk (btU p a b c) := by
  intro q hq
  cases p with
  | none => cases hq; exact ⟨by dsimp only; omega, hc⟩
  | some r =>
    unfold btU at hq
    dsimp only at hq
    split at hq
    · cases hq; exact ho _ rfl
    · cases hq; exact ⟨by dsimp only; omega, hc⟩
theorem btU_n {p : Option (Nat × Nat)} {a b c : Nat} : btU p a b c ≠ none := by
  unfold btU
  split
  · exact fun h => by cases h
  · split <;> exact fun h => by cases h
theorem mtI_eq {Z : Nat → Nat} {x : Sg} (h : Sim Z 0 x) {w : Nat} (hw : w < Sn x) (n : Nat) {a : Nat} (ha : a < Sn x) {p : Option (Nat × Nat)} (ho : oOk p) : ∀ k, a + 1 + k ≤ Sn x → mtI Z w n a (btP p) k = btP (btI x w n a p k) ∧ oOk (btI x w n a p k) ∧ (p ≠ none ∨ 0 < k → btI x w n a p k ≠ none)
  | 0 => fun _ => ⟨rfl, ho, fun q => by rcases q with q | q; exact q; omega⟩
  | k + 1 => fun hk => by
    obtain ⟨e1, e2, e3⟩ := mtI_eq h hw n ha ho k (by omega)
    have hn := h.2.2.1.1
    have hc : tradeN x w n a (a + 1 + k) ≤ 10 := onesN_le _
    refine ⟨?_, ?_, fun _ => btU_n⟩
    · rw [mtI, btI, e1, mtV_eq h hw n ha (by omega)]
      exact mtU_eq e2 hc
    · rw [btI]
      exact btU_okk e2 hc (by omega) (by omega)
theorem oOk_none : oOk none := fun q hq => by cases hq
theorem mtO_eq {Z : Nat → Nat} {x : Sg} (h : Sim Z 0 x) {w : Nat} (hw : w < Sn x) (h2 : 2 ≤ Sn x) (n : Nat) : ∀ a, a ≤ Sn x → mtO Z w n a = btP (btO x w n a) ∧ oOk (btO x w n a) ∧ (0 < a → btO x w n a ≠ none)
  | 0 => fun _ => ⟨rfl, oOk_none, fun q => absurd q (Nat.lt_irrefl 0)⟩
  | a + 1 => fun ha => by
    obtain ⟨e1, e2, e3⟩ := mtO_eq h hw h2 n a (by omega)
    obtain ⟨f1, f2, f3⟩ := mtI_eq h hw n (a := a) (by omega) e2 (Sn x - (a + 1)) (by omega)
    have hZ : Z 0 = Sn x := h.1.1
    refine ⟨by rw [mtO, btO, e1, hZ]; exact f1, f2, fun _ => f3 ?_⟩
    rcases Nat.eq_zero_or_pos a with q | q
    · exact Or.inr (by omega)
    · exact Or.inl (e3 q)
theorem trades_ans {Z : Nat → Nat} {x : Sg} (h : Sim Z 0 x) (h2 : Sn x = 0 ∨ 2 ≤ Sn x) (pk pn ph : Int32) : tradesM Z pk pn ph = tradesR x pk pn ph := by
  unfold tradesM tradesR
  rw [h.1.1]
  split
  · rename_i q
    rw [Bool.and_eq_true, Bool.and_eq_true] at q
    have hk := inW_at h.2.2.1.1 q.1.1
    have hZ : Z 0 = Sn x := h.1.1
    obtain ⟨e1, e2, e3⟩ := mtO_eq h hk (h2.resolve_left (by omega)) pn.toNatClampNeg (Sn x) (Nat.le_refl _)
    rw [hZ, e1]
    have := e3 (by omega)
    generalize btO x pk.toNatClampNeg pn.toNatClampNeg (Sn x) = p at this ⊢
    cases p with
    | none => exact absurd rfl this
    | some r => rfl
  · rfl
/-! draws -/
theorem Sim.draw {V : Nat → Nat} {y : Sg} (h : Sim V 55 y) (h0 : 0 < Sn y) (v : Nat) : Sim (dwW V v (Sn y)) 55 (drawF y v) := by
  have hm := Nat.mod_lt v h0
  have hn := h.2.2.1.1
  unfold dwW drawF
  split
  · have : V 59 = So y := h.1.2.2.2.2.1
    rw [this]
    exact h.o (r := 55) (Nat.xor_lt_two_pow h.2.2.2.2 (Nat.pow_lt_pow_right (by decide) hm))
  · exact h.g (r := 55) (by omega) (by omega)
theorem yr_sim {Z : Nat → Nat} {x : Sg} (h : Sim Z 0 x) (h0 : 0 < Sn x) (sd : Nat) : ∀ i, Sim (yrM Z sd i).2 55 (yrs x sd i).2 ∧ (yrM Z sd i).1 = (yrs x sd i).1 ∧ Sn (yrs x sd i).2 = Sn x
  | 0 => ⟨h.copy 55, rfl, rfl⟩
  | i + 1 => by
    obtain ⟨a, b, d⟩ := yr_sim h h0 sd i
    have hZ : Z 0 = Sn x := h.1.1
    have e : (yrM Z sd (i + 1)).1 = (yrs x sd (i + 1)).1 := by rw [yrM, yrs, b]
    have s := (a.draw (by omega) ((yrs x sd i).1 * 16807 % 2147483647)).pass
    refine ⟨?_, e, ?_⟩
    · rw [yrM_2, b, hZ, ← d]
      exact s
    · rw [yrs]
      rw [(turn_e _).2.2, (draw_ok a.2.2.1 _ (by omega)).2.2]
      exact d
theorem drawn_ans {Z : Nat → Nat} {x : Sg} (h : Sim Z 0 x) (pn ps ph : Int32) : drawnM Z pn ps ph = drawnR x pn ps ph := by
  unfold drawnM drawnR
  rw [h.1.1]
  by_cases n0 : Sn x = 0
  · rw [if_pos n0, if_pos n0]
  · rw [if_neg n0, if_neg n0]
    obtain ⟨a, b, d⟩ := yr_sim h (by omega) ps.toNatClampNeg pn.toNatClampNeg
    have hZ : Z 0 = Sn x := h.1.1
    have e1 : (yrM Z ps.toNatClampNeg pn.toNatClampNeg).2 59 = So (yrs x ps.toNatClampNeg pn.toNatClampNeg).2 := a.1.2.2.2.2.1
    have e2 : orN (Z 0) (fun k => (yrM Z ps.toNatClampNeg pn.toNatClampNeg).2 (100 + k)) = seenF (yrs x ps.toNatClampNeg pn.toNatClampNeg).2 := by
      unfold seenF
      rw [hZ, d]
      refine orN_congr (fun k hk => ?_)
      exact (a.1.2.2.2.2.2 k (by rw [a.1.1, d]; exact hk)).2.2.2.2
    rw [e1, e2]
