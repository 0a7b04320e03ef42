/-! ===== streets of both, call by call ===== -/
def GoodE (x : Sg) : Prop := (Sn x = 0 ∧ Se x = 0 ∧ St x = 0) ∨ Good x
/-- the street now, the acts that can be undone, the images, of both -/
def SZ (Z : Nat → Nat) (x : Sg) (ud nx kp : Nat) (rs im : Nat → Sg) : Prop := Sim Z 0 x ∧ GoodE x ∧ RingR Z ud nx kp rs ∧ ∀ k, k < 2 → Sim Z (110 + 55 * k) (im k) ∧ GoodE (im k)
theorem GoodE.n {x : Sg} (h : GoodE x) : Sn x = 0 ∨ Good x := h.imp (fun q => q.1) id
theorem GoodE.t {x : Sg} (h : GoodE x) : St x ≤ 9999 := by
  rcases h with h | h
  · rw [h.2.2]; exact Nat.zero_le _
  · exact h.1
theorem GoodE.e {x : Sg} (h : GoodE x) (h0 : 0 < Sn x) : 0 < Se x := by
  rcases h with h | h
  · have := h.1; omega
  · have := h.2.1; omega
theorem GoodE.g {x : Sg} (h : GoodE x) (h0 : ¬ Sn x = 0) : Good x := h.n.resolve_left h0
theorem GoodE.h9 {x : Sg} (h : GoodE x) : ∀ k, k < Sn x → SG x k ≤ 9 := fun k hk => by
  rcases h with h | h
  · have := h.1; omega
  · exact h.2.2.2 k hk
theorem SZ.same {V Z : Nat → Nat} {x : Sg} {ud nx kp : Nat} {rs im : Nat → Sg} (h : SZ Z x ud nx kp rs im) (e : ∀ j, (j < 55 ∨ (110 ≤ j ∧ j < 220) ∨ 275 ≤ j) → V j = Z j) : SZ V x ud nx kp rs im := ⟨h.1.same (fun k hk => e _ (by omega)), h.2.1, h.2.2.1.same (fun j hj => e j (by omega)), fun k hk => ⟨(h.2.2.2 k hk).1.same (fun i hi => e _ (by omega)), (h.2.2.2 k hk).2⟩⟩
theorem SZ.mx {Z z : Nat → Nat} {x : Sg} {ud nx kp : Nat} {rs im : Nat → Sg} (h : SZ Z x ud nx kp rs im) : SZ (mx Z z) x ud nx kp rs im := h.same (fun j hj => by
  unfold Jvm.Pilot.CAdventStreetsLaw_law_r6393_05b98b.mx
  rw [if_neg (by omega)])
theorem SZ.mr {Z z : Nat → Nat} {x : Sg} {ud nx kp : Nat} {rs im : Nat → Sg} (h : SZ Z x ud nx kp rs im) : SZ (mrW Z z) x ud nx kp rs im := h.same (fun j hj => by
  unfold mrW
  rw [if_neg (by omega)])
/-- what the contracts ask -/
theorem SZ.fx {Z : Nat → Nat} {x : Sg} {ud nx kp : Nat} {rs im : Nat → Sg} (h : SZ Z x ud nx kp rs im) : Wk x ∧ St x + 61 < 1073741824 ∧ Wf (sg Z 0) ∧ (0 < Z 0 → 0 < Z 1) ∧ Z 3 < 1073740000 ∧ nx < 24 ∧ kp ≤ 24 ∧ ud ≤ 24 ∧ (∀ k, k < Sn x → 1 ≤ SK x k ∧ SK x k ≤ 5) ∧ (∀ k, k < Z 0 → 1 ≤ Z (5 + k) ∧ Z (5 + k) ≤ 5) ∧ (Sn (im 0) ≤ 10 ∧ Sn (im 1) ≤ 10) ∧ (∀ k, k < 2 → Z (110 + 55 * k) ≤ 10) ∧ (Sn x = 0 ∨ 2 ≤ Sn x) := by
  obtain ⟨⟨e, o, w⟩, g, r, m⟩ := h
  have t := g.t
  have e0 : Z 0 = Sn x := e.1
  have e1 : Z 1 = Se x := e.2.1
  have e3 : Z 3 = St x := e.2.2.2.1
  refine ⟨w.1, by omega, o.1, fun q => by rw [e1]; exact g.e (by omega), by omega, r.2.2.1, by rw [r.1]; exact r.2.1, r.2.1, w.2.1, fun k hk => ?_, ⟨(m 0 (by decide)).1.2.2.1.1, (m 1 (by decide)).1.2.2.1.1⟩, fun k hk => (m k hk).1.2.1.1.1, g.n.imp id (fun q => q.2.2.1)⟩
  have := o.2.1 k hk
  rw [sgK] at this
  exact this
theorem SZ.tried {Z : Nat → Nat} {x : Sg} {ud nx kp : Nat} {rs im : Nat → Sg} (h : SZ Z x ud nx kp rs im) (b : Bool) (n : Nat) : SZ (if b = true then goW (cpW Z 0 55) n else Z) x ud nx kp rs im := by
  split
  · exact h.same (fun j hj => by rw [goW_o (try_ok h.1.2.1.1).1 (by omega), cpW_o (by omega)])
  · exact h
theorem yr_out {Z : Nat → Nat} {x : Sg} (h : Sim Z 0 x) (h0 : 0 < Sn x) (sd : Nat) {j : Nat} (hj : j < 55 ∨ 110 ≤ j) : ∀ i, (yrM Z sd i).2 j = Z j
  | 0 => cpW_o (by omega)
  | i + 1 => by
    obtain ⟨a, b, d⟩ := yr_sim h h0 sd i
    have hn : (yrM Z sd i).2 55 = Sn x := a.1.1.trans d
    have hZ : Z 0 = Sn x := h.1.1
    have hm := Nat.mod_lt ((yrM Z sd i).1 * 16807 % 2147483647) h0
    have h10 := h.2.2.1.1
    rw [yrM_2, hZ]
    have k : ∀ q, (q < 59 ∨ 110 ≤ q) → dwW (yrM Z sd i).2 ((yrM Z sd i).1 * 16807 % 2147483647) (Sn x) q = (yrM Z sd i).2 q := (dw_ok a.2.1.1 h0 h10).2
    rw [passW_o (by rw [k 55 (by omega), hn]; exact h10) (by omega), k j (by omega)]
    exact yr_out h h0 sd hj i
theorem SZ.drawn {Z : Nat → Nat} {x : Sg} {ud nx kp : Nat} {rs im : Nat → Sg} (h : SZ Z x ud nx kp rs im) (b : Bool) (sd n : Nat) : SZ (if (!decide (Sn (sg Z 0) = 0) && b) = true then (yrM Z sd n).2 else Z) x ud nx kp rs im := by
  split
  · rename_i q
    rw [Bool.and_eq_true] at q
    have h0 : ¬ Sn (sg Z 0) = 0 := by simpa using q.1
    have h0 : ¬ Sn x = 0 := by rw [← h.1.1.1]; exact h0
    exact h.same (fun j hj => yr_out h.1 (by omega) sd (by omega) n)
  · exact h
/-- an act of both -/
theorem SZ.act {Z V : Nat → Nat} {x z : Sg} {ud nx kp : Nat} {rs im : Nat → Sg} (h : SZ Z x ud nx kp rs im) {b : Bool} (hV : b = true → 0 < Sn x ∧ Sim V 0 z ∧ Good z ∧ ∀ j, 110 ≤ j → V j = mdW Z ud j) : SZ (if b = true then V else Z) (actX b x z) (if b = true then mdU ud else ud) (actQ b (nx, kp, rs) x).1 (actQ b (nx, kp, rs) x).2.1 (actQ b (nx, kp, rs) x).2.2 im := by
  unfold actX actQ
  by_cases q : b = true
  · rw [if_pos q, if_pos q, if_pos q, if_pos q]
    obtain ⟨h0, s, g, o⟩ := hV q
    have m := h.2.2.1.mind h.1 (h.2.1.g (by omega))
    exact ⟨s, Or.inr g, m.same (fun j hj => o j (by omega)), fun k hk => ⟨(h.2.2.2 k hk).1.same (fun i hi => by rw [o _ (by omega), mdW_o (by omega)]), (h.2.2.2 k hk).2⟩⟩
  · rw [if_neg q, if_neg q, if_neg q, if_neg q]
    exact h
theorem SZ.opnA {Z : Nat → Nat} {x : Sg} {ud nx kp : Nat} {rs im : Nat → Sg} (h : SZ Z x ud nx kp rs im) (pk : Int32) : SZ (if opnB (sg Z 0) pk = true then upN (mdW Z ud) 4 (Z 4 ||| 2 ^ pk.toNatClampNeg) else Z) (actX (opnB x pk) x (opnX x pk)) (if opnB (sg Z 0) pk = true then mdU ud else ud) (actQ (opnB x pk) (nx, kp, rs) x).1 (actQ (opnB x pk) (nx, kp, rs) x).2.1 (actQ (opnB x pk) (nx, kp, rs) x).2.2 im := by
  rw [(opn_ans h.1.1 h.1.2.1.1.1 pk).2]
  refine h.act (fun q => ?_)
  unfold opnB at q
  rw [Bool.and_eq_true] at q
  have hk := inW_at h.1.2.2.1.1 q.1
  have g := h.2.1.g (by omega)
  have e4 : Z 4 = So x := h.1.1.2.2.2.2.1
  rw [e4]
  exact ⟨by omega, (h.1.md ud).o (r := 0) (Nat.or_lt_two_pow h.1.2.2.2.2 (Nat.pow_lt_pow_right (by decide) hk)), ⟨g.1, g.2.1, g.2.2.1, g.2.2.2⟩, fun j hj => upN_n (by omega)⟩
theorem SZ.press {Z : Nat → Nat} {x : Sg} {ud nx kp : Nat} {rs im : Nat → Sg} (h : SZ Z x ud nx kp rs im) (pk : Int32) : SZ (if prsB (sg Z 0) pk = true then upN (mdW Z ud) 4 (andn (Z 4) (2 ^ pk.toNatClampNeg)) else Z) (actX (prsB x pk) x (prsX x pk)) (if prsB (sg Z 0) pk = true then mdU ud else ud) (actQ (prsB x pk) (nx, kp, rs) x).1 (actQ (prsB x pk) (nx, kp, rs) x).2.1 (actQ (prsB x pk) (nx, kp, rs) x).2.2 im := by
  rw [(prs_ans h.1.1 h.1.2.1.1.1 pk).2]
  refine h.act (fun q => ?_)
  unfold prsB at q
  rw [Bool.and_eq_true] at q
  have hk := inW_at h.1.2.2.1.1 q.1
  have g := h.2.1.g (by omega)
  have e4 : Z 4 = So x := h.1.1.2.2.2.2.1
  rw [e4]
  exact ⟨by omega, (h.1.md ud).o (r := 0) (Nat.lt_of_le_of_lt (andn_le _ _) h.1.2.2.2.2), ⟨g.1, g.2.1, g.2.2.1, g.2.2.2⟩, fun j hj => upN_n (by omega)⟩
theorem SZ.glue {Z : Nat → Nat} {x : Sg} {ud nx kp : Nat} {rs im : Nat → Sg} (h : SZ Z x ud nx kp rs im) (pk pn : Int32) : SZ (if gluB (sg Z 0) pk pn = true then upN (mdW Z ud) (35 + pk.toNatClampNeg) (min 9 (Z (35 + pk.toNatClampNeg) + pn.toNatClampNeg)) else Z) (actX (gluB x pk pn) x (gluX x pk pn)) (if gluB (sg Z 0) pk pn = true then mdU ud else ud) (actQ (gluB x pk pn) (nx, kp, rs) x).1 (actQ (gluB x pk pn) (nx, kp, rs) x).2.1 (actQ (gluB x pk pn) (nx, kp, rs) x).2.2 im := by
  rw [(glu_ans h.1.1 h.1.2.1.1.1 pk pn).2]
  refine h.act (fun q => ?_)
  unfold gluB at q
  rw [Bool.and_eq_true] at q
  have h10 := h.1.2.2.1.1
  have hk := inW_at h10 q.1
  have g := h.2.1.g (by omega)
  have eg : Z (35 + pk.toNatClampNeg) = SG x pk.toNatClampNeg := by
    have := (h.1.1.2.2.2.2.2 pk.toNatClampNeg (by rw [h.1.1.1]; exact hk)).2.2.2.1
    rw [sgG] at this
    exact this
  have s := (h.1.md ud).g (r := 0) (k := pk.toNatClampNeg) (v := min 9 (SG x pk.toNatClampNeg + pn.toNatClampNeg)) (by omega) (by omega)
  rw [show 0 + 35 + pk.toNatClampNeg = 35 + pk.toNatClampNeg by omega] at s
  rw [eg]
  refine ⟨by omega, s, ⟨g.1, g.2.1, g.2.2.1, fun k hk9 => ?_⟩, fun j hj => upN_n (by omega)⟩
  show upN (SG x) pk.toNatClampNeg (min 9 (SG x pk.toNatClampNeg + pn.toNatClampNeg)) k ≤ 9
  unfold upN
  split
  · omega
  · exact g.2.2.2 k hk9
theorem SZ.trade {Z : Nat → Nat} {x : Sg} {ud nx kp : Nat} {rs im : Nat → Sg} (h : SZ Z x ud nx kp rs im) (pk po : Int32) : SZ (if trdB (sg Z 0) pk po = true then swW (mdW Z ud) 0 pk.toNatClampNeg po.toNatClampNeg else Z) (actX (trdB x pk po) x (trdX x pk po)) (if trdB (sg Z 0) pk po = true then mdU ud else ud) (actQ (trdB x pk po) (nx, kp, rs) x).1 (actQ (trdB x pk po) (nx, kp, rs) x).2.1 (actQ (trdB x pk po) (nx, kp, rs) x).2.2 im := by
  rw [(trd_ans h.1.1 h.1.2.1.1.1 pk po).2]
  refine h.act (fun q => ?_)
  unfold trdB at q
  rw [Bool.and_eq_true, Bool.and_eq_true] at q
  have h10 := h.1.2.2.1.1
  have hk := inW_at h10 q.1.1
  have ho := inW_at h10 q.1.2
  have g := h.2.1.g (by omega)
  exact ⟨by omega, (h.1.md ud).swap hk ho, ⟨g.1, g.2.1, g.2.2.1, g.2.2.2⟩, fun j hj => sw_o (by omega) (by omega) (by omega)⟩
theorem SZ.sight {Z : Nat → Nat} {x : Sg} {ud nx kp : Nat} {rs im : Nat → Sg} (h : SZ Z x ud nx kp rs im) (pn : Int32) : SZ (if sgtB (sg Z 0) pn = true then upN (mdW Z ud) 2 pn.toNatClampNeg else Z) (actX (sgtB x pn) x (sgtX x pn)) (if sgtB (sg Z 0) pn = true then mdU ud else ud) (actQ (sgtB x pn) (nx, kp, rs) x).1 (actQ (sgtB x pn) (nx, kp, rs) x).2.1 (actQ (sgtB x pn) (nx, kp, rs) x).2.2 im := by
  rw [(sgt_ans h.1.1 pn).2]
  refine h.act (fun q => ?_)
  unfold sgtB at q
  rw [Bool.and_eq_true] at q
  have h0 : ¬ Sn x = 0 := by simpa using q.1
  have g := h.2.1.g h0
  obtain ⟨v, ev, -, lv⟩ := inI_t (by decide) q.2 (by decide)
  have cv : pn.toNatClampNeg = v := by rw [ev]; exact nI_clamp (by omega)
  exact ⟨by omega, (h.1.md ud).v (r := 0) (by omega), ⟨g.1, g.2.1, g.2.2.1, g.2.2.2⟩, fun j hj => upN_n (by omega)⟩
theorem SZ.times {Z : Nat → Nat} {x : Sg} {ud nx kp : Nat} {rs im : Nat → Sg} (h : SZ Z x ud nx kp rs im) (pn : Int32) : SZ (if timB (sg Z 0) pn = true then (tmM (Z, ud) pn.toNatClampNeg).1 else Z) (timX x pn) (if timB (sg Z 0) pn = true then (tmM (Z, ud) pn.toNatClampNeg).2 else ud) (timQ x pn (nx, kp, rs)).1 (timQ x pn (nx, kp, rs)).2.1 (timQ x pn (nx, kp, rs)).2.2 im := by
  rw [(tim_ans h.1 h.2.2.1 h.2.1.n pn).2]
  unfold timX timQ
  by_cases q : timB x pn = true
  · rw [if_pos q, if_pos q, if_pos q, if_pos q]
    unfold timB at q
    rw [Bool.and_eq_true, Bool.and_eq_true] at q
    have h0 : ¬ Sn x = 0 := by simpa using q.1.1
    have l := of_decide_eq_true q.2
    have g := h.2.1.g h0
    obtain ⟨a, b, d⟩ := Sim.lives h.1 h.2.2.1 g pn.toNatClampNeg l
    obtain ⟨e1, e2, e3⟩ := turnN_e x pn.toNatClampNeg
    exact ⟨a, Or.inr ⟨by omega, by rw [e1]; exact g.2.1, by rw [e3]; exact g.2.2.1, fun k hk => Nat.le_trans (turnN_gle x k _) (g.2.2.2 k (by rw [← e3]; exact hk))⟩, b, fun k hk => ⟨(h.2.2.2 k hk).1.same (fun i hi => d _ (by omega) (by omega)), (h.2.2.2 k hk).2⟩⟩
  · rw [if_neg q, if_neg q, if_neg q, if_neg q]
    exact h
theorem SZ.undo {Z : Nat → Nat} {x : Sg} {ud nx kp : Nat} {rs im : Nat → Sg} (h : SZ Z x ud nx kp rs im) : SZ (if ud = 0 then Z else cpW Z (275 + 55 * (ud - 1)) 0) (tbX rs nx kp x) (ud - 1) (tbN nx kp) (kp - 1) rs im := by
  have ek : kp = ud := h.2.2.1.1
  unfold tbX tbN
  by_cases q : ud = 0
  · rw [if_pos q, if_pos (by omega), if_pos (by omega), show ud - 1 = ud by omega, show kp - 1 = kp by omega]
    exact h
  · rw [if_neg q, if_neg (by omega), if_neg (by omega)]
    obtain ⟨a, b, d⟩ := h.2.2.1.back q
    exact ⟨a, Or.inr b, d, fun k hk => ⟨(h.2.2.2 k hk).1.same (fun i hi => cpW_o (by omega)), (h.2.2.2 k hk).2⟩⟩
theorem in1 {p : Int32} (h : inI p (nI 0) (nI 1) = true) : p.toNatClampNeg < 2 := by
  obtain ⟨r, e, -, l⟩ := inI_t (by decide) h (by decide)
  rw [e, nI_clamp (by omega)]
  omega
theorem SZ.image {Z : Nat → Nat} {x : Sg} {ud nx kp : Nat} {rs im : Nat → Sg} (h : SZ Z x ud nx kp rs im) (pk : Int32) : SZ (if (inI pk (nI 0) (nI 1) && !decide (Sn (sg Z 0) = 0)) = true then cpW Z 0 (110 + 55 * pk.toNatClampNeg) else Z) x ud nx kp rs (imgI im x pk) := by
  unfold imgI
  rw [show Sn (sg Z 0) = Sn x from h.1.1.1]
  by_cases q : (inI pk (nI 0) (nI 1) && !decide (Sn x = 0)) = true
  · rw [if_pos q, if_pos q]
    rw [Bool.and_eq_true] at q
    have h2 := in1 q.1
    generalize pk.toNatClampNeg = k0 at h2 ⊢
    refine ⟨h.1.same (fun i hi => cpW_o (by omega)), h.2.1, h.2.2.1.same (fun j hj => cpW_o (by omega)), fun k hk => ?_⟩
    by_cases e : k = k0
    · subst e
      rw [upS_s]
      exact ⟨h.1.copy _, h.2.1⟩
    · rw [upS_n e]
      exact ⟨(h.2.2.2 k hk).1.same (fun i hi => cpW_o (by omega)), (h.2.2.2 k hk).2⟩
  · rw [if_neg q, if_neg q]
    exact h
theorem rst_ans {Z : Nat → Nat} {x : Sg} {ud nx kp : Nat} {rs im : Nat → Sg} (h : SZ Z x ud nx kp rs im) (pk : Int32) : rstR im pk = rstM Z pk ∧ rstB im pk = (inI pk (nI 0) (nI 1) && !decide (Z (110 + 55 * pk.toNatClampNeg) = 0)) := by
  unfold rstR rstM rstB
  by_cases q : inI pk (nI 0) (nI 1) = true
  · have e : Z (110 + 55 * pk.toNatClampNeg) = Sn (im pk.toNatClampNeg) := (h.2.2.2 _ (in1 q)).1.1.1
    rw [e]
    exact ⟨rfl, rfl⟩
  · rw [if_neg q, if_neg q, Bool.eq_false_iff.mpr q]
    exact ⟨rfl, rfl⟩
theorem RingR.none {Z : Nat → Nat} {nx : Nat} {rs : Nat → Sg} (h : nx < 24) : RingR Z 0 nx 0 rs := ⟨rfl, Nat.zero_le _, h, fun j hj => absurd hj (Nat.not_lt_zero _)⟩
theorem SZ.restore {Z : Nat → Nat} {x : Sg} {ud nx kp : Nat} {rs im : Nat → Sg} (h : SZ Z x ud nx kp rs im) (pk : Int32) : SZ (if (inI pk (nI 0) (nI 1) && !decide (Z (110 + 55 * pk.toNatClampNeg) = 0)) = true then cpW Z (110 + 55 * pk.toNatClampNeg) 0 else Z) (if rstB im pk = true then im pk.toNatClampNeg else x) (if (inI pk (nI 0) (nI 1) && !decide (Z (110 + 55 * pk.toNatClampNeg) = 0)) = true then 0 else ud) nx (if rstB im pk = true then 0 else kp) rs im := by
  rw [← (rst_ans h pk).2]
  by_cases q : rstB im pk = true
  · rw [if_pos q, if_pos q, if_pos q, if_pos q]
    unfold rstB at q
    rw [Bool.and_eq_true] at q
    have h2 := in1 q.1
    obtain ⟨a, b⟩ := h.2.2.2 _ h2
    exact ⟨a.copy 0, b, RingR.none h.2.2.1.2.2.1, fun k hk => ⟨(h.2.2.2 k hk).1.same (fun i hi => cpW_o (by omega)), (h.2.2.2 k hk).2⟩⟩
  · rw [if_neg q, if_neg q, if_neg q, if_neg q]
    exact h
theorem rdA_out {len : Nat} {f Z : Nat → Nat} : ∀ i, i ≤ rdKm len f 0 (rdZ Z) → ofR (rdA len f 0 (rdZ Z) i).2 Z
  | 0 => fun _ => fun j hj => ((mlW_ok len f 0 (rdZ Z)).1 j hj).trans (rdZ_o j hj)
  | i + 1 => fun hi => by
    have := rdK_le (len := len) (f := f) (Z := rdZ Z)
    rw [rdA_s]
    exact mwW_ok (by omega) (rdA_out i (by omega))
theorem SZ.street {Z : Nat → Nat} {x : Sg} {ud nx kp : Nat} {rs im : Nat → Sg} (h : SZ Z x ud nx kp rs im) {len : Nat} {f : Nat → Nat} (hf : ∀ i, i < 130 → f i < 256) (hlen : len ≤ 130) (y : Sg) (z : Nat → Nat) : SZ (if maB len f 0 (rdZ Z) = true then cpW (rdA len f 0 (rdZ Z) (rdKm len f 0 (rdZ Z))).2 220 0 else mrW Z z) (if (rdF len f y).1.2 = 0 then (rdF len f y).2 else x) (if maB len f 0 (rdZ Z) = true then 0 else ud) nx (if (rdF len f y).1.2 = 0 then 0 else kp) rs im := by
  rcases read_both hf hlen Z y with ⟨a, b, s, g⟩ | ⟨a, b, -⟩
  · rw [if_pos a, if_pos b, if_pos a, if_pos b]
    have o := rdA_out (len := len) (f := f) (Z := Z) _ (Nat.le_refl _)
    exact ⟨s, Or.inr g, RingR.none h.2.2.1.2.2.1, fun k hk => ⟨(h.2.2.2 k hk).1.same (fun i hi => by rw [cpW_o (by omega), o _ (by omega)]), (h.2.2.2 k hk).2⟩⟩
  · rw [a, if_neg Bool.false_ne_true, if_neg b, if_neg Bool.false_ne_true, if_neg b]
    exact h.mr
theorem fault_ans {len : Nat} {f : Nat → Nat} (hf : ∀ i, i < 130 → f i < 256) (hlen : len ≤ 130) (Z : Nat → Nat) (y : Sg) (fy : Nat) : (if (rdF len f y).1.2 = 0 then fy else (rdF len f y).1.2) = (if maB len f 0 (rdZ Z) = true then fy else maF len f 0 (rdZ Z)) := by
  rcases read_both hf hlen Z y with ⟨a, b, -, -⟩ | ⟨a, b, d⟩
  · rw [if_pos a, if_pos b]
  · rw [a, if_neg b, if_neg Bool.false_ne_true, d]
theorem count_ans {Z : Nat → Nat} {x : Sg} {ud nx kp : Nat} {rs im : Nat → Sg} (h : SZ Z x ud nx kp rs im) {mf la : Nat → Int32} {lm le : Nat → Nat} (hr : RowR mf lm la le) (td : Nat) (pc : Int32) : countR x la kp td pc = countM Z mf ud td pc := by
  unfold countR countM
  have e0 : Z 0 = Sn x := h.1.1.1
  have e1 : Z 1 = Se x := h.1.1.2.1
  have e2 : Z 2 = Sv x := h.1.1.2.2.1
  have e3 : Z 3 = St x := h.1.1.2.2.2.1
  have e4 : Z 4 = So x := h.1.1.2.2.2.2.1
  have ed : (if 0 < Z 0 then dateF (sg Z 0) else 0) = dateF x := by
    rw [h.1.1.date, e0]
    split
    · rfl
    · unfold dateF
      rcases h.2.1 with g | g
      · rw [if_neg (by omega)]
      · have := g.2.2.1; omega
  rw [ed, e0, e1, e2, e3, e4, pres_eq hr 8 (Nat.le_refl _), h.2.2.1.1]
theorem img_ans {Z : Nat → Nat} {x : Sg} (h : Sim Z 0 x) (pk : Int32) : imgR x pk = imgR (sg Z 0) pk := by
  unfold imgR
  rw [h.1.1]
theorem fed_ok {td : Nat} {bf : Nat → Nat} (h1 : td ≤ 130) (h2 : ∀ i, i < 130 → bf i < 256) (pl : Int32) : (fedT td bf pl).1 ≤ 130 ∧ ∀ i, i < 130 → (fedT td bf pl).2 i < 256 := by
  unfold fedT
  split
  · rename_i q
    obtain ⟨r, e, -, l⟩ := inI_t (by decide) q (by decide)
    rw [e, nI_clamp (by omega)]
    unfold addT
    split
    · refine ⟨by show td + 1 ≤ 130; omega, fun i hi => ?_⟩
      show upN bf td r i < 256
      unfold upN
      split
      · omega
      · exact h2 i hi
    · exact ⟨h1, h2⟩
  · exact ⟨h1, h2⟩
theorem trc_16 {t : Nat × (Nat → Nat)} {v : Nat} (h : t.1 ≤ 16) : (trc t v).1 ≤ 16 := trc_le h
theorem askT_16 {x : Sg} {pk ph : Int32} {t : Nat × (Nat → Nat)} (h : t.1 ≤ 16) : (askT x pk ph t).1 ≤ 16 := by
  unfold askT
  split
  · have key : ∀ (L : List Nat) (t : Nat × (Nat → Nat)), t.1 ≤ 16 → (L.foldl trc t).1 ≤ 16 := by
      intro L
      induction L with
      | nil => intro t ht; exact ht
      | cons a L ih => intro t ht; exact ih _ (trc_16 ht)
    exact key _ _ (Nat.zero_le _)
  · exact h
