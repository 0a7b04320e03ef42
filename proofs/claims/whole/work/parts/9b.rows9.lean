/-! ===== rows of both, call by call ===== -/
/-- rows of both: lanes and lengths, items -/
def RW (mf : Nat → Int32) (lm : Nat → Nat) (it la : Nat → Int32) (le : Nat → Nat) (gf : Nat → Nat → Int32) : Prop := RowR mf lm la le ∧ ∀ r j, r < 8 → j < 40 → gf r j = it (40 * r + j)
theorem in7 {p : Int32} (h : inI p (nI 0) (nI 7) = true) : p.toNatClampNeg < 8 := by
  obtain ⟨r, e, -, l⟩ := inI_t (by decide) h (by decide)
  rw [e, nI_clamp (by omega)]
  omega
theorem updI_s {f : Nat → Int32} {k : Nat} {v : Int32} : upd f k v k = v := pk_us
theorem updI_n {f : Nat → Int32} {k j : Nat} {v : Int32} (h : ¬ j = k) : upd f k v j = f j := pk_un h
theorem rowB_in {pr pl pn : Int32} (h : rowB pr pl pn = true) : pr.toNatClampNeg < 8 ∧ (∃ a, a ≤ 2 ∧ pl = nI a) ∧ ∃ n, n ≤ 40 ∧ pn = nI n := by
  unfold rowB at h
  simp only [Bool.and_eq_true, decide_eq_true_eq] at h
  obtain ⟨⟨⟨h1, h2⟩, h3⟩, h4⟩ := h
  obtain ⟨a, ea, -, la⟩ := inI_t (by decide) h2 (by decide)
  have h5 : inI pn (nI 0) (nI 40) = true := inI_ok (Int32.not_lt.mpr h4) (Int32.not_lt.mpr h3)
  obtain ⟨n, en, -, ln⟩ := inI_t (by decide) h5 (by decide)
  exact ⟨in7 h1, ⟨a, la, ea⟩, ⟨n, ln, en⟩⟩
theorem RW.row {mf it la : Nat → Int32} {lm le : Nat → Nat} {gf : Nat → Nat → Int32} (h : RW mf lm it la le gf) (pr pl pn : Int32) : RW (if rowB pr pl pn = true then upd mf pr.toNatClampNeg pn else mf) (if rowB pr pl pn = true then upN lm pr.toNatClampNeg pl.toNatClampNeg else lm) (if rowB pr pl pn = true then rgI it (40 * pr.toNatClampNeg) 40 (fun _ => nI 0) else it) (if rowB pr pl pn = true then upd la pr.toNatClampNeg pl else la) (if rowB pr pl pn = true then upN le pr.toNatClampNeg pn.toNatClampNeg else le) (if rowB pr pl pn = true then upI gf pr.toNatClampNeg (fun _ => nI 0) else gf) := by
  by_cases q : rowB pr pl pn = true
  rotate_left
  · rw [if_neg q, if_neg q, if_neg q, if_neg q, if_neg q, if_neg q]
    exact h
  rw [if_pos q, if_pos q, if_pos q, if_pos q, if_pos q, if_pos q]
  obtain ⟨h8, ⟨a, la2, rfl⟩, ⟨n, ln, rfl⟩⟩ := rowB_in q
  generalize pr.toNatClampNeg = r0 at h8 ⊢
  rw [nI_clamp (show a < 2 ^ 31 by omega), nI_clamp (show n < 2 ^ 31 by omega)]
  refine ⟨fun r hr => ?_, fun r j hr hj => ?_⟩
  · by_cases e : r = r0
    · subst e
      rw [updI_s, updI_s, upN_s, upN_s]
      exact ⟨la2, ln, Or.inr ⟨rfl, rfl⟩⟩
    · rw [updI_n e, updI_n e, upN_n e, upN_n e]
      exact h.1 r hr
  · by_cases e : r = r0
    · subst e
      rw [upI_s, rgI_in hj]
    · rw [upI_n e, rgI_out (by omega)]
      exact h.2 r j hr hj
theorem nar_eq {v : Int32} {a : Nat} (ha : a ≤ 2) : narr (nI a) v = narM a v := by
  rcases (show a = 0 ∨ a = 1 ∨ a = 2 by omega) with e | e | e <;> subst e <;> rfl
theorem set_ans {mf it la : Nat → Int32} {lm le : Nat → Nat} {gf : Nat → Nat → Int32} (h : RW mf lm it la le gf) (pr pi pv : Int32) (su : Nat) : setR la le pr pi pv = stmR mf lm pr pi pv ∧ setI la le pr pi su = stmI mf pr pi su ∧ setB la le pr pi = stmB mf pr pi := by
  unfold setR stmR setI stmI setB stmB
  by_cases q : inI pr (nI 0) (nI 7) = true
  · rw [if_pos q, if_pos q, if_pos q, if_pos q, q]
    have hr := in7 q
    rcases row_case h.1 hr pi (nI 1) with ⟨a, b⟩ | ⟨a, b, c, d⟩
    · rw [if_pos a, if_pos a, b, a]
      exact ⟨rfl, rfl, rfl⟩
    · have h2 := (h.1 _ hr).1
      rw [if_neg a, if_neg a, d, decide_eq_false a, c]
      by_cases z : reB (nI (le pr.toNatClampNeg)) pi (nI 1) = true
      · rw [if_pos z, if_pos z, if_pos rfl, z]
        exact ⟨nar_eq h2, rfl, rfl⟩
      · rw [if_neg z, if_neg z, if_neg (by decide), Bool.eq_false_iff.mpr z]
        exact ⟨rfl, rfl, rfl⟩
  · rw [if_neg q, if_neg q, if_neg q, if_neg q, Bool.eq_false_iff.mpr q]
    exact ⟨rfl, rfl, rfl⟩
theorem RW.set {mf it la : Nat → Int32} {lm le : Nat → Nat} {gf : Nat → Nat → Int32} (h : RW mf lm it la le gf) (pr pi pv : Int32) : RW mf lm (if stmB mf pr pi = true then upd it (40 * pr.toNatClampNeg + pi.toNatClampNeg) (narM (lm pr.toNatClampNeg) pv) else it) la le (if setB la le pr pi = true then upI gf pr.toNatClampNeg (upd (gf pr.toNatClampNeg) pi.toNatClampNeg (narr (la pr.toNatClampNeg) pv)) else gf) := by
  rw [← (set_ans h pr pi pv 0).2.2]
  by_cases q : setB la le pr pi = true
  rotate_left
  · rw [if_neg q, if_neg q]
    exact h
  rw [if_pos q, if_pos q]
  refine ⟨h.1, fun r j hr hj => ?_⟩
  unfold setB at q
  simp only [Bool.and_eq_true] at q
  obtain ⟨⟨q1, q2⟩, q3⟩ := q
  have h8 := in7 q1
  have nm : ¬ la pr.toNatClampNeg = -1 := by simpa using q2
  obtain ⟨a2, a3, a4⟩ := h.1 _ h8
  obtain ⟨i, ei, li⟩ := reB_nat a3 (by decide) q3
  have el : la pr.toNatClampNeg = nI (lm pr.toNatClampNeg) := by
    rcases a4 with a4 | a4
    · exact absurd a4.1 nm
    · exact a4.1
  rw [el, nar_eq a2, ei, nI_clamp (show i < 2 ^ 31 by omega)]
  generalize pr.toNatClampNeg = r0 at h8 ⊢
  by_cases e : r = r0
  · subst e
    rw [upI_s]
    by_cases e2 : j = i
    · subst e2; rw [updI_s, updI_s]
    · rw [updI_n e2, updI_n (by omega)]
      exact h.2 r j hr hj
  · rw [upI_n e, updI_n (by omega)]
    exact h.2 r j hr hj
theorem neg_lt {n : Nat} (h : n < 2 ^ 31) : ¬ nI n < 0 := by
  have : (0 : Int32) = nI 0 := rfl
  rw [this, nI_ltI h (by decide)]
  omega
theorem row_neg {mf la : Nat → Int32} {lm le : Nat → Nat} (h : RowR mf lm la le) {r : Nat} (hr : r < 8) : (mf r < 0 ↔ la r = -1) ∧ (¬ 0 ≤ mf r ↔ la r = -1) := by
  obtain ⟨a, b, c⟩ := h r hr
  rcases c with ⟨c1, c2⟩ | ⟨c1, c2⟩
  · rw [c1, c2]
    exact ⟨⟨fun _ => rfl, fun _ => by decide⟩, ⟨fun _ => rfl, fun _ => by decide⟩⟩
  · rw [c1, c2]
    have n1 : ¬ nI (lm r) = -1 := nI_ne1 (by omega)
    have n2 : ¬ nI (le r) < 0 := neg_lt (by omega)
    exact ⟨⟨fun q => absurd q n2, fun q => absurd q n1⟩, ⟨fun q => absurd (Int32.not_lt.mp n2) q, fun q => absurd q n1⟩⟩
theorem drop_ans {mf it la : Nat → Int32} {lm le : Nat → Nat} {gf : Nat → Nat → Int32} (h : RW mf lm it la le gf) (pr : Int32) (su : Nat) : drpR la le pr = drmR mf pr ∧ drpI la pr su = drmI mf pr su ∧ drpB la pr = drmB mf pr := by
  unfold drpR drmR drpI drmI drpB drmB
  by_cases q : inI pr (nI 0) (nI 7) = true
  · rw [if_pos q, if_pos q, if_pos q, if_pos q, q]
    have hr := in7 q
    have n := (row_neg h.1 hr).2
    by_cases z : la pr.toNatClampNeg = -1
    · have z2 := n.mpr z
      rw [if_pos z, if_pos z, if_neg z2, if_neg z2, decide_eq_true z, decide_eq_false z2]
      exact ⟨rfl, rfl, rfl⟩
    · have z2 : 0 ≤ mf pr.toNatClampNeg := Classical.byContradiction (fun w => z (n.mp w))
      rw [if_neg z, if_neg z, if_pos z2, if_pos z2, decide_eq_false z, decide_eq_true z2]
      rcases (h.1 _ hr).2.2 with a | a
      · exact absurd a.1 z
      · exact ⟨a.2.symm, rfl, rfl⟩
  · rw [if_neg q, if_neg q, if_neg q, if_neg q, Bool.eq_false_iff.mpr q]
    exact ⟨rfl, rfl, rfl⟩
theorem RW.drop {mf it la : Nat → Int32} {lm le : Nat → Nat} {gf : Nat → Nat → Int32} (h : RW mf lm it la le gf) (pr : Int32) : RW (if drmB mf pr = true then upd mf pr.toNatClampNeg (-1) else mf) lm it (if drpB la pr = true then upd la pr.toNatClampNeg (-1) else la) le gf := by
  rw [← (drop_ans h pr 0).2.2]
  by_cases q : drpB la pr = true
  rotate_left
  · rw [if_neg q, if_neg q]
    exact h
  rw [if_pos q, if_pos q]
  refine ⟨fun r hr => ?_, h.2⟩
  obtain ⟨a, b, c⟩ := h.1 r hr
  by_cases e : r = pr.toNatClampNeg
  · subst e
    rw [updI_s, updI_s]
    exact ⟨a, b, Or.inl ⟨rfl, rfl⟩⟩
  · rw [updI_n e, updI_n e]
    exact ⟨a, b, c⟩
theorem ag_0 {mf la : Nat → Int32} {lm le : Nat → Nat} (h : RowR mf lm la le) {r : Nat} (hr : r < 8) (hn : ¬ la r = -1) (i n : Int32) : agN (mf r) i n = 0 ↔ reB (nI (le r)) i n = true := by
  rcases row_case h hr i n with ⟨a, b⟩ | ⟨a, b, c, d⟩
  · exact absurd a hn
  · rw [d]
    by_cases z : reB (nI (le r)) i n = true
    · rw [if_pos z]; exact ⟨fun _ => z, fun _ => rfl⟩
    · rw [if_neg z]; exact ⟨fun q => (by cases q), fun q => absurd q z⟩
theorem copy_ans {mf it la : Nat → Int32} {lm le : Nat → Nat} {gf : Nat → Nat → Int32} (h : RW mf lm it la le gf) (pa pi pb pj pn : Int32) (su : Nat) : cpyR la le pa pi pb pj pn = cpmR mf lm pa pi pb pj pn ∧ cpyI la le pa pi pb pj pn su = cpmI mf lm pa pi pb pj pn su ∧ cpyB la le pa pi pb pj pn = cpmB mf lm pa pi pb pj pn := by
  unfold cpyR cpmR cpyI cpmI cpyB cpmB
  by_cases q : (inI pa (nI 0) (nI 7) && inI pb (nI 0) (nI 7)) = true
  rotate_left
  · rw [if_neg q, if_neg q, if_neg q, if_neg q, Bool.eq_false_iff.mpr q]
    exact ⟨rfl, rfl, rfl⟩
  rw [if_pos q, if_pos q, if_pos q, if_pos q, q]
  rw [Bool.and_eq_true] at q
  have h1 := in7 q.1
  have h2 := in7 q.2
  generalize pa.toNatClampNeg = a at h1 ⊢
  generalize pb.toNatClampNeg = b at h2 ⊢
  have n1 := (row_neg h.1 h1).1
  have n2 := (row_neg h.1 h2).2
  by_cases z : la a = -1 ∨ la b = -1
  · have z2 : mf a < 0 ∨ ¬ 0 ≤ mf b := z.imp n1.mpr n2.mpr
    rw [if_pos z, if_pos z, if_pos z2, if_pos z2, decide_eq_true z]
    refine ⟨rfl, rfl, ?_⟩
    rw [Bool.not_true, Bool.and_false, Bool.false_and, Bool.false_and, Bool.true_and]
    exact (decide_eq_false (fun w => z2.elim w.1 (fun w2 => w2 w.2.1))).symm
  · have za : ¬ la a = -1 := fun w => z (Or.inl w)
    have zb : ¬ la b = -1 := fun w => z (Or.inr w)
    have z2 : ¬ (mf a < 0 ∨ ¬ 0 ≤ mf b) := fun w => z (w.imp n1.mp n2.mp)
    have z3 : ¬ mf a < 0 := fun w => z2 (Or.inl w)
    have z4 : 0 ≤ mf b := Classical.byContradiction (fun w => z2 (Or.inr w))
    obtain ⟨a1, a2, a3⟩ := h.1 a h1
    obtain ⟨b1, b2, b3⟩ := h.1 b h2
    have ea : la a = nI (lm a) := (a3.resolve_left (fun w => za w.1)).1
    have eb : la b = nI (lm b) := (b3.resolve_left (fun w => zb w.1)).1
    have el : la a = la b ↔ lm a = lm b := by rw [ea, eb]; exact nI_eq (by omega) (by omega)
    have g1 := ag_0 h.1 h1 za pi pn
    have g2 := ag_0 h.1 h2 zb pj pn
    rw [if_neg z, if_neg z, if_neg z2, if_neg z2, decide_eq_false z]
    by_cases y : la a = la b
    · have y2 := el.mp y
      rw [if_neg (not_not_intro y), if_neg (not_not_intro y), if_neg (not_not_intro y2), if_neg (not_not_intro y2), decide_eq_true y]
      by_cases w : (reB (nI (le a)) pi pn && reB (nI (le b)) pj pn) = true
      · have w1 := w
        rw [Bool.and_eq_true] at w1
        have w2 : agN (mf a) pi pn = 0 ∧ agN (mf b) pj pn = 0 := ⟨g1.mpr w1.1, g2.mpr w1.2⟩
        rw [if_pos w, if_pos w, if_pos w2, if_pos w2, w, decide_eq_true ⟨z3, z4, y2, w2.1, w2.2⟩]
        exact ⟨rfl, rfl, rfl⟩
      · have w2 : ¬ (agN (mf a) pi pn = 0 ∧ agN (mf b) pj pn = 0) := fun v => w (by rw [Bool.and_eq_true]; exact ⟨g1.mp v.1, g2.mp v.2⟩)
        rw [if_neg w, if_neg w, if_neg w2, if_neg w2, Bool.eq_false_iff.mpr w, decide_eq_false (fun v => w2 ⟨v.2.2.2.1, v.2.2.2.2⟩)]
        exact ⟨rfl, rfl, rfl⟩
    · have y2 : ¬ lm a = lm b := fun v => y (el.mpr v)
      rw [if_pos y, if_pos y, if_pos y2, if_pos y2, decide_eq_false y, decide_eq_false (fun v => y2 v.2.2.1)]
      exact ⟨rfl, rfl, rfl⟩
theorem RW.copy {mf it la : Nat → Int32} {lm le : Nat → Nat} {gf : Nat → Nat → Int32} (h : RW mf lm it la le gf) (pa pi pb pj pn : Int32) : RW mf lm (if cpmB mf lm pa pi pb pj pn = true then rgI it (40 * pb.toNatClampNeg + pj.toNatClampNeg) pn.toNatClampNeg (fun q9 => it (40 * pa.toNatClampNeg + pi.toNatClampNeg + q9)) else it) la le (if cpyB la le pa pi pb pj pn = true then upI gf pb.toNatClampNeg (va_cpy (gf pa.toNatClampNeg) (gf pb.toNatClampNeg) pi.toNatClampNeg pj.toNatClampNeg pn.toNatClampNeg) else gf) := by
  rw [← (copy_ans h pa pi pb pj pn 0).2.2]
  by_cases q : cpyB la le pa pi pb pj pn = true
  rotate_left
  · rw [if_neg q, if_neg q]
    exact h
  rw [if_pos q, if_pos q]
  refine ⟨h.1, fun r j hr hj => ?_⟩
  unfold cpyB at q
  simp only [Bool.and_eq_true] at q
  obtain ⟨⟨⟨⟨q1, q2⟩, q3⟩, q4⟩, q5, q6⟩ := q
  have h1 := in7 q1
  have h2 := in7 q2
  have la1 := (h.1 _ h1).2.1
  have lb1 := (h.1 _ h2).2.1
  have hn : ∃ n, n ≤ 40 ∧ pn = nI n := by
    unfold reB at q5
    simp only [Bool.and_eq_true, Bool.not_eq_true', decide_eq_false_iff_not] at q5
    obtain ⟨⟨⟨-, u2⟩, u3⟩, -⟩ := q5
    have h5 : inI pn (nI 0) (nI (le pa.toNatClampNeg)) = true := inI_ok u2 u3
    obtain ⟨n, en, -, ln⟩ := inI_t (by omega) h5 (Nat.zero_le _)
    exact ⟨n, by omega, en⟩
  obtain ⟨n, ln, en⟩ := hn
  rw [en] at q5 q6
  obtain ⟨i, ei, li⟩ := reB_nat la1 ln q5
  obtain ⟨k, ek, lk⟩ := reB_nat lb1 ln q6
  rw [en, ei, ek, nI_clamp (show i < 2 ^ 31 by omega), nI_clamp (show k < 2 ^ 31 by omega), nI_clamp (show n < 2 ^ 31 by omega)]
  generalize pa.toNatClampNeg = a at h1 la1 li ⊢
  generalize pb.toNatClampNeg = b at h2 lb1 lk ⊢
  by_cases e : r = b
  · subst e
    rw [upI_s]
    unfold va_cpy
    by_cases z : k ≤ j ∧ j < k + n
    · rw [if_pos z]
      have e2 : rgI it (40 * r + k) n (fun q9 => it (40 * a + i + q9)) (40 * r + j) = it (40 * a + i + (j - k)) := by
        rw [show 40 * r + j = 40 * r + k + (j - k) by omega, rgI_in (by omega)]
      rw [e2, h.2 a (i + (j - k)) h1 (by omega)]
      congr 1
      omega
    · rw [if_neg z, rgI_out (by omega)]
      exact h.2 r j hr hj
  · rw [upI_n e, rgI_out (by omega)]
    exact h.2 r j hr hj
theorem pres_eq {mf la : Nat → Int32} {lm le : Nat → Nat} (h : RowR mf lm la le) : ∀ k, k ≤ 8 → presL la k = presM mf k
  | 0 => fun _ => rfl
  | k + 1 => fun hk => by
    rw [presL, presM, pres_eq h k (by omega)]
    have n := (row_neg h (show k < 8 by omega)).1
    by_cases z : la k = -1
    · rw [if_pos z, if_pos (n.mpr z)]
    · rw [if_neg z, if_neg (fun w => z (n.mp w))]
theorem trace_ans {tl : Nat} (ht : tl ≤ 16) (tf : Nat → Nat) (pi : Int32) : traceR tl tf pi = traceM tl tf pi := by
  unfold traceR traceM
  have : inI pi (nI 0) (nI tl - nI 1) = inW pi tl := by
    rw [Bool.eq_iff_iff]
    constructor
    · intro h
      obtain ⟨k, e, l⟩ := inI_tl ht h
      rw [e]
      exact inW_nat l (by omega)
    · intro h
      obtain ⟨k, e, l⟩ := inW_t (by omega) h
      rw [e, show nI tl - nI 1 = nI (tl - 1) from pk_sub (by omega)]
      exact inI_nat (Nat.zero_le _) (by omega) (by omega)
  rw [this]
