/-! ===== rows of both; fits ===== -/
/-- the rows' lanes and lengths of both sides -/
def RowR (mf : Nat → Int32) (lf : Nat → Nat) (la : Nat → Int32) (le : Nat → Nat) : Prop := ∀ r, r < 8 → lf r ≤ 2 ∧ le r ≤ 40 ∧ ((la r = -1 ∧ mf r = -1) ∨ (la r = nI (lf r) ∧ mf r = nI (le r)))
theorem ag_m1 (i n : Int32) : agN (-1) i n = 1 := by
  unfold agN
  rw [if_neg (by decide)]
theorem ag_nat {L : Nat} (hL : L ≤ 40) (i n : Int32) : agN (nI L) i n = if reB (nI L) i n = true then 0 else 2 := by
  unfold agN
  rw [if_pos (nI_pos' (by omega))]
  by_cases h1 : i < 0
  · rw [if_pos h1, reB_1 h1]; rfl
  · rw [if_neg h1]
    by_cases h2 : n < 0
    · rw [if_pos h2, reB_2 h2]; rfl
    · rw [if_neg h2]
      have a1 := Int32.not_lt.mp h1
      have a2 := Int32.not_lt.mp h2
      rw [Int32.le_iff_toInt_le, Int32.toInt_zero] at a1 a2
      have b1 := i.toInt_lt
      have b2 := n.toInt_lt
      have eL : (nI L).toInt = L := nI_toInt (by omega)
      have e : (i.toInt64 + n.toInt64 ≤ (nI L).toInt64) ↔ (i.toInt + n.toInt ≤ L) := by
        rw [Int64.le_iff_toInt_le, Int64.toInt_add, Int32.toInt_toInt64, Int32.toInt_toInt64, Int32.toInt_toInt64, eL, Int.bmod_eq_of_le (by omega) (by omega)]
      have r : reB (nI L) i n = true ↔ (i.toInt + n.toInt ≤ L) := by
        by_cases h3 : nI L < n
        · rw [reB_3 h3]
          rw [Int32.lt_iff_toInt_lt, eL] at h3
          constructor
          · intro q; cases q
          · intro q; omega
        · have h3' := Int32.not_lt.mp h3
          rw [Int32.le_iff_toInt_le, eL] at h3'
          have es : (nI L - n).toInt = L - n.toInt := by
            rw [Int32.toInt_sub, eL, Int.bmod_eq_of_le (by omega) (by omega)]
          by_cases h4 : nI L - n < i
          · rw [reB_4 h4]
            rw [Int32.lt_iff_toInt_lt, es] at h4
            constructor
            · intro q; cases q
            · intro q; omega
          · have h4' := Int32.not_lt.mp h4
            rw [Int32.le_iff_toInt_le, es] at h4'
            constructor
            · intro _; omega
            · intro _; exact reB_t h1 h2 h3 h4
      by_cases q : i.toInt + n.toInt ≤ L
      · rw [if_pos (e.mpr q), if_pos (r.mpr q)]
      · rw [if_neg (fun h => q (e.mp h)), if_neg (fun h => q (r.mp h))]
theorem row_case {mf la : Nat → Int32} {lf le : Nat → Nat} (h : RowR mf lf la le) {r : Nat} (hr : r < 8) (i n : Int32) : (la r = -1 ∧ agN (mf r) i n = 1) ∨ (¬ la r = -1 ∧ mf r = nI (le r) ∧ la r = nI (lf r) ∧ agN (mf r) i n = if reB (nI (le r)) i n = true then 0 else 2) := by
  obtain ⟨a, b, c⟩ := h r hr
  rcases c with ⟨c1, c2⟩ | ⟨c1, c2⟩
  · exact Or.inl ⟨c1, by rw [c2]; exact ag_m1 i n⟩
  · refine Or.inr ⟨by rw [c1]; exact nI_ne1 (by omega), c2, c1, by rw [c2]; exact ag_nat b i n⟩
/-! fits -/
theorem supp_e {V : Nat → Nat} {k h v : Nat} (hk : k < 10) (hn : V 55 ≤ 10) (hh : h ≤ 3) : Eqv (sg (upN V (55 + fpl k h) v) 55) (suppF (sg V 55) k h v) := by
  have hc : h = 0 ∨ h = 1 ∨ h = 2 ∨ h = 3 := by omega
  have up : ∀ b i j, i < 10 → upN V (55 + (b + j)) v (55 + b + i) = upN (fun q => V (55 + b + q)) j v i := fun b i j hi => by
    by_cases q : i = j
    · subst q; rw [← Nat.add_assoc, upN_s, upN_s]
    · rw [upN_n (by omega), upN_n q]
  rcases hc with c | c | c | c <;> subst c
  · refine ⟨upN_n (by show _ ≠ 55 + (5 + k); omega), upN_n (by show _ ≠ 55 + (5 + k); omega), upN_n (by show _ ≠ 55 + (5 + k); omega), upN_n (by show _ ≠ 55 + (5 + k); omega), upN_n (by show _ ≠ 55 + (5 + k); omega), fun i hi => ?_⟩
    have hi : i < 10 := by rw [show Sn (sg (upN V (55 + fpl k 0) v) 55) = V 55 from upN_n (by show _ ≠ 55 + (5 + k); omega)] at hi; omega
    exact ⟨up 5 i k hi, upN_n (by show _ ≠ 55 + (5 + k); omega), upN_n (by show _ ≠ 55 + (5 + k); omega), upN_n (by show _ ≠ 55 + (5 + k); omega), upN_n (by show _ ≠ 55 + (5 + k); omega)⟩
  · refine ⟨upN_n (by show _ ≠ 55 + (25 + k); omega), upN_n (by show _ ≠ 55 + (25 + k); omega), upN_n (by show _ ≠ 55 + (25 + k); omega), upN_n (by show _ ≠ 55 + (25 + k); omega), upN_n (by show _ ≠ 55 + (25 + k); omega), fun i hi => ?_⟩
    have hi : i < 10 := by rw [show Sn (sg (upN V (55 + fpl k 1) v) 55) = V 55 from upN_n (by show _ ≠ 55 + (25 + k); omega)] at hi; omega
    exact ⟨upN_n (by show _ ≠ 55 + (25 + k); omega), upN_n (by show _ ≠ 55 + (25 + k); omega), up 25 i k hi, upN_n (by show _ ≠ 55 + (25 + k); omega), upN_n (by show _ ≠ 55 + (25 + k); omega)⟩
  · refine ⟨upN_n (by show _ ≠ 55 + (35 + k); omega), upN_n (by show _ ≠ 55 + (35 + k); omega), upN_n (by show _ ≠ 55 + (35 + k); omega), upN_n (by show _ ≠ 55 + (35 + k); omega), upN_n (by show _ ≠ 55 + (35 + k); omega), fun i hi => ?_⟩
    have hi : i < 10 := by rw [show Sn (sg (upN V (55 + fpl k 2) v) 55) = V 55 from upN_n (by show _ ≠ 55 + (35 + k); omega)] at hi; omega
    exact ⟨upN_n (by show _ ≠ 55 + (35 + k); omega), upN_n (by show _ ≠ 55 + (35 + k); omega), upN_n (by show _ ≠ 55 + (35 + k); omega), up 35 i k hi, upN_n (by show _ ≠ 55 + (35 + k); omega)⟩
  · exact ⟨upN_n (x := v) (show 55 + 0 ≠ 55 + 1 by decide), (show upN V (55 + 1) v (55 + 1) = v from upN_s), upN_n (x := v) (show 55 + 2 ≠ 55 + 1 by decide), upN_n (x := v) (show 55 + 3 ≠ 55 + 1 by decide), upN_n (x := v) (show 55 + 4 ≠ 55 + 1 by decide), fun i _ => ⟨upN_n (by show _ ≠ 55 + 1; omega), upN_n (by show _ ≠ 55 + 1; omega), upN_n (by show _ ≠ 55 + 1; omega), upN_n (by show _ ≠ 55 + 1; omega), upN_n (by show _ ≠ 55 + 1; omega)⟩⟩
theorem supp_c {x y : Sg} (h : Eqv x y) (k wh v : Nat) : Eqv (suppF x k wh v) (suppF y k wh v) := by
  obtain ⟨a, b, c, d, e, f⟩ := h
  unfold suppF
  split
  · exact ⟨a, b, c, d, e, fun i hi => ⟨up_eq (n := Sn x) (fun i hi => (f i hi).1) i hi, (f i hi).2.1, (f i hi).2.2.1, (f i hi).2.2.2.1, (f i hi).2.2.2.2⟩⟩
  · split
    · exact ⟨a, b, c, d, e, fun i hi => ⟨(f i hi).1, (f i hi).2.1, up_eq (n := Sn x) (fun i hi => (f i hi).2.2.1) i hi, (f i hi).2.2.2.1, (f i hi).2.2.2.2⟩⟩
    · split
      · exact ⟨a, b, c, d, e, fun i hi => ⟨(f i hi).1, (f i hi).2.1, (f i hi).2.2.1, up_eq (n := Sn x) (fun i hi => (f i hi).2.2.2.1) i hi, (f i hi).2.2.2.2⟩⟩
      · exact ⟨a, rfl, c, d, e, f⟩
theorem Ok.supp {x : Sg} (h : Ok x) {k : Nat} (hk : k < Sn x) {wh v : Nat} (hv : v < 1024) (h0 : wh = 0 → 1 ≤ v ∧ v ≤ 5) : Ok (suppF x k wh v) ∧ Sn (suppF x k wh v) = Sn x := by
  have hn := h.1.1
  refine ⟨⟨h.1.supp (by omega) wh hv, ?_, ?_⟩, ?_⟩
  · unfold suppF
    split
    · rename_i q
      intro i hi
      show 1 ≤ upN (SK x) k v i ∧ upN (SK x) k v i ≤ 5
      unfold upN
      split
      · exact h0 q
      · exact h.2.1 i hi
    · split
      · exact h.2.1
      · split <;> exact h.2.1
  · unfold suppF
    split
    · exact h.2.2
    · split
      · exact h.2.2
      · split <;> exact h.2.2
  · unfold suppF
    split
    · rfl
    · split
      · rfl
      · split <;> rfl
theorem turnP_e (x : Sg) (p : Nat) : ∀ i, Sn (turnP x p i) = Sn x
  | 0 => rfl
  | i + 1 => by
    have e : ∀ y : Sg, Sn (turnU y p) = Sn y := fun y => by unfold turnU closeF; split <;> rfl
    exact (e _).trans (turnP_e x p i)
theorem fit_eq {Z : Nat → Nat} {x : Sg} (h : Sim Z 0 x) {k : Nat} (hk : k < Sn x) {wh v : Nat} (hwh : wh ≤ 3) (hv : v < 1024) (h0 : wh = 0 → 1 ≤ v ∧ v ≤ 5) {tf g : Nat → Int32} {fr i n : Nat} (hg : ∀ t, t < n → g (i + t) = tf (fr + t)) : soB (upN (cpW Z 0 55) (55 + fpl k wh) v) k tf fr n = fitP x k g i n wh v := by
  have hn := h.2.2.1.1
  have s := h.copy 55
  obtain ⟨ok1, en⟩ := h.2.2.supp hk (wh := wh) hv h0
  have ev := (supp_e (V := cpW Z 0 55) (v := v) (show k < 10 by omega) (by rw [show cpW Z 0 55 55 = Sn x from s.1.1]; exact hn) hwh).trans (supp_c s.1 k wh v)
  have hw : Wf (sg (upN (cpW Z 0 55) (55 + fpl k wh) v) 55) := fit_wf s.2.1.1 (by
    unfold fpl
    split
    · exact Or.inr (Or.inl (by omega))
    · split
      · exact Or.inr (Or.inr (by omega))
      · split
        · exact Or.inr (Or.inr (by omega))
        · exact Or.inl rfl) hv
  have sm : Sim (upN (cpW Z 0 55) (55 + fpl k wh) v) 55 (suppF x k wh v) := ⟨ev, ok1.eqv ev.symm hw, ok1⟩
  obtain ⟨cl, ck⟩ := touch_closed (x := suppF x k wh v) (by rw [en]; exact hn) (w := k) (by rw [en]; exact hk)
  unfold soB fitP toldB
  have : fstN n (fun q => !soP (upN (cpW Z 0 55) (55 + fpl k wh) v) k tf fr q) = fstN n (fun t => !toldP (suppF x k wh v) (touchF (suppF x k wh v) k) k g i t) := by
    refine fstN_congr (fun t ht => ?_)
    congr 1
    unfold soP toldP
    have e1 : goW (upN (cpW Z 0 55) (55 + fpl k wh) v) (t + 1) 59 = So (turnN (suppF x k wh v) (t + 1)) := (sm.goes (t + 1)).1.2.2.2.2.1
    have ag := ((Ag.self ok1.2.2 (touchF (suppF x k wh v) k)).turns cl (t + 1)).1
    have e2 := ((ag.2.2.2.2.2 k (by rw [turnP_e, en]; exact hk)).2 ck).2.2
    rw [e1, ← e2, hg t ht]
    exact decide_eq_decide.mpr eq_comm
  rw [this]
theorem fitL_eq {Z : Nat → Nat} {x : Sg} (h : Sim Z 0 x) {k : Nat} (hk : k < Sn x) {wh : Nat} (hwh : wh ≤ 3) {tf g : Nat → Int32} {fr i n : Nat} (hg : ∀ t, t < n → g (i + t) = tf (fr + t)) : ∀ z, z ≤ fitHi wh + 1 - fitLo wh → ftL Z k tf fr n (fpl k wh) (fitLo wh) z = fitL x k g i n wh z
  | 0 => fun _ => rfl
  | z + 1 => fun hz => by
    have hb : fitHi wh ≤ 24 ∧ (wh = 0 → fitLo wh = 1 ∧ fitHi wh = 5) := by
      have hc : wh = 0 ∨ wh = 1 ∨ wh = 2 ∨ wh = 3 := by omega
      rcases hc with c | c | c | c <;> subst c <;> exact ⟨by decide, fun q => by first | exact ⟨rfl, rfl⟩ | cases q⟩
    rw [ftL, fitL, fitL_eq h hk hwh hg z (by omega), fit_eq h hk hwh (v := fitLo wh + z) (by omega) (fun q => by have := hb.2 q; omega) hg]
    split
    · rfl
    · rw [Nat.or_zero]
theorem fits_ans {Z : Nat → Nat} {x : Sg} (h : Sim Z 0 x) {mf la : Nat → Int32} {lf le : Nat → Nat} (hr : RowR mf lf la le) {gf : Nat → Nat → Int32} {tf : Nat → Int32} (hi : ∀ r j, r < 8 → j < 40 → gf r j = tf (40 * r + j)) (pk pr pi pn ph : Int32) (su : Nat) : fitsM Z mf tf pk pr pi pn ph = fitsR x la le gf pk pr pi pn ph ∧ fitsS Z mf pk pr pi pn ph su = fitsI x la le pk pr pi pn ph su := by
  unfold fitsM fitsR fitsS fitsI
  rw [h.1.1]
  by_cases q : (inW pk (Sn x) && inI pr (nI 0) (nI 7) && inI pn (nI 1) (nI 12) && inI ph (nI 0) (nI 3)) = true
  · rw [if_pos q, if_pos q, if_pos q, if_pos q]
    rw [Bool.and_eq_true, Bool.and_eq_true, Bool.and_eq_true] at q
    obtain ⟨⟨⟨q1, q2⟩, q3⟩, q4⟩ := q
    have hk := inW_at h.2.2.1.1 q1
    obtain ⟨r, er, -, lr⟩ := inI_t (by decide) q2 (by decide)
    obtain ⟨n, en, -, ln⟩ := inI_t (by decide) q3 (by decide)
    obtain ⟨wh, eh, -, lh⟩ := inI_t (by decide) q4 (by decide)
    have cr : pr.toNatClampNeg = r := by rw [er]; exact nI_clamp (by omega)
    have cn : pn.toNatClampNeg = n := by rw [en]; exact nI_clamp (by omega)
    have ch : ph.toNatClampNeg = wh := by rw [eh]; exact nI_clamp (by omega)
    rw [cr, cn, ch]
    rcases row_case hr (show r < 8 by omega) pi pn with ⟨a, b⟩ | ⟨a, b, c, d⟩
    · rw [b, if_neg (by decide), if_pos a, if_pos a]
      exact ⟨rfl, rfl⟩
    · rw [d, if_neg a, if_neg a]
      by_cases z : reB (nI (le r)) pi pn = true
      · rw [if_pos z, if_pos rfl, if_pos z]
        refine ⟨congrArg nI ?_, rfl⟩
        rw [en] at z
        obtain ⟨i, ei, li⟩ := reB_nat (hr r (by omega)).2.1 (by omega) z
        have l40 := (hr r (by omega)).2.1
        have ci : pi.toNatClampNeg = i := by rw [ei]; exact nI_clamp (by omega)
        rw [ci]
        unfold fitF
        refine fitL_eq h hk lh (fun t ht => ?_) _ (Nat.le_refl _)
        rw [hi r (i + t) (by omega) (by omega), Nat.add_assoc]
      · rw [if_neg z, if_neg (by decide), if_neg z]
        exact ⟨rfl, rfl⟩
  · rw [if_neg q, if_neg q, if_neg q, if_neg q]
    exact ⟨rfl, rfl⟩
