/-! ===== answers of both: shut ===== -/
theorem fstN_all {n : Nat} {p : Nat → Bool} : fstN n p = n ↔ ∀ j, j < n → p j = false := by
  obtain ⟨a, b, d⟩ := fstN_spec n p
  constructor
  · intro e j hj
    exact b j (by omega)
  · intro h
    rcases d with d | d
    · exact d
    · by_cases q : fstN n p = n
      · exact q
      · rw [h _ (by omega)] at d; cases d
theorem glu_tb (x : Sg) (k : Nat) : (gluF x).testBit k = (decide (k < Sn x) && gluP x k) := by unfold gluF; rw [mkb_tb]
theorem fast_sim {Z : Nat → Nat} {x : Sg} (h : Sim Z 0 x) (v : Nat) : Sim (gfW Z v) 55 (fastF x v) := by
  obtain ⟨e, o1, o2⟩ := id h
  have g := gf_ok (v := v) o1.1
  have hn : Z 0 = Sn x := e.1
  have ev : Eqv (sg (gfW Z v) 55) (fastF x v) := by
    have s := (h.copy 55).1
    have lo : ∀ {j}, j < 90 → gfW Z v j = cpW Z 0 55 j := fun {j} hj => rg_out (Or.inl hj)
    refine ⟨(lo (j := 55) (by decide)).trans s.1, (lo (j := 56) (by decide)).trans s.2.1, (lo (j := 57) (by decide)).trans s.2.2.1, (lo (j := 58) (by decide)).trans s.2.2.2.1, (lo (j := 59) (by decide)).trans s.2.2.2.2.1, fun k hk => ?_⟩
    have hk : k < Sn x := by rw [show Sn (sg (gfW Z v) 55) = cpW Z 0 55 55 from lo (j := 55) (by decide), show cpW Z 0 55 55 = Sn x from s.1] at hk; exact hk
    have h10 := o2.1.1
    obtain ⟨f1, f2, f3, f4, f5⟩ := s.2.2.2.2.2 k (by rw [s.1]; exact hk)
    refine ⟨(lo (by omega)).trans f1, (lo (by omega)).trans f2, (lo (by omega)).trans f3, ?_, ?_⟩
    · show gfW Z v (90 + k) = don (Sn x) (fastG x v) (SG x) k
      unfold gfW don fastG
      rw [rg_in (by omega), if_pos hk, (e.2.2.2.2.2 k (by show k < Z 0; omega)).2.2.2.1.symm]
    · show gfW Z v (100 + k) = SS x k
      unfold gfW
      rw [rg_out (by omega)]
      exact f5
  have hd : Ok (fastF x v) := ⟨o2.1.fast v, o2.2.1, o2.2.2⟩
  exact ⟨ev, hd.eqv ev.symm g.1, hd⟩
theorem fast_ag {x : Sg} (ok : Ok x) (h9 : ∀ k, k < Sn x → SG x k ≤ 9) (p v : Nat) : Ag p (fastF x (v &&& (p &&& gluF x))) (fastF x v) := by
  refine ⟨rfl, rfl, rfl, ok.2.2, ok.2.2, fun k hk => ⟨rfl, fun hp => ⟨rfl, fun h3 => ?_, rfl⟩⟩⟩
  have hk : k < Sn x := hk
  have h3 : 3 ≤ SK x k := h3
  show don (Sn x) (fastG x (v &&& (p &&& gluF x))) (SG x) k = don (Sn x) (fastG x v) (SG x) k
  unfold don fastG
  rw [if_pos hk, if_pos hk, Nat.testBit_and, Nat.testBit_and, hp, glu_tb, decide_eq_true hk, Bool.true_and, Bool.true_and]
  cases hv : v.testBit k with
  | false => rfl
  | true =>
    rw [Bool.true_and]
    unfold gluP
    by_cases q : SG x k < 9
    · have c := (ok.2.1 k hk).2
      have : (decide (SK x k = 3) || decide (SK x k = 4) || decide (SK x k = 5)) = true := by
        have c3 : SK x k = 3 ∨ SK x k = 4 ∨ SK x k = 5 := by omega
        rcases c3 with c3 | c3 | c3 <;> rw [c3] <;> rfl
      rw [this, decide_eq_true q]
      rfl
    · rw [decide_eq_false q, Bool.and_false, if_neg Bool.false_ne_true, if_pos rfl]
      have := h9 k hk
      omega
theorem turn_o (y : Sg) : So (turnF y) = if dateF y = Se y then 0 else So y ||| openF y (dateF y) (allF y) := by
  have hL : ∀ z : Sg, So (lookF z) = So z ∧ Se (lookF z) = Se z := fun z => by unfold lookF; split <;> exact ⟨rfl, rfl⟩
  unfold turnF
  obtain ⟨a, b⟩ := hL (wO y (So y ||| openF y (dateF y) (allF y)))
  unfold closeF
  rw [b]
  show So (if dateF y = Se y then _ else _) = _
  split
  · rfl
  · exact a
theorem ss_eq {Z : Nat → Nat} {x : Sg} (h : Sim Z 0 x) (h9 : ∀ k, k < Sn x → SG x k ≤ 9) {k : Nat} (hk : k < Sn x) (hs : (So x).testBit k = false) (n v : Nat) : ssB Z k n v = shutB x k n (v &&& (touchF x k &&& gluF x)) (touchF x k) := by
  obtain ⟨cl, ck⟩ := touch_closed h.2.2.1.1 hk
  have ag := fast_ag h.2.2 h9 (touchF x k) v
  have sm := fast_sim h v
  have nn : ∀ t, Sn (turnN (fastF x v) t) = Sn x := fun t => (turnN_e _ t).2.2
  have bit : ∀ t, (!ssP Z k v t) = (!(So (turnN (fastF x v) t)).testBit k && wouldF (turnN (fastF x v) t) k (dateF (turnN (fastF x v) t))) := fun t => by
    obtain ⟨e, o1, o2⟩ := sm.goes t
    unfold ssP
    rw [Bool.not_not, passO_eq o1.k, e.date, e.all, e.opening, open_tb, nn t, decide_eq_true hk, al_tb9 (by rw [nn t]; exact hk), Bool.true_and, Bool.true_and]
  have wd : ∀ t, openAt (fastF x (v &&& (touchF x k &&& gluF x))) (touchF x k) k t = wouldF (turnN (fastF x v) t) k (dateF (turnN (fastF x v) t)) := fun t => by
    obtain ⟨a, b⟩ := ag.turns cl t
    unfold openAt
    rw [a.date]
    exact a.would b (by rw [turnP_e]; exact hk) ck
  unfold ssB shutB
  refine decide_eq_decide.mpr ?_
  rw [fstN_all, fstN_all]
  constructor
  · intro hh
    have sh : ∀ t, t ≤ n → (So (turnN (fastF x v) t)).testBit k = false := by
      intro t
      induction t with
      | zero => intro _; exact hs
      | succ t ih =>
        intro ht
        have i1 := ih (by omega)
        have i2 := hh t (by omega)
        rw [bit, i1] at i2
        show (So (turnF (turnN (fastF x v) t))).testBit k = false
        rw [turn_o]
        split
        · exact Nat.zero_testBit _
        · rw [Nat.testBit_or, i1, open_tb, i1]
          rw [show wouldF (turnN (fastF x v) t) k (dateF (turnN (fastF x v) t)) = false from i2]
          simp
    intro t ht
    have i1 := sh t (by omega)
    have i2 := hh t ht
    rw [bit, i1] at i2
    rw [wd]
    exact i2
  · intro hh t ht
    have i2 := hh t ht
    rw [wd] at i2
    rw [bit, i2, Bool.and_false]
/-- before in the order: fewer, then the smaller number -/
def Bf (a b : Nat) : Prop := onesN a < onesN b ∨ onesN a = onesN b ∧ a ≤ b
theorem shL_best (Z : Nat → Nat) (k n : Nat) : ∀ m, (shL Z k n m = (-1000000, 100000000) ∧ ∀ i, i < m → ssB Z k n i = false) ∨ ∃ b, b < m ∧ shL Z k n m = (nI b, onesN b) ∧ ssB Z k n b = true ∧ ∀ i, i < m → ssB Z k n i = true → Bf b i
  | 0 => Or.inl ⟨rfl, fun i hi => absurd hi (Nat.not_lt_zero _)⟩
  | m + 1 => by
    rw [shL]
    rcases shL_best Z k n m with ⟨a, b⟩ | ⟨b, h1, h2, h3, h4⟩
    · rw [a]
      by_cases q : ssB Z k n m = true
      · right
        rw [if_pos ⟨by have := onesN_le m; show onesN m < 100000000; omega, q⟩]
        refine ⟨m, by omega, rfl, q, fun i hi hs => ?_⟩
        by_cases e : i = m
        · rw [e]; exact Or.inr ⟨rfl, Nat.le_refl _⟩
        · rw [b i (by omega)] at hs; cases hs
      · left
        rw [if_neg (fun z => q z.2)]
        refine ⟨rfl, fun i hi => ?_⟩
        by_cases e : i = m
        · rw [e]; exact Bool.eq_false_iff.mpr q
        · exact b i (by omega)
    · right
      rw [h2]
      by_cases q : onesN m < onesN b ∧ ssB Z k n m = true
      · rw [if_pos q]
        refine ⟨m, by omega, rfl, q.2, fun i hi hs => ?_⟩
        by_cases e : i = m
        · rw [e]; exact Or.inr ⟨rfl, Nat.le_refl _⟩
        · rcases h4 i (by omega) hs with c | c
          · exact Or.inl (by omega)
          · exact Or.inl (by omega)
      · rw [if_neg q]
        refine ⟨b, by omega, rfl, h3, fun i hi hs => ?_⟩
        by_cases e : i = m
        · subst e
          have : ¬ onesN i < onesN b := fun z => q ⟨z, hs⟩
          unfold Bf
          omega
        · exact h4 i (by omega) hs
theorem fgL_best (x : Sg) (w n part u : Nat) : ∀ m, (fgL x w n part u m = none ∧ ∀ i, i < m → andn i u = 0 → shutB x w n i part = false) ∨ ∃ b, b < m ∧ fgL x w n part u m = some b ∧ andn b u = 0 ∧ shutB x w n b part = true ∧ ∀ i, i < m → andn i u = 0 → shutB x w n i part = true → Bf b i
  | 0 => Or.inl ⟨rfl, fun i hi => absurd hi (Nat.not_lt_zero _)⟩
  | m + 1 => by
    rw [fgL]
    rcases fgL_best x w n part u m with ⟨a, b⟩ | ⟨b, h1, h2, h3, h4, h5⟩
    · rw [a]
      by_cases q : andn m u = 0 ∧ shutB x w n m part = true
      · right
        rw [if_pos (by unfold fgC fewB; rw [decide_eq_true q.1, q.2]; rfl)]
        refine ⟨m, by omega, rfl, q.1, q.2, fun i hi h0 hs => ?_⟩
        by_cases e : i = m
        · rw [e]; exact Or.inr ⟨rfl, Nat.le_refl _⟩
        · rw [b i (by omega) h0] at hs; cases hs
      · left
        rw [if_neg (fun z => q (by unfold fgC at z; rw [Bool.and_eq_true, Bool.and_eq_true, decide_eq_true_eq] at z; exact ⟨z.1.1, z.2⟩))]
        refine ⟨rfl, fun i hi h0 => ?_⟩
        by_cases e : i = m
        · subst e; exact Bool.eq_false_iff.mpr (fun z => q ⟨h0, z⟩)
        · exact b i (by omega) h0
    · right
      rw [h2]
      by_cases q : fgC x w n part u (some b) m = true
      · rw [if_pos q]
        unfold fgC fewB at q
        rw [Bool.and_eq_true, Bool.and_eq_true, decide_eq_true_eq, decide_eq_true_eq] at q
        obtain ⟨⟨q1, q2⟩, q3⟩ := q
        refine ⟨m, by omega, rfl, q1, q3, fun i hi h0 hs => ?_⟩
        by_cases e : i = m
        · rw [e]; exact Or.inr ⟨rfl, Nat.le_refl _⟩
        · rcases h5 i (by omega) h0 hs with c | c
          · exact Or.inl (by omega)
          · exact Or.inl (by omega)
      · rw [if_neg q]
        refine ⟨b, by omega, rfl, h3, h4, fun i hi h0 hs => ?_⟩
        by_cases e : i = m
        · subst e
          have : ¬ onesN i < onesN b := fun z => q (by show (decide (andn i u = 0) && decide (onesN i < onesN b) && shutB x w n i part) = true; rw [decide_eq_true h0, hs, decide_eq_true z]; rfl)
          unfold Bf
          omega
        · exact h5 i (by omega) h0 hs
theorem andn_sub {i u : Nat} (h : andn i u = 0) : i &&& u = i := tb_ext (fun j => by
  rw [Nat.testBit_and]
  cases e : i.testBit j with
  | false => rfl
  | true => rw [andn_0 h j e]; rfl)
theorem sub_andn {i u : Nat} (h : i &&& u = i) : andn i u = 0 := tb_ext (fun j => by
  have e := congrArg (fun z => z.testBit j) h
  simp only [Nat.testBit_and] at e
  rw [andn_tb, Nat.zero_testBit]
  cases e1 : i.testBit j
  · rfl
  · rw [e1] at e
    cases e2 : u.testBit j
    · rw [e2] at e; cases e
    · rfl)
theorem few_eq {Z : Nat → Nat} {x : Sg} (h : Sim Z 0 x) (h9 : ∀ k, k < Sn x → SG x k ≤ 9) {k : Nat} (hk : k < Sn x) (hs : (So x).testBit k = false) (n : Nat) : (fewI x k n = -1000000 ∧ (shL Z k n (2 ^ Z 0)).1 = -1000000) ∨ ∃ b, b < 1024 ∧ fewI x k n = nI b ∧ shL Z k n (2 ^ Z 0) = (nI b, onesN b) := by
  have h10 := h.2.2.1.1
  have hu : touchF x k &&& gluF x < 2 ^ Sn x := Nat.and_lt_two_pow _ (mkb_lt _ _)
  have hZ : Z 0 = Sn x := h.1.1
  have h1024 : 2 ^ Sn x ≤ 1024 := Nat.pow_le_pow_right (n := 2) (by decide) h10
  have eq := ss_eq h h9 hk hs n
  unfold fewI
  rw [if_neg (by rw [hs]; exact Bool.false_ne_true), hZ]
  generalize hgu : touchF x k &&& gluF x = u at hu eq
  generalize touchF x k = part at eq
  rcases shL_best Z k n (2 ^ Sn x) with ⟨a, b⟩ | ⟨b, a1, a2, a3, a4⟩ <;> rcases fgL_best x k n part u (u + 1) with ⟨c, d⟩ | ⟨d, c1, c2, c3, c4, c5⟩
  · left
    rw [c, a]
    exact ⟨rfl, rfl⟩
  · exfalso
    have := b d (by omega)
    rw [eq, andn_sub c3, c4] at this
    cases this
  · exfalso
    rw [eq] at a3
    have l : b &&& u ≤ u := Nat.and_le_right
    have := d (b &&& u) (by omega) (sub_andn (by rw [Nat.and_assoc, Nat.and_self]))
    rw [a3] at this
    cases this
  · right
    have bu : b &&& u = b := by
      have l1 : b &&& u ≤ u := Nat.and_le_right
      have l2 : b &&& u ≤ b := Nat.and_le_left
      have p := a4 (b &&& u) (by omega) (by rw [eq, Nat.and_assoc, Nat.and_self, ← eq]; exact a3)
      have m : onesN (b &&& u) ≤ onesN b := cnt_mono (fun j hj => by rw [Nat.testBit_and, Bool.and_eq_true] at hj; exact hj.1) 10
      rcases p with p | p
      · omega
      · omega
    have l1 : b ≤ u := by rw [← bu]; exact Nat.and_le_right
    have p1 := c5 b (by omega) (sub_andn bu) (by rw [← a3, eq, bu])
    have p2 := a4 d (by omega) (by rw [eq, andn_sub c3]; exact c4)
    have e : d = b := by
      unfold Bf at p1 p2
      omega
    subst e
    refine ⟨d, by omega, by rw [c2]; rfl, a2⟩
theorem shut_ans {Z : Nat → Nat} {x : Sg} (h : Sim Z 0 x) (h9 : ∀ k, k < Sn x → SG x k ≤ 9) (pk pn ph : Int32) : shutM Z pk pn ph = shutR x pk pn ph := by
  unfold shutM shutR
  rw [show Sn (sg Z 0) = Sn x from h.1.1, show So (sg Z 0) = So x from h.1.2.2.2.2.1]
  by_cases q : (inW pk (Sn x) && inI pn (nI 1) (nI 24) && inI ph (nI 0) (nI 1)) = true
  · rw [if_pos q, if_pos q]
    rw [Bool.and_eq_true, Bool.and_eq_true] at q
    have hk := inW_at h.2.2.1.1 q.1.1
    cases hs : (So x).testBit pk.toNatClampNeg with
    | true =>
      rw [if_pos rfl]
      have : fewI x pk.toNatClampNeg pn.toNatClampNeg = -1000000 := by unfold fewI; rw [if_pos hs]
      rw [if_pos this]
    | false =>
      rw [if_neg Bool.false_ne_true]
      rcases few_eq h h9 hk hs pn.toNatClampNeg with ⟨a, b⟩ | ⟨b, b1, b2, b3⟩
      · rw [if_pos a, if_pos b]
      · rw [b2, b3, if_neg (n_ne6 b b1), if_neg (n_ne6 b b1), nI_clamp (by omega)]
  · rw [if_neg q, if_neg q]
