/-! ===== what touches: the rest may be left out of a turn ===== -/
theorem grow_stable {S : Nat → Nat} {n : Nat} (hn : n ≤ 10) (hb : ∀ i, S i < 2 ^ n) (hs : ∀ i j, (S i).testBit j = true → (S (i + 1)).testBit j = true) (h0 : ∃ j, (S 0).testBit j = true) (hst : ∀ i, S (i + 1) = S i → S (i + 1 + 1) = S (i + 1)) : S (n + 1) = S n := by
  have grow : ∀ q, (∀ z, z < q → ¬ S (z + 1) = S z) → q + 1 ≤ cntN (S q) 10 := by
    intro q
    induction q with
    | zero =>
      intro _
      obtain ⟨j, hj⟩ := h0
      have hj10 : j < 10 := by
        rcases Nat.lt_or_ge j n with c | c
        · omega
        · rw [tb_lt (hb 0) c] at hj; cases hj
      have := cnt_lt (a := 0) (b := S 0) (fun j h => by rw [Nat.zero_testBit] at h; cases h) (j := j) (Nat.zero_testBit _) hj 10 hj10
      omega
    | succ q ih =>
      intro h
      have ih := ih (fun z hz => h z (by omega))
      have hq := h q (by omega)
      have : ∃ j, (S q).testBit j = false ∧ (S (q + 1)).testBit j = true := by
        by_cases c : ∃ j, (S q).testBit j = false ∧ (S (q + 1)).testBit j = true
        · exact c
        · exfalso
          refine hq (tb_ext (fun j => ?_))
          cases e1 : (S q).testBit j with
          | true => exact hs q j e1
          | false =>
            cases e2 : (S (q + 1)).testBit j with
            | false => rfl
            | true => exact absurd ⟨j, e1, e2⟩ c
      obtain ⟨j, a, b⟩ := this
      have hj : j < 10 := by
        rcases Nat.lt_or_ge j n with c | c
        · omega
        · rw [tb_lt (hb (q + 1)) c] at b; cases b
      have := cnt_lt (hs q) a b 10 hj
      omega
  have keep : ∀ z, S (z + 1) = S z → ∀ d, S (z + d + 1) = S (z + d) := by
    intro z hz d
    induction d with
    | zero => exact hz
    | succ d ih => exact hst (z + d) ih
  by_cases c : ∃ z, z < n ∧ S (z + 1) = S z
  · obtain ⟨z, hz, e⟩ := c
    have := keep z e (n - z)
    rwa [show z + (n - z) = n by omega] at this
  · exfalso
    have g := grow n (fun z hz e => c ⟨z, hz, e⟩)
    have b := cnt_top (hb n) 10 hn
    have := cnt_le (S n) n
    omega
theorem rul_tb (x : Sg) (k : Nat) : (rulF x).testBit k = (decide (k < Sn x) && decide (SK x k = 5)) := by unfold rulF; rw [mkb_tb]
theorem touchL_lt {x : Sg} {w : Nat} (hw : w < Sn x) : ∀ i, touchL x w i < 2 ^ Sn x
  | 0 => Nat.pow_lt_pow_right (by decide) hw
  | i + 1 => Nat.or_lt_two_pow (touchL_lt hw i) (Nat.and_lt_two_pow _ (by unfold allF; have := Nat.two_pow_pos (Sn x); omega))
/-- a part that minds no window outside -/
def Closed (x : Sg) (p : Nat) : Prop := p < 2 ^ Sn x ∧ ∀ j, p.testBit j = true → SK x j = 5 → (0 < j → p.testBit (j - 1) = true) ∧ (j + 1 < Sn x → p.testBit (j + 1) = true)
theorem touch_closed {x : Sg} (hn : Sn x ≤ 10) {w : Nat} (hw : w < Sn x) : Closed x (touchF x w) ∧ (touchF x w).testBit w = true := by
  have hs : ∀ i j, (touchL x w i).testBit j = true → (touchL x w (i + 1)).testBit j = true := fun i j h => by
    rw [touchL, Nat.testBit_or, h]; rfl
  have hw0 : (touchL x w 0).testBit w = true := by rw [touchL, Nat.testBit_two_pow]; exact decide_eq_true rfl
  have st : touchL x w (Sn x + 1) = touchL x w (Sn x) := grow_stable hn (touchL_lt hw) hs ⟨w, hw0⟩ (fun i e => congrArg (fun s => s ||| (((s &&& rulF x) * 2 ^ 1 ||| (s &&& rulF x) / 2 ^ 1) &&& allF x)) e)
  have all : ∀ i, (touchL x w i).testBit w = true := by
    intro i
    induction i with
    | zero => exact hw0
    | succ i ih => exact hs i w ih
  refine ⟨⟨touchL_lt hw _, fun j hj hk => ?_⟩, all _⟩
  have hjn : j < Sn x := by
    rcases Nat.lt_or_ge j (Sn x) with c | c
    · exact c
    · rw [show (touchF x w).testBit j = false from tb_lt (touchL_lt hw _) c] at hj; cases hj
  have hr : (touchL x w (Sn x) &&& rulF x).testBit j = true := by
    rw [Nat.testBit_and, rul_tb, decide_eq_true hjn, decide_eq_true hk]
    rw [show (touchL x w (Sn x)).testBit j = true from hj]
    rfl
  have al : ∀ i, i < Sn x → (allF x).testBit i = true := fun i hi => by unfold allF; rw [Nat.testBit_two_pow_sub_one]; exact decide_eq_true hi
  constructor
  · intro h0
    unfold touchF
    rw [← st, touchL, Nat.testBit_or, Nat.testBit_and, Nat.testBit_or, tb_div2, show 1 + (j - 1) = j by omega, hr, al _ (by omega), Bool.or_true, Bool.and_true, Bool.or_true]
  · intro h1
    unfold touchF
    rw [← st, touchL, Nat.testBit_or, Nat.testBit_and, Nat.testBit_or, tb_mul2, show j + 1 - 1 = j by omega, hr, decide_eq_true (by omega), al _ h1]
    simp
/-- two streets that can't be told apart by the opening of a part's windows -/
def Ag (p : Nat) (x y : Sg) : Prop := Sn x = Sn y ∧ Se x = Se y ∧ St x = St y ∧ So x < 2 ^ Sn x ∧ So y < 2 ^ Sn x ∧ ∀ k, k < Sn x → SK x k = SK y k ∧ (p.testBit k = true → SD x k = SD y k ∧ (3 ≤ SK x k → SG x k = SG y k) ∧ (So x).testBit k = (So y).testBit k)
theorem Ag.date {p : Nat} {x y : Sg} (h : Ag p x y) : dateF x = dateF y := by unfold dateF; rw [h.2.1, h.2.2.1]
theorem Ag.would {p : Nat} {x y : Sg} (h : Ag p x y) (hp : Closed x p) {k d : Nat} (hk : k < Sn x) (hkp : p.testBit k = true) : wouldF x k d = wouldF y k d := by
  obtain ⟨a, b, c, e1, e2, f⟩ := h
  obtain ⟨f1, f2⟩ := f k hk
  obtain ⟨f3, f4, f5⟩ := f2 hkp
  unfold wouldF
  rw [← f1, ← f3]
  by_cases c1 : SK x k = 1
  · rw [if_pos c1, if_pos c1]
  · rw [if_neg c1, if_neg c1]
    by_cases c2 : SK x k = 2
    · rw [if_pos c2, if_pos c2]
    · rw [if_neg c2, if_neg c2]
      by_cases c3 : SK x k = 3
      · rw [if_pos c3, if_pos c3, f4 (by omega)]
      · rw [if_neg c3, if_neg c3]
        by_cases c4 : SK x k = 4
        · rw [if_pos c4, if_pos c4, f4 (by omega)]
        · rw [if_neg c4, if_neg c4]
          by_cases c5 : SK x k = 5
          · rw [if_pos c5, if_pos c5, f4 (by omega), ruler_tb e1, ruler_tb e2]
            obtain ⟨g1, g2⟩ := hp.2 k hkp c5
            have l1 : (decide (0 < k) && (So x).testBit (k - 1)) = (decide (0 < k) && (So y).testBit (k - 1)) := by
              by_cases q : 0 < k
              · rw [((f (k - 1) (by omega)).2 (g1 q)).2.2]
              · rw [decide_eq_false q]; rfl
            have l2 : (decide (k + 1 < Sn x) && (So x).testBit (k + 1)) = (decide (k + 1 < Sn x) && (So y).testBit (k + 1)) := by
              by_cases q : k + 1 < Sn x
              · rw [((f (k + 1) q).2 (g2 q)).2.2]
              · rw [decide_eq_false q]; rfl
            rw [l1, l2]
          · rw [if_neg c5, if_neg c5]
theorem open_tb (x : Sg) (d p k : Nat) : (openF x d p).testBit k = (decide (k < Sn x) && ((p.testBit k && !(So x).testBit k) && wouldF x k d)) := by
  unfold openF
  rw [mkb_tb]
  unfold openP
  rw [andn_tb]
theorem open_lt2 (x : Sg) (d p : Nat) : openF x d p < 2 ^ Sn x := mkb_lt _ _
theorem al_tb9 {x : Sg} {k : Nat} (hk : k < Sn x) : (allF x).testBit k = true := by unfold allF; rw [Nat.testBit_two_pow_sub_one]; exact decide_eq_true hk
/-- the part turned alone, against the whole street -/
theorem Ag.turn {p : Nat} {x y : Sg} (h : Ag p x y) (hp : Closed x p) : Ag p (turnU x p) (turnF y) ∧ Closed (turnU x p) p := by
  have hdt := h.date
  obtain ⟨a, b, c, e1, e2, f⟩ := id h
  have ho : ∀ k, k < Sn x → p.testBit k = true → (openF x (dateF x) p).testBit k = (openF y (dateF y) (allF y)).testBit k := fun k hk hkp => by
    rw [open_tb, open_tb, ← a, ← hdt, ((f k hk).2 hkp).2.2, h.would hp hk hkp, hkp, al_tb9 (by rw [← a]; exact hk)]
  have hop : openF y (dateF y) (allF y) < 2 ^ Sn x := by rw [a]; exact open_lt2 _ _ _
  have hS : Sn (turnU x p) = Sn x ∧ SK (turnU x p) = SK x := by unfold turnU closeF; split <;> exact ⟨rfl, rfl⟩
  have hL : ∀ z : Sg, Sn (lookF z) = Sn z ∧ Se (lookF z) = Se z ∧ St (lookF z) = St z ∧ So (lookF z) = So z ∧ SK (lookF z) = SK z ∧ SD (lookF z) = SD z ∧ SG (lookF z) = SG z := fun z => by unfold lookF; split <;> exact ⟨rfl, rfl, rfl, rfl, rfl, rfl, rfl⟩
  refine ⟨?_, ?_⟩
  · unfold turnU turnF
    generalize hz : lookF (wO y (So y ||| openF y (dateF y) (allF y))) = z
    obtain ⟨z1, z2, z3, z4, z5, z6, z7⟩ := hL (wO y (So y ||| openF y (dateF y) (allF y)))
    rw [hz] at z1 z2 z3 z4 z5 z6 z7
    have z4 : So z = So y ||| openF y (dateF y) (allF y) := z4
    have z1 : Sn z = Sn y := z1
    unfold closeF
    rw [z2, z3, z4]
    show Ag p (if dateF x = Se x then _ else _) (if dateF y = Se y then _ else _)
    rw [← hdt, ← b]
    have gl : ∀ (s s' : Nat) k, k < Sn x → p.testBit k = true → s.testBit k = s'.testBit k → 3 ≤ SK x k → don (Sn x) (wearG (wO x (So x ||| openF x (dateF x) p)) s) (SG x) k = don (Sn z) (wearG z s') (SG z) k := fun s s' k hk hkp hs h3 => by
      unfold don wearG
      rw [if_pos hk, if_pos (show k < Sn z by rw [z1, ← a]; exact hk), hs, z7]
      show (if s'.testBit k = true then SG x k - 1 else SG x k) = (if s'.testBit k = true then SG y k - 1 else SG y k)
      rw [((f k hk).2 hkp).2.1 h3]
    have hor : ∀ k, k < Sn x → p.testBit k = true → (So x ||| openF x (dateF x) p).testBit k = (So y ||| openF y (dateF x) (allF y)).testBit k := fun k hk hkp => by
      rw [Nat.testBit_or, Nat.testBit_or, ((f k hk).2 hkp).2.2, ho k hk hkp, ← hdt]
    split
    · refine ⟨a.trans z1.symm, b.trans z2.symm, congrArg (· + 1) c, Nat.two_pow_pos _, Nat.two_pow_pos _, fun k hk => ⟨by show SK x k = SK z k; rw [z5]; exact (f k hk).1, fun hkp => ⟨by show SD x k = SD z k; rw [z6]; exact ((f k hk).2 hkp).1, fun h3 => gl _ _ k hk hkp (hor k hk hkp) h3, rfl⟩⟩⟩
    · refine ⟨a.trans z1.symm, b.trans z2.symm, congrArg (· + 1) c, Nat.or_lt_two_pow e1 (open_lt2 _ _ _), ?_, fun k hk => ⟨by show SK x k = SK z k; rw [z5]; exact (f k hk).1, fun hkp => ⟨by show SD x k = SD z k; rw [z6]; exact ((f k hk).2 hkp).1, fun h3 => gl _ _ k hk hkp (by rw [ho k hk hkp, ← hdt]) h3, ?_⟩⟩⟩
      · show So z < 2 ^ Sn x
        rw [z4]
        exact Nat.or_lt_two_pow e2 (by rw [← hdt] at hop; rw [← hdt]; exact hop)
      · show (So x ||| openF x (dateF x) p).testBit k = (So z).testBit k
        rw [z4, hor k hk hkp, hdt]
  · refine ⟨by rw [hS.1]; exact hp.1, ?_⟩
    rw [hS.1, hS.2]
    exact hp.2
theorem Ag.turns {p : Nat} {x y : Sg} (h : Ag p x y) (hp : Closed x p) : ∀ i, Ag p (turnP x p i) (turnN y i) ∧ Closed (turnP x p i) p
  | 0 => ⟨h, hp⟩
  | i + 1 => by
    obtain ⟨a, b⟩ := Ag.turns h hp i
    exact a.turn b
theorem Ag.self {x : Sg} (h : So x < 2 ^ Sn x) (p : Nat) : Ag p x x := ⟨rfl, rfl, rfl, h, h, fun _ _ => ⟨rfl, fun _ => ⟨rfl, fun _ => rfl, rfl⟩⟩⟩
