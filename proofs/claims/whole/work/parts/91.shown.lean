/-! ===== answers of both: what a street shows, what turns show ===== -/
theorem inW_at {p : Int32} {n : Nat} (hn : n ≤ 10) (h : inW p n = true) : p.toNatClampNeg < n := by
  obtain ⟨k, e, l⟩ := inW_t (by omega) h
  rw [e, nI_clamp (by omega)]
  exact l
theorem kind_ans {x y : Sg} (h : Eqv x y) (hn : Sn x ≤ 10) (pk : Int32) : kindR x pk = kindR y pk := by
  unfold kindR
  rw [← h.1]
  split
  · rename_i q
    rw [(h.2.2.2.2.2 _ (inW_at hn q)).1]
  · rfl
theorem window_ans {x y : Sg} (h : Eqv x y) (hO : Ok x) (pk ph : Int32) : windowM x pk ph = windowR y pk ph := by
  unfold windowM windowR
  rw [← h.1]
  split
  · rename_i q
    have hk := inW_at hO.1.1 q
    obtain ⟨f1, f2, f3, f4, f5⟩ := h.2.2.2.2.2 _ hk
    rw [f2, f3, f4, f5, h.2.2.2.2.1, would_eq hO hk, h.would hk, h.date]
  · rfl
theorem guess_ans {x y : Sg} (h : Eqv x y) (hn : Sn x ≤ 10) (pk : Int32) : guessR x pk = guessR y pk := by
  unfold guessR
  rw [← h.1]
  split
  · rename_i q
    rw [(h.2.2.2.2.2 _ (inW_at hn q)).2.2.2.2, h.pics, h.all]
  · rfl
theorem as_ans {x y : Sg} (h : Eqv x y) (hn : Sn x ≤ 10) (pk pd : Int32) : asR x pk pd = asR y pk pd := by
  unfold asR
  rw [← h.1]
  split
  · rename_i q
    rw [Bool.and_eq_true] at q
    rw [(h.2.2.2.2.2 _ (inW_at hn q.1)).1]
  · rfl
theorem as_fin {x y : Sg} (h : Eqv x y) (hn : Sn x ≤ 10) (pk pd : Int32) (fi : Nat) : asI x pk pd fi = asI y pk pd fi := by
  unfold asI
  rw [← h.1]
  split
  · rename_i q
    rw [Bool.and_eq_true] at q
    rw [(h.2.2.2.2.2 _ (inW_at hn q.1)).1]
  · rfl
theorem ask_ans {x y : Sg} (h : Eqv x y) (hn : Sn x ≤ 10) (pk ph : Int32) : askR x pk ph = askR y pk ph := by
  unfold askR
  rw [← h.1]
  split
  · rename_i q
    rw [Bool.and_eq_true] at q
    obtain ⟨f1, f2, f3, f4, f5⟩ := h.2.2.2.2.2 _ (inW_at hn q.1)
    rw [f1, f2, f4]
  · rfl
theorem ask_trc {x y : Sg} (h : Eqv x y) (hn : Sn x ≤ 10) (pk ph : Int32) (t : Nat × (Nat → Nat)) : askT x pk ph t = askT y pk ph t := by
  unfold askT
  rw [← h.1]
  split
  · rename_i q
    rw [Bool.and_eq_true] at q
    rw [(h.2.2.2.2.2 _ (inW_at hn q.1)).1]
  · rfl
theorem alI_eqv {x y : Sg} (h : Eqv x y) {a : Nat} (ha : a < Sn x) (p : Nat × Int32) : ∀ k, a + 1 + k ≤ Sn x → alI x a p k = alI y a p k := by
  intro k
  induction k with
  | zero => intro _; rfl
  | succ k ih =>
    intro hk
    rw [alI, alI, ih (by omega)]
    unfold alU
    rw [(h.2.2.2.2.2 a ha).2.1, (h.2.2.2.2.2 (a + 1 + k) (by omega)).2.1]
theorem alO_eqv {x y : Sg} (h : Eqv x y) : ∀ a, a ≤ Sn x → alO x a = alO y a := by
  intro a
  induction a with
  | zero => intro _; rfl
  | succ a ih =>
    intro ha
    rw [alO, alO, ih (by omega), ← h.1]
    exact alI_eqv h (by omega) _ _ (by omega)
theorem alike_ans {x y : Sg} (h : Eqv x y) (ph : Int32) : alikeR x ph = alikeR y ph := by
  unfold alikeR
  rw [alO_eqv h _ (Nat.le_refl _), h.1]
/-! what turns show -/
theorem Sim.goes {Z : Nat → Nat} {x : Sg} (h : Sim Z 55 x) : ∀ i, Sim (goW Z i) 55 (turnN x i)
  | 0 => h
  | i + 1 => (Sim.goes h i).pass
theorem opens_ans {Z : Nat → Nat} {x : Sg} (h : Sim Z 0 x) (pd : Int32) : opensM Z pd = opensR x pd := by
  unfold opensM opensR
  rw [h.1.1]
  have e : goW (cpW Z 0 55) pd.toNatClampNeg 59 = So (turnN x pd.toNatClampNeg) := ((h.copy 55).goes _).1.2.2.2.2.1
  rw [e]
theorem ahead_ans {Z : Nat → Nat} {x : Sg} (h : Sim Z 0 x) (pk pd ph : Int32) : aheadM Z pk pd ph = aheadR x pk pd ph := by
  unfold aheadM aheadR
  rw [h.1.1]
  split
  · rename_i q
    rw [Bool.and_eq_true, Bool.and_eq_true] at q
    have hk := inW_at h.2.2.1.1 q.1.1
    have g := ((h.copy 55).goes pd.toNatClampNeg).1
    have hn : Sn (sg (goW (cpW Z 0 55) pd.toNatClampNeg) 55) = Sn x := g.1.trans (turnN_ok h.2.2.1 _).2.2
    obtain ⟨f1, f2, f3, f4, f5⟩ := g.2.2.2.2.2 pk.toNatClampNeg (by rw [hn]; exact hk)
    rw [show goW (cpW Z 0 55) pd.toNatClampNeg (90 + pk.toNatClampNeg) = SG (turnN x pd.toNatClampNeg) pk.toNatClampNeg from f4, show goW (cpW Z 0 55) pd.toNatClampNeg (100 + pk.toNatClampNeg) = SS (turnN x pd.toNatClampNeg) pk.toNatClampNeg from f5]
  · rfl
theorem spots_ans {Z : Nat → Nat} {x : Sg} (h : Sim Z 0 x) (pk pc : Int32) : spotsM Z pk pc = spotsR x pk pc := by
  unfold spotsM spotsR
  rw [h.1.1]
  split
  · rename_i q
    rw [Bool.and_eq_true] at q
    have hk := inW_at h.2.2.1.1 q.1
    unfold spM
    congr 1
    refine fstN_congr (fun i _ => ?_)
    have g := ((h.copy 55).goes i).1
    have hn : Sn (sg (goW (cpW Z 0 55) i) 55) = Sn x := g.1.trans (turnN_ok h.2.2.1 _).2.2
    unfold spP seenP
    rw [show goW (cpW Z 0 55) i (100 + pk.toNatClampNeg) = SS (turnN x i) pk.toNatClampNeg from (g.2.2.2.2.2 pk.toNatClampNeg (by rw [hn]; exact hk)).2.2.2.2]
  · rfl
theorem fstI_fstN (n : Nat) (p : Nat → Bool) (d : Int32) : fstI n p d = if fstN n p < n then nI (fstN n p) else d := by
  obtain ⟨h1, h2, h3⟩ := fstN_spec n p
  by_cases q : fstN n p < n
  · rw [if_pos q]
    rcases h3 with h3 | h3
    · omega
    · exact fstI_some q h3 h2
  · rw [if_neg q]
    exact fstI_none (fun j hj => h2 j (by omega))
theorem off_ans {Z : Nat → Nat} {x : Sg} (h : Sim Z 0 x) (ph : Int32) : offM Z ph = offR x ph := by
  have hn0 : Z 0 = Sn x := h.1.1
  have hn := h.2.2.1.1
  have eB : ∀ i, ofB Z i = fstN (Sn x) (fun k => decide (SG (turnN x i) k = 0)) := by
    intro i
    unfold ofB
    rw [hn0]
    refine fstN_congr (fun j hj => ?_)
    have g := ((h.copy 55).goes i).1
    have hn1 : Sn (sg (goW (cpW Z 0 55) i) 55) = Sn x := g.1.trans (turnN_ok h.2.2.1 _).2.2
    rw [show goW (cpW Z 0 55) i (90 + j) = SG (turnN x i) j from (g.2.2.2.2.2 j (by rw [hn1]; exact hj)).2.2.2.1]
  have eF : ∀ i, bareF (turnN x i) = if ofB Z i < Sn x then nI (ofB Z i) else (-1000000) := by
    intro i
    unfold bareF
    rw [fstI_fstN, (turnN_ok h.2.2.1 i).2.2, eB]
  have eP : ∀ i, ofP Z i = bareP x i := by
    intro i
    unfold ofP bareP
    rw [hn0, eF]
    by_cases q : ofB Z i < Sn x
    · rw [if_pos q, decide_eq_true q, decide_eq_false (nI_neM (by omega))]; rfl
    · rw [if_neg q, decide_eq_false q]; rfl
  have eM : ofM Z = fstN 61 (bareP x) := fstN_congr (fun i _ => eP i)
  obtain ⟨k1, k2, k3⟩ := fstN_spec 61 (bareP x)
  unfold offM offR
  rw [h.1.1, eM]
  by_cases n0 : Sn x = 0
  · rw [if_pos n0, if_pos n0]
  · rw [if_neg n0, if_neg n0]
    by_cases hp : inI ph (nI 0) (nI 1) = true
    · rw [if_pos hp, if_pos hp]
      unfold idxI
      by_cases q : fstN 61 (bareP x) < 61
      · have b1 : bareP x (fstN 61 (bareP x)) = true := by rcases k3 with k3 | k3 <;> first | omega | exact k3
        rw [if_pos q, if_pos q, show min (fstN 61 (bareP x)) 60 = fstN 61 (bareP x) by omega, eF]
        have b2 : ofB Z (fstN 61 (bareP x)) < Sn x := by
          rw [← eP] at b1
          have := of_decide_eq_true b1
          rw [hn0] at this
          exact this
        rw [if_pos b2]
      · rw [if_neg q, if_neg q]
        have b1 := k2 60 (by omega)
        rw [← eP] at b1
        have b2 := of_decide_eq_false b1
        rw [show min (fstN 61 (bareP x)) 60 = 60 by omega, eF, if_neg (show ¬ ofB Z 60 < Sn x by rw [hn0] at b2; exact b2)]
        split <;> rfl
    · rw [if_neg hp, if_neg hp]
