/-! ===== the reader of both ===== -/
theorem tk_tap {len : Nat} {f : Nat → Nat} {due c : Nat} (hd : due < 256) : tkB len f due c = decide (tapAt len f c = nI due) := by
  unfold tkB herI tapAt
  by_cases q : c < len
  · rw [if_pos q, if_pos q]
  · rw [if_neg q, if_neg q, decide_eq_false (fun h => nI_ne1 (k := due) (by omega) h.symm), decide_eq_false (fun h => nI_neM (k := due) (by omega) h.symm)]
theorem kd_tap {len : Nat} {f : Nat → Nat} {c : Nat} : kindM (tapAt len f c) = kindM (herI len f c) := by
  unfold tapAt herI
  split
  · rfl
  · decide +kernel
theorem rb_go {len : Nat} {f : Nat → Nat} {due c : Nat} (hd : due < 256) : rbF len f due (c, 0) = if tkB len f due c = true then (c + 1, 0) else (c, 1) := by
  unfold rbF
  rw [tk_tap hd, if_pos rfl]
  by_cases q : tapAt len f c = nI due
  · rw [if_pos q, decide_eq_true q, if_pos rfl]
  · rw [if_neg q, decide_eq_false q, if_neg Bool.false_ne_true]
theorem rb_stop {len : Nat} {f : Nat → Nat} {due : Nat} {r : Nat × Nat} (h : ¬ r.2 = 0) : rbF len f due r = r := if_neg h
theorem rn_stop {len : Nat} {f : Nat → Nat} {lo hi : Nat} {r : Nat × Nat} (h : ¬ r.2 = 0) : (rnF len f lo hi r).2 = r := by
  unfold rnF
  rw [if_neg h]
theorem dig_dig {len : Nat} {f : Nat → Nat} {c i : Nat} (hf : ∀ i, i < 130 → f i < 256) (hlen : len ≤ 130) : digP len f c i = isDig len f (c + i) := by
  rw [Bool.eq_iff_iff]
  constructor
  · intro h
    obtain ⟨a, -, b, d⟩ := dig_t hf hlen h
    unfold isDig
    rw [decide_eq_true a, decide_eq_true b, decide_eq_true d]
    rfl
  · intro h
    obtain ⟨a, b, d⟩ := isDig_lt h
    unfold digP herI
    rw [if_pos a]
    exact inI_nat b d (by decide)
theorem fig_run {len : Nat} {f : Nat → Nat} {c : Nat} (hf : ∀ i, i < 130 → f i < 256) (hlen : len ≤ 130) (hc : c ≤ len) : figN len f c = min 3 (runM len f c) := by
  obtain ⟨-, a2, a3⟩ := fstN_spec 131 (fun q => !digP len f c q)
  have h1 := run_le hf hlen hc
  have a2 : ∀ j, j < runM len f c → isDig len f (c + j) = true := fun j hj => by
    have := a2 j hj
    rw [← dig_dig hf hlen]
    simpa using this
  have a3 : isDig len f (c + runM len f c) = false := by
    rcases a3 with a3 | a3
    · have : runM len f c = 131 := a3
      omega
    · rw [← dig_dig hf hlen]
      have a3 : (!digP len f c (runM len f c)) = true := a3
      simpa using a3
  refine figN_of (by omega) (fun j hj => a2 j (by omega)) ?_
  by_cases q : 3 ≤ runM len f c
  · exact Or.inl (by omega)
  · rw [show min 3 (runM len f c) = runM len f c by omega]
    exact Or.inr a3
theorem num_val {f : Nat → Nat} {c g : Nat} (hg : g ≤ 2) : numM f c g = valN f c g := by
  rcases (show g = 0 ∨ g = 1 ∨ g = 2 by omega) with rfl | rfl | rfl
  · rfl
  · rfl
  · rfl
theorem nmF_ne (len : Nat) (f : Nat → Nat) (c : Nat) : ¬ nmF len f c = 0 := by
  unfold nmF
  split <;> omega
theorem rn_go {len : Nat} {f : Nat → Nat} {lo hi c : Nat} (hf : ∀ i, i < 130 → f i < 256) (hlen : len ≤ 130) (hc : c ≤ len) : rnF len f lo hi (c, 0) = if nmB len f lo hi c = true then (numM f c (runM len f c), (c + runM len f c, 0)) else (valN f c (figN len f c), (c, nmF len f c)) := by
  unfold rnF nmB nmF
  dsimp only
  rw [if_pos rfl, fig_run hf hlen hc]
  by_cases q : 1 ≤ runM len f c ∧ runM len f c ≤ 2
  · rw [decide_eq_true q.1, decide_eq_true q.2, show min 3 (runM len f c) = runM len f c by omega, if_neg (show ¬ (runM len f c = 0 ∨ 2 < runM len f c) by omega), ← num_val q.2]
    by_cases z : lo ≤ numM f c (runM len f c) ∧ numM f c (runM len f c) ≤ hi
    · rw [if_pos z, decide_eq_true z.1, decide_eq_true z.2]
      rfl
    · rw [if_neg z]
      have : (decide (lo ≤ numM f c (runM len f c)) && decide (numM f c (runM len f c) ≤ hi)) = false := by
        rw [← Bool.not_eq_true, Bool.and_eq_true, decide_eq_true_eq, decide_eq_true_eq]
        exact z
      rw [this]
      rfl
  · have : (decide (1 ≤ runM len f c) && decide (runM len f c ≤ 2)) = false := by
      rw [← Bool.not_eq_true, Bool.and_eq_true, decide_eq_true_eq, decide_eq_true_eq]
      exact q
    rw [this, if_pos (show min 3 (runM len f c) = 0 ∨ 2 < min 3 (runM len f c) by omega)]
    rfl
theorem rs_go {len : Nat} {f : Nat → Nat} {room : Bool} {c : Nat} : rsF len f room (c, 0) = if kindM (herI len f c) = 0 then (c, 1) else if room = false then (c, 3) else (c + 1, 0) := by
  unfold rsF
  rw [kd_tap]
theorem run_c {len : Nat} {f : Nat → Nat} {lo hi c : Nat} (hf : ∀ i, i < 130 → f i < 256) (hlen : len ≤ 130) (hc : c ≤ len) : c + runM len f c ≤ len := run_le hf hlen hc
/-- the law, read by both -/
theorem lw_both {len : Nat} {f : Nat → Nat} (hf : ∀ i, i < 130 → f i < 256) (hlen : len ≤ 130) : (mlB len f 0 = true ∧ lwR len f (0, 0) = (mlC4 len f 0 + 1, 0) ∧ (lwE len f (0, 0)).1 = numM f (0 + 1) (runM len f (0 + 1)) ∧ (lwS len f (0, 0)).1 = numM f (mlC2 len f 0 + 1) (runM len f (mlC2 len f 0 + 1))) ∨ (mlB len f 0 = false ∧ lwR len f (0, 0) = (mlS len f 0, mlF len f 0) ∧ ¬ mlF len f 0 = 0) := by
  have z1 : ∀ c, ¬ ((c, 1) : Nat × Nat).2 = 0 := fun _ => Nat.one_ne_zero
  have zf : ∀ c d, ¬ ((c, nmF len f d) : Nat × Nat).2 = 0 := fun _ d => nmF_ne len f d
  by_cases t1 : tkB len f 101 0 = true
  · have e1 : rbF len f 101 (0, 0) = (0 + 1, 0) := by rw [rb_go (by decide), if_pos t1]
    have l1 := tk_lt (by decide) t1
    by_cases n1 : nmB len f 2 24 (0 + 1) = true
    · have e2 : lwE len f (0, 0) = (numM f (0 + 1) (runM len f (0 + 1)), (mlC2 len f 0, 0)) := by
        unfold lwE
        rw [e1, rn_go hf hlen (by omega), if_pos n1]
        rfl
      have l2 : mlC2 len f 0 ≤ len := run_le hf hlen (by omega)
      by_cases t2 : tkB len f 44 (mlC2 len f 0) = true
      · have e3 : rbF len f 44 (lwE len f (0, 0)).2 = (mlC2 len f 0 + 1, 0) := by rw [e2, rb_go (by decide), if_pos t2]
        have l3 := tk_lt (by decide) t2
        by_cases n2 : nmB len f 0 3 (mlC2 len f 0 + 1) = true
        · have e4 : lwS len f (0, 0) = (numM f (mlC2 len f 0 + 1) (runM len f (mlC2 len f 0 + 1)), (mlC4 len f 0, 0)) := by
            unfold lwS
            rw [e3, rn_go hf hlen (by omega), if_pos n2]
            rfl
          by_cases t3 : tkB len f 59 (mlC4 len f 0) = true
          · refine Or.inl ⟨by unfold mlB; rw [t1, n1, t2, n2, t3]; rfl, ?_, by rw [e2], by rw [e4]⟩
            unfold lwR
            rw [e4, rb_go (by decide), if_pos t3]
          · rw [Bool.not_eq_true] at t3
            refine Or.inr ⟨by unfold mlB; rw [t3, Bool.and_false], ?_, ?_⟩
            · unfold lwR mlS mlF
              rw [e4, rb_go (by decide), t1, n1, t2, n2, t3]
              rfl
            · unfold mlF
              rw [t1, n1, t2, n2]
              exact Nat.one_ne_zero
        · rw [Bool.not_eq_true] at n2
          have e4 : (lwS len f (0, 0)).2 = (mlC2 len f 0 + 1, nmF len f (mlC2 len f 0 + 1)) := by
            unfold lwS
            rw [e3, rn_go hf hlen (by omega), n2]
            rfl
          have eF : mlF len f 0 = nmF len f (mlC2 len f 0 + 1) := by unfold mlF; rw [t1, n1, t2, n2]; rfl
          refine Or.inr ⟨by unfold mlB; rw [n2, Bool.and_false, Bool.false_and], ?_, by rw [eF]; exact nmF_ne _ _ _⟩
          unfold lwR mlS
          rw [e4, rb_stop (zf _ _), eF, t1, n1, t2, n2]
          rfl
      · rw [Bool.not_eq_true] at t2
        have e3 : rbF len f 44 (lwE len f (0, 0)).2 = (mlC2 len f 0, 1) := by rw [e2, rb_go (by decide), t2]; rfl
        have eF : mlF len f 0 = 1 := by unfold mlF; rw [t1, n1, t2]; rfl
        refine Or.inr ⟨by unfold mlB; rw [t2, Bool.and_false, Bool.false_and, Bool.false_and], ?_, by rw [eF]; exact Nat.one_ne_zero⟩
        unfold lwR lwS mlS
        rw [e3, rn_stop (z1 _), rb_stop (z1 _), eF, t1, n1, t2]
        rfl
    · rw [Bool.not_eq_true] at n1
      have e2 : (lwE len f (0, 0)).2 = (0 + 1, nmF len f (0 + 1)) := by
        unfold lwE
        rw [e1, rn_go hf hlen (by omega), n1]
        rfl
      have eF : mlF len f 0 = nmF len f (0 + 1) := by unfold mlF; rw [t1, n1]; rfl
      refine Or.inr ⟨by unfold mlB; rw [n1, Bool.and_false, Bool.false_and, Bool.false_and, Bool.false_and], ?_, by rw [eF]; exact nmF_ne _ _ _⟩
      unfold lwR lwS mlS
      rw [e2, rb_stop (zf _ _), rn_stop (zf _ _), rb_stop (zf _ _), eF, t1, n1]
      rfl
  · rw [Bool.not_eq_true] at t1
    have e1 : rbF len f 101 (0, 0) = (0, 1) := by rw [rb_go (by decide), t1]; rfl
    have eF : mlF len f 0 = 1 := by unfold mlF; rw [t1]; rfl
    refine Or.inr ⟨by unfold mlB; rw [t1]; rfl, ?_, by rw [eF]; exact Nat.one_ne_zero⟩
    unfold lwR lwS lwE mlS
    rw [e1, rn_stop (z1 _), rb_stop (z1 _), rn_stop (z1 _), rb_stop (z1 _), eF, t1]
    rfl
/-- a window, read by both -/
theorem wn_both {len : Nat} {f : Nat → Nat} (hf : ∀ i, i < 130 → f i < 256) (hlen : len ≤ 130) {c i : Nat} (hi : i ≤ 10) : (mwB len f c i = true ∧ i < 10 ∧ ¬ kindM (herI len f c) = 0 ∧ wnR len f (decide (i < 10)) (c, 0) = (mwC6 len f c + 1, 0) ∧ (wnD len f (decide (i < 10)) (c, 0)).1 = numM f (c + 1) (runM len f (c + 1)) ∧ (wnP len f (decide (i < 10)) (c, 0)).1 = numM f (mwC2 len f c + 1) (runM len f (mwC2 len f c + 1)) ∧ (wnG len f (decide (i < 10)) (c, 0)).1 = numM f (mwC4 len f c + 1) (runM len f (mwC4 len f c + 1))) ∨ (mwB len f c i = false ∧ wnR len f (decide (i < 10)) (c, 0) = (mwS len f c i, mwF len f c i) ∧ ¬ mwF len f c i = 0) := by
  have z1 : ∀ c, ¬ ((c, 1) : Nat × Nat).2 = 0 := fun _ => Nat.one_ne_zero
  have z3 : ∀ c, ¬ ((c, 3) : Nat × Nat).2 = 0 := fun _ h => by cases h
  have zf : ∀ c d, ¬ ((c, nmF len f d) : Nat × Nat).2 = 0 := fun _ d => nmF_ne len f d
  by_cases k0 : kindM (herI len f c) = 0
  · have e0 : rsF len f (decide (i < 10)) (c, 0) = (c, 1) := by rw [rs_go, if_pos k0]
    have d0 : decide (¬ kindM (herI len f c) = 0) = false := decide_eq_false (fun h => h k0)
    have eF : mwF len f c i = 1 := by unfold mwF; rw [if_pos d0]
    refine Or.inr ⟨by unfold mwB; rw [d0]; rfl, ?_, by rw [eF]; exact Nat.one_ne_zero⟩
    unfold wnR wnG wnP wnD mwS
    rw [e0, rn_stop (z1 _), rb_stop (z1 _), rn_stop (z1 _), rb_stop (z1 _), rn_stop (z1 _), rb_stop (z1 _), eF, if_pos d0]
  · have d0 : decide (¬ kindM (herI len f c) = 0) = true := decide_eq_true k0
    by_cases k1 : i = 10
    · have e0 : rsF len f (decide (i < 10)) (c, 0) = (c, 3) := by rw [rs_go, if_neg k0, if_pos (decide_eq_false (by omega))]
      have d1 : decide (¬ i = 10) = false := decide_eq_false (fun h => h k1)
      have eF : mwF len f c i = 3 := by unfold mwF; rw [d0, d1]; rfl
      refine Or.inr ⟨by unfold mwB; rw [d0, d1]; rfl, ?_, by rw [eF]; exact fun h => by cases h⟩
      unfold wnR wnG wnP wnD mwS
      rw [e0, rn_stop (z3 _), rb_stop (z3 _), rn_stop (z3 _), rb_stop (z3 _), rn_stop (z3 _), rb_stop (z3 _), eF, d0, d1]
      rfl
    · have d1 : decide (¬ i = 10) = true := decide_eq_true k1
      have e0 : rsF len f (decide (i < 10)) (c, 0) = (c + 1, 0) := by rw [rs_go, if_neg k0, if_neg (by rw [decide_eq_true (show i < 10 by omega)]; simp)]
      have l0 : c < len := kd_lt k0
      by_cases n1 : nmB len f 1 24 (c + 1) = true
      · have e1 : wnD len f (decide (i < 10)) (c, 0) = (numM f (c + 1) (runM len f (c + 1)), (mwC2 len f c, 0)) := by
          unfold wnD
          rw [e0, rn_go hf hlen (by omega), if_pos n1]
          rfl
        have l1 : mwC2 len f c ≤ len := run_le hf hlen (by omega)
        by_cases t2 : tkB len f 44 (mwC2 len f c) = true
        · have e2 : rbF len f 44 (wnD len f (decide (i < 10)) (c, 0)).2 = (mwC2 len f c + 1, 0) := by rw [e1, rb_go (by decide), if_pos t2]
          have l2 := tk_lt (by decide) t2
          by_cases n2 : nmB len f 0 9 (mwC2 len f c + 1) = true
          · have e3 : wnP len f (decide (i < 10)) (c, 0) = (numM f (mwC2 len f c + 1) (runM len f (mwC2 len f c + 1)), (mwC4 len f c, 0)) := by
              unfold wnP
              rw [e2, rn_go hf hlen (by omega), if_pos n2]
              rfl
            have l3 : mwC4 len f c ≤ len := run_le hf hlen (by omega)
            by_cases t3 : tkB len f 44 (mwC4 len f c) = true
            · have e4 : rbF len f 44 (wnP len f (decide (i < 10)) (c, 0)).2 = (mwC4 len f c + 1, 0) := by rw [e3, rb_go (by decide), if_pos t3]
              have l4 := tk_lt (by decide) t3
              by_cases n3 : nmB len f 0 9 (mwC4 len f c + 1) = true
              · have e5 : wnG len f (decide (i < 10)) (c, 0) = (numM f (mwC4 len f c + 1) (runM len f (mwC4 len f c + 1)), (mwC6 len f c, 0)) := by
                  unfold wnG
                  rw [e4, rn_go hf hlen (by omega), if_pos n3]
                  rfl
                by_cases t4 : tkB len f 59 (mwC6 len f c) = true
                · refine Or.inl ⟨by unfold mwB; rw [d0, d1, n1, t2, n2, t3, n3, t4]; rfl, by omega, k0, ?_, by rw [e1], by rw [e3], by rw [e5]⟩
                  unfold wnR
                  rw [e5, rb_go (by decide), if_pos t4]
                · rw [Bool.not_eq_true] at t4
                  have eF : mwF len f c i = 1 := by unfold mwF; rw [d0, d1, n1, t2, n2, t3, n3]; rfl
                  refine Or.inr ⟨by unfold mwB; rw [t4, Bool.and_false], ?_, by rw [eF]; exact Nat.one_ne_zero⟩
                  unfold wnR mwS
                  rw [e5, rb_go (by decide), eF, d0, d1, n1, t2, n2, t3, n3, t4]
                  rfl
              · rw [Bool.not_eq_true] at n3
                have e5 : (wnG len f (decide (i < 10)) (c, 0)).2 = (mwC4 len f c + 1, nmF len f (mwC4 len f c + 1)) := by
                  unfold wnG
                  rw [e4, rn_go hf hlen (by omega), n3]
                  rfl
                have eF : mwF len f c i = nmF len f (mwC4 len f c + 1) := by unfold mwF; rw [d0, d1, n1, t2, n2, t3, n3]; rfl
                refine Or.inr ⟨by unfold mwB; rw [n3, Bool.and_false, Bool.false_and], ?_, by rw [eF]; exact nmF_ne _ _ _⟩
                unfold wnR mwS
                rw [e5, rb_stop (zf _ _), eF, d0, d1, n1, t2, n2, t3, n3]
                rfl
            · rw [Bool.not_eq_true] at t3
              have e4 : rbF len f 44 (wnP len f (decide (i < 10)) (c, 0)).2 = (mwC4 len f c, 1) := by rw [e3, rb_go (by decide), t3]; rfl
              have eF : mwF len f c i = 1 := by unfold mwF; rw [d0, d1, n1, t2, n2, t3]; rfl
              refine Or.inr ⟨by unfold mwB; rw [t3, Bool.and_false, Bool.false_and, Bool.false_and], ?_, by rw [eF]; exact Nat.one_ne_zero⟩
              unfold wnR wnG mwS
              rw [e4, rn_stop (z1 _), rb_stop (z1 _), eF, d0, d1, n1, t2, n2, t3]
              rfl
          · rw [Bool.not_eq_true] at n2
            have e3 : (wnP len f (decide (i < 10)) (c, 0)).2 = (mwC2 len f c + 1, nmF len f (mwC2 len f c + 1)) := by
              unfold wnP
              rw [e2, rn_go hf hlen (by omega), n2]
              rfl
            have eF : mwF len f c i = nmF len f (mwC2 len f c + 1) := by unfold mwF; rw [d0, d1, n1, t2, n2]; rfl
            refine Or.inr ⟨by unfold mwB; rw [n2, Bool.and_false, Bool.false_and, Bool.false_and, Bool.false_and], ?_, by rw [eF]; exact nmF_ne _ _ _⟩
            unfold wnR wnG mwS
            rw [e3, rb_stop (zf _ _), rn_stop (zf _ _), rb_stop (zf _ _), eF, d0, d1, n1, t2, n2]
            rfl
        · rw [Bool.not_eq_true] at t2
          have e2 : rbF len f 44 (wnD len f (decide (i < 10)) (c, 0)).2 = (mwC2 len f c, 1) := by rw [e1, rb_go (by decide), t2]; rfl
          have eF : mwF len f c i = 1 := by unfold mwF; rw [d0, d1, n1, t2]; rfl
          refine Or.inr ⟨by unfold mwB; rw [t2, Bool.and_false, Bool.false_and, Bool.false_and, Bool.false_and, Bool.false_and], ?_, by rw [eF]; exact Nat.one_ne_zero⟩
          unfold wnR wnG wnP mwS
          rw [e2, rn_stop (z1 _), rb_stop (z1 _), rn_stop (z1 _), rb_stop (z1 _), eF, d0, d1, n1, t2]
          rfl
      · rw [Bool.not_eq_true] at n1
        have e1 : (wnD len f (decide (i < 10)) (c, 0)).2 = (c + 1, nmF len f (c + 1)) := by
          unfold wnD
          rw [e0, rn_go hf hlen (by omega), n1]
          rfl
        have eF : mwF len f c i = nmF len f (c + 1) := by unfold mwF; rw [d0, d1, n1]; rfl
        refine Or.inr ⟨by unfold mwB; rw [n1, Bool.and_false, Bool.false_and, Bool.false_and, Bool.false_and, Bool.false_and, Bool.false_and], ?_, by rw [eF]; exact nmF_ne _ _ _⟩
        unfold wnR wnG wnP mwS
        rw [e1, rb_stop (zf _ _), rn_stop (zf _ _), rb_stop (zf _ _), rn_stop (zf _ _), rb_stop (zf _ _), eF, d0, d1, n1]
        rfl
