/-! ===== along: both ===== -/
theorem cnt_le (a : Nat) : ∀ k, cntN a k ≤ k
  | 0 => Nat.le_refl _
  | k + 1 => by
    rw [cntN]
    have := cnt_le a k
    split <;> omega
theorem cnt_mono {a b : Nat} (h : ∀ k, a.testBit k = true → b.testBit k = true) : ∀ k, cntN a k ≤ cntN b k
  | 0 => Nat.le_refl _
  | k + 1 => by
    rw [cntN, cntN]
    have := cnt_mono h k
    by_cases q : a.testBit k = true
    · rw [if_pos q, if_pos (h k q)]; omega
    · rw [if_neg q]; omega
theorem cnt_lt {a b : Nat} (h : ∀ k, a.testBit k = true → b.testBit k = true) {j : Nat} (ha : a.testBit j = false) (hb : b.testBit j = true) : ∀ k, j < k → cntN a k < cntN b k
  | 0 => fun q => absurd q (Nat.not_lt_zero _)
  | k + 1 => fun q => by
    rw [cntN, cntN]
    by_cases e : j = k
    · subst e
      have := cnt_mono h j
      rw [if_neg (by rw [ha]; simp), if_pos hb]
      omega
    · have := cnt_lt h ha hb k (by omega)
      by_cases q2 : a.testBit k = true
      · rw [if_pos q2, if_pos (h k q2)]; omega
      · rw [if_neg q2]; omega
theorem cnt_top {a n : Nat} (h : a < 2 ^ n) : ∀ k, n ≤ k → cntN a k = cntN a n
  | 0 => fun q => by rw [show n = 0 by omega]
  | k + 1 => fun q => by
    by_cases e : n = k + 1
    · rw [e]
    · rw [cntN, cnt_top h k (by omega), if_neg (by rw [tb_lt h (by omega)]; simp)]
      rfl
theorem knw_tb {x : Sg} {know : Nat} (hk : know < 2 ^ Sn x) : know ||| orN (Sn x) (alnI x know) = know ||| andn (nearF x know) (So x) := by
  refine tb_ext (fun j => ?_)
  rw [Nat.testBit_or, Nat.testBit_or]
  by_cases q : know.testBit j = true
  · rw [q]; rfl
  · rw [Bool.not_eq_true] at q
    rw [q, Bool.false_or, Bool.false_or, andn_tb, Bool.eq_iff_iff, orN_tb, Bool.and_eq_true]
    constructor
    · rintro ⟨i, hi, h⟩
      unfold alnI at h
      by_cases ho : (So x).testBit i = true
      · rw [if_pos ho, Nat.zero_testBit] at h; cases h
      · rw [if_neg ho, orN_tb] at h
        obtain ⟨z, hz, h⟩ := h
        unfold alnT at h
        by_cases hb : know.testBit z = true
        · rw [if_pos hb] at h
          by_cases hg : gapN z i ≤ Sv x
          · rw [if_pos hg, Nat.testBit_two_pow] at h
            have ej : i = j := of_decide_eq_true h
            subst ej
            have hne : ¬ z = i := fun e => by rw [e, q] at hb; cases hb
            refine ⟨?_, by rw [Bool.not_eq_true] at ho; rw [ho]; rfl⟩
            unfold nearF
            rw [Nat.testBit_and, show (allF x).testBit i = true from by unfold allF; rw [Nat.testBit_two_pow_sub_one]; exact decide_eq_true hi, Bool.and_true, nearL, orN_tb]
            unfold gapN at hg
            by_cases c : z < i
            · rw [if_pos c] at hg
              refine ⟨i - z - 1, by omega, ?_⟩
              rw [Nat.testBit_or, tb_mul2, decide_eq_true (by omega), show i - (i - z - 1 + 1) = z by omega, hb]
              rfl
            · rw [if_neg c] at hg
              refine ⟨z - i - 1, by omega, ?_⟩
              rw [Nat.testBit_or, tb_div2, show z - i - 1 + 1 + i = z by omega, hb, Bool.or_true]
          · rw [if_neg hg, Nat.zero_testBit] at h; cases h
        · rw [if_neg hb, Nat.zero_testBit] at h; cases h
    · rintro ⟨h, ho⟩
      unfold nearF at h
      rw [Nat.testBit_and, Bool.and_eq_true] at h
      obtain ⟨h1, h2⟩ := h
      have hj : j < Sn x := by
        unfold allF at h2
        rw [Nat.testBit_two_pow_sub_one] at h2
        exact of_decide_eq_true h2
      rw [nearL, orN_tb] at h1
      obtain ⟨i, hi, h1⟩ := h1
      refine ⟨j, hj, ?_⟩
      unfold alnI
      have ho2 : (So x).testBit j = false := by cases hb : (So x).testBit j with
        | true => rw [hb] at ho; cases ho
        | false => rfl
      rw [if_neg (by rw [ho2]; simp), orN_tb]
      rw [Nat.testBit_or, Bool.or_eq_true, tb_mul2, tb_div2, Bool.and_eq_true, decide_eq_true_eq] at h1
      have key : ∃ z, know.testBit z = true ∧ gapN z j ≤ Sv x := by
        rcases h1 with ⟨a, b⟩ | b
        · refine ⟨j - (i + 1), b, ?_⟩
          unfold gapN
          split <;> omega
        · refine ⟨i + 1 + j, b, ?_⟩
          unfold gapN
          split <;> omega
      obtain ⟨z, hz, hg⟩ := key
      refine ⟨z, ?_, ?_⟩
      · rcases Nat.lt_or_ge z (Sn x) with c | c
        · exact c
        · rw [tb_lt hk c] at hz; cases hz
      · unfold alnT
        rw [if_pos hz, if_pos hg, Nat.testBit_two_pow]
        exact decide_eq_true rfl
theorem knw_eq {x : Sg} {k : Nat} (hk : k < Sn x) : ∀ q, alnK x k q = knwL x k q ∧ knwL x k q < 2 ^ Sn x
  | 0 => ⟨rfl, Nat.pow_lt_pow_right (by decide) hk⟩
  | q + 1 => by
    obtain ⟨a, b⟩ := knw_eq hk q
    have e : alnK x k (q + 1) = knwL x k (q + 1) := by
      rw [alnK, knwL, a]
      exact knw_tb b
    refine ⟨e, ?_⟩
    rw [knwL]
    refine Nat.or_lt_two_pow b (Nat.lt_of_le_of_lt (andn_le _ _) ?_)
    unfold nearF
    exact Nat.and_lt_two_pow _ (by unfold allF; have := Nat.two_pow_pos (Sn x); omega)
theorem knw_grow {x : Sg} {k : Nat} (hk : k < Sn x) (hn : Sn x ≤ 10) : ∀ q, (∀ z, z < q → stillP x k z = false) → q + 1 ≤ cntN (knwL x k q) 10
  | 0 => fun _ => by
    have := cnt_lt (a := 0) (b := knwL x k 0) (fun j h => by rw [Nat.zero_testBit] at h; cases h) (j := k) (Nat.zero_testBit _) (by rw [knwL, Nat.testBit_two_pow]; exact decide_eq_true rfl) 10 (by omega)
    omega
  | q + 1 => fun h => by
    have ih := knw_grow hk hn q (fun z hz => h z (by omega))
    have hq := of_decide_eq_false (h q (by omega))
    have sub : ∀ j, (knwL x k q).testBit j = true → (knwL x k (q + 1)).testBit j = true := fun j hj => by
      rw [knwL, Nat.testBit_or, hj]; rfl
    have : ∃ j, (knwL x k q).testBit j = false ∧ (knwL x k (q + 1)).testBit j = true := by
      by_cases c : ∃ j, (knwL x k q).testBit j = false ∧ (knwL x k (q + 1)).testBit j = true
      · exact c
      · exfalso
        refine hq (tb_ext (fun j => ?_))
        cases e1 : (knwL x k q).testBit j with
        | true => exact sub j e1
        | false =>
          cases e2 : (knwL x k (q + 1)).testBit j with
          | false => rfl
          | true => exact absurd ⟨j, e1, e2⟩ c
    obtain ⟨j, a, b⟩ := this
    have hj : j < 10 := by
      rcases Nat.lt_or_ge j (Sn x) with c | c
      · omega
      · rw [tb_lt (knw_eq hk (q + 1)).2 c] at b; cases b
    have := cnt_lt sub a b 10 hj
    omega
theorem along_idx {x : Sg} {k : Nat} (hk : k < Sn x) (hn : Sn x ≤ 10) : alM x k = alongS x k := by
  have eP : ∀ z, decide (alnK x k (z + 1) = alnK x k z) = stillP x k z := fun z => by
    unfold stillP
    rw [(knw_eq hk z).1, (knw_eq hk (z + 1)).1]
  have e1 : alM x k = fstN 1024 (stillP x k) := fstN_congr (fun z _ => eP z)
  obtain ⟨a1, a2, a3⟩ := fstN_spec (Sn x) (stillP x k)
  have lt : fstN (Sn x) (stillP x k) < Sn x := by
    rcases Nat.lt_or_ge (fstN (Sn x) (stillP x k)) (Sn x) with c | c
    · exact c
    · exfalso
      have g := knw_grow hk hn (Sn x) (fun z hz => a2 z (by omega))
      have b := cnt_top (knw_eq hk (Sn x)).2 10 hn
      have := cnt_le (knwL x k (Sn x)) (Sn x)
      omega
  rw [e1]
  unfold alongS
  refine fstN_of (by omega) a2 (Or.inr ?_)
  rcases a3 with a3 | a3
  · omega
  · exact a3
theorem Eqv.alnK {x y : Sg} (h : Eqv x y) {k : Nat} : ∀ q, alnK x k q = alnK y k q
  | 0 => rfl
  | q + 1 => by
    have e : ∀ w j, alnI x w j = alnI y w j := fun w j => by
      unfold alnI alnT
      rw [h.2.2.2.2.1, h.1, h.2.2.1]
    show Jvm.Pilot.CAdventStreetsLaw_law_r6393_05b98b.alnK x k q ||| orN (Sn x) (alnI x (Jvm.Pilot.CAdventStreetsLaw_law_r6393_05b98b.alnK x k q)) = Jvm.Pilot.CAdventStreetsLaw_law_r6393_05b98b.alnK y k q ||| orN (Sn y) (alnI y (Jvm.Pilot.CAdventStreetsLaw_law_r6393_05b98b.alnK y k q))
    rw [Eqv.alnK h q, h.1]
    congr 1
    exact orN_congr (fun j _ => e _ j)
theorem along_ans {x y : Sg} (h : Eqv x y) (hn : Sn x ≤ 10) (pk ph : Int32) : alongM x pk ph = alongR y pk ph := by
  unfold alongM alongR
  rw [h.1]
  split
  · rename_i q
    rw [Bool.and_eq_true] at q
    rw [h.1] at hn
    have hk := inW_at hn q.1
    have eM : alM x pk.toNatClampNeg = alM y pk.toNatClampNeg := by
      unfold alM
      exact fstN_congr (fun z _ => by rw [h.alnK, h.alnK])
    rw [eM, h.alnK, (knw_eq hk _).1, along_idx hk hn]
  · rfl
