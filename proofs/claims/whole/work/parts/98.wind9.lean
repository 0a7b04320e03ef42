/-! ===== answers of both: wind ===== -/
def sumN (f : Nat → Nat) : Nat → Nat
  | 0 => 0
  | i + 1 => sumN f i + f i
theorem sum_add (f : Nat → Nat) (a : Nat) : ∀ b, sumN f (a + b) = sumN f a + sumN (fun i => f (a + i)) b
  | 0 => rfl
  | b + 1 => by
    show sumN f (a + b) + f (a + b) = _
    rw [sum_add f a b, sumN]
    omega
theorem sum_congr {f g : Nat → Nat} : ∀ {m : Nat}, (∀ i, i < m → f i = g i) → sumN f m = sumN g m
  | 0, _ => rfl
  | m + 1, h => by rw [sumN, sumN, sum_congr (fun i hi => h i (by omega)), h m (by omega)]
theorem sum_mul (a : Nat) (f : Nat → Nat) : ∀ m, sumN (fun i => a * f i) m = a * sumN f m
  | 0 => rfl
  | m + 1 => by rw [sumN, sumN, sum_mul a f m, Nat.mul_add]
theorem sum_zero {f : Nat → Nat} : ∀ {m : Nat}, (∀ i, i < m → f i = 0) → sumN f m = 0
  | 0, _ => rfl
  | m + 1, h => by rw [sumN, sum_zero (fun i hi => h i (by omega)), h m (by omega)]
def wyL (l i c : Nat) : Nat → Nat
  | 0 => 1
  | j + 1 => wyL l i c j * (if l.testBit j = true then (if i.testBit j = true then c else 10 - c) else 1)
theorem wyM_congr (o : Nat) {u v : Nat} (c : Nat) : ∀ {m : Nat}, (∀ j, j < m → u.testBit j = v.testBit j) → wyM o u c m = wyM o v c m
  | 0, _ => rfl
  | m + 1, h => by rw [wyM, wyM, wyM_congr o c (fun j hj => h j (by omega)), h m (by omega)]
theorem wyL_congr (o : Nat) {u v : Nat} (c : Nat) : ∀ {m : Nat}, (∀ j, j < m → u.testBit j = v.testBit j) → wyL o u c m = wyL o v c m
  | 0, _ => rfl
  | m + 1, h => by rw [wyL, wyL, wyL_congr o c (fun j hj => h j (by omega)), h m (by omega)]
theorem tbp {u m : Nat} (h : u < 2 ^ m) (j : Nat) : (2 ^ m + u).testBit j = (decide (m = j) || u.testBit j) := by
  have e := Nat.two_pow_add_eq_or_of_lt h 1
  rw [Nat.mul_one] at e
  rw [e, Nat.testBit_or, Nat.testBit_two_pow]
theorem tbp_lt {u m : Nat} (h : u < 2 ^ m) {j : Nat} (hj : j < m) : (2 ^ m + u).testBit j = u.testBit j := by
  rw [tbp h, decide_eq_false (by omega), Bool.false_or]
theorem tbp_and {u m l : Nat} (h : u < 2 ^ m) : (2 ^ m + u) &&& l = if l.testBit m = true then 2 ^ m + (u &&& l) else u &&& l := by
  refine tb_ext (fun j => ?_)
  rw [Nat.testBit_and, tbp h]
  by_cases q : l.testBit m = true
  · rw [if_pos q, tbp (Nat.lt_of_le_of_lt Nat.and_le_left h), Nat.testBit_and]
    by_cases e : m = j
    · subst e; rw [decide_eq_true rfl, q]; rfl
    · rw [decide_eq_false e, Bool.false_or, Bool.false_or]
  · rw [if_neg q, Nat.testBit_and]
    by_cases e : m = j
    · subst e; rw [Bool.eq_false_iff.mpr q, Bool.and_false, Bool.and_false]
    · rw [decide_eq_false e, Bool.false_or]
def rsN (o l : Nat) : Nat → Nat
  | 0 => 0
  | j + 1 => rsN o l j + (if o.testBit j = true ∨ l.testBit j = true then 0 else 1)
def tF (o l c m : Nat) (B : Nat → Nat) (v : Nat) : Nat := if v &&& o = 0 then wyM o v c m * B (v &&& l) else 0
def tG (l c m : Nat) (B : Nat → Nat) (i : Nat) : Nat := if i &&& l = i then wyL l i c m * B i else 0
theorem wind_sum {o l c : Nat} (hc : c ≤ 10) (hl : ∀ j, l.testBit j = true → o.testBit j = false) : ∀ (m : Nat) (B : Nat → Nat), sumN (tF o l c m B) (2 ^ m) = 10 ^ rsN o l m * sumN (tG l c m B) (2 ^ m)
  | 0, B => by
    show 0 + tF o l c 0 B 0 = 10 ^ 0 * (0 + tG l c 0 B 0)
    unfold tF tG
    rw [Nat.zero_and, Nat.zero_and, if_pos rfl, if_pos rfl]
    simp [wyM, wyL]
  | m + 1, B => by
    have ih := wind_sum hc hl m
    rw [show 2 ^ (m + 1) = 2 ^ m + 2 ^ m by rw [Nat.pow_succ]; omega, sum_add, sum_add]
    have l0 : ∀ u, u < 2 ^ m → u.testBit m = false := fun u hu => tb_lt hu (Nat.le_refl _)
    have t1 : ∀ u, u < 2 ^ m → (2 ^ m + u).testBit m = true := fun u hu => by rw [tbp hu, decide_eq_true rfl]; rfl
    by_cases qo : o.testBit m = true
    · have ql : l.testBit m = false := by
        cases e : l.testBit m with
        | false => rfl
        | true => rw [hl m e] at qo; cases qo
      have a1 : sumN (tF o l c (m + 1) B) (2 ^ m) = sumN (tF o l c m B) (2 ^ m) := sum_congr (fun u hu => by
        unfold tF
        rw [wyM, if_pos qo, Nat.mul_one])
      have a2 : sumN (fun i => tF o l c (m + 1) B (2 ^ m + i)) (2 ^ m) = 0 := sum_zero (fun u hu => by
        unfold tF
        rw [if_neg]
        intro z
        have := congrArg (fun y => y.testBit m) z
        simp only [Nat.testBit_and, Nat.zero_testBit] at this
        rw [t1 u hu, qo] at this
        cases this)
      have b1 : sumN (tG l c (m + 1) B) (2 ^ m) = sumN (tG l c m B) (2 ^ m) := sum_congr (fun u hu => by
        unfold tG
        rw [wyL, ql, if_neg Bool.false_ne_true, Nat.mul_one])
      have b2 : sumN (fun i => tG l c (m + 1) B (2 ^ m + i)) (2 ^ m) = 0 := sum_zero (fun u hu => by
        unfold tG
        rw [if_neg]
        rw [tbp_and hu, ql, if_neg Bool.false_ne_true]
        have : u &&& l ≤ u := Nat.and_le_left
        have := Nat.two_pow_pos m
        omega)
      rw [a1, a2, b1, b2, ih B, rsN, if_pos (Or.inl qo)]
      rfl
    · have qo : o.testBit m = false := Bool.eq_false_iff.mpr qo
      have an : ∀ u, u < 2 ^ m → (2 ^ m + u) &&& o = u &&& o := fun u hu => by rw [tbp_and hu, qo, if_neg Bool.false_ne_true]
      have w1 : ∀ u, u < 2 ^ m → wyM o u c (m + 1) = (10 - c) * wyM o u c m := fun u hu => by
        rw [wyM, qo, if_neg Bool.false_ne_true, l0 u hu, if_neg Bool.false_ne_true, Nat.mul_comm]
      have w2 : ∀ u, u < 2 ^ m → wyM o (2 ^ m + u) c (m + 1) = c * wyM o u c m := fun u hu => by
        rw [wyM, qo, if_neg Bool.false_ne_true, t1 u hu, if_pos rfl, Nat.mul_comm, wyM_congr o c (fun j hj => tbp_lt hu hj)]
      have a1 : sumN (tF o l c (m + 1) B) (2 ^ m) = (10 - c) * sumN (tF o l c m B) (2 ^ m) := by
        rw [← sum_mul]
        refine sum_congr (fun u hu => ?_)
        unfold tF
        rw [w1 u hu]
        split
        · rw [Nat.mul_assoc]
        · rfl
      by_cases ql : l.testBit m = true
      · have a2 : sumN (fun i => tF o l c (m + 1) B (2 ^ m + i)) (2 ^ m) = c * sumN (tF o l c m (fun i => B (2 ^ m + i))) (2 ^ m) := by
          rw [← sum_mul]
          refine sum_congr (fun u hu => ?_)
          unfold tF
          rw [w2 u hu, an u hu, tbp_and hu, if_pos ql]
          split
          · rw [Nat.mul_assoc]
          · rfl
        have b1 : sumN (tG l c (m + 1) B) (2 ^ m) = (10 - c) * sumN (tG l c m B) (2 ^ m) := by
          rw [← sum_mul]
          refine sum_congr (fun u hu => ?_)
          unfold tG
          rw [wyL, if_pos ql, l0 u hu, if_neg Bool.false_ne_true]
          split
          · rw [Nat.mul_comm (wyL l u c m), Nat.mul_assoc]
          · rfl
        have b2 : sumN (fun i => tG l c (m + 1) B (2 ^ m + i)) (2 ^ m) = c * sumN (tG l c m (fun i => B (2 ^ m + i))) (2 ^ m) := by
          rw [← sum_mul]
          refine sum_congr (fun u hu => ?_)
          unfold tG
          rw [wyL, if_pos ql, t1 u hu, if_pos rfl, tbp_and hu, if_pos ql, wyL_congr l c (fun j hj => tbp_lt hu hj)]
          by_cases z : u &&& l = u
          · rw [if_pos z, if_pos (by rw [z]), Nat.mul_comm (wyL l u c m), Nat.mul_assoc]
          · rw [if_neg z, if_neg (by omega), Nat.mul_zero]
        rw [a1, a2, b1, b2, ih B, ih (fun i => B (2 ^ m + i)), rsN, if_pos (Or.inr ql), Nat.add_zero, Nat.mul_add, Nat.mul_left_comm, Nat.mul_left_comm c]
      · have ql : l.testBit m = false := Bool.eq_false_iff.mpr ql
        have a2 : sumN (fun i => tF o l c (m + 1) B (2 ^ m + i)) (2 ^ m) = c * sumN (tF o l c m B) (2 ^ m) := by
          rw [← sum_mul]
          refine sum_congr (fun u hu => ?_)
          unfold tF
          rw [w2 u hu, an u hu, tbp_and hu, ql, if_neg Bool.false_ne_true]
          split
          · rw [Nat.mul_assoc]
          · rfl
        have b1 : sumN (tG l c (m + 1) B) (2 ^ m) = sumN (tG l c m B) (2 ^ m) := sum_congr (fun u hu => by
          unfold tG
          rw [wyL, ql, if_neg Bool.false_ne_true, Nat.mul_one])
        have b2 : sumN (fun i => tG l c (m + 1) B (2 ^ m + i)) (2 ^ m) = 0 := sum_zero (fun u hu => by
          unfold tG
          rw [if_neg]
          rw [tbp_and hu, ql, if_neg Bool.false_ne_true]
          have : u &&& l ≤ u := Nat.and_le_left
          have := Nat.two_pow_pos m
          omega)
        rw [a1, a2, b1, b2, ih B, rsN, if_neg (by rw [qo, ql]; simp), ← Nat.add_mul, show 10 - c + c = 10 by omega, Nat.pow_succ, ← Nat.mul_assoc, Nat.mul_comm 10]
        rfl
theorem wyL_pow {l i c : Nat} (h : ∀ j, i.testBit j = true → l.testBit j = true) : ∀ m, wyL l i c m = c ^ cntN i m * (10 - c) ^ (cntN l m - cntN i m)
  | 0 => rfl
  | m + 1 => by
    have le := cnt_mono h m
    rw [wyL, wyL_pow h m, cntN, cntN]
    by_cases q : i.testBit m = true
    · rw [if_pos (h m q), if_pos q, if_pos q, if_pos (h m q), Nat.pow_succ, show cntN l m + 1 - (cntN i m + 1) = cntN l m - cntN i m by omega, Nat.mul_right_comm]
    · rw [if_neg q, if_neg q, Nat.add_zero]
      by_cases ql : l.testBit m = true
      · rw [if_pos ql, if_pos ql, show cntN l m + 1 - cntN i m = cntN l m - cntN i m + 1 by omega, Nat.pow_succ, Nat.mul_assoc]
      · rw [if_neg ql, if_neg ql, Nat.mul_one, Nat.add_zero]
theorem dn_eq {o l : Nat} (hl : ∀ j, l.testBit j = true → o.testBit j = false) : ∀ m, dnM o m = 10 ^ rsN o l m * 10 ^ cntN l m
  | 0 => rfl
  | m + 1 => by
    rw [dnM, dn_eq hl m, rsN, cntN]
    by_cases ql : l.testBit m = true
    · rw [if_pos (Or.inr ql), if_pos ql, hl m ql, if_neg Bool.false_ne_true, Nat.add_zero, Nat.pow_succ, Nat.mul_assoc]
    · rw [if_neg ql, Nat.add_zero]
      by_cases qo : o.testBit m = true
      · rw [if_pos qo, if_pos (Or.inl qo), Nat.mul_one, Nat.add_zero]
      · rw [if_neg qo, if_neg (fun z => z.elim qo ql), Nat.pow_succ, Nat.mul_right_comm]
theorem wdL_sum (Z : Nat → Nat) (k n c : Nat) : ∀ m, wdL Z k n c m = sumN (wdT Z k n c) m
  | 0 => rfl
  | m + 1 => by rw [wdL, sumN, wdL_sum Z k n c m]
theorem wwL_sum (x : Sg) (w n ch part : Nat) : ∀ m, wwL x w n ch part m = sumN (wwT x w n ch part) m
  | 0 => rfl
  | m + 1 => by rw [wwL, sumN, wwL_sum x w n ch part m]
theorem wdP_eq {Z : Nat → Nat} {x : Sg} (h : Sim Z 0 x) {k : Nat} (hk : k < Sn x) (n : Nat) {v : Nat} (hv : v < 2 ^ Sn x) : wdP Z k n v = behB x k n (v &&& andn (touchF x k) (So x)) (touchF x k) := by
  have s := h.copy 55
  have e : cpW Z 0 55 59 = So x := s.1.2.2.2.2.1
  have so := h.2.2.2.2
  unfold wdP behB
  rw [e]
  have a := ((s.o (o := So x ||| v) (Nat.or_lt_two_pow so hv)).goes n).1.2.2.2.2.1
  rw [show goW (upN (cpW Z 0 55) 59 (So x ||| v)) n 59 = So (turnN (wO x (So x ||| v)) n) from a]
  obtain ⟨cl, ck⟩ := touch_closed h.2.2.1.1 hk
  have ag : Ag (touchF x k) (wO x (So x ||| (v &&& andn (touchF x k) (So x)))) (wO x (So x ||| v)) := by
    refine ⟨rfl, rfl, rfl, Nat.or_lt_two_pow so (Nat.lt_of_le_of_lt Nat.and_le_left hv), Nat.or_lt_two_pow so hv, fun j hj => ⟨rfl, fun hp => ⟨rfl, fun _ => rfl, ?_⟩⟩⟩
    show (So x ||| (v &&& andn (touchF x k) (So x))).testBit j = (So x ||| v).testBit j
    rw [Nat.testBit_or, Nat.testBit_or, Nat.testBit_and, andn_tb, hp]
    cases (So x).testBit j <;> simp
  have t := (ag.turns cl n).1
  exact ((t.2.2.2.2.2 k (by rw [turnP_e]; exact hk)).2 ck).2.2.symm
theorem wd_eq {Z : Nat → Nat} {x : Sg} (h : Sim Z 0 x) {k : Nat} (hk : k < Sn x) (n : Nat) {c : Nat} (hc : c ≤ 10) : wdL Z k n c (2 ^ Z 0) = 10 ^ rsN (So x) (andn (touchF x k) (So x)) (Sn x) * wwF x k n c (touchF x k) ∧ dnM (Z 4) (Z 0) = 10 ^ rsN (So x) (andn (touchF x k) (So x)) (Sn x) * 10 ^ onesN (andn (touchF x k) (So x)) := by
  have hZ : Z 0 = Sn x := h.1.1
  have h4 : Z 4 = So x := h.1.2.2.2.2.1
  have h10 := h.2.2.1.1
  have pl : touchF x k < 2 ^ Sn x := touchL_lt hk _
  have ll : andn (touchF x k) (So x) < 2 ^ Sn x := Nat.lt_of_le_of_lt (andn_le _ _) pl
  have hl : ∀ j, (andn (touchF x k) (So x)).testBit j = true → (So x).testBit j = false := fun j hj => by
    rw [andn_tb, Bool.and_eq_true] at hj
    simpa using hj.2
  rw [wdL_sum, hZ, h4]
  have top : ∀ a, a < 2 ^ Sn x → onesN a = cntN a (Sn x) := fun a ha => cnt_top ha 10 h10
  constructor
  · unfold wwF
    rw [wwL_sum]
    have s1 : sumN (wdT Z k n c) (2 ^ Sn x) = sumN (tF (So x) (andn (touchF x k) (So x)) c (Sn x) (fun i => if behB x k n i (touchF x k) = true then 1 else 0)) (2 ^ Sn x) := sum_congr (fun v hv => by
      unfold wdT tF
      rw [h4, hZ, wdP_eq h hk n hv]
      generalize wyM (So x) v c (Sn x) = w
      by_cases q1 : v &&& So x = 0
      · rw [if_pos q1]
        show _ = w * (if behB x k n (v &&& andn (touchF x k) (So x)) (touchF x k) = true then 1 else 0)
        by_cases q2 : behB x k n (v &&& andn (touchF x k) (So x)) (touchF x k) = true
        · rw [if_pos q2, Nat.mul_one]
          by_cases q3 : 0 < w
          · rw [if_pos ⟨q1, q3, q2⟩]
          · rw [if_neg (fun z => q3 z.2.1)]
            omega
        · rw [if_neg q2, if_neg (fun z => q2 z.2.2)]
          rfl
      · rw [if_neg q1, if_neg (fun z => q1 z.1)])
    have s2 : ∀ i, i < 2 ^ Sn x → tG (andn (touchF x k) (So x)) c (Sn x) (fun i => if behB x k n i (touchF x k) = true then 1 else 0) i = wwT x k n c (touchF x k) i := fun i hi => by
      unfold tG wwT
      by_cases q1 : i &&& andn (touchF x k) (So x) = i
      · have q2 := sub_andn q1
        have e : wyL (andn (touchF x k) (So x)) i c (Sn x) = wwW c (touchF x k) (So x) i := by
          unfold wwW
          rw [wyL_pow (andn_0 q2), top _ hi, top _ ll]
        rw [if_pos q1, e]
        show wwW c (touchF x k) (So x) i * (if behB x k n i (touchF x k) = true then 1 else 0) = _
        by_cases q3 : behB x k n i (touchF x k) = true
        · rw [if_pos q3, Nat.mul_one]
          by_cases q4 : wwW c (touchF x k) (So x) i = 0
          · rw [if_neg (fun z => z.2.1 q4), q4]
          · rw [if_pos ⟨q2, q4, q3⟩]
        · rw [if_neg q3, if_neg (fun z => q3 z.2.2)]
          rfl
      · rw [if_neg q1, if_neg (fun z => q1 (andn_sub z.1))]
    have s3 : sumN (tG (andn (touchF x k) (So x)) c (Sn x) (fun i => if behB x k n i (touchF x k) = true then 1 else 0)) (2 ^ Sn x) = sumN (wwT x k n c (touchF x k)) (andn (touchF x k) (So x) + 1) := by
      rw [show 2 ^ Sn x = (andn (touchF x k) (So x) + 1) + (2 ^ Sn x - (andn (touchF x k) (So x) + 1)) by omega, sum_add]
      rw [sum_zero (f := fun i => tG (andn (touchF x k) (So x)) c (Sn x) (fun i => if behB x k n i (touchF x k) = true then 1 else 0) (andn (touchF x k) (So x) + 1 + i)) (fun i hi => by
        show tG (andn (touchF x k) (So x)) c (Sn x) (fun i => if behB x k n i (touchF x k) = true then 1 else 0) (andn (touchF x k) (So x) + 1 + i) = 0
        unfold tG
        rw [if_neg]
        intro z
        have : (andn (touchF x k) (So x) + 1 + i) &&& andn (touchF x k) (So x) ≤ andn (touchF x k) (So x) := Nat.and_le_right
        omega), Nat.add_zero]
      exact sum_congr (fun i hi => s2 i (by omega))
    rw [s1, wind_sum hc hl, s3]
  · rw [dn_eq hl, top _ ll]
theorem frac {a b K : Nat} (hK : 0 < K) : (K * a) / Nat.gcd (K * a) (K * b) = a / Nat.gcd a b ∧ (K * b) / Nat.gcd (K * a) (K * b) = b / Nat.gcd a b := by
  rw [Nat.gcd_mul_left, Nat.mul_div_mul_left _ _ hK, Nat.mul_div_mul_left _ _ hK]
  exact ⟨rfl, rfl⟩
theorem wind_ans {Z : Nat → Nat} {x : Sg} (h : Sim Z 0 x) (pk pn pc ph : Int32) : windM Z pk pn pc ph = windR x pk pn pc ph := by
  unfold windM windR
  rw [show Sn (sg Z 0) = Sn x from h.1.1]
  by_cases q : (inW pk (Sn x) && inI pn (nI 0) (nI 24) && inI pc (nI 0) (nI 10) && inI ph (nI 0) (nI 1)) = true
  · rw [if_pos q, if_pos q]
    rw [Bool.and_eq_true, Bool.and_eq_true, Bool.and_eq_true] at q
    have hk := inW_at h.2.2.1.1 q.1.1.1
    obtain ⟨c, ec, -, lc⟩ := inI_t (by decide) q.1.2 (by decide)
    have cc : pc.toNatClampNeg = c := by rw [ec]; exact nI_clamp (by omega)
    obtain ⟨a, b⟩ := wd_eq h hk pn.toNatClampNeg (c := pc.toNatClampNeg) (by rw [cc]; exact lc)
    rw [a, b]
    obtain ⟨f1, f2⟩ := frac (a := wwF x pk.toNatClampNeg pn.toNatClampNeg pc.toNatClampNeg (touchF x pk.toNatClampNeg)) (b := 10 ^ onesN (andn (touchF x pk.toNatClampNeg) (So x))) (ten_pos (rsN (So x) (andn (touchF x pk.toNatClampNeg) (So x)) (Sn x)))
    rw [f1, f2]
  · rw [if_neg q, if_neg q]
