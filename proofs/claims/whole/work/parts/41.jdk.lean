/-! ===== the JDK's members, tape, trace, statics ===== -/
def cntN (x : Nat) : Nat → Nat
  | 0 => 0
  | k + 1 => cntN x k + (if x.testBit k then 1 else 0)
/-- how many of the bits 0 .. 9 -/
def onesN (x : Nat) : Nat := cntN x 10
def bc1 (x : Int32) : Int32 := x - (((x).toUInt32 >>> ((nI 1).toUInt32 &&& Int32.toUInt32 31)).toInt32 &&& nI 1431655765)
def bc2 (x : Int32) : Int32 := (x &&& nI 858993459) + (((x).toUInt32 >>> ((nI 2).toUInt32 &&& Int32.toUInt32 31)).toInt32 &&& nI 858993459)
def bc3 (x : Int32) : Int32 := (x + ((x).toUInt32 >>> ((nI 4).toUInt32 &&& Int32.toUInt32 31)).toInt32) &&& nI 252645135
def bc4 (x : Int32) : Int32 := x + ((x).toUInt32 >>> ((nI 8).toUInt32 &&& Int32.toUInt32 31)).toInt32
def bc5 (x : Int32) : Int32 := x + ((x).toUInt32 >>> ((nI 16).toUInt32 &&& Int32.toUInt32 31)).toInt32
theorem bc_ones : ∀ k, k < 1024 → bc5 (bc4 (bc3 (bc2 (bc1 (nI k))))) &&& nI 63 = nI (onesN k) := by decide +kernel
def donI (i : Nat) (v : Int32) (f : Nat → Int32) : Nat → Int32 := fun k => if k < i then v else f k
theorem donI_0 {v : Int32} {f : Nat → Int32} : f = donI 0 v f := by funext k; simp [donI]
theorem donI_at {i k : Nat} {v : Int32} {f : Nat → Int32} (h : k < i) : donI i v f k = v := if_pos h
theorem donI_s {i : Nat} {v : Int32} {f : Nat → Int32} : upd (donI i v f) i v = donI (i + 1) v f := by
  funext k
  by_cases h : k = i
  · subst h; rw [pk_us, donI_at (by omega)]
  · rw [pk_un h]
    unfold donI
    by_cases h1 : k < i
    · rw [if_pos h1, if_pos (by omega)]
    · rw [if_neg h1, if_neg (by omega)]
def trc (t : Nat × (Nat → Nat)) (v : Nat) : Nat × (Nat → Nat) := if t.1 < 16 then (t.1 + 1, upN t.2 t.1 v) else t
theorem trc_le {t : Nat × (Nat → Nat)} {v : Nat} (h : t.1 ≤ 16) : (trc t v).1 ≤ 16 := by
  unfold trc
  split
  · show t.1 + 1 ≤ 16
    omega
  · exact h
/-- lo ≤ v ≤ hi -/
def inI (v lo hi : Int32) : Bool := decide (lo ≤ v) && decide (v ≤ hi)
theorem inI_lo {v lo hi : Int32} (h : v < lo) : inI v lo hi = false := by
  unfold inI
  rw [decide_eq_false (Int32.not_le.mpr h)]; rfl
theorem inI_hi {v lo hi : Int32} (h : hi < v) : inI v lo hi = false := by
  unfold inI
  rw [decide_eq_false (p := v ≤ hi) (Int32.not_le.mpr h), Bool.and_false]
theorem inI_ok {v lo hi : Int32} (h1 : ¬ v < lo) (h2 : ¬ hi < v) : inI v lo hi = true := by
  unfold inI
  rw [decide_eq_true (Int32.not_lt.mp h1), decide_eq_true (Int32.not_lt.mp h2)]; rfl
theorem inI_ge {v lo : Int32} {k : Nat} (hk : k + 1 < 2 ^ 31) (h : nI (k + 1) ≤ v) : inI v lo (nI k) = false := inI_hi (by
  rw [Int32.lt_iff_toInt_lt, nI_toInt (by omega)]
  rw [Int32.le_iff_toInt_le, nI_toInt hk] at h
  omega)
theorem inI_ok2 {v lo : Int32} {k : Nat} (hk : k + 1 < 2 ^ 31) (h1 : ¬ v < lo) (h2 : ¬ nI (k + 1) ≤ v) : inI v lo (nI k) = true := inI_ok h1 (by
  rw [Int32.lt_iff_toInt_lt, nI_toInt (by omega)]
  rw [Int32.le_iff_toInt_le, nI_toInt hk] at h2
  omega)
theorem inI_01 {v : Int32} (h0 : ¬ v = 0) (h1 : ¬ v = nI 1) : inI v (nI 0) (nI 1) = false := by
  by_cases a : v < nI 0
  · exact inI_lo a
  · refine inI_hi ?_
    have e0 := h0
    rw [Int32.lt_iff_toInt_lt, nI_toInt (by decide)] at a ⊢
    have a0 : ¬ v.toInt = 0 := fun q => h0 (Int32.toInt_inj.mp (by rw [q]; decide))
    have a1 : ¬ v.toInt = 1 := fun q => h1 (Int32.toInt_inj.mp (by rw [q]; decide))
    omega
theorem inI_nat {a lo hi : Nat} (h : lo ≤ a) (h2 : a ≤ hi) (h3 : hi < 2 ^ 31) : inI (nI a) (nI lo) (nI hi) = true := inI_ok (by rw [nI_ltI (by omega) (by omega)]; omega) (by rw [nI_ltI (by omega) (by omega)]; omega)
theorem inI_t {v : Int32} {lo hi : Nat} (h3 : hi < 2 ^ 31) (h : inI v (nI lo) (nI hi) = true) (hl : lo ≤ hi) : ∃ k : Nat, v = nI k ∧ lo ≤ k ∧ k ≤ hi := by
  unfold inI at h
  rw [Bool.and_eq_true, decide_eq_true_eq, decide_eq_true_eq, Int32.le_iff_toInt_le, Int32.le_iff_toInt_le, nI_toInt (by omega), nI_toInt h3] at h
  refine ⟨v.toInt.toNat, Int32.toInt_inj.mp ?_, by omega, by omega⟩
  rw [nI_toInt (by omega)]
  omega
theorem inI_f {lo hi k : Nat} (h3 : hi < 2 ^ 31) (hk : k < 2 ^ 31) (h : inI (nI k) (nI lo) (nI hi) = false) (hl : lo ≤ hi) : k < lo ∨ hi < k := by
  by_cases a : k < lo
  · exact Or.inl a
  · by_cases b : hi < k
    · exact Or.inr b
    · rw [inI_nat (by omega) (by omega) h3] at h
      cases h
/-- 0 ≤ v < n -/
def inW (v : Int32) (n : Nat) : Bool := decide (0 ≤ v) && decide (v < nI n)
theorem inW_t {v : Int32} {n : Nat} (hn : n < 2 ^ 31) (h : inW v n = true) : ∃ k : Nat, v = nI k ∧ k < n := by
  unfold inW at h
  rw [Bool.and_eq_true, decide_eq_true_eq, decide_eq_true_eq, Int32.le_iff_toInt_le, Int32.lt_iff_toInt_lt, nI_toInt hn, Int32.toInt_zero] at h
  refine ⟨v.toInt.toNat, Int32.toInt_inj.mp ?_, by omega⟩
  rw [nI_toInt (by omega)]
  omega
theorem inW_nat {k n : Nat} (h : k < n) (hn : n < 2 ^ 31) : inW (nI k) n = true := by
  unfold inW
  rw [decide_eq_true (nI_pos' (by omega)), decide_eq_true (nI_lt h hn)]; rfl
def itP : Nat → Nat → Nat
  | 0, k => k
  | i + 1, k => pr0 (itP i k)
theorem pr0_le : ∀ k, k ≤ 5 → pr0 k ≤ 5 := by decide
theorem itP_le {k : Nat} (i : Nat) (h : k ≤ 5) : itP i k ≤ 5 := by
  induction i with
  | zero => exact h
  | succ i ih => exact pr0_le _ ih
def isA (own kd : Nat) : Bool := decide (kd = 0) || decide (kd = own) || (decide (kd = 1) && (decide (own = 2) || decide (own = 3))) || (decide (kd = 4) && decide (own = 5))
theorem isA_t0 : ∀ k, k ≤ 5 → ∀ kd, kd ≤ 5 → ∀ i, i ≤ 6 → itP i k = kd → isA k kd = true := by decide +kernel
theorem isA_t {k kd i : Nat} (hk : k ≤ 5) (hd : kd ≤ 5) (hi : i ≤ 6) (h : itP i k = kd) : isA k kd = true := isA_t0 k hk kd hd i hi h
theorem isA_f0 : ∀ k, k ≤ 5 → ∀ kd, kd ≤ 5 → isA k kd = true → ∃ j, j < 6 ∧ itP j k = kd := by decide +kernel
theorem isA_f {k kd i : Nat} (hk : k ≤ 5) (hd : kd ≤ 5) (hi : 6 ≤ i) (h : ∀ j, j < i → itP j k ≠ kd) (_ : itP i k ≠ kd) : isA k kd = false := by
  by_cases q : isA k kd = true
  · obtain ⟨j, hj, e⟩ := isA_f0 k hk kd hd q
    exact absurd e (h j (by omega))
  · exact Bool.eq_false_iff.mpr q
def bodN (k w : Nat) : Nat := if w = 0 then pr1 k else pr2 k
/-- Euclid behind i rounds -/
def gcI (x y i g h : Nat) : Prop := Nat.gcd g h = Nat.gcd x y ∧ g < 2 ^ 45 ∧ h < 2 ^ 45 ∧ (i = 0 ∨ (h ≤ g ∧ g * h * 2 ^ (i - 1) < 2 ^ 91))
theorem gcI.init {x y : Nat} (hx : x < 2 ^ 45) (hy : y < 2 ^ 45) : gcI x y 0 x y := ⟨rfl, hx, hy, Or.inl rfl⟩
theorem gcI.step {x y i g h : Nat} (H : gcI x y i g h) (h0 : 0 < h) : gcI x y (i + 1) h (g % h) := by
  obtain ⟨a, b, c, d⟩ := H
  have hm : g % h < h := Nat.mod_lt _ h0
  refine ⟨?_, c, by omega, Or.inr ⟨by omega, ?_⟩⟩
  · rw [← a, Nat.gcd_comm h, ← Nat.gcd_rec, Nat.gcd_comm]
  · show h * (g % h) * 2 ^ (i + 1 - 1) < 2 ^ 91
    rw [Nat.add_sub_cancel]
    rcases d with rfl | ⟨d1, d2⟩
    · rw [Nat.pow_zero, Nat.mul_one]
      have h1 : h * (g % h) ≤ 2 ^ 45 * 2 ^ 45 := Nat.mul_le_mul (by omega) (by omega)
      have h2 : 2 ^ 45 * 2 ^ 45 < 2 ^ 91 := by decide
      omega
    · cases i with
      | zero =>
        rw [Nat.pow_zero, Nat.mul_one]
        have h1 : h * (g % h) ≤ 2 ^ 45 * 2 ^ 45 := Nat.mul_le_mul (by omega) (by omega)
        have h2 : 2 ^ 45 * 2 ^ 45 < 2 ^ 91 := by decide
        omega
      | succ i =>
        rw [Nat.add_sub_cancel] at d2
        have h2 : 2 * (g % h) ≤ g := by
          have q := Nat.div_add_mod g h
          have q1 : 1 ≤ g / h := (Nat.one_le_div_iff h0).mpr d1
          have q2 : h * 1 ≤ h * (g / h) := Nat.mul_le_mul_left h q1
          omega
        have h3 : h * (g % h) * 2 ^ (i + 1) = h * (2 * (g % h)) * 2 ^ i := by
          rw [Nat.pow_succ, Nat.mul_left_comm h 2, Nat.mul_comm (2 ^ i) 2, ← Nat.mul_assoc, Nat.mul_comm (h * (g % h)) 2]
        rw [h3]
        have h4 : h * (2 * (g % h)) * 2 ^ i ≤ g * h * 2 ^ i := Nat.mul_le_mul_right _ (by rw [Nat.mul_comm g h]; exact Nat.mul_le_mul_left h h2)
        omega
theorem gcI.done {x y i g h : Nat} (H : gcI x y i g h) (he : h = 0 ∨ 200 ≤ i) : g = Nat.gcd x y := by
  obtain ⟨a, b, c, d⟩ := H
  rcases Nat.eq_zero_or_pos h with q | q
  · rw [← a, q, Nat.gcd_zero_right]
  · have hi : 200 ≤ i := by omega
    rcases d with d | ⟨d1, d2⟩
    · omega
    · have h1 : 1 ≤ g * h := Nat.mul_pos (by omega) q
      have h2 : 2 ^ 199 ≤ 2 ^ (i - 1) := Nat.pow_le_pow_right (by decide) (by omega)
      have h3 : 1 * 2 ^ 199 ≤ g * h * 2 ^ (i - 1) := Nat.mul_le_mul h1 h2
      have h4 : 2 ^ 91 < 1 * 2 ^ 199 := by decide
      omega
set_option maxRecDepth 100000 in
set_option maxHeartbeats 4000000 in
theorem c_J6_bitCount_0f7a4 (l : Launch) (D : va_G) (cA : Nat → ClassId) (tt : Nat → Nat) (k : Nat) (hk : k < 1024) (sz : Nat) : Ci l D cA tt yJ6_bitCount_0f7a4 wsJ6_bitCount_0f7a4 ({ frames := 0, cells := 0, slots := 0, locals := 0 } : Room) [.int (nI (k))] sz ([] : va_W) ([] : va_W) (nI (onesN k)) := by
  refine Ci.mk (cc := cJ6_bitCount_0f7a4) (maxL := 1) (ty := .int) (by decide) rfl rfl (Nat.le_of_ble_eq_true rfl) ?_
  intro p e s m below meth c A Q ls hB hl hend
  obtain ⟨⟨hx, hb, hml, hown, hts⟩, hP, hK, hD, hS, hA, hE⟩ := hB
  have hown : s.vm.findClass RJ6 = some m.cls := hown
  have hl : lv_has ls 1 [(0, .int (nI (k)))] := hl
  refine lv_iload_n hx hb dJ6_bitCount_0f7a4_0 rfl (lv_at hl 0 rfl) ?_
  refine lv_iload_n hx hb dJ6_bitCount_0f7a4_1 rfl (lv_at hl 0 rfl) ?_
  refine lv_iconst (v := nI (1)) hx hb dJ6_bitCount_0f7a4_2 (by decide) ?_
  refine lv_iushr (v := ((nI (k)).toUInt32 >>> ((nI (1)).toUInt32 &&& Int32.toUInt32 31)).toInt32) hx hb dJ6_bitCount_0f7a4_3 rfl ?_
  refine lv_ldcw (v := (1431655765)) hx hb hown (hts (.constant RJ6 265 (1431655765)) (List.mem_of_getElem? (i := 1) rfl)) dJ6_bitCount_0f7a4_4 ?_
  refine vn_i (v := nI 1431655765) (by decide) ?_
  refine lv_iand hx hb dJ6_bitCount_0f7a4_7 ?_
  refine lv_isub hx hb dJ6_bitCount_0f7a4_8 ?_
  refine lv_istore_n (lv' := [(0, .int ((nI (k)) - ((((nI (k)).toUInt32 >>> ((nI (1)).toUInt32 &&& Int32.toUInt32 31)).toInt32) &&& (nI (1431655765)))))]) hx hb dJ6_bitCount_0f7a4_9 rfl hl (by decide) rfl (fun ls hl => ?_)
  refine lv_iload_n hx hb dJ6_bitCount_0f7a4_10 rfl (lv_at hl 0 rfl) ?_
  refine lv_ldcw (v := (858993459)) hx hb hown (hts (.constant RJ6 266 (858993459)) (List.mem_of_getElem? (i := 2) rfl)) dJ6_bitCount_0f7a4_11 ?_
  refine vn_i (v := nI 858993459) (by decide) ?_
  refine lv_iand hx hb dJ6_bitCount_0f7a4_14 ?_
  refine lv_iload_n hx hb dJ6_bitCount_0f7a4_15 rfl (lv_at hl 0 rfl) ?_
  refine lv_iconst (v := nI (2)) hx hb dJ6_bitCount_0f7a4_16 (by decide) ?_
  refine lv_iushr (v := (((nI (k)) - ((((nI (k)).toUInt32 >>> ((nI (1)).toUInt32 &&& Int32.toUInt32 31)).toInt32) &&& (nI (1431655765)))).toUInt32 >>> ((nI (2)).toUInt32 &&& Int32.toUInt32 31)).toInt32) hx hb dJ6_bitCount_0f7a4_17 rfl ?_
  refine lv_ldcw (v := (858993459)) hx hb hown (hts (.constant RJ6 266 (858993459)) (List.mem_of_getElem? (i := 2) rfl)) dJ6_bitCount_0f7a4_18 ?_
  refine vn_i (v := nI 858993459) (by decide) ?_
  refine lv_iand hx hb dJ6_bitCount_0f7a4_21 ?_
  refine lv_iadd hx hb dJ6_bitCount_0f7a4_22 ?_
  refine lv_istore_n (lv' := [(0, .int ((((nI (k)) - ((((nI (k)).toUInt32 >>> ((nI (1)).toUInt32 &&& Int32.toUInt32 31)).toInt32) &&& (nI (1431655765)))) &&& (nI (858993459))) + (((((nI (k)) - ((((nI (k)).toUInt32 >>> ((nI (1)).toUInt32 &&& Int32.toUInt32 31)).toInt32) &&& (nI (1431655765)))).toUInt32 >>> ((nI (2)).toUInt32 &&& Int32.toUInt32 31)).toInt32) &&& (nI (858993459)))))]) hx hb dJ6_bitCount_0f7a4_23 rfl hl (by decide) rfl (fun ls hl => ?_)
  refine lv_iload_n hx hb dJ6_bitCount_0f7a4_24 rfl (lv_at hl 0 rfl) ?_
  refine lv_iload_n hx hb dJ6_bitCount_0f7a4_25 rfl (lv_at hl 0 rfl) ?_
  refine lv_iconst (v := nI (4)) hx hb dJ6_bitCount_0f7a4_26 (by decide) ?_
  refine lv_iushr (v := (((((nI (k)) - ((((nI (k)).toUInt32 >>> ((nI (1)).toUInt32 &&& Int32.toUInt32 31)).toInt32) &&& (nI (1431655765)))) &&& (nI (858993459))) + (((((nI (k)) - ((((nI (k)).toUInt32 >>> ((nI (1)).toUInt32 &&& Int32.toUInt32 31)).toInt32) &&& (nI (1431655765)))).toUInt32 >>> ((nI (2)).toUInt32 &&& Int32.toUInt32 31)).toInt32) &&& (nI (858993459)))).toUInt32 >>> ((nI (4)).toUInt32 &&& Int32.toUInt32 31)).toInt32) hx hb dJ6_bitCount_0f7a4_27 rfl ?_
  refine lv_iadd hx hb dJ6_bitCount_0f7a4_28 ?_
  refine lv_ldcw (v := (252645135)) hx hb hown (hts (.constant RJ6 267 (252645135)) (List.mem_of_getElem? (i := 3) rfl)) dJ6_bitCount_0f7a4_29 ?_
  refine vn_i (v := nI 252645135) (by decide) ?_
  refine lv_iand hx hb dJ6_bitCount_0f7a4_32 ?_
  refine lv_istore_n (lv' := [(0, .int ((((((nI (k)) - ((((nI (k)).toUInt32 >>> ((nI (1)).toUInt32 &&& Int32.toUInt32 31)).toInt32) &&& (nI (1431655765)))) &&& (nI (858993459))) + (((((nI (k)) - ((((nI (k)).toUInt32 >>> ((nI (1)).toUInt32 &&& Int32.toUInt32 31)).toInt32) &&& (nI (1431655765)))).toUInt32 >>> ((nI (2)).toUInt32 &&& Int32.toUInt32 31)).toInt32) &&& (nI (858993459)))) + ((((((nI (k)) - ((((nI (k)).toUInt32 >>> ((nI (1)).toUInt32 &&& Int32.toUInt32 31)).toInt32) &&& (nI (1431655765)))) &&& (nI (858993459))) + (((((nI (k)) - ((((nI (k)).toUInt32 >>> ((nI (1)).toUInt32 &&& Int32.toUInt32 31)).toInt32) &&& (nI (1431655765)))).toUInt32 >>> ((nI (2)).toUInt32 &&& Int32.toUInt32 31)).toInt32) &&& (nI (858993459)))).toUInt32 >>> ((nI (4)).toUInt32 &&& Int32.toUInt32 31)).toInt32)) &&& (nI (252645135))))]) hx hb dJ6_bitCount_0f7a4_33 rfl hl (by decide) rfl (fun ls hl => ?_)
  refine lv_iload_n hx hb dJ6_bitCount_0f7a4_34 rfl (lv_at hl 0 rfl) ?_
  refine lv_iload_n hx hb dJ6_bitCount_0f7a4_35 rfl (lv_at hl 0 rfl) ?_
  refine lv_bipush (v := nI (8)) hx hb dJ6_bitCount_0f7a4_36 (by decide) ?_
  refine lv_iushr (v := (((((((nI (k)) - ((((nI (k)).toUInt32 >>> ((nI (1)).toUInt32 &&& Int32.toUInt32 31)).toInt32) &&& (nI (1431655765)))) &&& (nI (858993459))) + (((((nI (k)) - ((((nI (k)).toUInt32 >>> ((nI (1)).toUInt32 &&& Int32.toUInt32 31)).toInt32) &&& (nI (1431655765)))).toUInt32 >>> ((nI (2)).toUInt32 &&& Int32.toUInt32 31)).toInt32) &&& (nI (858993459)))) + ((((((nI (k)) - ((((nI (k)).toUInt32 >>> ((nI (1)).toUInt32 &&& Int32.toUInt32 31)).toInt32) &&& (nI (1431655765)))) &&& (nI (858993459))) + (((((nI (k)) - ((((nI (k)).toUInt32 >>> ((nI (1)).toUInt32 &&& Int32.toUInt32 31)).toInt32) &&& (nI (1431655765)))).toUInt32 >>> ((nI (2)).toUInt32 &&& Int32.toUInt32 31)).toInt32) &&& (nI (858993459)))).toUInt32 >>> ((nI (4)).toUInt32 &&& Int32.toUInt32 31)).toInt32)) &&& (nI (252645135))).toUInt32 >>> ((nI (8)).toUInt32 &&& Int32.toUInt32 31)).toInt32) hx hb dJ6_bitCount_0f7a4_38 rfl ?_
  refine lv_iadd hx hb dJ6_bitCount_0f7a4_39 ?_
  refine lv_istore_n (lv' := [(0, .int (((((((nI (k)) - ((((nI (k)).toUInt32 >>> ((nI (1)).toUInt32 &&& Int32.toUInt32 31)).toInt32) &&& (nI (1431655765)))) &&& (nI (858993459))) + (((((nI (k)) - ((((nI (k)).toUInt32 >>> ((nI (1)).toUInt32 &&& Int32.toUInt32 31)).toInt32) &&& (nI (1431655765)))).toUInt32 >>> ((nI (2)).toUInt32 &&& Int32.toUInt32 31)).toInt32) &&& (nI (858993459)))) + ((((((nI (k)) - ((((nI (k)).toUInt32 >>> ((nI (1)).toUInt32 &&& Int32.toUInt32 31)).toInt32) &&& (nI (1431655765)))) &&& (nI (858993459))) + (((((nI (k)) - ((((nI (k)).toUInt32 >>> ((nI (1)).toUInt32 &&& Int32.toUInt32 31)).toInt32) &&& (nI (1431655765)))).toUInt32 >>> ((nI (2)).toUInt32 &&& Int32.toUInt32 31)).toInt32) &&& (nI (858993459)))).toUInt32 >>> ((nI (4)).toUInt32 &&& Int32.toUInt32 31)).toInt32)) &&& (nI (252645135))) + ((((((((nI (k)) - ((((nI (k)).toUInt32 >>> ((nI (1)).toUInt32 &&& Int32.toUInt32 31)).toInt32) &&& (nI (1431655765)))) &&& (nI (858993459))) + (((((nI (k)) - ((((nI (k)).toUInt32 >>> ((nI (1)).toUInt32 &&& Int32.toUInt32 31)).toInt32) &&& (nI (1431655765)))).toUInt32 >>> ((nI (2)).toUInt32 &&& Int32.toUInt32 31)).toInt32) &&& (nI (858993459)))) + ((((((nI (k)) - ((((nI (k)).toUInt32 >>> ((nI (1)).toUInt32 &&& Int32.toUInt32 31)).toInt32) &&& (nI (1431655765)))) &&& (nI (858993459))) + (((((nI (k)) - ((((nI (k)).toUInt32 >>> ((nI (1)).toUInt32 &&& Int32.toUInt32 31)).toInt32) &&& (nI (1431655765)))).toUInt32 >>> ((nI (2)).toUInt32 &&& Int32.toUInt32 31)).toInt32) &&& (nI (858993459)))).toUInt32 >>> ((nI (4)).toUInt32 &&& Int32.toUInt32 31)).toInt32)) &&& (nI (252645135))).toUInt32 >>> ((nI (8)).toUInt32 &&& Int32.toUInt32 31)).toInt32)))]) hx hb dJ6_bitCount_0f7a4_40 rfl hl (by decide) rfl (fun ls hl => ?_)
  refine lv_iload_n hx hb dJ6_bitCount_0f7a4_41 rfl (lv_at hl 0 rfl) ?_
  refine lv_iload_n hx hb dJ6_bitCount_0f7a4_42 rfl (lv_at hl 0 rfl) ?_
  refine lv_bipush (v := nI (16)) hx hb dJ6_bitCount_0f7a4_43 (by decide) ?_
  refine lv_iushr (v := ((((((((nI (k)) - ((((nI (k)).toUInt32 >>> ((nI (1)).toUInt32 &&& Int32.toUInt32 31)).toInt32) &&& (nI (1431655765)))) &&& (nI (858993459))) + (((((nI (k)) - ((((nI (k)).toUInt32 >>> ((nI (1)).toUInt32 &&& Int32.toUInt32 31)).toInt32) &&& (nI (1431655765)))).toUInt32 >>> ((nI (2)).toUInt32 &&& Int32.toUInt32 31)).toInt32) &&& (nI (858993459)))) + ((((((nI (k)) - ((((nI (k)).toUInt32 >>> ((nI (1)).toUInt32 &&& Int32.toUInt32 31)).toInt32) &&& (nI (1431655765)))) &&& (nI (858993459))) + (((((nI (k)) - ((((nI (k)).toUInt32 >>> ((nI (1)).toUInt32 &&& Int32.toUInt32 31)).toInt32) &&& (nI (1431655765)))).toUInt32 >>> ((nI (2)).toUInt32 &&& Int32.toUInt32 31)).toInt32) &&& (nI (858993459)))).toUInt32 >>> ((nI (4)).toUInt32 &&& Int32.toUInt32 31)).toInt32)) &&& (nI (252645135))) + ((((((((nI (k)) - ((((nI (k)).toUInt32 >>> ((nI (1)).toUInt32 &&& Int32.toUInt32 31)).toInt32) &&& (nI (1431655765)))) &&& (nI (858993459))) + (((((nI (k)) - ((((nI (k)).toUInt32 >>> ((nI (1)).toUInt32 &&& Int32.toUInt32 31)).toInt32) &&& (nI (1431655765)))).toUInt32 >>> ((nI (2)).toUInt32 &&& Int32.toUInt32 31)).toInt32) &&& (nI (858993459)))) + ((((((nI (k)) - ((((nI (k)).toUInt32 >>> ((nI (1)).toUInt32 &&& Int32.toUInt32 31)).toInt32) &&& (nI (1431655765)))) &&& (nI (858993459))) + (((((nI (k)) - ((((nI (k)).toUInt32 >>> ((nI (1)).toUInt32 &&& Int32.toUInt32 31)).toInt32) &&& (nI (1431655765)))).toUInt32 >>> ((nI (2)).toUInt32 &&& Int32.toUInt32 31)).toInt32) &&& (nI (858993459)))).toUInt32 >>> ((nI (4)).toUInt32 &&& Int32.toUInt32 31)).toInt32)) &&& (nI (252645135))).toUInt32 >>> ((nI (8)).toUInt32 &&& Int32.toUInt32 31)).toInt32)).toUInt32 >>> ((nI (16)).toUInt32 &&& Int32.toUInt32 31)).toInt32) hx hb dJ6_bitCount_0f7a4_45 rfl ?_
  refine lv_iadd hx hb dJ6_bitCount_0f7a4_46 ?_
  refine lv_istore_n (lv' := [(0, .int ((((((((nI (k)) - ((((nI (k)).toUInt32 >>> ((nI (1)).toUInt32 &&& Int32.toUInt32 31)).toInt32) &&& (nI (1431655765)))) &&& (nI (858993459))) + (((((nI (k)) - ((((nI (k)).toUInt32 >>> ((nI (1)).toUInt32 &&& Int32.toUInt32 31)).toInt32) &&& (nI (1431655765)))).toUInt32 >>> ((nI (2)).toUInt32 &&& Int32.toUInt32 31)).toInt32) &&& (nI (858993459)))) + ((((((nI (k)) - ((((nI (k)).toUInt32 >>> ((nI (1)).toUInt32 &&& Int32.toUInt32 31)).toInt32) &&& (nI (1431655765)))) &&& (nI (858993459))) + (((((nI (k)) - ((((nI (k)).toUInt32 >>> ((nI (1)).toUInt32 &&& Int32.toUInt32 31)).toInt32) &&& (nI (1431655765)))).toUInt32 >>> ((nI (2)).toUInt32 &&& Int32.toUInt32 31)).toInt32) &&& (nI (858993459)))).toUInt32 >>> ((nI (4)).toUInt32 &&& Int32.toUInt32 31)).toInt32)) &&& (nI (252645135))) + ((((((((nI (k)) - ((((nI (k)).toUInt32 >>> ((nI (1)).toUInt32 &&& Int32.toUInt32 31)).toInt32) &&& (nI (1431655765)))) &&& (nI (858993459))) + (((((nI (k)) - ((((nI (k)).toUInt32 >>> ((nI (1)).toUInt32 &&& Int32.toUInt32 31)).toInt32) &&& (nI (1431655765)))).toUInt32 >>> ((nI (2)).toUInt32 &&& Int32.toUInt32 31)).toInt32) &&& (nI (858993459)))) + ((((((nI (k)) - ((((nI (k)).toUInt32 >>> ((nI (1)).toUInt32 &&& Int32.toUInt32 31)).toInt32) &&& (nI (1431655765)))) &&& (nI (858993459))) + (((((nI (k)) - ((((nI (k)).toUInt32 >>> ((nI (1)).toUInt32 &&& Int32.toUInt32 31)).toInt32) &&& (nI (1431655765)))).toUInt32 >>> ((nI (2)).toUInt32 &&& Int32.toUInt32 31)).toInt32) &&& (nI (858993459)))).toUInt32 >>> ((nI (4)).toUInt32 &&& Int32.toUInt32 31)).toInt32)) &&& (nI (252645135))).toUInt32 >>> ((nI (8)).toUInt32 &&& Int32.toUInt32 31)).toInt32)) + (((((((((nI (k)) - ((((nI (k)).toUInt32 >>> ((nI (1)).toUInt32 &&& Int32.toUInt32 31)).toInt32) &&& (nI (1431655765)))) &&& (nI (858993459))) + (((((nI (k)) - ((((nI (k)).toUInt32 >>> ((nI (1)).toUInt32 &&& Int32.toUInt32 31)).toInt32) &&& (nI (1431655765)))).toUInt32 >>> ((nI (2)).toUInt32 &&& Int32.toUInt32 31)).toInt32) &&& (nI (858993459)))) + ((((((nI (k)) - ((((nI (k)).toUInt32 >>> ((nI (1)).toUInt32 &&& Int32.toUInt32 31)).toInt32) &&& (nI (1431655765)))) &&& (nI (858993459))) + (((((nI (k)) - ((((nI (k)).toUInt32 >>> ((nI (1)).toUInt32 &&& Int32.toUInt32 31)).toInt32) &&& (nI (1431655765)))).toUInt32 >>> ((nI (2)).toUInt32 &&& Int32.toUInt32 31)).toInt32) &&& (nI (858993459)))).toUInt32 >>> ((nI (4)).toUInt32 &&& Int32.toUInt32 31)).toInt32)) &&& (nI (252645135))) + ((((((((nI (k)) - ((((nI (k)).toUInt32 >>> ((nI (1)).toUInt32 &&& Int32.toUInt32 31)).toInt32) &&& (nI (1431655765)))) &&& (nI (858993459))) + (((((nI (k)) - ((((nI (k)).toUInt32 >>> ((nI (1)).toUInt32 &&& Int32.toUInt32 31)).toInt32) &&& (nI (1431655765)))).toUInt32 >>> ((nI (2)).toUInt32 &&& Int32.toUInt32 31)).toInt32) &&& (nI (858993459)))) + ((((((nI (k)) - ((((nI (k)).toUInt32 >>> ((nI (1)).toUInt32 &&& Int32.toUInt32 31)).toInt32) &&& (nI (1431655765)))) &&& (nI (858993459))) + (((((nI (k)) - ((((nI (k)).toUInt32 >>> ((nI (1)).toUInt32 &&& Int32.toUInt32 31)).toInt32) &&& (nI (1431655765)))).toUInt32 >>> ((nI (2)).toUInt32 &&& Int32.toUInt32 31)).toInt32) &&& (nI (858993459)))).toUInt32 >>> ((nI (4)).toUInt32 &&& Int32.toUInt32 31)).toInt32)) &&& (nI (252645135))).toUInt32 >>> ((nI (8)).toUInt32 &&& Int32.toUInt32 31)).toInt32)).toUInt32 >>> ((nI (16)).toUInt32 &&& Int32.toUInt32 31)).toInt32)))]) hx hb dJ6_bitCount_0f7a4_47 rfl hl (by decide) rfl (fun ls hl => ?_)
  refine lv_iload_n hx hb dJ6_bitCount_0f7a4_48 rfl (lv_at hl 0 rfl) ?_
  refine lv_bipush (v := nI (63)) hx hb dJ6_bitCount_0f7a4_49 (by decide) ?_
  refine lv_iand hx hb dJ6_bitCount_0f7a4_51 ?_
  exact hend _ _ _ _ _ hP hD hS (bc_ones k hk) dJ6_bitCount_0f7a4_52
set_option maxRecDepth 100000 in
set_option maxHeartbeats 4000000 in
theorem c_J7_fill_53178 (l : Launch) (D : va_G) (cA : Nat → ClassId) (tt : Nat → Nat) (q n : Nat) (f : Nat → Int32) (v : Int32) (hn : n < 1000) (sz : Nat) : Cv l D cA tt yJ7_fill_53178 wsJ7_fill_53178 ({ frames := 0, cells := 0, slots := 0, locals := 0 } : Room) [.ref (q), .int (v)] sz [(q, .inl (cA 0, n, .inl f))] [(q, .inl (cA 0, n, .inl (fun _ => v)))] := by
  refine Cv.mk (cc := cJ7_fill_53178) (maxL := 4) (by decide) rfl (Nat.le_of_ble_eq_true rfl) ?_
  intro p e s m below meth c A Q ls hB hl hend
  obtain ⟨⟨hx, hb, hml, hown, hts⟩, hP, hK, hD, hS, hA, hE⟩ := hB
  have hown : s.vm.findClass RJ7 = some m.cls := hown
  have hl : lv_has ls 4 [(0, .ref (q)), (1, .int (v))] := hl
  refine lv_iconst (v := nI (0)) hx hb dJ7_fill_53178_0 (by decide) ?_
  refine lv_istore_n (lv' := [(2, .int (nI (0))), (0, .ref (q)), (1, .int (v))]) hx hb dJ7_fill_53178_1 rfl hl (by decide) rfl (fun ls hl => ?_)
  refine lv_aload_n hx hb dJ7_fill_53178_2 rfl (lv_at hl 1 rfl) ?_
  refine va_alen hx hb hK hP 0 0 rfl rfl (v := nI (n)) rfl dJ7_fill_53178_3 ?_
  refine lv_istore_n (lv' := [(3, .int (nI (n))), (2, .int (nI (0))), (0, .ref (q)), (1, .int (v))]) hx hb dJ7_fill_53178_4 rfl hl (by decide) rfl (fun ls hl => ?_)
  have loop5 : ∀ (N5 : Nat) (i : Nat), (i ≤ n) → (n - i) < N5 → ∀ (H : Heap) (locs : List Loc) (ls : Array Slot), va_P D vwCl [(q, .inl (cA 0, n, .inl (donI i v f)))] H → va_D A [(q, .inl (cA 0, n, .inl (donI i v f)))] → va_S A s.heap H locs → lv_has ls 4 [(3, .int (nI (n))), (2, .int (nI (i))), (0, .ref (q)), (1, .int (v))] → W p l e ({ frames := 0, cells := 0, slots := 0, locals := 0 } : Room) s m ([.ref (q), .int (v)] : List Value).toArray below meth c H locs 0 0 Q (F0 m 5 ls []) := by
    intro N5
    induction N5 with
    | zero => intro i iv5_0 hN; exact absurd hN (Nat.not_lt_zero _)
    | succ N5 ih5 =>
      intro i iv5_0 hN5 H locs ls hP hD hS hl
      refine lv_iload_n hx hb dJ7_fill_53178_5 rfl (lv_at hl 1 rfl) ?_
      refine lv_iload_n hx hb dJ7_fill_53178_6 rfl (lv_at hl 0 rfl) ?_
      refine lv_icmp_ge (tgt := 20) hx hb dJ7_fill_53178_7 (by decide) (fun c2 => ?_) (fun c2 => ?_)
      · skip
        rw [nI_leI (by omega) (by omega)] at c2
        have hP := va_P.cong (f := donI i v f) (g := fun _ => v) (ws' := [(q, .inl (cA 0, n, .inl (fun _ => v)))]) 0 hP rfl (fun j hj => donI_at (by omega)) rfl
        have hD : va_D A [(q, .inl (cA 0, n, .inl (fun _ => v)))] := va_D.set (e := .inl (cA 0, n, .inl (fun _ => v))) (p := 0) hD rfl
        exact hend _ _ _ _ hP hD hS dJ7_fill_53178_20
      · skip
        rw [nI_leI (by omega) (by omega)] at c2
        refine lv_aload_n hx hb dJ7_fill_53178_10 rfl (lv_at hl 2 rfl) ?_
        refine lv_iload_n hx hb dJ7_fill_53178_11 rfl (lv_at hl 1 rfl) ?_
        refine lv_iload_n hx hb dJ7_fill_53178_12 rfl (lv_at hl 3 rfl) ?_
        refine r_astI (f := donI i v f) hx hb hK hP hD hS 0 rfl (i := i) (x := v) (by omega) (Nat.lt_of_lt_of_le (by omega : n < 1073741824) (by decide)) dJ7_fill_53178_13 (fun H locs hP hD hS => ?_)
        have hP : va_P D vwCl [(q, .inl (cA 0, n, .inl (upd (donI i v f) i v)))] H := hP
        have hD : va_D A [(q, .inl (cA 0, n, .inl (upd (donI i v f) i v)))] := hD
        refine lv_iinc (v := nI (i + 1)) (lv' := [(2, .int (nI (i + 1))), (3, .int (nI (n))), (0, .ref (q)), (1, .int (v))]) hx hb dJ7_fill_53178_14 hl (k := 1) rfl (nI_add _ _) (by decide) rfl (fun ls hl => ?_)
        refine lv_goto (tgt := 5) hx hb dJ7_fill_53178_17 (by decide) ?_
        have ew3 : upd (donI i v f) i v = donI (i + 1) v f := by
          exact donI_s
        have hP : va_P D vwCl [(q, .inl (cA 0, n, .inl (donI (i + 1) v f)))] _ := Eq.mp (congrArg (fun z9 => va_P D vwCl [(q, .inl (cA 0, n, .inl z9))] _) ew3) hP
        have hD : va_D A [(q, .inl (cA 0, n, .inl (donI (i + 1) v f)))] := Eq.mp (congrArg (fun z9 => va_D A [(q, .inl (cA 0, n, .inl z9))]) ew3) hD
        have hl9 := lv_sub (l' := [(3, .int (nI (n))), (2, .int (nI (i + 1))), (0, .ref (q)), (1, .int (v))]) hl [1, 0, 2, 3] rfl
        exact ih5 (i + 1) (by omega) (by omega) _ _ _ hP hD hS hl9
  have ew4 : f = donI 0 v f := by
    exact donI_0
  have hP : va_P D vwCl [(q, .inl (cA 0, n, .inl (donI 0 v f)))] _ := Eq.mp (congrArg (fun z9 => va_P D vwCl [(q, .inl (cA 0, n, .inl z9))] _) ew4) hP
  have hD : va_D A [(q, .inl (cA 0, n, .inl (donI 0 v f)))] := Eq.mp (congrArg (fun z9 => va_D A [(q, .inl (cA 0, n, .inl z9))]) ew4) hD
  have hl9 := lv_sub (l' := [(3, .int (nI (n))), (2, .int (nI (0))), (0, .ref (q)), (1, .int (v))]) hl [0, 1, 2, 3] rfl
  exact loop5 _ 0 (by omega) (Nat.lt_succ_self _) _ _ _ hP hD hS hl9
