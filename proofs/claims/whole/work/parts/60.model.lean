/-! ===== the reference: what its ints mean, its small methods ===== -/
abbrev sg (Z : Nat → Nat) (r : Nat) : Sg := (Z r, Z (r + 1), Z (r + 2), Z (r + 3), Z (r + 4), fun k => Z (r + 5 + k), fun k => Z (r + 15 + k), fun k => Z (r + 25 + k), fun k => Z (r + 35 + k), fun k => Z (r + 45 + k))
theorem wfW {Z : Nat → Nat} {r : Nat} (h : Wf (sg Z r)) : Z r ≤ 10 ∧ Z (r + 1) < 1024 ∧ Z (r + 2) ≤ 3 ∧ Z (r + 4) < 1024 ∧ ∀ k, k < 10 → Z (r + 5 + k) < 1024 ∧ Z (r + 15 + k) < 10 ∧ Z (r + 25 + k) < 1024 ∧ Z (r + 35 + k) < 1024 ∧ Z (r + 45 + k) < 1024 := h
theorem wfZ {Z : Nat → Nat} (h : Wf (sg Z 0)) : Z 0 ≤ 10 ∧ Z 1 < 1024 ∧ Z 2 ≤ 3 ∧ Z 4 < 1024 ∧ ∀ k, k < 10 → Z (5 + k) < 1024 ∧ Z (15 + k) < 10 ∧ Z (25 + k) < 1024 ∧ Z (35 + k) < 1024 ∧ Z (45 + k) < 1024 := by
  have := wfW h
  simpa using this
/-- a range of places written anew -/
def rg (Z : Nat → Nat) (b k : Nat) (g : Nat → Nat) : Nat → Nat := fun j => if b ≤ j ∧ j < b + k then g (j - b) else Z j
theorem rg_0 (Z : Nat → Nat) (b : Nat) (g : Nat → Nat) : rg Z b 0 g = Z := by
  funext j
  unfold rg
  rw [if_neg (by omega)]
theorem rg_out {Z : Nat → Nat} {b k j : Nat} {g : Nat → Nat} (h : j < b ∨ b + k ≤ j) : rg Z b k g j = Z j := by
  unfold rg
  rw [if_neg (by omega)]
theorem rg_in {Z : Nat → Nat} {b k j : Nat} {g : Nat → Nat} (h : j < k) : rg Z b k g (b + j) = g j := by
  unfold rg
  rw [if_pos (by omega), show b + j - b = j by omega]
theorem rg_s {Z : Nat → Nat} {b k v : Nat} {g : Nat → Nat} (h : v = g k) : upN (rg Z b k g) (b + k) v = rg Z b (k + 1) g := by
  funext j
  by_cases e : j = b + k
  · subst e
    rw [upN_s, rg_in (by omega), h]
  · rw [upN_n e]
    unfold rg
    by_cases q : b ≤ j ∧ j < b + k
    · rw [if_pos q, if_pos (by omega)]
    · rw [if_neg q, if_neg (by omega)]
theorem bI_add (a : Nat) (b : Bool) : nI a + bI b = nI (a + if b = true then 1 else 0) := by
  cases b
  · exact (nI_add a 0)
  · exact (nI_add a 1)
def inL (v lo hi : Int64) : Bool := decide (lo ≤ v) && decide (v ≤ hi)
theorem inL_lo {v lo hi : Int64} (h : v < lo) : inL v lo hi = false := by
  unfold inL
  rw [decide_eq_false (Int64.not_le.mpr h)]; rfl
theorem inL_hi {v lo hi : Int64} (h : hi < v) : inL v lo hi = false := by
  unfold inL
  rw [decide_eq_false (p := v ≤ hi) (Int64.not_le.mpr h), Bool.and_false]
theorem inL_ok {v lo hi : Int64} (h1 : ¬ v < lo) (h2 : ¬ hi < v) : inL v lo hi = true := by
  unfold inL
  rw [decide_eq_true (Int64.not_lt.mp h1), decide_eq_true (Int64.not_lt.mp h2)]; rfl
theorem lN_I {k : Nat} (h : k < 2147483648) : lN k = (nI k).toInt64 := (nI_l h).symm
theorem le_64 (a b : Int32) : (a.toInt64 ≤ b.toInt64) = (a ≤ b) := by
  rw [Int64.le_iff_toInt_le, Int32.le_iff_toInt_le, Int32.toInt_toInt64, Int32.toInt_toInt64]
theorem inL_I {v : Int32} {lo hi : Nat} (hl : lo < 2147483648) (hh : hi < 2147483648) : inL v.toInt64 (lN lo) (lN hi) = inI v (nI lo) (nI hi) := by
  unfold inL inI
  rw [lN_I hl, lN_I hh]
  simp only [le_64]
theorem inL_N {v lo hi : Nat} (hv : v < 2147483648) (hl : lo < 2147483648) (hh : hi < 2147483648) : inL (lN v) (lN lo) (lN hi) = (decide (lo ≤ v) && decide (v ≤ hi)) := by
  unfold inL
  simp only [pk_lLE (show lo < 2 ^ 63 by omega) (show v < 2 ^ 63 by omega), pk_lLE (show v < 2 ^ 63 by omega) (show hi < 2 ^ 63 by omega)]
theorem inL_W {v : Int32} {n : Nat} (h : n ≤ 1024) : inL v.toInt64 (lN 0) ((nI n) - (nI 1)).toInt64 = inW v n := by
  unfold inL inW
  rw [show lN 0 = (nI 0).toInt64 from lN_I (by decide)]
  simp only [le_64]
  congr 1
  rcases Nat.eq_zero_or_pos n with h0 | h0
  · subst h0
    rw [show nI 0 - nI 1 = -1 by decide]
    simp only [Int32.le_iff_toInt_le, Int32.lt_iff_toInt_lt, show (-1 : Int32).toInt = -1 by decide, show (nI 0).toInt = 0 by decide]
    exact decide_eq_decide.mpr (by omega)
  · rw [show nI n - nI 1 = nI (n - 1) from pk_sub (by omega)]
    simp only [Int32.le_iff_toInt_le, Int32.lt_iff_toInt_lt, nI_toInt (show n - 1 < 2 ^ 31 by omega), nI_toInt (show n < 2 ^ 31 by omega)]
    exact decide_eq_decide.mpr (by omega)
def gapN (i j : Nat) : Nat := if i < j then j - i else i - j
def cpW (Z : Nat → Nat) (fr tw : Nat) : Nat → Nat := rg Z tw 55 (fun j => Z (fr + j))
def agN (m i n : Int32) : Nat := if 0 ≤ m then (if i < 0 then 2 else if n < 0 then 2 else if (i).toInt64 + (n).toInt64 ≤ (m).toInt64 then 0 else 2) else 1
def tightM (x : Sg) (k : Nat) : Bool := decide (dateF x = SD x k) && decide (SG x k ≤ 4)
def wouldM (x : Sg) (k : Nat) : Bool := if SK x k = 2 then decide (dateF x = SD x k) || decide (dateF x = SD x k + 1) else if SK x k = 3 then decide (dateF x = SD x k) || decide (SG x k = 0) else if SK x k = 4 then tightM x k
  else if SK x k = 5 then tightM x k || (decide (0 < k) && (So x).testBit (k - 1)) || (decide (k + 1 < Sn x) && (So x).testBit (k + 1)) else decide (dateF x = SD x k)
theorem rul_1 {t a b : Bool} (h : t = true) : (t || a || b) = true := by rw [h]; rfl
theorem rul_2 {t b : Bool} {k o : Nat} (h : 0 < k) (h2 : o.testBit (k - 1) = true) : (t || (decide (0 < k) && o.testBit (k - 1)) || b) = true := by rw [decide_eq_true h, h2]; cases t <;> rfl
theorem rul_3 {t a : Bool} {k n o : Nat} (h : k + 1 < n) (h2 : o.testBit (k + 1) = true) : (t || a || (decide (k + 1 < n) && o.testBit (k + 1))) = true := by rw [decide_eq_true h, h2]; cases t <;> cases a <;> rfl
theorem rul_0 {t : Bool} {k n o : Nat} (h : t = false) (h1 : k = 0 ∨ o.testBit (k - 1) = false) (h2 : n ≤ k + 1 ∨ o.testBit (k + 1) = false) : (t || (decide (0 < k) && o.testBit (k - 1)) || (decide (k + 1 < n) && o.testBit (k + 1))) = false := by
  rw [h]
  have a : (decide (0 < k) && o.testBit (k - 1)) = false := by
    rcases h1 with q | q
    · rw [decide_eq_false (by omega)]; rfl
    · rw [q, Bool.and_false]
  have b : (decide (k + 1 < n) && o.testBit (k + 1)) = false := by
    rcases h2 with q | q
    · rw [decide_eq_false (by omega)]; rfl
    · rw [q, Bool.and_false]
  rw [a, b]; rfl
def wrW (Z : Nat → Nat) (r v : Nat) : Nat → Nat := rg Z (r + 35) (Z r) (wearG (sg Z r) v)
set_option maxRecDepth 100000 in
set_option maxHeartbeats 4000000 in
theorem c_X8_in (l : Launch) (D : va_G) (cA : Nat → ClassId) (tt : Nat → Nat) (v lo hi : Int64)  (sz : Nat) : Ci l D cA tt yX8_in wsX8_in ({ frames := 0, cells := 0, slots := 0, locals := 0 } : Room) [.long (v), .long (lo), .long (hi)] sz ([] : va_W) ([] : va_W) (bI (inL v lo hi)) := by
  refine Ci.mk (cc := cX8_in) (maxL := 6) (ty := .boolean) (by decide) rfl (bI_n _) (Nat.le_of_ble_eq_true rfl) ?_
  intro p e s m below meth c A Q ls hB hl hend
  obtain ⟨⟨hx, hb, hml, hown, hts⟩, hP, hK, hD, hS, hA, hE⟩ := hB
  have hown : s.vm.findClass RX8 = some m.cls := hown
  have hl : lv_has ls 6 [(0, .long (v)), (2, .long (lo)), (4, .long (hi))] := hl
  refine lv_lload_n hx hb dX8_in_0 rfl (lv_at hl 0 rfl) ?_
  refine lv_lload_n hx hb dX8_in_1 rfl (lv_at hl 1 rfl) ?_
  refine W.lcmp hx hb dX8_in_2 ?_
  refine lv_if_lt (tgt := 17) hx hb dX8_in_3 (by decide) (fun c1 => ?_) (fun c1 => ?_)
  · skip
    rw [lg_cmp_lt] at c1
    refine lv_iconst (v := nI (0)) hx hb dX8_in_17 (by decide) ?_
    exact hend _ _ _ _ _ hP hD hS (zero_bI (inL_lo c1)) dX8_in_18
  · skip
    rw [lg_cmp_lt] at c1
    refine lv_lload_n hx hb dX8_in_6 rfl (lv_at hl 0 rfl) ?_
    refine lv_lload hx hb dX8_in_7 (lv_at hl 2 rfl) ?_
    refine W.lcmp hx hb dX8_in_9 ?_
    refine lv_if_gt (tgt := 17) hx hb dX8_in_10 (by decide) (fun c2 => ?_) (fun c2 => ?_)
    · skip
      rw [lg_cmp_gt] at c2
      refine lv_iconst (v := nI (0)) hx hb dX8_in_17 (by decide) ?_
      exact hend _ _ _ _ _ hP hD hS (zero_bI (inL_hi c2)) dX8_in_18
    · skip
      rw [lg_cmp_gt] at c2
      refine lv_iconst (v := nI (1)) hx hb dX8_in_13 (by decide) ?_
      refine lv_goto (tgt := 18) hx hb dX8_in_14 (by decide) ?_
      exact hend _ _ _ _ _ hP hD hS (one_bI (inL_ok c1 c2)) dX8_in_18
theorem c_X8_in_I (l : Launch) (D : va_G) (cA : Nat → ClassId) (tt : Nat → Nat) (v : Int32) (lo hi : Nat) (hl : lo < 2147483648) (hh : hi < 2147483648) (sz : Nat) : Ci l D cA tt yX8_in wsX8_in ({ frames := 0, cells := 0, slots := 0, locals := 0 } : Room) [.long ((v).toInt64), .long (lN (lo)), .long (lN (hi))] sz ([] : va_W) ([] : va_W) (bI (inI v (nI lo) (nI hi))) := by
  have h := c_X8_in l D cA tt ((v).toInt64) (lN (lo)) (lN (hi)) sz
  rw [inL_I hl hh] at h
  exact h
theorem c_X8_in_N (l : Launch) (D : va_G) (cA : Nat → ClassId) (tt : Nat → Nat) (v lo hi : Nat) (hv : v < 2147483648) (hl : lo < 2147483648) (hh : hi < 2147483648) (sz : Nat) : Ci l D cA tt yX8_in wsX8_in ({ frames := 0, cells := 0, slots := 0, locals := 0 } : Room) [.long (lN (v)), .long (lN (lo)), .long (lN (hi))] sz ([] : va_W) ([] : va_W) (bI (decide (lo ≤ v) && decide (v ≤ hi))) := by
  have h := c_X8_in l D cA tt (lN (v)) (lN (lo)) (lN (hi)) sz
  rw [inL_N hv hl hh] at h
  exact h
theorem c_X8_in_W (l : Launch) (D : va_G) (cA : Nat → ClassId) (tt : Nat → Nat) (v : Int32) (n : Nat) (hn : n ≤ 1024) (sz : Nat) : Ci l D cA tt yX8_in wsX8_in ({ frames := 0, cells := 0, slots := 0, locals := 0 } : Room) [.long ((v).toInt64), .long (lN (0)), .long (((nI (n)) - (nI (1))).toInt64)] sz ([] : va_W) ([] : va_W) (bI (inW v n)) := by
  have h := c_X8_in l D cA tt ((v).toInt64) (lN (0)) (((nI (n)) - (nI (1))).toInt64) sz
  rw [inL_W hn] at h
  exact h
set_option maxRecDepth 100000 in
set_option maxHeartbeats 4000000 in
theorem c_X8_has (l : Launch) (D : va_G) (cA : Nat → ClassId) (tt : Nat → Nat) (v k : Nat) (hs : v < 1073741824) (hk : k < 32) (sz : Nat) : Ci l D cA tt yX8_has wsX8_has ({ frames := 0, cells := 0, slots := 0, locals := 0 } : Room) [.int (nI (v)), .int (nI (k))] sz ([] : va_W) ([] : va_W) (bI (v.testBit k)) := by
  refine Ci.mk (cc := cX8_has) (maxL := 2) (ty := .boolean) (by decide) rfl (bI_n _) (Nat.le_of_ble_eq_true rfl) ?_
  intro p e s m below meth c A Q ls hB hl hend
  obtain ⟨⟨hx, hb, hml, hown, hts⟩, hP, hK, hD, hS, hA, hE⟩ := hB
  have hown : s.vm.findClass RX8 = some m.cls := hown
  have hl : lv_has ls 2 [(0, .int (nI (v))), (1, .int (nI (k)))] := hl
  refine lv_iload_n hx hb dX8_has_0 rfl (lv_at hl 0 rfl) ?_
  refine lv_iload_n hx hb dX8_has_1 rfl (lv_at hl 1 rfl) ?_
  refine lv_ishr hx hb dX8_has_2 ?_
  refine vn_i (v := nI (v / 2 ^ k)) (n_shr (by omega) (by omega)) ?_
  refine lv_iconst (v := nI (1)) hx hb dX8_has_3 (by decide) ?_
  refine lv_iand hx hb dX8_has_4 ?_
  refine vn_i (v := bI (v.testBit k)) (n_bit _ _) ?_
  refine lv_iconst (v := nI (1)) hx hb dX8_has_5 (by decide) ?_
  refine lv_icmp_ne (tgt := 13) hx hb dX8_has_6 (by decide) (fun c1 => ?_) (fun c1 => ?_)
  · skip
    rw [bI_1] at c1
    rw [Bool.not_eq_true] at c1
    refine lv_iconst (v := nI (0)) hx hb dX8_has_13 (by decide) ?_
    exact hend _ _ _ _ _ hP hD hS (zero_bI c1) dX8_has_14
  · skip
    rw [bI_1] at c1
    refine lv_iconst (v := nI (1)) hx hb dX8_has_9 (by decide) ?_
    refine lv_goto (tgt := 14) hx hb dX8_has_10 (by decide) ?_
    exact hend _ _ _ _ _ hP hD hS (one_bI c1) dX8_has_14
set_option maxRecDepth 100000 in
set_option maxHeartbeats 4000000 in
theorem c_X8_ones (l : Launch) (D : va_G) (cA : Nat → ClassId) (tt : Nat → Nat) (v : Nat) (hs : v < 1073741824) (sz : Nat) : Ci l D cA tt yX8_ones wsX8_ones ({ frames := 0, cells := 0, slots := 0, locals := 0 } : Room) [.int (nI (v))] sz ([] : va_W) ([] : va_W) (nI (onesN v)) := by
  refine Ci.mk (cc := cX8_ones) (maxL := 3) (ty := .int) (by decide) rfl rfl (Nat.le_of_ble_eq_true rfl) ?_
  intro p e s m below meth c A Q ls hB hl hend
  obtain ⟨⟨hx, hb, hml, hown, hts⟩, hP, hK, hD, hS, hA, hE⟩ := hB
  have hown : s.vm.findClass RX8 = some m.cls := hown
  have hl : lv_has ls 3 [(0, .int (nI (v)))] := hl
  refine lv_iconst (v := nI (0)) hx hb dX8_ones_0 (by decide) ?_
  refine lv_istore_n (lv' := [(1, .int (nI (0))), (0, .int (nI (v)))]) hx hb dX8_ones_1 rfl hl (by decide) rfl (fun ls hl => ?_)
  refine lv_iconst (v := nI (0)) hx hb dX8_ones_2 (by decide) ?_
  refine lv_istore_n (lv' := [(2, .int (nI (0))), (1, .int (nI (0))), (0, .int (nI (v)))]) hx hb dX8_ones_3 rfl hl (by decide) rfl (fun ls hl => ?_)
  have loop4 : ∀ (N4 : Nat) (i : Nat), (i ≤ 10) → (10 - i) < N4 → ∀ (H : Heap) (locs : List Loc) (ls : Array Slot), va_P D vwCl ([] : va_W) H → va_D A ([] : va_W) → va_S A s.heap H locs → lv_has ls 3 [(2, .int (nI (i))), (1, .int (nI (cntN v i))), (0, .int (nI (v)))] → W p l e ({ frames := 0, cells := 0, slots := 0, locals := 0 } : Room) s m ([.int (nI (v))] : List Value).toArray below meth c H locs 0 0 Q (F0 m 4 ls []) := by
    intro N4
    induction N4 with
    | zero => intro i iv4_0 hN; exact absurd hN (Nat.not_lt_zero _)
    | succ N4 ih4 =>
      intro i iv4_0 hN4 H locs ls hP hD hS hl
      refine lv_iload_n hx hb dX8_ones_4 rfl (lv_at hl 0 rfl) ?_
      refine lv_bipush (v := nI (10)) hx hb dX8_ones_5 (by decide) ?_
      refine lv_icmp_ge (tgt := 24) hx hb dX8_ones_7 (by decide) (fun c2 => ?_) (fun c2 => ?_)
      · skip
        rw [nI_leI (by omega) (by omega)] at c2
        refine lv_iload_n hx hb dX8_ones_24 rfl (lv_at hl 1 rfl) ?_
        exact hend _ _ _ _ _ hP hD hS (by rw [show i = 10 by omega]; rfl) dX8_ones_25
      · skip
        rw [nI_leI (by omega) (by omega)] at c2
        refine lv_iload_n hx hb dX8_ones_10 rfl (lv_at hl 1 rfl) ?_
        refine lv_iload_n hx hb dX8_ones_11 rfl (lv_at hl 2 rfl) ?_
        refine lv_iload_n hx hb dX8_ones_12 rfl (lv_at hl 0 rfl) ?_
        refine lv_ishr hx hb dX8_ones_13 ?_
        refine vn_i (v := nI (v / 2 ^ i)) (n_shr (by omega) (by omega)) ?_
        refine lv_iconst (v := nI (1)) hx hb dX8_ones_14 (by decide) ?_
        refine lv_iand hx hb dX8_ones_15 ?_
        refine vn_i (v := bI (v.testBit i)) (n_bit _ _) ?_
        refine lv_iadd hx hb dX8_ones_16 ?_
        refine vn_i (v := nI (cntN v i + (if v.testBit i = true then 1 else 0))) (bI_add _ _) ?_
        refine lv_istore_n (lv' := [(1, .int (nI (cntN v i + (if v.testBit i = true then 1 else 0)))), (2, .int (nI (i))), (0, .int (nI (v)))]) hx hb dX8_ones_17 rfl hl (by decide) rfl (fun ls hl => ?_)
        refine lv_iinc (v := nI (i + 1)) (lv' := [(2, .int (nI (i + 1))), (1, .int (nI (cntN v i + (if v.testBit i = true then 1 else 0)))), (0, .int (nI (v)))]) hx hb dX8_ones_18 hl (k := 1) rfl (nI_add _ _) (by decide) rfl (fun ls hl => ?_)
        refine lv_goto (tgt := 4) hx hb dX8_ones_21 (by decide) ?_
        have hl9 := lv_sub (l' := [(2, .int (nI (i + 1))), (1, .int (nI (cntN v i + (if v.testBit i = true then 1 else 0)))), (0, .int (nI (v)))]) hl [0, 1, 2] rfl
        have el3 : (.int (nI (cntN v i + (if v.testBit i = true then 1 else 0))) : Value) = .int (nI (cntN v (i + 1))) := by
          rfl
        have hl9 : lv_has ls 3 [(2, .int (nI (i + 1))), (1, .int (nI (cntN v (i + 1)))), (0, .int (nI (v)))] := Eq.mp (congrArg (fun z9 => lv_has ls 3 [(2, .int (nI (i + 1))), (1, z9), (0, .int (nI (v)))]) el3) hl9
        exact ih4 (i + 1) (by omega) (by omega) _ _ _ hP hD hS hl9
  have hl9 := lv_sub (l' := [(2, .int (nI (0))), (1, .int (nI (0))), (0, .int (nI (v)))]) hl [0, 1, 2] rfl
  have el4 : (.int (nI (0)) : Value) = .int (nI (cntN v 0)) := by
    rfl
  have hl9 : lv_has ls 3 [(2, .int (nI (0))), (1, .int (nI (cntN v 0))), (0, .int (nI (v)))] := Eq.mp (congrArg (fun z9 => lv_has ls 3 [(2, .int (nI (0))), (1, z9), (0, .int (nI (v)))]) el4) hl9
  exact loop4 _ 0 (by omega) (Nat.lt_succ_self _) _ _ _ hP hD hS hl9
set_option maxRecDepth 100000 in
set_option maxHeartbeats 4000000 in
theorem c_X8_gap (l : Launch) (D : va_G) (cA : Nat → ClassId) (tt : Nat → Nat) (i j : Nat) (hi : i < 1073741824) (hj : j < 1073741824) (sz : Nat) : Ci l D cA tt yX8_gap wsX8_gap ({ frames := 0, cells := 0, slots := 0, locals := 0 } : Room) [.int (nI (i)), .int (nI (j))] sz ([] : va_W) ([] : va_W) (nI (gapN i j)) := by
  refine Ci.mk (cc := cX8_gap) (maxL := 2) (ty := .int) (by decide) rfl rfl (Nat.le_of_ble_eq_true rfl) ?_
  intro p e s m below meth c A Q ls hB hl hend
  obtain ⟨⟨hx, hb, hml, hown, hts⟩, hP, hK, hD, hS, hA, hE⟩ := hB
  have hown : s.vm.findClass RX8 = some m.cls := hown
  have hl : lv_has ls 2 [(0, .int (nI (i))), (1, .int (nI (j)))] := hl
  refine lv_iload_n hx hb dX8_gap_0 rfl (lv_at hl 0 rfl) ?_
  refine lv_iload_n hx hb dX8_gap_1 rfl (lv_at hl 1 rfl) ?_
  refine lv_icmp_ge (tgt := 11) hx hb dX8_gap_2 (by decide) (fun c1 => ?_) (fun c1 => ?_)
  · skip
    rw [nI_leI (by omega) (by omega)] at c1
    refine lv_iload_n hx hb dX8_gap_11 rfl (lv_at hl 0 rfl) ?_
    refine lv_iload_n hx hb dX8_gap_12 rfl (lv_at hl 1 rfl) ?_
    refine lv_isub hx hb dX8_gap_13 ?_
    refine vn_i (v := nI (i - j)) (pk_sub (by omega)) ?_
    exact hend _ _ _ _ _ hP hD hS (by unfold gapN; rw [if_neg (by omega)]) dX8_gap_14
  · skip
    rw [nI_leI (by omega) (by omega)] at c1
    refine lv_iload_n hx hb dX8_gap_5 rfl (lv_at hl 1 rfl) ?_
    refine lv_iload_n hx hb dX8_gap_6 rfl (lv_at hl 0 rfl) ?_
    refine lv_isub hx hb dX8_gap_7 ?_
    refine vn_i (v := nI (j - i)) (pk_sub (by omega)) ?_
    refine lv_goto (tgt := 14) hx hb dX8_gap_8 (by decide) ?_
    exact hend _ _ _ _ _ hP hD hS (by unfold gapN; rw [if_pos (by omega)]) dX8_gap_14
set_option maxRecDepth 100000 in
set_option maxHeartbeats 4000000 in
theorem c_X8_copyOf (l : Launch) (D : va_G) (cA : Nat → ClassId) (tt : Nat → Nat) (om mw mt mm ml mi mh mr ud td fy su cu sa nb tn : Nat) (Z : Nat → Nat) (fr tw : Nat) (hf : fr + 55 ≤ 1595) (ht : tw + 55 ≤ 1595) (hd : fr + 55 ≤ tw ∨ tw + 55 ≤ fr) (sz : Nat) : Cv l D cA tt yX8_copyOf wsX8_copyOf ({ frames := 0, cells := 0, slots := 0, locals := 0 } : Room) [.ref (om), .int (nI (fr)), .int (nI (tw))] sz [(om, .inr (8, [.ref (mw), .int (nI (ud)), .ref (mt), .int (nI (td)), .int (nI (fy)), .int (nI (su)), .ref (mm), .ref (ml), .ref (mi), .ref (mh), .int (nI (cu)), .int (nI (sa)), .int (nI (nb)), .ref (mr), .int (nI (tn))])), (mw, .inl (cA 0, 1595, arN Z))] [(om, .inr (8, [.ref (mw), .int (nI (ud)), .ref (mt), .int (nI (td)), .int (nI (fy)), .int (nI (su)), .ref (mm), .ref (ml), .ref (mi), .ref (mh), .int (nI (cu)), .int (nI (sa)), .int (nI (nb)), .ref (mr), .int (nI (tn))])), (mw, .inl (cA 0, 1595, arN (cpW Z fr tw)))] := by
  refine Cv.mk (cc := cX8_copyOf) (maxL := 4) (by decide) rfl (Nat.le_of_ble_eq_true rfl) ?_
  intro p e s m below meth c A Q ls hB hl hend
  obtain ⟨⟨hx, hb, hml, hown, hts⟩, hP, hK, hD, hS, hA, hE⟩ := hB
  have hown : s.vm.findClass RX8 = some m.cls := hown
  have hwsX80 : ∀ w9 ∈ wsX80, w9.before ([.ref (om), .int (nI (fr)), .int (nI (tw))] : List Value).toArray s = true := fun w9 h => hts w9 (List.mem_cons_of_mem _ (List.mem_append_right _ h))
  have hl : lv_has ls 4 [(0, .ref (om)), (1, .int (nI (fr))), (2, .int (nI (tw)))] := hl
  refine lv_iconst (v := nI (0)) hx hb dX8_copyOf_0 (by decide) ?_
  refine lv_istore_n (lv' := [(3, .int (nI (0))), (0, .ref (om)), (1, .int (nI (fr))), (2, .int (nI (tw)))]) hx hb dX8_copyOf_1 rfl hl (by decide) rfl (fun ls hl => ?_)
  have loop2 : ∀ (N2 : Nat) (i : Nat), (i ≤ 55) → (55 - i) < N2 → ∀ (H : Heap) (locs : List Loc) (ls : Array Slot), va_P D vwCl [(om, .inr (8, [.ref (mw), .int (nI (ud)), .ref (mt), .int (nI (td)), .int (nI (fy)), .int (nI (su)), .ref (mm), .ref (ml), .ref (mi), .ref (mh), .int (nI (cu)), .int (nI (sa)), .int (nI (nb)), .ref (mr), .int (nI (tn))])), (mw, .inl (cA 0, 1595, arN (rg Z tw i (fun j => Z (fr + j)))))] H → va_D A [(om, .inr (8, [.ref (mw), .int (nI (ud)), .ref (mt), .int (nI (td)), .int (nI (fy)), .int (nI (su)), .ref (mm), .ref (ml), .ref (mi), .ref (mh), .int (nI (cu)), .int (nI (sa)), .int (nI (nb)), .ref (mr), .int (nI (tn))])), (mw, .inl (cA 0, 1595, arN (rg Z tw i (fun j => Z (fr + j)))))] → va_S A s.heap H locs → lv_has ls 4 [(3, .int (nI (i))), (0, .ref (om)), (1, .int (nI (fr))), (2, .int (nI (tw)))] → W p l e ({ frames := 0, cells := 0, slots := 0, locals := 0 } : Room) s m ([.ref (om), .int (nI (fr)), .int (nI (tw))] : List Value).toArray below meth c H locs 0 0 Q (F0 m 2 ls []) := by
    intro N2
    induction N2 with
    | zero => intro i iv2_0 hN; exact absurd hN (Nat.not_lt_zero _)
    | succ N2 ih2 =>
      intro i iv2_0 hN2 H locs ls hP hD hS hl
      refine lv_iload_n hx hb dX8_copyOf_2 rfl (lv_at hl 0 rfl) ?_
      refine lv_bipush (v := nI (55)) hx hb dX8_copyOf_3 (by decide) ?_
      refine lv_icmp_ge (tgt := 30) hx hb dX8_copyOf_5 (by decide) (fun c2 => ?_) (fun c2 => ?_)
      · skip
        rw [nI_leI (by omega) (by omega)] at c2
        have ef3 : ([(om, .inr (8, [.ref (mw), .int (nI (ud)), .ref (mt), .int (nI (td)), .int (nI (fy)), .int (nI (su)), .ref (mm), .ref (ml), .ref (mi), .ref (mh), .int (nI (cu)), .int (nI (sa)), .int (nI (nb)), .ref (mr), .int (nI (tn))])), (mw, .inl (cA 0, 1595, arN (rg Z tw i (fun j => Z (fr + j)))))] : va_W) = [(om, .inr (8, [.ref (mw), .int (nI (ud)), .ref (mt), .int (nI (td)), .int (nI (fy)), .int (nI (su)), .ref (mm), .ref (ml), .ref (mi), .ref (mh), .int (nI (cu)), .int (nI (sa)), .int (nI (nb)), .ref (mr), .int (nI (tn))])), (mw, .inl (cA 0, 1595, arN (cpW Z fr tw)))] := by
          rw [show i = 55 by omega]; rfl
        have hP : va_P D vwCl [(om, .inr (8, [.ref (mw), .int (nI (ud)), .ref (mt), .int (nI (td)), .int (nI (fy)), .int (nI (su)), .ref (mm), .ref (ml), .ref (mi), .ref (mh), .int (nI (cu)), .int (nI (sa)), .int (nI (nb)), .ref (mr), .int (nI (tn))])), (mw, .inl (cA 0, 1595, arN (cpW Z fr tw)))] _ := Eq.mp (congrArg (fun z9 => va_P D vwCl z9 _) ef3) hP
        have hD : va_D A [(om, .inr (8, [.ref (mw), .int (nI (ud)), .ref (mt), .int (nI (td)), .int (nI (fy)), .int (nI (su)), .ref (mm), .ref (ml), .ref (mi), .ref (mh), .int (nI (cu)), .int (nI (sa)), .int (nI (nb)), .ref (mr), .int (nI (tn))])), (mw, .inl (cA 0, 1595, arN (cpW Z fr tw)))] := Eq.mp (congrArg (fun z9 => va_D A z9) ef3) hD
        exact hend _ _ _ _ hP hD hS dX8_copyOf_30
      · skip
        rw [nI_leI (by omega) (by omega)] at c2
        refine lv_aload_n hx hb dX8_copyOf_8 rfl (lv_at hl 1 rfl) ?_
        refine va_get (v := .ref (mw)) (Ts := wsX80) (C := RX8) (T := TX8) (N := 15) hx hb hwsX80 (fun _ h => h) hown hK hP 0 rfl rfl 0 (by decide) (hts (.fieldLink RX8 7 "AdventStreetsModel" "w" "[I") (List.mem_of_getElem? (i := 1) rfl)) (fun _ h9 => h9) rfl dX8_copyOf_9 ?_
        refine lv_iload_n hx hb dX8_copyOf_12 rfl (lv_at hl 3 rfl) ?_
        refine lv_iload_n hx hb dX8_copyOf_13 rfl (lv_at hl 0 rfl) ?_
        refine lv_iadd hx hb dX8_copyOf_14 ?_
        refine vn_i (v := nI (tw + i)) (nI_add _ _) ?_
        refine lv_aload_n hx hb dX8_copyOf_15 rfl (lv_at hl 1 rfl) ?_
        refine va_get (v := .ref (mw)) (Ts := wsX80) (C := RX8) (T := TX8) (N := 15) hx hb hwsX80 (fun _ h => h) hown hK hP 0 rfl rfl 0 (by decide) (hts (.fieldLink RX8 7 "AdventStreetsModel" "w" "[I") (List.mem_of_getElem? (i := 1) rfl)) (fun _ h9 => h9) rfl dX8_copyOf_16 ?_
        refine lv_iload_n hx hb dX8_copyOf_19 rfl (lv_at hl 2 rfl) ?_
        refine lv_iload_n hx hb dX8_copyOf_20 rfl (lv_at hl 0 rfl) ?_
        refine lv_iadd hx hb dX8_copyOf_21 ?_
        refine vn_i (v := nI (fr + i)) (nI_add _ _) ?_
        refine r_ald (f := rg Z tw i (fun j => Z (fr + j))) hx hb hK hP 1 rfl (i := fr + i) (by omega) (Nat.lt_of_lt_of_le (by omega : 1595 < 1073741824) (by decide)) dX8_copyOf_22 ?_
        refine vn_i (v := nI (Z (fr + i))) (congrArg nI (rg_out (by omega))) ?_
        refine r_ast (f := rg Z tw i (fun j => Z (fr + j))) hx hb hK hP hD hS 1 rfl (i := tw + i) (by omega) (Nat.lt_of_lt_of_le (by omega : 1595 < 1073741824) (by decide)) dX8_copyOf_23 (fun H locs hP hD hS => ?_)
        have hP : va_P D vwCl [(om, .inr (8, [.ref (mw), .int (nI (ud)), .ref (mt), .int (nI (td)), .int (nI (fy)), .int (nI (su)), .ref (mm), .ref (ml), .ref (mi), .ref (mh), .int (nI (cu)), .int (nI (sa)), .int (nI (nb)), .ref (mr), .int (nI (tn))])), (mw, .inl (cA 0, 1595, arN (upN (rg Z tw i (fun j => Z (fr + j))) (tw + i) (Z (fr + i)))))] _ := hP
        have hD : va_D A [(om, .inr (8, [.ref (mw), .int (nI (ud)), .ref (mt), .int (nI (td)), .int (nI (fy)), .int (nI (su)), .ref (mm), .ref (ml), .ref (mi), .ref (mh), .int (nI (cu)), .int (nI (sa)), .int (nI (nb)), .ref (mr), .int (nI (tn))])), (mw, .inl (cA 0, 1595, arN (upN (rg Z tw i (fun j => Z (fr + j))) (tw + i) (Z (fr + i)))))] := hD
        refine lv_iinc (v := nI (i + 1)) (lv' := [(3, .int (nI (i + 1))), (0, .ref (om)), (1, .int (nI (fr))), (2, .int (nI (tw)))]) hx hb dX8_copyOf_24 hl (k := 0) rfl (nI_add _ _) (by decide) rfl (fun ls hl => ?_)
        refine lv_goto (tgt := 2) hx hb dX8_copyOf_27 (by decide) ?_
        have ew4 : upN (rg Z tw i (fun j => Z (fr + j))) (tw + i) (Z (fr + i)) = rg Z tw (i + 1) (fun j => Z (fr + j)) := by
          exact rg_s rfl
        have hP : va_P D vwCl [(om, .inr (8, [.ref (mw), .int (nI (ud)), .ref (mt), .int (nI (td)), .int (nI (fy)), .int (nI (su)), .ref (mm), .ref (ml), .ref (mi), .ref (mh), .int (nI (cu)), .int (nI (sa)), .int (nI (nb)), .ref (mr), .int (nI (tn))])), (mw, .inl (cA 0, 1595, arN (rg Z tw (i + 1) (fun j => Z (fr + j)))))] _ := Eq.mp (congrArg (fun z9 => va_P D vwCl [(om, .inr (8, [.ref (mw), .int (nI (ud)), .ref (mt), .int (nI (td)), .int (nI (fy)), .int (nI (su)), .ref (mm), .ref (ml), .ref (mi), .ref (mh), .int (nI (cu)), .int (nI (sa)), .int (nI (nb)), .ref (mr), .int (nI (tn))])), (mw, .inl (cA 0, 1595, arN z9))] _) ew4) hP
        have hD : va_D A [(om, .inr (8, [.ref (mw), .int (nI (ud)), .ref (mt), .int (nI (td)), .int (nI (fy)), .int (nI (su)), .ref (mm), .ref (ml), .ref (mi), .ref (mh), .int (nI (cu)), .int (nI (sa)), .int (nI (nb)), .ref (mr), .int (nI (tn))])), (mw, .inl (cA 0, 1595, arN (rg Z tw (i + 1) (fun j => Z (fr + j)))))] := Eq.mp (congrArg (fun z9 => va_D A [(om, .inr (8, [.ref (mw), .int (nI (ud)), .ref (mt), .int (nI (td)), .int (nI (fy)), .int (nI (su)), .ref (mm), .ref (ml), .ref (mi), .ref (mh), .int (nI (cu)), .int (nI (sa)), .int (nI (nb)), .ref (mr), .int (nI (tn))])), (mw, .inl (cA 0, 1595, arN z9))]) ew4) hD
        have hl9 := lv_sub (l' := [(3, .int (nI (i + 1))), (0, .ref (om)), (1, .int (nI (fr))), (2, .int (nI (tw)))]) hl [0, 1, 2, 3] rfl
        exact ih2 (i + 1) (by omega) (by omega) _ _ _ hP hD hS hl9
  have ew5 : Z = rg Z tw 0 (fun j => Z (fr + j)) := by
    exact (rg_0 _ _ _).symm
  have hP : va_P D vwCl [(om, .inr (8, [.ref (mw), .int (nI (ud)), .ref (mt), .int (nI (td)), .int (nI (fy)), .int (nI (su)), .ref (mm), .ref (ml), .ref (mi), .ref (mh), .int (nI (cu)), .int (nI (sa)), .int (nI (nb)), .ref (mr), .int (nI (tn))])), (mw, .inl (cA 0, 1595, arN (rg Z tw 0 (fun j => Z (fr + j)))))] _ := Eq.mp (congrArg (fun z9 => va_P D vwCl [(om, .inr (8, [.ref (mw), .int (nI (ud)), .ref (mt), .int (nI (td)), .int (nI (fy)), .int (nI (su)), .ref (mm), .ref (ml), .ref (mi), .ref (mh), .int (nI (cu)), .int (nI (sa)), .int (nI (nb)), .ref (mr), .int (nI (tn))])), (mw, .inl (cA 0, 1595, arN z9))] _) ew5) hP
  have hD : va_D A [(om, .inr (8, [.ref (mw), .int (nI (ud)), .ref (mt), .int (nI (td)), .int (nI (fy)), .int (nI (su)), .ref (mm), .ref (ml), .ref (mi), .ref (mh), .int (nI (cu)), .int (nI (sa)), .int (nI (nb)), .ref (mr), .int (nI (tn))])), (mw, .inl (cA 0, 1595, arN (rg Z tw 0 (fun j => Z (fr + j)))))] := Eq.mp (congrArg (fun z9 => va_D A [(om, .inr (8, [.ref (mw), .int (nI (ud)), .ref (mt), .int (nI (td)), .int (nI (fy)), .int (nI (su)), .ref (mm), .ref (ml), .ref (mi), .ref (mh), .int (nI (cu)), .int (nI (sa)), .int (nI (nb)), .ref (mr), .int (nI (tn))])), (mw, .inl (cA 0, 1595, arN z9))]) ew5) hD
  have hl9 := lv_sub (l' := [(3, .int (nI (0))), (0, .ref (om)), (1, .int (nI (fr))), (2, .int (nI (tw)))]) hl [0, 1, 2, 3] rfl
  exact loop2 _ 0 (by omega) (Nat.lt_succ_self _) _ _ _ hP hD hS hl9
set_option maxRecDepth 100000 in
set_option maxHeartbeats 4000000 in
theorem c_X8_isWindow (l : Launch) (D : va_G) (cA : Nat → ClassId) (tt : Nat → Nat) (om mw mt mm ml mi mh mr ud td fy su cu sa nb tn : Nat) (Z : Nat → Nat) (pk : Int32) (hg : Wf (sg Z 0)) (sz : Nat) : Ci l D cA tt yX8_isWindow wsX8_isWindow ({ frames := 1, cells := 0, slots := 0, locals := 25 } : Room) [.ref (om), .int (pk)] sz [(om, .inr (8, [.ref (mw), .int (nI (ud)), .ref (mt), .int (nI (td)), .int (nI (fy)), .int (nI (su)), .ref (mm), .ref (ml), .ref (mi), .ref (mh), .int (nI (cu)), .int (nI (sa)), .int (nI (nb)), .ref (mr), .int (nI (tn))])), (mw, .inl (cA 0, 1595, arN Z))] [(om, .inr (8, [.ref (mw), .int (nI (ud)), .ref (mt), .int (nI (td)), .int (nI (fy)), .int (nI (su)), .ref (mm), .ref (ml), .ref (mi), .ref (mh), .int (nI (cu)), .int (nI (sa)), .int (nI (nb)), .ref (mr), .int (nI (tn))])), (mw, .inl (cA 0, 1595, arN Z))] (bI (inW pk (Z 0))) := by
  obtain ⟨gn, ge, gv, go, ga⟩ := wfZ hg
  refine Ci.mk (cc := cX8_isWindow) (maxL := 2) (ty := .boolean) (by decide) rfl (bI_n _) (Nat.le_of_ble_eq_true rfl) ?_
  intro p e s m below meth c A Q ls hB hl hend
  obtain ⟨⟨hx, hb, hml, hown, hts⟩, hP, hK, hD, hS, hA, hE⟩ := hB
  have hown : s.vm.findClass RX8 = some m.cls := hown
  have hwsX80 : ∀ w9 ∈ wsX80, w9.before ([.ref (om), .int (pk)] : List Value).toArray s = true := fun w9 h => hts w9 (List.mem_cons_of_mem _ (List.mem_append_right _ h))
  have hl : lv_has ls 2 [(0, .ref (om)), (1, .int (pk))] := hl
  refine lv_iload_n hx hb dX8_isWindow_0 rfl (lv_at hl 1 rfl) ?_
  refine lv_i2l (v := (pk).toInt64) hx hb dX8_isWindow_1 (rfl) ?_
  refine lv_lconst (v := lN 0) hx hb dX8_isWindow_2 rfl ?_
  refine lv_aload_n hx hb dX8_isWindow_3 rfl (lv_at hl 0 rfl) ?_
  refine va_get (v := .ref (mw)) (Ts := wsX80) (C := RX8) (T := TX8) (N := 15) hx hb hwsX80 (fun _ h => h) hown hK hP 0 rfl rfl 0 (by decide) (hts (.fieldLink RX8 7 "AdventStreetsModel" "w" "[I") (List.mem_of_getElem? (i := 1) rfl)) (fun _ h9 => h9) rfl dX8_isWindow_4 ?_
  refine lv_iconst (v := nI (0)) hx hb dX8_isWindow_7 (by decide) ?_
  refine r_ald (f := Z) hx hb hK hP 1 rfl (i := 0) (by omega) (Nat.lt_of_lt_of_le (by omega : 1595 < 1073741824) (by decide)) dX8_isWindow_8 ?_
  refine lv_iconst (v := nI (1)) hx hb dX8_isWindow_9 (by decide) ?_
  refine lv_isub hx hb dX8_isWindow_10 ?_
  refine lv_i2l (v := ((nI (Z 0)) - (nI (1))).toInt64) hx hb dX8_isWindow_11 (rfl) ?_
  refine cSi (n := 3) (As := [.long ((pk).toInt64), .long (lN (0)), .long (((nI (Z 0)) - (nI (1))).toInt64)]) (rest := []) (X := [(om, .inr (8, [.ref (mw), .int (nI (ud)), .ref (mt), .int (nI (td)), .int (nI (fy)), .int (nI (su)), .ref (mm), .ref (ml), .ref (mi), .ref (mh), .int (nI (cu)), .int (nI (sa)), .int (nI (nb)), .ref (mr), .int (nI (tn))])), (mw, .inl (cA 0, 1595, arN Z))]) (pl := []) (wc := ([] : va_W)) (wr := [(om, .inr (8, [.ref (mw), .int (nI (ud)), .ref (mt), .int (nI (td)), .int (nI (fy)), .int (nI (su)), .ref (mm), .ref (ml), .ref (mi), .ref (mh), .int (nI (cu)), .int (nI (sa)), .int (nI (nb)), .ref (mr), .int (nI (tn))])), (mw, .inl (cA 0, 1595, arN Z))]) (w1 := ([] : va_W)) (wn := [(om, .inr (8, [.ref (mw), .int (nI (ud)), .ref (mt), .int (nI (td)), .int (nI (fy)), .int (nI (su)), .ref (mm), .ref (ml), .ref (mi), .ref (mh), .int (nI (cu)), .int (nI (sa)), .int (nI (nb)), .ref (mr), .int (nI (tn))])), (mw, .inl (cA 0, 1595, arN Z))]) (isC := []) (isR := [0, 1]) (isN := [0, 1]) ⟨hx, hb, hml, hown, hts⟩ (c_X8_in_W l D cA tt pk (Z 0) (by omega) _) gX8_isWindow_X8_in rfl (by decide +kernel) ⟨rfl, rfl⟩ ⟨Nat.le_of_ble_eq_true rfl, Nat.le_of_ble_eq_true rfl⟩ ⟨Nat.zero_le _, Nat.zero_le _⟩ hK hE hA hP hD hS ⟨⟨rfl, by decide⟩, ⟨rfl, by decide, by decide⟩, rfl, by decide⟩ rfl hl.1 rfl (Nat.le_of_ble_eq_true rfl) dX8_isWindow_12 (fun H locs hP hD hS => ?_)
  have hP : va_P D vwCl [(om, .inr (8, [.ref (mw), .int (nI (ud)), .ref (mt), .int (nI (td)), .int (nI (fy)), .int (nI (su)), .ref (mm), .ref (ml), .ref (mi), .ref (mh), .int (nI (cu)), .int (nI (sa)), .int (nI (nb)), .ref (mr), .int (nI (tn))])), (mw, .inl (cA 0, 1595, arN Z))] _ := hP
  have hD : va_D A [(om, .inr (8, [.ref (mw), .int (nI (ud)), .ref (mt), .int (nI (td)), .int (nI (fy)), .int (nI (su)), .ref (mm), .ref (ml), .ref (mi), .ref (mh), .int (nI (cu)), .int (nI (sa)), .int (nI (nb)), .ref (mr), .int (nI (tn))])), (mw, .inl (cA 0, 1595, arN Z))] := hD
  exact hend _ _ _ _ _ hP hD hS (rfl) dX8_isWindow_15
set_option maxRecDepth 100000 in
set_option maxHeartbeats 4000000 in
theorem c_X8_isStreet (l : Launch) (D : va_G) (cA : Nat → ClassId) (tt : Nat → Nat) (om mw mt mm ml mi mh mr ud td fy su cu sa nb tn : Nat) (Z : Nat → Nat) (hg : Wf (sg Z 0)) (sz : Nat) : Ci l D cA tt yX8_isStreet wsX8_isStreet ({ frames := 0, cells := 0, slots := 0, locals := 0 } : Room) [.ref (om)] sz [(om, .inr (8, [.ref (mw), .int (nI (ud)), .ref (mt), .int (nI (td)), .int (nI (fy)), .int (nI (su)), .ref (mm), .ref (ml), .ref (mi), .ref (mh), .int (nI (cu)), .int (nI (sa)), .int (nI (nb)), .ref (mr), .int (nI (tn))])), (mw, .inl (cA 0, 1595, arN Z))] [(om, .inr (8, [.ref (mw), .int (nI (ud)), .ref (mt), .int (nI (td)), .int (nI (fy)), .int (nI (su)), .ref (mm), .ref (ml), .ref (mi), .ref (mh), .int (nI (cu)), .int (nI (sa)), .int (nI (nb)), .ref (mr), .int (nI (tn))])), (mw, .inl (cA 0, 1595, arN Z))] (bI (decide (0 < Z 0))) := by
  obtain ⟨gn, ge, gv, go, ga⟩ := wfZ hg
  refine Ci.mk (cc := cX8_isStreet) (maxL := 1) (ty := .boolean) (by decide) rfl (bI_n _) (Nat.le_of_ble_eq_true rfl) ?_
  intro p e s m below meth c A Q ls hB hl hend
  obtain ⟨⟨hx, hb, hml, hown, hts⟩, hP, hK, hD, hS, hA, hE⟩ := hB
  have hown : s.vm.findClass RX8 = some m.cls := hown
  have hwsX80 : ∀ w9 ∈ wsX80, w9.before ([.ref (om)] : List Value).toArray s = true := fun w9 h => hts w9 (List.mem_cons_of_mem _ (List.mem_append_right _ h))
  have hl : lv_has ls 1 [(0, .ref (om))] := hl
  refine lv_aload_n hx hb dX8_isStreet_0 rfl (lv_at hl 0 rfl) ?_
  refine va_get (v := .ref (mw)) (Ts := wsX80) (C := RX8) (T := TX8) (N := 15) hx hb hwsX80 (fun _ h => h) hown hK hP 0 rfl rfl 0 (by decide) (hts (.fieldLink RX8 7 "AdventStreetsModel" "w" "[I") (List.mem_of_getElem? (i := 1) rfl)) (fun _ h9 => h9) rfl dX8_isStreet_1 ?_
  refine lv_iconst (v := nI (0)) hx hb dX8_isStreet_4 (by decide) ?_
  refine r_ald (f := Z) hx hb hK hP 1 rfl (i := 0) (by omega) (Nat.lt_of_lt_of_le (by omega : 1595 < 1073741824) (by decide)) dX8_isStreet_5 ?_
  refine lv_if_le (tgt := 13) hx hb dX8_isStreet_6 (by decide) (fun c1 => ?_) (fun c1 => ?_)
  · skip
    rw [n_le0 (by omega)] at c1
    refine lv_iconst (v := nI (0)) hx hb dX8_isStreet_13 (by decide) ?_
    exact hend _ _ _ _ _ hP hD hS (zero_bI (decide_eq_false (by omega))) dX8_isStreet_14
  · skip
    rw [n_le0 (by omega)] at c1
    refine lv_iconst (v := nI (1)) hx hb dX8_isStreet_9 (by decide) ?_
    refine lv_goto (tgt := 14) hx hb dX8_isStreet_10 (by decide) ?_
    exact hend _ _ _ _ _ hP hD hS (one_bI (decide_eq_true (by omega))) dX8_isStreet_14
set_option maxRecDepth 100000 in
set_option maxHeartbeats 4000000 in
theorem c_X8_isRow (l : Launch) (D : va_G) (cA : Nat → ClassId) (tt : Nat → Nat) (v : Int32)  (sz : Nat) : Ci l D cA tt yX8_isRow wsX8_isRow ({ frames := 1, cells := 0, slots := 0, locals := 25 } : Room) [.int (v)] sz ([] : va_W) ([] : va_W) (bI (inI v (nI 0) (nI 7))) := by
  refine Ci.mk (cc := cX8_isRow) (maxL := 1) (ty := .boolean) (by decide) rfl (bI_n _) (Nat.le_of_ble_eq_true rfl) ?_
  intro p e s m below meth c A Q ls hB hl hend
  obtain ⟨⟨hx, hb, hml, hown, hts⟩, hP, hK, hD, hS, hA, hE⟩ := hB
  have hown : s.vm.findClass RX8 = some m.cls := hown
  have hl : lv_has ls 1 [(0, .int (v))] := hl
  refine lv_iload_n hx hb dX8_isRow_0 rfl (lv_at hl 0 rfl) ?_
  refine lv_i2l (v := (v).toInt64) hx hb dX8_isRow_1 (rfl) ?_
  refine lv_lconst (v := lN 0) hx hb dX8_isRow_2 rfl ?_
  refine lv_ldc2 (v := (7)) hx hb hown (hts (.constantLong RX8 35 (7)) (List.mem_of_getElem? (i := 1) rfl)) dX8_isRow_3 ?_
  refine vn_l (v := lN 7) (by decide) ?_
  refine cSi (n := 3) (As := [.long ((v).toInt64), .long (lN (0)), .long (lN (7))]) (rest := []) (X := ([] : va_W)) (pl := []) (wc := ([] : va_W)) (wr := ([] : va_W)) (w1 := ([] : va_W)) (wn := ([] : va_W)) (isC := []) (isR := []) (isN := []) ⟨hx, hb, hml, hown, hts⟩ (c_X8_in_I l D cA tt v 0 7 (by omega) (by omega) _) gX8_isRow_X8_in rfl (by decide +kernel) ⟨rfl, rfl⟩ ⟨Nat.le_of_ble_eq_true rfl, Nat.le_of_ble_eq_true rfl⟩ ⟨Nat.zero_le _, Nat.zero_le _⟩ hK hE hA hP hD hS ⟨⟨rfl, by decide⟩, ⟨rfl, by decide, by decide⟩, rfl, by decide⟩ rfl hl.1 rfl (Nat.le_of_ble_eq_true rfl) dX8_isRow_6 (fun H locs hP hD hS => ?_)
  have hP : va_P D vwCl ([] : va_W) _ := hP
  have hD : va_D A ([] : va_W) := hD
  exact hend _ _ _ _ _ hP hD hS (rfl) dX8_isRow_9
set_option maxRecDepth 100000 in
set_option maxHeartbeats 4000000 in
theorem c_X8_finds (l : Launch) (D : va_G) (cA : Nat → ClassId) (tt : Nat → Nat) (om mw mt mm ml mi mh mr ud td fy su cu sa nb tn : Nat) (k : Nat)  (sz : Nat) : Ci l D cA tt yX8_finds wsX8_finds ({ frames := 0, cells := 0, slots := 0, locals := 0 } : Room) [.ref (om), .int (nI (k))] sz [(om, .inr (8, [.ref (mw), .int (nI (ud)), .ref (mt), .int (nI (td)), .int (nI (fy)), .int (nI (su)), .ref (mm), .ref (ml), .ref (mi), .ref (mh), .int (nI (cu)), .int (nI (sa)), .int (nI (nb)), .ref (mr), .int (nI (tn))]))] [(om, .inr (8, [.ref (mw), .int (nI (ud)), .ref (mt), .int (nI (td)), .int (nI (fy)), .int (nI (k)), .ref (mm), .ref (ml), .ref (mi), .ref (mh), .int (nI (cu)), .int (nI (sa)), .int (nI (nb)), .ref (mr), .int (nI (tn))]))] ((-1000010) - nI k) := by
  refine Ci.mk (cc := cX8_finds) (maxL := 2) (ty := .int) (by decide) rfl rfl (Nat.le_of_ble_eq_true rfl) ?_
  intro p e s m below meth c A Q ls hB hl hend
  obtain ⟨⟨hx, hb, hml, hown, hts⟩, hP, hK, hD, hS, hA, hE⟩ := hB
  have hown : s.vm.findClass RX8 = some m.cls := hown
  have hwsX80 : ∀ w9 ∈ wsX80, w9.before ([.ref (om), .int (nI (k))] : List Value).toArray s = true := fun w9 h => hts w9 (List.mem_cons_of_mem _ (List.mem_append_right _ h))
  have hl : lv_has ls 2 [(0, .ref (om)), (1, .int (nI (k)))] := hl
  refine lv_aload_n hx hb dX8_finds_0 rfl (lv_at hl 0 rfl) ?_
  refine lv_iload_n hx hb dX8_finds_1 rfl (lv_at hl 1 rfl) ?_
  refine va_put (v := .int (nI (k))) (ty := .int) (Ts := wsX80) (C := RX8) (T := TX8) (N := 15) hx hb hwsX80 (fun _ h => h) tyX8 tyX8_ok nmX8 hown hK hP hD hS 0 rfl rfl 5 (by decide) (hts (.fieldLink RX8 37 "AdventStreetsModel" "status" "I") (List.mem_of_getElem? (i := 1) rfl)) (fun _ h9 => h9) rfl (tyX8_ok 5 (by decide)) rfl rfl (Nat.le_of_ble_eq_true rfl) dX8_finds_2 (fun H locs hP hD hS => ?_)
  have hP : va_P D vwCl [(om, .inr (8, [.ref (mw), .int (nI (ud)), .ref (mt), .int (nI (td)), .int (nI (fy)), .int (nI (k)), .ref (mm), .ref (ml), .ref (mi), .ref (mh), .int (nI (cu)), .int (nI (sa)), .int (nI (nb)), .ref (mr), .int (nI (tn))]))] _ := hP
  have hD : va_D A [(om, .inr (8, [.ref (mw), .int (nI (ud)), .ref (mt), .int (nI (td)), .int (nI (fy)), .int (nI (k)), .ref (mm), .ref (ml), .ref (mi), .ref (mh), .int (nI (cu)), .int (nI (sa)), .int (nI (nb)), .ref (mr), .int (nI (tn))]))] := hD
  refine lv_ldc (v := (-1000010)) hx hb hown (hts (.constant RX8 41 (-1000010)) (List.mem_of_getElem? (i := 2) rfl)) dX8_finds_5 ?_
  refine lv_iload_n hx hb dX8_finds_7 rfl (lv_at hl 1 rfl) ?_
  refine lv_isub hx hb dX8_finds_8 ?_
  exact hend _ _ _ _ _ hP hD hS (rfl) dX8_finds_9
set_option maxRecDepth 100000 in
set_option maxHeartbeats 4000000 in
theorem c_X8_against (l : Launch) (D : va_G) (cA : Nat → ClassId) (tt : Nat → Nat) (om mw mt mm ml mi mh mr ud td fy su cu sa nb tn : Nat) (mf : Nat → Int32) (k : Nat) (i n : Int32) (hk : k < 8) (sz : Nat) : Ci l D cA tt yX8_against wsX8_against ({ frames := 0, cells := 0, slots := 0, locals := 0 } : Room) [.ref (om), .int (nI (k)), .int (i), .int (n)] sz [(om, .inr (8, [.ref (mw), .int (nI (ud)), .ref (mt), .int (nI (td)), .int (nI (fy)), .int (nI (su)), .ref (mm), .ref (ml), .ref (mi), .ref (mh), .int (nI (cu)), .int (nI (sa)), .int (nI (nb)), .ref (mr), .int (nI (tn))])), (mm, .inl (cA 0, 8, .inl mf))] [(om, .inr (8, [.ref (mw), .int (nI (ud)), .ref (mt), .int (nI (td)), .int (nI (fy)), .int (nI (su)), .ref (mm), .ref (ml), .ref (mi), .ref (mh), .int (nI (cu)), .int (nI (sa)), .int (nI (nb)), .ref (mr), .int (nI (tn))])), (mm, .inl (cA 0, 8, .inl mf))] (nI (agN (mf k) i n)) := by
  refine Ci.mk (cc := cX8_against) (maxL := 4) (ty := .int) (by decide) rfl rfl (Nat.le_of_ble_eq_true rfl) ?_
  intro p e s m below meth c A Q ls hB hl hend
  obtain ⟨⟨hx, hb, hml, hown, hts⟩, hP, hK, hD, hS, hA, hE⟩ := hB
  have hown : s.vm.findClass RX8 = some m.cls := hown
  have hwsX80 : ∀ w9 ∈ wsX80, w9.before ([.ref (om), .int (nI (k)), .int (i), .int (n)] : List Value).toArray s = true := fun w9 h => hts w9 (List.mem_cons_of_mem _ (List.mem_append_right _ h))
  have hl : lv_has ls 4 [(0, .ref (om)), (1, .int (nI (k))), (2, .int (i)), (3, .int (n))] := hl
  refine lv_aload_n hx hb dX8_against_0 rfl (lv_at hl 0 rfl) ?_
  refine va_get (v := .ref (mm)) (Ts := wsX80) (C := RX8) (T := TX8) (N := 15) hx hb hwsX80 (fun _ h => h) hown hK hP 0 rfl rfl 6 (by decide) (hts (.fieldLink RX8 16 "AdventStreetsModel" "many" "[I") (List.mem_of_getElem? (i := 1) rfl)) (fun _ h9 => h9) rfl dX8_against_1 ?_
  refine lv_iload_n hx hb dX8_against_4 rfl (lv_at hl 1 rfl) ?_
  refine r_aldI (f := mf) hx hb hK hP 1 rfl (i := k) (by omega) (Nat.lt_of_lt_of_le (by omega : 8 < 1073741824) (by decide)) dX8_against_5 ?_
  refine lv_if_ge (tgt := 13) hx hb dX8_against_6 (by decide) (fun c1 => ?_) (fun c1 => ?_)
  · skip
    refine lv_iload_n hx hb dX8_against_13 rfl (lv_at hl 2 rfl) ?_
    refine lv_if_lt (tgt := 37) hx hb dX8_against_14 (by decide) (fun c2 => ?_) (fun c2 => ?_)
    · skip
      refine lv_iconst (v := nI (2)) hx hb dX8_against_37 (by decide) ?_
      refine lv_goto (tgt := 42) hx hb dX8_against_38 (by decide) ?_
      exact hend _ _ _ _ _ hP hD hS (by unfold agN; rw [if_pos c1, if_pos c2]) dX8_against_42
    · skip
      refine lv_iload_n hx hb dX8_against_17 rfl (lv_at hl 3 rfl) ?_
      refine lv_if_lt (tgt := 37) hx hb dX8_against_18 (by decide) (fun c3 => ?_) (fun c3 => ?_)
      · skip
        refine lv_iconst (v := nI (2)) hx hb dX8_against_37 (by decide) ?_
        refine lv_goto (tgt := 42) hx hb dX8_against_38 (by decide) ?_
        exact hend _ _ _ _ _ hP hD hS (by unfold agN; rw [if_pos c1, if_neg c2, if_pos c3]) dX8_against_42
      · skip
        refine lv_iload_n hx hb dX8_against_21 rfl (lv_at hl 2 rfl) ?_
        refine lv_i2l (v := (i).toInt64) hx hb dX8_against_22 (rfl) ?_
        refine lv_iload_n hx hb dX8_against_23 rfl (lv_at hl 3 rfl) ?_
        refine lv_i2l (v := (n).toInt64) hx hb dX8_against_24 (rfl) ?_
        refine lv_ladd hx hb dX8_against_25 ?_
        refine lv_aload_n hx hb dX8_against_26 rfl (lv_at hl 0 rfl) ?_
        refine va_get (v := .ref (mm)) (Ts := wsX80) (C := RX8) (T := TX8) (N := 15) hx hb hwsX80 (fun _ h => h) hown hK hP 0 rfl rfl 6 (by decide) (hts (.fieldLink RX8 16 "AdventStreetsModel" "many" "[I") (List.mem_of_getElem? (i := 1) rfl)) (fun _ h9 => h9) rfl dX8_against_27 ?_
        refine lv_iload_n hx hb dX8_against_30 rfl (lv_at hl 1 rfl) ?_
        refine r_aldI (f := mf) hx hb hK hP 1 rfl (i := k) (by omega) (Nat.lt_of_lt_of_le (by omega : 8 < 1073741824) (by decide)) dX8_against_31 ?_
        refine lv_i2l (v := (mf k).toInt64) hx hb dX8_against_32 (rfl) ?_
        refine W.lcmp hx hb dX8_against_33 ?_
        refine lv_if_le (tgt := 41) hx hb dX8_against_34 (by decide) (fun c4 => ?_) (fun c4 => ?_)
        · skip
          rw [lg_cmp_le] at c4
          refine lv_iconst (v := nI (0)) hx hb dX8_against_41 (by decide) ?_
          exact hend _ _ _ _ _ hP hD hS (by unfold agN; rw [if_pos c1, if_neg c2, if_neg c3, if_pos c4]) dX8_against_42
        · skip
          rw [lg_cmp_le] at c4
          refine lv_iconst (v := nI (2)) hx hb dX8_against_37 (by decide) ?_
          refine lv_goto (tgt := 42) hx hb dX8_against_38 (by decide) ?_
          exact hend _ _ _ _ _ hP hD hS (by unfold agN; rw [if_pos c1, if_neg c2, if_neg c3, if_neg c4]) dX8_against_42
  · skip
    refine lv_iconst (v := nI (1)) hx hb dX8_against_9 (by decide) ?_
    refine lv_goto (tgt := 42) hx hb dX8_against_10 (by decide) ?_
    exact hend _ _ _ _ _ hP hD hS (by unfold agN; rw [if_neg c1]) dX8_against_42
set_option maxRecDepth 100000 in
set_option maxHeartbeats 4000000 in
theorem c_X8_dateOf (l : Launch) (D : va_G) (cA : Nat → ClassId) (tt : Nat → Nat) (om mw mt mm ml mi mh mr ud td fy su cu sa nb tn : Nat) (Z : Nat → Nat) (r : Nat) (hg : Wf (sg Z r)) (hr : r + 55 ≤ 1595) (he : 0 < Z (r + 1)) (ht : Z (r + 3) < 1073741824) (sz : Nat) : Ci l D cA tt yX8_dateOf wsX8_dateOf ({ frames := 0, cells := 0, slots := 0, locals := 0 } : Room) [.ref (om), .int (nI (r))] sz [(om, .inr (8, [.ref (mw), .int (nI (ud)), .ref (mt), .int (nI (td)), .int (nI (fy)), .int (nI (su)), .ref (mm), .ref (ml), .ref (mi), .ref (mh), .int (nI (cu)), .int (nI (sa)), .int (nI (nb)), .ref (mr), .int (nI (tn))])), (mw, .inl (cA 0, 1595, arN Z))] [(om, .inr (8, [.ref (mw), .int (nI (ud)), .ref (mt), .int (nI (td)), .int (nI (fy)), .int (nI (su)), .ref (mm), .ref (ml), .ref (mi), .ref (mh), .int (nI (cu)), .int (nI (sa)), .int (nI (nb)), .ref (mr), .int (nI (tn))])), (mw, .inl (cA 0, 1595, arN Z))] (nI (dateF (sg Z r))) := by
  obtain ⟨gn, ge, gv, go, ga⟩ := wfW hg
  have hm : Z (r + 3) % Z (r + 1) < Z (r + 1) := Nat.mod_lt _ he
  refine Ci.mk (cc := cX8_dateOf) (maxL := 2) (ty := .int) (by decide) rfl rfl (Nat.le_of_ble_eq_true rfl) ?_
  intro p e s m below meth c A Q ls hB hl hend
  obtain ⟨⟨hx, hb, hml, hown, hts⟩, hP, hK, hD, hS, hA, hE⟩ := hB
  have hown : s.vm.findClass RX8 = some m.cls := hown
  have hwsX80 : ∀ w9 ∈ wsX80, w9.before ([.ref (om), .int (nI (r))] : List Value).toArray s = true := fun w9 h => hts w9 (List.mem_cons_of_mem _ (List.mem_append_right _ h))
  have hl : lv_has ls 2 [(0, .ref (om)), (1, .int (nI (r)))] := hl
  refine lv_aload_n hx hb dX8_dateOf_0 rfl (lv_at hl 0 rfl) ?_
  refine va_get (v := .ref (mw)) (Ts := wsX80) (C := RX8) (T := TX8) (N := 15) hx hb hwsX80 (fun _ h => h) hown hK hP 0 rfl rfl 0 (by decide) (hts (.fieldLink RX8 7 "AdventStreetsModel" "w" "[I") (List.mem_of_getElem? (i := 1) rfl)) (fun _ h9 => h9) rfl dX8_dateOf_1 ?_
  refine lv_iload_n hx hb dX8_dateOf_4 rfl (lv_at hl 1 rfl) ?_
  refine lv_iconst (v := nI (3)) hx hb dX8_dateOf_5 (by decide) ?_
  refine lv_iadd hx hb dX8_dateOf_6 ?_
  refine vn_i (v := nI (r + 3)) (nI_add _ _) ?_
  refine r_ald (f := Z) hx hb hK hP 1 rfl (i := r + 3) (by omega) (Nat.lt_of_lt_of_le (by omega : 1595 < 1073741824) (by decide)) dX8_dateOf_7 ?_
  refine lv_aload_n hx hb dX8_dateOf_8 rfl (lv_at hl 0 rfl) ?_
  refine va_get (v := .ref (mw)) (Ts := wsX80) (C := RX8) (T := TX8) (N := 15) hx hb hwsX80 (fun _ h => h) hown hK hP 0 rfl rfl 0 (by decide) (hts (.fieldLink RX8 7 "AdventStreetsModel" "w" "[I") (List.mem_of_getElem? (i := 1) rfl)) (fun _ h9 => h9) rfl dX8_dateOf_9 ?_
  refine lv_iload_n hx hb dX8_dateOf_12 rfl (lv_at hl 1 rfl) ?_
  refine lv_iconst (v := nI (1)) hx hb dX8_dateOf_13 (by decide) ?_
  refine lv_iadd hx hb dX8_dateOf_14 ?_
  refine vn_i (v := nI (r + 1)) (nI_add _ _) ?_
  refine r_ald (f := Z) hx hb hK hP 1 rfl (i := r + 1) (by omega) (Nat.lt_of_lt_of_le (by omega : 1595 < 1073741824) (by decide)) dX8_dateOf_15 ?_
  refine lv_irem hx hb dX8_dateOf_16 (by rw [n_z (by omega)]; omega) ?_
  refine vn_i (v := nI ((Z (r + 3)) % (Z (r + 1)))) (pk_rem (by omega) (by omega) (by omega)) ?_
  refine lv_iconst (v := nI (1)) hx hb dX8_dateOf_17 (by decide) ?_
  refine lv_iadd hx hb dX8_dateOf_18 ?_
  refine vn_i (v := nI ((Z (r + 3)) % (Z (r + 1)) + 1)) (nI_add _ _) ?_
  exact hend _ _ _ _ _ hP hD hS (by unfold dateF; rw [if_pos he]) dX8_dateOf_19
set_option maxRecDepth 100000 in
set_option maxHeartbeats 4000000 in
theorem c_X8_asTight (l : Launch) (D : va_G) (cA : Nat → ClassId) (tt : Nat → Nat) (om mw mt mm ml mi mh mr ud td fy su cu sa nb tn : Nat) (Z : Nat → Nat) (r k : Nat) (hg : Wf (sg Z r)) (hr : r + 55 ≤ 1595) (hk : k < Z r) (he : 0 < Z (r + 1)) (ht : Z (r + 3) < 1073741824) (sz : Nat) : Ci l D cA tt yX8_asTight wsX8_asTight ({ frames := 1, cells := 0, slots := 0, locals := 21 } : Room) [.ref (om), .int (nI (r)), .int (nI (k))] sz [(om, .inr (8, [.ref (mw), .int (nI (ud)), .ref (mt), .int (nI (td)), .int (nI (fy)), .int (nI (su)), .ref (mm), .ref (ml), .ref (mi), .ref (mh), .int (nI (cu)), .int (nI (sa)), .int (nI (nb)), .ref (mr), .int (nI (tn))])), (mw, .inl (cA 0, 1595, arN Z))] [(om, .inr (8, [.ref (mw), .int (nI (ud)), .ref (mt), .int (nI (td)), .int (nI (fy)), .int (nI (su)), .ref (mm), .ref (ml), .ref (mi), .ref (mh), .int (nI (cu)), .int (nI (sa)), .int (nI (nb)), .ref (mr), .int (nI (tn))])), (mw, .inl (cA 0, 1595, arN Z))] (bI (tightM (sg Z r) k)) := by
  obtain ⟨gn, ge, gv, go, ga⟩ := wfW hg
  have hd : dateF (sg Z r) < 1025 := date_lt hg
  obtain ⟨gK, gP, gD, gG, gS⟩ := ga k (by omega)
  refine Ci.mk (cc := cX8_asTight) (maxL := 3) (ty := .boolean) (by decide) rfl (bI_n _) (Nat.le_of_ble_eq_true rfl) ?_
  intro p e s m below meth c A Q ls hB hl hend
  obtain ⟨⟨hx, hb, hml, hown, hts⟩, hP, hK, hD, hS, hA, hE⟩ := hB
  have hown : s.vm.findClass RX8 = some m.cls := hown
  have hwsX80 : ∀ w9 ∈ wsX80, w9.before ([.ref (om), .int (nI (r)), .int (nI (k))] : List Value).toArray s = true := fun w9 h => hts w9 (List.mem_cons_of_mem _ (List.mem_append_right _ h))
  have hl : lv_has ls 3 [(0, .ref (om)), (1, .int (nI (r))), (2, .int (nI (k)))] := hl
  refine lv_aload_n hx hb dX8_asTight_0 rfl (lv_at hl 0 rfl) ?_
  refine lv_iload_n hx hb dX8_asTight_1 rfl (lv_at hl 1 rfl) ?_
  refine cVi (n := 1) (As := [.int (nI (r))]) (rest := []) (C := RX8) (ci := 8) (q0 := 0) (X := [(om, .inr (8, [.ref (mw), .int (nI (ud)), .ref (mt), .int (nI (td)), .int (nI (fy)), .int (nI (su)), .ref (mm), .ref (ml), .ref (mi), .ref (mh), .int (nI (cu)), .int (nI (sa)), .int (nI (nb)), .ref (mr), .int (nI (tn))])), (mw, .inl (cA 0, 1595, arN Z))]) (pl := []) (wc := [(om, .inr (8, [.ref (mw), .int (nI (ud)), .ref (mt), .int (nI (td)), .int (nI (fy)), .int (nI (su)), .ref (mm), .ref (ml), .ref (mi), .ref (mh), .int (nI (cu)), .int (nI (sa)), .int (nI (nb)), .ref (mr), .int (nI (tn))])), (mw, .inl (cA 0, 1595, arN Z))]) (wr := ([] : va_W)) (w1 := [(om, .inr (8, [.ref (mw), .int (nI (ud)), .ref (mt), .int (nI (td)), .int (nI (fy)), .int (nI (su)), .ref (mm), .ref (ml), .ref (mi), .ref (mh), .int (nI (cu)), .int (nI (sa)), .int (nI (nb)), .ref (mr), .int (nI (tn))])), (mw, .inl (cA 0, 1595, arN Z))]) (wn := [(om, .inr (8, [.ref (mw), .int (nI (ud)), .ref (mt), .int (nI (td)), .int (nI (fy)), .int (nI (su)), .ref (mm), .ref (ml), .ref (mi), .ref (mh), .int (nI (cu)), .int (nI (sa)), .int (nI (nb)), .ref (mr), .int (nI (tn))])), (mw, .inl (cA 0, 1595, arN Z))]) (isC := [0, 1]) (isR := []) (isN := [0, 1]) ⟨hx, hb, hml, hown, hts⟩ (c_X8_dateOf l D cA tt om mw mt mm ml mi mh mr ud td fy su cu sa nb tn Z r (hg) (hr) (he) (ht) _) gX8_asTight_X8_dateOf rfl (by decide +kernel) rfl rfl ⟨rfl, rfl⟩ ⟨Nat.le_of_ble_eq_true rfl, Nat.le_of_ble_eq_true rfl⟩ ⟨Nat.zero_le _, Nat.zero_le _⟩ hK hE hA hP hD hS ⟨⟨rfl, by decide⟩, ⟨rfl, by decide, by decide⟩, rfl, by decide⟩ rfl hl.1 rfl (Nat.le_of_ble_eq_true rfl) dX8_asTight_2 (fun H locs hP hD hS => ?_)
  have hP : va_P D vwCl [(om, .inr (8, [.ref (mw), .int (nI (ud)), .ref (mt), .int (nI (td)), .int (nI (fy)), .int (nI (su)), .ref (mm), .ref (ml), .ref (mi), .ref (mh), .int (nI (cu)), .int (nI (sa)), .int (nI (nb)), .ref (mr), .int (nI (tn))])), (mw, .inl (cA 0, 1595, arN Z))] _ := hP
  have hD : va_D A [(om, .inr (8, [.ref (mw), .int (nI (ud)), .ref (mt), .int (nI (td)), .int (nI (fy)), .int (nI (su)), .ref (mm), .ref (ml), .ref (mi), .ref (mh), .int (nI (cu)), .int (nI (sa)), .int (nI (nb)), .ref (mr), .int (nI (tn))])), (mw, .inl (cA 0, 1595, arN Z))] := hD
  refine lv_aload_n hx hb dX8_asTight_5 rfl (lv_at hl 0 rfl) ?_
  refine va_get (v := .ref (mw)) (Ts := wsX80) (C := RX8) (T := TX8) (N := 15) hx hb hwsX80 (fun _ h => h) hown hK hP 0 rfl rfl 0 (by decide) (hts (.fieldLink RX8 7 "AdventStreetsModel" "w" "[I") (List.mem_of_getElem? (i := 1) rfl)) (fun _ h9 => h9) rfl dX8_asTight_6 ?_
  refine lv_iload_n hx hb dX8_asTight_9 rfl (lv_at hl 1 rfl) ?_
  refine lv_bipush (v := nI (25)) hx hb dX8_asTight_10 (by decide) ?_
  refine lv_iadd hx hb dX8_asTight_12 ?_
  refine vn_i (v := nI (r + 25)) (nI_add _ _) ?_
  refine lv_iload_n hx hb dX8_asTight_13 rfl (lv_at hl 2 rfl) ?_
  refine lv_iadd hx hb dX8_asTight_14 ?_
  refine vn_i (v := nI (r + 25 + k)) (nI_add _ _) ?_
  refine r_ald (f := Z) hx hb hK hP 1 rfl (i := r + 25 + k) (by omega) (Nat.lt_of_lt_of_le (by omega : 1595 < 1073741824) (by decide)) dX8_asTight_15 ?_
  refine lv_icmp_ne (tgt := 38) hx hb dX8_asTight_16 (by decide) (fun c1 => ?_) (fun c1 => ?_)
  · skip
    rw [nI_eq (by omega) (by omega)] at c1
    refine lv_iconst (v := nI (0)) hx hb dX8_asTight_38 (by decide) ?_
    exact hend _ _ _ _ _ hP hD hS (zero_bI (by unfold tightM; rw [decide_eq_false (p := (dateF (sg Z r) = SD (sg Z r) k)) c1]; rfl)) dX8_asTight_39
  · skip
    rw [nI_eq (by omega) (by omega)] at c1
    refine lv_aload_n hx hb dX8_asTight_19 rfl (lv_at hl 0 rfl) ?_
    refine va_get (v := .ref (mw)) (Ts := wsX80) (C := RX8) (T := TX8) (N := 15) hx hb hwsX80 (fun _ h => h) hown hK hP 0 rfl rfl 0 (by decide) (hts (.fieldLink RX8 7 "AdventStreetsModel" "w" "[I") (List.mem_of_getElem? (i := 1) rfl)) (fun _ h9 => h9) rfl dX8_asTight_20 ?_
    refine lv_iload_n hx hb dX8_asTight_23 rfl (lv_at hl 1 rfl) ?_
    refine lv_bipush (v := nI (35)) hx hb dX8_asTight_24 (by decide) ?_
    refine lv_iadd hx hb dX8_asTight_26 ?_
    refine vn_i (v := nI (r + 35)) (nI_add _ _) ?_
    refine lv_iload_n hx hb dX8_asTight_27 rfl (lv_at hl 2 rfl) ?_
    refine lv_iadd hx hb dX8_asTight_28 ?_
    refine vn_i (v := nI (r + 35 + k)) (nI_add _ _) ?_
    refine r_ald (f := Z) hx hb hK hP 1 rfl (i := r + 35 + k) (by omega) (Nat.lt_of_lt_of_le (by omega : 1595 < 1073741824) (by decide)) dX8_asTight_29 ?_
    refine lv_iconst (v := nI (4)) hx hb dX8_asTight_30 (by decide) ?_
    refine lv_icmp_gt (tgt := 38) hx hb dX8_asTight_31 (by decide) (fun c2 => ?_) (fun c2 => ?_)
    · skip
      rw [nI_ltI (by omega) (by omega)] at c2
      refine lv_iconst (v := nI (0)) hx hb dX8_asTight_38 (by decide) ?_
      exact hend _ _ _ _ _ hP hD hS (zero_bI (by unfold tightM; rw [decide_eq_false (p := (SG (sg Z r) k ≤ 4)) (Nat.not_le.mpr c2), Bool.and_false])) dX8_asTight_39
    · skip
      rw [nI_ltI (by omega) (by omega)] at c2
      refine lv_iconst (v := nI (1)) hx hb dX8_asTight_34 (by decide) ?_
      refine lv_goto (tgt := 39) hx hb dX8_asTight_35 (by decide) ?_
      exact hend _ _ _ _ _ hP hD hS (one_bI (by unfold tightM; rw [decide_eq_true (p := (dateF (sg Z r) = SD (sg Z r) k)) c1, decide_eq_true (p := (SG (sg Z r) k ≤ 4)) (Nat.not_lt.mp c2)]; rfl)) dX8_asTight_39
set_option maxRecDepth 100000 in
set_option maxHeartbeats 4000000 in
theorem c_X8_would (l : Launch) (D : va_G) (cA : Nat → ClassId) (tt : Nat → Nat) (om mw mt mm ml mi mh mr ud td fy su cu sa nb tn : Nat) (Z : Nat → Nat) (r k : Nat) (hg : Wf (sg Z r)) (hr : r + 55 ≤ 1595) (hk : k < Z r) (he : 0 < Z (r + 1)) (ht : Z (r + 3) < 1073741824) (sz : Nat) : Ci l D cA tt yX8_would wsX8_would ({ frames := 2, cells := 0, slots := 0, locals := 43 } : Room) [.ref (om), .int (nI (r)), .int (nI (k))] sz [(om, .inr (8, [.ref (mw), .int (nI (ud)), .ref (mt), .int (nI (td)), .int (nI (fy)), .int (nI (su)), .ref (mm), .ref (ml), .ref (mi), .ref (mh), .int (nI (cu)), .int (nI (sa)), .int (nI (nb)), .ref (mr), .int (nI (tn))])), (mw, .inl (cA 0, 1595, arN Z))] [(om, .inr (8, [.ref (mw), .int (nI (ud)), .ref (mt), .int (nI (td)), .int (nI (fy)), .int (nI (su)), .ref (mm), .ref (ml), .ref (mi), .ref (mh), .int (nI (cu)), .int (nI (sa)), .int (nI (nb)), .ref (mr), .int (nI (tn))])), (mw, .inl (cA 0, 1595, arN Z))] (bI (wouldM (sg Z r) k)) := by
  obtain ⟨gn, ge, gv, go, ga⟩ := wfW hg
  have hd : dateF (sg Z r) < 1025 := date_lt hg
  obtain ⟨gK, gP, gD, gG, gS⟩ := ga k (by omega)
  refine Ci.mk (cc := cX8_would) (maxL := 5) (ty := .boolean) (by decide) rfl (bI_n _) (Nat.le_of_ble_eq_true rfl) ?_
  intro p e s m below meth c A Q ls hB hl hend
  obtain ⟨⟨hx, hb, hml, hown, hts⟩, hP, hK, hD, hS, hA, hE⟩ := hB
  have hown : s.vm.findClass RX8 = some m.cls := hown
  have hwsX80 : ∀ w9 ∈ wsX80, w9.before ([.ref (om), .int (nI (r)), .int (nI (k))] : List Value).toArray s = true := fun w9 h => hts w9 (List.mem_cons_of_mem _ (List.mem_append_right _ h))
  have hl : lv_has ls 5 [(0, .ref (om)), (1, .int (nI (r))), (2, .int (nI (k)))] := hl
  refine lv_aload_n hx hb dX8_would_0 rfl (lv_at hl 0 rfl) ?_
  refine lv_iload_n hx hb dX8_would_1 rfl (lv_at hl 1 rfl) ?_
  refine cVi (n := 1) (As := [.int (nI (r))]) (rest := []) (C := RX8) (ci := 8) (q0 := 0) (X := [(om, .inr (8, [.ref (mw), .int (nI (ud)), .ref (mt), .int (nI (td)), .int (nI (fy)), .int (nI (su)), .ref (mm), .ref (ml), .ref (mi), .ref (mh), .int (nI (cu)), .int (nI (sa)), .int (nI (nb)), .ref (mr), .int (nI (tn))])), (mw, .inl (cA 0, 1595, arN Z))]) (pl := []) (wc := [(om, .inr (8, [.ref (mw), .int (nI (ud)), .ref (mt), .int (nI (td)), .int (nI (fy)), .int (nI (su)), .ref (mm), .ref (ml), .ref (mi), .ref (mh), .int (nI (cu)), .int (nI (sa)), .int (nI (nb)), .ref (mr), .int (nI (tn))])), (mw, .inl (cA 0, 1595, arN Z))]) (wr := ([] : va_W)) (w1 := [(om, .inr (8, [.ref (mw), .int (nI (ud)), .ref (mt), .int (nI (td)), .int (nI (fy)), .int (nI (su)), .ref (mm), .ref (ml), .ref (mi), .ref (mh), .int (nI (cu)), .int (nI (sa)), .int (nI (nb)), .ref (mr), .int (nI (tn))])), (mw, .inl (cA 0, 1595, arN Z))]) (wn := [(om, .inr (8, [.ref (mw), .int (nI (ud)), .ref (mt), .int (nI (td)), .int (nI (fy)), .int (nI (su)), .ref (mm), .ref (ml), .ref (mi), .ref (mh), .int (nI (cu)), .int (nI (sa)), .int (nI (nb)), .ref (mr), .int (nI (tn))])), (mw, .inl (cA 0, 1595, arN Z))]) (isC := [0, 1]) (isR := []) (isN := [0, 1]) ⟨hx, hb, hml, hown, hts⟩ (c_X8_dateOf l D cA tt om mw mt mm ml mi mh mr ud td fy su cu sa nb tn Z r (hg) (hr) (he) (ht) _) gX8_would_X8_dateOf rfl (by decide +kernel) rfl rfl ⟨rfl, rfl⟩ ⟨Nat.le_of_ble_eq_true rfl, Nat.le_of_ble_eq_true rfl⟩ ⟨Nat.zero_le _, Nat.zero_le _⟩ hK hE hA hP hD hS ⟨⟨rfl, by decide⟩, ⟨rfl, by decide, by decide⟩, rfl, by decide⟩ rfl hl.1 rfl (Nat.le_of_ble_eq_true rfl) dX8_would_2 (fun H locs hP hD hS => ?_)
  have hP : va_P D vwCl [(om, .inr (8, [.ref (mw), .int (nI (ud)), .ref (mt), .int (nI (td)), .int (nI (fy)), .int (nI (su)), .ref (mm), .ref (ml), .ref (mi), .ref (mh), .int (nI (cu)), .int (nI (sa)), .int (nI (nb)), .ref (mr), .int (nI (tn))])), (mw, .inl (cA 0, 1595, arN Z))] _ := hP
  have hD : va_D A [(om, .inr (8, [.ref (mw), .int (nI (ud)), .ref (mt), .int (nI (td)), .int (nI (fy)), .int (nI (su)), .ref (mm), .ref (ml), .ref (mi), .ref (mh), .int (nI (cu)), .int (nI (sa)), .int (nI (nb)), .ref (mr), .int (nI (tn))])), (mw, .inl (cA 0, 1595, arN Z))] := hD
  refine lv_istore_n (lv' := [(3, .int (nI (dateF (sg Z r)))), (0, .ref (om)), (1, .int (nI (r))), (2, .int (nI (k)))]) hx hb dX8_would_5 rfl hl (by decide) rfl (fun ls hl => ?_)
  refine lv_iload_n hx hb dX8_would_6 rfl (lv_at hl 0 rfl) ?_
  refine lv_aload_n hx hb dX8_would_7 rfl (lv_at hl 1 rfl) ?_
  refine va_get (v := .ref (mw)) (Ts := wsX80) (C := RX8) (T := TX8) (N := 15) hx hb hwsX80 (fun _ h => h) hown hK hP 0 rfl rfl 0 (by decide) (hts (.fieldLink RX8 7 "AdventStreetsModel" "w" "[I") (List.mem_of_getElem? (i := 1) rfl)) (fun _ h9 => h9) rfl dX8_would_8 ?_
  refine lv_iload_n hx hb dX8_would_11 rfl (lv_at hl 2 rfl) ?_
  refine lv_bipush (v := nI (25)) hx hb dX8_would_12 (by decide) ?_
  refine lv_iadd hx hb dX8_would_14 ?_
  refine vn_i (v := nI (r + 25)) (nI_add _ _) ?_
  refine lv_iload_n hx hb dX8_would_15 rfl (lv_at hl 3 rfl) ?_
  refine lv_iadd hx hb dX8_would_16 ?_
  refine vn_i (v := nI (r + 25 + k)) (nI_add _ _) ?_
  refine r_ald (f := Z) hx hb hK hP 1 rfl (i := r + 25 + k) (by omega) (Nat.lt_of_lt_of_le (by omega : 1595 < 1073741824) (by decide)) dX8_would_17 ?_
  refine lv_icmp_ne (tgt := 25) hx hb dX8_would_18 (by decide) (fun c1 => ?_) (fun c1 => ?_)
  · skip
    rw [nI_eq (by omega) (by omega)] at c1
    refine lv_iconst (v := nI (0)) hx hb dX8_would_25 (by decide) ?_
    refine lv_istore (lv' := [(4, .int (nI (0))), (3, .int (nI (dateF (sg Z r)))), (0, .ref (om)), (1, .int (nI (r))), (2, .int (nI (k)))]) hx hb dX8_would_26 hl (by decide) rfl (fun ls hl => ?_)
    refine lv_aload_n hx hb dX8_would_28 rfl (lv_at hl 2 rfl) ?_
    refine va_get (v := .ref (mw)) (Ts := wsX80) (C := RX8) (T := TX8) (N := 15) hx hb hwsX80 (fun _ h => h) hown hK hP 0 rfl rfl 0 (by decide) (hts (.fieldLink RX8 7 "AdventStreetsModel" "w" "[I") (List.mem_of_getElem? (i := 1) rfl)) (fun _ h9 => h9) rfl dX8_would_29 ?_
    refine lv_iload_n hx hb dX8_would_32 rfl (lv_at hl 3 rfl) ?_
    refine lv_iconst (v := nI (5)) hx hb dX8_would_33 (by decide) ?_
    refine lv_iadd hx hb dX8_would_34 ?_
    refine vn_i (v := nI (r + 5)) (nI_add _ _) ?_
    refine lv_iload_n hx hb dX8_would_35 rfl (lv_at hl 4 rfl) ?_
    refine lv_iadd hx hb dX8_would_36 ?_
    refine vn_i (v := nI (r + 5 + k)) (nI_add _ _) ?_
    refine r_ald (f := Z) hx hb hK hP 1 rfl (i := r + 5 + k) (by omega) (Nat.lt_of_lt_of_le (by omega : 1595 < 1073741824) (by decide)) dX8_would_37 ?_
    by_cases c2 : Z (r + 5 + k) = 2
    · skip
      have ti38 : (nI (Z (r + 5 + k))).toInt = 2 := by rw [c2]; rfl
      refine lv_tableIn (off := 30) (tgt := 68) hx hb dX8_would_38 (by rw [ti38]; decide) (by rw [ti38]; decide) (by rw [ti38]; rfl) (by decide) ?_
      refine lv_iload hx hb dX8_would_68 (lv_at hl 0 rfl) ?_
      refine lv_if_ne (tgt := 90) hx hb dX8_would_70 (by decide) (fun c3 => ?_) (fun c3 => ?_)
      · skip
        rw [n_z (by omega)] at c3
        exact absurd c3 (by decide)
      · skip
        rw [n_z (by omega)] at c3
        refine lv_iload_n hx hb dX8_would_73 rfl (lv_at hl 1 rfl) ?_
        refine lv_aload_n hx hb dX8_would_74 rfl (lv_at hl 2 rfl) ?_
        refine va_get (v := .ref (mw)) (Ts := wsX80) (C := RX8) (T := TX8) (N := 15) hx hb hwsX80 (fun _ h => h) hown hK hP 0 rfl rfl 0 (by decide) (hts (.fieldLink RX8 7 "AdventStreetsModel" "w" "[I") (List.mem_of_getElem? (i := 1) rfl)) (fun _ h9 => h9) rfl dX8_would_75 ?_
        refine lv_iload_n hx hb dX8_would_78 rfl (lv_at hl 3 rfl) ?_
        refine lv_bipush (v := nI (25)) hx hb dX8_would_79 (by decide) ?_
        refine lv_iadd hx hb dX8_would_81 ?_
        refine vn_i (v := nI (r + 25)) (nI_add _ _) ?_
        refine lv_iload_n hx hb dX8_would_82 rfl (lv_at hl 4 rfl) ?_
        refine lv_iadd hx hb dX8_would_83 ?_
        refine vn_i (v := nI (r + 25 + k)) (nI_add _ _) ?_
        refine r_ald (f := Z) hx hb hK hP 1 rfl (i := r + 25 + k) (by omega) (Nat.lt_of_lt_of_le (by omega : 1595 < 1073741824) (by decide)) dX8_would_84 ?_
        refine lv_iconst (v := nI (1)) hx hb dX8_would_85 (by decide) ?_
        refine lv_iadd hx hb dX8_would_86 ?_
        refine vn_i (v := nI (Z (r + 25 + k) + 1)) (nI_add _ _) ?_
        refine lv_icmp_ne (tgt := 94) hx hb dX8_would_87 (by decide) (fun c4 => ?_) (fun c4 => ?_)
        · skip
          rw [nI_eq (by omega) (by omega)] at c4
          refine lv_iconst (v := nI (0)) hx hb dX8_would_94 (by decide) ?_
          exact hend _ _ _ _ _ hP hD hS (zero_bI (by unfold wouldM; rw [if_pos c2, decide_eq_false (p := (dateF (sg Z r) = SD (sg Z r) k)) c1, decide_eq_false (p := (dateF (sg Z r) = SD (sg Z r) k + 1)) c4]; rfl)) dX8_would_95
        · skip
          rw [nI_eq (by omega) (by omega)] at c4
          refine lv_iconst (v := nI (1)) hx hb dX8_would_90 (by decide) ?_
          refine lv_goto (tgt := 95) hx hb dX8_would_91 (by decide) ?_
          exact hend _ _ _ _ _ hP hD hS (one_bI (by unfold wouldM; rw [if_pos c2, decide_eq_false (p := (dateF (sg Z r) = SD (sg Z r) k)) c1, decide_eq_true (p := (dateF (sg Z r) = SD (sg Z r) k + 1)) c4]; rfl)) dX8_would_95
    by_cases c5 : Z (r + 5 + k) = 3
    · skip
      have ti38 : (nI (Z (r + 5 + k))).toInt = 3 := by rw [c5]; rfl
      refine lv_tableIn (off := 58) (tgt := 96) hx hb dX8_would_38 (by rw [ti38]; decide) (by rw [ti38]; decide) (by rw [ti38]; rfl) (by decide) ?_
      refine lv_iload hx hb dX8_would_96 (lv_at hl 0 rfl) ?_
      refine lv_if_ne (tgt := 115) hx hb dX8_would_98 (by decide) (fun c6 => ?_) (fun c6 => ?_)
      · skip
        rw [n_z (by omega)] at c6
        exact absurd c6 (by decide)
      · skip
        rw [n_z (by omega)] at c6
        refine lv_aload_n hx hb dX8_would_101 rfl (lv_at hl 2 rfl) ?_
        refine va_get (v := .ref (mw)) (Ts := wsX80) (C := RX8) (T := TX8) (N := 15) hx hb hwsX80 (fun _ h => h) hown hK hP 0 rfl rfl 0 (by decide) (hts (.fieldLink RX8 7 "AdventStreetsModel" "w" "[I") (List.mem_of_getElem? (i := 1) rfl)) (fun _ h9 => h9) rfl dX8_would_102 ?_
        refine lv_iload_n hx hb dX8_would_105 rfl (lv_at hl 3 rfl) ?_
        refine lv_bipush (v := nI (35)) hx hb dX8_would_106 (by decide) ?_
        refine lv_iadd hx hb dX8_would_108 ?_
        refine vn_i (v := nI (r + 35)) (nI_add _ _) ?_
        refine lv_iload_n hx hb dX8_would_109 rfl (lv_at hl 4 rfl) ?_
        refine lv_iadd hx hb dX8_would_110 ?_
        refine vn_i (v := nI (r + 35 + k)) (nI_add _ _) ?_
        refine r_ald (f := Z) hx hb hK hP 1 rfl (i := r + 35 + k) (by omega) (Nat.lt_of_lt_of_le (by omega : 1595 < 1073741824) (by decide)) dX8_would_111 ?_
        refine lv_if_ne (tgt := 119) hx hb dX8_would_112 (by decide) (fun c7 => ?_) (fun c7 => ?_)
        · skip
          rw [n_z (by omega)] at c7
          refine lv_iconst (v := nI (0)) hx hb dX8_would_119 (by decide) ?_
          exact hend _ _ _ _ _ hP hD hS (zero_bI (by unfold wouldM; rw [if_neg c2, if_pos c5, decide_eq_false (p := (dateF (sg Z r) = SD (sg Z r) k)) c1, decide_eq_false (p := (SG (sg Z r) k = 0)) c7]; rfl)) dX8_would_120
        · skip
          rw [n_z (by omega)] at c7
          refine lv_iconst (v := nI (1)) hx hb dX8_would_115 (by decide) ?_
          refine lv_goto (tgt := 120) hx hb dX8_would_116 (by decide) ?_
          exact hend _ _ _ _ _ hP hD hS (one_bI (by unfold wouldM; rw [if_neg c2, if_pos c5, decide_eq_false (p := (dateF (sg Z r) = SD (sg Z r) k)) c1, decide_eq_true (p := (SG (sg Z r) k = 0)) c7]; rfl)) dX8_would_120
    by_cases c8 : Z (r + 5 + k) = 4
    · skip
      have ti38 : (nI (Z (r + 5 + k))).toInt = 4 := by rw [c8]; rfl
      refine lv_tableIn (off := 83) (tgt := 121) hx hb dX8_would_38 (by rw [ti38]; decide) (by rw [ti38]; decide) (by rw [ti38]; rfl) (by decide) ?_
      refine lv_aload_n hx hb dX8_would_121 rfl (lv_at hl 2 rfl) ?_
      refine lv_iload_n hx hb dX8_would_122 rfl (lv_at hl 3 rfl) ?_
      refine lv_iload_n hx hb dX8_would_123 rfl (lv_at hl 4 rfl) ?_
      refine cVi (n := 2) (As := [.int (nI (r)), .int (nI (k))]) (rest := []) (C := RX8) (ci := 8) (q0 := 0) (X := [(om, .inr (8, [.ref (mw), .int (nI (ud)), .ref (mt), .int (nI (td)), .int (nI (fy)), .int (nI (su)), .ref (mm), .ref (ml), .ref (mi), .ref (mh), .int (nI (cu)), .int (nI (sa)), .int (nI (nb)), .ref (mr), .int (nI (tn))])), (mw, .inl (cA 0, 1595, arN Z))]) (pl := []) (wc := [(om, .inr (8, [.ref (mw), .int (nI (ud)), .ref (mt), .int (nI (td)), .int (nI (fy)), .int (nI (su)), .ref (mm), .ref (ml), .ref (mi), .ref (mh), .int (nI (cu)), .int (nI (sa)), .int (nI (nb)), .ref (mr), .int (nI (tn))])), (mw, .inl (cA 0, 1595, arN Z))]) (wr := ([] : va_W)) (w1 := [(om, .inr (8, [.ref (mw), .int (nI (ud)), .ref (mt), .int (nI (td)), .int (nI (fy)), .int (nI (su)), .ref (mm), .ref (ml), .ref (mi), .ref (mh), .int (nI (cu)), .int (nI (sa)), .int (nI (nb)), .ref (mr), .int (nI (tn))])), (mw, .inl (cA 0, 1595, arN Z))]) (wn := [(om, .inr (8, [.ref (mw), .int (nI (ud)), .ref (mt), .int (nI (td)), .int (nI (fy)), .int (nI (su)), .ref (mm), .ref (ml), .ref (mi), .ref (mh), .int (nI (cu)), .int (nI (sa)), .int (nI (nb)), .ref (mr), .int (nI (tn))])), (mw, .inl (cA 0, 1595, arN Z))]) (isC := [0, 1]) (isR := []) (isN := [0, 1]) ⟨hx, hb, hml, hown, hts⟩ (c_X8_asTight l D cA tt om mw mt mm ml mi mh mr ud td fy su cu sa nb tn Z r k (hg) (hr) (hk) (he) (ht) _) gX8_would_X8_asTight rfl (by decide +kernel) rfl rfl ⟨rfl, rfl⟩ ⟨Nat.le_of_ble_eq_true rfl, Nat.le_of_ble_eq_true rfl⟩ ⟨Nat.zero_le _, Nat.zero_le _⟩ hK hE hA hP hD hS ⟨⟨rfl, by decide⟩, ⟨rfl, by decide, by decide⟩, rfl, by decide⟩ rfl hl.1 rfl (Nat.le_of_ble_eq_true rfl) dX8_would_124 (fun H locs hP hD hS => ?_)
      have hP : va_P D vwCl [(om, .inr (8, [.ref (mw), .int (nI (ud)), .ref (mt), .int (nI (td)), .int (nI (fy)), .int (nI (su)), .ref (mm), .ref (ml), .ref (mi), .ref (mh), .int (nI (cu)), .int (nI (sa)), .int (nI (nb)), .ref (mr), .int (nI (tn))])), (mw, .inl (cA 0, 1595, arN Z))] _ := hP
      have hD : va_D A [(om, .inr (8, [.ref (mw), .int (nI (ud)), .ref (mt), .int (nI (td)), .int (nI (fy)), .int (nI (su)), .ref (mm), .ref (ml), .ref (mi), .ref (mh), .int (nI (cu)), .int (nI (sa)), .int (nI (nb)), .ref (mr), .int (nI (tn))])), (mw, .inl (cA 0, 1595, arN Z))] := hD
      exact hend _ _ _ _ _ hP hD hS (congrArg bI (by unfold wouldM; rw [if_neg c2, if_neg c5, if_pos c8])) dX8_would_127
    by_cases c9 : Z (r + 5 + k) = 5
    · skip
      have ti38 : (nI (Z (r + 5 + k))).toInt = 5 := by rw [c9]; rfl
      refine lv_tableIn (off := 90) (tgt := 128) hx hb dX8_would_38 (by rw [ti38]; decide) (by rw [ti38]; decide) (by rw [ti38]; rfl) (by decide) ?_
      refine lv_aload_n hx hb dX8_would_128 rfl (lv_at hl 2 rfl) ?_
      refine lv_iload_n hx hb dX8_would_129 rfl (lv_at hl 3 rfl) ?_
      refine lv_iload_n hx hb dX8_would_130 rfl (lv_at hl 4 rfl) ?_
      refine cVi (n := 2) (As := [.int (nI (r)), .int (nI (k))]) (rest := []) (C := RX8) (ci := 8) (q0 := 0) (X := [(om, .inr (8, [.ref (mw), .int (nI (ud)), .ref (mt), .int (nI (td)), .int (nI (fy)), .int (nI (su)), .ref (mm), .ref (ml), .ref (mi), .ref (mh), .int (nI (cu)), .int (nI (sa)), .int (nI (nb)), .ref (mr), .int (nI (tn))])), (mw, .inl (cA 0, 1595, arN Z))]) (pl := []) (wc := [(om, .inr (8, [.ref (mw), .int (nI (ud)), .ref (mt), .int (nI (td)), .int (nI (fy)), .int (nI (su)), .ref (mm), .ref (ml), .ref (mi), .ref (mh), .int (nI (cu)), .int (nI (sa)), .int (nI (nb)), .ref (mr), .int (nI (tn))])), (mw, .inl (cA 0, 1595, arN Z))]) (wr := ([] : va_W)) (w1 := [(om, .inr (8, [.ref (mw), .int (nI (ud)), .ref (mt), .int (nI (td)), .int (nI (fy)), .int (nI (su)), .ref (mm), .ref (ml), .ref (mi), .ref (mh), .int (nI (cu)), .int (nI (sa)), .int (nI (nb)), .ref (mr), .int (nI (tn))])), (mw, .inl (cA 0, 1595, arN Z))]) (wn := [(om, .inr (8, [.ref (mw), .int (nI (ud)), .ref (mt), .int (nI (td)), .int (nI (fy)), .int (nI (su)), .ref (mm), .ref (ml), .ref (mi), .ref (mh), .int (nI (cu)), .int (nI (sa)), .int (nI (nb)), .ref (mr), .int (nI (tn))])), (mw, .inl (cA 0, 1595, arN Z))]) (isC := [0, 1]) (isR := []) (isN := [0, 1]) ⟨hx, hb, hml, hown, hts⟩ (c_X8_asTight l D cA tt om mw mt mm ml mi mh mr ud td fy su cu sa nb tn Z r k (hg) (hr) (hk) (he) (ht) _) gX8_would_X8_asTight rfl (by decide +kernel) rfl rfl ⟨rfl, rfl⟩ ⟨Nat.le_of_ble_eq_true rfl, Nat.le_of_ble_eq_true rfl⟩ ⟨Nat.zero_le _, Nat.zero_le _⟩ hK hE hA hP hD hS ⟨⟨rfl, by decide⟩, ⟨rfl, by decide, by decide⟩, rfl, by decide⟩ rfl hl.1 rfl (Nat.le_of_ble_eq_true rfl) dX8_would_131 (fun H locs hP hD hS => ?_)
      have hP : va_P D vwCl [(om, .inr (8, [.ref (mw), .int (nI (ud)), .ref (mt), .int (nI (td)), .int (nI (fy)), .int (nI (su)), .ref (mm), .ref (ml), .ref (mi), .ref (mh), .int (nI (cu)), .int (nI (sa)), .int (nI (nb)), .ref (mr), .int (nI (tn))])), (mw, .inl (cA 0, 1595, arN Z))] _ := hP
      have hD : va_D A [(om, .inr (8, [.ref (mw), .int (nI (ud)), .ref (mt), .int (nI (td)), .int (nI (fy)), .int (nI (su)), .ref (mm), .ref (ml), .ref (mi), .ref (mh), .int (nI (cu)), .int (nI (sa)), .int (nI (nb)), .ref (mr), .int (nI (tn))])), (mw, .inl (cA 0, 1595, arN Z))] := hD
      refine lv_if_ne (tgt := 189) hx hb dX8_would_134 (by decide) (fun c10 => ?_) (fun c10 => ?_)
      · skip
        rw [bI_nz] at c10
        refine lv_iconst (v := nI (1)) hx hb dX8_would_189 (by decide) ?_
        refine lv_goto (tgt := 194) hx hb dX8_would_190 (by decide) ?_
        exact hend _ _ _ _ _ hP hD hS (one_bI (by unfold wouldM; rw [if_neg c2, if_neg c5, if_neg c8, if_pos c9]; exact rul_1 c10)) dX8_would_194
      · skip
        rw [bI_z] at c10
        refine lv_iload_n hx hb dX8_would_137 rfl (lv_at hl 4 rfl) ?_
        refine lv_if_le (tgt := 158) hx hb dX8_would_138 (by decide) (fun c11 => ?_) (fun c11 => ?_)
        · skip
          rw [n_le0 (by omega)] at c11
          refine lv_iload_n hx hb dX8_would_158 rfl (lv_at hl 4 rfl) ?_
          refine lv_iconst (v := nI (1)) hx hb dX8_would_159 (by decide) ?_
          refine lv_iadd hx hb dX8_would_160 ?_
          refine vn_i (v := nI (k + 1)) (nI_add _ _) ?_
          refine lv_aload_n hx hb dX8_would_161 rfl (lv_at hl 2 rfl) ?_
          refine va_get (v := .ref (mw)) (Ts := wsX80) (C := RX8) (T := TX8) (N := 15) hx hb hwsX80 (fun _ h => h) hown hK hP 0 rfl rfl 0 (by decide) (hts (.fieldLink RX8 7 "AdventStreetsModel" "w" "[I") (List.mem_of_getElem? (i := 1) rfl)) (fun _ h9 => h9) rfl dX8_would_162 ?_
          refine lv_iload_n hx hb dX8_would_165 rfl (lv_at hl 3 rfl) ?_
          refine lv_iconst (v := nI (0)) hx hb dX8_would_166 (by decide) ?_
          refine lv_iadd hx hb dX8_would_167 ?_
          refine vn_i (v := nI (r)) (nI_add _ _) ?_
          refine r_ald (f := Z) hx hb hK hP 1 rfl (i := r) (by omega) (Nat.lt_of_lt_of_le (by omega : 1595 < 1073741824) (by decide)) dX8_would_168 ?_
          refine lv_icmp_ge (tgt := 193) hx hb dX8_would_169 (by decide) (fun c12 => ?_) (fun c12 => ?_)
          · skip
            rw [nI_leI (by omega) (by omega)] at c12
            refine lv_iconst (v := nI (0)) hx hb dX8_would_193 (by decide) ?_
            exact hend _ _ _ _ _ hP hD hS (zero_bI (by unfold wouldM; rw [if_neg c2, if_neg c5, if_neg c8, if_pos c9]; exact rul_0 c10 (Or.inl (by omega)) (Or.inl (by omega)))) dX8_would_194
          · skip
            rw [nI_leI (by omega) (by omega)] at c12
            refine lv_aload_n hx hb dX8_would_172 rfl (lv_at hl 2 rfl) ?_
            refine va_get (v := .ref (mw)) (Ts := wsX80) (C := RX8) (T := TX8) (N := 15) hx hb hwsX80 (fun _ h => h) hown hK hP 0 rfl rfl 0 (by decide) (hts (.fieldLink RX8 7 "AdventStreetsModel" "w" "[I") (List.mem_of_getElem? (i := 1) rfl)) (fun _ h9 => h9) rfl dX8_would_173 ?_
            refine lv_iload_n hx hb dX8_would_176 rfl (lv_at hl 3 rfl) ?_
            refine lv_iconst (v := nI (4)) hx hb dX8_would_177 (by decide) ?_
            refine lv_iadd hx hb dX8_would_178 ?_
            refine vn_i (v := nI (r + 4)) (nI_add _ _) ?_
            refine r_ald (f := Z) hx hb hK hP 1 rfl (i := r + 4) (by omega) (Nat.lt_of_lt_of_le (by omega : 1595 < 1073741824) (by decide)) dX8_would_179 ?_
            refine lv_iload_n hx hb dX8_would_180 rfl (lv_at hl 4 rfl) ?_
            refine lv_iconst (v := nI (1)) hx hb dX8_would_181 (by decide) ?_
            refine lv_iadd hx hb dX8_would_182 ?_
            refine vn_i (v := nI (k + 1)) (nI_add _ _) ?_
            refine cSi (n := 2) (As := [.int (nI (Z (r + 4))), .int (nI (k + 1))]) (rest := []) (X := [(om, .inr (8, [.ref (mw), .int (nI (ud)), .ref (mt), .int (nI (td)), .int (nI (fy)), .int (nI (su)), .ref (mm), .ref (ml), .ref (mi), .ref (mh), .int (nI (cu)), .int (nI (sa)), .int (nI (nb)), .ref (mr), .int (nI (tn))])), (mw, .inl (cA 0, 1595, arN Z))]) (pl := []) (wc := ([] : va_W)) (wr := [(om, .inr (8, [.ref (mw), .int (nI (ud)), .ref (mt), .int (nI (td)), .int (nI (fy)), .int (nI (su)), .ref (mm), .ref (ml), .ref (mi), .ref (mh), .int (nI (cu)), .int (nI (sa)), .int (nI (nb)), .ref (mr), .int (nI (tn))])), (mw, .inl (cA 0, 1595, arN Z))]) (w1 := ([] : va_W)) (wn := [(om, .inr (8, [.ref (mw), .int (nI (ud)), .ref (mt), .int (nI (td)), .int (nI (fy)), .int (nI (su)), .ref (mm), .ref (ml), .ref (mi), .ref (mh), .int (nI (cu)), .int (nI (sa)), .int (nI (nb)), .ref (mr), .int (nI (tn))])), (mw, .inl (cA 0, 1595, arN Z))]) (isC := []) (isR := [0, 1]) (isN := [0, 1]) ⟨hx, hb, hml, hown, hts⟩ (c_X8_has l D cA tt (Z (r + 4)) (k + 1) (by omega) (by omega) _) gX8_would_X8_has rfl (by decide +kernel) ⟨rfl, rfl⟩ ⟨Nat.le_of_ble_eq_true rfl, Nat.le_of_ble_eq_true rfl⟩ ⟨Nat.zero_le _, Nat.zero_le _⟩ hK hE hA hP hD hS ⟨⟨rfl, by decide⟩, ⟨rfl, by decide, by decide⟩, rfl, by decide⟩ rfl hl.1 rfl (Nat.le_of_ble_eq_true rfl) dX8_would_183 (fun H locs hP hD hS => ?_)
            have hP : va_P D vwCl [(om, .inr (8, [.ref (mw), .int (nI (ud)), .ref (mt), .int (nI (td)), .int (nI (fy)), .int (nI (su)), .ref (mm), .ref (ml), .ref (mi), .ref (mh), .int (nI (cu)), .int (nI (sa)), .int (nI (nb)), .ref (mr), .int (nI (tn))])), (mw, .inl (cA 0, 1595, arN Z))] _ := hP
            have hD : va_D A [(om, .inr (8, [.ref (mw), .int (nI (ud)), .ref (mt), .int (nI (td)), .int (nI (fy)), .int (nI (su)), .ref (mm), .ref (ml), .ref (mi), .ref (mh), .int (nI (cu)), .int (nI (sa)), .int (nI (nb)), .ref (mr), .int (nI (tn))])), (mw, .inl (cA 0, 1595, arN Z))] := hD
            refine lv_if_eq (tgt := 193) hx hb dX8_would_186 (by decide) (fun c13 => ?_) (fun c13 => ?_)
            · skip
              rw [bI_z] at c13
              refine lv_iconst (v := nI (0)) hx hb dX8_would_193 (by decide) ?_
              exact hend _ _ _ _ _ hP hD hS (zero_bI (by unfold wouldM; rw [if_neg c2, if_neg c5, if_neg c8, if_pos c9]; first | exact rul_0 c10 (Or.inl (by omega)) (Or.inr c13) | exact rul_0 c10 (Or.inr c12) (Or.inl (by omega)))) dX8_would_194
            · skip
              rw [bI_nz] at c13
              refine lv_iconst (v := nI (1)) hx hb dX8_would_189 (by decide) ?_
              refine lv_goto (tgt := 194) hx hb dX8_would_190 (by decide) ?_
              exact hend _ _ _ _ _ hP hD hS (one_bI (by unfold wouldM; rw [if_neg c2, if_neg c5, if_neg c8, if_pos c9]; exact rul_3 (show k + 1 < Z r from by omega) c13)) dX8_would_194
        · skip
          rw [n_le0 (by omega)] at c11
          refine lv_aload_n hx hb dX8_would_141 rfl (lv_at hl 2 rfl) ?_
          refine va_get (v := .ref (mw)) (Ts := wsX80) (C := RX8) (T := TX8) (N := 15) hx hb hwsX80 (fun _ h => h) hown hK hP 0 rfl rfl 0 (by decide) (hts (.fieldLink RX8 7 "AdventStreetsModel" "w" "[I") (List.mem_of_getElem? (i := 1) rfl)) (fun _ h9 => h9) rfl dX8_would_142 ?_
          refine lv_iload_n hx hb dX8_would_145 rfl (lv_at hl 3 rfl) ?_
          refine lv_iconst (v := nI (4)) hx hb dX8_would_146 (by decide) ?_
          refine lv_iadd hx hb dX8_would_147 ?_
          refine vn_i (v := nI (r + 4)) (nI_add _ _) ?_
          refine r_ald (f := Z) hx hb hK hP 1 rfl (i := r + 4) (by omega) (Nat.lt_of_lt_of_le (by omega : 1595 < 1073741824) (by decide)) dX8_would_148 ?_
          refine lv_iload_n hx hb dX8_would_149 rfl (lv_at hl 4 rfl) ?_
          refine lv_iconst (v := nI (1)) hx hb dX8_would_150 (by decide) ?_
          refine lv_isub hx hb dX8_would_151 ?_
          refine vn_i (v := nI (k - 1)) (pk_sub (by omega)) ?_
          refine cSi (n := 2) (As := [.int (nI (Z (r + 4))), .int (nI (k - 1))]) (rest := []) (X := [(om, .inr (8, [.ref (mw), .int (nI (ud)), .ref (mt), .int (nI (td)), .int (nI (fy)), .int (nI (su)), .ref (mm), .ref (ml), .ref (mi), .ref (mh), .int (nI (cu)), .int (nI (sa)), .int (nI (nb)), .ref (mr), .int (nI (tn))])), (mw, .inl (cA 0, 1595, arN Z))]) (pl := []) (wc := ([] : va_W)) (wr := [(om, .inr (8, [.ref (mw), .int (nI (ud)), .ref (mt), .int (nI (td)), .int (nI (fy)), .int (nI (su)), .ref (mm), .ref (ml), .ref (mi), .ref (mh), .int (nI (cu)), .int (nI (sa)), .int (nI (nb)), .ref (mr), .int (nI (tn))])), (mw, .inl (cA 0, 1595, arN Z))]) (w1 := ([] : va_W)) (wn := [(om, .inr (8, [.ref (mw), .int (nI (ud)), .ref (mt), .int (nI (td)), .int (nI (fy)), .int (nI (su)), .ref (mm), .ref (ml), .ref (mi), .ref (mh), .int (nI (cu)), .int (nI (sa)), .int (nI (nb)), .ref (mr), .int (nI (tn))])), (mw, .inl (cA 0, 1595, arN Z))]) (isC := []) (isR := [0, 1]) (isN := [0, 1]) ⟨hx, hb, hml, hown, hts⟩ (c_X8_has l D cA tt (Z (r + 4)) (k - 1) (by omega) (by omega) _) gX8_would_X8_has rfl (by decide +kernel) ⟨rfl, rfl⟩ ⟨Nat.le_of_ble_eq_true rfl, Nat.le_of_ble_eq_true rfl⟩ ⟨Nat.zero_le _, Nat.zero_le _⟩ hK hE hA hP hD hS ⟨⟨rfl, by decide⟩, ⟨rfl, by decide, by decide⟩, rfl, by decide⟩ rfl hl.1 rfl (Nat.le_of_ble_eq_true rfl) dX8_would_152 (fun H locs hP hD hS => ?_)
          have hP : va_P D vwCl [(om, .inr (8, [.ref (mw), .int (nI (ud)), .ref (mt), .int (nI (td)), .int (nI (fy)), .int (nI (su)), .ref (mm), .ref (ml), .ref (mi), .ref (mh), .int (nI (cu)), .int (nI (sa)), .int (nI (nb)), .ref (mr), .int (nI (tn))])), (mw, .inl (cA 0, 1595, arN Z))] _ := hP
          have hD : va_D A [(om, .inr (8, [.ref (mw), .int (nI (ud)), .ref (mt), .int (nI (td)), .int (nI (fy)), .int (nI (su)), .ref (mm), .ref (ml), .ref (mi), .ref (mh), .int (nI (cu)), .int (nI (sa)), .int (nI (nb)), .ref (mr), .int (nI (tn))])), (mw, .inl (cA 0, 1595, arN Z))] := hD
          refine lv_if_ne (tgt := 189) hx hb dX8_would_155 (by decide) (fun c14 => ?_) (fun c14 => ?_)
          · skip
            rw [bI_nz] at c14
            refine lv_iconst (v := nI (1)) hx hb dX8_would_189 (by decide) ?_
            refine lv_goto (tgt := 194) hx hb dX8_would_190 (by decide) ?_
            exact hend _ _ _ _ _ hP hD hS (one_bI (by unfold wouldM; rw [if_neg c2, if_neg c5, if_neg c8, if_pos c9]; exact rul_2 (by omega) c14)) dX8_would_194
          · skip
            rw [bI_z] at c14
            refine lv_iload_n hx hb dX8_would_158 rfl (lv_at hl 4 rfl) ?_
            refine lv_iconst (v := nI (1)) hx hb dX8_would_159 (by decide) ?_
            refine lv_iadd hx hb dX8_would_160 ?_
            refine vn_i (v := nI (k + 1)) (nI_add _ _) ?_
            refine lv_aload_n hx hb dX8_would_161 rfl (lv_at hl 2 rfl) ?_
            refine va_get (v := .ref (mw)) (Ts := wsX80) (C := RX8) (T := TX8) (N := 15) hx hb hwsX80 (fun _ h => h) hown hK hP 0 rfl rfl 0 (by decide) (hts (.fieldLink RX8 7 "AdventStreetsModel" "w" "[I") (List.mem_of_getElem? (i := 1) rfl)) (fun _ h9 => h9) rfl dX8_would_162 ?_
            refine lv_iload_n hx hb dX8_would_165 rfl (lv_at hl 3 rfl) ?_
            refine lv_iconst (v := nI (0)) hx hb dX8_would_166 (by decide) ?_
            refine lv_iadd hx hb dX8_would_167 ?_
            refine vn_i (v := nI (r)) (nI_add _ _) ?_
            refine r_ald (f := Z) hx hb hK hP 1 rfl (i := r) (by omega) (Nat.lt_of_lt_of_le (by omega : 1595 < 1073741824) (by decide)) dX8_would_168 ?_
            refine lv_icmp_ge (tgt := 193) hx hb dX8_would_169 (by decide) (fun c15 => ?_) (fun c15 => ?_)
            · skip
              rw [nI_leI (by omega) (by omega)] at c15
              refine lv_iconst (v := nI (0)) hx hb dX8_would_193 (by decide) ?_
              exact hend _ _ _ _ _ hP hD hS (zero_bI (by unfold wouldM; rw [if_neg c2, if_neg c5, if_neg c8, if_pos c9]; first | exact rul_0 c10 (Or.inl (by omega)) (Or.inr c15) | exact rul_0 c10 (Or.inr c14) (Or.inl (by omega)))) dX8_would_194
            · skip
              rw [nI_leI (by omega) (by omega)] at c15
              refine lv_aload_n hx hb dX8_would_172 rfl (lv_at hl 2 rfl) ?_
              refine va_get (v := .ref (mw)) (Ts := wsX80) (C := RX8) (T := TX8) (N := 15) hx hb hwsX80 (fun _ h => h) hown hK hP 0 rfl rfl 0 (by decide) (hts (.fieldLink RX8 7 "AdventStreetsModel" "w" "[I") (List.mem_of_getElem? (i := 1) rfl)) (fun _ h9 => h9) rfl dX8_would_173 ?_
              refine lv_iload_n hx hb dX8_would_176 rfl (lv_at hl 3 rfl) ?_
              refine lv_iconst (v := nI (4)) hx hb dX8_would_177 (by decide) ?_
              refine lv_iadd hx hb dX8_would_178 ?_
              refine vn_i (v := nI (r + 4)) (nI_add _ _) ?_
              refine r_ald (f := Z) hx hb hK hP 1 rfl (i := r + 4) (by omega) (Nat.lt_of_lt_of_le (by omega : 1595 < 1073741824) (by decide)) dX8_would_179 ?_
              refine lv_iload_n hx hb dX8_would_180 rfl (lv_at hl 4 rfl) ?_
              refine lv_iconst (v := nI (1)) hx hb dX8_would_181 (by decide) ?_
              refine lv_iadd hx hb dX8_would_182 ?_
              refine vn_i (v := nI (k + 1)) (nI_add _ _) ?_
              refine cSi (n := 2) (As := [.int (nI (Z (r + 4))), .int (nI (k + 1))]) (rest := []) (X := [(om, .inr (8, [.ref (mw), .int (nI (ud)), .ref (mt), .int (nI (td)), .int (nI (fy)), .int (nI (su)), .ref (mm), .ref (ml), .ref (mi), .ref (mh), .int (nI (cu)), .int (nI (sa)), .int (nI (nb)), .ref (mr), .int (nI (tn))])), (mw, .inl (cA 0, 1595, arN Z))]) (pl := []) (wc := ([] : va_W)) (wr := [(om, .inr (8, [.ref (mw), .int (nI (ud)), .ref (mt), .int (nI (td)), .int (nI (fy)), .int (nI (su)), .ref (mm), .ref (ml), .ref (mi), .ref (mh), .int (nI (cu)), .int (nI (sa)), .int (nI (nb)), .ref (mr), .int (nI (tn))])), (mw, .inl (cA 0, 1595, arN Z))]) (w1 := ([] : va_W)) (wn := [(om, .inr (8, [.ref (mw), .int (nI (ud)), .ref (mt), .int (nI (td)), .int (nI (fy)), .int (nI (su)), .ref (mm), .ref (ml), .ref (mi), .ref (mh), .int (nI (cu)), .int (nI (sa)), .int (nI (nb)), .ref (mr), .int (nI (tn))])), (mw, .inl (cA 0, 1595, arN Z))]) (isC := []) (isR := [0, 1]) (isN := [0, 1]) ⟨hx, hb, hml, hown, hts⟩ (c_X8_has l D cA tt (Z (r + 4)) (k + 1) (by omega) (by omega) _) gX8_would_X8_has rfl (by decide +kernel) ⟨rfl, rfl⟩ ⟨Nat.le_of_ble_eq_true rfl, Nat.le_of_ble_eq_true rfl⟩ ⟨Nat.zero_le _, Nat.zero_le _⟩ hK hE hA hP hD hS ⟨⟨rfl, by decide⟩, ⟨rfl, by decide, by decide⟩, rfl, by decide⟩ rfl hl.1 rfl (Nat.le_of_ble_eq_true rfl) dX8_would_183 (fun H locs hP hD hS => ?_)
              have hP : va_P D vwCl [(om, .inr (8, [.ref (mw), .int (nI (ud)), .ref (mt), .int (nI (td)), .int (nI (fy)), .int (nI (su)), .ref (mm), .ref (ml), .ref (mi), .ref (mh), .int (nI (cu)), .int (nI (sa)), .int (nI (nb)), .ref (mr), .int (nI (tn))])), (mw, .inl (cA 0, 1595, arN Z))] _ := hP
              have hD : va_D A [(om, .inr (8, [.ref (mw), .int (nI (ud)), .ref (mt), .int (nI (td)), .int (nI (fy)), .int (nI (su)), .ref (mm), .ref (ml), .ref (mi), .ref (mh), .int (nI (cu)), .int (nI (sa)), .int (nI (nb)), .ref (mr), .int (nI (tn))])), (mw, .inl (cA 0, 1595, arN Z))] := hD
              refine lv_if_eq (tgt := 193) hx hb dX8_would_186 (by decide) (fun c16 => ?_) (fun c16 => ?_)
              · skip
                rw [bI_z] at c16
                refine lv_iconst (v := nI (0)) hx hb dX8_would_193 (by decide) ?_
                exact hend _ _ _ _ _ hP hD hS (zero_bI (by unfold wouldM; rw [if_neg c2, if_neg c5, if_neg c8, if_pos c9]; exact rul_0 c10 (Or.inr c14) (Or.inr c16))) dX8_would_194
              · skip
                rw [bI_nz] at c16
                refine lv_iconst (v := nI (1)) hx hb dX8_would_189 (by decide) ?_
                refine lv_goto (tgt := 194) hx hb dX8_would_190 (by decide) ?_
                exact hend _ _ _ _ _ hP hD hS (one_bI (by unfold wouldM; rw [if_neg c2, if_neg c5, if_neg c8, if_pos c9]; exact rul_3 (show k + 1 < Z r from by omega) c16)) dX8_would_194
    have to38 : (nI (Z (r + 5 + k))).toInt < 2 ∨ 5 < (nI (Z (r + 5 + k))).toInt := by rw [nI_toInt (by omega)]; omega
    refine lv_tableOut (tgt := 195) hx hb dX8_would_38 to38 (by decide) ?_
    refine lv_iload hx hb dX8_would_195 (lv_at hl 0 rfl) ?_
    exact hend _ _ _ _ _ hP hD hS (zero_bI (by unfold wouldM; rw [if_neg c2, if_neg c5, if_neg c8, if_neg c9, decide_eq_false (p := (dateF (sg Z r) = SD (sg Z r) k)) c1])) dX8_would_197
  · skip
    rw [nI_eq (by omega) (by omega)] at c1
    refine lv_iconst (v := nI (1)) hx hb dX8_would_21 (by decide) ?_
    refine lv_goto (tgt := 26) hx hb dX8_would_22 (by decide) ?_
    refine lv_istore (lv' := [(4, .int (nI (1))), (3, .int (nI (dateF (sg Z r)))), (0, .ref (om)), (1, .int (nI (r))), (2, .int (nI (k)))]) hx hb dX8_would_26 hl (by decide) rfl (fun ls hl => ?_)
    refine lv_aload_n hx hb dX8_would_28 rfl (lv_at hl 2 rfl) ?_
    refine va_get (v := .ref (mw)) (Ts := wsX80) (C := RX8) (T := TX8) (N := 15) hx hb hwsX80 (fun _ h => h) hown hK hP 0 rfl rfl 0 (by decide) (hts (.fieldLink RX8 7 "AdventStreetsModel" "w" "[I") (List.mem_of_getElem? (i := 1) rfl)) (fun _ h9 => h9) rfl dX8_would_29 ?_
    refine lv_iload_n hx hb dX8_would_32 rfl (lv_at hl 3 rfl) ?_
    refine lv_iconst (v := nI (5)) hx hb dX8_would_33 (by decide) ?_
    refine lv_iadd hx hb dX8_would_34 ?_
    refine vn_i (v := nI (r + 5)) (nI_add _ _) ?_
    refine lv_iload_n hx hb dX8_would_35 rfl (lv_at hl 4 rfl) ?_
    refine lv_iadd hx hb dX8_would_36 ?_
    refine vn_i (v := nI (r + 5 + k)) (nI_add _ _) ?_
    refine r_ald (f := Z) hx hb hK hP 1 rfl (i := r + 5 + k) (by omega) (Nat.lt_of_lt_of_le (by omega : 1595 < 1073741824) (by decide)) dX8_would_37 ?_
    by_cases c17 : Z (r + 5 + k) = 2
    · skip
      have ti38 : (nI (Z (r + 5 + k))).toInt = 2 := by rw [c17]; rfl
      refine lv_tableIn (off := 30) (tgt := 68) hx hb dX8_would_38 (by rw [ti38]; decide) (by rw [ti38]; decide) (by rw [ti38]; rfl) (by decide) ?_
      refine lv_iload hx hb dX8_would_68 (lv_at hl 0 rfl) ?_
      refine lv_if_ne (tgt := 90) hx hb dX8_would_70 (by decide) (fun c18 => ?_) (fun c18 => ?_)
      · skip
        rw [n_z (by omega)] at c18
        refine lv_iconst (v := nI (1)) hx hb dX8_would_90 (by decide) ?_
        refine lv_goto (tgt := 95) hx hb dX8_would_91 (by decide) ?_
        exact hend _ _ _ _ _ hP hD hS (one_bI (by unfold wouldM; rw [if_pos c17, decide_eq_true (p := (dateF (sg Z r) = SD (sg Z r) k)) c1]; rfl)) dX8_would_95
      · skip
        rw [n_z (by omega)] at c18
        exact absurd c18 (by decide)
    by_cases c19 : Z (r + 5 + k) = 3
    · skip
      have ti38 : (nI (Z (r + 5 + k))).toInt = 3 := by rw [c19]; rfl
      refine lv_tableIn (off := 58) (tgt := 96) hx hb dX8_would_38 (by rw [ti38]; decide) (by rw [ti38]; decide) (by rw [ti38]; rfl) (by decide) ?_
      refine lv_iload hx hb dX8_would_96 (lv_at hl 0 rfl) ?_
      refine lv_if_ne (tgt := 115) hx hb dX8_would_98 (by decide) (fun c20 => ?_) (fun c20 => ?_)
      · skip
        rw [n_z (by omega)] at c20
        refine lv_iconst (v := nI (1)) hx hb dX8_would_115 (by decide) ?_
        refine lv_goto (tgt := 120) hx hb dX8_would_116 (by decide) ?_
        exact hend _ _ _ _ _ hP hD hS (one_bI (by unfold wouldM; rw [if_neg c17, if_pos c19, decide_eq_true (p := (dateF (sg Z r) = SD (sg Z r) k)) c1]; rfl)) dX8_would_120
      · skip
        rw [n_z (by omega)] at c20
        exact absurd c20 (by decide)
    by_cases c21 : Z (r + 5 + k) = 4
    · skip
      have ti38 : (nI (Z (r + 5 + k))).toInt = 4 := by rw [c21]; rfl
      refine lv_tableIn (off := 83) (tgt := 121) hx hb dX8_would_38 (by rw [ti38]; decide) (by rw [ti38]; decide) (by rw [ti38]; rfl) (by decide) ?_
      refine lv_aload_n hx hb dX8_would_121 rfl (lv_at hl 2 rfl) ?_
      refine lv_iload_n hx hb dX8_would_122 rfl (lv_at hl 3 rfl) ?_
      refine lv_iload_n hx hb dX8_would_123 rfl (lv_at hl 4 rfl) ?_
      refine cVi (n := 2) (As := [.int (nI (r)), .int (nI (k))]) (rest := []) (C := RX8) (ci := 8) (q0 := 0) (X := [(om, .inr (8, [.ref (mw), .int (nI (ud)), .ref (mt), .int (nI (td)), .int (nI (fy)), .int (nI (su)), .ref (mm), .ref (ml), .ref (mi), .ref (mh), .int (nI (cu)), .int (nI (sa)), .int (nI (nb)), .ref (mr), .int (nI (tn))])), (mw, .inl (cA 0, 1595, arN Z))]) (pl := []) (wc := [(om, .inr (8, [.ref (mw), .int (nI (ud)), .ref (mt), .int (nI (td)), .int (nI (fy)), .int (nI (su)), .ref (mm), .ref (ml), .ref (mi), .ref (mh), .int (nI (cu)), .int (nI (sa)), .int (nI (nb)), .ref (mr), .int (nI (tn))])), (mw, .inl (cA 0, 1595, arN Z))]) (wr := ([] : va_W)) (w1 := [(om, .inr (8, [.ref (mw), .int (nI (ud)), .ref (mt), .int (nI (td)), .int (nI (fy)), .int (nI (su)), .ref (mm), .ref (ml), .ref (mi), .ref (mh), .int (nI (cu)), .int (nI (sa)), .int (nI (nb)), .ref (mr), .int (nI (tn))])), (mw, .inl (cA 0, 1595, arN Z))]) (wn := [(om, .inr (8, [.ref (mw), .int (nI (ud)), .ref (mt), .int (nI (td)), .int (nI (fy)), .int (nI (su)), .ref (mm), .ref (ml), .ref (mi), .ref (mh), .int (nI (cu)), .int (nI (sa)), .int (nI (nb)), .ref (mr), .int (nI (tn))])), (mw, .inl (cA 0, 1595, arN Z))]) (isC := [0, 1]) (isR := []) (isN := [0, 1]) ⟨hx, hb, hml, hown, hts⟩ (c_X8_asTight l D cA tt om mw mt mm ml mi mh mr ud td fy su cu sa nb tn Z r k (hg) (hr) (hk) (he) (ht) _) gX8_would_X8_asTight rfl (by decide +kernel) rfl rfl ⟨rfl, rfl⟩ ⟨Nat.le_of_ble_eq_true rfl, Nat.le_of_ble_eq_true rfl⟩ ⟨Nat.zero_le _, Nat.zero_le _⟩ hK hE hA hP hD hS ⟨⟨rfl, by decide⟩, ⟨rfl, by decide, by decide⟩, rfl, by decide⟩ rfl hl.1 rfl (Nat.le_of_ble_eq_true rfl) dX8_would_124 (fun H locs hP hD hS => ?_)
      have hP : va_P D vwCl [(om, .inr (8, [.ref (mw), .int (nI (ud)), .ref (mt), .int (nI (td)), .int (nI (fy)), .int (nI (su)), .ref (mm), .ref (ml), .ref (mi), .ref (mh), .int (nI (cu)), .int (nI (sa)), .int (nI (nb)), .ref (mr), .int (nI (tn))])), (mw, .inl (cA 0, 1595, arN Z))] _ := hP
      have hD : va_D A [(om, .inr (8, [.ref (mw), .int (nI (ud)), .ref (mt), .int (nI (td)), .int (nI (fy)), .int (nI (su)), .ref (mm), .ref (ml), .ref (mi), .ref (mh), .int (nI (cu)), .int (nI (sa)), .int (nI (nb)), .ref (mr), .int (nI (tn))])), (mw, .inl (cA 0, 1595, arN Z))] := hD
      exact hend _ _ _ _ _ hP hD hS (congrArg bI (by unfold wouldM; rw [if_neg c17, if_neg c19, if_pos c21])) dX8_would_127
    by_cases c22 : Z (r + 5 + k) = 5
    · skip
      have ti38 : (nI (Z (r + 5 + k))).toInt = 5 := by rw [c22]; rfl
      refine lv_tableIn (off := 90) (tgt := 128) hx hb dX8_would_38 (by rw [ti38]; decide) (by rw [ti38]; decide) (by rw [ti38]; rfl) (by decide) ?_
      refine lv_aload_n hx hb dX8_would_128 rfl (lv_at hl 2 rfl) ?_
      refine lv_iload_n hx hb dX8_would_129 rfl (lv_at hl 3 rfl) ?_
      refine lv_iload_n hx hb dX8_would_130 rfl (lv_at hl 4 rfl) ?_
      refine cVi (n := 2) (As := [.int (nI (r)), .int (nI (k))]) (rest := []) (C := RX8) (ci := 8) (q0 := 0) (X := [(om, .inr (8, [.ref (mw), .int (nI (ud)), .ref (mt), .int (nI (td)), .int (nI (fy)), .int (nI (su)), .ref (mm), .ref (ml), .ref (mi), .ref (mh), .int (nI (cu)), .int (nI (sa)), .int (nI (nb)), .ref (mr), .int (nI (tn))])), (mw, .inl (cA 0, 1595, arN Z))]) (pl := []) (wc := [(om, .inr (8, [.ref (mw), .int (nI (ud)), .ref (mt), .int (nI (td)), .int (nI (fy)), .int (nI (su)), .ref (mm), .ref (ml), .ref (mi), .ref (mh), .int (nI (cu)), .int (nI (sa)), .int (nI (nb)), .ref (mr), .int (nI (tn))])), (mw, .inl (cA 0, 1595, arN Z))]) (wr := ([] : va_W)) (w1 := [(om, .inr (8, [.ref (mw), .int (nI (ud)), .ref (mt), .int (nI (td)), .int (nI (fy)), .int (nI (su)), .ref (mm), .ref (ml), .ref (mi), .ref (mh), .int (nI (cu)), .int (nI (sa)), .int (nI (nb)), .ref (mr), .int (nI (tn))])), (mw, .inl (cA 0, 1595, arN Z))]) (wn := [(om, .inr (8, [.ref (mw), .int (nI (ud)), .ref (mt), .int (nI (td)), .int (nI (fy)), .int (nI (su)), .ref (mm), .ref (ml), .ref (mi), .ref (mh), .int (nI (cu)), .int (nI (sa)), .int (nI (nb)), .ref (mr), .int (nI (tn))])), (mw, .inl (cA 0, 1595, arN Z))]) (isC := [0, 1]) (isR := []) (isN := [0, 1]) ⟨hx, hb, hml, hown, hts⟩ (c_X8_asTight l D cA tt om mw mt mm ml mi mh mr ud td fy su cu sa nb tn Z r k (hg) (hr) (hk) (he) (ht) _) gX8_would_X8_asTight rfl (by decide +kernel) rfl rfl ⟨rfl, rfl⟩ ⟨Nat.le_of_ble_eq_true rfl, Nat.le_of_ble_eq_true rfl⟩ ⟨Nat.zero_le _, Nat.zero_le _⟩ hK hE hA hP hD hS ⟨⟨rfl, by decide⟩, ⟨rfl, by decide, by decide⟩, rfl, by decide⟩ rfl hl.1 rfl (Nat.le_of_ble_eq_true rfl) dX8_would_131 (fun H locs hP hD hS => ?_)
      have hP : va_P D vwCl [(om, .inr (8, [.ref (mw), .int (nI (ud)), .ref (mt), .int (nI (td)), .int (nI (fy)), .int (nI (su)), .ref (mm), .ref (ml), .ref (mi), .ref (mh), .int (nI (cu)), .int (nI (sa)), .int (nI (nb)), .ref (mr), .int (nI (tn))])), (mw, .inl (cA 0, 1595, arN Z))] _ := hP
      have hD : va_D A [(om, .inr (8, [.ref (mw), .int (nI (ud)), .ref (mt), .int (nI (td)), .int (nI (fy)), .int (nI (su)), .ref (mm), .ref (ml), .ref (mi), .ref (mh), .int (nI (cu)), .int (nI (sa)), .int (nI (nb)), .ref (mr), .int (nI (tn))])), (mw, .inl (cA 0, 1595, arN Z))] := hD
      refine lv_if_ne (tgt := 189) hx hb dX8_would_134 (by decide) (fun c23 => ?_) (fun c23 => ?_)
      · skip
        rw [bI_nz] at c23
        refine lv_iconst (v := nI (1)) hx hb dX8_would_189 (by decide) ?_
        refine lv_goto (tgt := 194) hx hb dX8_would_190 (by decide) ?_
        exact hend _ _ _ _ _ hP hD hS (one_bI (by unfold wouldM; rw [if_neg c17, if_neg c19, if_neg c21, if_pos c22]; exact rul_1 c23)) dX8_would_194
      · skip
        rw [bI_z] at c23
        refine lv_iload_n hx hb dX8_would_137 rfl (lv_at hl 4 rfl) ?_
        refine lv_if_le (tgt := 158) hx hb dX8_would_138 (by decide) (fun c24 => ?_) (fun c24 => ?_)
        · skip
          rw [n_le0 (by omega)] at c24
          refine lv_iload_n hx hb dX8_would_158 rfl (lv_at hl 4 rfl) ?_
          refine lv_iconst (v := nI (1)) hx hb dX8_would_159 (by decide) ?_
          refine lv_iadd hx hb dX8_would_160 ?_
          refine vn_i (v := nI (k + 1)) (nI_add _ _) ?_
          refine lv_aload_n hx hb dX8_would_161 rfl (lv_at hl 2 rfl) ?_
          refine va_get (v := .ref (mw)) (Ts := wsX80) (C := RX8) (T := TX8) (N := 15) hx hb hwsX80 (fun _ h => h) hown hK hP 0 rfl rfl 0 (by decide) (hts (.fieldLink RX8 7 "AdventStreetsModel" "w" "[I") (List.mem_of_getElem? (i := 1) rfl)) (fun _ h9 => h9) rfl dX8_would_162 ?_
          refine lv_iload_n hx hb dX8_would_165 rfl (lv_at hl 3 rfl) ?_
          refine lv_iconst (v := nI (0)) hx hb dX8_would_166 (by decide) ?_
          refine lv_iadd hx hb dX8_would_167 ?_
          refine vn_i (v := nI (r)) (nI_add _ _) ?_
          refine r_ald (f := Z) hx hb hK hP 1 rfl (i := r) (by omega) (Nat.lt_of_lt_of_le (by omega : 1595 < 1073741824) (by decide)) dX8_would_168 ?_
          refine lv_icmp_ge (tgt := 193) hx hb dX8_would_169 (by decide) (fun c25 => ?_) (fun c25 => ?_)
          · skip
            rw [nI_leI (by omega) (by omega)] at c25
            refine lv_iconst (v := nI (0)) hx hb dX8_would_193 (by decide) ?_
            exact hend _ _ _ _ _ hP hD hS (zero_bI (by unfold wouldM; rw [if_neg c17, if_neg c19, if_neg c21, if_pos c22]; exact rul_0 c23 (Or.inl (by omega)) (Or.inl (by omega)))) dX8_would_194
          · skip
            rw [nI_leI (by omega) (by omega)] at c25
            refine lv_aload_n hx hb dX8_would_172 rfl (lv_at hl 2 rfl) ?_
            refine va_get (v := .ref (mw)) (Ts := wsX80) (C := RX8) (T := TX8) (N := 15) hx hb hwsX80 (fun _ h => h) hown hK hP 0 rfl rfl 0 (by decide) (hts (.fieldLink RX8 7 "AdventStreetsModel" "w" "[I") (List.mem_of_getElem? (i := 1) rfl)) (fun _ h9 => h9) rfl dX8_would_173 ?_
            refine lv_iload_n hx hb dX8_would_176 rfl (lv_at hl 3 rfl) ?_
            refine lv_iconst (v := nI (4)) hx hb dX8_would_177 (by decide) ?_
            refine lv_iadd hx hb dX8_would_178 ?_
            refine vn_i (v := nI (r + 4)) (nI_add _ _) ?_
            refine r_ald (f := Z) hx hb hK hP 1 rfl (i := r + 4) (by omega) (Nat.lt_of_lt_of_le (by omega : 1595 < 1073741824) (by decide)) dX8_would_179 ?_
            refine lv_iload_n hx hb dX8_would_180 rfl (lv_at hl 4 rfl) ?_
            refine lv_iconst (v := nI (1)) hx hb dX8_would_181 (by decide) ?_
            refine lv_iadd hx hb dX8_would_182 ?_
            refine vn_i (v := nI (k + 1)) (nI_add _ _) ?_
            refine cSi (n := 2) (As := [.int (nI (Z (r + 4))), .int (nI (k + 1))]) (rest := []) (X := [(om, .inr (8, [.ref (mw), .int (nI (ud)), .ref (mt), .int (nI (td)), .int (nI (fy)), .int (nI (su)), .ref (mm), .ref (ml), .ref (mi), .ref (mh), .int (nI (cu)), .int (nI (sa)), .int (nI (nb)), .ref (mr), .int (nI (tn))])), (mw, .inl (cA 0, 1595, arN Z))]) (pl := []) (wc := ([] : va_W)) (wr := [(om, .inr (8, [.ref (mw), .int (nI (ud)), .ref (mt), .int (nI (td)), .int (nI (fy)), .int (nI (su)), .ref (mm), .ref (ml), .ref (mi), .ref (mh), .int (nI (cu)), .int (nI (sa)), .int (nI (nb)), .ref (mr), .int (nI (tn))])), (mw, .inl (cA 0, 1595, arN Z))]) (w1 := ([] : va_W)) (wn := [(om, .inr (8, [.ref (mw), .int (nI (ud)), .ref (mt), .int (nI (td)), .int (nI (fy)), .int (nI (su)), .ref (mm), .ref (ml), .ref (mi), .ref (mh), .int (nI (cu)), .int (nI (sa)), .int (nI (nb)), .ref (mr), .int (nI (tn))])), (mw, .inl (cA 0, 1595, arN Z))]) (isC := []) (isR := [0, 1]) (isN := [0, 1]) ⟨hx, hb, hml, hown, hts⟩ (c_X8_has l D cA tt (Z (r + 4)) (k + 1) (by omega) (by omega) _) gX8_would_X8_has rfl (by decide +kernel) ⟨rfl, rfl⟩ ⟨Nat.le_of_ble_eq_true rfl, Nat.le_of_ble_eq_true rfl⟩ ⟨Nat.zero_le _, Nat.zero_le _⟩ hK hE hA hP hD hS ⟨⟨rfl, by decide⟩, ⟨rfl, by decide, by decide⟩, rfl, by decide⟩ rfl hl.1 rfl (Nat.le_of_ble_eq_true rfl) dX8_would_183 (fun H locs hP hD hS => ?_)
            have hP : va_P D vwCl [(om, .inr (8, [.ref (mw), .int (nI (ud)), .ref (mt), .int (nI (td)), .int (nI (fy)), .int (nI (su)), .ref (mm), .ref (ml), .ref (mi), .ref (mh), .int (nI (cu)), .int (nI (sa)), .int (nI (nb)), .ref (mr), .int (nI (tn))])), (mw, .inl (cA 0, 1595, arN Z))] _ := hP
            have hD : va_D A [(om, .inr (8, [.ref (mw), .int (nI (ud)), .ref (mt), .int (nI (td)), .int (nI (fy)), .int (nI (su)), .ref (mm), .ref (ml), .ref (mi), .ref (mh), .int (nI (cu)), .int (nI (sa)), .int (nI (nb)), .ref (mr), .int (nI (tn))])), (mw, .inl (cA 0, 1595, arN Z))] := hD
            refine lv_if_eq (tgt := 193) hx hb dX8_would_186 (by decide) (fun c26 => ?_) (fun c26 => ?_)
            · skip
              rw [bI_z] at c26
              refine lv_iconst (v := nI (0)) hx hb dX8_would_193 (by decide) ?_
              exact hend _ _ _ _ _ hP hD hS (zero_bI (by unfold wouldM; rw [if_neg c17, if_neg c19, if_neg c21, if_pos c22]; first | exact rul_0 c23 (Or.inl (by omega)) (Or.inr c26) | exact rul_0 c23 (Or.inr c25) (Or.inl (by omega)))) dX8_would_194
            · skip
              rw [bI_nz] at c26
              refine lv_iconst (v := nI (1)) hx hb dX8_would_189 (by decide) ?_
              refine lv_goto (tgt := 194) hx hb dX8_would_190 (by decide) ?_
              exact hend _ _ _ _ _ hP hD hS (one_bI (by unfold wouldM; rw [if_neg c17, if_neg c19, if_neg c21, if_pos c22]; exact rul_3 (show k + 1 < Z r from by omega) c26)) dX8_would_194
        · skip
          rw [n_le0 (by omega)] at c24
          refine lv_aload_n hx hb dX8_would_141 rfl (lv_at hl 2 rfl) ?_
          refine va_get (v := .ref (mw)) (Ts := wsX80) (C := RX8) (T := TX8) (N := 15) hx hb hwsX80 (fun _ h => h) hown hK hP 0 rfl rfl 0 (by decide) (hts (.fieldLink RX8 7 "AdventStreetsModel" "w" "[I") (List.mem_of_getElem? (i := 1) rfl)) (fun _ h9 => h9) rfl dX8_would_142 ?_
          refine lv_iload_n hx hb dX8_would_145 rfl (lv_at hl 3 rfl) ?_
          refine lv_iconst (v := nI (4)) hx hb dX8_would_146 (by decide) ?_
          refine lv_iadd hx hb dX8_would_147 ?_
          refine vn_i (v := nI (r + 4)) (nI_add _ _) ?_
          refine r_ald (f := Z) hx hb hK hP 1 rfl (i := r + 4) (by omega) (Nat.lt_of_lt_of_le (by omega : 1595 < 1073741824) (by decide)) dX8_would_148 ?_
          refine lv_iload_n hx hb dX8_would_149 rfl (lv_at hl 4 rfl) ?_
          refine lv_iconst (v := nI (1)) hx hb dX8_would_150 (by decide) ?_
          refine lv_isub hx hb dX8_would_151 ?_
          refine vn_i (v := nI (k - 1)) (pk_sub (by omega)) ?_
          refine cSi (n := 2) (As := [.int (nI (Z (r + 4))), .int (nI (k - 1))]) (rest := []) (X := [(om, .inr (8, [.ref (mw), .int (nI (ud)), .ref (mt), .int (nI (td)), .int (nI (fy)), .int (nI (su)), .ref (mm), .ref (ml), .ref (mi), .ref (mh), .int (nI (cu)), .int (nI (sa)), .int (nI (nb)), .ref (mr), .int (nI (tn))])), (mw, .inl (cA 0, 1595, arN Z))]) (pl := []) (wc := ([] : va_W)) (wr := [(om, .inr (8, [.ref (mw), .int (nI (ud)), .ref (mt), .int (nI (td)), .int (nI (fy)), .int (nI (su)), .ref (mm), .ref (ml), .ref (mi), .ref (mh), .int (nI (cu)), .int (nI (sa)), .int (nI (nb)), .ref (mr), .int (nI (tn))])), (mw, .inl (cA 0, 1595, arN Z))]) (w1 := ([] : va_W)) (wn := [(om, .inr (8, [.ref (mw), .int (nI (ud)), .ref (mt), .int (nI (td)), .int (nI (fy)), .int (nI (su)), .ref (mm), .ref (ml), .ref (mi), .ref (mh), .int (nI (cu)), .int (nI (sa)), .int (nI (nb)), .ref (mr), .int (nI (tn))])), (mw, .inl (cA 0, 1595, arN Z))]) (isC := []) (isR := [0, 1]) (isN := [0, 1]) ⟨hx, hb, hml, hown, hts⟩ (c_X8_has l D cA tt (Z (r + 4)) (k - 1) (by omega) (by omega) _) gX8_would_X8_has rfl (by decide +kernel) ⟨rfl, rfl⟩ ⟨Nat.le_of_ble_eq_true rfl, Nat.le_of_ble_eq_true rfl⟩ ⟨Nat.zero_le _, Nat.zero_le _⟩ hK hE hA hP hD hS ⟨⟨rfl, by decide⟩, ⟨rfl, by decide, by decide⟩, rfl, by decide⟩ rfl hl.1 rfl (Nat.le_of_ble_eq_true rfl) dX8_would_152 (fun H locs hP hD hS => ?_)
          have hP : va_P D vwCl [(om, .inr (8, [.ref (mw), .int (nI (ud)), .ref (mt), .int (nI (td)), .int (nI (fy)), .int (nI (su)), .ref (mm), .ref (ml), .ref (mi), .ref (mh), .int (nI (cu)), .int (nI (sa)), .int (nI (nb)), .ref (mr), .int (nI (tn))])), (mw, .inl (cA 0, 1595, arN Z))] _ := hP
          have hD : va_D A [(om, .inr (8, [.ref (mw), .int (nI (ud)), .ref (mt), .int (nI (td)), .int (nI (fy)), .int (nI (su)), .ref (mm), .ref (ml), .ref (mi), .ref (mh), .int (nI (cu)), .int (nI (sa)), .int (nI (nb)), .ref (mr), .int (nI (tn))])), (mw, .inl (cA 0, 1595, arN Z))] := hD
          refine lv_if_ne (tgt := 189) hx hb dX8_would_155 (by decide) (fun c27 => ?_) (fun c27 => ?_)
          · skip
            rw [bI_nz] at c27
            refine lv_iconst (v := nI (1)) hx hb dX8_would_189 (by decide) ?_
            refine lv_goto (tgt := 194) hx hb dX8_would_190 (by decide) ?_
            exact hend _ _ _ _ _ hP hD hS (one_bI (by unfold wouldM; rw [if_neg c17, if_neg c19, if_neg c21, if_pos c22]; exact rul_2 (by omega) c27)) dX8_would_194
          · skip
            rw [bI_z] at c27
            refine lv_iload_n hx hb dX8_would_158 rfl (lv_at hl 4 rfl) ?_
            refine lv_iconst (v := nI (1)) hx hb dX8_would_159 (by decide) ?_
            refine lv_iadd hx hb dX8_would_160 ?_
            refine vn_i (v := nI (k + 1)) (nI_add _ _) ?_
            refine lv_aload_n hx hb dX8_would_161 rfl (lv_at hl 2 rfl) ?_
            refine va_get (v := .ref (mw)) (Ts := wsX80) (C := RX8) (T := TX8) (N := 15) hx hb hwsX80 (fun _ h => h) hown hK hP 0 rfl rfl 0 (by decide) (hts (.fieldLink RX8 7 "AdventStreetsModel" "w" "[I") (List.mem_of_getElem? (i := 1) rfl)) (fun _ h9 => h9) rfl dX8_would_162 ?_
            refine lv_iload_n hx hb dX8_would_165 rfl (lv_at hl 3 rfl) ?_
            refine lv_iconst (v := nI (0)) hx hb dX8_would_166 (by decide) ?_
            refine lv_iadd hx hb dX8_would_167 ?_
            refine vn_i (v := nI (r)) (nI_add _ _) ?_
            refine r_ald (f := Z) hx hb hK hP 1 rfl (i := r) (by omega) (Nat.lt_of_lt_of_le (by omega : 1595 < 1073741824) (by decide)) dX8_would_168 ?_
            refine lv_icmp_ge (tgt := 193) hx hb dX8_would_169 (by decide) (fun c28 => ?_) (fun c28 => ?_)
            · skip
              rw [nI_leI (by omega) (by omega)] at c28
              refine lv_iconst (v := nI (0)) hx hb dX8_would_193 (by decide) ?_
              exact hend _ _ _ _ _ hP hD hS (zero_bI (by unfold wouldM; rw [if_neg c17, if_neg c19, if_neg c21, if_pos c22]; first | exact rul_0 c23 (Or.inl (by omega)) (Or.inr c28) | exact rul_0 c23 (Or.inr c27) (Or.inl (by omega)))) dX8_would_194
            · skip
              rw [nI_leI (by omega) (by omega)] at c28
              refine lv_aload_n hx hb dX8_would_172 rfl (lv_at hl 2 rfl) ?_
              refine va_get (v := .ref (mw)) (Ts := wsX80) (C := RX8) (T := TX8) (N := 15) hx hb hwsX80 (fun _ h => h) hown hK hP 0 rfl rfl 0 (by decide) (hts (.fieldLink RX8 7 "AdventStreetsModel" "w" "[I") (List.mem_of_getElem? (i := 1) rfl)) (fun _ h9 => h9) rfl dX8_would_173 ?_
              refine lv_iload_n hx hb dX8_would_176 rfl (lv_at hl 3 rfl) ?_
              refine lv_iconst (v := nI (4)) hx hb dX8_would_177 (by decide) ?_
              refine lv_iadd hx hb dX8_would_178 ?_
              refine vn_i (v := nI (r + 4)) (nI_add _ _) ?_
              refine r_ald (f := Z) hx hb hK hP 1 rfl (i := r + 4) (by omega) (Nat.lt_of_lt_of_le (by omega : 1595 < 1073741824) (by decide)) dX8_would_179 ?_
              refine lv_iload_n hx hb dX8_would_180 rfl (lv_at hl 4 rfl) ?_
              refine lv_iconst (v := nI (1)) hx hb dX8_would_181 (by decide) ?_
              refine lv_iadd hx hb dX8_would_182 ?_
              refine vn_i (v := nI (k + 1)) (nI_add _ _) ?_
              refine cSi (n := 2) (As := [.int (nI (Z (r + 4))), .int (nI (k + 1))]) (rest := []) (X := [(om, .inr (8, [.ref (mw), .int (nI (ud)), .ref (mt), .int (nI (td)), .int (nI (fy)), .int (nI (su)), .ref (mm), .ref (ml), .ref (mi), .ref (mh), .int (nI (cu)), .int (nI (sa)), .int (nI (nb)), .ref (mr), .int (nI (tn))])), (mw, .inl (cA 0, 1595, arN Z))]) (pl := []) (wc := ([] : va_W)) (wr := [(om, .inr (8, [.ref (mw), .int (nI (ud)), .ref (mt), .int (nI (td)), .int (nI (fy)), .int (nI (su)), .ref (mm), .ref (ml), .ref (mi), .ref (mh), .int (nI (cu)), .int (nI (sa)), .int (nI (nb)), .ref (mr), .int (nI (tn))])), (mw, .inl (cA 0, 1595, arN Z))]) (w1 := ([] : va_W)) (wn := [(om, .inr (8, [.ref (mw), .int (nI (ud)), .ref (mt), .int (nI (td)), .int (nI (fy)), .int (nI (su)), .ref (mm), .ref (ml), .ref (mi), .ref (mh), .int (nI (cu)), .int (nI (sa)), .int (nI (nb)), .ref (mr), .int (nI (tn))])), (mw, .inl (cA 0, 1595, arN Z))]) (isC := []) (isR := [0, 1]) (isN := [0, 1]) ⟨hx, hb, hml, hown, hts⟩ (c_X8_has l D cA tt (Z (r + 4)) (k + 1) (by omega) (by omega) _) gX8_would_X8_has rfl (by decide +kernel) ⟨rfl, rfl⟩ ⟨Nat.le_of_ble_eq_true rfl, Nat.le_of_ble_eq_true rfl⟩ ⟨Nat.zero_le _, Nat.zero_le _⟩ hK hE hA hP hD hS ⟨⟨rfl, by decide⟩, ⟨rfl, by decide, by decide⟩, rfl, by decide⟩ rfl hl.1 rfl (Nat.le_of_ble_eq_true rfl) dX8_would_183 (fun H locs hP hD hS => ?_)
              have hP : va_P D vwCl [(om, .inr (8, [.ref (mw), .int (nI (ud)), .ref (mt), .int (nI (td)), .int (nI (fy)), .int (nI (su)), .ref (mm), .ref (ml), .ref (mi), .ref (mh), .int (nI (cu)), .int (nI (sa)), .int (nI (nb)), .ref (mr), .int (nI (tn))])), (mw, .inl (cA 0, 1595, arN Z))] _ := hP
              have hD : va_D A [(om, .inr (8, [.ref (mw), .int (nI (ud)), .ref (mt), .int (nI (td)), .int (nI (fy)), .int (nI (su)), .ref (mm), .ref (ml), .ref (mi), .ref (mh), .int (nI (cu)), .int (nI (sa)), .int (nI (nb)), .ref (mr), .int (nI (tn))])), (mw, .inl (cA 0, 1595, arN Z))] := hD
              refine lv_if_eq (tgt := 193) hx hb dX8_would_186 (by decide) (fun c29 => ?_) (fun c29 => ?_)
              · skip
                rw [bI_z] at c29
                refine lv_iconst (v := nI (0)) hx hb dX8_would_193 (by decide) ?_
                exact hend _ _ _ _ _ hP hD hS (zero_bI (by unfold wouldM; rw [if_neg c17, if_neg c19, if_neg c21, if_pos c22]; exact rul_0 c23 (Or.inr c27) (Or.inr c29))) dX8_would_194
              · skip
                rw [bI_nz] at c29
                refine lv_iconst (v := nI (1)) hx hb dX8_would_189 (by decide) ?_
                refine lv_goto (tgt := 194) hx hb dX8_would_190 (by decide) ?_
                exact hend _ _ _ _ _ hP hD hS (one_bI (by unfold wouldM; rw [if_neg c17, if_neg c19, if_neg c21, if_pos c22]; exact rul_3 (show k + 1 < Z r from by omega) c29)) dX8_would_194
    have to38 : (nI (Z (r + 5 + k))).toInt < 2 ∨ 5 < (nI (Z (r + 5 + k))).toInt := by rw [nI_toInt (by omega)]; omega
    refine lv_tableOut (tgt := 195) hx hb dX8_would_38 to38 (by decide) ?_
    refine lv_iload hx hb dX8_would_195 (lv_at hl 0 rfl) ?_
    exact hend _ _ _ _ _ hP hD hS (one_bI (by unfold wouldM; rw [if_neg c17, if_neg c19, if_neg c21, if_neg c22, decide_eq_true (p := (dateF (sg Z r) = SD (sg Z r) k)) c1])) dX8_would_197
set_option maxRecDepth 100000 in
set_option maxHeartbeats 4000000 in
theorem c_X8_wears (l : Launch) (D : va_G) (cA : Nat → ClassId) (tt : Nat → Nat) (om mw mt mm ml mi mh mr ud td fy su cu sa nb tn : Nat) (Z : Nat → Nat) (r v : Nat) (hg : Wf (sg Z r)) (hr : r + 55 ≤ 1595) (hv : v < 1024) (sz : Nat) : Cv l D cA tt yX8_wears wsX8_wears ({ frames := 1, cells := 0, slots := 0, locals := 21 } : Room) [.ref (om), .int (nI (r)), .int (nI (v))] sz [(om, .inr (8, [.ref (mw), .int (nI (ud)), .ref (mt), .int (nI (td)), .int (nI (fy)), .int (nI (su)), .ref (mm), .ref (ml), .ref (mi), .ref (mh), .int (nI (cu)), .int (nI (sa)), .int (nI (nb)), .ref (mr), .int (nI (tn))])), (mw, .inl (cA 0, 1595, arN Z))] [(om, .inr (8, [.ref (mw), .int (nI (ud)), .ref (mt), .int (nI (td)), .int (nI (fy)), .int (nI (su)), .ref (mm), .ref (ml), .ref (mi), .ref (mh), .int (nI (cu)), .int (nI (sa)), .int (nI (nb)), .ref (mr), .int (nI (tn))])), (mw, .inl (cA 0, 1595, arN (wrW Z r v)))] := by
  obtain ⟨gn, ge, gv, go, ga⟩ := wfW hg
  refine Cv.mk (cc := cX8_wears) (maxL := 4) (by decide) rfl (Nat.le_of_ble_eq_true rfl) ?_
  intro p e s m below meth c A Q ls hB hl hend
  obtain ⟨⟨hx, hb, hml, hown, hts⟩, hP, hK, hD, hS, hA, hE⟩ := hB
  have hown : s.vm.findClass RX8 = some m.cls := hown
  have hwsX80 : ∀ w9 ∈ wsX80, w9.before ([.ref (om), .int (nI (r)), .int (nI (v))] : List Value).toArray s = true := fun w9 h => hts w9 (List.mem_cons_of_mem _ (List.mem_append_right _ h))
  have hl : lv_has ls 4 [(0, .ref (om)), (1, .int (nI (r))), (2, .int (nI (v)))] := hl
  refine lv_iconst (v := nI (0)) hx hb dX8_wears_0 (by decide) ?_
  refine lv_istore_n (lv' := [(3, .int (nI (0))), (0, .ref (om)), (1, .int (nI (r))), (2, .int (nI (v)))]) hx hb dX8_wears_1 rfl hl (by decide) rfl (fun ls hl => ?_)
  have loop2 : ∀ (N2 : Nat) (i : Nat), (i ≤ Z r) → (Z r - i) < N2 → ∀ (H : Heap) (locs : List Loc) (ls : Array Slot), va_P D vwCl [(om, .inr (8, [.ref (mw), .int (nI (ud)), .ref (mt), .int (nI (td)), .int (nI (fy)), .int (nI (su)), .ref (mm), .ref (ml), .ref (mi), .ref (mh), .int (nI (cu)), .int (nI (sa)), .int (nI (nb)), .ref (mr), .int (nI (tn))])), (mw, .inl (cA 0, 1595, arN (rg Z (r + 35) i (wearG (sg Z r) v))))] H → va_D A [(om, .inr (8, [.ref (mw), .int (nI (ud)), .ref (mt), .int (nI (td)), .int (nI (fy)), .int (nI (su)), .ref (mm), .ref (ml), .ref (mi), .ref (mh), .int (nI (cu)), .int (nI (sa)), .int (nI (nb)), .ref (mr), .int (nI (tn))])), (mw, .inl (cA 0, 1595, arN (rg Z (r + 35) i (wearG (sg Z r) v))))] → va_S A s.heap H locs → lv_has ls 4 [(3, .int (nI (i))), (0, .ref (om)), (1, .int (nI (r))), (2, .int (nI (v)))] → W p l e ({ frames := 1, cells := 0, slots := 0, locals := 21 } : Room) s m ([.ref (om), .int (nI (r)), .int (nI (v))] : List Value).toArray below meth c H locs 0 0 Q (F0 m 2 ls []) := by
    intro N2
    induction N2 with
    | zero => intro i iv2_0 hN; exact absurd hN (Nat.not_lt_zero _)
    | succ N2 ih2 =>
      intro i iv2_0 hN2 H locs ls hP hD hS hl
      have gi : i < 10 → Z (r + 35 + i) < 1024 := fun h => (ga i h).2.2.2.1
      refine lv_iload_n hx hb dX8_wears_2 rfl (lv_at hl 0 rfl) ?_
      refine lv_aload_n hx hb dX8_wears_3 rfl (lv_at hl 1 rfl) ?_
      refine va_get (v := .ref (mw)) (Ts := wsX80) (C := RX8) (T := TX8) (N := 15) hx hb hwsX80 (fun _ h => h) hown hK hP 0 rfl rfl 0 (by decide) (hts (.fieldLink RX8 7 "AdventStreetsModel" "w" "[I") (List.mem_of_getElem? (i := 1) rfl)) (fun _ h9 => h9) rfl dX8_wears_4 ?_
      refine lv_iload_n hx hb dX8_wears_7 rfl (lv_at hl 2 rfl) ?_
      refine lv_iconst (v := nI (0)) hx hb dX8_wears_8 (by decide) ?_
      refine lv_iadd hx hb dX8_wears_9 ?_
      refine vn_i (v := nI (r)) (nI_add _ _) ?_
      refine r_ald (f := rg Z (r + 35) i (wearG (sg Z r) v)) hx hb hK hP 1 rfl (i := r) (by omega) (Nat.lt_of_lt_of_le (by omega : 1595 < 1073741824) (by decide)) dX8_wears_10 ?_
      refine vn_i (v := nI (Z r)) (congrArg nI (rg_out (by omega))) ?_
      refine lv_icmp_ge (tgt := 61) hx hb dX8_wears_11 (by decide) (fun c2 => ?_) (fun c2 => ?_)
      · skip
        rw [nI_leI (by omega) (by omega)] at c2
        have ef3 : ([(om, .inr (8, [.ref (mw), .int (nI (ud)), .ref (mt), .int (nI (td)), .int (nI (fy)), .int (nI (su)), .ref (mm), .ref (ml), .ref (mi), .ref (mh), .int (nI (cu)), .int (nI (sa)), .int (nI (nb)), .ref (mr), .int (nI (tn))])), (mw, .inl (cA 0, 1595, arN (rg Z (r + 35) i (wearG (sg Z r) v))))] : va_W) = [(om, .inr (8, [.ref (mw), .int (nI (ud)), .ref (mt), .int (nI (td)), .int (nI (fy)), .int (nI (su)), .ref (mm), .ref (ml), .ref (mi), .ref (mh), .int (nI (cu)), .int (nI (sa)), .int (nI (nb)), .ref (mr), .int (nI (tn))])), (mw, .inl (cA 0, 1595, arN (wrW Z r v)))] := by
          rw [show i = Z r by omega]; rfl
        have hP : va_P D vwCl [(om, .inr (8, [.ref (mw), .int (nI (ud)), .ref (mt), .int (nI (td)), .int (nI (fy)), .int (nI (su)), .ref (mm), .ref (ml), .ref (mi), .ref (mh), .int (nI (cu)), .int (nI (sa)), .int (nI (nb)), .ref (mr), .int (nI (tn))])), (mw, .inl (cA 0, 1595, arN (wrW Z r v)))] _ := Eq.mp (congrArg (fun z9 => va_P D vwCl z9 _) ef3) hP
        have hD : va_D A [(om, .inr (8, [.ref (mw), .int (nI (ud)), .ref (mt), .int (nI (td)), .int (nI (fy)), .int (nI (su)), .ref (mm), .ref (ml), .ref (mi), .ref (mh), .int (nI (cu)), .int (nI (sa)), .int (nI (nb)), .ref (mr), .int (nI (tn))])), (mw, .inl (cA 0, 1595, arN (wrW Z r v)))] := Eq.mp (congrArg (fun z9 => va_D A z9) ef3) hD
        exact hend _ _ _ _ hP hD hS dX8_wears_61
      · skip
        rw [nI_leI (by omega) (by omega)] at c2
        refine lv_aload_n hx hb dX8_wears_14 rfl (lv_at hl 1 rfl) ?_
        refine va_get (v := .ref (mw)) (Ts := wsX80) (C := RX8) (T := TX8) (N := 15) hx hb hwsX80 (fun _ h => h) hown hK hP 0 rfl rfl 0 (by decide) (hts (.fieldLink RX8 7 "AdventStreetsModel" "w" "[I") (List.mem_of_getElem? (i := 1) rfl)) (fun _ h9 => h9) rfl dX8_wears_15 ?_
        refine lv_iload_n hx hb dX8_wears_18 rfl (lv_at hl 2 rfl) ?_
        refine lv_bipush (v := nI (35)) hx hb dX8_wears_19 (by decide) ?_
        refine lv_iadd hx hb dX8_wears_21 ?_
        refine vn_i (v := nI (r + 35)) (nI_add _ _) ?_
        refine lv_iload_n hx hb dX8_wears_22 rfl (lv_at hl 0 rfl) ?_
        refine lv_iadd hx hb dX8_wears_23 ?_
        refine vn_i (v := nI (r + 35 + i)) (nI_add _ _) ?_
        refine lv_dup2_11 hx hb dX8_wears_24 rfl rfl ?_
        refine r_ald (f := rg Z (r + 35) i (wearG (sg Z r) v)) hx hb hK hP 1 rfl (i := r + 35 + i) (by omega) (Nat.lt_of_lt_of_le (by omega : 1595 < 1073741824) (by decide)) dX8_wears_25 ?_
        refine vn_i (v := nI (Z (r + 35 + i))) (congrArg nI (rg_out (by omega))) ?_
        refine lv_iload_n hx hb dX8_wears_26 rfl (lv_at hl 3 rfl) ?_
        refine lv_iload_n hx hb dX8_wears_27 rfl (lv_at hl 0 rfl) ?_
        refine cSi (n := 2) (As := [.int (nI (v)), .int (nI (i))]) (rest := [.int (nI (Z (r + 35 + i))), .int (nI (r + 35 + i)), .ref (mw)]) (X := [(om, .inr (8, [.ref (mw), .int (nI (ud)), .ref (mt), .int (nI (td)), .int (nI (fy)), .int (nI (su)), .ref (mm), .ref (ml), .ref (mi), .ref (mh), .int (nI (cu)), .int (nI (sa)), .int (nI (nb)), .ref (mr), .int (nI (tn))])), (mw, .inl (cA 0, 1595, arN (rg Z (r + 35) i (wearG (sg Z r) v))))]) (pl := []) (wc := ([] : va_W)) (wr := [(om, .inr (8, [.ref (mw), .int (nI (ud)), .ref (mt), .int (nI (td)), .int (nI (fy)), .int (nI (su)), .ref (mm), .ref (ml), .ref (mi), .ref (mh), .int (nI (cu)), .int (nI (sa)), .int (nI (nb)), .ref (mr), .int (nI (tn))])), (mw, .inl (cA 0, 1595, arN (rg Z (r + 35) i (wearG (sg Z r) v))))]) (w1 := ([] : va_W)) (wn := [(om, .inr (8, [.ref (mw), .int (nI (ud)), .ref (mt), .int (nI (td)), .int (nI (fy)), .int (nI (su)), .ref (mm), .ref (ml), .ref (mi), .ref (mh), .int (nI (cu)), .int (nI (sa)), .int (nI (nb)), .ref (mr), .int (nI (tn))])), (mw, .inl (cA 0, 1595, arN (rg Z (r + 35) i (wearG (sg Z r) v))))]) (isC := []) (isR := [0, 1]) (isN := [0, 1]) ⟨hx, hb, hml, hown, hts⟩ (c_X8_has l D cA tt v i (by omega) (by omega) _) gX8_wears_X8_has rfl (by decide +kernel) ⟨rfl, rfl⟩ ⟨Nat.le_of_ble_eq_true rfl, Nat.le_of_ble_eq_true rfl⟩ ⟨Nat.zero_le _, Nat.zero_le _⟩ hK hE hA hP hD hS ⟨⟨rfl, by decide⟩, ⟨rfl, by decide, by decide⟩, rfl, by decide⟩ rfl hl.1 rfl (Nat.le_of_ble_eq_true rfl) dX8_wears_28 (fun H locs hP hD hS => ?_)
        have hP : va_P D vwCl [(om, .inr (8, [.ref (mw), .int (nI (ud)), .ref (mt), .int (nI (td)), .int (nI (fy)), .int (nI (su)), .ref (mm), .ref (ml), .ref (mi), .ref (mh), .int (nI (cu)), .int (nI (sa)), .int (nI (nb)), .ref (mr), .int (nI (tn))])), (mw, .inl (cA 0, 1595, arN (rg Z (r + 35) i (wearG (sg Z r) v))))] _ := hP
        have hD : va_D A [(om, .inr (8, [.ref (mw), .int (nI (ud)), .ref (mt), .int (nI (td)), .int (nI (fy)), .int (nI (su)), .ref (mm), .ref (ml), .ref (mi), .ref (mh), .int (nI (cu)), .int (nI (sa)), .int (nI (nb)), .ref (mr), .int (nI (tn))])), (mw, .inl (cA 0, 1595, arN (rg Z (r + 35) i (wearG (sg Z r) v))))] := hD
        refine lv_if_eq (tgt := 52) hx hb dX8_wears_31 (by decide) (fun c4 => ?_) (fun c4 => ?_)
        · skip
          rw [bI_z] at c4
          refine lv_iconst (v := nI (0)) hx hb dX8_wears_52 (by decide) ?_
          refine lv_isub hx hb dX8_wears_53 ?_
          refine vn_i (v := nI ((Z (r + 35 + i)) - 0)) (pk_sub (by omega)) ?_
          refine r_ast (f := rg Z (r + 35) i (wearG (sg Z r) v)) hx hb hK hP hD hS 1 rfl (i := r + 35 + i) (by omega) (Nat.lt_of_lt_of_le (by omega : 1595 < 1073741824) (by decide)) dX8_wears_54 (fun H locs hP hD hS => ?_)
          have hP : va_P D vwCl [(om, .inr (8, [.ref (mw), .int (nI (ud)), .ref (mt), .int (nI (td)), .int (nI (fy)), .int (nI (su)), .ref (mm), .ref (ml), .ref (mi), .ref (mh), .int (nI (cu)), .int (nI (sa)), .int (nI (nb)), .ref (mr), .int (nI (tn))])), (mw, .inl (cA 0, 1595, arN (upN (rg Z (r + 35) i (wearG (sg Z r) v)) (r + 35 + i) ((Z (r + 35 + i)) - 0))))] _ := hP
          have hD : va_D A [(om, .inr (8, [.ref (mw), .int (nI (ud)), .ref (mt), .int (nI (td)), .int (nI (fy)), .int (nI (su)), .ref (mm), .ref (ml), .ref (mi), .ref (mh), .int (nI (cu)), .int (nI (sa)), .int (nI (nb)), .ref (mr), .int (nI (tn))])), (mw, .inl (cA 0, 1595, arN (upN (rg Z (r + 35) i (wearG (sg Z r) v)) (r + 35 + i) ((Z (r + 35 + i)) - 0))))] := hD
          refine lv_iinc (v := nI (i + 1)) (lv' := [(3, .int (nI (i + 1))), (0, .ref (om)), (1, .int (nI (r))), (2, .int (nI (v)))]) hx hb dX8_wears_55 hl (k := 0) rfl (nI_add _ _) (by decide) rfl (fun ls hl => ?_)
          refine lv_goto (tgt := 2) hx hb dX8_wears_58 (by decide) ?_
          have ew5 : upN (rg Z (r + 35) i (wearG (sg Z r) v)) (r + 35 + i) ((Z (r + 35 + i)) - 0) = rg Z (r + 35) (i + 1) (wearG (sg Z r) v) := by
            exact rg_s (by unfold wearG; rw [if_neg (by rw [c4]; simp)]; rfl)
          have hP : va_P D vwCl [(om, .inr (8, [.ref (mw), .int (nI (ud)), .ref (mt), .int (nI (td)), .int (nI (fy)), .int (nI (su)), .ref (mm), .ref (ml), .ref (mi), .ref (mh), .int (nI (cu)), .int (nI (sa)), .int (nI (nb)), .ref (mr), .int (nI (tn))])), (mw, .inl (cA 0, 1595, arN (rg Z (r + 35) (i + 1) (wearG (sg Z r) v))))] _ := Eq.mp (congrArg (fun z9 => va_P D vwCl [(om, .inr (8, [.ref (mw), .int (nI (ud)), .ref (mt), .int (nI (td)), .int (nI (fy)), .int (nI (su)), .ref (mm), .ref (ml), .ref (mi), .ref (mh), .int (nI (cu)), .int (nI (sa)), .int (nI (nb)), .ref (mr), .int (nI (tn))])), (mw, .inl (cA 0, 1595, arN z9))] _) ew5) hP
          have hD : va_D A [(om, .inr (8, [.ref (mw), .int (nI (ud)), .ref (mt), .int (nI (td)), .int (nI (fy)), .int (nI (su)), .ref (mm), .ref (ml), .ref (mi), .ref (mh), .int (nI (cu)), .int (nI (sa)), .int (nI (nb)), .ref (mr), .int (nI (tn))])), (mw, .inl (cA 0, 1595, arN (rg Z (r + 35) (i + 1) (wearG (sg Z r) v))))] := Eq.mp (congrArg (fun z9 => va_D A [(om, .inr (8, [.ref (mw), .int (nI (ud)), .ref (mt), .int (nI (td)), .int (nI (fy)), .int (nI (su)), .ref (mm), .ref (ml), .ref (mi), .ref (mh), .int (nI (cu)), .int (nI (sa)), .int (nI (nb)), .ref (mr), .int (nI (tn))])), (mw, .inl (cA 0, 1595, arN z9))]) ew5) hD
          have hl9 := lv_sub (l' := [(3, .int (nI (i + 1))), (0, .ref (om)), (1, .int (nI (r))), (2, .int (nI (v)))]) hl [0, 1, 2, 3] rfl
          exact ih2 (i + 1) (by omega) (by omega) _ _ _ hP hD hS hl9
        · skip
          rw [bI_nz] at c4
          refine lv_aload_n hx hb dX8_wears_34 rfl (lv_at hl 1 rfl) ?_
          refine va_get (v := .ref (mw)) (Ts := wsX80) (C := RX8) (T := TX8) (N := 15) hx hb hwsX80 (fun _ h => h) hown hK hP 0 rfl rfl 0 (by decide) (hts (.fieldLink RX8 7 "AdventStreetsModel" "w" "[I") (List.mem_of_getElem? (i := 1) rfl)) (fun _ h9 => h9) rfl dX8_wears_35 ?_
          refine lv_iload_n hx hb dX8_wears_38 rfl (lv_at hl 2 rfl) ?_
          refine lv_bipush (v := nI (35)) hx hb dX8_wears_39 (by decide) ?_
          refine lv_iadd hx hb dX8_wears_41 ?_
          refine vn_i (v := nI (r + 35)) (nI_add _ _) ?_
          refine lv_iload_n hx hb dX8_wears_42 rfl (lv_at hl 0 rfl) ?_
          refine lv_iadd hx hb dX8_wears_43 ?_
          refine vn_i (v := nI (r + 35 + i)) (nI_add _ _) ?_
          refine r_ald (f := rg Z (r + 35) i (wearG (sg Z r) v)) hx hb hK hP 1 rfl (i := r + 35 + i) (by omega) (Nat.lt_of_lt_of_le (by omega : 1595 < 1073741824) (by decide)) dX8_wears_44 ?_
          refine vn_i (v := nI (Z (r + 35 + i))) (congrArg nI (rg_out (by omega))) ?_
          refine lv_if_le (tgt := 52) hx hb dX8_wears_45 (by decide) (fun c6 => ?_) (fun c6 => ?_)
          · skip
            rw [n_le0 (by omega)] at c6
            refine lv_iconst (v := nI (0)) hx hb dX8_wears_52 (by decide) ?_
            refine lv_isub hx hb dX8_wears_53 ?_
            refine vn_i (v := nI ((Z (r + 35 + i)) - 0)) (pk_sub (by omega)) ?_
            refine r_ast (f := rg Z (r + 35) i (wearG (sg Z r) v)) hx hb hK hP hD hS 1 rfl (i := r + 35 + i) (by omega) (Nat.lt_of_lt_of_le (by omega : 1595 < 1073741824) (by decide)) dX8_wears_54 (fun H locs hP hD hS => ?_)
            have hP : va_P D vwCl [(om, .inr (8, [.ref (mw), .int (nI (ud)), .ref (mt), .int (nI (td)), .int (nI (fy)), .int (nI (su)), .ref (mm), .ref (ml), .ref (mi), .ref (mh), .int (nI (cu)), .int (nI (sa)), .int (nI (nb)), .ref (mr), .int (nI (tn))])), (mw, .inl (cA 0, 1595, arN (upN (rg Z (r + 35) i (wearG (sg Z r) v)) (r + 35 + i) ((Z (r + 35 + i)) - 0))))] _ := hP
            have hD : va_D A [(om, .inr (8, [.ref (mw), .int (nI (ud)), .ref (mt), .int (nI (td)), .int (nI (fy)), .int (nI (su)), .ref (mm), .ref (ml), .ref (mi), .ref (mh), .int (nI (cu)), .int (nI (sa)), .int (nI (nb)), .ref (mr), .int (nI (tn))])), (mw, .inl (cA 0, 1595, arN (upN (rg Z (r + 35) i (wearG (sg Z r) v)) (r + 35 + i) ((Z (r + 35 + i)) - 0))))] := hD
            refine lv_iinc (v := nI (i + 1)) (lv' := [(3, .int (nI (i + 1))), (0, .ref (om)), (1, .int (nI (r))), (2, .int (nI (v)))]) hx hb dX8_wears_55 hl (k := 0) rfl (nI_add _ _) (by decide) rfl (fun ls hl => ?_)
            refine lv_goto (tgt := 2) hx hb dX8_wears_58 (by decide) ?_
            have ew7 : upN (rg Z (r + 35) i (wearG (sg Z r) v)) (r + 35 + i) ((Z (r + 35 + i)) - 0) = rg Z (r + 35) (i + 1) (wearG (sg Z r) v) := by
              exact rg_s (by unfold wearG; rw [if_pos c4]; show Z (r + 35 + i) - 0 = Z (r + 35 + i) - 1; omega)
            have hP : va_P D vwCl [(om, .inr (8, [.ref (mw), .int (nI (ud)), .ref (mt), .int (nI (td)), .int (nI (fy)), .int (nI (su)), .ref (mm), .ref (ml), .ref (mi), .ref (mh), .int (nI (cu)), .int (nI (sa)), .int (nI (nb)), .ref (mr), .int (nI (tn))])), (mw, .inl (cA 0, 1595, arN (rg Z (r + 35) (i + 1) (wearG (sg Z r) v))))] _ := Eq.mp (congrArg (fun z9 => va_P D vwCl [(om, .inr (8, [.ref (mw), .int (nI (ud)), .ref (mt), .int (nI (td)), .int (nI (fy)), .int (nI (su)), .ref (mm), .ref (ml), .ref (mi), .ref (mh), .int (nI (cu)), .int (nI (sa)), .int (nI (nb)), .ref (mr), .int (nI (tn))])), (mw, .inl (cA 0, 1595, arN z9))] _) ew7) hP
            have hD : va_D A [(om, .inr (8, [.ref (mw), .int (nI (ud)), .ref (mt), .int (nI (td)), .int (nI (fy)), .int (nI (su)), .ref (mm), .ref (ml), .ref (mi), .ref (mh), .int (nI (cu)), .int (nI (sa)), .int (nI (nb)), .ref (mr), .int (nI (tn))])), (mw, .inl (cA 0, 1595, arN (rg Z (r + 35) (i + 1) (wearG (sg Z r) v))))] := Eq.mp (congrArg (fun z9 => va_D A [(om, .inr (8, [.ref (mw), .int (nI (ud)), .ref (mt), .int (nI (td)), .int (nI (fy)), .int (nI (su)), .ref (mm), .ref (ml), .ref (mi), .ref (mh), .int (nI (cu)), .int (nI (sa)), .int (nI (nb)), .ref (mr), .int (nI (tn))])), (mw, .inl (cA 0, 1595, arN z9))]) ew7) hD
            have hl9 := lv_sub (l' := [(3, .int (nI (i + 1))), (0, .ref (om)), (1, .int (nI (r))), (2, .int (nI (v)))]) hl [0, 1, 2, 3] rfl
            exact ih2 (i + 1) (by omega) (by omega) _ _ _ hP hD hS hl9
          · skip
            rw [n_le0 (by omega)] at c6
            refine lv_iconst (v := nI (1)) hx hb dX8_wears_48 (by decide) ?_
            refine lv_goto (tgt := 53) hx hb dX8_wears_49 (by decide) ?_
            refine lv_isub hx hb dX8_wears_53 ?_
            refine vn_i (v := nI ((Z (r + 35 + i)) - 1)) (pk_sub (by omega)) ?_
            refine r_ast (f := rg Z (r + 35) i (wearG (sg Z r) v)) hx hb hK hP hD hS 1 rfl (i := r + 35 + i) (by omega) (Nat.lt_of_lt_of_le (by omega : 1595 < 1073741824) (by decide)) dX8_wears_54 (fun H locs hP hD hS => ?_)
            have hP : va_P D vwCl [(om, .inr (8, [.ref (mw), .int (nI (ud)), .ref (mt), .int (nI (td)), .int (nI (fy)), .int (nI (su)), .ref (mm), .ref (ml), .ref (mi), .ref (mh), .int (nI (cu)), .int (nI (sa)), .int (nI (nb)), .ref (mr), .int (nI (tn))])), (mw, .inl (cA 0, 1595, arN (upN (rg Z (r + 35) i (wearG (sg Z r) v)) (r + 35 + i) ((Z (r + 35 + i)) - 1))))] _ := hP
            have hD : va_D A [(om, .inr (8, [.ref (mw), .int (nI (ud)), .ref (mt), .int (nI (td)), .int (nI (fy)), .int (nI (su)), .ref (mm), .ref (ml), .ref (mi), .ref (mh), .int (nI (cu)), .int (nI (sa)), .int (nI (nb)), .ref (mr), .int (nI (tn))])), (mw, .inl (cA 0, 1595, arN (upN (rg Z (r + 35) i (wearG (sg Z r) v)) (r + 35 + i) ((Z (r + 35 + i)) - 1))))] := hD
            refine lv_iinc (v := nI (i + 1)) (lv' := [(3, .int (nI (i + 1))), (0, .ref (om)), (1, .int (nI (r))), (2, .int (nI (v)))]) hx hb dX8_wears_55 hl (k := 0) rfl (nI_add _ _) (by decide) rfl (fun ls hl => ?_)
            refine lv_goto (tgt := 2) hx hb dX8_wears_58 (by decide) ?_
            have ew8 : upN (rg Z (r + 35) i (wearG (sg Z r) v)) (r + 35 + i) ((Z (r + 35 + i)) - 1) = rg Z (r + 35) (i + 1) (wearG (sg Z r) v) := by
              exact rg_s (by unfold wearG; rw [if_pos c4])
            have hP : va_P D vwCl [(om, .inr (8, [.ref (mw), .int (nI (ud)), .ref (mt), .int (nI (td)), .int (nI (fy)), .int (nI (su)), .ref (mm), .ref (ml), .ref (mi), .ref (mh), .int (nI (cu)), .int (nI (sa)), .int (nI (nb)), .ref (mr), .int (nI (tn))])), (mw, .inl (cA 0, 1595, arN (rg Z (r + 35) (i + 1) (wearG (sg Z r) v))))] _ := Eq.mp (congrArg (fun z9 => va_P D vwCl [(om, .inr (8, [.ref (mw), .int (nI (ud)), .ref (mt), .int (nI (td)), .int (nI (fy)), .int (nI (su)), .ref (mm), .ref (ml), .ref (mi), .ref (mh), .int (nI (cu)), .int (nI (sa)), .int (nI (nb)), .ref (mr), .int (nI (tn))])), (mw, .inl (cA 0, 1595, arN z9))] _) ew8) hP
            have hD : va_D A [(om, .inr (8, [.ref (mw), .int (nI (ud)), .ref (mt), .int (nI (td)), .int (nI (fy)), .int (nI (su)), .ref (mm), .ref (ml), .ref (mi), .ref (mh), .int (nI (cu)), .int (nI (sa)), .int (nI (nb)), .ref (mr), .int (nI (tn))])), (mw, .inl (cA 0, 1595, arN (rg Z (r + 35) (i + 1) (wearG (sg Z r) v))))] := Eq.mp (congrArg (fun z9 => va_D A [(om, .inr (8, [.ref (mw), .int (nI (ud)), .ref (mt), .int (nI (td)), .int (nI (fy)), .int (nI (su)), .ref (mm), .ref (ml), .ref (mi), .ref (mh), .int (nI (cu)), .int (nI (sa)), .int (nI (nb)), .ref (mr), .int (nI (tn))])), (mw, .inl (cA 0, 1595, arN z9))]) ew8) hD
            have hl9 := lv_sub (l' := [(3, .int (nI (i + 1))), (0, .ref (om)), (1, .int (nI (r))), (2, .int (nI (v)))]) hl [0, 1, 2, 3] rfl
            exact ih2 (i + 1) (by omega) (by omega) _ _ _ hP hD hS hl9
  have ew9 : Z = rg Z (r + 35) 0 (wearG (sg Z r) v) := by
    exact (rg_0 _ _ _).symm
  have hP : va_P D vwCl [(om, .inr (8, [.ref (mw), .int (nI (ud)), .ref (mt), .int (nI (td)), .int (nI (fy)), .int (nI (su)), .ref (mm), .ref (ml), .ref (mi), .ref (mh), .int (nI (cu)), .int (nI (sa)), .int (nI (nb)), .ref (mr), .int (nI (tn))])), (mw, .inl (cA 0, 1595, arN (rg Z (r + 35) 0 (wearG (sg Z r) v))))] _ := Eq.mp (congrArg (fun z9 => va_P D vwCl [(om, .inr (8, [.ref (mw), .int (nI (ud)), .ref (mt), .int (nI (td)), .int (nI (fy)), .int (nI (su)), .ref (mm), .ref (ml), .ref (mi), .ref (mh), .int (nI (cu)), .int (nI (sa)), .int (nI (nb)), .ref (mr), .int (nI (tn))])), (mw, .inl (cA 0, 1595, arN z9))] _) ew9) hP
  have hD : va_D A [(om, .inr (8, [.ref (mw), .int (nI (ud)), .ref (mt), .int (nI (td)), .int (nI (fy)), .int (nI (su)), .ref (mm), .ref (ml), .ref (mi), .ref (mh), .int (nI (cu)), .int (nI (sa)), .int (nI (nb)), .ref (mr), .int (nI (tn))])), (mw, .inl (cA 0, 1595, arN (rg Z (r + 35) 0 (wearG (sg Z r) v))))] := Eq.mp (congrArg (fun z9 => va_D A [(om, .inr (8, [.ref (mw), .int (nI (ud)), .ref (mt), .int (nI (td)), .int (nI (fy)), .int (nI (su)), .ref (mm), .ref (ml), .ref (mi), .ref (mh), .int (nI (cu)), .int (nI (sa)), .int (nI (nb)), .ref (mr), .int (nI (tn))])), (mw, .inl (cA 0, 1595, arN z9))]) ew9) hD
  have hl9 := lv_sub (l' := [(3, .int (nI (0))), (0, .ref (om)), (1, .int (nI (r))), (2, .int (nI (v)))]) hl [0, 1, 2, 3] rfl
  exact loop2 _ 0 (by omega) (Nat.lt_succ_self _) _ _ _ hP hD hS hl9
