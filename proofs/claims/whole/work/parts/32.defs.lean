/-! ===== what a street does, in naturals ===== -/
/-- f 0 ||| .. ||| f (n - 1) -/
def orN : Nat → (Nat → Nat) → Nat
  | 0, _ => 0
  | n + 1, f => orN n f ||| f n
theorem orN_tb (n : Nat) (f : Nat → Nat) (k : Nat) : (orN n f).testBit k = true ↔ ∃ j, j < n ∧ (f j).testBit k = true := by
  induction n with
  | zero => simp [orN]
  | succ n ih =>
    rw [orN, Nat.testBit_or, Bool.or_eq_true, ih]
    constructor
    · rintro (⟨j, h, q⟩ | h)
      · exact ⟨j, by omega, q⟩
      · exact ⟨n, by omega, h⟩
    · rintro ⟨j, h, q⟩
      rcases Nat.lt_or_ge j n with z | z
      · exact Or.inl ⟨j, z, q⟩
      · rw [show j = n by omega] at q
        exact Or.inr q
theorem orN_congr {n : Nat} {f g : Nat → Nat} (h : ∀ k, k < n → f k = g k) : orN n f = orN n g := by
  induction n with
  | zero => rfl
  | succ n ih => rw [orN, orN, ih (fun k hk => h k (by omega)), h n (by omega)]
theorem orN_lt {n : Nat} {f : Nat → Nat} {m : Nat} (h : ∀ k, k < n → f k < 2 ^ m) : orN n f < 2 ^ m := by
  induction n with
  | zero => exact Nat.two_pow_pos m
  | succ n ih => exact Nat.or_lt_two_pow (ih (fun k hk => h k (by omega))) (h n (by omega))
/-- the set of the k below n of which p holds -/
def mkb (n : Nat) (p : Nat → Bool) : Nat := orN n (fun k => if p k then 2 ^ k else 0)
theorem mkb_succ (n : Nat) (p : Nat → Bool) : mkb (n + 1) p = if p n then mkb n p ||| 2 ^ n else mkb n p := by
  unfold mkb
  rw [orN]
  split
  · rfl
  · rw [Nat.or_zero]
theorem mkb_tb (n : Nat) (p : Nat → Bool) (k : Nat) : (mkb n p).testBit k = (decide (k < n) && p k) := by
  rw [Bool.eq_iff_iff, mkb, orN_tb, Bool.and_eq_true, decide_eq_true_eq]
  constructor
  · rintro ⟨j, h, q⟩
    by_cases hp : p j = true
    · rw [if_pos hp, Nat.testBit_two_pow] at q
      have : j = k := by simpa using q
      subst this
      exact ⟨h, hp⟩
    · rw [if_neg hp, Nat.zero_testBit] at q
      cases q
  · rintro ⟨h, q⟩
    exact ⟨k, h, by rw [if_pos q, Nat.testBit_two_pow]; simp⟩
theorem mkb_lt (n : Nat) (p : Nat → Bool) : mkb n p < 2 ^ n := by
  unfold mkb
  refine orN_lt (fun k hk => ?_)
  split
  · exact Nat.pow_lt_pow_right (by decide) hk
  · exact Nat.two_pow_pos n
theorem mkb_congr {n : Nat} {p q : Nat → Bool} (h : ∀ k, k < n → p k = q k) : mkb n p = mkb n q := by
  unfold mkb
  exact orN_congr (fun k hk => by rw [h k hk])
theorem tb_ext {a b : Nat} (h : ∀ k, a.testBit k = b.testBit k) : a = b := Nat.eq_of_testBit_eq h
theorem tb_lt {a n k : Nat} (h : a < 2 ^ n) (hk : n ≤ k) : a.testBit k = false := Nat.testBit_lt_two_pow (Nat.lt_of_lt_of_le h (Nat.pow_le_pow_right (by decide) hk))
/-- an array of which the first i places are done -/
def don (i : Nat) (g f : Nat → Nat) : Nat → Nat := fun k => if k < i then g k else f k
theorem don_0 (g f : Nat → Nat) : f = don 0 g f := by funext k; simp [don]
theorem don_s {i : Nat} {g f : Nat → Nat} {v : Nat} (h : v = g i) : upN (don i g f) i v = don (i + 1) g f := by
  funext k
  unfold don
  by_cases hk : k = i
  · subst hk; rw [upN_s, if_pos (by omega), h]
  · rw [upN_n hk]
    by_cases h1 : k < i
    · rw [if_pos h1, if_pos (by omega)]
    · rw [if_neg h1, if_neg (by omega)]
theorem don_k {i : Nat} {g f : Nat → Nat} (h : f i = g i) : don i g f = don (i + 1) g f := by
  funext k
  unfold don
  by_cases h1 : k < i
  · rw [if_pos h1, if_pos (by omega)]
  · rw [if_neg h1]
    by_cases h2 : k < i + 1
    · have : k = i := by omega
      subst this
      rw [if_pos h2, h]
    · rw [if_neg h2]
theorem don_at {i k : Nat} {g f : Nat → Nat} (h : i ≤ k) : don i g f k = f k := by unfold don; rw [if_neg (by omega)]
/-- the least k below n of which p holds, as an int; else d -/
def fstI (n : Nat) (p : Nat → Bool) (d : Int32) : Int32 := match (List.range n).find? p with
  | some k => nI k
  | none => d
theorem fstI_some {n : Nat} {p : Nat → Bool} {d : Int32} {k : Nat} (hk : k < n) (hp : p k = true) (hl : ∀ j, j < k → p j = false) : fstI n p d = nI k := by
  have : (List.range n).find? p = some k := by
    rw [List.find?_range_eq_some]
    exact ⟨hp, by simpa using hk, fun j hj => by rw [hl j hj]; rfl⟩
  unfold fstI
  rw [this]
theorem fstI_none {n : Nat} {p : Nat → Bool} {d : Int32} (hl : ∀ j, j < n → p j = false) : fstI n p d = d := by
  have : (List.range n).find? p = none := by
    rw [List.find?_range_eq_none]
    intro j hj
    rw [hl j hj]; rfl
  unfold fstI
  rw [this]
/-- values small enough for every walk (time apart) -/
def Wf (x : Sg) : Prop := Sn x ≤ 10 ∧ Se x < 1024 ∧ Sv x ≤ 3 ∧ So x < 1024 ∧ ∀ k, k < 10 → SK x k < 1024 ∧ SP x k < 10 ∧ SD x k < 1024 ∧ SG x k < 1024 ∧ SS x k < 1024
def dateF (x : Sg) : Nat := if 0 < Se x then St x % Se x + 1 else 0
def allF (x : Sg) : Nat := 2 ^ Sn x - 1
def wouldF (x : Sg) (k d : Nat) : Bool :=
  if SK x k = 1 then decide (d = SD x k)
  else if SK x k = 2 then decide (d = SD x k) || decide (d = SD x k + 1)
  else if SK x k = 3 then decide (d = SD x k) || decide (SG x k = 0)
  else if SK x k = 4 then decide (d = SD x k) && decide (SG x k ≤ 4)
  else if SK x k = 5 then decide (d = SD x k) && decide (SG x k ≤ 4) || (So x * 2 ^ 1 ||| So x / 2 ^ 1).testBit k
  else false
def openP (x : Sg) (d part k : Nat) : Bool := (andn part (So x)).testBit k && wouldF x k d
def openF (x : Sg) (d part : Nat) : Nat := mkb (Sn x) (openP x d part)
def nearL (some j : Nat) : Nat := orN j (fun i => some * 2 ^ (i + 1) ||| some / 2 ^ (i + 1))
def nearF (x : Sg) (some : Nat) : Nat := nearL some (Sv x) &&& allF x
def picT (x : Sg) (some k : Nat) : Nat := if some.testBit k then 2 ^ SP x k else 0
def picsF (x : Sg) (some : Nat) : Nat := orN (Sn x) (picT x some)
def lookS (x : Sg) (k : Nat) : Nat := SS x k ||| picsF x (So x &&& nearF x (2 ^ k))
abbrev wO (x : Sg) (o : Nat) : Sg := (Sn x, Se x, Sv x, St x, o, SK x, SP x, SD x, SG x, SS x)
abbrev wT (x : Sg) (t : Nat) : Sg := (Sn x, Se x, Sv x, t, So x, SK x, SP x, SD x, SG x, SS x)
abbrev wG (x : Sg) (g : Nat → Nat) : Sg := (Sn x, Se x, Sv x, St x, So x, SK x, SP x, SD x, g, SS x)
abbrev wD (x : Sg) (g : Nat → Nat) : Sg := (Sn x, Se x, Sv x, St x, So x, SK x, SP x, g, SG x, SS x)
abbrev wS (x : Sg) (g : Nat → Nat) : Sg := (Sn x, Se x, Sv x, St x, So x, SK x, SP x, SD x, SG x, g)
def lookF (x : Sg) : Sg := if So x = 0 ∨ Sv x = 0 then x else wS x (don (Sn x) (lookS x) (SS x))
def wearG (x : Sg) (some k : Nat) : Nat := if some.testBit k then SG x k - 1 else SG x k
def wearF (x : Sg) (some : Nat) : Sg := wG x (don (Sn x) (wearG x some) (SG x))
def closeF (x : Sg) (d op : Nat) : Sg := if d = Se x then wT (wO (wearF x (So x)) 0) (St x + 1) else wT (wearF x op) (St x + 1)
def turnF (x : Sg) : Sg := closeF (lookF (wO x (So x ||| openF x (dateF x) (allF x)))) (dateF x) (openF x (dateF x) (allF x))
def turnU (x : Sg) (part : Nat) : Sg := closeF (wO x (So x ||| openF x (dateF x) part)) (dateF x) (openF x (dateF x) part)
def swapD (x : Sg) (a b : Nat) : Sg := wD x (upN (upN (SD x) a (SD x b)) b (SD x a))
def bareF (x : Sg) : Int32 := fstI (Sn x) (fun k => decide (SG x k = 0)) (-1000000)
def rulF (x : Sg) : Nat := mkb (Sn x) (fun k => decide (SK x k = 5))
def touchL (x : Sg) (w : Nat) : Nat → Nat
  | 0 => 2 ^ w
  | i + 1 => touchL x w i ||| (((touchL x w i &&& rulF x) * 2 ^ 1 ||| (touchL x w i &&& rulF x) / 2 ^ 1) &&& allF x)
def touchF (x : Sg) (w : Nat) : Nat := touchL x w (Sn x)
def gluP (x : Sg) (k : Nat) : Bool := (decide (SK x k = 3) || decide (SK x k = 4) || decide (SK x k = 5)) && decide (SG x k < 9)
def gluF (x : Sg) : Nat := mkb (Sn x) (gluP x)
def fastG (x : Sg) (some k : Nat) : Nat := if some.testBit k then 9 else SG x k
def fastF (x : Sg) (some : Nat) : Sg := wG x (don (Sn x) (fastG x some) (SG x))
def beginF (x : Sg) (e v : Nat) : Sg := (0, e, v, 0, 0, SK x, SP x, SD x, SG x, SS x)
def buildF (x : Sg) (k d pi g : Nat) : Sg := if 10 ≤ Sn x then x else (Sn x + 1, Se x, Sv x, St x, So x, upN (SK x) (Sn x) k, upN (SP x) (Sn x) pi, upN (SD x) (Sn x) d, upN (SG x) (Sn x) g, upN (SS x) (Sn x) 0)
theorem all_lt {x : Sg} (h : Sn x ≤ 10) : allF x < 1024 := by
  unfold allF
  have : 2 ^ Sn x ≤ 2 ^ 10 := Nat.pow_le_pow_right (by decide) h
  have := Nat.two_pow_pos (Sn x)
  omega
theorem all_tb (x : Sg) (k : Nat) : (allF x).testBit k = decide (k < Sn x) := Nat.testBit_two_pow_sub_one _ _
theorem openF_lt {x : Sg} (d part : Nat) (h : Sn x ≤ 10) : openF x d part < 1024 := Nat.lt_of_lt_of_le (mkb_lt _ _) (Nat.pow_le_pow_right (by decide) h : 2 ^ Sn x ≤ 2 ^ 10)
theorem or10 {a b : Nat} (ha : a < 1024) (hb : b < 1024) : a ||| b < 1024 := Nat.or_lt_two_pow (n := 10) ha hb
theorem and10 {a b : Nat} (ha : a < 1024) : a &&& b < 1024 := Nat.lt_of_le_of_lt Nat.and_le_left ha
theorem pow10 {k : Nat} (h : k < 10) : 2 ^ k < 1024 := (Nat.pow_lt_pow_right (by decide) h : 2 ^ k < 2 ^ 10)
theorem nearF_lt {x : Sg} (some : Nat) (h : Sn x ≤ 10) : nearF x some < 1024 := by
  unfold nearF
  exact Nat.lt_of_le_of_lt Nat.and_le_right (all_lt h)
theorem picsF_lt {x : Sg} (some : Nat) (h : Wf x) : picsF x some < 1024 := by
  refine orN_lt (m := 10) (fun k hk => ?_)
  unfold picT
  split
  · exact pow10 (h.2.2.2.2 k (by have := h.1; omega)).2.1
  · decide
theorem Wf.o {x : Sg} (h : Wf x) {o : Nat} (ho : o < 1024) : Wf (wO x o) := ⟨h.1, h.2.1, h.2.2.1, ho, h.2.2.2.2⟩
theorem Wf.t {x : Sg} (h : Wf x) (t : Nat) : Wf (wT x t) := h
theorem Wf.g {x : Sg} (h : Wf x) {g : Nat → Nat} (hg : ∀ k, k < 10 → g k < 1024) : Wf (wG x g) := ⟨h.1, h.2.1, h.2.2.1, h.2.2.2.1, fun k hk => by
  obtain ⟨a, b, c, d, e⟩ := h.2.2.2.2 k hk
  exact ⟨a, b, c, hg k hk, e⟩⟩
theorem Wf.s {x : Sg} (h : Wf x) {g : Nat → Nat} (hg : ∀ k, k < 10 → g k < 1024) : Wf (wS x g) := ⟨h.1, h.2.1, h.2.2.1, h.2.2.2.1, fun k hk => by
  obtain ⟨a, b, c, d, e⟩ := h.2.2.2.2 k hk
  exact ⟨a, b, c, d, hg k hk⟩⟩
theorem Wf.d {x : Sg} (h : Wf x) {g : Nat → Nat} (hg : ∀ k, k < 10 → g k < 1024) : Wf (wD x g) := ⟨h.1, h.2.1, h.2.2.1, h.2.2.2.1, fun k hk => by
  obtain ⟨a, b, c, d, e⟩ := h.2.2.2.2 k hk
  exact ⟨a, b, hg k hk, d, e⟩⟩
theorem don_lt {n m : Nat} {g f : Nat → Nat} (hg : ∀ k, k < 10 → g k < m) (hf : ∀ k, k < 10 → f k < m) : ∀ k, k < 10 → don n g f k < m := fun k hk => by
  unfold don
  split
  · exact hg k hk
  · exact hf k hk
theorem Wf.look {x : Sg} (h : Wf x) : Wf (lookF x) := by
  unfold lookF
  split
  · exact h
  · exact h.s (don_lt (fun k hk => or10 (h.2.2.2.2 k hk).2.2.2.2 (picsF_lt _ h)) (fun k hk => (h.2.2.2.2 k hk).2.2.2.2))
theorem Wf.wear {x : Sg} (h : Wf x) (some : Nat) : Wf (wearF x some) := h.g (don_lt (fun k hk => by
  have := (h.2.2.2.2 k hk).2.2.2.1
  unfold wearG
  split <;> omega) (fun k hk => (h.2.2.2.2 k hk).2.2.2.1))
theorem Wf.close {x : Sg} (h : Wf x) (d op : Nat) : Wf (closeF x d op) := by
  unfold closeF
  split
  · exact ((h.wear _).o (by decide)).t _
  · exact (h.wear _).t _
theorem Wf.turn {x : Sg} (h : Wf x) : Wf (turnF x) := ((h.o (or10 h.2.2.2.1 (openF_lt _ _ h.1))).look).close _ _
theorem Wf.turnU {x : Sg} (h : Wf x) (part : Nat) : Wf (turnU x part) := (h.o (or10 h.2.2.2.1 (openF_lt _ _ h.1))).close _ _
theorem close_n (x : Sg) (d op : Nat) : Sn (closeF x d op) = Sn x ∧ Se (closeF x d op) = Se x ∧ Sv (closeF x d op) = Sv x ∧ St (closeF x d op) = St x + 1 := by
  unfold closeF
  split <;> exact ⟨rfl, rfl, rfl, rfl⟩
theorem look_n (x : Sg) : Sn (lookF x) = Sn x ∧ Se (lookF x) = Se x ∧ Sv (lookF x) = Sv x ∧ St (lookF x) = St x ∧ So (lookF x) = So x := by
  unfold lookF
  split <;> exact ⟨rfl, rfl, rfl, rfl, rfl⟩
theorem turn_n (x : Sg) : Sn (turnF x) = Sn x ∧ Se (turnF x) = Se x ∧ Sv (turnF x) = Sv x ∧ St (turnF x) = St x + 1 := by
  obtain ⟨a, b, c, d⟩ := close_n (lookF (wO x (So x ||| openF x (dateF x) (allF x)))) (dateF x) (openF x (dateF x) (allF x))
  obtain ⟨a2, b2, c2, d2, -⟩ := look_n (wO x (So x ||| openF x (dateF x) (allF x)))
  exact ⟨a.trans a2, b.trans b2, c.trans c2, d.trans (by rw [d2])⟩
theorem turnU_n (x : Sg) (part : Nat) : Sn (turnU x part) = Sn x ∧ Se (turnU x part) = Se x ∧ Sv (turnU x part) = Sv x ∧ St (turnU x part) = St x + 1 := close_n _ _ _
theorem date_lt {x : Sg} (h : Wf x) : dateF x < 1025 := by
  unfold dateF
  split
  · have := Nat.mod_lt (St x) (by assumption)
    have := h.2.1
    omega
  · omega
theorem touch_lt {x : Sg} (h : Sn x ≤ 10) {w : Nat} (hw : w < 10) (i : Nat) : touchL x w i < 1024 := by
  induction i with
  | zero => exact pow10 hw
  | succ i ih => exact or10 ih (Nat.lt_of_le_of_lt Nat.and_le_right (all_lt h))
