/-! ===== the tape, its reader, in naturals ===== -/
def tapAt (len : Nat) (f : Nat → Nat) (i : Nat) : Int32 := if i < len then nI (f i) else (-1000000)
def addT (cap len : Nat) (f : Nat → Nat) (v : Nat) : Nat × (Nat → Nat) := if len < cap then (len + 1, upN f len v) else (len, f)
def kindM (c : Int32) : Nat := if c = 102 then 1 else if c = 100 then 2 else if c = 99 then 3 else if c = 116 then 4 else if c = 114 then 5 else 0
def kindN (c : Int32) : Int32 := if kindM c = 0 then (-1000000) else nI (kindM c)
theorem kindM_le (c : Int32) : kindM c ≤ 5 := by
  unfold kindM
  repeat' split
  all_goals omega
theorem kindN_ne {c : Int32} (h : ¬ kindN c = -1000000) : kindN c = nI (kindM c) ∧ 1 ≤ kindM c := by
  unfold kindN at h ⊢
  by_cases q : kindM c = 0
  · rw [if_pos q] at h; exact absurd rfl h
  · rw [if_neg q]; exact ⟨rfl, by omega⟩
theorem kindN_eq {c : Int32} : kindN c = -1000000 ↔ kindM c = 0 := by
  constructor
  · intro h
    by_cases q : kindM c = 0
    · exact q
    · unfold kindN at h
      rw [if_neg q] at h
      have h5 := kindM_le c
      have : ∀ k, k ≤ 5 → ¬ nI k = -1000000 := by decide +kernel
      exact absurd h (this _ h5)
  · intro h
    unfold kindN
    rw [if_pos h]
def rbF (len : Nat) (f : Nat → Nat) (due : Nat) (r : Nat × Nat) : Nat × Nat := if r.2 = 0 then (if tapAt len f r.1 = nI due then (r.1 + 1, r.2) else (r.1, 1)) else r
def isDig (len : Nat) (f : Nat → Nat) (i : Nat) : Bool := decide (i < len) && decide (48 ≤ f i) && decide (f i ≤ 57)
def figN (len : Nat) (f : Nat → Nat) (i : Nat) : Nat := if isDig len f i = true then (if isDig len f (i + 1) = true then (if isDig len f (i + 2) = true then 3 else 2) else 1) else 0
def valN (f : Nat → Nat) (i : Nat) : Nat → Nat
  | 0 => 0
  | n + 1 => 10 * valN f i n + f (i + n) - 48
def rnF (len : Nat) (f : Nat → Nat) (lo hi : Nat) (r : Nat × Nat) : Nat × (Nat × Nat) :=
  if r.2 = 0 then
    (if figN len f r.1 = 0 ∨ 2 < figN len f r.1 then (valN f r.1 (figN len f r.1), (r.1, 1))
     else if lo ≤ valN f r.1 (figN len f r.1) ∧ valN f r.1 (figN len f r.1) ≤ hi then (valN f r.1 (figN len f r.1), (r.1 + figN len f r.1, r.2))
     else (valN f r.1 (figN len f r.1), (r.1, 2)))
  else (0, r)
def rsF (len : Nat) (f : Nat → Nat) (room : Bool) (r : Nat × Nat) : Nat × Nat := if kindM (tapAt len f r.1) = 0 then (r.1, 1) else if room = false then (r.1, 3) else (r.1 + 1, r.2)
theorem figN_of {len : Nat} {f : Nat → Nat} {i g : Nat} (h3 : g ≤ 3) (h : ∀ j, j < g → isDig len f (i + j) = true) (he : g = 3 ∨ isDig len f (i + g) = false) : figN len f i = g := by
  unfold figN
  rcases (show g = 0 ∨ g = 1 ∨ g = 2 ∨ g = 3 by omega) with rfl | rfl | rfl | rfl
  · have e := he.resolve_left (by decide)
    rw [Nat.add_zero] at e
    rw [e]; rfl
  · have e := he.resolve_left (by decide)
    have a := h 0 (by decide)
    rw [Nat.add_zero] at a
    rw [a, e]; rfl
  · have e := he.resolve_left (by decide)
    have a := h 0 (by decide)
    rw [Nat.add_zero] at a
    rw [a, h 1 (by decide), e]; rfl
  · have a := h 0 (by decide)
    rw [Nat.add_zero] at a
    rw [a, h 1 (by decide), h 2 (by decide)]; rfl
theorem figN_dig {len : Nat} {f : Nat → Nat} {i j : Nat} (h : j < figN len f i) : isDig len f (i + j) = true := by
  unfold figN at h
  by_cases a : isDig len f i = true
  · rw [if_pos a] at h
    by_cases b : isDig len f (i + 1) = true
    · rw [if_pos b] at h
      by_cases c : isDig len f (i + 2) = true
      · rw [if_pos c] at h
        rcases (show j = 0 ∨ j = 1 ∨ j = 2 by omega) with rfl | rfl | rfl
        · exact a
        · exact b
        · exact c
      · rw [if_neg c] at h
        rcases (show j = 0 ∨ j = 1 by omega) with rfl | rfl
        · exact a
        · exact b
    · rw [if_neg b] at h
      rw [show j = 0 by omega]
      exact a
  · rw [if_neg a] at h
    omega
theorem figN_le {len : Nat} {f : Nat → Nat} {i : Nat} : figN len f i ≤ 3 := by
  unfold figN
  repeat' split
  all_goals omega
theorem isDig_lt {len : Nat} {f : Nat → Nat} {i : Nat} (h : isDig len f i = true) : i < len ∧ 48 ≤ f i ∧ f i ≤ 57 := by
  simpa [isDig, and_assoc] using h
theorem dig_val {len : Nat} {f : Nat → Nat} {i : Nat} (h : isDig len f i = true) : tapAt len f i = nI (f i) := by
  unfold tapAt
  rw [if_pos (isDig_lt h).1]
theorem dig_lo {len : Nat} {f : Nat → Nat} {i : Nat} (hf : i < len → f i < 256) (h : tapAt len f i < nI 48) : isDig len f i = false := by
  by_cases q : isDig len f i = true
  · rw [dig_val q, nI_ltI (by have := hf (isDig_lt q).1; omega) (by decide)] at h
    have := isDig_lt q
    omega
  · exact Bool.eq_false_iff.mpr q
theorem dig_hi {len : Nat} {f : Nat → Nat} {i : Nat} (hf : i < len → f i < 256) (h : nI 57 < tapAt len f i) : isDig len f i = false := by
  by_cases q : isDig len f i = true
  · rw [dig_val q, nI_ltI (by decide) (by have := hf (isDig_lt q).1; omega)] at h
    have := isDig_lt q
    omega
  · exact Bool.eq_false_iff.mpr q
theorem dig_in {len : Nat} {f : Nat → Nat} {i : Nat} (hf : i < len → f i < 256) (h1 : ¬ tapAt len f i < nI 48) (h2 : ¬ nI 57 < tapAt len f i) : isDig len f i = true := by
  unfold tapAt at h1 h2
  by_cases q : i < len
  · have := hf q
    rw [if_pos q, nI_ltI (by omega) (by decide)] at h1
    rw [if_pos q, nI_ltI (by decide) (by omega)] at h2
    unfold isDig
    rw [decide_eq_true q, decide_eq_true (show 48 ≤ f i by omega), decide_eq_true (show f i ≤ 57 by omega)]
    rfl
  · rw [if_neg q] at h1
    exact absurd (by decide +kernel) h1
theorem valN_lt {len : Nat} {f : Nat → Nat} {i : Nat} : ∀ {g : Nat}, (∀ j, j < g → isDig len f (i + j) = true) → valN f i g < 10 ^ g := by
  intro g
  induction g with
  | zero => intro _; exact Nat.one_pos
  | succ g ih =>
    intro h
    have a := ih (fun j hj => h j (by omega))
    have b := isDig_lt (h g (by omega))
    rw [valN, Nat.pow_succ]
    omega
/-- where the reader stands, and its fault -/
def Rk (len : Nat) (r : Nat × Nat) : Prop := r.1 ≤ len ∧ r.2 ≤ 3
theorem tapAt_lt {len : Nat} {f : Nat → Nat} {i k : Nat} (hk : k < 1000) (h : tapAt len f i = nI k) : i < len := by
  by_cases q : i < len
  · exact q
  · unfold tapAt at h
    rw [if_neg q] at h
    have e := congrArg Int32.toInt h
    rw [nI_toInt (by omega)] at e
    have : (-1000000 : Int32).toInt = -1000000 := by decide +kernel
    omega
theorem Rk.b {len : Nat} {f : Nat → Nat} {due : Nat} {r : Nat × Nat} (h : Rk len r) (hd : due < 1000) : Rk len (rbF len f due r) := by
  unfold rbF
  split
  · split
    · exact ⟨tapAt_lt hd (by assumption), h.2⟩
    · exact ⟨h.1, Nat.le_of_ble_eq_true rfl⟩
  · exact h
theorem Rk.n {len : Nat} {f : Nat → Nat} {lo hi : Nat} {r : Nat × Nat} (h : Rk len r) : Rk len (rnF len f lo hi r).2 := by
  unfold rnF
  split
  · split
    · exact ⟨h.1, Nat.le_of_ble_eq_true rfl⟩
    · rename_i q
      split
      · refine ⟨?_, h.2⟩
        have h1 : figN len f r.1 - 1 < figN len f r.1 := by omega
        have := (isDig_lt (figN_dig h1)).1
        show r.1 + figN len f r.1 ≤ len
        omega
      · exact ⟨h.1, Nat.le_of_ble_eq_true rfl⟩
  · exact h
theorem kindM_0 (c : Int32) : kindM c ≠ 0 → c = 102 ∨ c = 100 ∨ c = 99 ∨ c = 116 ∨ c = 114 := by
  intro h
  unfold kindM at h
  by_cases a : c = 102
  · exact Or.inl a
  · rw [if_neg a] at h
    by_cases b : c = 100
    · exact Or.inr (Or.inl b)
    · rw [if_neg b] at h
      by_cases d : c = 99
      · exact Or.inr (Or.inr (Or.inl d))
      · rw [if_neg d] at h
        by_cases e : c = 116
        · exact Or.inr (Or.inr (Or.inr (Or.inl e)))
        · rw [if_neg e] at h
          by_cases g : c = 114
          · exact Or.inr (Or.inr (Or.inr (Or.inr g)))
          · rw [if_neg g] at h
            exact absurd rfl h
theorem Rk.s {len : Nat} {f : Nat → Nat} {room : Bool} {r : Nat × Nat} (h : Rk len r) : Rk len (rsF len f room r) := by
  unfold rsF
  split
  · exact ⟨h.1, by show 1 ≤ 3; decide⟩
  · rename_i q
    split
    · exact ⟨h.1, by show 3 ≤ 3; decide⟩
    · refine ⟨?_, h.2⟩
      show r.1 + 1 ≤ len
      rcases kindM_0 _ q with e | e | e | e | e
      · exact tapAt_lt (k := 102) (by decide) e
      · exact tapAt_lt (k := 100) (by decide) e
      · exact tapAt_lt (k := 99) (by decide) e
      · exact tapAt_lt (k := 116) (by decide) e
      · exact tapAt_lt (k := 114) (by decide) e
/-- the law, the windows, as the reader reads them -/
def lwE (len : Nat) (f : Nat → Nat) (r : Nat × Nat) : Nat × (Nat × Nat) := rnF len f 2 24 (rbF len f 101 r)
def lwS (len : Nat) (f : Nat → Nat) (r : Nat × Nat) : Nat × (Nat × Nat) := rnF len f 0 3 (rbF len f 44 (lwE len f r).2)
def lwR (len : Nat) (f : Nat → Nat) (r : Nat × Nat) : Nat × Nat := rbF len f 59 (lwS len f r).2
def wnD (len : Nat) (f : Nat → Nat) (room : Bool) (r : Nat × Nat) : Nat × (Nat × Nat) := rnF len f 1 24 (rsF len f room r)
def wnP (len : Nat) (f : Nat → Nat) (room : Bool) (r : Nat × Nat) : Nat × (Nat × Nat) := rnF len f 0 9 (rbF len f 44 (wnD len f room r).2)
def wnG (len : Nat) (f : Nat → Nat) (room : Bool) (r : Nat × Nat) : Nat × (Nat × Nat) := rnF len f 0 9 (rbF len f 44 (wnP len f room r).2)
def wnR (len : Nat) (f : Nat → Nat) (room : Bool) (r : Nat × Nat) : Nat × Nat := rbF len f 59 (wnG len f room r).2
def wnX (len : Nat) (f : Nat → Nat) (r : Nat × Nat) (x : Sg) : Sg := if (wnR len f (decide (Sn x < 10)) r).2 = 0 then buildF x (kindM (tapAt len f r.1)) (wnD len f (decide (Sn x < 10)) r).1 (wnP len f (decide (Sn x < 10)) r).1 (wnG len f (decide (Sn x < 10)) r).1 else x
theorem Rk.l {len : Nat} {f : Nat → Nat} {r : Nat × Nat} (h : Rk len r) : Rk len (lwR len f r) := Rk.b (Rk.n (Rk.b (Rk.n (Rk.b h (by decide))) (by decide))) (by decide)
theorem Rk.w {len : Nat} {f : Nat → Nat} {room : Bool} {r : Nat × Nat} (h : Rk len r) : Rk len (wnR len f room r) := Rk.b (Rk.n (Rk.b (Rk.n (Rk.b (Rk.n (Rk.s h)) (by decide))) (by decide))) (by decide)
theorem rb_0 {len : Nat} {f : Nat → Nat} {due : Nat} {r : Nat × Nat} (h : (rbF len f due r).2 = 0) : r.2 = 0 ∧ tapAt len f r.1 = nI due ∧ (rbF len f due r).1 = r.1 + 1 := by
  unfold rbF at h ⊢
  by_cases q : r.2 = 0
  · rw [if_pos q] at h ⊢
    by_cases t : tapAt len f r.1 = nI due
    · rw [if_pos t] at h ⊢
      exact ⟨q, t, rfl⟩
    · rw [if_neg t] at h
      exact absurd h (by simp)
  · rw [if_neg q] at h
    exact absurd h q
theorem rn_0 {len : Nat} {f : Nat → Nat} {lo hi : Nat} {r : Nat × Nat} (h : (rnF len f lo hi r).2.2 = 0) : r.2 = 0 ∧ lo ≤ (rnF len f lo hi r).1 ∧ (rnF len f lo hi r).1 ≤ hi := by
  unfold rnF at h ⊢
  by_cases q : r.2 = 0
  · rw [if_pos q] at h ⊢
    by_cases t : figN len f r.1 = 0 ∨ 2 < figN len f r.1
    · rw [if_pos t] at h
      exact absurd h (by simp)
    · rw [if_neg t] at h ⊢
      by_cases u : lo ≤ valN f r.1 (figN len f r.1) ∧ valN f r.1 (figN len f r.1) ≤ hi
      · rw [if_pos u]
        exact ⟨q, u.1, u.2⟩
      · rw [if_neg u] at h
        exact absurd h (by simp)
  · rw [if_neg q] at h
    exact absurd h q
theorem rs_0 {len : Nat} {f : Nat → Nat} {room : Bool} {r : Nat × Nat} (h : (rsF len f room r).2 = 0) : r.2 = 0 ∧ room = true ∧ ¬ kindM (tapAt len f r.1) = 0 := by
  unfold rsF at h
  by_cases q : kindM (tapAt len f r.1) = 0
  · rw [if_pos q] at h
    exact absurd h (by simp)
  · rw [if_neg q] at h
    cases room with
    | false => rw [if_pos rfl] at h; exact absurd h (by simp)
    | true => exact ⟨h, rfl, q⟩
theorem wn_0 {len : Nat} {f : Nat → Nat} {room : Bool} {r : Nat × Nat} (h : (wnR len f room r).2 = 0) : r.2 = 0 ∧ room = true ∧ ¬ kindM (tapAt len f r.1) = 0 ∧ (1 ≤ (wnD len f room r).1 ∧ (wnD len f room r).1 ≤ 24) ∧ (wnP len f room r).1 ≤ 9 ∧ (wnG len f room r).1 ≤ 9 := by
  have a := rb_0 h
  have b := rn_0 a.1
  have c := rb_0 b.1
  have d := rn_0 c.1
  have e := rb_0 d.1
  have g := rn_0 e.1
  have i := rs_0 g.1
  exact ⟨i.1, i.2.1, i.2.2, g.2, d.2.2, b.2.2⟩
/-- the reader and the street behind i windows -/
def rdS (len : Nat) (f : Nat → Nat) (x : Sg) : Nat → (Nat × Nat) × Sg
  | 0 => (lwR len f (0, 0), beginF x (lwE len f (0, 0)).1 (lwS len f (0, 0)).1)
  | i + 1 => (wnR len f (decide (Sn (rdS len f x i).2 < 10)) (rdS len f x i).1, wnX len f (rdS len f x i).1 (rdS len f x i).2)
def rdP (len : Nat) (f : Nat → Nat) (x : Sg) (i : Nat) : Bool := decide (10 < i) || !decide ((rdS len f x i).1.2 = 0) || (decide (2 ≤ i) && decide ((rdS len f x i).1.1 = len))
def rdK (len : Nat) (f : Nat → Nat) (x : Sg) : Nat := ((List.range 12).find? (rdP len f x)).getD 11
def rdF (len : Nat) (f : Nat → Nat) (x : Sg) : (Nat × Nat) × Sg := rdS len f x (rdK len f x)
theorem rdK_of {len : Nat} {f : Nat → Nat} {x : Sg} {i : Nat} (hi : i ≤ 11) (hl : ∀ j, j < i → rdP len f x j = false) (hp : rdP len f x i = true) : rdK len f x = i := by
  have : (List.range 12).find? (rdP len f x) = some i := by
    rw [List.find?_range_eq_some]
    exact ⟨hp, by simp; omega, fun j hj => by rw [hl j hj]; rfl⟩
  unfold rdK
  rw [this]; rfl
theorem build_n {x : Sg} (h : Sn x ≤ 10) (k d pi g : Nat) : Sn (buildF x k d pi g) ≤ 10 := by
  unfold buildF
  split
  · exact h
  · show Sn x + 1 ≤ 10
    omega
theorem wnX_n {len : Nat} {f : Nat → Nat} {r : Nat × Nat} {x : Sg} (h : Sn x ≤ 10) : Sn (wnX len f r x) ≤ 10 := by
  unfold wnX
  split
  · exact build_n h _ _ _ _
  · exact h
theorem rdS_0 (len : Nat) (f : Nat → Nat) (x : Sg) : rdS len f x 0 = (lwR len f (0, 0), beginF x (lwE len f (0, 0)).1 (lwS len f (0, 0)).1) := by rw [rdS]
theorem rdS_s (len : Nat) (f : Nat → Nat) (x : Sg) (i : Nat) : rdS len f x (i + 1) = (wnR len f (decide (Sn (rdS len f x i).2 < 10)) (rdS len f x i).1, wnX len f (rdS len f x i).1 (rdS len f x i).2) := by rw [rdS]
theorem rdS_ok (len : Nat) (f : Nat → Nat) (x : Sg) (i : Nat) : Rk len (rdS len f x i).1 ∧ Sn (rdS len f x i).2 ≤ 10 := by
  induction i with
  | zero =>
    rw [rdS_0]
    exact ⟨Rk.l ⟨Nat.zero_le _, Nat.zero_le _⟩, Nat.zero_le _⟩
  | succ i ih =>
    rw [rdS_s]
    generalize rdS len f x i = z at ih ⊢
    have h1 : Rk len (wnR len f (decide (Sn z.2 < 10)) z.1) := Rk.w (f := f) (room := decide (Sn z.2 < 10)) ih.1
    have h2 : Sn (wnX len f z.1 z.2) ≤ 10 := wnX_n (f := f) (r := z.1) ih.2
    dsimp only
    exact And.intro h1 h2
