/-! ===== AdventStreets: foretold ===== -/
def offR (x : Sg) (ph : Int32) : Int32 := if Sn x = 0 then (-1000002) else if inI ph (nI 0) (nI 1) = true then (if ph = 0 then bareF (turnN x (min (fstN 61 (bareP x)) 60)) else idxI 61 (fstN 61 (bareP x))) else (-1000001)
theorem fgL_lt {x : Sg} {w n part u : Nat} : ∀ {i k : Nat}, fgL x w n part u i = some k → k < i := by
  intro i
  induction i with
  | zero => intro k h; cases h
  | succ i ih =>
    intro k h
    rw [fgL] at h
    split at h
    · cases h; omega
    · have := ih h; omega
theorem fewI_some {x : Sg} {w n : Nat} (hw : w < 10) (hn : Sn x ≤ 10) (h : ¬ fewI x w n = -1000000) : ∃ k, fewI x w n = nI k ∧ k < 1024 := by
  unfold fewI at h ⊢
  split
  · rename_i q
    rw [if_pos q] at h
    exact absurd rfl h
  · rename_i q
    rw [if_neg q] at h
    cases hb : fgL x w n (touchF x w) (touchF x w &&& gluF x) ((touchF x w &&& gluF x) + 1) with
    | none => rw [hb] at h; exact absurd rfl h
    | some k =>
      have h1 := fgL_lt hb
      have h2 : (touchF x w &&& gluF x) < 1024 := and10 (touch_lt hn hw (Sn x))
      exact ⟨k, rfl, by omega⟩
def shutR (x : Sg) (pw pn ph : Int32) : Int32 := if (inW pw (Sn x) && inI pn (nI 1) (nI 24) && inI ph (nI 0) (nI 1)) = true then
    (if fewI x pw.toNatClampNeg pn.toNatClampNeg = -1000000 then (-1000000) else if ph = 0 then nI (onesN (fewI x pw.toNatClampNeg pn.toNatClampNeg).toNatClampNeg) else fewI x pw.toNatClampNeg pn.toNatClampNeg) else (-1000001)
def prOk (x : Sg) (w n : Nat) (p : Option (Nat × Nat)) : Prop := ∀ q, p = some q → ∃ a b, q = (10 * a + b, tradeN x w n a b) ∧ a < Sn x ∧ b < Sn x
theorem btU_ok {x : Sg} {w n : Nat} {p : Option (Nat × Nat)} {a b : Nat} (ha : a < Sn x) (hb : b < Sn x) (h : prOk x w n p) : prOk x w n (btU p a b (tradeN x w n a b)) ∧ btU p a b (tradeN x w n a b) ≠ none := by
  cases p with
  | none => exact ⟨fun q hq => (by cases hq; exact ⟨a, b, rfl, ha, hb⟩), fun q => by cases q⟩
  | some q0 =>
    show prOk x w n (if _ then _ else _) ∧ (if _ then _ else _) ≠ none
    split
    · exact ⟨h, fun q => by cases q⟩
    · exact ⟨fun q hq => (by cases hq; exact ⟨a, b, rfl, ha, hb⟩), fun q => by cases q⟩
theorem btI_ok {x : Sg} {w n a : Nat} {p : Option (Nat × Nat)} (h : prOk x w n p) : ∀ k, a + 1 + k ≤ Sn x → prOk x w n (btI x w n a p k) ∧ ((p ≠ none ∨ 0 < k) → btI x w n a p k ≠ none) := by
  intro k
  induction k with
  | zero => intro _; exact ⟨h, fun q => q.resolve_right (by omega)⟩
  | succ k ih =>
    intro hk
    have i := ih (by omega)
    have u := btU_ok (a := a) (b := a + 1 + k) (by omega) (by omega) i.1
    exact ⟨u.1, fun _ => u.2⟩
theorem btO_ok {x : Sg} {w n : Nat} (hn : Sn x ≤ 10) : ∀ a, a ≤ Sn x → prOk x w n (btO x w n a) ∧ (0 < a ∧ 2 ≤ Sn x → btO x w n a ≠ none) := by
  intro a
  induction a with
  | zero => intro _; exact ⟨fun q hq => (by cases hq), fun q => by omega⟩
  | succ a ih =>
    intro ha
    have i := ih (by omega)
    have t := btI_ok (a := a) i.1 (Sn x - (a + 1)) (by omega)
    refine ⟨t.1, fun q => t.2 ?_⟩
    by_cases h0 : a = 0
    · right; omega
    · left; exact i.2 ⟨by omega, q.2⟩
theorem btO_some {x : Sg} {w n : Nat} (h2 : 2 ≤ Sn x) (hn : Sn x ≤ 10) : ∃ a b, btO x w n (Sn x) = some (10 * a + b, tradeN x w n a b) ∧ a < Sn x ∧ b < Sn x := by
  have h := btO_ok (w := w) (n := n) hn (Sn x) (Nat.le_refl _)
  cases hb : btO x w n (Sn x) with
  | none => exact absurd hb (h.2 ⟨by omega, h2⟩)
  | some q =>
    obtain ⟨a, b, e, ha, hb9⟩ := h.1 q hb
    exact ⟨a, b, by rw [e], ha, hb9⟩
def tradesR (x : Sg) (pw pn ph : Int32) : Int32 := if (inW pw (Sn x) && inI pn (nI 1) (nI 24) && inI ph (nI 0) (nI 1)) = true then
    (if ph = 0 then oF (btO x pw.toNatClampNeg pn.toNatClampNeg (Sn x)) else oS (btO x pw.toNatClampNeg pn.toNatClampNeg (Sn x))) else (-1000001)
/-- what stands in the cell mostSeen behind trades -/
def tradesS (x : Sg) (pw pn ph ms : Int32) : Int32 := if (inW pw (Sn x) && inI pn (nI 1) (nI 24) && inI ph (nI 0) (nI 1)) = true then oS (btO x pw.toNatClampNeg pn.toNatClampNeg (Sn x)) else ms
theorem wwF_le (x : Sg) (w n : Nat) {ch part : Nat} (hc : ch ≤ 10) (hp : part < 1024) : wwF x w n ch part < 2 ^ 45 := by
  have h1 := wwL_le x w n hc part (andn part (So x) + 1)
  have h2 : andn part (So x) + 1 ≤ 1024 := by have := andn_le part (So x); omega
  have h3 := Nat.mul_le_mul_right 10000000000 h2
  have h4 : 1024 * 10000000000 < 2 ^ 45 := by decide
  unfold wwF
  omega
theorem ten_le {k : Nat} (h : k ≤ 10) : 10 ^ k ≤ 10000000000 := by
  have h1 : 10 ^ k ≤ 10 ^ 10 := Nat.pow_le_pow_right (by decide) h
  have h2 : 10 ^ 10 = 10000000000 := by decide
  omega
theorem ten_pos (k : Nat) : 0 < 10 ^ k := Nat.pow_pos (by decide)
def windR (x : Sg) (pw pn pc9 ph : Int32) : Int64 := if (inW pw (Sn x) && inI pn (nI 0) (nI 24) && inI pc9 (nI 0) (nI 10) && inI ph (nI 0) (nI 1)) = true then
    (if ph = 0 then lN (wwF x pw.toNatClampNeg pn.toNatClampNeg pc9.toNatClampNeg (touchF x pw.toNatClampNeg) / Nat.gcd (wwF x pw.toNatClampNeg pn.toNatClampNeg pc9.toNatClampNeg (touchF x pw.toNatClampNeg)) (10 ^ onesN (andn (touchF x pw.toNatClampNeg) (So x))))
     else lN (10 ^ onesN (andn (touchF x pw.toNatClampNeg) (So x)) / Nat.gcd (wwF x pw.toNatClampNeg pn.toNatClampNeg pc9.toNatClampNeg (touchF x pw.toNatClampNeg)) (10 ^ onesN (andn (touchF x pw.toNatClampNeg) (So x))))) else (-1000001)
theorem yrs_ok {x : Sg} (h : Wk x) (h0 : 0 < Sn x) (sd : Nat) : ∀ i, Wk (yrs x sd i).2 ∧ Sn (yrs x sd i).2 = Sn x := by
  intro i
  induction i with
  | zero => exact ⟨h, rfl⟩
  | succ i ih =>
    have d := draw_ok ih.1 ((yrs x sd i).1 * 16807 % 2147483647) (by rw [ih.2]; exact h0)
    have t := turn_n (drawF (yrs x sd i).2 ((yrs x sd i).1 * 16807 % 2147483647))
    rw [yrs]
    exact ⟨d.1.turn, by rw [t.1, d.2.2]; exact ih.2⟩
theorem seenF_lt {x : Sg} (h : Wk x) : seenF x < 1024 := orN_lt (m := 10) (fun k hk => (h.2.2.2.2 k (by have := h.1; omega)).2.2.2.2)
def drawnR (x : Sg) (pn pd ph : Int32) : Int32 := if Sn x = 0 then (-1000002) else if (inI pn (nI 0) (nI 60) && inI pd (nI 1) (nI 999999) && inI ph (nI 0) (nI 1)) = true then
    (if ph = 0 then nI (onesN (So (yrs x pd.toNatClampNeg pn.toNatClampNeg).2)) else nI (onesN (seenF (yrs x pd.toNatClampNeg pn.toNatClampNeg).2))) else (-1000001)
set_option maxRecDepth 100000 in
set_option maxHeartbeats 4000000 in
theorem c_X7_off (l : Launch) (D : va_G) (cA : Nat → ClassId) (tt : Nat → Nat) (ms : Int32) (o orw otp oft oac oim olf : Nat) (a : Nat → Nat) (lf fi : Nat) (b : Nat → Nat) (x y : Sg) (ph : Int32) (hg : Wk x) (ht : St x + 61 < 1073741824) (sz : Nat) : CiE l D cA tt yX7_off wsX7_off ({ frames := 5, cells := 0, slots := 0, locals := 108 } : Room) [.ref (o), .int (ph)] sz ([(o, .inr (7, [.ref (orw), .ref (otp), .ref (a 0), .ref (oft), .ref (oac), .ref (oim), .ref (olf), .int (nI (lf)), .int (nI (fi))])), (oft, .inr (1, [.ref (b 0), .int (ms)]))] ++ stW cA b y ++ stW cA a x) (fun zz : Sg => ([(o, .inr (7, [.ref (orw), .ref (otp), .ref (a 0), .ref (oft), .ref (oac), .ref (oim), .ref (olf), .int (nI (lf)), .int (nI (fi))])), (oft, .inr (1, [.ref (b 0), .int (ms)]))] ++ stW cA b zz ++ stW cA a x)) (offR x ph) := by
  obtain ⟨gn, ge, gv, go, ga⟩ := id hg
  refine CiE.mk (cc := cX7_off) (maxL := 3) (ty := .int) (by decide) rfl rfl (Nat.le_of_ble_eq_true rfl) ?_
  intro p e s m below meth c A Q ls hB hl hend
  obtain ⟨⟨hx, hb, hml, hown, hts⟩, hP, hK, hD, hS, hA, hE⟩ := hB
  have hown : s.vm.findClass RX7 = some m.cls := hown
  have hwsX70 : ∀ w9 ∈ wsX70, w9.before ([.ref (o), .int (ph)] : List Value).toArray s = true := fun w9 h => hts w9 (List.mem_cons_of_mem _ (List.mem_append_left _ (List.mem_append_left _ (List.mem_append_right _ h))))
  have hwsX10 : ∀ w9 ∈ wsX10, w9.before ([.ref (o), .int (ph)] : List Value).toArray s = true := fun w9 h => hts w9 (List.mem_cons_of_mem _ (List.mem_append_left _ (List.mem_append_right _ h)))
  have hwsX40 : ∀ w9 ∈ wsX40, w9.before ([.ref (o), .int (ph)] : List Value).toArray s = true := fun w9 h => hts w9 (List.mem_cons_of_mem _ (List.mem_append_right _ h))
  have hl : lv_has ls 3 [(0, .ref (o)), (1, .int (ph))] := hl
  refine lv_aload_n hx hb dX7_off_0 rfl (lv_at hl 0 rfl) ?_
  refine cVi (n := 0) (As := []) (rest := []) (C := RX7) (ci := 7) (q0 := 0) (X := ([(o, .inr (7, [.ref (orw), .ref (otp), .ref (a 0), .ref (oft), .ref (oac), .ref (oim), .ref (olf), .int (nI (lf)), .int (nI (fi))])), (oft, .inr (1, [.ref (b 0), .int (ms)]))] ++ stW cA b y ++ stW cA a x)) (pl := []) (wc := ([(o, .inr (7, [.ref (orw), .ref (otp), .ref (a 0), .ref (oft), .ref (oac), .ref (oim), .ref (olf), .int (nI (lf)), .int (nI (fi))]))] ++ stW cA a x)) (wr := ([(oft, .inr (1, [.ref (b 0), .int (ms)]))] ++ stW cA b y)) (w1 := ([(o, .inr (7, [.ref (orw), .ref (otp), .ref (a 0), .ref (oft), .ref (oac), .ref (oim), .ref (olf), .int (nI (lf)), .int (nI (fi))]))] ++ stW cA a x)) (wn := ([(o, .inr (7, [.ref (orw), .ref (otp), .ref (a 0), .ref (oft), .ref (oac), .ref (oim), .ref (olf), .int (nI (lf)), .int (nI (fi))])), (oft, .inr (1, [.ref (b 0), .int (ms)]))] ++ stW cA b y ++ stW cA a x)) (isC := [0, 8, 9, 10, 11, 12, 13]) (isR := [1, 2, 3, 4, 5, 6, 7]) (isN := [7, 0, 1, 2, 3, 4, 5, 6, 8, 9, 10, 11, 12, 13]) ⟨hx, hb, hml, hown, hts⟩ (c_X7_isStreetless l D cA tt o orw otp oft oac oim olf a lf fi x (hg) _) gX7_off_X7_isStreetless rfl (by decide +kernel) rfl rfl ⟨rfl, rfl⟩ ⟨Nat.le_of_ble_eq_true rfl, Nat.le_of_ble_eq_true rfl⟩ ⟨Nat.zero_le _, Nat.zero_le _⟩ hK hE hA hP hD hS ⟨⟨rfl, by decide⟩, ⟨rfl, by decide, by decide⟩, rfl, by decide⟩ rfl hl.1 rfl (Nat.le_of_ble_eq_true rfl) dX7_off_1 (fun H locs hP hD hS => ?_)
  have hP : va_P D vwCl ([(o, .inr (7, [.ref (orw), .ref (otp), .ref (a 0), .ref (oft), .ref (oac), .ref (oim), .ref (olf), .int (nI (lf)), .int (nI (fi))])), (oft, .inr (1, [.ref (b 0), .int (ms)]))] ++ stW cA b y ++ stW cA a x) _ := hP
  have hD : va_D A ([(o, .inr (7, [.ref (orw), .ref (otp), .ref (a 0), .ref (oft), .ref (oac), .ref (oim), .ref (olf), .int (nI (lf)), .int (nI (fi))])), (oft, .inr (1, [.ref (b 0), .int (ms)]))] ++ stW cA b y ++ stW cA a x) := hD
  refine lv_if_eq (tgt := 10) hx hb dX7_off_4 (by decide) (fun c1 => ?_) (fun c1 => ?_)
  · skip
    rw [bI_z] at c1
    refine lv_iload_n hx hb dX7_off_10 rfl (lv_at hl 1 rfl) ?_
    refine cSi (n := 1) (As := [.int (ph)]) (rest := []) (X := ([(o, .inr (7, [.ref (orw), .ref (otp), .ref (a 0), .ref (oft), .ref (oac), .ref (oim), .ref (olf), .int (nI (lf)), .int (nI (fi))])), (oft, .inr (1, [.ref (b 0), .int (ms)]))] ++ stW cA b y ++ stW cA a x)) (pl := []) (wc := ([] : va_W)) (wr := ([(o, .inr (7, [.ref (orw), .ref (otp), .ref (a 0), .ref (oft), .ref (oac), .ref (oim), .ref (olf), .int (nI (lf)), .int (nI (fi))])), (oft, .inr (1, [.ref (b 0), .int (ms)]))] ++ stW cA b y ++ stW cA a x)) (w1 := ([] : va_W)) (wn := ([(o, .inr (7, [.ref (orw), .ref (otp), .ref (a 0), .ref (oft), .ref (oac), .ref (oim), .ref (olf), .int (nI (lf)), .int (nI (fi))])), (oft, .inr (1, [.ref (b 0), .int (ms)]))] ++ stW cA b y ++ stW cA a x)) (isC := []) (isR := [0, 1, 2, 3, 4, 5, 6, 7, 8, 9, 10, 11, 12, 13]) (isN := [0, 1, 2, 3, 4, 5, 6, 7, 8, 9, 10, 11, 12, 13]) ⟨hx, hb, hml, hown, hts⟩ (c_X7_isEither l D cA tt ph  _) gX7_off_X7_isEither rfl (by decide +kernel) ⟨rfl, rfl⟩ ⟨Nat.le_of_ble_eq_true rfl, Nat.le_of_ble_eq_true rfl⟩ ⟨Nat.zero_le _, Nat.zero_le _⟩ hK hE hA hP hD hS ⟨⟨rfl, by decide⟩, ⟨rfl, by decide, by decide⟩, rfl, by decide⟩ rfl hl.1 rfl (Nat.le_of_ble_eq_true rfl) dX7_off_11 (fun H locs hP hD hS => ?_)
    have hP : va_P D vwCl ([(o, .inr (7, [.ref (orw), .ref (otp), .ref (a 0), .ref (oft), .ref (oac), .ref (oim), .ref (olf), .int (nI (lf)), .int (nI (fi))])), (oft, .inr (1, [.ref (b 0), .int (ms)]))] ++ stW cA b y ++ stW cA a x) _ := hP
    have hD : va_D A ([(o, .inr (7, [.ref (orw), .ref (otp), .ref (a 0), .ref (oft), .ref (oac), .ref (oim), .ref (olf), .int (nI (lf)), .int (nI (fi))])), (oft, .inr (1, [.ref (b 0), .int (ms)]))] ++ stW cA b y ++ stW cA a x) := hD
    refine lv_if_ne (tgt := 20) hx hb dX7_off_14 (by decide) (fun c2 => ?_) (fun c2 => ?_)
    · skip
      rw [bI_nz] at c2
      obtain ⟨h, e_h, a_h, l_h⟩ := inI_t (by decide) c2 (by decide)
      rw [e_h] at hl
      refine lv_aload_n hx hb dX7_off_20 rfl (lv_at hl 0 rfl) ?_
      refine va_get (v := .ref (oft)) (Ts := wsX70) (C := RX7) (T := TX7) (N := 9) hx hb hwsX70 (fun _ h => h) hown hK hP 0 rfl rfl 3 (by decide) (hts (.fieldLink RX7 33 "AdventStreets" "foretold" "LAdventStreets$Foretold;") (List.mem_of_getElem? (i := 3) rfl)) (fun _ h9 => h9) rfl dX7_off_21 ?_
      refine lv_aload_n hx hb dX7_off_24 rfl (lv_at hl 0 rfl) ?_
      refine va_get (v := .ref (a 0)) (Ts := wsX70) (C := RX7) (T := TX7) (N := 9) hx hb hwsX70 (fun _ h => h) hown hK hP 0 rfl rfl 2 (by decide) (hts (.fieldLink RX7 26 "AdventStreets" "now" "LAdventStreets$Street;") (List.mem_of_getElem? (i := 4) rfl)) (fun _ h9 => h9) rfl dX7_off_25 ?_
      refine cVi (n := 1) (As := [.ref (a 0)]) (rest := []) (C := RX1) (ci := 1) (q0 := 0) (X := ([(o, .inr (7, [.ref (orw), .ref (otp), .ref (a 0), .ref (oft), .ref (oac), .ref (oim), .ref (olf), .int (nI (lf)), .int (nI (fi))])), (oft, .inr (1, [.ref (b 0), .int (ms)]))] ++ stW cA b y ++ stW cA a x)) (pl := []) (wc := ([(oft, .inr (1, [.ref (b 0), .int (ms)]))] ++ stW cA b y ++ stW cA a x)) (wr := [(o, .inr (7, [.ref (orw), .ref (otp), .ref (a 0), .ref (oft), .ref (oac), .ref (oim), .ref (olf), .int (nI (lf)), .int (nI (fi))]))]) (w1 := ([(oft, .inr (1, [.ref (b 0), .int (ms)]))] ++ stW cA b (turnN x (min (fstN 61 (bareP x)) 60)) ++ stW cA a x)) (wn := ([(o, .inr (7, [.ref (orw), .ref (otp), .ref (a 0), .ref (oft), .ref (oac), .ref (oim), .ref (olf), .int (nI (lf)), .int (nI (fi))])), (oft, .inr (1, [.ref (b 0), .int (ms)]))] ++ stW cA b (turnN x (min (fstN 61 (bareP x)) 60)) ++ stW cA a x)) (isC := [1, 2, 3, 4, 5, 6, 7, 8, 9, 10, 11, 12, 13]) (isR := [0]) (isN := [0, 1, 2, 3, 4, 5, 6, 7, 8, 9, 10, 11, 12, 13]) ⟨hx, hb, hml, hown, hts⟩ (c_X1_turnsTillBare l D cA tt ms oft a b x y (hg) (ht) _) gX7_off_X1_turnsTillBare rfl (by decide +kernel) rfl rfl ⟨rfl, rfl⟩ ⟨Nat.le_of_ble_eq_true rfl, Nat.le_of_ble_eq_true rfl⟩ ⟨Nat.zero_le _, Nat.zero_le _⟩ hK hE hA hP hD hS ⟨⟨rfl, by decide⟩, ⟨rfl, by decide, by decide⟩, rfl, by decide⟩ rfl hl.1 rfl (Nat.le_of_ble_eq_true rfl) dX7_off_28 (fun H locs hP hD hS => ?_)
      have hP : va_P D vwCl ([(o, .inr (7, [.ref (orw), .ref (otp), .ref (a 0), .ref (oft), .ref (oac), .ref (oim), .ref (olf), .int (nI (lf)), .int (nI (fi))])), (oft, .inr (1, [.ref (b 0), .int (ms)]))] ++ stW cA b (turnN x (min (fstN 61 (bareP x)) 60)) ++ stW cA a x) _ := hP
      have hD : va_D A ([(o, .inr (7, [.ref (orw), .ref (otp), .ref (a 0), .ref (oft), .ref (oac), .ref (oim), .ref (olf), .int (nI (lf)), .int (nI (fi))])), (oft, .inr (1, [.ref (b 0), .int (ms)]))] ++ stW cA b (turnN x (min (fstN 61 (bareP x)) 60)) ++ stW cA a x) := hD
      refine lv_istore_n (lv' := [(2, .int (idxI 61 (fstN 61 (bareP x)))), (0, .ref (o)), (1, .int (nI (h)))]) hx hb dX7_off_31 rfl hl (by decide) rfl (fun ls hl => ?_)
      refine lv_iload_n hx hb dX7_off_32 rfl (lv_at hl 2 rfl) ?_
      refine lv_if_ne (tgt := 49) hx hb dX7_off_33 (by decide) (fun c3 => ?_) (fun c3 => ?_)
      · skip
        rw [n_z (by omega)] at c3
        refine lv_iload_n hx hb dX7_off_49 rfl (lv_at hl 0 rfl) ?_
        exact hend _ _ _ _ _ (turnN x (min (fstN 61 (bareP x)) 60)) hP hD hS (by unfold offR; rw [if_neg (of_decide_eq_false c1), if_pos c2, e_h, if_neg (fun q => c3 ((n_z (a := h) (by omega)).mp q))]) dX7_off_50
      · skip
        rw [n_z (by omega)] at c3
        refine lv_aload_n hx hb dX7_off_36 rfl (lv_at hl 1 rfl) ?_
        refine va_get (v := .ref (oft)) (Ts := wsX70) (C := RX7) (T := TX7) (N := 9) hx hb hwsX70 (fun _ h => h) hown hK hP 0 rfl rfl 3 (by decide) (hts (.fieldLink RX7 33 "AdventStreets" "foretold" "LAdventStreets$Foretold;") (List.mem_of_getElem? (i := 3) rfl)) (fun _ h9 => h9) rfl dX7_off_37 ?_
        refine va_getN (v := .ref (b 0)) (Ts := wsX10) (C := RX1) (T := TX1) (N := 2) hx hb hwsX10 (fun _ h => h) hown hK hP 1 rfl rfl 0 (by decide) (hE.1.f (q := ("AdventStreets", 110, "AdventStreets$Foretold", "trial", "LAdventStreets$Street;")) 26 rfl) (fun _ h9 => h9) rfl dX7_off_40 ?_
        refine cVi (n := 0) (As := []) (rest := []) (C := RX4) (ci := 4) (q0 := 0) (X := ([(o, .inr (7, [.ref (orw), .ref (otp), .ref (a 0), .ref (oft), .ref (oac), .ref (oim), .ref (olf), .int (nI (lf)), .int (nI (fi))])), (oft, .inr (1, [.ref (b 0), .int (ms)]))] ++ stW cA b (turnN x (min (fstN 61 (bareP x)) 60)) ++ stW cA a x)) (pl := []) (wc := (stW cA b (turnN x (min (fstN 61 (bareP x)) 60)))) (wr := ([(o, .inr (7, [.ref (orw), .ref (otp), .ref (a 0), .ref (oft), .ref (oac), .ref (oim), .ref (olf), .int (nI (lf)), .int (nI (fi))])), (oft, .inr (1, [.ref (b 0), .int (ms)]))] ++ stW cA a x)) (w1 := (stW cA b (turnN x (min (fstN 61 (bareP x)) 60)))) (wn := ([(o, .inr (7, [.ref (orw), .ref (otp), .ref (a 0), .ref (oft), .ref (oac), .ref (oim), .ref (olf), .int (nI (lf)), .int (nI (fi))])), (oft, .inr (1, [.ref (b 0), .int (ms)]))] ++ stW cA b (turnN x (min (fstN 61 (bareP x)) 60)) ++ stW cA a x)) (isC := [2, 3, 4, 5, 6, 7]) (isR := [0, 1, 8, 9, 10, 11, 12, 13]) (isN := [0, 1, 8, 9, 10, 11, 12, 13, 2, 3, 4, 5, 6, 7]) ⟨hx, hb, hml, hown, hts⟩ (c_X4_firstBare l D cA tt b (turnN x (min (fstN 61 (bareP x)) 60)) ((turnN_ok hg _).1) _) gX7_off_X4_firstBare rfl (by decide +kernel) rfl rfl ⟨rfl, rfl⟩ ⟨Nat.le_of_ble_eq_true rfl, Nat.le_of_ble_eq_true rfl⟩ ⟨Nat.zero_le _, Nat.zero_le _⟩ hK hE hA hP hD hS ⟨⟨rfl, by decide⟩, ⟨rfl, by decide, by decide⟩, rfl, by decide⟩ rfl hl.1 rfl (Nat.le_of_ble_eq_true rfl) dX7_off_43 (fun H locs hP hD hS => ?_)
        have hP : va_P D vwCl ([(o, .inr (7, [.ref (orw), .ref (otp), .ref (a 0), .ref (oft), .ref (oac), .ref (oim), .ref (olf), .int (nI (lf)), .int (nI (fi))])), (oft, .inr (1, [.ref (b 0), .int (ms)]))] ++ stW cA b (turnN x (min (fstN 61 (bareP x)) 60)) ++ stW cA a x) _ := hP
        have hD : va_D A ([(o, .inr (7, [.ref (orw), .ref (otp), .ref (a 0), .ref (oft), .ref (oac), .ref (oim), .ref (olf), .int (nI (lf)), .int (nI (fi))])), (oft, .inr (1, [.ref (b 0), .int (ms)]))] ++ stW cA b (turnN x (min (fstN 61 (bareP x)) 60)) ++ stW cA a x) := hD
        refine lv_goto (tgt := 50) hx hb dX7_off_46 (by decide) ?_
        exact hend _ _ _ _ _ (turnN x (min (fstN 61 (bareP x)) 60)) hP hD hS (by unfold offR; rw [if_neg (of_decide_eq_false c1), if_pos c2, e_h, if_pos ((n_z (a := h) (by omega)).mpr c3)]) dX7_off_50
    · skip
      rw [bI_z] at c2
      refine lv_ldc (v := (-1000001)) hx hb hown (hts (.constant RX7 63 (-1000001)) (List.mem_of_getElem? (i := 2) rfl)) dX7_off_17 ?_
      exact hend _ _ _ _ _ y hP hD hS (by unfold offR; rw [if_neg (of_decide_eq_false c1), if_neg (by simp [c2])]) dX7_off_19
  · skip
    rw [bI_nz] at c1
    refine lv_ldc (v := (-1000002)) hx hb hown (hts (.constant RX7 147 (-1000002)) (List.mem_of_getElem? (i := 1) rfl)) dX7_off_7 ?_
    exact hend _ _ _ _ _ y hP hD hS (by unfold offR; rw [if_pos (of_decide_eq_true c1)]) dX7_off_9
set_option maxRecDepth 100000 in
set_option maxHeartbeats 4000000 in
theorem c_X7_shut (l : Launch) (D : va_G) (cA : Nat → ClassId) (tt : Nat → Nat) (ms : Int32) (o orw otp oft oac oim olf : Nat) (a : Nat → Nat) (lf fi : Nat) (b : Nat → Nat) (x y : Sg) (pw pn ph : Int32) (hg : Wk x) (ht : St x + 61 < 1073741824) (sz : Nat) : CiE l D cA tt yX7_shut wsX7_shut ({ frames := 5, cells := 0, slots := 0, locals := 135 } : Room) [.ref (o), .int (pw), .int (pn), .int (ph)] sz ([(o, .inr (7, [.ref (orw), .ref (otp), .ref (a 0), .ref (oft), .ref (oac), .ref (oim), .ref (olf), .int (nI (lf)), .int (nI (fi))])), (oft, .inr (1, [.ref (b 0), .int (ms)]))] ++ stW cA b y ++ stW cA a x) (fun zz : Sg => ([(o, .inr (7, [.ref (orw), .ref (otp), .ref (a 0), .ref (oft), .ref (oac), .ref (oim), .ref (olf), .int (nI (lf)), .int (nI (fi))])), (oft, .inr (1, [.ref (b 0), .int (ms)]))] ++ stW cA b zz ++ stW cA a x)) (shutR x pw pn ph) := by
  obtain ⟨gn, ge, gv, go, ga⟩ := id hg
  refine CiE.mk (cc := cX7_shut) (maxL := 5) (ty := .int) (by decide) rfl rfl (Nat.le_of_ble_eq_true rfl) ?_
  intro p e s m below meth c A Q ls hB hl hend
  obtain ⟨⟨hx, hb, hml, hown, hts⟩, hP, hK, hD, hS, hA, hE⟩ := hB
  have hown : s.vm.findClass RX7 = some m.cls := hown
  have hwsX70 : ∀ w9 ∈ wsX70, w9.before ([.ref (o), .int (pw), .int (pn), .int (ph)] : List Value).toArray s = true := fun w9 h => hts w9 (List.mem_cons_of_mem _ (List.mem_append_left _ (List.mem_append_left _ (List.mem_append_right _ h))))
  have hwsX40 : ∀ w9 ∈ wsX40, w9.before ([.ref (o), .int (pw), .int (pn), .int (ph)] : List Value).toArray s = true := fun w9 h => hts w9 (List.mem_cons_of_mem _ (List.mem_append_left _ (List.mem_append_right _ h)))
  have hwsX10 : ∀ w9 ∈ wsX10, w9.before ([.ref (o), .int (pw), .int (pn), .int (ph)] : List Value).toArray s = true := fun w9 h => hts w9 (List.mem_cons_of_mem _ (List.mem_append_right _ h))
  have hl : lv_has ls 5 [(0, .ref (o)), (1, .int (pw)), (2, .int (pn)), (3, .int (ph))] := hl
  refine lv_aload_n hx hb dX7_shut_0 rfl (lv_at hl 0 rfl) ?_
  refine lv_iload_n hx hb dX7_shut_1 rfl (lv_at hl 1 rfl) ?_
  refine cVi (n := 1) (As := [.int (pw)]) (rest := []) (C := RX7) (ci := 7) (q0 := 0) (X := ([(o, .inr (7, [.ref (orw), .ref (otp), .ref (a 0), .ref (oft), .ref (oac), .ref (oim), .ref (olf), .int (nI (lf)), .int (nI (fi))])), (oft, .inr (1, [.ref (b 0), .int (ms)]))] ++ stW cA b y ++ stW cA a x)) (pl := []) (wc := ([(o, .inr (7, [.ref (orw), .ref (otp), .ref (a 0), .ref (oft), .ref (oac), .ref (oim), .ref (olf), .int (nI (lf)), .int (nI (fi))]))] ++ stW cA a x)) (wr := ([(oft, .inr (1, [.ref (b 0), .int (ms)]))] ++ stW cA b y)) (w1 := ([(o, .inr (7, [.ref (orw), .ref (otp), .ref (a 0), .ref (oft), .ref (oac), .ref (oim), .ref (olf), .int (nI (lf)), .int (nI (fi))]))] ++ stW cA a x)) (wn := ([(o, .inr (7, [.ref (orw), .ref (otp), .ref (a 0), .ref (oft), .ref (oac), .ref (oim), .ref (olf), .int (nI (lf)), .int (nI (fi))])), (oft, .inr (1, [.ref (b 0), .int (ms)]))] ++ stW cA b y ++ stW cA a x)) (isC := [0, 8, 9, 10, 11, 12, 13]) (isR := [1, 2, 3, 4, 5, 6, 7]) (isN := [7, 0, 1, 2, 3, 4, 5, 6, 8, 9, 10, 11, 12, 13]) ⟨hx, hb, hml, hown, hts⟩ (c_X7_isWindow l D cA tt o orw otp oft oac oim olf a lf fi x pw (hg) _) gX7_shut_X7_isWindow rfl (by decide +kernel) rfl rfl ⟨rfl, rfl⟩ ⟨Nat.le_of_ble_eq_true rfl, Nat.le_of_ble_eq_true rfl⟩ ⟨Nat.zero_le _, Nat.zero_le _⟩ hK hE hA hP hD hS ⟨⟨rfl, by decide⟩, ⟨rfl, by decide, by decide⟩, rfl, by decide⟩ rfl hl.1 rfl (Nat.le_of_ble_eq_true rfl) dX7_shut_2 (fun H locs hP hD hS => ?_)
  have hP : va_P D vwCl ([(o, .inr (7, [.ref (orw), .ref (otp), .ref (a 0), .ref (oft), .ref (oac), .ref (oim), .ref (olf), .int (nI (lf)), .int (nI (fi))])), (oft, .inr (1, [.ref (b 0), .int (ms)]))] ++ stW cA b y ++ stW cA a x) _ := hP
  have hD : va_D A ([(o, .inr (7, [.ref (orw), .ref (otp), .ref (a 0), .ref (oft), .ref (oac), .ref (oim), .ref (olf), .int (nI (lf)), .int (nI (fi))])), (oft, .inr (1, [.ref (b 0), .int (ms)]))] ++ stW cA b y ++ stW cA a x) := hD
  refine lv_if_eq (tgt := 25) hx hb dX7_shut_5 (by decide) (fun c1 => ?_) (fun c1 => ?_)
  · skip
    rw [bI_z] at c1
    refine lv_ldc (v := (-1000001)) hx hb hown (hts (.constant RX7 63 (-1000001)) (List.mem_of_getElem? (i := 1) rfl)) dX7_shut_25 ?_
    exact hend _ _ _ _ _ y hP hD hS (by unfold shutR; rw [if_neg (by simp [c1])]) dX7_shut_27
  · skip
    rw [bI_nz] at c1
    obtain ⟨w, e_w, l_w⟩ := inW_t (by omega) c1
    rw [e_w] at hl
    refine lv_iload_n hx hb dX7_shut_8 rfl (lv_at hl 2 rfl) ?_
    refine lv_iconst (v := nI (1)) hx hb dX7_shut_9 (by decide) ?_
    refine lv_bipush (v := nI (24)) hx hb dX7_shut_10 (by decide) ?_
    refine cSi (n := 3) (As := [.int (pn), .int (nI (1)), .int (nI (24))]) (rest := []) (X := ([(o, .inr (7, [.ref (orw), .ref (otp), .ref (a 0), .ref (oft), .ref (oac), .ref (oim), .ref (olf), .int (nI (lf)), .int (nI (fi))])), (oft, .inr (1, [.ref (b 0), .int (ms)]))] ++ stW cA b y ++ stW cA a x)) (pl := []) (wc := ([] : va_W)) (wr := ([(o, .inr (7, [.ref (orw), .ref (otp), .ref (a 0), .ref (oft), .ref (oac), .ref (oim), .ref (olf), .int (nI (lf)), .int (nI (fi))])), (oft, .inr (1, [.ref (b 0), .int (ms)]))] ++ stW cA b y ++ stW cA a x)) (w1 := ([] : va_W)) (wn := ([(o, .inr (7, [.ref (orw), .ref (otp), .ref (a 0), .ref (oft), .ref (oac), .ref (oim), .ref (olf), .int (nI (lf)), .int (nI (fi))])), (oft, .inr (1, [.ref (b 0), .int (ms)]))] ++ stW cA b y ++ stW cA a x)) (isC := []) (isR := [0, 1, 2, 3, 4, 5, 6, 7, 8, 9, 10, 11, 12, 13]) (isN := [0, 1, 2, 3, 4, 5, 6, 7, 8, 9, 10, 11, 12, 13]) ⟨hx, hb, hml, hown, hts⟩ (c_X7_isWithin l D cA tt pn (nI (1)) (nI (24))  _) gX7_shut_X7_isWithin rfl (by decide +kernel) ⟨rfl, rfl⟩ ⟨Nat.le_of_ble_eq_true rfl, Nat.le_of_ble_eq_true rfl⟩ ⟨Nat.zero_le _, Nat.zero_le _⟩ hK hE hA hP hD hS ⟨⟨rfl, by decide⟩, ⟨rfl, by decide, by decide⟩, rfl, by decide⟩ rfl hl.1 rfl (Nat.le_of_ble_eq_true rfl) dX7_shut_12 (fun H locs hP hD hS => ?_)
    have hP : va_P D vwCl ([(o, .inr (7, [.ref (orw), .ref (otp), .ref (a 0), .ref (oft), .ref (oac), .ref (oim), .ref (olf), .int (nI (lf)), .int (nI (fi))])), (oft, .inr (1, [.ref (b 0), .int (ms)]))] ++ stW cA b y ++ stW cA a x) _ := hP
    have hD : va_D A ([(o, .inr (7, [.ref (orw), .ref (otp), .ref (a 0), .ref (oft), .ref (oac), .ref (oim), .ref (olf), .int (nI (lf)), .int (nI (fi))])), (oft, .inr (1, [.ref (b 0), .int (ms)]))] ++ stW cA b y ++ stW cA a x) := hD
    refine lv_if_eq (tgt := 25) hx hb dX7_shut_15 (by decide) (fun c2 => ?_) (fun c2 => ?_)
    · skip
      rw [bI_z] at c2
      refine lv_ldc (v := (-1000001)) hx hb hown (hts (.constant RX7 63 (-1000001)) (List.mem_of_getElem? (i := 1) rfl)) dX7_shut_25 ?_
      exact hend _ _ _ _ _ y hP hD hS (by unfold shutR; rw [if_neg (by simp [c1, c2])]) dX7_shut_27
    · skip
      rw [bI_nz] at c2
      obtain ⟨n, e_n, a_n, l_n⟩ := inI_t (by decide) c2 (by decide)
      rw [e_n] at hl
      refine lv_iload_n hx hb dX7_shut_18 rfl (lv_at hl 3 rfl) ?_
      refine cSi (n := 1) (As := [.int (ph)]) (rest := []) (X := ([(o, .inr (7, [.ref (orw), .ref (otp), .ref (a 0), .ref (oft), .ref (oac), .ref (oim), .ref (olf), .int (nI (lf)), .int (nI (fi))])), (oft, .inr (1, [.ref (b 0), .int (ms)]))] ++ stW cA b y ++ stW cA a x)) (pl := []) (wc := ([] : va_W)) (wr := ([(o, .inr (7, [.ref (orw), .ref (otp), .ref (a 0), .ref (oft), .ref (oac), .ref (oim), .ref (olf), .int (nI (lf)), .int (nI (fi))])), (oft, .inr (1, [.ref (b 0), .int (ms)]))] ++ stW cA b y ++ stW cA a x)) (w1 := ([] : va_W)) (wn := ([(o, .inr (7, [.ref (orw), .ref (otp), .ref (a 0), .ref (oft), .ref (oac), .ref (oim), .ref (olf), .int (nI (lf)), .int (nI (fi))])), (oft, .inr (1, [.ref (b 0), .int (ms)]))] ++ stW cA b y ++ stW cA a x)) (isC := []) (isR := [0, 1, 2, 3, 4, 5, 6, 7, 8, 9, 10, 11, 12, 13]) (isN := [0, 1, 2, 3, 4, 5, 6, 7, 8, 9, 10, 11, 12, 13]) ⟨hx, hb, hml, hown, hts⟩ (c_X7_isEither l D cA tt ph  _) gX7_shut_X7_isEither rfl (by decide +kernel) ⟨rfl, rfl⟩ ⟨Nat.le_of_ble_eq_true rfl, Nat.le_of_ble_eq_true rfl⟩ ⟨Nat.zero_le _, Nat.zero_le _⟩ hK hE hA hP hD hS ⟨⟨rfl, by decide⟩, ⟨rfl, by decide, by decide⟩, rfl, by decide⟩ rfl hl.1 rfl (Nat.le_of_ble_eq_true rfl) dX7_shut_19 (fun H locs hP hD hS => ?_)
      have hP : va_P D vwCl ([(o, .inr (7, [.ref (orw), .ref (otp), .ref (a 0), .ref (oft), .ref (oac), .ref (oim), .ref (olf), .int (nI (lf)), .int (nI (fi))])), (oft, .inr (1, [.ref (b 0), .int (ms)]))] ++ stW cA b y ++ stW cA a x) _ := hP
      have hD : va_D A ([(o, .inr (7, [.ref (orw), .ref (otp), .ref (a 0), .ref (oft), .ref (oac), .ref (oim), .ref (olf), .int (nI (lf)), .int (nI (fi))])), (oft, .inr (1, [.ref (b 0), .int (ms)]))] ++ stW cA b y ++ stW cA a x) := hD
      refine lv_if_ne (tgt := 28) hx hb dX7_shut_22 (by decide) (fun c3 => ?_) (fun c3 => ?_)
      · skip
        rw [bI_nz] at c3
        obtain ⟨h, e_h, a_h, l_h⟩ := inI_t (by decide) c3 (by decide)
        rw [e_h] at hl
        refine lv_aload_n hx hb dX7_shut_28 rfl (lv_at hl 0 rfl) ?_
        refine va_get (v := .ref (oft)) (Ts := wsX70) (C := RX7) (T := TX7) (N := 9) hx hb hwsX70 (fun _ h => h) hown hK hP 0 rfl rfl 3 (by decide) (hts (.fieldLink RX7 33 "AdventStreets" "foretold" "LAdventStreets$Foretold;") (List.mem_of_getElem? (i := 2) rfl)) (fun _ h9 => h9) rfl dX7_shut_29 ?_
        refine lv_aload_n hx hb dX7_shut_32 rfl (lv_at hl 0 rfl) ?_
        refine va_get (v := .ref (a 0)) (Ts := wsX70) (C := RX7) (T := TX7) (N := 9) hx hb hwsX70 (fun _ h => h) hown hK hP 0 rfl rfl 2 (by decide) (hts (.fieldLink RX7 26 "AdventStreets" "now" "LAdventStreets$Street;") (List.mem_of_getElem? (i := 3) rfl)) (fun _ h9 => h9) rfl dX7_shut_33 ?_
        refine lv_iload_n hx hb dX7_shut_36 rfl (lv_at hl 1 rfl) ?_
        refine lv_iload_n hx hb dX7_shut_37 rfl (lv_at hl 2 rfl) ?_
        refine cVie (n := 3) (As := [.ref (a 0), .int (nI (w)), .int (nI (n))]) (rest := []) (C := RX1) (ci := 1) (q0 := 0) (X := ([(o, .inr (7, [.ref (orw), .ref (otp), .ref (a 0), .ref (oft), .ref (oac), .ref (oim), .ref (olf), .int (nI (lf)), .int (nI (fi))])), (oft, .inr (1, [.ref (b 0), .int (ms)]))] ++ stW cA b y ++ stW cA a x)) (pl := []) (wc := ([(oft, .inr (1, [.ref (b 0), .int (ms)]))] ++ stW cA b y ++ stW cA a x)) (wr := [(o, .inr (7, [.ref (orw), .ref (otp), .ref (a 0), .ref (oft), .ref (oac), .ref (oim), .ref (olf), .int (nI (lf)), .int (nI (fi))]))]) (w1 := (fun z4 : Sg => ([(oft, .inr (1, [.ref (b 0), .int (ms)]))] ++ stW cA b z4 ++ stW cA a x))) (wn := (fun z4 : Sg => ([(o, .inr (7, [.ref (orw), .ref (otp), .ref (a 0), .ref (oft), .ref (oac), .ref (oim), .ref (olf), .int (nI (lf)), .int (nI (fi))])), (oft, .inr (1, [.ref (b 0), .int (ms)]))] ++ stW cA b z4 ++ stW cA a x))) (isC := [1, 2, 3, 4, 5, 6, 7, 8, 9, 10, 11, 12, 13]) (isR := [0]) (isN := [0, 1, 2, 3, 4, 5, 6, 7, 8, 9, 10, 11, 12, 13]) ⟨hx, hb, hml, hown, hts⟩ (c_X1_fewestGlued l D cA tt ms oft a b x y w n (hg) (ht) (by omega) (by omega) _) gX7_shut_X1_fewestGlued rfl (by decide +kernel) rfl rfl ⟨rfl, rfl⟩ ⟨Nat.le_of_ble_eq_true rfl, Nat.le_of_ble_eq_true rfl⟩ ⟨Nat.zero_le _, Nat.zero_le _⟩ hK hE hA hP hD hS (fun z4 => ⟨⟨rfl, by decide⟩, ⟨rfl, by decide, by decide⟩, rfl, by decide⟩) rfl hl.1 rfl (Nat.le_of_ble_eq_true rfl) dX7_shut_38 (fun z4 H locs hP hD hS => ?_)
        have hP : va_P D vwCl ([(o, .inr (7, [.ref (orw), .ref (otp), .ref (a 0), .ref (oft), .ref (oac), .ref (oim), .ref (olf), .int (nI (lf)), .int (nI (fi))])), (oft, .inr (1, [.ref (b 0), .int (ms)]))] ++ stW cA b z4 ++ stW cA a x) _ := hP
        have hD : va_D A ([(o, .inr (7, [.ref (orw), .ref (otp), .ref (a 0), .ref (oft), .ref (oac), .ref (oim), .ref (olf), .int (nI (lf)), .int (nI (fi))])), (oft, .inr (1, [.ref (b 0), .int (ms)]))] ++ stW cA b z4 ++ stW cA a x) := hD
        refine lv_istore (lv' := [(4, .int (fewI x w n)), (0, .ref (o)), (1, .int (nI (w))), (2, .int (nI (n))), (3, .int (nI (h)))]) hx hb dX7_shut_41 hl (by decide) rfl (fun ls hl => ?_)
        refine lv_iload hx hb dX7_shut_43 (lv_at hl 0 rfl) ?_
        refine lv_ldc (v := (-1000000)) hx hb hown (hts (.constant RX7 227 (-1000000)) (List.mem_of_getElem? (i := 4) rfl)) dX7_shut_45 ?_
        refine lv_icmp_ne (tgt := 53) hx hb dX7_shut_47 (by decide) (fun c5 => ?_) (fun c5 => ?_)
        · skip
          obtain ⟨k9, hk9, hk8⟩ := fewI_some (by omega) gn c5
          rw [hk9] at hl
          refine lv_iload_n hx hb dX7_shut_53 rfl (lv_at hl 4 rfl) ?_
          refine lv_if_ne (tgt := 65) hx hb dX7_shut_54 (by decide) (fun c6 => ?_) (fun c6 => ?_)
          · skip
            rw [n_z (by omega)] at c6
            refine lv_iload hx hb dX7_shut_65 (lv_at hl 0 rfl) ?_
            exact hend _ _ _ _ _ z4 hP hD hS (by unfold shutR; rw [if_pos (by simp [c1, c2, c3]), e_w, e_n, e_h, nI_clamp (n := w) (by omega), nI_clamp (n := n) (by omega), if_neg c5, if_neg (fun q => c6 ((n_z (a := h) (by omega)).mp q)), hk9]) dX7_shut_67
          · skip
            rw [n_z (by omega)] at c6
            refine lv_iload hx hb dX7_shut_57 (lv_at hl 0 rfl) ?_
            refine cSi (n := 1) (As := [.int (nI (k9))]) (rest := []) (X := ([(o, .inr (7, [.ref (orw), .ref (otp), .ref (a 0), .ref (oft), .ref (oac), .ref (oim), .ref (olf), .int (nI (lf)), .int (nI (fi))])), (oft, .inr (1, [.ref (b 0), .int (ms)]))] ++ stW cA b z4 ++ stW cA a x)) (pl := []) (wc := ([] : va_W)) (wr := ([(o, .inr (7, [.ref (orw), .ref (otp), .ref (a 0), .ref (oft), .ref (oac), .ref (oim), .ref (olf), .int (nI (lf)), .int (nI (fi))])), (oft, .inr (1, [.ref (b 0), .int (ms)]))] ++ stW cA b z4 ++ stW cA a x)) (w1 := ([] : va_W)) (wn := ([(o, .inr (7, [.ref (orw), .ref (otp), .ref (a 0), .ref (oft), .ref (oac), .ref (oim), .ref (olf), .int (nI (lf)), .int (nI (fi))])), (oft, .inr (1, [.ref (b 0), .int (ms)]))] ++ stW cA b z4 ++ stW cA a x)) (isC := []) (isR := [0, 1, 2, 3, 4, 5, 6, 7, 8, 9, 10, 11, 12, 13]) (isN := [0, 1, 2, 3, 4, 5, 6, 7, 8, 9, 10, 11, 12, 13]) ⟨hx, hb, hml, hown, hts⟩ (c_J6_bitCount_0f7a4 l D cA tt k9 (hk8) _) gX7_shut_J6_bitCount_0f7a4 rfl (by decide +kernel) ⟨rfl, rfl⟩ ⟨Nat.le_of_ble_eq_true rfl, Nat.le_of_ble_eq_true rfl⟩ ⟨Nat.zero_le _, Nat.zero_le _⟩ hK hE hA hP hD hS ⟨⟨rfl, by decide⟩, ⟨rfl, by decide, by decide⟩, rfl, by decide⟩ rfl hl.1 rfl (Nat.le_of_ble_eq_true rfl) dX7_shut_59 (fun H locs hP hD hS => ?_)
            have hP : va_P D vwCl ([(o, .inr (7, [.ref (orw), .ref (otp), .ref (a 0), .ref (oft), .ref (oac), .ref (oim), .ref (olf), .int (nI (lf)), .int (nI (fi))])), (oft, .inr (1, [.ref (b 0), .int (ms)]))] ++ stW cA b z4 ++ stW cA a x) _ := hP
            have hD : va_D A ([(o, .inr (7, [.ref (orw), .ref (otp), .ref (a 0), .ref (oft), .ref (oac), .ref (oim), .ref (olf), .int (nI (lf)), .int (nI (fi))])), (oft, .inr (1, [.ref (b 0), .int (ms)]))] ++ stW cA b z4 ++ stW cA a x) := hD
            refine lv_goto (tgt := 67) hx hb dX7_shut_62 (by decide) ?_
            exact hend _ _ _ _ _ z4 hP hD hS (by unfold shutR; rw [if_pos (by simp [c1, c2, c3]), e_w, e_n, e_h, nI_clamp (n := w) (by omega), nI_clamp (n := n) (by omega), if_neg c5, if_pos ((n_z (a := h) (by omega)).mpr c6), hk9, nI_clamp (n := k9) (by omega)]) dX7_shut_67
        · skip
          refine lv_ldc (v := (-1000000)) hx hb hown (hts (.constant RX7 227 (-1000000)) (List.mem_of_getElem? (i := 4) rfl)) dX7_shut_50 ?_
          exact hend _ _ _ _ _ z4 hP hD hS (by unfold shutR; rw [if_pos (by simp [c1, c2, c3]), e_w, e_n, nI_clamp (n := w) (by omega), nI_clamp (n := n) (by omega), if_pos c5]) dX7_shut_52
      · skip
        rw [bI_z] at c3
        refine lv_ldc (v := (-1000001)) hx hb hown (hts (.constant RX7 63 (-1000001)) (List.mem_of_getElem? (i := 1) rfl)) dX7_shut_25 ?_
        exact hend _ _ _ _ _ y hP hD hS (by unfold shutR; rw [if_neg (by simp [c1, c2, c3])]) dX7_shut_27
set_option maxRecDepth 100000 in
set_option maxHeartbeats 4000000 in
theorem c_X7_trades (l : Launch) (D : va_G) (cA : Nat → ClassId) (tt : Nat → Nat) (ms : Int32) (o orw otp oft oac oim olf : Nat) (a : Nat → Nat) (lf fi : Nat) (b : Nat → Nat) (x y : Sg) (pw pn ph : Int32) (hg : Wk x) (ht : St x + 61 < 1073741824) (h2 : Sn x = 0 ∨ 2 ≤ Sn x) (sz : Nat) : CiE l D cA tt yX7_trades wsX7_trades ({ frames := 7, cells := 0, slots := 0, locals := 161 } : Room) [.ref (o), .int (pw), .int (pn), .int (ph)] sz ([(o, .inr (7, [.ref (orw), .ref (otp), .ref (a 0), .ref (oft), .ref (oac), .ref (oim), .ref (olf), .int (nI (lf)), .int (nI (fi))])), (oft, .inr (1, [.ref (b 0), .int (ms)]))] ++ stW cA b y ++ stW cA a x) (fun zz : Sg => ([(o, .inr (7, [.ref (orw), .ref (otp), .ref (a 0), .ref (oft), .ref (oac), .ref (oim), .ref (olf), .int (nI (lf)), .int (nI (fi))])), (oft, .inr (1, [.ref (b 0), .int (tradesS x pw pn ph ms)]))] ++ stW cA b zz ++ stW cA a x)) (tradesR x pw pn ph) := by
  obtain ⟨gn, ge, gv, go, ga⟩ := id hg
  refine CiE.mk (cc := cX7_trades) (maxL := 5) (ty := .int) (by decide) rfl rfl (Nat.le_of_ble_eq_true rfl) ?_
  intro p e s m below meth c A Q ls hB hl hend
  obtain ⟨⟨hx, hb, hml, hown, hts⟩, hP, hK, hD, hS, hA, hE⟩ := hB
  have hown : s.vm.findClass RX7 = some m.cls := hown
  have hwsX70 : ∀ w9 ∈ wsX70, w9.before ([.ref (o), .int (pw), .int (pn), .int (ph)] : List Value).toArray s = true := fun w9 h => hts w9 (List.mem_cons_of_mem _ (List.mem_append_left _ (List.mem_append_left _ (List.mem_append_right _ h))))
  have hwsX40 : ∀ w9 ∈ wsX40, w9.before ([.ref (o), .int (pw), .int (pn), .int (ph)] : List Value).toArray s = true := fun w9 h => hts w9 (List.mem_cons_of_mem _ (List.mem_append_right _ h))
  have hwsX10 : ∀ w9 ∈ wsX10, w9.before ([.ref (o), .int (pw), .int (pn), .int (ph)] : List Value).toArray s = true := fun w9 h => hts w9 (List.mem_cons_of_mem _ (List.mem_append_left _ (List.mem_append_right _ h)))
  have hl : lv_has ls 5 [(0, .ref (o)), (1, .int (pw)), (2, .int (pn)), (3, .int (ph))] := hl
  refine lv_aload_n hx hb dX7_trades_0 rfl (lv_at hl 0 rfl) ?_
  refine lv_iload_n hx hb dX7_trades_1 rfl (lv_at hl 1 rfl) ?_
  refine cVi (n := 1) (As := [.int (pw)]) (rest := []) (C := RX7) (ci := 7) (q0 := 0) (X := ([(o, .inr (7, [.ref (orw), .ref (otp), .ref (a 0), .ref (oft), .ref (oac), .ref (oim), .ref (olf), .int (nI (lf)), .int (nI (fi))])), (oft, .inr (1, [.ref (b 0), .int (ms)]))] ++ stW cA b y ++ stW cA a x)) (pl := []) (wc := ([(o, .inr (7, [.ref (orw), .ref (otp), .ref (a 0), .ref (oft), .ref (oac), .ref (oim), .ref (olf), .int (nI (lf)), .int (nI (fi))]))] ++ stW cA a x)) (wr := ([(oft, .inr (1, [.ref (b 0), .int (ms)]))] ++ stW cA b y)) (w1 := ([(o, .inr (7, [.ref (orw), .ref (otp), .ref (a 0), .ref (oft), .ref (oac), .ref (oim), .ref (olf), .int (nI (lf)), .int (nI (fi))]))] ++ stW cA a x)) (wn := ([(o, .inr (7, [.ref (orw), .ref (otp), .ref (a 0), .ref (oft), .ref (oac), .ref (oim), .ref (olf), .int (nI (lf)), .int (nI (fi))])), (oft, .inr (1, [.ref (b 0), .int (ms)]))] ++ stW cA b y ++ stW cA a x)) (isC := [0, 8, 9, 10, 11, 12, 13]) (isR := [1, 2, 3, 4, 5, 6, 7]) (isN := [7, 0, 1, 2, 3, 4, 5, 6, 8, 9, 10, 11, 12, 13]) ⟨hx, hb, hml, hown, hts⟩ (c_X7_isWindow l D cA tt o orw otp oft oac oim olf a lf fi x pw (hg) _) gX7_trades_X7_isWindow rfl (by decide +kernel) rfl rfl ⟨rfl, rfl⟩ ⟨Nat.le_of_ble_eq_true rfl, Nat.le_of_ble_eq_true rfl⟩ ⟨Nat.zero_le _, Nat.zero_le _⟩ hK hE hA hP hD hS ⟨⟨rfl, by decide⟩, ⟨rfl, by decide, by decide⟩, rfl, by decide⟩ rfl hl.1 rfl (Nat.le_of_ble_eq_true rfl) dX7_trades_2 (fun H locs hP hD hS => ?_)
  have hP : va_P D vwCl ([(o, .inr (7, [.ref (orw), .ref (otp), .ref (a 0), .ref (oft), .ref (oac), .ref (oim), .ref (olf), .int (nI (lf)), .int (nI (fi))])), (oft, .inr (1, [.ref (b 0), .int (ms)]))] ++ stW cA b y ++ stW cA a x) _ := hP
  have hD : va_D A ([(o, .inr (7, [.ref (orw), .ref (otp), .ref (a 0), .ref (oft), .ref (oac), .ref (oim), .ref (olf), .int (nI (lf)), .int (nI (fi))])), (oft, .inr (1, [.ref (b 0), .int (ms)]))] ++ stW cA b y ++ stW cA a x) := hD
  refine lv_if_eq (tgt := 25) hx hb dX7_trades_5 (by decide) (fun c1 => ?_) (fun c1 => ?_)
  · skip
    rw [bI_z] at c1
    refine lv_ldc (v := (-1000001)) hx hb hown (hts (.constant RX7 63 (-1000001)) (List.mem_of_getElem? (i := 1) rfl)) dX7_trades_25 ?_
    have hm : ms = tradesS x pw pn ph ms := by unfold tradesS; rw [if_neg (by simp [c1])]
    have hP : va_P D vwCl ([(o, .inr (7, [.ref (orw), .ref (otp), .ref (a 0), .ref (oft), .ref (oac), .ref (oim), .ref (olf), .int (nI (lf)), .int (nI (fi))])), (oft, .inr (1, [.ref (b 0), .int (tradesS x pw pn ph ms)]))] ++ stW cA b y ++ stW cA a x) _ := Eq.mp (congrArg (fun z9 => va_P D vwCl ([(o, .inr (7, [.ref (orw), .ref (otp), .ref (a 0), .ref (oft), .ref (oac), .ref (oim), .ref (olf), .int (nI (lf)), .int (nI (fi))])), (oft, .inr (1, [.ref (b 0), .int (z9)]))] ++ stW cA b y ++ stW cA a x) _) hm) hP
    have hD : va_D A ([(o, .inr (7, [.ref (orw), .ref (otp), .ref (a 0), .ref (oft), .ref (oac), .ref (oim), .ref (olf), .int (nI (lf)), .int (nI (fi))])), (oft, .inr (1, [.ref (b 0), .int (tradesS x pw pn ph ms)]))] ++ stW cA b y ++ stW cA a x) := Eq.mp (congrArg (fun z9 => va_D A ([(o, .inr (7, [.ref (orw), .ref (otp), .ref (a 0), .ref (oft), .ref (oac), .ref (oim), .ref (olf), .int (nI (lf)), .int (nI (fi))])), (oft, .inr (1, [.ref (b 0), .int (z9)]))] ++ stW cA b y ++ stW cA a x)) hm) hD
    exact hend _ _ _ _ _ y hP hD hS (by unfold tradesR; rw [if_neg (by simp [c1])]) dX7_trades_27
  · skip
    rw [bI_nz] at c1
    obtain ⟨w, e_w, l_w⟩ := inW_t (by omega) c1
    rw [e_w] at hl
    refine lv_iload_n hx hb dX7_trades_8 rfl (lv_at hl 2 rfl) ?_
    refine lv_iconst (v := nI (1)) hx hb dX7_trades_9 (by decide) ?_
    refine lv_bipush (v := nI (24)) hx hb dX7_trades_10 (by decide) ?_
    refine cSi (n := 3) (As := [.int (pn), .int (nI (1)), .int (nI (24))]) (rest := []) (X := ([(o, .inr (7, [.ref (orw), .ref (otp), .ref (a 0), .ref (oft), .ref (oac), .ref (oim), .ref (olf), .int (nI (lf)), .int (nI (fi))])), (oft, .inr (1, [.ref (b 0), .int (ms)]))] ++ stW cA b y ++ stW cA a x)) (pl := []) (wc := ([] : va_W)) (wr := ([(o, .inr (7, [.ref (orw), .ref (otp), .ref (a 0), .ref (oft), .ref (oac), .ref (oim), .ref (olf), .int (nI (lf)), .int (nI (fi))])), (oft, .inr (1, [.ref (b 0), .int (ms)]))] ++ stW cA b y ++ stW cA a x)) (w1 := ([] : va_W)) (wn := ([(o, .inr (7, [.ref (orw), .ref (otp), .ref (a 0), .ref (oft), .ref (oac), .ref (oim), .ref (olf), .int (nI (lf)), .int (nI (fi))])), (oft, .inr (1, [.ref (b 0), .int (ms)]))] ++ stW cA b y ++ stW cA a x)) (isC := []) (isR := [0, 1, 2, 3, 4, 5, 6, 7, 8, 9, 10, 11, 12, 13]) (isN := [0, 1, 2, 3, 4, 5, 6, 7, 8, 9, 10, 11, 12, 13]) ⟨hx, hb, hml, hown, hts⟩ (c_X7_isWithin l D cA tt pn (nI (1)) (nI (24))  _) gX7_trades_X7_isWithin rfl (by decide +kernel) ⟨rfl, rfl⟩ ⟨Nat.le_of_ble_eq_true rfl, Nat.le_of_ble_eq_true rfl⟩ ⟨Nat.zero_le _, Nat.zero_le _⟩ hK hE hA hP hD hS ⟨⟨rfl, by decide⟩, ⟨rfl, by decide, by decide⟩, rfl, by decide⟩ rfl hl.1 rfl (Nat.le_of_ble_eq_true rfl) dX7_trades_12 (fun H locs hP hD hS => ?_)
    have hP : va_P D vwCl ([(o, .inr (7, [.ref (orw), .ref (otp), .ref (a 0), .ref (oft), .ref (oac), .ref (oim), .ref (olf), .int (nI (lf)), .int (nI (fi))])), (oft, .inr (1, [.ref (b 0), .int (ms)]))] ++ stW cA b y ++ stW cA a x) _ := hP
    have hD : va_D A ([(o, .inr (7, [.ref (orw), .ref (otp), .ref (a 0), .ref (oft), .ref (oac), .ref (oim), .ref (olf), .int (nI (lf)), .int (nI (fi))])), (oft, .inr (1, [.ref (b 0), .int (ms)]))] ++ stW cA b y ++ stW cA a x) := hD
    refine lv_if_eq (tgt := 25) hx hb dX7_trades_15 (by decide) (fun c2 => ?_) (fun c2 => ?_)
    · skip
      rw [bI_z] at c2
      refine lv_ldc (v := (-1000001)) hx hb hown (hts (.constant RX7 63 (-1000001)) (List.mem_of_getElem? (i := 1) rfl)) dX7_trades_25 ?_
      have hm : ms = tradesS x pw pn ph ms := by unfold tradesS; rw [if_neg (by simp [c1, c2])]
      have hP : va_P D vwCl ([(o, .inr (7, [.ref (orw), .ref (otp), .ref (a 0), .ref (oft), .ref (oac), .ref (oim), .ref (olf), .int (nI (lf)), .int (nI (fi))])), (oft, .inr (1, [.ref (b 0), .int (tradesS x pw pn ph ms)]))] ++ stW cA b y ++ stW cA a x) _ := Eq.mp (congrArg (fun z9 => va_P D vwCl ([(o, .inr (7, [.ref (orw), .ref (otp), .ref (a 0), .ref (oft), .ref (oac), .ref (oim), .ref (olf), .int (nI (lf)), .int (nI (fi))])), (oft, .inr (1, [.ref (b 0), .int (z9)]))] ++ stW cA b y ++ stW cA a x) _) hm) hP
      have hD : va_D A ([(o, .inr (7, [.ref (orw), .ref (otp), .ref (a 0), .ref (oft), .ref (oac), .ref (oim), .ref (olf), .int (nI (lf)), .int (nI (fi))])), (oft, .inr (1, [.ref (b 0), .int (tradesS x pw pn ph ms)]))] ++ stW cA b y ++ stW cA a x) := Eq.mp (congrArg (fun z9 => va_D A ([(o, .inr (7, [.ref (orw), .ref (otp), .ref (a 0), .ref (oft), .ref (oac), .ref (oim), .ref (olf), .int (nI (lf)), .int (nI (fi))])), (oft, .inr (1, [.ref (b 0), .int (z9)]))] ++ stW cA b y ++ stW cA a x)) hm) hD
      exact hend _ _ _ _ _ y hP hD hS (by unfold tradesR; rw [if_neg (by simp [c1, c2])]) dX7_trades_27
    · skip
      rw [bI_nz] at c2
      obtain ⟨n, e_n, a_n, l_n⟩ := inI_t (by decide) c2 (by decide)
      rw [e_n] at hl
      refine lv_iload_n hx hb dX7_trades_18 rfl (lv_at hl 3 rfl) ?_
      refine cSi (n := 1) (As := [.int (ph)]) (rest := []) (X := ([(o, .inr (7, [.ref (orw), .ref (otp), .ref (a 0), .ref (oft), .ref (oac), .ref (oim), .ref (olf), .int (nI (lf)), .int (nI (fi))])), (oft, .inr (1, [.ref (b 0), .int (ms)]))] ++ stW cA b y ++ stW cA a x)) (pl := []) (wc := ([] : va_W)) (wr := ([(o, .inr (7, [.ref (orw), .ref (otp), .ref (a 0), .ref (oft), .ref (oac), .ref (oim), .ref (olf), .int (nI (lf)), .int (nI (fi))])), (oft, .inr (1, [.ref (b 0), .int (ms)]))] ++ stW cA b y ++ stW cA a x)) (w1 := ([] : va_W)) (wn := ([(o, .inr (7, [.ref (orw), .ref (otp), .ref (a 0), .ref (oft), .ref (oac), .ref (oim), .ref (olf), .int (nI (lf)), .int (nI (fi))])), (oft, .inr (1, [.ref (b 0), .int (ms)]))] ++ stW cA b y ++ stW cA a x)) (isC := []) (isR := [0, 1, 2, 3, 4, 5, 6, 7, 8, 9, 10, 11, 12, 13]) (isN := [0, 1, 2, 3, 4, 5, 6, 7, 8, 9, 10, 11, 12, 13]) ⟨hx, hb, hml, hown, hts⟩ (c_X7_isEither l D cA tt ph  _) gX7_trades_X7_isEither rfl (by decide +kernel) ⟨rfl, rfl⟩ ⟨Nat.le_of_ble_eq_true rfl, Nat.le_of_ble_eq_true rfl⟩ ⟨Nat.zero_le _, Nat.zero_le _⟩ hK hE hA hP hD hS ⟨⟨rfl, by decide⟩, ⟨rfl, by decide, by decide⟩, rfl, by decide⟩ rfl hl.1 rfl (Nat.le_of_ble_eq_true rfl) dX7_trades_19 (fun H locs hP hD hS => ?_)
      have hP : va_P D vwCl ([(o, .inr (7, [.ref (orw), .ref (otp), .ref (a 0), .ref (oft), .ref (oac), .ref (oim), .ref (olf), .int (nI (lf)), .int (nI (fi))])), (oft, .inr (1, [.ref (b 0), .int (ms)]))] ++ stW cA b y ++ stW cA a x) _ := hP
      have hD : va_D A ([(o, .inr (7, [.ref (orw), .ref (otp), .ref (a 0), .ref (oft), .ref (oac), .ref (oim), .ref (olf), .int (nI (lf)), .int (nI (fi))])), (oft, .inr (1, [.ref (b 0), .int (ms)]))] ++ stW cA b y ++ stW cA a x) := hD
      refine lv_if_ne (tgt := 28) hx hb dX7_trades_22 (by decide) (fun c3 => ?_) (fun c3 => ?_)
      · skip
        rw [bI_nz] at c3
        obtain ⟨h, e_h, a_h, l_h⟩ := inI_t (by decide) c3 (by decide)
        rw [e_h] at hl
        refine lv_aload_n hx hb dX7_trades_28 rfl (lv_at hl 0 rfl) ?_
        refine va_get (v := .ref (oft)) (Ts := wsX70) (C := RX7) (T := TX7) (N := 9) hx hb hwsX70 (fun _ h => h) hown hK hP 0 rfl rfl 3 (by decide) (hts (.fieldLink RX7 33 "AdventStreets" "foretold" "LAdventStreets$Foretold;") (List.mem_of_getElem? (i := 2) rfl)) (fun _ h9 => h9) rfl dX7_trades_29 ?_
        refine lv_aload_n hx hb dX7_trades_32 rfl (lv_at hl 0 rfl) ?_
        refine va_get (v := .ref (a 0)) (Ts := wsX70) (C := RX7) (T := TX7) (N := 9) hx hb hwsX70 (fun _ h => h) hown hK hP 0 rfl rfl 2 (by decide) (hts (.fieldLink RX7 26 "AdventStreets" "now" "LAdventStreets$Street;") (List.mem_of_getElem? (i := 3) rfl)) (fun _ h9 => h9) rfl dX7_trades_33 ?_
        refine lv_iload_n hx hb dX7_trades_36 rfl (lv_at hl 1 rfl) ?_
        refine lv_iload_n hx hb dX7_trades_37 rfl (lv_at hl 2 rfl) ?_
        refine cVie (n := 3) (As := [.ref (a 0), .int (nI (w)), .int (nI (n))]) (rest := []) (C := RX1) (ci := 1) (q0 := 0) (X := ([(o, .inr (7, [.ref (orw), .ref (otp), .ref (a 0), .ref (oft), .ref (oac), .ref (oim), .ref (olf), .int (nI (lf)), .int (nI (fi))])), (oft, .inr (1, [.ref (b 0), .int (ms)]))] ++ stW cA b y ++ stW cA a x)) (pl := []) (wc := ([(oft, .inr (1, [.ref (b 0), .int (ms)]))] ++ stW cA b y ++ stW cA a x)) (wr := [(o, .inr (7, [.ref (orw), .ref (otp), .ref (a 0), .ref (oft), .ref (oac), .ref (oim), .ref (olf), .int (nI (lf)), .int (nI (fi))]))]) (w1 := (fun z4 : Sg => ([(oft, .inr (1, [.ref (b 0), .int (oS (btO x w n (Sn x)))]))] ++ stW cA b z4 ++ stW cA a x))) (wn := (fun z4 : Sg => ([(o, .inr (7, [.ref (orw), .ref (otp), .ref (a 0), .ref (oft), .ref (oac), .ref (oim), .ref (olf), .int (nI (lf)), .int (nI (fi))])), (oft, .inr (1, [.ref (b 0), .int (oS (btO x w n (Sn x)))]))] ++ stW cA b z4 ++ stW cA a x))) (isC := [1, 2, 3, 4, 5, 6, 7, 8, 9, 10, 11, 12, 13]) (isR := [0]) (isN := [0, 1, 2, 3, 4, 5, 6, 7, 8, 9, 10, 11, 12, 13]) ⟨hx, hb, hml, hown, hts⟩ (c_X1_bestTrade l D cA tt ms oft a b x y w n (hg) (ht) (by omega) (by omega) _) gX7_trades_X1_bestTrade rfl (by decide +kernel) rfl rfl ⟨rfl, rfl⟩ ⟨Nat.le_of_ble_eq_true rfl, Nat.le_of_ble_eq_true rfl⟩ ⟨Nat.zero_le _, Nat.zero_le _⟩ hK hE hA hP hD hS (fun z4 => ⟨⟨rfl, by decide⟩, ⟨rfl, by decide, by decide⟩, rfl, by decide⟩) rfl hl.1 rfl (Nat.le_of_ble_eq_true rfl) dX7_trades_38 (fun z4 H locs hP hD hS => ?_)
        have hP : va_P D vwCl ([(o, .inr (7, [.ref (orw), .ref (otp), .ref (a 0), .ref (oft), .ref (oac), .ref (oim), .ref (olf), .int (nI (lf)), .int (nI (fi))])), (oft, .inr (1, [.ref (b 0), .int (oS (btO x w n (Sn x)))]))] ++ stW cA b z4 ++ stW cA a x) _ := hP
        have hD : va_D A ([(o, .inr (7, [.ref (orw), .ref (otp), .ref (a 0), .ref (oft), .ref (oac), .ref (oim), .ref (olf), .int (nI (lf)), .int (nI (fi))])), (oft, .inr (1, [.ref (b 0), .int (oS (btO x w n (Sn x)))]))] ++ stW cA b z4 ++ stW cA a x) := hD
        have hm : oS (btO x w n (Sn x)) = tradesS x pw pn ph ms := by unfold tradesS; rw [if_pos (by simp [c1, c2, c3]), e_w, e_n, nI_clamp (n := w) (by omega), nI_clamp (n := n) (by omega)]
        refine lv_istore (lv' := [(4, .int (oF (btO x w n (Sn x)))), (0, .ref (o)), (1, .int (nI (w))), (2, .int (nI (n))), (3, .int (nI (h)))]) hx hb dX7_trades_41 hl (by decide) rfl (fun ls hl => ?_)
        refine lv_iload_n hx hb dX7_trades_43 rfl (lv_at hl 4 rfl) ?_
        refine lv_if_ne (tgt := 52) hx hb dX7_trades_44 (by decide) (fun c5 => ?_) (fun c5 => ?_)
        · skip
          rw [n_z (by omega)] at c5
          refine lv_aload_n hx hb dX7_trades_52 rfl (lv_at hl 1 rfl) ?_
          refine va_get (v := .ref (oft)) (Ts := wsX70) (C := RX7) (T := TX7) (N := 9) hx hb hwsX70 (fun _ h => h) hown hK hP 0 rfl rfl 3 (by decide) (hts (.fieldLink RX7 33 "AdventStreets" "foretold" "LAdventStreets$Foretold;") (List.mem_of_getElem? (i := 2) rfl)) (fun _ h9 => h9) rfl dX7_trades_53 ?_
          refine va_getN (v := .int (oS (btO x w n (Sn x)))) (Ts := wsX10) (C := RX1) (T := TX1) (N := 2) hx hb hwsX10 (fun _ h => h) hown hK hP 1 rfl rfl 1 (by decide) (hE.1.f (q := ("AdventStreets", 236, "AdventStreets$Foretold", "mostSeen", "I")) 30 rfl) (fun _ h9 => h9) rfl dX7_trades_56 ?_
          have hP : va_P D vwCl ([(o, .inr (7, [.ref (orw), .ref (otp), .ref (a 0), .ref (oft), .ref (oac), .ref (oim), .ref (olf), .int (nI (lf)), .int (nI (fi))])), (oft, .inr (1, [.ref (b 0), .int (tradesS x pw pn ph ms)]))] ++ stW cA b z4 ++ stW cA a x) _ := Eq.mp (congrArg (fun z9 => va_P D vwCl ([(o, .inr (7, [.ref (orw), .ref (otp), .ref (a 0), .ref (oft), .ref (oac), .ref (oim), .ref (olf), .int (nI (lf)), .int (nI (fi))])), (oft, .inr (1, [.ref (b 0), .int (z9)]))] ++ stW cA b z4 ++ stW cA a x) _) hm) hP
          have hD : va_D A ([(o, .inr (7, [.ref (orw), .ref (otp), .ref (a 0), .ref (oft), .ref (oac), .ref (oim), .ref (olf), .int (nI (lf)), .int (nI (fi))])), (oft, .inr (1, [.ref (b 0), .int (tradesS x pw pn ph ms)]))] ++ stW cA b z4 ++ stW cA a x) := Eq.mp (congrArg (fun z9 => va_D A ([(o, .inr (7, [.ref (orw), .ref (otp), .ref (a 0), .ref (oft), .ref (oac), .ref (oim), .ref (olf), .int (nI (lf)), .int (nI (fi))])), (oft, .inr (1, [.ref (b 0), .int (z9)]))] ++ stW cA b z4 ++ stW cA a x)) hm) hD
          exact hend _ _ _ _ _ z4 hP hD hS (by unfold tradesR; rw [if_pos (by simp [c1, c2, c3]), e_w, e_n, e_h, nI_clamp (n := w) (by omega), nI_clamp (n := n) (by omega), if_neg (fun q => c5 ((n_z (a := h) (by omega)).mp q))]) dX7_trades_59
        · skip
          rw [n_z (by omega)] at c5
          refine lv_iload hx hb dX7_trades_47 (lv_at hl 0 rfl) ?_
          refine lv_goto (tgt := 59) hx hb dX7_trades_49 (by decide) ?_
          have hP : va_P D vwCl ([(o, .inr (7, [.ref (orw), .ref (otp), .ref (a 0), .ref (oft), .ref (oac), .ref (oim), .ref (olf), .int (nI (lf)), .int (nI (fi))])), (oft, .inr (1, [.ref (b 0), .int (tradesS x pw pn ph ms)]))] ++ stW cA b z4 ++ stW cA a x) _ := Eq.mp (congrArg (fun z9 => va_P D vwCl ([(o, .inr (7, [.ref (orw), .ref (otp), .ref (a 0), .ref (oft), .ref (oac), .ref (oim), .ref (olf), .int (nI (lf)), .int (nI (fi))])), (oft, .inr (1, [.ref (b 0), .int (z9)]))] ++ stW cA b z4 ++ stW cA a x) _) hm) hP
          have hD : va_D A ([(o, .inr (7, [.ref (orw), .ref (otp), .ref (a 0), .ref (oft), .ref (oac), .ref (oim), .ref (olf), .int (nI (lf)), .int (nI (fi))])), (oft, .inr (1, [.ref (b 0), .int (tradesS x pw pn ph ms)]))] ++ stW cA b z4 ++ stW cA a x) := Eq.mp (congrArg (fun z9 => va_D A ([(o, .inr (7, [.ref (orw), .ref (otp), .ref (a 0), .ref (oft), .ref (oac), .ref (oim), .ref (olf), .int (nI (lf)), .int (nI (fi))])), (oft, .inr (1, [.ref (b 0), .int (z9)]))] ++ stW cA b z4 ++ stW cA a x)) hm) hD
          exact hend _ _ _ _ _ z4 hP hD hS (by unfold tradesR; rw [if_pos (by simp [c1, c2, c3]), e_w, e_n, e_h, nI_clamp (n := w) (by omega), nI_clamp (n := n) (by omega), if_pos ((n_z (a := h) (by omega)).mpr c5)]) dX7_trades_59
      · skip
        rw [bI_z] at c3
        refine lv_ldc (v := (-1000001)) hx hb hown (hts (.constant RX7 63 (-1000001)) (List.mem_of_getElem? (i := 1) rfl)) dX7_trades_25 ?_
        have hm : ms = tradesS x pw pn ph ms := by unfold tradesS; rw [if_neg (by simp [c1, c2, c3])]
        have hP : va_P D vwCl ([(o, .inr (7, [.ref (orw), .ref (otp), .ref (a 0), .ref (oft), .ref (oac), .ref (oim), .ref (olf), .int (nI (lf)), .int (nI (fi))])), (oft, .inr (1, [.ref (b 0), .int (tradesS x pw pn ph ms)]))] ++ stW cA b y ++ stW cA a x) _ := Eq.mp (congrArg (fun z9 => va_P D vwCl ([(o, .inr (7, [.ref (orw), .ref (otp), .ref (a 0), .ref (oft), .ref (oac), .ref (oim), .ref (olf), .int (nI (lf)), .int (nI (fi))])), (oft, .inr (1, [.ref (b 0), .int (z9)]))] ++ stW cA b y ++ stW cA a x) _) hm) hP
        have hD : va_D A ([(o, .inr (7, [.ref (orw), .ref (otp), .ref (a 0), .ref (oft), .ref (oac), .ref (oim), .ref (olf), .int (nI (lf)), .int (nI (fi))])), (oft, .inr (1, [.ref (b 0), .int (tradesS x pw pn ph ms)]))] ++ stW cA b y ++ stW cA a x) := Eq.mp (congrArg (fun z9 => va_D A ([(o, .inr (7, [.ref (orw), .ref (otp), .ref (a 0), .ref (oft), .ref (oac), .ref (oim), .ref (olf), .int (nI (lf)), .int (nI (fi))])), (oft, .inr (1, [.ref (b 0), .int (z9)]))] ++ stW cA b y ++ stW cA a x)) hm) hD
        exact hend _ _ _ _ _ y hP hD hS (by unfold tradesR; rw [if_neg (by simp [c1, c2, c3])]) dX7_trades_27
set_option maxRecDepth 100000 in
set_option maxHeartbeats 4000000 in
theorem c_X7_wind (l : Launch) (D : va_G) (cA : Nat → ClassId) (tt : Nat → Nat) (ms : Int32) (o orw otp oft oac oim olf : Nat) (a : Nat → Nat) (lf fi : Nat) (b : Nat → Nat) (x y : Sg) (pw pn pc9 ph : Int32) (hg : Wk x) (ht : St x + 61 < 1073741824) (sz : Nat) : ClE l D cA tt yX7_wind wsX7_wind ({ frames := 5, cells := 0, slots := 0, locals := 140 } : Room) [.ref (o), .int (pw), .int (pn), .int (pc9), .int (ph)] sz ([(o, .inr (7, [.ref (orw), .ref (otp), .ref (a 0), .ref (oft), .ref (oac), .ref (oim), .ref (olf), .int (nI (lf)), .int (nI (fi))])), (oft, .inr (1, [.ref (b 0), .int (ms)]))] ++ stW cA b y ++ stW cA a x) (fun zz : Sg => ([(o, .inr (7, [.ref (orw), .ref (otp), .ref (a 0), .ref (oft), .ref (oac), .ref (oim), .ref (olf), .int (nI (lf)), .int (nI (fi))])), (oft, .inr (1, [.ref (b 0), .int (ms)]))] ++ stW cA b zz ++ stW cA a x)) (windR x pw pn pc9 ph) := by
  obtain ⟨gn, ge, gv, go, ga⟩ := id hg
  refine ClE.mk (cc := cX7_wind) (maxL := 12) (by decide) rfl (Nat.le_of_ble_eq_true rfl) ?_
  intro p e s m below meth c A Q ls hB hl hend
  obtain ⟨⟨hx, hb, hml, hown, hts⟩, hP, hK, hD, hS, hA, hE⟩ := hB
  have hown : s.vm.findClass RX7 = some m.cls := hown
  have hwsX70 : ∀ w9 ∈ wsX70, w9.before ([.ref (o), .int (pw), .int (pn), .int (pc9), .int (ph)] : List Value).toArray s = true := fun w9 h => hts w9 (List.mem_cons_of_mem _ (List.mem_append_left _ (List.mem_append_left _ (List.mem_append_right _ h))))
  have hwsX40 : ∀ w9 ∈ wsX40, w9.before ([.ref (o), .int (pw), .int (pn), .int (pc9), .int (ph)] : List Value).toArray s = true := fun w9 h => hts w9 (List.mem_cons_of_mem _ (List.mem_append_left _ (List.mem_append_right _ h)))
  have hwsX10 : ∀ w9 ∈ wsX10, w9.before ([.ref (o), .int (pw), .int (pn), .int (pc9), .int (ph)] : List Value).toArray s = true := fun w9 h => hts w9 (List.mem_cons_of_mem _ (List.mem_append_right _ h))
  have hl : lv_has ls 12 [(0, .ref (o)), (1, .int (pw)), (2, .int (pn)), (3, .int (pc9)), (4, .int (ph))] := hl
  refine lv_aload_n hx hb dX7_wind_0 rfl (lv_at hl 0 rfl) ?_
  refine lv_iload_n hx hb dX7_wind_1 rfl (lv_at hl 1 rfl) ?_
  refine cVi (n := 1) (As := [.int (pw)]) (rest := []) (C := RX7) (ci := 7) (q0 := 0) (X := ([(o, .inr (7, [.ref (orw), .ref (otp), .ref (a 0), .ref (oft), .ref (oac), .ref (oim), .ref (olf), .int (nI (lf)), .int (nI (fi))])), (oft, .inr (1, [.ref (b 0), .int (ms)]))] ++ stW cA b y ++ stW cA a x)) (pl := []) (wc := ([(o, .inr (7, [.ref (orw), .ref (otp), .ref (a 0), .ref (oft), .ref (oac), .ref (oim), .ref (olf), .int (nI (lf)), .int (nI (fi))]))] ++ stW cA a x)) (wr := ([(oft, .inr (1, [.ref (b 0), .int (ms)]))] ++ stW cA b y)) (w1 := ([(o, .inr (7, [.ref (orw), .ref (otp), .ref (a 0), .ref (oft), .ref (oac), .ref (oim), .ref (olf), .int (nI (lf)), .int (nI (fi))]))] ++ stW cA a x)) (wn := ([(o, .inr (7, [.ref (orw), .ref (otp), .ref (a 0), .ref (oft), .ref (oac), .ref (oim), .ref (olf), .int (nI (lf)), .int (nI (fi))])), (oft, .inr (1, [.ref (b 0), .int (ms)]))] ++ stW cA b y ++ stW cA a x)) (isC := [0, 8, 9, 10, 11, 12, 13]) (isR := [1, 2, 3, 4, 5, 6, 7]) (isN := [7, 0, 1, 2, 3, 4, 5, 6, 8, 9, 10, 11, 12, 13]) ⟨hx, hb, hml, hown, hts⟩ (c_X7_isWindow l D cA tt o orw otp oft oac oim olf a lf fi x pw (hg) _) gX7_wind_X7_isWindow rfl (by decide +kernel) rfl rfl ⟨rfl, rfl⟩ ⟨Nat.le_of_ble_eq_true rfl, Nat.le_of_ble_eq_true rfl⟩ ⟨Nat.zero_le _, Nat.zero_le _⟩ hK hE hA hP hD hS ⟨⟨rfl, by decide⟩, ⟨rfl, by decide, by decide⟩, rfl, by decide⟩ rfl hl.1 rfl (Nat.le_of_ble_eq_true rfl) dX7_wind_2 (fun H locs hP hD hS => ?_)
  have hP : va_P D vwCl ([(o, .inr (7, [.ref (orw), .ref (otp), .ref (a 0), .ref (oft), .ref (oac), .ref (oim), .ref (olf), .int (nI (lf)), .int (nI (fi))])), (oft, .inr (1, [.ref (b 0), .int (ms)]))] ++ stW cA b y ++ stW cA a x) _ := hP
  have hD : va_D A ([(o, .inr (7, [.ref (orw), .ref (otp), .ref (a 0), .ref (oft), .ref (oac), .ref (oim), .ref (olf), .int (nI (lf)), .int (nI (fi))])), (oft, .inr (1, [.ref (b 0), .int (ms)]))] ++ stW cA b y ++ stW cA a x) := hD
  refine lv_if_eq (tgt := 36) hx hb dX7_wind_5 (by decide) (fun c1 => ?_) (fun c1 => ?_)
  · skip
    rw [bI_z] at c1
    refine lv_ldc2 (v := (-1000001)) hx hb hown (hts (.constantLong RX7 255 (-1000001)) (List.mem_of_getElem? (i := 1) rfl)) dX7_wind_36 ?_
    exact hend _ _ _ _ _ y hP hD hS (by unfold windR; rw [if_neg (by simp [c1])]) dX7_wind_39
  · skip
    rw [bI_nz] at c1
    obtain ⟨w, e_w, l_w⟩ := inW_t (by omega) c1
    rw [e_w] at hl
    refine lv_iload_n hx hb dX7_wind_8 rfl (lv_at hl 2 rfl) ?_
    refine lv_iconst (v := nI (0)) hx hb dX7_wind_9 (by decide) ?_
    refine lv_bipush (v := nI (24)) hx hb dX7_wind_10 (by decide) ?_
    refine cSi (n := 3) (As := [.int (pn), .int (nI (0)), .int (nI (24))]) (rest := []) (X := ([(o, .inr (7, [.ref (orw), .ref (otp), .ref (a 0), .ref (oft), .ref (oac), .ref (oim), .ref (olf), .int (nI (lf)), .int (nI (fi))])), (oft, .inr (1, [.ref (b 0), .int (ms)]))] ++ stW cA b y ++ stW cA a x)) (pl := []) (wc := ([] : va_W)) (wr := ([(o, .inr (7, [.ref (orw), .ref (otp), .ref (a 0), .ref (oft), .ref (oac), .ref (oim), .ref (olf), .int (nI (lf)), .int (nI (fi))])), (oft, .inr (1, [.ref (b 0), .int (ms)]))] ++ stW cA b y ++ stW cA a x)) (w1 := ([] : va_W)) (wn := ([(o, .inr (7, [.ref (orw), .ref (otp), .ref (a 0), .ref (oft), .ref (oac), .ref (oim), .ref (olf), .int (nI (lf)), .int (nI (fi))])), (oft, .inr (1, [.ref (b 0), .int (ms)]))] ++ stW cA b y ++ stW cA a x)) (isC := []) (isR := [0, 1, 2, 3, 4, 5, 6, 7, 8, 9, 10, 11, 12, 13]) (isN := [0, 1, 2, 3, 4, 5, 6, 7, 8, 9, 10, 11, 12, 13]) ⟨hx, hb, hml, hown, hts⟩ (c_X7_isWithin l D cA tt pn (nI (0)) (nI (24))  _) gX7_wind_X7_isWithin rfl (by decide +kernel) ⟨rfl, rfl⟩ ⟨Nat.le_of_ble_eq_true rfl, Nat.le_of_ble_eq_true rfl⟩ ⟨Nat.zero_le _, Nat.zero_le _⟩ hK hE hA hP hD hS ⟨⟨rfl, by decide⟩, ⟨rfl, by decide, by decide⟩, rfl, by decide⟩ rfl hl.1 rfl (Nat.le_of_ble_eq_true rfl) dX7_wind_12 (fun H locs hP hD hS => ?_)
    have hP : va_P D vwCl ([(o, .inr (7, [.ref (orw), .ref (otp), .ref (a 0), .ref (oft), .ref (oac), .ref (oim), .ref (olf), .int (nI (lf)), .int (nI (fi))])), (oft, .inr (1, [.ref (b 0), .int (ms)]))] ++ stW cA b y ++ stW cA a x) _ := hP
    have hD : va_D A ([(o, .inr (7, [.ref (orw), .ref (otp), .ref (a 0), .ref (oft), .ref (oac), .ref (oim), .ref (olf), .int (nI (lf)), .int (nI (fi))])), (oft, .inr (1, [.ref (b 0), .int (ms)]))] ++ stW cA b y ++ stW cA a x) := hD
    refine lv_if_eq (tgt := 36) hx hb dX7_wind_15 (by decide) (fun c2 => ?_) (fun c2 => ?_)
    · skip
      rw [bI_z] at c2
      refine lv_ldc2 (v := (-1000001)) hx hb hown (hts (.constantLong RX7 255 (-1000001)) (List.mem_of_getElem? (i := 1) rfl)) dX7_wind_36 ?_
      exact hend _ _ _ _ _ y hP hD hS (by unfold windR; rw [if_neg (by simp [c1, c2])]) dX7_wind_39
    · skip
      rw [bI_nz] at c2
      obtain ⟨n, e_n, a_n, l_n⟩ := inI_t (by decide) c2 (by decide)
      rw [e_n] at hl
      refine lv_iload_n hx hb dX7_wind_18 rfl (lv_at hl 3 rfl) ?_
      refine lv_iconst (v := nI (0)) hx hb dX7_wind_19 (by decide) ?_
      refine lv_bipush (v := nI (10)) hx hb dX7_wind_20 (by decide) ?_
      refine cSi (n := 3) (As := [.int (pc9), .int (nI (0)), .int (nI (10))]) (rest := []) (X := ([(o, .inr (7, [.ref (orw), .ref (otp), .ref (a 0), .ref (oft), .ref (oac), .ref (oim), .ref (olf), .int (nI (lf)), .int (nI (fi))])), (oft, .inr (1, [.ref (b 0), .int (ms)]))] ++ stW cA b y ++ stW cA a x)) (pl := []) (wc := ([] : va_W)) (wr := ([(o, .inr (7, [.ref (orw), .ref (otp), .ref (a 0), .ref (oft), .ref (oac), .ref (oim), .ref (olf), .int (nI (lf)), .int (nI (fi))])), (oft, .inr (1, [.ref (b 0), .int (ms)]))] ++ stW cA b y ++ stW cA a x)) (w1 := ([] : va_W)) (wn := ([(o, .inr (7, [.ref (orw), .ref (otp), .ref (a 0), .ref (oft), .ref (oac), .ref (oim), .ref (olf), .int (nI (lf)), .int (nI (fi))])), (oft, .inr (1, [.ref (b 0), .int (ms)]))] ++ stW cA b y ++ stW cA a x)) (isC := []) (isR := [0, 1, 2, 3, 4, 5, 6, 7, 8, 9, 10, 11, 12, 13]) (isN := [0, 1, 2, 3, 4, 5, 6, 7, 8, 9, 10, 11, 12, 13]) ⟨hx, hb, hml, hown, hts⟩ (c_X7_isWithin l D cA tt pc9 (nI (0)) (nI (10))  _) gX7_wind_X7_isWithin rfl (by decide +kernel) ⟨rfl, rfl⟩ ⟨Nat.le_of_ble_eq_true rfl, Nat.le_of_ble_eq_true rfl⟩ ⟨Nat.zero_le _, Nat.zero_le _⟩ hK hE hA hP hD hS ⟨⟨rfl, by decide⟩, ⟨rfl, by decide, by decide⟩, rfl, by decide⟩ rfl hl.1 rfl (Nat.le_of_ble_eq_true rfl) dX7_wind_22 (fun H locs hP hD hS => ?_)
      have hP : va_P D vwCl ([(o, .inr (7, [.ref (orw), .ref (otp), .ref (a 0), .ref (oft), .ref (oac), .ref (oim), .ref (olf), .int (nI (lf)), .int (nI (fi))])), (oft, .inr (1, [.ref (b 0), .int (ms)]))] ++ stW cA b y ++ stW cA a x) _ := hP
      have hD : va_D A ([(o, .inr (7, [.ref (orw), .ref (otp), .ref (a 0), .ref (oft), .ref (oac), .ref (oim), .ref (olf), .int (nI (lf)), .int (nI (fi))])), (oft, .inr (1, [.ref (b 0), .int (ms)]))] ++ stW cA b y ++ stW cA a x) := hD
      refine lv_if_eq (tgt := 36) hx hb dX7_wind_25 (by decide) (fun c3 => ?_) (fun c3 => ?_)
      · skip
        rw [bI_z] at c3
        refine lv_ldc2 (v := (-1000001)) hx hb hown (hts (.constantLong RX7 255 (-1000001)) (List.mem_of_getElem? (i := 1) rfl)) dX7_wind_36 ?_
        exact hend _ _ _ _ _ y hP hD hS (by unfold windR; rw [if_neg (by simp [c1, c2, c3])]) dX7_wind_39
      · skip
        rw [bI_nz] at c3
        obtain ⟨c9, e_c9, a_c9, l_c9⟩ := inI_t (by decide) c3 (by decide)
        rw [e_c9] at hl
        refine lv_iload hx hb dX7_wind_28 (lv_at hl 4 rfl) ?_
        refine cSi (n := 1) (As := [.int (ph)]) (rest := []) (X := ([(o, .inr (7, [.ref (orw), .ref (otp), .ref (a 0), .ref (oft), .ref (oac), .ref (oim), .ref (olf), .int (nI (lf)), .int (nI (fi))])), (oft, .inr (1, [.ref (b 0), .int (ms)]))] ++ stW cA b y ++ stW cA a x)) (pl := []) (wc := ([] : va_W)) (wr := ([(o, .inr (7, [.ref (orw), .ref (otp), .ref (a 0), .ref (oft), .ref (oac), .ref (oim), .ref (olf), .int (nI (lf)), .int (nI (fi))])), (oft, .inr (1, [.ref (b 0), .int (ms)]))] ++ stW cA b y ++ stW cA a x)) (w1 := ([] : va_W)) (wn := ([(o, .inr (7, [.ref (orw), .ref (otp), .ref (a 0), .ref (oft), .ref (oac), .ref (oim), .ref (olf), .int (nI (lf)), .int (nI (fi))])), (oft, .inr (1, [.ref (b 0), .int (ms)]))] ++ stW cA b y ++ stW cA a x)) (isC := []) (isR := [0, 1, 2, 3, 4, 5, 6, 7, 8, 9, 10, 11, 12, 13]) (isN := [0, 1, 2, 3, 4, 5, 6, 7, 8, 9, 10, 11, 12, 13]) ⟨hx, hb, hml, hown, hts⟩ (c_X7_isEither l D cA tt ph  _) gX7_wind_X7_isEither rfl (by decide +kernel) ⟨rfl, rfl⟩ ⟨Nat.le_of_ble_eq_true rfl, Nat.le_of_ble_eq_true rfl⟩ ⟨Nat.zero_le _, Nat.zero_le _⟩ hK hE hA hP hD hS ⟨⟨rfl, by decide⟩, ⟨rfl, by decide, by decide⟩, rfl, by decide⟩ rfl hl.1 rfl (Nat.le_of_ble_eq_true rfl) dX7_wind_30 (fun H locs hP hD hS => ?_)
        have hP : va_P D vwCl ([(o, .inr (7, [.ref (orw), .ref (otp), .ref (a 0), .ref (oft), .ref (oac), .ref (oim), .ref (olf), .int (nI (lf)), .int (nI (fi))])), (oft, .inr (1, [.ref (b 0), .int (ms)]))] ++ stW cA b y ++ stW cA a x) _ := hP
        have hD : va_D A ([(o, .inr (7, [.ref (orw), .ref (otp), .ref (a 0), .ref (oft), .ref (oac), .ref (oim), .ref (olf), .int (nI (lf)), .int (nI (fi))])), (oft, .inr (1, [.ref (b 0), .int (ms)]))] ++ stW cA b y ++ stW cA a x) := hD
        refine lv_if_ne (tgt := 40) hx hb dX7_wind_33 (by decide) (fun c4 => ?_) (fun c4 => ?_)
        · skip
          rw [bI_nz] at c4
          obtain ⟨h, e_h, a_h, l_h⟩ := inI_t (by decide) c4 (by decide)
          rw [e_h] at hl
          refine lv_aload_n hx hb dX7_wind_40 rfl (lv_at hl 0 rfl) ?_
          refine va_get (v := .ref (a 0)) (Ts := wsX70) (C := RX7) (T := TX7) (N := 9) hx hb hwsX70 (fun _ h => h) hown hK hP 0 rfl rfl 2 (by decide) (hts (.fieldLink RX7 26 "AdventStreets" "now" "LAdventStreets$Street;") (List.mem_of_getElem? (i := 2) rfl)) (fun _ h9 => h9) rfl dX7_wind_41 ?_
          refine lv_iload_n hx hb dX7_wind_44 rfl (lv_at hl 1 rfl) ?_
          refine cVi (n := 1) (As := [.int (nI (w))]) (rest := []) (C := RX4) (ci := 4) (q0 := 0) (X := ([(o, .inr (7, [.ref (orw), .ref (otp), .ref (a 0), .ref (oft), .ref (oac), .ref (oim), .ref (olf), .int (nI (lf)), .int (nI (fi))])), (oft, .inr (1, [.ref (b 0), .int (ms)]))] ++ stW cA b y ++ stW cA a x)) (pl := []) (wc := (stW cA a x)) (wr := ([(o, .inr (7, [.ref (orw), .ref (otp), .ref (a 0), .ref (oft), .ref (oac), .ref (oim), .ref (olf), .int (nI (lf)), .int (nI (fi))])), (oft, .inr (1, [.ref (b 0), .int (ms)]))] ++ stW cA b y)) (w1 := (stW cA a x)) (wn := ([(o, .inr (7, [.ref (orw), .ref (otp), .ref (a 0), .ref (oft), .ref (oac), .ref (oim), .ref (olf), .int (nI (lf)), .int (nI (fi))])), (oft, .inr (1, [.ref (b 0), .int (ms)]))] ++ stW cA b y ++ stW cA a x)) (isC := [8, 9, 10, 11, 12, 13]) (isR := [0, 1, 2, 3, 4, 5, 6, 7]) (isN := [0, 1, 2, 3, 4, 5, 6, 7, 8, 9, 10, 11, 12, 13]) ⟨hx, hb, hml, hown, hts⟩ (c_X4_touching l D cA tt a x w (hg) (by omega) _) gX7_wind_X4_touching rfl (by decide +kernel) rfl rfl ⟨rfl, rfl⟩ ⟨Nat.le_of_ble_eq_true rfl, Nat.le_of_ble_eq_true rfl⟩ ⟨Nat.zero_le _, Nat.zero_le _⟩ hK hE hA hP hD hS ⟨⟨rfl, by decide⟩, ⟨rfl, by decide, by decide⟩, rfl, by decide⟩ rfl hl.1 rfl (Nat.le_of_ble_eq_true rfl) dX7_wind_45 (fun H locs hP hD hS => ?_)
          have hP : va_P D vwCl ([(o, .inr (7, [.ref (orw), .ref (otp), .ref (a 0), .ref (oft), .ref (oac), .ref (oim), .ref (olf), .int (nI (lf)), .int (nI (fi))])), (oft, .inr (1, [.ref (b 0), .int (ms)]))] ++ stW cA b y ++ stW cA a x) _ := hP
          have hD : va_D A ([(o, .inr (7, [.ref (orw), .ref (otp), .ref (a 0), .ref (oft), .ref (oac), .ref (oim), .ref (olf), .int (nI (lf)), .int (nI (fi))])), (oft, .inr (1, [.ref (b 0), .int (ms)]))] ++ stW cA b y ++ stW cA a x) := hD
          have hto : touchF x w < 1024 := touch_lt gn (by omega) (Sn x)
          have hta : touchF x w &&& allF x = touchF x w := touch_all (by omega) (Sn x)
          have han : andn (touchF x w) (So x) < 1024 := Nat.lt_of_le_of_lt (andn_le _ _) hto
          have hon := onesN_le (andn (touchF x w) (So x))
          have hup := wwF_le x w n (ch := c9) (by omega) hto
          have hdn := ten_le hon
          have hgc := Nat.gcd_pos_of_pos_right (wwF x w n c9 (touchF x w)) (ten_pos (onesN (andn (touchF x w) (So x))))
          have hgl := Nat.gcd_le_right (wwF x w n c9 (touchF x w)) (ten_pos (onesN (andn (touchF x w) (So x))))
          refine lv_istore (lv' := [(5, .int (nI (touchF x w))), (0, .ref (o)), (1, .int (nI (w))), (2, .int (nI (n))), (3, .int (nI (c9))), (4, .int (nI (h)))]) hx hb dX7_wind_48 hl (by decide) rfl (fun ls hl => ?_)
          refine lv_aload_n hx hb dX7_wind_50 rfl (lv_at hl 1 rfl) ?_
          refine va_get (v := .ref (oft)) (Ts := wsX70) (C := RX7) (T := TX7) (N := 9) hx hb hwsX70 (fun _ h => h) hown hK hP 0 rfl rfl 3 (by decide) (hts (.fieldLink RX7 33 "AdventStreets" "foretold" "LAdventStreets$Foretold;") (List.mem_of_getElem? (i := 3) rfl)) (fun _ h9 => h9) rfl dX7_wind_51 ?_
          refine lv_aload_n hx hb dX7_wind_54 rfl (lv_at hl 1 rfl) ?_
          refine va_get (v := .ref (a 0)) (Ts := wsX70) (C := RX7) (T := TX7) (N := 9) hx hb hwsX70 (fun _ h => h) hown hK hP 0 rfl rfl 2 (by decide) (hts (.fieldLink RX7 26 "AdventStreets" "now" "LAdventStreets$Street;") (List.mem_of_getElem? (i := 2) rfl)) (fun _ h9 => h9) rfl dX7_wind_55 ?_
          refine lv_iload_n hx hb dX7_wind_58 rfl (lv_at hl 2 rfl) ?_
          refine lv_iload_n hx hb dX7_wind_59 rfl (lv_at hl 3 rfl) ?_
          refine lv_iload_n hx hb dX7_wind_60 rfl (lv_at hl 4 rfl) ?_
          refine lv_iload hx hb dX7_wind_61 (lv_at hl 0 rfl) ?_
          refine cVle (n := 5) (As := [.ref (a 0), .int (nI (w)), .int (nI (n)), .int (nI (c9)), .int (nI (touchF x w))]) (rest := []) (C := RX1) (ci := 1) (q0 := 0) (X := ([(o, .inr (7, [.ref (orw), .ref (otp), .ref (a 0), .ref (oft), .ref (oac), .ref (oim), .ref (olf), .int (nI (lf)), .int (nI (fi))])), (oft, .inr (1, [.ref (b 0), .int (ms)]))] ++ stW cA b y ++ stW cA a x)) (pl := []) (wc := ([(oft, .inr (1, [.ref (b 0), .int (ms)]))] ++ stW cA b y ++ stW cA a x)) (wr := [(o, .inr (7, [.ref (orw), .ref (otp), .ref (a 0), .ref (oft), .ref (oac), .ref (oim), .ref (olf), .int (nI (lf)), .int (nI (fi))]))]) (w1 := (fun z5 : Sg => ([(oft, .inr (1, [.ref (b 0), .int (ms)]))] ++ stW cA b z5 ++ stW cA a x))) (wn := (fun z5 : Sg => ([(o, .inr (7, [.ref (orw), .ref (otp), .ref (a 0), .ref (oft), .ref (oac), .ref (oim), .ref (olf), .int (nI (lf)), .int (nI (fi))])), (oft, .inr (1, [.ref (b 0), .int (ms)]))] ++ stW cA b z5 ++ stW cA a x))) (isC := [1, 2, 3, 4, 5, 6, 7, 8, 9, 10, 11, 12, 13]) (isR := [0]) (isN := [0, 1, 2, 3, 4, 5, 6, 7, 8, 9, 10, 11, 12, 13]) ⟨hx, hb, hml, hown, hts⟩ (c_X1_windyWays l D cA tt ms oft a b x y w n c9 (touchF x w) (hg) (ht) (by omega) (by omega) (by omega) (hto) (hta) _) gX7_wind_X1_windyWays rfl (by decide +kernel) rfl rfl ⟨rfl, rfl⟩ ⟨Nat.le_of_ble_eq_true rfl, Nat.le_of_ble_eq_true rfl⟩ ⟨Nat.zero_le _, Nat.zero_le _⟩ hK hE hA hP hD hS (fun z5 => ⟨⟨rfl, by decide⟩, ⟨rfl, by decide, by decide⟩, rfl, by decide⟩) rfl hl.1 rfl (Nat.le_of_ble_eq_true rfl) dX7_wind_63 (fun z5 H locs hP hD hS => ?_)
          have hP : va_P D vwCl ([(o, .inr (7, [.ref (orw), .ref (otp), .ref (a 0), .ref (oft), .ref (oac), .ref (oim), .ref (olf), .int (nI (lf)), .int (nI (fi))])), (oft, .inr (1, [.ref (b 0), .int (ms)]))] ++ stW cA b z5 ++ stW cA a x) _ := hP
          have hD : va_D A ([(o, .inr (7, [.ref (orw), .ref (otp), .ref (a 0), .ref (oft), .ref (oac), .ref (oim), .ref (olf), .int (nI (lf)), .int (nI (fi))])), (oft, .inr (1, [.ref (b 0), .int (ms)]))] ++ stW cA b z5 ++ stW cA a x) := hD
          refine lv_lstore (lv' := [(6, .long (lN (wwF x w n c9 (touchF x w)))), (5, .int (nI (touchF x w))), (0, .ref (o)), (1, .int (nI (w))), (2, .int (nI (n))), (3, .int (nI (c9))), (4, .int (nI (h)))]) hx hb dX7_wind_66 hl (by decide) rfl (fun ls hl => ?_)
          refine lv_bipush (v := nI (10)) hx hb dX7_wind_68 (by decide) ?_
          refine lv_iload hx hb dX7_wind_70 (lv_at hl 1 rfl) ?_
          refine lv_aload_n hx hb dX7_wind_72 rfl (lv_at hl 2 rfl) ?_
          refine va_get (v := .ref (a 0)) (Ts := wsX70) (C := RX7) (T := TX7) (N := 9) hx hb hwsX70 (fun _ h => h) hown hK hP 0 rfl rfl 2 (by decide) (hts (.fieldLink RX7 26 "AdventStreets" "now" "LAdventStreets$Street;") (List.mem_of_getElem? (i := 2) rfl)) (fun _ h9 => h9) rfl dX7_wind_73 ?_
          refine cVi (n := 0) (As := []) (rest := [.int (nI (touchF x w)), .int (nI (10))]) (C := RX4) (ci := 4) (q0 := 0) (X := ([(o, .inr (7, [.ref (orw), .ref (otp), .ref (a 0), .ref (oft), .ref (oac), .ref (oim), .ref (olf), .int (nI (lf)), .int (nI (fi))])), (oft, .inr (1, [.ref (b 0), .int (ms)]))] ++ stW cA b z5 ++ stW cA a x)) (pl := []) (wc := (stW cA a x)) (wr := ([(o, .inr (7, [.ref (orw), .ref (otp), .ref (a 0), .ref (oft), .ref (oac), .ref (oim), .ref (olf), .int (nI (lf)), .int (nI (fi))])), (oft, .inr (1, [.ref (b 0), .int (ms)]))] ++ stW cA b z5)) (w1 := (stW cA a x)) (wn := ([(o, .inr (7, [.ref (orw), .ref (otp), .ref (a 0), .ref (oft), .ref (oac), .ref (oim), .ref (olf), .int (nI (lf)), .int (nI (fi))])), (oft, .inr (1, [.ref (b 0), .int (ms)]))] ++ stW cA b z5 ++ stW cA a x)) (isC := [8, 9, 10, 11, 12, 13]) (isR := [0, 1, 2, 3, 4, 5, 6, 7]) (isN := [0, 1, 2, 3, 4, 5, 6, 7, 8, 9, 10, 11, 12, 13]) ⟨hx, hb, hml, hown, hts⟩ (c_X4_shutOnes l D cA tt a x (hg) _) gX7_wind_X4_shutOnes rfl (by decide +kernel) rfl rfl ⟨rfl, rfl⟩ ⟨Nat.le_of_ble_eq_true rfl, Nat.le_of_ble_eq_true rfl⟩ ⟨Nat.zero_le _, Nat.zero_le _⟩ hK hE hA hP hD hS ⟨⟨rfl, by decide⟩, ⟨rfl, by decide, by decide⟩, rfl, by decide⟩ rfl hl.1 rfl (Nat.le_of_ble_eq_true rfl) dX7_wind_76 (fun H locs hP hD hS => ?_)
          have hP : va_P D vwCl ([(o, .inr (7, [.ref (orw), .ref (otp), .ref (a 0), .ref (oft), .ref (oac), .ref (oim), .ref (olf), .int (nI (lf)), .int (nI (fi))])), (oft, .inr (1, [.ref (b 0), .int (ms)]))] ++ stW cA b z5 ++ stW cA a x) _ := hP
          have hD : va_D A ([(o, .inr (7, [.ref (orw), .ref (otp), .ref (a 0), .ref (oft), .ref (oac), .ref (oim), .ref (olf), .int (nI (lf)), .int (nI (fi))])), (oft, .inr (1, [.ref (b 0), .int (ms)]))] ++ stW cA b z5 ++ stW cA a x) := hD
          refine lv_iand hx hb dX7_wind_79 ?_
          refine vn_i (v := nI (andn (touchF x w) (So x))) (by rw [n_and, shut_part hta]) ?_
          refine cSi (n := 1) (As := [.int (nI (andn (touchF x w) (So x)))]) (rest := [.int (nI (10))]) (X := ([(o, .inr (7, [.ref (orw), .ref (otp), .ref (a 0), .ref (oft), .ref (oac), .ref (oim), .ref (olf), .int (nI (lf)), .int (nI (fi))])), (oft, .inr (1, [.ref (b 0), .int (ms)]))] ++ stW cA b z5 ++ stW cA a x)) (pl := []) (wc := ([] : va_W)) (wr := ([(o, .inr (7, [.ref (orw), .ref (otp), .ref (a 0), .ref (oft), .ref (oac), .ref (oim), .ref (olf), .int (nI (lf)), .int (nI (fi))])), (oft, .inr (1, [.ref (b 0), .int (ms)]))] ++ stW cA b z5 ++ stW cA a x)) (w1 := ([] : va_W)) (wn := ([(o, .inr (7, [.ref (orw), .ref (otp), .ref (a 0), .ref (oft), .ref (oac), .ref (oim), .ref (olf), .int (nI (lf)), .int (nI (fi))])), (oft, .inr (1, [.ref (b 0), .int (ms)]))] ++ stW cA b z5 ++ stW cA a x)) (isC := []) (isR := [0, 1, 2, 3, 4, 5, 6, 7, 8, 9, 10, 11, 12, 13]) (isN := [0, 1, 2, 3, 4, 5, 6, 7, 8, 9, 10, 11, 12, 13]) ⟨hx, hb, hml, hown, hts⟩ (c_J6_bitCount_0f7a4 l D cA tt (andn (touchF x w) (So x)) (han) _) gX7_wind_J6_bitCount_0f7a4 rfl (by decide +kernel) ⟨rfl, rfl⟩ ⟨Nat.le_of_ble_eq_true rfl, Nat.le_of_ble_eq_true rfl⟩ ⟨Nat.zero_le _, Nat.zero_le _⟩ hK hE hA hP hD hS ⟨⟨rfl, by decide⟩, ⟨rfl, by decide, by decide⟩, rfl, by decide⟩ rfl hl.1 rfl (Nat.le_of_ble_eq_true rfl) dX7_wind_80 (fun H locs hP hD hS => ?_)
          have hP : va_P D vwCl ([(o, .inr (7, [.ref (orw), .ref (otp), .ref (a 0), .ref (oft), .ref (oac), .ref (oim), .ref (olf), .int (nI (lf)), .int (nI (fi))])), (oft, .inr (1, [.ref (b 0), .int (ms)]))] ++ stW cA b z5 ++ stW cA a x) _ := hP
          have hD : va_D A ([(o, .inr (7, [.ref (orw), .ref (otp), .ref (a 0), .ref (oft), .ref (oac), .ref (oim), .ref (olf), .int (nI (lf)), .int (nI (fi))])), (oft, .inr (1, [.ref (b 0), .int (ms)]))] ++ stW cA b z5 ++ stW cA a x) := hD
          refine cSl (n := 2) (As := [.int (nI (10)), .int (nI (onesN (andn (touchF x w) (So x))))]) (rest := []) (X := ([(o, .inr (7, [.ref (orw), .ref (otp), .ref (a 0), .ref (oft), .ref (oac), .ref (oim), .ref (olf), .int (nI (lf)), .int (nI (fi))])), (oft, .inr (1, [.ref (b 0), .int (ms)]))] ++ stW cA b z5 ++ stW cA a x)) (pl := []) (wc := ([] : va_W)) (wr := ([(o, .inr (7, [.ref (orw), .ref (otp), .ref (a 0), .ref (oft), .ref (oac), .ref (oim), .ref (olf), .int (nI (lf)), .int (nI (fi))])), (oft, .inr (1, [.ref (b 0), .int (ms)]))] ++ stW cA b z5 ++ stW cA a x)) (w1 := ([] : va_W)) (wn := ([(o, .inr (7, [.ref (orw), .ref (otp), .ref (a 0), .ref (oft), .ref (oac), .ref (oim), .ref (olf), .int (nI (lf)), .int (nI (fi))])), (oft, .inr (1, [.ref (b 0), .int (ms)]))] ++ stW cA b z5 ++ stW cA a x)) (isC := []) (isR := [0, 1, 2, 3, 4, 5, 6, 7, 8, 9, 10, 11, 12, 13]) (isN := [0, 1, 2, 3, 4, 5, 6, 7, 8, 9, 10, 11, 12, 13]) ⟨hx, hb, hml, hown, hts⟩ (c_X7_power l D cA tt 10 (onesN (andn (touchF x w) (So x))) (by decide) (by omega) _) gX7_wind_X7_power rfl (by decide +kernel) ⟨rfl, rfl⟩ ⟨Nat.le_of_ble_eq_true rfl, Nat.le_of_ble_eq_true rfl⟩ ⟨Nat.zero_le _, Nat.zero_le _⟩ hK hE hA hP hD hS ⟨⟨rfl, by decide⟩, ⟨rfl, by decide, by decide⟩, rfl, by decide⟩ rfl hl.1 rfl (Nat.le_of_ble_eq_true rfl) dX7_wind_83 (fun H locs hP hD hS => ?_)
          have hP : va_P D vwCl ([(o, .inr (7, [.ref (orw), .ref (otp), .ref (a 0), .ref (oft), .ref (oac), .ref (oim), .ref (olf), .int (nI (lf)), .int (nI (fi))])), (oft, .inr (1, [.ref (b 0), .int (ms)]))] ++ stW cA b z5 ++ stW cA a x) _ := hP
          have hD : va_D A ([(o, .inr (7, [.ref (orw), .ref (otp), .ref (a 0), .ref (oft), .ref (oac), .ref (oim), .ref (olf), .int (nI (lf)), .int (nI (fi))])), (oft, .inr (1, [.ref (b 0), .int (ms)]))] ++ stW cA b z5 ++ stW cA a x) := hD
          refine lv_lstore (lv' := [(8, .long (lN (10 ^ (onesN (andn (touchF x w) (So x)))))), (6, .long (lN (wwF x w n c9 (touchF x w)))), (5, .int (nI (touchF x w))), (0, .ref (o)), (1, .int (nI (w))), (2, .int (nI (n))), (3, .int (nI (c9))), (4, .int (nI (h)))]) hx hb dX7_wind_86 hl (by decide) rfl (fun ls hl => ?_)
          refine lv_lload hx hb dX7_wind_88 (lv_at hl 1 rfl) ?_
          refine lv_lload hx hb dX7_wind_90 (lv_at hl 0 rfl) ?_
          refine cSl (n := 2) (As := [.long (lN (wwF x w n c9 (touchF x w))), .long (lN (10 ^ (onesN (andn (touchF x w) (So x)))))]) (rest := []) (X := ([(o, .inr (7, [.ref (orw), .ref (otp), .ref (a 0), .ref (oft), .ref (oac), .ref (oim), .ref (olf), .int (nI (lf)), .int (nI (fi))])), (oft, .inr (1, [.ref (b 0), .int (ms)]))] ++ stW cA b z5 ++ stW cA a x)) (pl := []) (wc := ([] : va_W)) (wr := ([(o, .inr (7, [.ref (orw), .ref (otp), .ref (a 0), .ref (oft), .ref (oac), .ref (oim), .ref (olf), .int (nI (lf)), .int (nI (fi))])), (oft, .inr (1, [.ref (b 0), .int (ms)]))] ++ stW cA b z5 ++ stW cA a x)) (w1 := ([] : va_W)) (wn := ([(o, .inr (7, [.ref (orw), .ref (otp), .ref (a 0), .ref (oft), .ref (oac), .ref (oim), .ref (olf), .int (nI (lf)), .int (nI (fi))])), (oft, .inr (1, [.ref (b 0), .int (ms)]))] ++ stW cA b z5 ++ stW cA a x)) (isC := []) (isR := [0, 1, 2, 3, 4, 5, 6, 7, 8, 9, 10, 11, 12, 13]) (isN := [0, 1, 2, 3, 4, 5, 6, 7, 8, 9, 10, 11, 12, 13]) ⟨hx, hb, hml, hown, hts⟩ (c_X7_commonDivisor l D cA tt (wwF x w n c9 (touchF x w)) (10 ^ (onesN (andn (touchF x w) (So x)))) (by omega) (by omega) _) gX7_wind_X7_commonDivisor rfl (by decide +kernel) ⟨rfl, rfl⟩ ⟨Nat.le_of_ble_eq_true rfl, Nat.le_of_ble_eq_true rfl⟩ ⟨Nat.zero_le _, Nat.zero_le _⟩ hK hE hA hP hD hS ⟨⟨rfl, by decide⟩, ⟨rfl, by decide, by decide⟩, rfl, by decide⟩ rfl hl.1 rfl (Nat.le_of_ble_eq_true rfl) dX7_wind_92 (fun H locs hP hD hS => ?_)
          have hP : va_P D vwCl ([(o, .inr (7, [.ref (orw), .ref (otp), .ref (a 0), .ref (oft), .ref (oac), .ref (oim), .ref (olf), .int (nI (lf)), .int (nI (fi))])), (oft, .inr (1, [.ref (b 0), .int (ms)]))] ++ stW cA b z5 ++ stW cA a x) _ := hP
          have hD : va_D A ([(o, .inr (7, [.ref (orw), .ref (otp), .ref (a 0), .ref (oft), .ref (oac), .ref (oim), .ref (olf), .int (nI (lf)), .int (nI (fi))])), (oft, .inr (1, [.ref (b 0), .int (ms)]))] ++ stW cA b z5 ++ stW cA a x) := hD
          refine lv_lstore (lv' := [(10, .long (lN (Nat.gcd (wwF x w n c9 (touchF x w)) (10 ^ (onesN (andn (touchF x w) (So x))))))), (8, .long (lN (10 ^ (onesN (andn (touchF x w) (So x)))))), (6, .long (lN (wwF x w n c9 (touchF x w)))), (5, .int (nI (touchF x w))), (0, .ref (o)), (1, .int (nI (w))), (2, .int (nI (n))), (3, .int (nI (c9))), (4, .int (nI (h)))]) hx hb dX7_wind_95 hl (by decide) rfl (fun ls hl => ?_)
          refine lv_lload hx hb dX7_wind_97 (lv_at hl 0 rfl) ?_
          refine lv_lconst (v := lN 0) hx hb dX7_wind_99 rfl ?_
          refine W.lcmp hx hb dX7_wind_100 ?_
          refine lv_if_gt (tgt := 108) hx hb dX7_wind_101 (by decide) (fun c6 => ?_) (fun c6 => ?_)
          · skip
            rw [lg_cmp_gt] at c6
            rw [pk_lLT (by omega) (by omega)] at c6
            refine lv_iload hx hb dX7_wind_108 (lv_at hl 8 rfl) ?_
            refine lv_if_ne (tgt := 118) hx hb dX7_wind_110 (by decide) (fun c7 => ?_) (fun c7 => ?_)
            · skip
              rw [n_z (by omega)] at c7
              refine lv_lload hx hb dX7_wind_118 (lv_at hl 1 rfl) ?_
              refine lv_lload hx hb dX7_wind_120 (lv_at hl 0 rfl) ?_
              refine lv_ldiv hx hb dX7_wind_122 (lN_ne0 (by omega) (by omega)) ?_
              refine vn_l (v := lN ((10 ^ (onesN (andn (touchF x w) (So x)))) / (Nat.gcd (wwF x w n c9 (touchF x w)) (10 ^ (onesN (andn (touchF x w) (So x))))))) (pk_lDiv (by omega) (by omega) (by omega)) ?_
              exact hend _ _ _ _ _ z5 hP hD hS (by unfold windR; rw [if_pos (by simp [c1, c2, c3, c4]), e_w, e_n, e_c9, e_h, nI_clamp (n := w) (by omega), nI_clamp (n := n) (by omega), nI_clamp (n := c9) (by omega), if_neg (fun q => c7 ((n_z (a := h) (by omega)).mp q))]) dX7_wind_123
            · skip
              rw [n_z (by omega)] at c7
              refine lv_lload hx hb dX7_wind_113 (lv_at hl 2 rfl) ?_
              refine lv_goto (tgt := 120) hx hb dX7_wind_115 (by decide) ?_
              refine lv_lload hx hb dX7_wind_120 (lv_at hl 0 rfl) ?_
              refine lv_ldiv hx hb dX7_wind_122 (lN_ne0 (by omega) (by omega)) ?_
              refine vn_l (v := lN ((wwF x w n c9 (touchF x w)) / (Nat.gcd (wwF x w n c9 (touchF x w)) (10 ^ (onesN (andn (touchF x w) (So x))))))) (pk_lDiv (by omega) (by omega) (by omega)) ?_
              exact hend _ _ _ _ _ z5 hP hD hS (by unfold windR; rw [if_pos (by simp [c1, c2, c3, c4]), e_w, e_n, e_c9, e_h, nI_clamp (n := w) (by omega), nI_clamp (n := n) (by omega), nI_clamp (n := c9) (by omega), if_pos ((n_z (a := h) (by omega)).mpr c7)]) dX7_wind_123
          · skip
            rw [lg_cmp_gt] at c6
            rw [pk_lLT (by omega) (by omega)] at c6
            exact absurd hgc c6
        · skip
          rw [bI_z] at c4
          refine lv_ldc2 (v := (-1000001)) hx hb hown (hts (.constantLong RX7 255 (-1000001)) (List.mem_of_getElem? (i := 1) rfl)) dX7_wind_36 ?_
          exact hend _ _ _ _ _ y hP hD hS (by unfold windR; rw [if_neg (by simp [c1, c2, c3, c4])]) dX7_wind_39
set_option maxRecDepth 100000 in
set_option maxHeartbeats 4000000 in
theorem c_X7_drawn (l : Launch) (D : va_G) (cA : Nat → ClassId) (tt : Nat → Nat) (ms : Int32) (o orw otp oft oac oim olf : Nat) (a : Nat → Nat) (lf fi : Nat) (b : Nat → Nat) (x y : Sg) (pn pd ph : Int32) (hg : Wk x) (ht : St x + 61 < 1073741824) (sz : Nat) : CiE l D cA tt yX7_drawn wsX7_drawn ({ frames := 5, cells := 0, slots := 0, locals := 112 } : Room) [.ref (o), .int (pn), .int (pd), .int (ph)] sz ([(o, .inr (7, [.ref (orw), .ref (otp), .ref (a 0), .ref (oft), .ref (oac), .ref (oim), .ref (olf), .int (nI (lf)), .int (nI (fi))])), (oft, .inr (1, [.ref (b 0), .int (ms)]))] ++ stW cA b y ++ stW cA a x) (fun zz : Sg => ([(o, .inr (7, [.ref (orw), .ref (otp), .ref (a 0), .ref (oft), .ref (oac), .ref (oim), .ref (olf), .int (nI (lf)), .int (nI (fi))])), (oft, .inr (1, [.ref (b 0), .int (ms)]))] ++ stW cA b zz ++ stW cA a x)) (drawnR x pn pd ph) := by
  obtain ⟨gn, ge, gv, go, ga⟩ := id hg
  refine CiE.mk (cc := cX7_drawn) (maxL := 5) (ty := .int) (by decide) rfl rfl (Nat.le_of_ble_eq_true rfl) ?_
  intro p e s m below meth c A Q ls hB hl hend
  obtain ⟨⟨hx, hb, hml, hown, hts⟩, hP, hK, hD, hS, hA, hE⟩ := hB
  have hown : s.vm.findClass RX7 = some m.cls := hown
  have hwsX70 : ∀ w9 ∈ wsX70, w9.before ([.ref (o), .int (pn), .int (pd), .int (ph)] : List Value).toArray s = true := fun w9 h => hts w9 (List.mem_cons_of_mem _ (List.mem_append_left _ (List.mem_append_left _ (List.mem_append_right _ h))))
  have hwsX40 : ∀ w9 ∈ wsX40, w9.before ([.ref (o), .int (pn), .int (pd), .int (ph)] : List Value).toArray s = true := fun w9 h => hts w9 (List.mem_cons_of_mem _ (List.mem_append_left _ (List.mem_append_right _ h)))
  have hwsX10 : ∀ w9 ∈ wsX10, w9.before ([.ref (o), .int (pn), .int (pd), .int (ph)] : List Value).toArray s = true := fun w9 h => hts w9 (List.mem_cons_of_mem _ (List.mem_append_right _ h))
  have hl : lv_has ls 5 [(0, .ref (o)), (1, .int (pn)), (2, .int (pd)), (3, .int (ph))] := hl
  refine lv_aload_n hx hb dX7_drawn_0 rfl (lv_at hl 0 rfl) ?_
  refine cVi (n := 0) (As := []) (rest := []) (C := RX7) (ci := 7) (q0 := 0) (X := ([(o, .inr (7, [.ref (orw), .ref (otp), .ref (a 0), .ref (oft), .ref (oac), .ref (oim), .ref (olf), .int (nI (lf)), .int (nI (fi))])), (oft, .inr (1, [.ref (b 0), .int (ms)]))] ++ stW cA b y ++ stW cA a x)) (pl := []) (wc := ([(o, .inr (7, [.ref (orw), .ref (otp), .ref (a 0), .ref (oft), .ref (oac), .ref (oim), .ref (olf), .int (nI (lf)), .int (nI (fi))]))] ++ stW cA a x)) (wr := ([(oft, .inr (1, [.ref (b 0), .int (ms)]))] ++ stW cA b y)) (w1 := ([(o, .inr (7, [.ref (orw), .ref (otp), .ref (a 0), .ref (oft), .ref (oac), .ref (oim), .ref (olf), .int (nI (lf)), .int (nI (fi))]))] ++ stW cA a x)) (wn := ([(o, .inr (7, [.ref (orw), .ref (otp), .ref (a 0), .ref (oft), .ref (oac), .ref (oim), .ref (olf), .int (nI (lf)), .int (nI (fi))])), (oft, .inr (1, [.ref (b 0), .int (ms)]))] ++ stW cA b y ++ stW cA a x)) (isC := [0, 8, 9, 10, 11, 12, 13]) (isR := [1, 2, 3, 4, 5, 6, 7]) (isN := [7, 0, 1, 2, 3, 4, 5, 6, 8, 9, 10, 11, 12, 13]) ⟨hx, hb, hml, hown, hts⟩ (c_X7_isStreetless l D cA tt o orw otp oft oac oim olf a lf fi x (hg) _) gX7_drawn_X7_isStreetless rfl (by decide +kernel) rfl rfl ⟨rfl, rfl⟩ ⟨Nat.le_of_ble_eq_true rfl, Nat.le_of_ble_eq_true rfl⟩ ⟨Nat.zero_le _, Nat.zero_le _⟩ hK hE hA hP hD hS ⟨⟨rfl, by decide⟩, ⟨rfl, by decide, by decide⟩, rfl, by decide⟩ rfl hl.1 rfl (Nat.le_of_ble_eq_true rfl) dX7_drawn_1 (fun H locs hP hD hS => ?_)
  have hP : va_P D vwCl ([(o, .inr (7, [.ref (orw), .ref (otp), .ref (a 0), .ref (oft), .ref (oac), .ref (oim), .ref (olf), .int (nI (lf)), .int (nI (fi))])), (oft, .inr (1, [.ref (b 0), .int (ms)]))] ++ stW cA b y ++ stW cA a x) _ := hP
  have hD : va_D A ([(o, .inr (7, [.ref (orw), .ref (otp), .ref (a 0), .ref (oft), .ref (oac), .ref (oim), .ref (olf), .int (nI (lf)), .int (nI (fi))])), (oft, .inr (1, [.ref (b 0), .int (ms)]))] ++ stW cA b y ++ stW cA a x) := hD
  refine lv_if_eq (tgt := 10) hx hb dX7_drawn_4 (by decide) (fun c1 => ?_) (fun c1 => ?_)
  · skip
    rw [bI_z] at c1
    refine lv_iload_n hx hb dX7_drawn_10 rfl (lv_at hl 1 rfl) ?_
    refine lv_iconst (v := nI (0)) hx hb dX7_drawn_11 (by decide) ?_
    refine lv_bipush (v := nI (60)) hx hb dX7_drawn_12 (by decide) ?_
    refine cSi (n := 3) (As := [.int (pn), .int (nI (0)), .int (nI (60))]) (rest := []) (X := ([(o, .inr (7, [.ref (orw), .ref (otp), .ref (a 0), .ref (oft), .ref (oac), .ref (oim), .ref (olf), .int (nI (lf)), .int (nI (fi))])), (oft, .inr (1, [.ref (b 0), .int (ms)]))] ++ stW cA b y ++ stW cA a x)) (pl := []) (wc := ([] : va_W)) (wr := ([(o, .inr (7, [.ref (orw), .ref (otp), .ref (a 0), .ref (oft), .ref (oac), .ref (oim), .ref (olf), .int (nI (lf)), .int (nI (fi))])), (oft, .inr (1, [.ref (b 0), .int (ms)]))] ++ stW cA b y ++ stW cA a x)) (w1 := ([] : va_W)) (wn := ([(o, .inr (7, [.ref (orw), .ref (otp), .ref (a 0), .ref (oft), .ref (oac), .ref (oim), .ref (olf), .int (nI (lf)), .int (nI (fi))])), (oft, .inr (1, [.ref (b 0), .int (ms)]))] ++ stW cA b y ++ stW cA a x)) (isC := []) (isR := [0, 1, 2, 3, 4, 5, 6, 7, 8, 9, 10, 11, 12, 13]) (isN := [0, 1, 2, 3, 4, 5, 6, 7, 8, 9, 10, 11, 12, 13]) ⟨hx, hb, hml, hown, hts⟩ (c_X7_isWithin l D cA tt pn (nI (0)) (nI (60))  _) gX7_drawn_X7_isWithin rfl (by decide +kernel) ⟨rfl, rfl⟩ ⟨Nat.le_of_ble_eq_true rfl, Nat.le_of_ble_eq_true rfl⟩ ⟨Nat.zero_le _, Nat.zero_le _⟩ hK hE hA hP hD hS ⟨⟨rfl, by decide⟩, ⟨rfl, by decide, by decide⟩, rfl, by decide⟩ rfl hl.1 rfl (Nat.le_of_ble_eq_true rfl) dX7_drawn_14 (fun H locs hP hD hS => ?_)
    have hP : va_P D vwCl ([(o, .inr (7, [.ref (orw), .ref (otp), .ref (a 0), .ref (oft), .ref (oac), .ref (oim), .ref (olf), .int (nI (lf)), .int (nI (fi))])), (oft, .inr (1, [.ref (b 0), .int (ms)]))] ++ stW cA b y ++ stW cA a x) _ := hP
    have hD : va_D A ([(o, .inr (7, [.ref (orw), .ref (otp), .ref (a 0), .ref (oft), .ref (oac), .ref (oim), .ref (olf), .int (nI (lf)), .int (nI (fi))])), (oft, .inr (1, [.ref (b 0), .int (ms)]))] ++ stW cA b y ++ stW cA a x) := hD
    refine lv_if_eq (tgt := 38) hx hb dX7_drawn_17 (by decide) (fun c2 => ?_) (fun c2 => ?_)
    · skip
      rw [bI_z] at c2
      refine lv_ldc (v := (-1000001)) hx hb hown (hts (.constant RX7 63 (-1000001)) (List.mem_of_getElem? (i := 3) rfl)) dX7_drawn_38 ?_
      exact hend _ _ _ _ _ y hP hD hS (by unfold drawnR; rw [if_neg (of_decide_eq_false c1), if_neg (by simp [c2])]) dX7_drawn_40
    · skip
      rw [bI_nz] at c2
      obtain ⟨n, e_n, a_n, l_n⟩ := inI_t (by decide) c2 (by decide)
      rw [e_n] at hl
      refine lv_iload_n hx hb dX7_drawn_20 rfl (lv_at hl 2 rfl) ?_
      refine lv_iconst (v := nI (1)) hx hb dX7_drawn_21 (by decide) ?_
      refine lv_ldcw (v := (999999)) hx hb hown (hts (.constant RX7 272 (999999)) (List.mem_of_getElem? (i := 2) rfl)) dX7_drawn_22 ?_
      refine vn_i (v := nI 999999) (by decide) ?_
      refine cSi (n := 3) (As := [.int (pd), .int (nI (1)), .int (nI (999999))]) (rest := []) (X := ([(o, .inr (7, [.ref (orw), .ref (otp), .ref (a 0), .ref (oft), .ref (oac), .ref (oim), .ref (olf), .int (nI (lf)), .int (nI (fi))])), (oft, .inr (1, [.ref (b 0), .int (ms)]))] ++ stW cA b y ++ stW cA a x)) (pl := []) (wc := ([] : va_W)) (wr := ([(o, .inr (7, [.ref (orw), .ref (otp), .ref (a 0), .ref (oft), .ref (oac), .ref (oim), .ref (olf), .int (nI (lf)), .int (nI (fi))])), (oft, .inr (1, [.ref (b 0), .int (ms)]))] ++ stW cA b y ++ stW cA a x)) (w1 := ([] : va_W)) (wn := ([(o, .inr (7, [.ref (orw), .ref (otp), .ref (a 0), .ref (oft), .ref (oac), .ref (oim), .ref (olf), .int (nI (lf)), .int (nI (fi))])), (oft, .inr (1, [.ref (b 0), .int (ms)]))] ++ stW cA b y ++ stW cA a x)) (isC := []) (isR := [0, 1, 2, 3, 4, 5, 6, 7, 8, 9, 10, 11, 12, 13]) (isN := [0, 1, 2, 3, 4, 5, 6, 7, 8, 9, 10, 11, 12, 13]) ⟨hx, hb, hml, hown, hts⟩ (c_X7_isWithin l D cA tt pd (nI (1)) (nI (999999))  _) gX7_drawn_X7_isWithin rfl (by decide +kernel) ⟨rfl, rfl⟩ ⟨Nat.le_of_ble_eq_true rfl, Nat.le_of_ble_eq_true rfl⟩ ⟨Nat.zero_le _, Nat.zero_le _⟩ hK hE hA hP hD hS ⟨⟨rfl, by decide⟩, ⟨rfl, by decide, by decide⟩, rfl, by decide⟩ rfl hl.1 rfl (Nat.le_of_ble_eq_true rfl) dX7_drawn_25 (fun H locs hP hD hS => ?_)
      have hP : va_P D vwCl ([(o, .inr (7, [.ref (orw), .ref (otp), .ref (a 0), .ref (oft), .ref (oac), .ref (oim), .ref (olf), .int (nI (lf)), .int (nI (fi))])), (oft, .inr (1, [.ref (b 0), .int (ms)]))] ++ stW cA b y ++ stW cA a x) _ := hP
      have hD : va_D A ([(o, .inr (7, [.ref (orw), .ref (otp), .ref (a 0), .ref (oft), .ref (oac), .ref (oim), .ref (olf), .int (nI (lf)), .int (nI (fi))])), (oft, .inr (1, [.ref (b 0), .int (ms)]))] ++ stW cA b y ++ stW cA a x) := hD
      refine lv_if_eq (tgt := 38) hx hb dX7_drawn_28 (by decide) (fun c3 => ?_) (fun c3 => ?_)
      · skip
        rw [bI_z] at c3
        refine lv_ldc (v := (-1000001)) hx hb hown (hts (.constant RX7 63 (-1000001)) (List.mem_of_getElem? (i := 3) rfl)) dX7_drawn_38 ?_
        exact hend _ _ _ _ _ y hP hD hS (by unfold drawnR; rw [if_neg (of_decide_eq_false c1), if_neg (by simp [c2, c3])]) dX7_drawn_40
      · skip
        rw [bI_nz] at c3
        obtain ⟨d, e_d, a_d, l_d⟩ := inI_t (by decide) c3 (by decide)
        rw [e_d] at hl
        refine lv_iload_n hx hb dX7_drawn_31 rfl (lv_at hl 3 rfl) ?_
        refine cSi (n := 1) (As := [.int (ph)]) (rest := []) (X := ([(o, .inr (7, [.ref (orw), .ref (otp), .ref (a 0), .ref (oft), .ref (oac), .ref (oim), .ref (olf), .int (nI (lf)), .int (nI (fi))])), (oft, .inr (1, [.ref (b 0), .int (ms)]))] ++ stW cA b y ++ stW cA a x)) (pl := []) (wc := ([] : va_W)) (wr := ([(o, .inr (7, [.ref (orw), .ref (otp), .ref (a 0), .ref (oft), .ref (oac), .ref (oim), .ref (olf), .int (nI (lf)), .int (nI (fi))])), (oft, .inr (1, [.ref (b 0), .int (ms)]))] ++ stW cA b y ++ stW cA a x)) (w1 := ([] : va_W)) (wn := ([(o, .inr (7, [.ref (orw), .ref (otp), .ref (a 0), .ref (oft), .ref (oac), .ref (oim), .ref (olf), .int (nI (lf)), .int (nI (fi))])), (oft, .inr (1, [.ref (b 0), .int (ms)]))] ++ stW cA b y ++ stW cA a x)) (isC := []) (isR := [0, 1, 2, 3, 4, 5, 6, 7, 8, 9, 10, 11, 12, 13]) (isN := [0, 1, 2, 3, 4, 5, 6, 7, 8, 9, 10, 11, 12, 13]) ⟨hx, hb, hml, hown, hts⟩ (c_X7_isEither l D cA tt ph  _) gX7_drawn_X7_isEither rfl (by decide +kernel) ⟨rfl, rfl⟩ ⟨Nat.le_of_ble_eq_true rfl, Nat.le_of_ble_eq_true rfl⟩ ⟨Nat.zero_le _, Nat.zero_le _⟩ hK hE hA hP hD hS ⟨⟨rfl, by decide⟩, ⟨rfl, by decide, by decide⟩, rfl, by decide⟩ rfl hl.1 rfl (Nat.le_of_ble_eq_true rfl) dX7_drawn_32 (fun H locs hP hD hS => ?_)
        have hP : va_P D vwCl ([(o, .inr (7, [.ref (orw), .ref (otp), .ref (a 0), .ref (oft), .ref (oac), .ref (oim), .ref (olf), .int (nI (lf)), .int (nI (fi))])), (oft, .inr (1, [.ref (b 0), .int (ms)]))] ++ stW cA b y ++ stW cA a x) _ := hP
        have hD : va_D A ([(o, .inr (7, [.ref (orw), .ref (otp), .ref (a 0), .ref (oft), .ref (oac), .ref (oim), .ref (olf), .int (nI (lf)), .int (nI (fi))])), (oft, .inr (1, [.ref (b 0), .int (ms)]))] ++ stW cA b y ++ stW cA a x) := hD
        refine lv_if_ne (tgt := 41) hx hb dX7_drawn_35 (by decide) (fun c4 => ?_) (fun c4 => ?_)
        · skip
          rw [bI_nz] at c4
          obtain ⟨h, e_h, a_h, l_h⟩ := inI_t (by decide) c4 (by decide)
          rw [e_h] at hl
          have hn0 : 0 < Sn x := Nat.pos_of_ne_zero (of_decide_eq_false c1)
          refine lv_aload_n hx hb dX7_drawn_41 rfl (lv_at hl 0 rfl) ?_
          refine va_get (v := .ref (oft)) (Ts := wsX70) (C := RX7) (T := TX7) (N := 9) hx hb hwsX70 (fun _ h => h) hown hK hP 0 rfl rfl 3 (by decide) (hts (.fieldLink RX7 33 "AdventStreets" "foretold" "LAdventStreets$Foretold;") (List.mem_of_getElem? (i := 4) rfl)) (fun _ h9 => h9) rfl dX7_drawn_42 ?_
          refine lv_aload_n hx hb dX7_drawn_45 rfl (lv_at hl 0 rfl) ?_
          refine va_get (v := .ref (a 0)) (Ts := wsX70) (C := RX7) (T := TX7) (N := 9) hx hb hwsX70 (fun _ h => h) hown hK hP 0 rfl rfl 2 (by decide) (hts (.fieldLink RX7 26 "AdventStreets" "now" "LAdventStreets$Street;") (List.mem_of_getElem? (i := 5) rfl)) (fun _ h9 => h9) rfl dX7_drawn_46 ?_
          refine lv_iload_n hx hb dX7_drawn_49 rfl (lv_at hl 1 rfl) ?_
          refine lv_iload_n hx hb dX7_drawn_50 rfl (lv_at hl 2 rfl) ?_
          refine cVr (n := 3) (As := [.ref (a 0), .int (nI (n)), .int (nI (d))]) (rest := []) (C := RX1) (ci := 1) (q0 := 0) (X := ([(o, .inr (7, [.ref (orw), .ref (otp), .ref (a 0), .ref (oft), .ref (oac), .ref (oim), .ref (olf), .int (nI (lf)), .int (nI (fi))])), (oft, .inr (1, [.ref (b 0), .int (ms)]))] ++ stW cA b y ++ stW cA a x)) (pl := []) (wc := ([(oft, .inr (1, [.ref (b 0), .int (ms)]))] ++ stW cA b y ++ stW cA a x)) (wr := [(o, .inr (7, [.ref (orw), .ref (otp), .ref (a 0), .ref (oft), .ref (oac), .ref (oim), .ref (olf), .int (nI (lf)), .int (nI (fi))]))]) (w1 := ([(oft, .inr (1, [.ref (b 0), .int (ms)]))] ++ stW cA b ((yrs x d n).2) ++ stW cA a x)) (wn := ([(o, .inr (7, [.ref (orw), .ref (otp), .ref (a 0), .ref (oft), .ref (oac), .ref (oim), .ref (olf), .int (nI (lf)), .int (nI (fi))])), (oft, .inr (1, [.ref (b 0), .int (ms)]))] ++ stW cA b ((yrs x d n).2) ++ stW cA a x)) (isC := [1, 2, 3, 4, 5, 6, 7, 8, 9, 10, 11, 12, 13]) (isR := [0]) (isN := [0, 1, 2, 3, 4, 5, 6, 7, 8, 9, 10, 11, 12, 13]) ⟨hx, hb, hml, hown, hts⟩ (c_X1_years l D cA tt ms oft a b x y n d (hg) (ht) (by omega) (by omega) (by omega) _) gX7_drawn_X1_years rfl (by decide +kernel) rfl rfl ⟨rfl, rfl⟩ ⟨Nat.le_of_ble_eq_true rfl, Nat.le_of_ble_eq_true rfl⟩ ⟨Nat.zero_le _, Nat.zero_le _⟩ hK hE hA hP hD hS ⟨⟨rfl, by decide⟩, ⟨rfl, by decide, by decide⟩, rfl, by decide⟩ rfl hl.1 rfl (Nat.le_of_ble_eq_true rfl) dX7_drawn_51 (fun H locs hP hD hS => ?_)
          have hP : va_P D vwCl ([(o, .inr (7, [.ref (orw), .ref (otp), .ref (a 0), .ref (oft), .ref (oac), .ref (oim), .ref (olf), .int (nI (lf)), .int (nI (fi))])), (oft, .inr (1, [.ref (b 0), .int (ms)]))] ++ stW cA b ((yrs x d n).2) ++ stW cA a x) _ := hP
          have hD : va_D A ([(o, .inr (7, [.ref (orw), .ref (otp), .ref (a 0), .ref (oft), .ref (oac), .ref (oim), .ref (olf), .int (nI (lf)), .int (nI (fi))])), (oft, .inr (1, [.ref (b 0), .int (ms)]))] ++ stW cA b ((yrs x d n).2) ++ stW cA a x) := hD
          have hyo := yrs_ok hg hn0 d n
          refine lv_astore (lv' := [(4, .ref (b 0)), (0, .ref (o)), (1, .int (nI (n))), (2, .int (nI (d))), (3, .int (nI (h)))]) hx hb dX7_drawn_54 hl (by decide) rfl (fun ls hl => ?_)
          refine lv_iload_n hx hb dX7_drawn_56 rfl (lv_at hl 4 rfl) ?_
          refine lv_if_ne (tgt := 68) hx hb dX7_drawn_57 (by decide) (fun c5 => ?_) (fun c5 => ?_)
          · skip
            rw [n_z (by omega)] at c5
            refine lv_aload hx hb dX7_drawn_68 (lv_at hl 0 rfl) ?_
            refine cVi (n := 0) (As := []) (rest := []) (C := RX4) (ci := 4) (q0 := 0) (X := ([(o, .inr (7, [.ref (orw), .ref (otp), .ref (a 0), .ref (oft), .ref (oac), .ref (oim), .ref (olf), .int (nI (lf)), .int (nI (fi))])), (oft, .inr (1, [.ref (b 0), .int (ms)]))] ++ stW cA b ((yrs x d n).2) ++ stW cA a x)) (pl := []) (wc := (stW cA b ((yrs x d n).2))) (wr := ([(o, .inr (7, [.ref (orw), .ref (otp), .ref (a 0), .ref (oft), .ref (oac), .ref (oim), .ref (olf), .int (nI (lf)), .int (nI (fi))])), (oft, .inr (1, [.ref (b 0), .int (ms)]))] ++ stW cA a x)) (w1 := (stW cA b ((yrs x d n).2))) (wn := ([(o, .inr (7, [.ref (orw), .ref (otp), .ref (a 0), .ref (oft), .ref (oac), .ref (oim), .ref (olf), .int (nI (lf)), .int (nI (fi))])), (oft, .inr (1, [.ref (b 0), .int (ms)]))] ++ stW cA b ((yrs x d n).2) ++ stW cA a x)) (isC := [2, 3, 4, 5, 6, 7]) (isR := [0, 1, 8, 9, 10, 11, 12, 13]) (isN := [0, 1, 8, 9, 10, 11, 12, 13, 2, 3, 4, 5, 6, 7]) ⟨hx, hb, hml, hown, hts⟩ (c_X4_seenBySome l D cA tt b ((yrs x d n).2) (hyo.1) _) gX7_drawn_X4_seenBySome rfl (by decide +kernel) rfl rfl ⟨rfl, rfl⟩ ⟨Nat.le_of_ble_eq_true rfl, Nat.le_of_ble_eq_true rfl⟩ ⟨Nat.zero_le _, Nat.zero_le _⟩ hK hE hA hP hD hS ⟨⟨rfl, by decide⟩, ⟨rfl, by decide, by decide⟩, rfl, by decide⟩ rfl hl.1 rfl (Nat.le_of_ble_eq_true rfl) dX7_drawn_70 (fun H locs hP hD hS => ?_)
            have hP : va_P D vwCl ([(o, .inr (7, [.ref (orw), .ref (otp), .ref (a 0), .ref (oft), .ref (oac), .ref (oim), .ref (olf), .int (nI (lf)), .int (nI (fi))])), (oft, .inr (1, [.ref (b 0), .int (ms)]))] ++ stW cA b ((yrs x d n).2) ++ stW cA a x) _ := hP
            have hD : va_D A ([(o, .inr (7, [.ref (orw), .ref (otp), .ref (a 0), .ref (oft), .ref (oac), .ref (oim), .ref (olf), .int (nI (lf)), .int (nI (fi))])), (oft, .inr (1, [.ref (b 0), .int (ms)]))] ++ stW cA b ((yrs x d n).2) ++ stW cA a x) := hD
            refine cSi (n := 1) (As := [.int (nI (seenF ((yrs x d n).2)))]) (rest := []) (X := ([(o, .inr (7, [.ref (orw), .ref (otp), .ref (a 0), .ref (oft), .ref (oac), .ref (oim), .ref (olf), .int (nI (lf)), .int (nI (fi))])), (oft, .inr (1, [.ref (b 0), .int (ms)]))] ++ stW cA b ((yrs x d n).2) ++ stW cA a x)) (pl := []) (wc := ([] : va_W)) (wr := ([(o, .inr (7, [.ref (orw), .ref (otp), .ref (a 0), .ref (oft), .ref (oac), .ref (oim), .ref (olf), .int (nI (lf)), .int (nI (fi))])), (oft, .inr (1, [.ref (b 0), .int (ms)]))] ++ stW cA b ((yrs x d n).2) ++ stW cA a x)) (w1 := ([] : va_W)) (wn := ([(o, .inr (7, [.ref (orw), .ref (otp), .ref (a 0), .ref (oft), .ref (oac), .ref (oim), .ref (olf), .int (nI (lf)), .int (nI (fi))])), (oft, .inr (1, [.ref (b 0), .int (ms)]))] ++ stW cA b ((yrs x d n).2) ++ stW cA a x)) (isC := []) (isR := [0, 1, 2, 3, 4, 5, 6, 7, 8, 9, 10, 11, 12, 13]) (isN := [0, 1, 2, 3, 4, 5, 6, 7, 8, 9, 10, 11, 12, 13]) ⟨hx, hb, hml, hown, hts⟩ (c_J6_bitCount_0f7a4 l D cA tt (seenF ((yrs x d n).2)) (by first | exact hyo.1.2.2.2.1 | exact seenF_lt hyo.1) _) gX7_drawn_J6_bitCount_0f7a4 rfl (by decide +kernel) ⟨rfl, rfl⟩ ⟨Nat.le_of_ble_eq_true rfl, Nat.le_of_ble_eq_true rfl⟩ ⟨Nat.zero_le _, Nat.zero_le _⟩ hK hE hA hP hD hS ⟨⟨rfl, by decide⟩, ⟨rfl, by decide, by decide⟩, rfl, by decide⟩ rfl hl.1 rfl (Nat.le_of_ble_eq_true rfl) dX7_drawn_73 (fun H locs hP hD hS => ?_)
            have hP : va_P D vwCl ([(o, .inr (7, [.ref (orw), .ref (otp), .ref (a 0), .ref (oft), .ref (oac), .ref (oim), .ref (olf), .int (nI (lf)), .int (nI (fi))])), (oft, .inr (1, [.ref (b 0), .int (ms)]))] ++ stW cA b ((yrs x d n).2) ++ stW cA a x) _ := hP
            have hD : va_D A ([(o, .inr (7, [.ref (orw), .ref (otp), .ref (a 0), .ref (oft), .ref (oac), .ref (oim), .ref (olf), .int (nI (lf)), .int (nI (fi))])), (oft, .inr (1, [.ref (b 0), .int (ms)]))] ++ stW cA b ((yrs x d n).2) ++ stW cA a x) := hD
            exact hend _ _ _ _ _ ((yrs x d n).2) hP hD hS (by unfold drawnR; rw [if_neg (of_decide_eq_false c1), if_pos (by simp [c2, c3, c4]), e_n, e_d, e_h, nI_clamp (n := n) (by omega), nI_clamp (n := d) (by omega), if_neg (fun q => c5 ((n_z (a := h) (by omega)).mp q))]) dX7_drawn_76
          · skip
            rw [n_z (by omega)] at c5
            refine lv_aload hx hb dX7_drawn_60 (lv_at hl 0 rfl) ?_
            refine va_getN (v := .int (nI (So ((yrs x d n).2)))) (Ts := wsX40) (C := RX4) (T := TX4) (N := 10) hx hb hwsX40 (fun _ h => h) hown hK hP 2 rfl rfl 9 (by decide) (hE.1.f (q := ("AdventStreets", 157, "AdventStreets$Street", "opened", "I")) 24 rfl) (fun _ h9 => h9) rfl dX7_drawn_62 ?_
            refine lv_goto (tgt := 73) hx hb dX7_drawn_65 (by decide) ?_
            refine cSi (n := 1) (As := [.int (nI (So ((yrs x d n).2)))]) (rest := []) (X := ([(o, .inr (7, [.ref (orw), .ref (otp), .ref (a 0), .ref (oft), .ref (oac), .ref (oim), .ref (olf), .int (nI (lf)), .int (nI (fi))])), (oft, .inr (1, [.ref (b 0), .int (ms)]))] ++ stW cA b ((yrs x d n).2) ++ stW cA a x)) (pl := []) (wc := ([] : va_W)) (wr := ([(o, .inr (7, [.ref (orw), .ref (otp), .ref (a 0), .ref (oft), .ref (oac), .ref (oim), .ref (olf), .int (nI (lf)), .int (nI (fi))])), (oft, .inr (1, [.ref (b 0), .int (ms)]))] ++ stW cA b ((yrs x d n).2) ++ stW cA a x)) (w1 := ([] : va_W)) (wn := ([(o, .inr (7, [.ref (orw), .ref (otp), .ref (a 0), .ref (oft), .ref (oac), .ref (oim), .ref (olf), .int (nI (lf)), .int (nI (fi))])), (oft, .inr (1, [.ref (b 0), .int (ms)]))] ++ stW cA b ((yrs x d n).2) ++ stW cA a x)) (isC := []) (isR := [0, 1, 2, 3, 4, 5, 6, 7, 8, 9, 10, 11, 12, 13]) (isN := [0, 1, 2, 3, 4, 5, 6, 7, 8, 9, 10, 11, 12, 13]) ⟨hx, hb, hml, hown, hts⟩ (c_J6_bitCount_0f7a4 l D cA tt (So ((yrs x d n).2)) (by first | exact hyo.1.2.2.2.1 | exact seenF_lt hyo.1) _) gX7_drawn_J6_bitCount_0f7a4 rfl (by decide +kernel) ⟨rfl, rfl⟩ ⟨Nat.le_of_ble_eq_true rfl, Nat.le_of_ble_eq_true rfl⟩ ⟨Nat.zero_le _, Nat.zero_le _⟩ hK hE hA hP hD hS ⟨⟨rfl, by decide⟩, ⟨rfl, by decide, by decide⟩, rfl, by decide⟩ rfl hl.1 rfl (Nat.le_of_ble_eq_true rfl) dX7_drawn_73 (fun H locs hP hD hS => ?_)
            have hP : va_P D vwCl ([(o, .inr (7, [.ref (orw), .ref (otp), .ref (a 0), .ref (oft), .ref (oac), .ref (oim), .ref (olf), .int (nI (lf)), .int (nI (fi))])), (oft, .inr (1, [.ref (b 0), .int (ms)]))] ++ stW cA b ((yrs x d n).2) ++ stW cA a x) _ := hP
            have hD : va_D A ([(o, .inr (7, [.ref (orw), .ref (otp), .ref (a 0), .ref (oft), .ref (oac), .ref (oim), .ref (olf), .int (nI (lf)), .int (nI (fi))])), (oft, .inr (1, [.ref (b 0), .int (ms)]))] ++ stW cA b ((yrs x d n).2) ++ stW cA a x) := hD
            exact hend _ _ _ _ _ ((yrs x d n).2) hP hD hS (by unfold drawnR; rw [if_neg (of_decide_eq_false c1), if_pos (by simp [c2, c3, c4]), e_n, e_d, e_h, nI_clamp (n := n) (by omega), nI_clamp (n := d) (by omega), if_pos ((n_z (a := h) (by omega)).mpr c5)]) dX7_drawn_76
        · skip
          rw [bI_z] at c4
          refine lv_ldc (v := (-1000001)) hx hb hown (hts (.constant RX7 63 (-1000001)) (List.mem_of_getElem? (i := 3) rfl)) dX7_drawn_38 ?_
          exact hend _ _ _ _ _ y hP hD hS (by unfold drawnR; rw [if_neg (of_decide_eq_false c1), if_neg (by simp [c2, c3, c4])]) dX7_drawn_40
  · skip
    rw [bI_nz] at c1
    refine lv_ldc (v := (-1000002)) hx hb hown (hts (.constant RX7 147 (-1000002)) (List.mem_of_getElem? (i := 1) rfl)) dX7_drawn_7 ?_
    exact hend _ _ _ _ _ y hP hD hS (by unfold drawnR; rw [if_pos (of_decide_eq_true c1)]) dX7_drawn_9
