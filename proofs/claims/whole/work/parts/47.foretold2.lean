/-! ===== Foretold, further ===== -/
def drawF (y : Sg) (v : Nat) : Sg := if v % 3 = 0 then wO y (So y ^^^ 2 ^ (v % Sn y)) else wG y (upN (SG y) (v % Sn y) (v % 10))
theorem draw_ok {y : Sg} (h : Wk y) (v : Nat) (h0 : 0 < Sn y) : Wk (drawF y v) ∧ St (drawF y v) = St y ∧ Sn (drawF y v) = Sn y := by
  have hm := Nat.mod_lt v h0
  unfold drawF
  split
  · exact ⟨h.o (Nat.xor_lt_two_pow (n := 10) h.2.2.2.1 (pow10 (by have := h.1; omega))), rfl, rfl⟩
  · refine ⟨h.g (fun k hk => ?_), rfl, rfl⟩
    unfold upN
    split
    · omega
    · exact (h.2.2.2.2 k hk).2.2.2.1
def yrs (x : Sg) (sd : Nat) : Nat → Nat × Sg
  | 0 => (sd, x)
  | i + 1 => ((yrs x sd i).1 * 16807 % 2147483647, turnF (drawF (yrs x sd i).2 ((yrs x sd i).1 * 16807 % 2147483647)))
def fitLo (wh : Nat) : Nat := if wh = 3 then 2 else if wh = 2 then 0 else 1
def fitHi (wh : Nat) : Nat := if wh = 3 then 24 else if wh = 2 then 9 else if wh = 1 then 24 else 5
theorem fitLo_le (wh : Nat) : fitLo wh ≤ 2 := by unfold fitLo; split <;> (try split) <;> omega
theorem fitHi_le (wh : Nat) : fitHi wh ≤ 24 ∧ 5 ≤ fitHi wh := by unfold fitHi; split <;> (try split) <;> (try split) <;> omega
def fitP (x : Sg) (w : Nat) (g : Nat → Int32) (fr n wh v : Nat) : Bool := toldB (suppF x w wh v) w g fr n
def fitL (x : Sg) (w : Nat) (g : Nat → Int32) (fr n wh : Nat) : Nat → Nat
  | 0 => 0
  | i + 1 => if fitP x w g fr n wh (fitLo wh + i) = true then fitL x w g fr n wh i ||| 2 ^ (fitLo wh + i) else fitL x w g fr n wh i
def fitF (x : Sg) (w : Nat) (g : Nat → Int32) (fr n wh : Nat) : Nat := fitL x w g fr n wh (fitHi wh + 1 - fitLo wh)
theorem up_lt {f : Nat → Nat} {m w v b : Nat} (hf : ∀ k, k < b → f k < m) (hv : v < m) : ∀ k, k < b → upN f w v k < m := fun k hk => by
  unfold upN
  split
  · exact hv
  · exact hf k hk
theorem Wk.supp {x : Sg} (h : Wk x) {w : Nat} (_ : w < 10) (wh : Nat) {v : Nat} (hv : v < 1024) : Wk (suppF x w wh v) := by
  obtain ⟨a, b, c, d, e⟩ := id h
  unfold suppF
  split
  · exact ⟨a, b, c, d, fun k hk => ⟨up_lt (fun k hk => (e k hk).1) hv k hk, (e k hk).2⟩⟩
  · split
    · exact h.d (up_lt (fun k hk => (e k hk).2.2.1) hv)
    · split
      · exact h.g (up_lt (fun k hk => (e k hk).2.2.2.1) hv)
      · exact ⟨a, hv, c, d, e⟩
theorem supp_t (x : Sg) (w wh v : Nat) : St (suppF x w wh v) = St x := by
  unfold suppF
  split
  · rfl
  · split
    · rfl
    · split <;> rfl
theorem cntN_le (x : Nat) : ∀ k, cntN x k ≤ k := by
  intro k
  induction k with
  | zero => exact Nat.le_refl _
  | succ k ih => unfold cntN; split <;> omega
theorem onesN_le (x : Nat) : onesN x ≤ 10 := cntN_le x 10
theorem cntN_mono {x y : Nat} (h : ∀ k, x.testBit k = true → y.testBit k = true) : ∀ k, cntN x k ≤ cntN y k := by
  intro k
  induction k with
  | zero => exact Nat.le_refl _
  | succ k ih =>
    unfold cntN
    by_cases q : x.testBit k = true
    · rw [if_pos q, if_pos (h k q)]; omega
    · rw [if_neg q]; omega
theorem andn_0 {x y : Nat} (h : andn x y = 0) (k : Nat) (q : x.testBit k = true) : y.testBit k = true := by
  have e := andn_tb x y k
  rw [h, Nat.zero_testBit, q] at e
  cases hy : y.testBit k
  · rw [hy] at e; cases e
  · rfl
theorem onesN_sub {x y : Nat} (h : andn x y = 0) : onesN x ≤ onesN y := cntN_mono (andn_0 h) 10
def wwW (ch part o i : Nat) : Nat := ch ^ onesN i * (10 - ch) ^ (onesN (andn part o) - onesN i)
def wwT (x : Sg) (w n ch part i : Nat) : Nat := if andn i (andn part (So x)) = 0 ∧ ¬ wwW ch part (So x) i = 0 ∧ behB x w n i part = true then wwW ch part (So x) i else 0
def wwL (x : Sg) (w n ch part : Nat) : Nat → Nat
  | 0 => 0
  | i + 1 => wwL x w n ch part i + wwT x w n ch part i
def wwF (x : Sg) (w n ch part : Nat) : Nat := wwL x w n ch part (andn part (So x) + 1)
theorem wwW_le {ch : Nat} (hc : ch ≤ 10) (part o i : Nat) (h : onesN i ≤ onesN (andn part o)) : wwW ch part o i ≤ 10000000000 := by
  unfold wwW
  have h1 : ch ^ onesN i ≤ 10 ^ onesN i := Nat.pow_le_pow_left hc _
  have h2 : (10 - ch) ^ (onesN (andn part o) - onesN i) ≤ 10 ^ (onesN (andn part o) - onesN i) := Nat.pow_le_pow_left (by omega) _
  have h3 := Nat.mul_le_mul h1 h2
  rw [← Nat.pow_add] at h3
  have h4 : 10 ^ (onesN i + (onesN (andn part o) - onesN i)) ≤ 10 ^ 10 := Nat.pow_le_pow_right (by decide) (by have := onesN_le (andn part o); omega)
  have h5 : 10 ^ 10 = 10000000000 := by decide
  omega
theorem wwT_le (x : Sg) (w n : Nat) {ch : Nat} (hc : ch ≤ 10) (part i : Nat) : wwT x w n ch part i ≤ 10000000000 := by
  unfold wwT
  split
  · rename_i q
    exact wwW_le hc _ _ _ (onesN_sub q.1)
  · omega
theorem wwL_le (x : Sg) (w n : Nat) {ch : Nat} (hc : ch ≤ 10) (part i : Nat) : wwL x w n ch part i ≤ i * 10000000000 := by
  induction i with
  | zero => exact Nat.zero_le _
  | succ i ih =>
    have := wwT_le x w n hc part i
    unfold wwL
    omega
set_option maxRecDepth 100000 in
set_option maxHeartbeats 4000000 in
theorem c_X1_draw (l : Launch) (D : va_G) (cA : Nat → ClassId) (tt : Nat → Nat) (ms : Int32) (q : Nat) (b : Nat → Nat) (y : Sg) (v : Nat) (hg : Wk y) (h0 : 0 < Sn y) (hv : v < 2147483648) (sz : Nat) : Cv l D cA tt yX1_draw wsX1_draw ({ frames := 0, cells := 0, slots := 0, locals := 0 } : Room) [.ref (q), .long (lN (v))] sz ([(q, .inr (1, [.ref (b 0), .int (ms)]))] ++ stW cA b y) ([(q, .inr (1, [.ref (b 0), .int (ms)]))] ++ stW cA b (drawF y v)) := by
  obtain ⟨gn, ge, gv, go, ga⟩ := id hg
  have hm := Nat.mod_lt v h0
  have hm3 := Nat.mod_lt v (show 0 < 3 by decide)
  have hm10 := Nat.mod_lt v (show 0 < 10 by decide)
  refine Cv.mk (cc := cX1_draw) (maxL := 4) (by decide) rfl (Nat.le_of_ble_eq_true rfl) ?_
  intro p e s m below meth c A Q ls hB hl hend
  obtain ⟨⟨hx, hb, hml, hown, hts⟩, hP, hK, hD, hS, hA, hE⟩ := hB
  have hown : s.vm.findClass RX1 = some m.cls := hown
  have hwsX10 : ∀ w9 ∈ wsX10, w9.before ([.ref (q), .long (lN (v))] : List Value).toArray s = true := fun w9 h => hts w9 (List.mem_cons_of_mem _ (List.mem_append_left _ (List.mem_append_right _ h)))
  have hwsX40 : ∀ w9 ∈ wsX40, w9.before ([.ref (q), .long (lN (v))] : List Value).toArray s = true := fun w9 h => hts w9 (List.mem_cons_of_mem _ (List.mem_append_right _ h))
  have hl : lv_has ls 4 [(0, .ref (q)), (1, .long (lN (v)))] := hl
  refine lv_aload_n hx hb dX1_draw_0 rfl (lv_at hl 0 rfl) ?_
  refine va_get (v := .ref (b 0)) (Ts := wsX10) (C := RX1) (T := TX1) (N := 2) hx hb hwsX10 (fun _ h => h) hown hK hP 0 rfl rfl 0 (by decide) (hts (.fieldLink RX1 12 "AdventStreets$Foretold" "trial" "LAdventStreets$Street;") (List.mem_of_getElem? (i := 1) rfl)) (fun _ h9 => h9) rfl dX1_draw_1 ?_
  refine va_getN (v := .int (nI (Sn y))) (Ts := wsX40) (C := RX4) (T := TX4) (N := 10) hx hb hwsX40 (fun _ h => h) hown hK hP 1 rfl rfl 5 (by decide) (hE.1.f (q := ("AdventStreets$Foretold", 75, "AdventStreets$Street", "windows", "I")) 19 rfl) (fun _ h9 => h9) rfl dX1_draw_4 ?_
  refine lv_if_ne (tgt := 11) hx hb dX1_draw_7 (by decide) (fun c1 => ?_) (fun c1 => ?_)
  · skip
    rw [n_z (by omega)] at c1
    refine lv_lload_n hx hb dX1_draw_11 rfl (lv_at hl 1 rfl) ?_
    refine lv_aload_n hx hb dX1_draw_12 rfl (lv_at hl 0 rfl) ?_
    refine va_get (v := .ref (b 0)) (Ts := wsX10) (C := RX1) (T := TX1) (N := 2) hx hb hwsX10 (fun _ h => h) hown hK hP 0 rfl rfl 0 (by decide) (hts (.fieldLink RX1 12 "AdventStreets$Foretold" "trial" "LAdventStreets$Street;") (List.mem_of_getElem? (i := 1) rfl)) (fun _ h9 => h9) rfl dX1_draw_13 ?_
    refine va_getN (v := .int (nI (Sn y))) (Ts := wsX40) (C := RX4) (T := TX4) (N := 10) hx hb hwsX40 (fun _ h => h) hown hK hP 1 rfl rfl 5 (by decide) (hE.1.f (q := ("AdventStreets$Foretold", 75, "AdventStreets$Street", "windows", "I")) 19 rfl) (fun _ h9 => h9) rfl dX1_draw_16 ?_
    refine lv_i2l (v := lN (Sn y)) hx hb dX1_draw_19 (nI_l (by omega)) ?_
    refine lv_lrem hx hb dX1_draw_20 (lN_ne0 (by omega) (by omega)) ?_
    refine vn_l (v := lN (v % (Sn y))) (pk_lRem (by omega) (by omega) (by omega)) ?_
    refine lv_l2i (v := nI (v % (Sn y))) hx hb dX1_draw_21 (lN_i _) ?_
    refine lv_istore_n (lv' := [(3, .int (nI (v % (Sn y)))), (0, .ref (q)), (1, .long (lN (v)))]) hx hb dX1_draw_22 rfl hl (by decide) rfl (fun ls hl => ?_)
    refine lv_lload_n hx hb dX1_draw_23 rfl (lv_at hl 2 rfl) ?_
    refine lv_ldc2 (v := (3)) hx hb hown (hts (.constantLong RX1 127 (3)) (List.mem_of_getElem? (i := 2) rfl)) dX1_draw_24 ?_
    refine vn_l (v := lN 3) (by decide) ?_
    refine lv_lrem hx hb dX1_draw_27 (lN_ne0 (by omega) (by omega)) ?_
    refine vn_l (v := lN (v % 3)) (pk_lRem (by omega) (by omega) (by omega)) ?_
    refine lv_lconst (v := lN 0) hx hb dX1_draw_28 rfl ?_
    refine W.lcmp hx hb dX1_draw_29 ?_
    refine lv_if_ne (tgt := 51) hx hb dX1_draw_30 (by decide) (fun c2 => ?_) (fun c2 => ?_)
    · skip
      rw [lg_cmp_eq] at c2
      rw [pk_lEQ (by omega) (by omega)] at c2
      refine lv_aload_n hx hb dX1_draw_51 rfl (lv_at hl 1 rfl) ?_
      refine va_get (v := .ref (b 0)) (Ts := wsX10) (C := RX1) (T := TX1) (N := 2) hx hb hwsX10 (fun _ h => h) hown hK hP 0 rfl rfl 0 (by decide) (hts (.fieldLink RX1 12 "AdventStreets$Foretold" "trial" "LAdventStreets$Street;") (List.mem_of_getElem? (i := 1) rfl)) (fun _ h9 => h9) rfl dX1_draw_52 ?_
      refine va_getN (v := .ref (b 4)) (Ts := wsX40) (C := RX4) (T := TX4) (N := 10) hx hb hwsX40 (fun _ h => h) hown hK hP 1 rfl rfl 3 (by decide) (hE.1.f (q := ("AdventStreets$Foretold", 100, "AdventStreets$Street", "glues", "[I")) 13 rfl) (fun _ h9 => h9) rfl dX1_draw_55 ?_
      refine lv_iload_n hx hb dX1_draw_58 rfl (lv_at hl 0 rfl) ?_
      refine lv_lload_n hx hb dX1_draw_59 rfl (lv_at hl 2 rfl) ?_
      refine lv_ldc2 (v := (10)) hx hb hown (hts (.constantLong RX1 129 (10)) (List.mem_of_getElem? (i := 3) rfl)) dX1_draw_60 ?_
      refine vn_l (v := lN 10) (by decide) ?_
      refine lv_lrem hx hb dX1_draw_63 (lN_ne0 (by omega) (by omega)) ?_
      refine vn_l (v := lN (v % 10)) (pk_lRem (by omega) (by omega) (by omega)) ?_
      refine lv_l2i (v := nI (v % 10)) hx hb dX1_draw_64 (lN_i _) ?_
      refine r_ast (f := SG y) hx hb hK hP hD hS 5 rfl (i := v % (Sn y)) (by omega) (Nat.lt_of_lt_of_le (by omega : 10 < 1073741824) (by decide)) dX1_draw_65 (fun H locs hP hD hS => ?_)
      have hP : va_P D vwCl ([(q, .inr (1, [.ref (b 0), .int (ms)]))] ++ stW cA b (Sn y, Se y, Sv y, St y, So y, SK y, SP y, SD y, upN (SG y) (v % (Sn y)) (v % 10), SS y)) H := hP
      have hD : va_D A ([(q, .inr (1, [.ref (b 0), .int (ms)]))] ++ stW cA b (Sn y, Se y, Sv y, St y, So y, SK y, SP y, SD y, upN (SG y) (v % (Sn y)) (v % 10), SS y)) := hD
      have ef3 : (([(q, .inr (1, [.ref (b 0), .int (ms)]))] ++ stW cA b (Sn y, Se y, Sv y, St y, So y, SK y, SP y, SD y, upN (SG y) (v % (Sn y)) (v % 10), SS y)) : va_W) = ([(q, .inr (1, [.ref (b 0), .int (ms)]))] ++ stW cA b (drawF y v)) := by
        rw [drawF, if_neg c2]
      have hP : va_P D vwCl ([(q, .inr (1, [.ref (b 0), .int (ms)]))] ++ stW cA b (drawF y v)) _ := Eq.mp (congrArg (fun z9 => va_P D vwCl z9 _) ef3) hP
      have hD : va_D A ([(q, .inr (1, [.ref (b 0), .int (ms)]))] ++ stW cA b (drawF y v)) := Eq.mp (congrArg (fun z9 => va_D A z9) ef3) hD
      exact hend _ _ _ _ hP hD hS dX1_draw_66
    · skip
      rw [lg_cmp_eq] at c2
      rw [pk_lEQ (by omega) (by omega)] at c2
      refine lv_aload_n hx hb dX1_draw_33 rfl (lv_at hl 1 rfl) ?_
      refine va_get (v := .ref (b 0)) (Ts := wsX10) (C := RX1) (T := TX1) (N := 2) hx hb hwsX10 (fun _ h => h) hown hK hP 0 rfl rfl 0 (by decide) (hts (.fieldLink RX1 12 "AdventStreets$Foretold" "trial" "LAdventStreets$Street;") (List.mem_of_getElem? (i := 1) rfl)) (fun _ h9 => h9) rfl dX1_draw_34 ?_
      refine lv_dup hx hb dX1_draw_37 rfl ?_
      refine va_getN (v := .int (nI (So y))) (Ts := wsX40) (C := RX4) (T := TX4) (N := 10) hx hb hwsX40 (fun _ h => h) hown hK hP 1 rfl rfl 9 (by decide) (hE.1.f (q := ("AdventStreets$Foretold", 116, "AdventStreets$Street", "opened", "I")) 25 rfl) (fun _ h9 => h9) rfl dX1_draw_38 ?_
      refine lv_iconst (v := nI (1)) hx hb dX1_draw_41 (by decide) ?_
      refine lv_iload_n hx hb dX1_draw_42 rfl (lv_at hl 0 rfl) ?_
      refine lv_ishl hx hb dX1_draw_43 ?_
      refine vn_i (v := nI (2 ^ (v % (Sn y)))) (n_shl1 (by omega)) ?_
      refine lv_ixor hx hb dX1_draw_44 ?_
      refine vn_i (v := nI ((So y) ^^^ (2 ^ (v % (Sn y))))) (n_xor _ _) ?_
      refine va_putN (v := .int (nI ((So y) ^^^ (2 ^ (v % (Sn y)))))) (ty := .int) (Ts := wsX40) (C := RX4) (T := TX4) (N := 10) hx hb hwsX40 (fun _ h => h) tyX4 tyX4_ok nmX4 hown hK hP hD hS 1 rfl rfl 9 (by decide) (hE.1.f (q := ("AdventStreets$Foretold", 116, "AdventStreets$Street", "opened", "I")) 25 rfl) (fun _ h9 => h9) rfl (tyX4_ok 9 (by decide)) rfl rfl (Nat.le_of_ble_eq_true rfl) dX1_draw_45 (fun H locs hP hD hS => ?_)
      have hP : va_P D vwCl ([(q, .inr (1, [.ref (b 0), .int (ms)]))] ++ stW cA b (Sn y, Se y, Sv y, St y, (So y) ^^^ (2 ^ (v % (Sn y))), SK y, SP y, SD y, SG y, SS y)) H := hP
      have hD : va_D A ([(q, .inr (1, [.ref (b 0), .int (ms)]))] ++ stW cA b (Sn y, Se y, Sv y, St y, (So y) ^^^ (2 ^ (v % (Sn y))), SK y, SP y, SD y, SG y, SS y)) := hD
      refine lv_goto (tgt := 66) hx hb dX1_draw_48 (by decide) ?_
      have ef4 : (([(q, .inr (1, [.ref (b 0), .int (ms)]))] ++ stW cA b (Sn y, Se y, Sv y, St y, (So y) ^^^ (2 ^ (v % (Sn y))), SK y, SP y, SD y, SG y, SS y)) : va_W) = ([(q, .inr (1, [.ref (b 0), .int (ms)]))] ++ stW cA b (drawF y v)) := by
        rw [drawF, if_pos c2]
      have hP : va_P D vwCl ([(q, .inr (1, [.ref (b 0), .int (ms)]))] ++ stW cA b (drawF y v)) _ := Eq.mp (congrArg (fun z9 => va_P D vwCl z9 _) ef4) hP
      have hD : va_D A ([(q, .inr (1, [.ref (b 0), .int (ms)]))] ++ stW cA b (drawF y v)) := Eq.mp (congrArg (fun z9 => va_D A z9) ef4) hD
      exact hend _ _ _ _ hP hD hS dX1_draw_66
  · skip
    rw [n_z (by omega)] at c1
    exact absurd c1 (by omega)
set_option maxRecDepth 100000 in
set_option maxHeartbeats 4000000 in
theorem c_X1_years (l : Launch) (D : va_G) (cA : Nat → ClassId) (tt : Nat → Nat) (ms : Int32) (q : Nat) (a b : Nat → Nat) (x y : Sg) (n sd : Nat) (hg : Wk x) (ht : St x + 61 < 1073741824) (hn : n ≤ 60) (h0 : 0 < Sn x) (hsd : sd < 2147483647) (sz : Nat) : Cr l D cA tt yX1_years wsX1_years ({ frames := 4, cells := 0, slots := 0, locals := 86 } : Room) [.ref (q), .ref (a 0), .int (nI (n)), .int (nI (sd))] sz ([(q, .inr (1, [.ref (b 0), .int (ms)]))] ++ stW cA b y ++ stW cA a x) ([(q, .inr (1, [.ref (b 0), .int (ms)]))] ++ stW cA b ((yrs x sd n).2) ++ stW cA a x) (b 0) := by
  refine Cr.mk (cc := cX1_years) (maxL := 7) (by decide) rfl (Nat.le_of_ble_eq_true rfl) ?_
  intro p e s m below meth c A Q ls hB hl hend
  obtain ⟨⟨hx, hb, hml, hown, hts⟩, hP, hK, hD, hS, hA, hE⟩ := hB
  have hown : s.vm.findClass RX1 = some m.cls := hown
  have hwsX10 : ∀ w9 ∈ wsX10, w9.before ([.ref (q), .ref (a 0), .int (nI (n)), .int (nI (sd))] : List Value).toArray s = true := fun w9 h => hts w9 (List.mem_cons_of_mem _ (List.mem_append_left _ (List.mem_append_right _ h)))
  have hwsX40 : ∀ w9 ∈ wsX40, w9.before ([.ref (q), .ref (a 0), .int (nI (n)), .int (nI (sd))] : List Value).toArray s = true := fun w9 h => hts w9 (List.mem_cons_of_mem _ (List.mem_append_right _ h))
  have hl : lv_has ls 7 [(0, .ref (q)), (1, .ref (a 0)), (2, .int (nI (n))), (3, .int (nI (sd)))] := hl
  refine lv_aload_n hx hb dX1_years_0 rfl (lv_at hl 0 rfl) ?_
  refine va_get (v := .ref (b 0)) (Ts := wsX10) (C := RX1) (T := TX1) (N := 2) hx hb hwsX10 (fun _ h => h) hown hK hP 0 rfl rfl 0 (by decide) (hts (.fieldLink RX1 12 "AdventStreets$Foretold" "trial" "LAdventStreets$Street;") (List.mem_of_getElem? (i := 1) rfl)) (fun _ h9 => h9) rfl dX1_years_1 ?_
  refine lv_aload_n hx hb dX1_years_4 rfl (lv_at hl 1 rfl) ?_
  refine cVv (n := 1) (As := [.ref (a 0)]) (rest := []) (C := RX4) (ci := 4) (q0 := 0) (X := ([(q, .inr (1, [.ref (b 0), .int (ms)]))] ++ stW cA b y ++ stW cA a x)) (pl := []) (wc := (stW cA b y ++ stW cA a x)) (wr := [(q, .inr (1, [.ref (b 0), .int (ms)]))]) (w1 := (stW cA b x ++ stW cA a x)) (wn := ([(q, .inr (1, [.ref (b 0), .int (ms)]))] ++ stW cA b x ++ stW cA a x)) (isC := [1, 2, 3, 4, 5, 6, 7, 8, 9, 10, 11, 12]) (isR := [0]) (isN := [0, 1, 2, 3, 4, 5, 6, 7, 8, 9, 10, 11, 12]) ⟨hx, hb, hml, hown, hts⟩ (c_X4_take l D cA tt b a y x  _) gX1_years_X4_take rfl (by decide +kernel) rfl rfl ⟨rfl, rfl⟩ ⟨Nat.le_of_ble_eq_true rfl, Nat.le_of_ble_eq_true rfl⟩ ⟨Nat.zero_le _, Nat.zero_le _⟩ hK hE hA hP hD hS ⟨⟨rfl, by decide⟩, ⟨rfl, by decide, by decide⟩, rfl, by decide⟩ rfl hl.1 rfl (Nat.le_of_ble_eq_true rfl) dX1_years_5 (fun H locs hP hD hS => ?_)
  have hP : va_P D vwCl ([(q, .inr (1, [.ref (b 0), .int (ms)]))] ++ stW cA b x ++ stW cA a x) H := hP
  have hD : va_D A ([(q, .inr (1, [.ref (b 0), .int (ms)]))] ++ stW cA b x ++ stW cA a x) := hD
  refine lv_iload_n hx hb dX1_years_8 rfl (lv_at hl 3 rfl) ?_
  refine lv_i2l (v := lN (sd)) hx hb dX1_years_9 (nI_l (by omega)) ?_
  refine lv_lstore (lv' := [(4, .long (lN (sd))), (0, .ref (q)), (1, .ref (a 0)), (2, .int (nI (n))), (3, .int (nI (sd)))]) hx hb dX1_years_10 hl (by decide) rfl (fun ls hl => ?_)
  refine lv_iconst (v := nI (0)) hx hb dX1_years_12 (by decide) ?_
  refine lv_istore (lv' := [(6, .int (nI (0))), (4, .long (lN (sd))), (0, .ref (q)), (1, .ref (a 0)), (2, .int (nI (n))), (3, .int (nI (sd)))]) hx hb dX1_years_13 hl (by decide) rfl (fun ls hl => ?_)
  have loop15 : ∀ (N15 : Nat) (i : Nat) (z : Sg) (v : Nat), (i ≤ n) → (yrs x sd i = (v, z)) → (Wk z ∧ St z = St x + i ∧ Sn z = Sn x) → (v < 2147483647) → (n - i) < N15 → ∀ (H : Heap) (locs : List Loc) (ls : Array Slot), va_P D vwCl ([(q, .inr (1, [.ref (b 0), .int (ms)]))] ++ stW cA b z ++ stW cA a x) H → va_D A ([(q, .inr (1, [.ref (b 0), .int (ms)]))] ++ stW cA b z ++ stW cA a x) → va_S A s.heap H locs → lv_has ls 7 [(6, .int (nI (i))), (4, .long (lN (v))), (0, .ref (q)), (1, .ref (a 0)), (2, .int (nI (n))), (3, .int (nI (sd)))] → W p l e ({ frames := 4, cells := 0, slots := 0, locals := 86 } : Room) s m ([.ref (q), .ref (a 0), .int (nI (n)), .int (nI (sd))] : List Value).toArray below meth c H locs 0 0 Q (F0 m 15 ls []) := by
    intro N15
    induction N15 with
    | zero => intro i z v iv15_0 iv15_1 iv15_2 iv15_3 hN; exact absurd hN (Nat.not_lt_zero _)
    | succ N15 ih15 =>
      intro i z v iv15_0 iv15_1 iv15_2 iv15_3 hN15 H locs ls hP hD hS hl
      have hvv : v * 16807 % 2147483647 < 2147483647 := Nat.mod_lt _ (by decide)
      refine lv_iload hx hb dX1_years_15 (lv_at hl 0 rfl) ?_
      refine lv_iload_n hx hb dX1_years_17 rfl (lv_at hl 4 rfl) ?_
      refine lv_icmp_ge (tgt := 52) hx hb dX1_years_18 (by decide) (fun c2 => ?_) (fun c2 => ?_)
      · skip
        rw [nI_leI (by omega) (by omega)] at c2
        refine lv_aload_n hx hb dX1_years_52 rfl (lv_at hl 2 rfl) ?_
        refine va_get (v := .ref (b 0)) (Ts := wsX10) (C := RX1) (T := TX1) (N := 2) hx hb hwsX10 (fun _ h => h) hown hK hP 0 rfl rfl 0 (by decide) (hts (.fieldLink RX1 12 "AdventStreets$Foretold" "trial" "LAdventStreets$Street;") (List.mem_of_getElem? (i := 1) rfl)) (fun _ h9 => h9) rfl dX1_years_53 ?_
        have ef3 : (([(q, .inr (1, [.ref (b 0), .int (ms)]))] ++ stW cA b z ++ stW cA a x) : va_W) = ([(q, .inr (1, [.ref (b 0), .int (ms)]))] ++ stW cA b ((yrs x sd n).2) ++ stW cA a x) := by
          rw [show (yrs x sd n).2 = z from by rw [show n = i by omega, iv15_1]]
        have hP : va_P D vwCl ([(q, .inr (1, [.ref (b 0), .int (ms)]))] ++ stW cA b ((yrs x sd n).2) ++ stW cA a x) _ := Eq.mp (congrArg (fun z9 => va_P D vwCl z9 _) ef3) hP
        have hD : va_D A ([(q, .inr (1, [.ref (b 0), .int (ms)]))] ++ stW cA b ((yrs x sd n).2) ++ stW cA a x) := Eq.mp (congrArg (fun z9 => va_D A z9) ef3) hD
        exact hend _ _ _ _ hP hD hS dX1_years_56
      · skip
        rw [nI_leI (by omega) (by omega)] at c2
        refine lv_lload hx hb dX1_years_21 (lv_at hl 1 rfl) ?_
        refine lv_ldc2 (v := (16807)) hx hb hown (hts (.constantLong RX1 119 (16807)) (List.mem_of_getElem? (i := 2) rfl)) dX1_years_23 ?_
        refine vn_l (v := lN 16807) (by decide) ?_
        refine lv_lmul hx hb dX1_years_26 ?_
        refine vn_l (v := lN (v * 16807)) (lN_mul _ _) ?_
        refine lv_ldc2 (v := (2147483647)) hx hb hown (hts (.constantLong RX1 121 (2147483647)) (List.mem_of_getElem? (i := 3) rfl)) dX1_years_27 ?_
        refine vn_l (v := lN 2147483647) (by decide) ?_
        refine lv_lrem hx hb dX1_years_30 (lN_ne0 (by omega) (by omega)) ?_
        refine vn_l (v := lN ((v * 16807) % 2147483647)) (pk_lRem (by omega) (by omega) (by omega)) ?_
        refine lv_lstore (lv' := [(4, .long (lN ((v * 16807) % 2147483647))), (6, .int (nI (i))), (0, .ref (q)), (1, .ref (a 0)), (2, .int (nI (n))), (3, .int (nI (sd)))]) hx hb dX1_years_31 hl (by decide) rfl (fun ls hl => ?_)
        refine lv_aload_n hx hb dX1_years_33 rfl (lv_at hl 2 rfl) ?_
        refine lv_lload hx hb dX1_years_34 (lv_at hl 0 rfl) ?_
        refine cVv (n := 1) (As := [.long (lN ((v * 16807) % 2147483647))]) (rest := []) (C := RX1) (ci := 1) (q0 := 0) (X := ([(q, .inr (1, [.ref (b 0), .int (ms)]))] ++ stW cA b z ++ stW cA a x)) (pl := []) (wc := ([(q, .inr (1, [.ref (b 0), .int (ms)]))] ++ stW cA b z)) (wr := (stW cA a x)) (w1 := ([(q, .inr (1, [.ref (b 0), .int (ms)]))] ++ stW cA b (drawF z ((v * 16807) % 2147483647)))) (wn := ([(q, .inr (1, [.ref (b 0), .int (ms)]))] ++ stW cA b (drawF z ((v * 16807) % 2147483647)) ++ stW cA a x)) (isC := [0, 1, 2, 3, 4, 5, 6]) (isR := [7, 8, 9, 10, 11, 12]) (isN := [6, 7, 8, 9, 10, 11, 12, 0, 1, 2, 3, 4, 5]) ⟨hx, hb, hml, hown, hts⟩ (c_X1_draw l D cA tt ms q b z ((v * 16807) % 2147483647) (iv15_2.1) (by rw [iv15_2.2.2]; exact h0) (by omega) _) gX1_years_X1_draw rfl (by decide +kernel) rfl rfl ⟨rfl, rfl⟩ ⟨Nat.le_of_ble_eq_true rfl, Nat.le_of_ble_eq_true rfl⟩ ⟨Nat.zero_le _, Nat.zero_le _⟩ hK hE hA hP hD hS ⟨⟨rfl, by decide⟩, ⟨rfl, by decide, by decide⟩, rfl, by decide⟩ rfl hl.1 rfl (Nat.le_of_ble_eq_true rfl) dX1_years_36 (fun H locs hP hD hS => ?_)
        have hP : va_P D vwCl ([(q, .inr (1, [.ref (b 0), .int (ms)]))] ++ stW cA b (drawF z ((v * 16807) % 2147483647)) ++ stW cA a x) H := hP
        have hD : va_D A ([(q, .inr (1, [.ref (b 0), .int (ms)]))] ++ stW cA b (drawF z ((v * 16807) % 2147483647)) ++ stW cA a x) := hD
        refine lv_aload_n hx hb dX1_years_39 rfl (lv_at hl 2 rfl) ?_
        refine va_get (v := .ref (b 0)) (Ts := wsX10) (C := RX1) (T := TX1) (N := 2) hx hb hwsX10 (fun _ h => h) hown hK hP 0 rfl rfl 0 (by decide) (hts (.fieldLink RX1 12 "AdventStreets$Foretold" "trial" "LAdventStreets$Street;") (List.mem_of_getElem? (i := 1) rfl)) (fun _ h9 => h9) rfl dX1_years_40 ?_
        refine cVv (n := 0) (As := []) (rest := []) (C := RX4) (ci := 4) (q0 := 0) (X := ([(q, .inr (1, [.ref (b 0), .int (ms)]))] ++ stW cA b (drawF z ((v * 16807) % 2147483647)) ++ stW cA a x)) (pl := []) (wc := (stW cA b (drawF z ((v * 16807) % 2147483647)))) (wr := ([(q, .inr (1, [.ref (b 0), .int (ms)]))] ++ stW cA a x)) (w1 := (stW cA b (turnF (drawF z ((v * 16807) % 2147483647))))) (wn := ([(q, .inr (1, [.ref (b 0), .int (ms)]))] ++ stW cA b (turnF (drawF z ((v * 16807) % 2147483647))) ++ stW cA a x)) (isC := [1, 2, 3, 4, 5, 6]) (isR := [0, 7, 8, 9, 10, 11, 12]) (isN := [0, 7, 8, 9, 10, 11, 12, 1, 2, 3, 4, 5, 6]) ⟨hx, hb, hml, hown, hts⟩ (c_X4_turn l D cA tt b (drawF z ((v * 16807) % 2147483647)) ((draw_ok iv15_2.1 _ (by rw [iv15_2.2.2]; exact h0)).1) (by rw [(draw_ok iv15_2.1 _ (by rw [iv15_2.2.2]; exact h0)).2.1, iv15_2.2.1]; omega) _) gX1_years_X4_turn rfl (by decide +kernel) rfl rfl ⟨rfl, rfl⟩ ⟨Nat.le_of_ble_eq_true rfl, Nat.le_of_ble_eq_true rfl⟩ ⟨Nat.zero_le _, Nat.zero_le _⟩ hK hE hA hP hD hS ⟨⟨rfl, by decide⟩, ⟨rfl, by decide, by decide⟩, rfl, by decide⟩ rfl hl.1 rfl (Nat.le_of_ble_eq_true rfl) dX1_years_43 (fun H locs hP hD hS => ?_)
        have hP : va_P D vwCl ([(q, .inr (1, [.ref (b 0), .int (ms)]))] ++ stW cA b (turnF (drawF z ((v * 16807) % 2147483647))) ++ stW cA a x) H := hP
        have hD : va_D A ([(q, .inr (1, [.ref (b 0), .int (ms)]))] ++ stW cA b (turnF (drawF z ((v * 16807) % 2147483647))) ++ stW cA a x) := hD
        refine lv_iinc (v := nI (i + 1)) (lv' := [(6, .int (nI (i + 1))), (4, .long (lN ((v * 16807) % 2147483647))), (0, .ref (q)), (1, .ref (a 0)), (2, .int (nI (n))), (3, .int (nI (sd)))]) hx hb dX1_years_46 hl (k := 1) rfl (nI_add _ _) (by decide) rfl (fun ls hl => ?_)
        refine lv_goto (tgt := 15) hx hb dX1_years_49 (by decide) ?_
        have ew4 : Sn (turnF (drawF z ((v * 16807) % 2147483647))) = Sn (turnF (drawF z (v * 16807 % 2147483647))) := by
          simp [c2]
        have hP : va_P D vwCl ([(q, .inr (1, [.ref (b 0), .int (ms)]))] ++ stW cA b (Sn (turnF (drawF z (v * 16807 % 2147483647))), Se (turnF (drawF z ((v * 16807) % 2147483647))), Sv (turnF (drawF z ((v * 16807) % 2147483647))), St (turnF (drawF z ((v * 16807) % 2147483647))), So (turnF (drawF z ((v * 16807) % 2147483647))), SK (turnF (drawF z ((v * 16807) % 2147483647))), SP (turnF (drawF z ((v * 16807) % 2147483647))), SD (turnF (drawF z ((v * 16807) % 2147483647))), SG (turnF (drawF z ((v * 16807) % 2147483647))), SS (turnF (drawF z ((v * 16807) % 2147483647)))) ++ stW cA a x) _ := Eq.mp (congrArg (fun z9 => va_P D vwCl ([(q, .inr (1, [.ref (b 0), .int (ms)]))] ++ stW cA b (z9, Se (turnF (drawF z ((v * 16807) % 2147483647))), Sv (turnF (drawF z ((v * 16807) % 2147483647))), St (turnF (drawF z ((v * 16807) % 2147483647))), So (turnF (drawF z ((v * 16807) % 2147483647))), SK (turnF (drawF z ((v * 16807) % 2147483647))), SP (turnF (drawF z ((v * 16807) % 2147483647))), SD (turnF (drawF z ((v * 16807) % 2147483647))), SG (turnF (drawF z ((v * 16807) % 2147483647))), SS (turnF (drawF z ((v * 16807) % 2147483647)))) ++ stW cA a x) _) ew4) hP
        have hD : va_D A ([(q, .inr (1, [.ref (b 0), .int (ms)]))] ++ stW cA b (Sn (turnF (drawF z (v * 16807 % 2147483647))), Se (turnF (drawF z ((v * 16807) % 2147483647))), Sv (turnF (drawF z ((v * 16807) % 2147483647))), St (turnF (drawF z ((v * 16807) % 2147483647))), So (turnF (drawF z ((v * 16807) % 2147483647))), SK (turnF (drawF z ((v * 16807) % 2147483647))), SP (turnF (drawF z ((v * 16807) % 2147483647))), SD (turnF (drawF z ((v * 16807) % 2147483647))), SG (turnF (drawF z ((v * 16807) % 2147483647))), SS (turnF (drawF z ((v * 16807) % 2147483647)))) ++ stW cA a x) := Eq.mp (congrArg (fun z9 => va_D A ([(q, .inr (1, [.ref (b 0), .int (ms)]))] ++ stW cA b (z9, Se (turnF (drawF z ((v * 16807) % 2147483647))), Sv (turnF (drawF z ((v * 16807) % 2147483647))), St (turnF (drawF z ((v * 16807) % 2147483647))), So (turnF (drawF z ((v * 16807) % 2147483647))), SK (turnF (drawF z ((v * 16807) % 2147483647))), SP (turnF (drawF z ((v * 16807) % 2147483647))), SD (turnF (drawF z ((v * 16807) % 2147483647))), SG (turnF (drawF z ((v * 16807) % 2147483647))), SS (turnF (drawF z ((v * 16807) % 2147483647)))) ++ stW cA a x)) ew4) hD
        have ew5 : Se (turnF (drawF z ((v * 16807) % 2147483647))) = Se (turnF (drawF z (v * 16807 % 2147483647))) := by
          simp [c2]
        have hP : va_P D vwCl ([(q, .inr (1, [.ref (b 0), .int (ms)]))] ++ stW cA b (Sn (turnF (drawF z (v * 16807 % 2147483647))), Se (turnF (drawF z (v * 16807 % 2147483647))), Sv (turnF (drawF z ((v * 16807) % 2147483647))), St (turnF (drawF z ((v * 16807) % 2147483647))), So (turnF (drawF z ((v * 16807) % 2147483647))), SK (turnF (drawF z ((v * 16807) % 2147483647))), SP (turnF (drawF z ((v * 16807) % 2147483647))), SD (turnF (drawF z ((v * 16807) % 2147483647))), SG (turnF (drawF z ((v * 16807) % 2147483647))), SS (turnF (drawF z ((v * 16807) % 2147483647)))) ++ stW cA a x) _ := Eq.mp (congrArg (fun z9 => va_P D vwCl ([(q, .inr (1, [.ref (b 0), .int (ms)]))] ++ stW cA b (Sn (turnF (drawF z (v * 16807 % 2147483647))), z9, Sv (turnF (drawF z ((v * 16807) % 2147483647))), St (turnF (drawF z ((v * 16807) % 2147483647))), So (turnF (drawF z ((v * 16807) % 2147483647))), SK (turnF (drawF z ((v * 16807) % 2147483647))), SP (turnF (drawF z ((v * 16807) % 2147483647))), SD (turnF (drawF z ((v * 16807) % 2147483647))), SG (turnF (drawF z ((v * 16807) % 2147483647))), SS (turnF (drawF z ((v * 16807) % 2147483647)))) ++ stW cA a x) _) ew5) hP
        have hD : va_D A ([(q, .inr (1, [.ref (b 0), .int (ms)]))] ++ stW cA b (Sn (turnF (drawF z (v * 16807 % 2147483647))), Se (turnF (drawF z (v * 16807 % 2147483647))), Sv (turnF (drawF z ((v * 16807) % 2147483647))), St (turnF (drawF z ((v * 16807) % 2147483647))), So (turnF (drawF z ((v * 16807) % 2147483647))), SK (turnF (drawF z ((v * 16807) % 2147483647))), SP (turnF (drawF z ((v * 16807) % 2147483647))), SD (turnF (drawF z ((v * 16807) % 2147483647))), SG (turnF (drawF z ((v * 16807) % 2147483647))), SS (turnF (drawF z ((v * 16807) % 2147483647)))) ++ stW cA a x) := Eq.mp (congrArg (fun z9 => va_D A ([(q, .inr (1, [.ref (b 0), .int (ms)]))] ++ stW cA b (Sn (turnF (drawF z (v * 16807 % 2147483647))), z9, Sv (turnF (drawF z ((v * 16807) % 2147483647))), St (turnF (drawF z ((v * 16807) % 2147483647))), So (turnF (drawF z ((v * 16807) % 2147483647))), SK (turnF (drawF z ((v * 16807) % 2147483647))), SP (turnF (drawF z ((v * 16807) % 2147483647))), SD (turnF (drawF z ((v * 16807) % 2147483647))), SG (turnF (drawF z ((v * 16807) % 2147483647))), SS (turnF (drawF z ((v * 16807) % 2147483647)))) ++ stW cA a x)) ew5) hD
        have ew6 : Sv (turnF (drawF z ((v * 16807) % 2147483647))) = Sv (turnF (drawF z (v * 16807 % 2147483647))) := by
          simp [c2]
        have hP : va_P D vwCl ([(q, .inr (1, [.ref (b 0), .int (ms)]))] ++ stW cA b (Sn (turnF (drawF z (v * 16807 % 2147483647))), Se (turnF (drawF z (v * 16807 % 2147483647))), Sv (turnF (drawF z (v * 16807 % 2147483647))), St (turnF (drawF z ((v * 16807) % 2147483647))), So (turnF (drawF z ((v * 16807) % 2147483647))), SK (turnF (drawF z ((v * 16807) % 2147483647))), SP (turnF (drawF z ((v * 16807) % 2147483647))), SD (turnF (drawF z ((v * 16807) % 2147483647))), SG (turnF (drawF z ((v * 16807) % 2147483647))), SS (turnF (drawF z ((v * 16807) % 2147483647)))) ++ stW cA a x) _ := Eq.mp (congrArg (fun z9 => va_P D vwCl ([(q, .inr (1, [.ref (b 0), .int (ms)]))] ++ stW cA b (Sn (turnF (drawF z (v * 16807 % 2147483647))), Se (turnF (drawF z (v * 16807 % 2147483647))), z9, St (turnF (drawF z ((v * 16807) % 2147483647))), So (turnF (drawF z ((v * 16807) % 2147483647))), SK (turnF (drawF z ((v * 16807) % 2147483647))), SP (turnF (drawF z ((v * 16807) % 2147483647))), SD (turnF (drawF z ((v * 16807) % 2147483647))), SG (turnF (drawF z ((v * 16807) % 2147483647))), SS (turnF (drawF z ((v * 16807) % 2147483647)))) ++ stW cA a x) _) ew6) hP
        have hD : va_D A ([(q, .inr (1, [.ref (b 0), .int (ms)]))] ++ stW cA b (Sn (turnF (drawF z (v * 16807 % 2147483647))), Se (turnF (drawF z (v * 16807 % 2147483647))), Sv (turnF (drawF z (v * 16807 % 2147483647))), St (turnF (drawF z ((v * 16807) % 2147483647))), So (turnF (drawF z ((v * 16807) % 2147483647))), SK (turnF (drawF z ((v * 16807) % 2147483647))), SP (turnF (drawF z ((v * 16807) % 2147483647))), SD (turnF (drawF z ((v * 16807) % 2147483647))), SG (turnF (drawF z ((v * 16807) % 2147483647))), SS (turnF (drawF z ((v * 16807) % 2147483647)))) ++ stW cA a x) := Eq.mp (congrArg (fun z9 => va_D A ([(q, .inr (1, [.ref (b 0), .int (ms)]))] ++ stW cA b (Sn (turnF (drawF z (v * 16807 % 2147483647))), Se (turnF (drawF z (v * 16807 % 2147483647))), z9, St (turnF (drawF z ((v * 16807) % 2147483647))), So (turnF (drawF z ((v * 16807) % 2147483647))), SK (turnF (drawF z ((v * 16807) % 2147483647))), SP (turnF (drawF z ((v * 16807) % 2147483647))), SD (turnF (drawF z ((v * 16807) % 2147483647))), SG (turnF (drawF z ((v * 16807) % 2147483647))), SS (turnF (drawF z ((v * 16807) % 2147483647)))) ++ stW cA a x)) ew6) hD
        have ew7 : St (turnF (drawF z ((v * 16807) % 2147483647))) = St (turnF (drawF z (v * 16807 % 2147483647))) := by
          simp [c2]
        have hP : va_P D vwCl ([(q, .inr (1, [.ref (b 0), .int (ms)]))] ++ stW cA b (Sn (turnF (drawF z (v * 16807 % 2147483647))), Se (turnF (drawF z (v * 16807 % 2147483647))), Sv (turnF (drawF z (v * 16807 % 2147483647))), St (turnF (drawF z (v * 16807 % 2147483647))), So (turnF (drawF z ((v * 16807) % 2147483647))), SK (turnF (drawF z ((v * 16807) % 2147483647))), SP (turnF (drawF z ((v * 16807) % 2147483647))), SD (turnF (drawF z ((v * 16807) % 2147483647))), SG (turnF (drawF z ((v * 16807) % 2147483647))), SS (turnF (drawF z ((v * 16807) % 2147483647)))) ++ stW cA a x) _ := Eq.mp (congrArg (fun z9 => va_P D vwCl ([(q, .inr (1, [.ref (b 0), .int (ms)]))] ++ stW cA b (Sn (turnF (drawF z (v * 16807 % 2147483647))), Se (turnF (drawF z (v * 16807 % 2147483647))), Sv (turnF (drawF z (v * 16807 % 2147483647))), z9, So (turnF (drawF z ((v * 16807) % 2147483647))), SK (turnF (drawF z ((v * 16807) % 2147483647))), SP (turnF (drawF z ((v * 16807) % 2147483647))), SD (turnF (drawF z ((v * 16807) % 2147483647))), SG (turnF (drawF z ((v * 16807) % 2147483647))), SS (turnF (drawF z ((v * 16807) % 2147483647)))) ++ stW cA a x) _) ew7) hP
        have hD : va_D A ([(q, .inr (1, [.ref (b 0), .int (ms)]))] ++ stW cA b (Sn (turnF (drawF z (v * 16807 % 2147483647))), Se (turnF (drawF z (v * 16807 % 2147483647))), Sv (turnF (drawF z (v * 16807 % 2147483647))), St (turnF (drawF z (v * 16807 % 2147483647))), So (turnF (drawF z ((v * 16807) % 2147483647))), SK (turnF (drawF z ((v * 16807) % 2147483647))), SP (turnF (drawF z ((v * 16807) % 2147483647))), SD (turnF (drawF z ((v * 16807) % 2147483647))), SG (turnF (drawF z ((v * 16807) % 2147483647))), SS (turnF (drawF z ((v * 16807) % 2147483647)))) ++ stW cA a x) := Eq.mp (congrArg (fun z9 => va_D A ([(q, .inr (1, [.ref (b 0), .int (ms)]))] ++ stW cA b (Sn (turnF (drawF z (v * 16807 % 2147483647))), Se (turnF (drawF z (v * 16807 % 2147483647))), Sv (turnF (drawF z (v * 16807 % 2147483647))), z9, So (turnF (drawF z ((v * 16807) % 2147483647))), SK (turnF (drawF z ((v * 16807) % 2147483647))), SP (turnF (drawF z ((v * 16807) % 2147483647))), SD (turnF (drawF z ((v * 16807) % 2147483647))), SG (turnF (drawF z ((v * 16807) % 2147483647))), SS (turnF (drawF z ((v * 16807) % 2147483647)))) ++ stW cA a x)) ew7) hD
        have ew8 : So (turnF (drawF z ((v * 16807) % 2147483647))) = So (turnF (drawF z (v * 16807 % 2147483647))) := by
          simp [c2]
        have hP : va_P D vwCl ([(q, .inr (1, [.ref (b 0), .int (ms)]))] ++ stW cA b (Sn (turnF (drawF z (v * 16807 % 2147483647))), Se (turnF (drawF z (v * 16807 % 2147483647))), Sv (turnF (drawF z (v * 16807 % 2147483647))), St (turnF (drawF z (v * 16807 % 2147483647))), So (turnF (drawF z (v * 16807 % 2147483647))), SK (turnF (drawF z ((v * 16807) % 2147483647))), SP (turnF (drawF z ((v * 16807) % 2147483647))), SD (turnF (drawF z ((v * 16807) % 2147483647))), SG (turnF (drawF z ((v * 16807) % 2147483647))), SS (turnF (drawF z ((v * 16807) % 2147483647)))) ++ stW cA a x) _ := Eq.mp (congrArg (fun z9 => va_P D vwCl ([(q, .inr (1, [.ref (b 0), .int (ms)]))] ++ stW cA b (Sn (turnF (drawF z (v * 16807 % 2147483647))), Se (turnF (drawF z (v * 16807 % 2147483647))), Sv (turnF (drawF z (v * 16807 % 2147483647))), St (turnF (drawF z (v * 16807 % 2147483647))), z9, SK (turnF (drawF z ((v * 16807) % 2147483647))), SP (turnF (drawF z ((v * 16807) % 2147483647))), SD (turnF (drawF z ((v * 16807) % 2147483647))), SG (turnF (drawF z ((v * 16807) % 2147483647))), SS (turnF (drawF z ((v * 16807) % 2147483647)))) ++ stW cA a x) _) ew8) hP
        have hD : va_D A ([(q, .inr (1, [.ref (b 0), .int (ms)]))] ++ stW cA b (Sn (turnF (drawF z (v * 16807 % 2147483647))), Se (turnF (drawF z (v * 16807 % 2147483647))), Sv (turnF (drawF z (v * 16807 % 2147483647))), St (turnF (drawF z (v * 16807 % 2147483647))), So (turnF (drawF z (v * 16807 % 2147483647))), SK (turnF (drawF z ((v * 16807) % 2147483647))), SP (turnF (drawF z ((v * 16807) % 2147483647))), SD (turnF (drawF z ((v * 16807) % 2147483647))), SG (turnF (drawF z ((v * 16807) % 2147483647))), SS (turnF (drawF z ((v * 16807) % 2147483647)))) ++ stW cA a x) := Eq.mp (congrArg (fun z9 => va_D A ([(q, .inr (1, [.ref (b 0), .int (ms)]))] ++ stW cA b (Sn (turnF (drawF z (v * 16807 % 2147483647))), Se (turnF (drawF z (v * 16807 % 2147483647))), Sv (turnF (drawF z (v * 16807 % 2147483647))), St (turnF (drawF z (v * 16807 % 2147483647))), z9, SK (turnF (drawF z ((v * 16807) % 2147483647))), SP (turnF (drawF z ((v * 16807) % 2147483647))), SD (turnF (drawF z ((v * 16807) % 2147483647))), SG (turnF (drawF z ((v * 16807) % 2147483647))), SS (turnF (drawF z ((v * 16807) % 2147483647)))) ++ stW cA a x)) ew8) hD
        have ew9 : SK (turnF (drawF z ((v * 16807) % 2147483647))) = SK (turnF (drawF z (v * 16807 % 2147483647))) := by
          simp [c2]
        have hP : va_P D vwCl ([(q, .inr (1, [.ref (b 0), .int (ms)]))] ++ stW cA b (Sn (turnF (drawF z (v * 16807 % 2147483647))), Se (turnF (drawF z (v * 16807 % 2147483647))), Sv (turnF (drawF z (v * 16807 % 2147483647))), St (turnF (drawF z (v * 16807 % 2147483647))), So (turnF (drawF z (v * 16807 % 2147483647))), SK (turnF (drawF z (v * 16807 % 2147483647))), SP (turnF (drawF z ((v * 16807) % 2147483647))), SD (turnF (drawF z ((v * 16807) % 2147483647))), SG (turnF (drawF z ((v * 16807) % 2147483647))), SS (turnF (drawF z ((v * 16807) % 2147483647)))) ++ stW cA a x) _ := Eq.mp (congrArg (fun z9 => va_P D vwCl ([(q, .inr (1, [.ref (b 0), .int (ms)]))] ++ stW cA b (Sn (turnF (drawF z (v * 16807 % 2147483647))), Se (turnF (drawF z (v * 16807 % 2147483647))), Sv (turnF (drawF z (v * 16807 % 2147483647))), St (turnF (drawF z (v * 16807 % 2147483647))), So (turnF (drawF z (v * 16807 % 2147483647))), z9, SP (turnF (drawF z ((v * 16807) % 2147483647))), SD (turnF (drawF z ((v * 16807) % 2147483647))), SG (turnF (drawF z ((v * 16807) % 2147483647))), SS (turnF (drawF z ((v * 16807) % 2147483647)))) ++ stW cA a x) _) ew9) hP
        have hD : va_D A ([(q, .inr (1, [.ref (b 0), .int (ms)]))] ++ stW cA b (Sn (turnF (drawF z (v * 16807 % 2147483647))), Se (turnF (drawF z (v * 16807 % 2147483647))), Sv (turnF (drawF z (v * 16807 % 2147483647))), St (turnF (drawF z (v * 16807 % 2147483647))), So (turnF (drawF z (v * 16807 % 2147483647))), SK (turnF (drawF z (v * 16807 % 2147483647))), SP (turnF (drawF z ((v * 16807) % 2147483647))), SD (turnF (drawF z ((v * 16807) % 2147483647))), SG (turnF (drawF z ((v * 16807) % 2147483647))), SS (turnF (drawF z ((v * 16807) % 2147483647)))) ++ stW cA a x) := Eq.mp (congrArg (fun z9 => va_D A ([(q, .inr (1, [.ref (b 0), .int (ms)]))] ++ stW cA b (Sn (turnF (drawF z (v * 16807 % 2147483647))), Se (turnF (drawF z (v * 16807 % 2147483647))), Sv (turnF (drawF z (v * 16807 % 2147483647))), St (turnF (drawF z (v * 16807 % 2147483647))), So (turnF (drawF z (v * 16807 % 2147483647))), z9, SP (turnF (drawF z ((v * 16807) % 2147483647))), SD (turnF (drawF z ((v * 16807) % 2147483647))), SG (turnF (drawF z ((v * 16807) % 2147483647))), SS (turnF (drawF z ((v * 16807) % 2147483647)))) ++ stW cA a x)) ew9) hD
        have ew10 : SP (turnF (drawF z ((v * 16807) % 2147483647))) = SP (turnF (drawF z (v * 16807 % 2147483647))) := by
          simp [c2]
        have hP : va_P D vwCl ([(q, .inr (1, [.ref (b 0), .int (ms)]))] ++ stW cA b (Sn (turnF (drawF z (v * 16807 % 2147483647))), Se (turnF (drawF z (v * 16807 % 2147483647))), Sv (turnF (drawF z (v * 16807 % 2147483647))), St (turnF (drawF z (v * 16807 % 2147483647))), So (turnF (drawF z (v * 16807 % 2147483647))), SK (turnF (drawF z (v * 16807 % 2147483647))), SP (turnF (drawF z (v * 16807 % 2147483647))), SD (turnF (drawF z ((v * 16807) % 2147483647))), SG (turnF (drawF z ((v * 16807) % 2147483647))), SS (turnF (drawF z ((v * 16807) % 2147483647)))) ++ stW cA a x) _ := Eq.mp (congrArg (fun z9 => va_P D vwCl ([(q, .inr (1, [.ref (b 0), .int (ms)]))] ++ stW cA b (Sn (turnF (drawF z (v * 16807 % 2147483647))), Se (turnF (drawF z (v * 16807 % 2147483647))), Sv (turnF (drawF z (v * 16807 % 2147483647))), St (turnF (drawF z (v * 16807 % 2147483647))), So (turnF (drawF z (v * 16807 % 2147483647))), SK (turnF (drawF z (v * 16807 % 2147483647))), z9, SD (turnF (drawF z ((v * 16807) % 2147483647))), SG (turnF (drawF z ((v * 16807) % 2147483647))), SS (turnF (drawF z ((v * 16807) % 2147483647)))) ++ stW cA a x) _) ew10) hP
        have hD : va_D A ([(q, .inr (1, [.ref (b 0), .int (ms)]))] ++ stW cA b (Sn (turnF (drawF z (v * 16807 % 2147483647))), Se (turnF (drawF z (v * 16807 % 2147483647))), Sv (turnF (drawF z (v * 16807 % 2147483647))), St (turnF (drawF z (v * 16807 % 2147483647))), So (turnF (drawF z (v * 16807 % 2147483647))), SK (turnF (drawF z (v * 16807 % 2147483647))), SP (turnF (drawF z (v * 16807 % 2147483647))), SD (turnF (drawF z ((v * 16807) % 2147483647))), SG (turnF (drawF z ((v * 16807) % 2147483647))), SS (turnF (drawF z ((v * 16807) % 2147483647)))) ++ stW cA a x) := Eq.mp (congrArg (fun z9 => va_D A ([(q, .inr (1, [.ref (b 0), .int (ms)]))] ++ stW cA b (Sn (turnF (drawF z (v * 16807 % 2147483647))), Se (turnF (drawF z (v * 16807 % 2147483647))), Sv (turnF (drawF z (v * 16807 % 2147483647))), St (turnF (drawF z (v * 16807 % 2147483647))), So (turnF (drawF z (v * 16807 % 2147483647))), SK (turnF (drawF z (v * 16807 % 2147483647))), z9, SD (turnF (drawF z ((v * 16807) % 2147483647))), SG (turnF (drawF z ((v * 16807) % 2147483647))), SS (turnF (drawF z ((v * 16807) % 2147483647)))) ++ stW cA a x)) ew10) hD
        have ew11 : SD (turnF (drawF z ((v * 16807) % 2147483647))) = SD (turnF (drawF z (v * 16807 % 2147483647))) := by
          simp [c2]
        have hP : va_P D vwCl ([(q, .inr (1, [.ref (b 0), .int (ms)]))] ++ stW cA b (Sn (turnF (drawF z (v * 16807 % 2147483647))), Se (turnF (drawF z (v * 16807 % 2147483647))), Sv (turnF (drawF z (v * 16807 % 2147483647))), St (turnF (drawF z (v * 16807 % 2147483647))), So (turnF (drawF z (v * 16807 % 2147483647))), SK (turnF (drawF z (v * 16807 % 2147483647))), SP (turnF (drawF z (v * 16807 % 2147483647))), SD (turnF (drawF z (v * 16807 % 2147483647))), SG (turnF (drawF z ((v * 16807) % 2147483647))), SS (turnF (drawF z ((v * 16807) % 2147483647)))) ++ stW cA a x) _ := Eq.mp (congrArg (fun z9 => va_P D vwCl ([(q, .inr (1, [.ref (b 0), .int (ms)]))] ++ stW cA b (Sn (turnF (drawF z (v * 16807 % 2147483647))), Se (turnF (drawF z (v * 16807 % 2147483647))), Sv (turnF (drawF z (v * 16807 % 2147483647))), St (turnF (drawF z (v * 16807 % 2147483647))), So (turnF (drawF z (v * 16807 % 2147483647))), SK (turnF (drawF z (v * 16807 % 2147483647))), SP (turnF (drawF z (v * 16807 % 2147483647))), z9, SG (turnF (drawF z ((v * 16807) % 2147483647))), SS (turnF (drawF z ((v * 16807) % 2147483647)))) ++ stW cA a x) _) ew11) hP
        have hD : va_D A ([(q, .inr (1, [.ref (b 0), .int (ms)]))] ++ stW cA b (Sn (turnF (drawF z (v * 16807 % 2147483647))), Se (turnF (drawF z (v * 16807 % 2147483647))), Sv (turnF (drawF z (v * 16807 % 2147483647))), St (turnF (drawF z (v * 16807 % 2147483647))), So (turnF (drawF z (v * 16807 % 2147483647))), SK (turnF (drawF z (v * 16807 % 2147483647))), SP (turnF (drawF z (v * 16807 % 2147483647))), SD (turnF (drawF z (v * 16807 % 2147483647))), SG (turnF (drawF z ((v * 16807) % 2147483647))), SS (turnF (drawF z ((v * 16807) % 2147483647)))) ++ stW cA a x) := Eq.mp (congrArg (fun z9 => va_D A ([(q, .inr (1, [.ref (b 0), .int (ms)]))] ++ stW cA b (Sn (turnF (drawF z (v * 16807 % 2147483647))), Se (turnF (drawF z (v * 16807 % 2147483647))), Sv (turnF (drawF z (v * 16807 % 2147483647))), St (turnF (drawF z (v * 16807 % 2147483647))), So (turnF (drawF z (v * 16807 % 2147483647))), SK (turnF (drawF z (v * 16807 % 2147483647))), SP (turnF (drawF z (v * 16807 % 2147483647))), z9, SG (turnF (drawF z ((v * 16807) % 2147483647))), SS (turnF (drawF z ((v * 16807) % 2147483647)))) ++ stW cA a x)) ew11) hD
        have ew12 : SG (turnF (drawF z ((v * 16807) % 2147483647))) = SG (turnF (drawF z (v * 16807 % 2147483647))) := by
          simp [c2]
        have hP : va_P D vwCl ([(q, .inr (1, [.ref (b 0), .int (ms)]))] ++ stW cA b (Sn (turnF (drawF z (v * 16807 % 2147483647))), Se (turnF (drawF z (v * 16807 % 2147483647))), Sv (turnF (drawF z (v * 16807 % 2147483647))), St (turnF (drawF z (v * 16807 % 2147483647))), So (turnF (drawF z (v * 16807 % 2147483647))), SK (turnF (drawF z (v * 16807 % 2147483647))), SP (turnF (drawF z (v * 16807 % 2147483647))), SD (turnF (drawF z (v * 16807 % 2147483647))), SG (turnF (drawF z (v * 16807 % 2147483647))), SS (turnF (drawF z ((v * 16807) % 2147483647)))) ++ stW cA a x) _ := Eq.mp (congrArg (fun z9 => va_P D vwCl ([(q, .inr (1, [.ref (b 0), .int (ms)]))] ++ stW cA b (Sn (turnF (drawF z (v * 16807 % 2147483647))), Se (turnF (drawF z (v * 16807 % 2147483647))), Sv (turnF (drawF z (v * 16807 % 2147483647))), St (turnF (drawF z (v * 16807 % 2147483647))), So (turnF (drawF z (v * 16807 % 2147483647))), SK (turnF (drawF z (v * 16807 % 2147483647))), SP (turnF (drawF z (v * 16807 % 2147483647))), SD (turnF (drawF z (v * 16807 % 2147483647))), z9, SS (turnF (drawF z ((v * 16807) % 2147483647)))) ++ stW cA a x) _) ew12) hP
        have hD : va_D A ([(q, .inr (1, [.ref (b 0), .int (ms)]))] ++ stW cA b (Sn (turnF (drawF z (v * 16807 % 2147483647))), Se (turnF (drawF z (v * 16807 % 2147483647))), Sv (turnF (drawF z (v * 16807 % 2147483647))), St (turnF (drawF z (v * 16807 % 2147483647))), So (turnF (drawF z (v * 16807 % 2147483647))), SK (turnF (drawF z (v * 16807 % 2147483647))), SP (turnF (drawF z (v * 16807 % 2147483647))), SD (turnF (drawF z (v * 16807 % 2147483647))), SG (turnF (drawF z (v * 16807 % 2147483647))), SS (turnF (drawF z ((v * 16807) % 2147483647)))) ++ stW cA a x) := Eq.mp (congrArg (fun z9 => va_D A ([(q, .inr (1, [.ref (b 0), .int (ms)]))] ++ stW cA b (Sn (turnF (drawF z (v * 16807 % 2147483647))), Se (turnF (drawF z (v * 16807 % 2147483647))), Sv (turnF (drawF z (v * 16807 % 2147483647))), St (turnF (drawF z (v * 16807 % 2147483647))), So (turnF (drawF z (v * 16807 % 2147483647))), SK (turnF (drawF z (v * 16807 % 2147483647))), SP (turnF (drawF z (v * 16807 % 2147483647))), SD (turnF (drawF z (v * 16807 % 2147483647))), z9, SS (turnF (drawF z ((v * 16807) % 2147483647)))) ++ stW cA a x)) ew12) hD
        have ew13 : SS (turnF (drawF z ((v * 16807) % 2147483647))) = SS (turnF (drawF z (v * 16807 % 2147483647))) := by
          simp [c2]
        have hP : va_P D vwCl ([(q, .inr (1, [.ref (b 0), .int (ms)]))] ++ stW cA b (turnF (drawF z (v * 16807 % 2147483647))) ++ stW cA a x) _ := Eq.mp (congrArg (fun z9 => va_P D vwCl ([(q, .inr (1, [.ref (b 0), .int (ms)]))] ++ stW cA b (Sn (turnF (drawF z (v * 16807 % 2147483647))), Se (turnF (drawF z (v * 16807 % 2147483647))), Sv (turnF (drawF z (v * 16807 % 2147483647))), St (turnF (drawF z (v * 16807 % 2147483647))), So (turnF (drawF z (v * 16807 % 2147483647))), SK (turnF (drawF z (v * 16807 % 2147483647))), SP (turnF (drawF z (v * 16807 % 2147483647))), SD (turnF (drawF z (v * 16807 % 2147483647))), SG (turnF (drawF z (v * 16807 % 2147483647))), z9) ++ stW cA a x) _) ew13) hP
        have hD : va_D A ([(q, .inr (1, [.ref (b 0), .int (ms)]))] ++ stW cA b (turnF (drawF z (v * 16807 % 2147483647))) ++ stW cA a x) := Eq.mp (congrArg (fun z9 => va_D A ([(q, .inr (1, [.ref (b 0), .int (ms)]))] ++ stW cA b (Sn (turnF (drawF z (v * 16807 % 2147483647))), Se (turnF (drawF z (v * 16807 % 2147483647))), Sv (turnF (drawF z (v * 16807 % 2147483647))), St (turnF (drawF z (v * 16807 % 2147483647))), So (turnF (drawF z (v * 16807 % 2147483647))), SK (turnF (drawF z (v * 16807 % 2147483647))), SP (turnF (drawF z (v * 16807 % 2147483647))), SD (turnF (drawF z (v * 16807 % 2147483647))), SG (turnF (drawF z (v * 16807 % 2147483647))), z9) ++ stW cA a x)) ew13) hD
        have hl9 := lv_sub (l' := [(6, .int (nI (i + 1))), (4, .long (lN ((v * 16807) % 2147483647))), (0, .ref (q)), (1, .ref (a 0)), (2, .int (nI (n))), (3, .int (nI (sd)))]) hl [0, 1, 2, 3, 4, 5] rfl
        have el14 : (.long (lN ((v * 16807) % 2147483647)) : Value) = .long (lN (v * 16807 % 2147483647)) := by
          simp [c2]
        rw [el14] at hl9
        exact ih15 (i + 1) (turnF (drawF z (v * 16807 % 2147483647))) (v * 16807 % 2147483647) (by omega) (by simp only [yrs, iv15_1]) (by
  have hd9 := draw_ok iv15_2.1 (v * 16807 % 2147483647) (by omega)
  have ht9 := turn_n (drawF z (v * 16807 % 2147483647))
  exact ⟨hd9.1.turn, by rw [ht9.2.2.2, hd9.2.1]; omega, by rw [ht9.1, hd9.2.2]; exact iv15_2.2.2⟩) (Nat.mod_lt _ (by decide)) (by omega) _ _ _ hP hD hS hl9
  have hl9 := lv_sub (l' := [(6, .int (nI (0))), (4, .long (lN (sd))), (0, .ref (q)), (1, .ref (a 0)), (2, .int (nI (n))), (3, .int (nI (sd)))]) hl [0, 1, 2, 3, 4, 5] rfl
  exact loop15 _ 0 x sd (Nat.zero_le _) (rfl) (⟨hg, rfl, rfl⟩) (hsd) (Nat.lt_succ_self _) _ _ _ hP hD hS hl9
set_option maxRecDepth 100000 in
set_option maxHeartbeats 4000000 in
theorem c_X1_fitting (l : Launch) (D : va_G) (cA : Nat → ClassId) (tt : Nat → Nat) (ms : Int32) (q qa : Nat) (a b : Nat → Nat) (x y : Sg) (g : Nat → Int32) (w fr n wh : Nat) (hg : Wk x) (ht : St x + 61 < 1073741824) (hw : w < 10) (hn : n ≤ 60) (hfr : fr + n ≤ 40) (hwh : wh ≤ 3) (sz : Nat) : CiE l D cA tt yX1_fitting wsX1_fitting ({ frames := 4, cells := 0, slots := 0, locals := 97 } : Room) [.ref (q), .ref (a 0), .int (nI (w)), .ref (qa), .int (nI (fr)), .int (nI (n)), .int (nI (wh))] sz ([(q, .inr (1, [.ref (b 0), .int (ms)]))] ++ stW cA b y ++ stW cA a x ++ [(qa, .inl (cA 0, 40, .inl g))]) (fun zz : Sg => ([(q, .inr (1, [.ref (b 0), .int (ms)]))] ++ stW cA b zz ++ stW cA a x ++ [(qa, .inl (cA 0, 40, .inl g))])) (nI (fitF x w g fr n wh)) := by
  have flo := fitLo_le wh
  have fhi := fitHi_le wh
  refine CiE.mk (cc := cX1_fitting) (maxL := 11) (ty := .int) (by decide) rfl rfl (Nat.le_of_ble_eq_true rfl) ?_
  intro p e s m below meth c A Q ls hB hl hend
  obtain ⟨⟨hx, hb, hml, hown, hts⟩, hP, hK, hD, hS, hA, hE⟩ := hB
  have hown : s.vm.findClass RX1 = some m.cls := hown
  have hwsX10 : ∀ w9 ∈ wsX10, w9.before ([.ref (q), .ref (a 0), .int (nI (w)), .ref (qa), .int (nI (fr)), .int (nI (n)), .int (nI (wh))] : List Value).toArray s = true := fun w9 h => hts w9 (List.mem_cons_of_mem _ (List.mem_append_left _ (List.mem_append_right _ h)))
  have hwsX40 : ∀ w9 ∈ wsX40, w9.before ([.ref (q), .ref (a 0), .int (nI (w)), .ref (qa), .int (nI (fr)), .int (nI (n)), .int (nI (wh))] : List Value).toArray s = true := fun w9 h => hts w9 (List.mem_cons_of_mem _ (List.mem_append_right _ h))
  have hl : lv_has ls 11 [(0, .ref (q)), (1, .ref (a 0)), (2, .int (nI (w))), (3, .ref (qa)), (4, .int (nI (fr))), (5, .int (nI (n))), (6, .int (nI (wh)))] := hl
  refine joinW (pc' := 21) (ls' := ls) (rest' := []) (nI (fitLo wh)) hP hD hS (fun jn21 => ?_) (fun H locs hP hD hS => ?_)
  · skip
    refine lv_iload hx hb dX1_fitting_0 (lv_at hl 6 rfl) ?_
    refine lv_iconst (v := nI (3)) hx hb dX1_fitting_2 (by decide) ?_
    refine lv_icmp_ne (tgt := 10) hx hb dX1_fitting_3 (by decide) (fun c1 => ?_) (fun c1 => ?_)
    · skip
      rw [nI_eq (by omega) (by omega)] at c1
      refine lv_iload hx hb dX1_fitting_10 (lv_at hl 6 rfl) ?_
      refine lv_iconst (v := nI (2)) hx hb dX1_fitting_12 (by decide) ?_
      refine lv_icmp_ne (tgt := 20) hx hb dX1_fitting_13 (by decide) (fun c2 => ?_) (fun c2 => ?_)
      · skip
        rw [nI_eq (by omega) (by omega)] at c2
        refine lv_iconst (v := nI (1)) hx hb dX1_fitting_20 (by decide) ?_
        exact jn21 _ _ _ (by simp [fitLo, c1, c2]) hP hD hS
      · skip
        rw [nI_eq (by omega) (by omega)] at c2
        refine lv_iconst (v := nI (0)) hx hb dX1_fitting_16 (by decide) ?_
        refine lv_goto (tgt := 21) hx hb dX1_fitting_17 (by decide) ?_
        exact jn21 _ _ _ (by simp [fitLo, c1, c2]) hP hD hS
    · skip
      rw [nI_eq (by omega) (by omega)] at c1
      refine lv_iconst (v := nI (2)) hx hb dX1_fitting_6 (by decide) ?_
      refine lv_goto (tgt := 21) hx hb dX1_fitting_7 (by decide) ?_
      exact jn21 _ _ _ (by simp [fitLo, c1]) hP hD hS
  · skip
    have hP : va_P D vwCl ([(q, .inr (1, [.ref (b 0), .int (ms)]))] ++ stW cA b y ++ stW cA a x ++ [(qa, .inl (cA 0, 40, .inl g))]) H := hP
    have hD : va_D A ([(q, .inr (1, [.ref (b 0), .int (ms)]))] ++ stW cA b y ++ stW cA a x ++ [(qa, .inl (cA 0, 40, .inl g))]) := hD
    refine lv_istore (lv' := [(7, .int (nI (fitLo wh))), (0, .ref (q)), (1, .ref (a 0)), (2, .int (nI (w))), (3, .ref (qa)), (4, .int (nI (fr))), (5, .int (nI (n))), (6, .int (nI (wh)))]) hx hb dX1_fitting_21 hl (by decide) rfl (fun ls hl => ?_)
    refine joinW (pc' := 57) (ls' := ls) (rest' := []) (nI (fitHi wh)) hP hD hS (fun jn57 => ?_) (fun H locs hP hD hS => ?_)
    · skip
      refine lv_iload hx hb dX1_fitting_23 (lv_at hl 7 rfl) ?_
      refine lv_iconst (v := nI (3)) hx hb dX1_fitting_25 (by decide) ?_
      refine lv_icmp_ne (tgt := 34) hx hb dX1_fitting_26 (by decide) (fun c3 => ?_) (fun c3 => ?_)
      · skip
        rw [nI_eq (by omega) (by omega)] at c3
        refine lv_iload hx hb dX1_fitting_34 (lv_at hl 7 rfl) ?_
        refine lv_iconst (v := nI (2)) hx hb dX1_fitting_36 (by decide) ?_
        refine lv_icmp_ne (tgt := 45) hx hb dX1_fitting_37 (by decide) (fun c4 => ?_) (fun c4 => ?_)
        · skip
          rw [nI_eq (by omega) (by omega)] at c4
          refine lv_iload hx hb dX1_fitting_45 (lv_at hl 7 rfl) ?_
          refine lv_iconst (v := nI (1)) hx hb dX1_fitting_47 (by decide) ?_
          refine lv_icmp_ne (tgt := 56) hx hb dX1_fitting_48 (by decide) (fun c5 => ?_) (fun c5 => ?_)
          · skip
            rw [nI_eq (by omega) (by omega)] at c5
            refine lv_iconst (v := nI (5)) hx hb dX1_fitting_56 (by decide) ?_
            exact jn57 _ _ _ (by simp [fitHi, c3, c4, c5]) hP hD hS
          · skip
            rw [nI_eq (by omega) (by omega)] at c5
            refine lv_bipush (v := nI (24)) hx hb dX1_fitting_51 (by decide) ?_
            refine lv_goto (tgt := 57) hx hb dX1_fitting_53 (by decide) ?_
            exact jn57 _ _ _ (by simp [fitHi, c3, c4, c5]) hP hD hS
        · skip
          rw [nI_eq (by omega) (by omega)] at c4
          refine lv_bipush (v := nI (9)) hx hb dX1_fitting_40 (by decide) ?_
          refine lv_goto (tgt := 57) hx hb dX1_fitting_42 (by decide) ?_
          exact jn57 _ _ _ (by simp [fitHi, c3, c4]) hP hD hS
      · skip
        rw [nI_eq (by omega) (by omega)] at c3
        refine lv_bipush (v := nI (24)) hx hb dX1_fitting_29 (by decide) ?_
        refine lv_goto (tgt := 57) hx hb dX1_fitting_31 (by decide) ?_
        exact jn57 _ _ _ (by simp [fitHi, c3]) hP hD hS
    · skip
      have hP : va_P D vwCl ([(q, .inr (1, [.ref (b 0), .int (ms)]))] ++ stW cA b y ++ stW cA a x ++ [(qa, .inl (cA 0, 40, .inl g))]) H := hP
      have hD : va_D A ([(q, .inr (1, [.ref (b 0), .int (ms)]))] ++ stW cA b y ++ stW cA a x ++ [(qa, .inl (cA 0, 40, .inl g))]) := hD
      refine lv_istore (lv' := [(8, .int (nI (fitHi wh))), (7, .int (nI (fitLo wh))), (0, .ref (q)), (1, .ref (a 0)), (2, .int (nI (w))), (3, .ref (qa)), (4, .int (nI (fr))), (5, .int (nI (n))), (6, .int (nI (wh)))]) hx hb dX1_fitting_57 hl (by decide) rfl (fun ls hl => ?_)
      refine lv_iconst (v := nI (0)) hx hb dX1_fitting_59 (by decide) ?_
      refine lv_istore (lv' := [(9, .int (nI (0))), (8, .int (nI (fitHi wh))), (7, .int (nI (fitLo wh))), (0, .ref (q)), (1, .ref (a 0)), (2, .int (nI (w))), (3, .ref (qa)), (4, .int (nI (fr))), (5, .int (nI (n))), (6, .int (nI (wh)))]) hx hb dX1_fitting_60 hl (by decide) rfl (fun ls hl => ?_)
      refine lv_iload hx hb dX1_fitting_62 (lv_at hl 2 rfl) ?_
      refine lv_istore (lv' := [(10, .int (nI (fitLo wh))), (9, .int (nI (0))), (8, .int (nI (fitHi wh))), (7, .int (nI (fitLo wh))), (0, .ref (q)), (1, .ref (a 0)), (2, .int (nI (w))), (3, .ref (qa)), (4, .int (nI (fr))), (5, .int (nI (n))), (6, .int (nI (wh)))]) hx hb dX1_fitting_64 hl (by decide) rfl (fun ls hl => ?_)
      have loop66 : ∀ (N66 : Nat) (i : Nat) (z : Sg), (fitLo wh + i ≤ fitHi wh + 1) → (fitHi wh + 1 - (fitLo wh + i)) < N66 → ∀ (H : Heap) (locs : List Loc) (ls : Array Slot), va_P D vwCl ([(q, .inr (1, [.ref (b 0), .int (ms)]))] ++ stW cA b z ++ stW cA a x ++ [(qa, .inl (cA 0, 40, .inl g))]) H → va_D A ([(q, .inr (1, [.ref (b 0), .int (ms)]))] ++ stW cA b z ++ stW cA a x ++ [(qa, .inl (cA 0, 40, .inl g))]) → va_S A s.heap H locs → lv_has ls 11 [(10, .int (nI (fitLo wh + i))), (9, .int (nI (fitL x w g fr n wh i))), (8, .int (nI (fitHi wh))), (7, .int (nI (fitLo wh))), (0, .ref (q)), (1, .ref (a 0)), (2, .int (nI (w))), (3, .ref (qa)), (4, .int (nI (fr))), (5, .int (nI (n))), (6, .int (nI (wh)))] → W p l e ({ frames := 4, cells := 0, slots := 0, locals := 97 } : Room) s m ([.ref (q), .ref (a 0), .int (nI (w)), .ref (qa), .int (nI (fr)), .int (nI (n)), .int (nI (wh))] : List Value).toArray below meth c H locs 0 0 Q (F0 m 66 ls []) := by
        intro N66
        induction N66 with
        | zero => intro i z iv66_0 hN; exact absurd hN (Nat.not_lt_zero _)
        | succ N66 ih66 =>
          intro i z iv66_0 hN66 H locs ls hP hD hS hl
          refine lv_iload hx hb dX1_fitting_66 (lv_at hl 0 rfl) ?_
          refine lv_iload hx hb dX1_fitting_68 (lv_at hl 2 rfl) ?_
          refine lv_icmp_gt (tgt := 118) hx hb dX1_fitting_70 (by decide) (fun c7 => ?_) (fun c7 => ?_)
          · skip
            rw [nI_ltI (by omega) (by omega)] at c7
            refine lv_iload hx hb dX1_fitting_118 (lv_at hl 1 rfl) ?_
            exact hend _ _ _ _ _ z hP hD hS (by unfold fitF; rw [show fitHi wh + 1 - fitLo wh = i by omega]) dX1_fitting_120
          · skip
            rw [nI_ltI (by omega) (by omega)] at c7
            refine lv_aload_n hx hb dX1_fitting_73 rfl (lv_at hl 4 rfl) ?_
            refine va_get (v := .ref (b 0)) (Ts := wsX10) (C := RX1) (T := TX1) (N := 2) hx hb hwsX10 (fun _ h => h) hown hK hP 0 rfl rfl 0 (by decide) (hts (.fieldLink RX1 12 "AdventStreets$Foretold" "trial" "LAdventStreets$Street;") (List.mem_of_getElem? (i := 1) rfl)) (fun _ h9 => h9) rfl dX1_fitting_74 ?_
            refine lv_aload_n hx hb dX1_fitting_77 rfl (lv_at hl 5 rfl) ?_
            refine cVv (n := 1) (As := [.ref (a 0)]) (rest := []) (C := RX4) (ci := 4) (q0 := 0) (X := ([(q, .inr (1, [.ref (b 0), .int (ms)]))] ++ stW cA b z ++ stW cA a x ++ [(qa, .inl (cA 0, 40, .inl g))])) (pl := []) (wc := (stW cA b z ++ stW cA a x)) (wr := [(q, .inr (1, [.ref (b 0), .int (ms)])), (qa, .inl (cA 0, 40, .inl g))]) (w1 := (stW cA b x ++ stW cA a x)) (wn := ([(q, .inr (1, [.ref (b 0), .int (ms)]))] ++ stW cA b x ++ stW cA a x ++ [(qa, .inl (cA 0, 40, .inl g))])) (isC := [1, 2, 3, 4, 5, 6, 7, 8, 9, 10, 11, 12]) (isR := [0, 13]) (isN := [0, 2, 3, 4, 5, 6, 7, 8, 9, 10, 11, 12, 13, 1]) ⟨hx, hb, hml, hown, hts⟩ (c_X4_take l D cA tt b a z x  _) gX1_fitting_X4_take rfl (by decide +kernel) rfl rfl ⟨rfl, rfl⟩ ⟨Nat.le_of_ble_eq_true rfl, Nat.le_of_ble_eq_true rfl⟩ ⟨Nat.zero_le _, Nat.zero_le _⟩ hK hE hA hP hD hS ⟨⟨rfl, by decide⟩, ⟨rfl, by decide, by decide⟩, rfl, by decide⟩ rfl hl.1 rfl (Nat.le_of_ble_eq_true rfl) dX1_fitting_78 (fun H locs hP hD hS => ?_)
            have hP : va_P D vwCl ([(q, .inr (1, [.ref (b 0), .int (ms)]))] ++ stW cA b x ++ stW cA a x ++ [(qa, .inl (cA 0, 40, .inl g))]) H := hP
            have hD : va_D A ([(q, .inr (1, [.ref (b 0), .int (ms)]))] ++ stW cA b x ++ stW cA a x ++ [(qa, .inl (cA 0, 40, .inl g))]) := hD
            refine lv_aload_n hx hb dX1_fitting_81 rfl (lv_at hl 4 rfl) ?_
            refine lv_iload_n hx hb dX1_fitting_82 rfl (lv_at hl 6 rfl) ?_
            refine lv_iload hx hb dX1_fitting_83 (lv_at hl 10 rfl) ?_
            refine lv_iload hx hb dX1_fitting_85 (lv_at hl 0 rfl) ?_
            refine cVv (n := 3) (As := [.int (nI (w)), .int (nI (wh)), .int (nI (fitLo wh + i))]) (rest := []) (C := RX1) (ci := 1) (q0 := 0) (X := ([(q, .inr (1, [.ref (b 0), .int (ms)]))] ++ stW cA b x ++ stW cA a x ++ [(qa, .inl (cA 0, 40, .inl g))])) (pl := []) (wc := ([(q, .inr (1, [.ref (b 0), .int (ms)]))] ++ stW cA b x)) (wr := (stW cA a x ++ [(qa, .inl (cA 0, 40, .inl g))])) (w1 := ([(q, .inr (1, [.ref (b 0), .int (ms)]))] ++ stW cA b (suppF x w wh (fitLo wh + i)))) (wn := ([(q, .inr (1, [.ref (b 0), .int (ms)]))] ++ stW cA b (suppF x w wh (fitLo wh + i)) ++ stW cA a x ++ [(qa, .inl (cA 0, 40, .inl g))])) (isC := [0, 1, 2, 3, 4, 5, 6]) (isR := [7, 8, 9, 10, 11, 12, 13]) (isN := [7, 8, 9, 10, 11, 12, 13, 0, 1, 2, 3, 4, 5, 6]) ⟨hx, hb, hml, hown, hts⟩ (c_X1_suppose l D cA tt ms q b x w wh (fitLo wh + i) (hw) (hwh) _) gX1_fitting_X1_suppose rfl (by decide +kernel) rfl rfl ⟨rfl, rfl⟩ ⟨Nat.le_of_ble_eq_true rfl, Nat.le_of_ble_eq_true rfl⟩ ⟨Nat.zero_le _, Nat.zero_le _⟩ hK hE hA hP hD hS ⟨⟨rfl, by decide⟩, ⟨rfl, by decide, by decide⟩, rfl, by decide⟩ rfl hl.1 rfl (Nat.le_of_ble_eq_true rfl) dX1_fitting_87 (fun H locs hP hD hS => ?_)
            have hP : va_P D vwCl ([(q, .inr (1, [.ref (b 0), .int (ms)]))] ++ stW cA b (suppF x w wh (fitLo wh + i)) ++ stW cA a x ++ [(qa, .inl (cA 0, 40, .inl g))]) H := hP
            have hD : va_D A ([(q, .inr (1, [.ref (b 0), .int (ms)]))] ++ stW cA b (suppF x w wh (fitLo wh + i)) ++ stW cA a x ++ [(qa, .inl (cA 0, 40, .inl g))]) := hD
            refine lv_aload_n hx hb dX1_fitting_90 rfl (lv_at hl 4 rfl) ?_
            refine lv_iload_n hx hb dX1_fitting_91 rfl (lv_at hl 6 rfl) ?_
            refine lv_aload_n hx hb dX1_fitting_92 rfl (lv_at hl 7 rfl) ?_
            refine lv_iload hx hb dX1_fitting_93 (lv_at hl 8 rfl) ?_
            refine lv_iload hx hb dX1_fitting_95 (lv_at hl 9 rfl) ?_
            refine cVie (n := 4) (As := [.int (nI (w)), .ref (qa), .int (nI (fr)), .int (nI (n))]) (rest := []) (C := RX1) (ci := 1) (q0 := 0) (X := ([(q, .inr (1, [.ref (b 0), .int (ms)]))] ++ stW cA b (suppF x w wh (fitLo wh + i)) ++ stW cA a x ++ [(qa, .inl (cA 0, 40, .inl g))])) (pl := []) (wc := ([(q, .inr (1, [.ref (b 0), .int (ms)]))] ++ stW cA b (suppF x w wh (fitLo wh + i)) ++ [(qa, .inl (cA 0, 40, .inl g))])) (wr := (stW cA a x)) (w1 := (fun z8 : Sg => ([(q, .inr (1, [.ref (b 0), .int (ms)]))] ++ stW cA b z8 ++ [(qa, .inl (cA 0, 40, .inl g))]))) (wn := (fun z8 : Sg => ([(q, .inr (1, [.ref (b 0), .int (ms)]))] ++ stW cA b z8 ++ stW cA a x ++ [(qa, .inl (cA 0, 40, .inl g))]))) (isC := [0, 1, 2, 3, 4, 5, 6, 13]) (isR := [7, 8, 9, 10, 11, 12]) (isN := [6, 7, 8, 9, 10, 11, 12, 0, 1, 2, 3, 4, 5, 13]) ⟨hx, hb, hml, hown, hts⟩ (c_X1_isAsTold l D cA tt ms q qa b (suppF x w wh (fitLo wh + i)) g w fr n (hg.supp hw wh (by omega)) (by rw [supp_t]; exact ht) (hw) (hn) (hfr) _) gX1_fitting_X1_isAsTold rfl (by decide +kernel) rfl rfl ⟨rfl, rfl⟩ ⟨Nat.le_of_ble_eq_true rfl, Nat.le_of_ble_eq_true rfl⟩ ⟨Nat.zero_le _, Nat.zero_le _⟩ hK hE hA hP hD hS (fun z8 => ⟨⟨rfl, by decide⟩, ⟨rfl, by decide, by decide⟩, rfl, by decide⟩) rfl hl.1 rfl (Nat.le_of_ble_eq_true rfl) dX1_fitting_97 (fun z8 H locs hP hD hS => ?_)
            have hP : va_P D vwCl ([(q, .inr (1, [.ref (b 0), .int (ms)]))] ++ stW cA b z8 ++ stW cA a x ++ [(qa, .inl (cA 0, 40, .inl g))]) H := hP
            have hD : va_D A ([(q, .inr (1, [.ref (b 0), .int (ms)]))] ++ stW cA b z8 ++ stW cA a x ++ [(qa, .inl (cA 0, 40, .inl g))]) := hD
            refine lv_if_eq (tgt := 112) hx hb dX1_fitting_100 (by decide) (fun c9 => ?_) (fun c9 => ?_)
            · skip
              rw [bI_z] at c9
              refine lv_iinc (v := nI (fitLo wh + i + 1)) (lv' := [(10, .int (nI (fitLo wh + i + 1))), (9, .int (nI (fitL x w g fr n wh i))), (8, .int (nI (fitHi wh))), (7, .int (nI (fitLo wh))), (0, .ref (q)), (1, .ref (a 0)), (2, .int (nI (w))), (3, .ref (qa)), (4, .int (nI (fr))), (5, .int (nI (n))), (6, .int (nI (wh)))]) hx hb dX1_fitting_112 hl (k := 0) rfl (nI_add _ _) (by decide) rfl (fun ls hl => ?_)
              refine lv_goto (tgt := 66) hx hb dX1_fitting_115 (by decide) ?_
              have hl9 := lv_sub (l' := [(10, .int (nI (fitLo wh + i + 1))), (9, .int (nI (fitL x w g fr n wh i))), (8, .int (nI (fitHi wh))), (7, .int (nI (fitLo wh))), (0, .ref (q)), (1, .ref (a 0)), (2, .int (nI (w))), (3, .ref (qa)), (4, .int (nI (fr))), (5, .int (nI (n))), (6, .int (nI (wh)))]) hl [0, 1, 2, 3, 4, 5, 6, 7, 8, 9, 10] rfl
              have el10 : (.int (nI (fitLo wh + i + 1)) : Value) = .int (nI (fitLo wh + (i + 1))) := by
                rfl
              rw [el10] at hl9
              have el11 : (.int (nI (fitL x w g fr n wh i)) : Value) = .int (nI (fitL x w g fr n wh (i + 1))) := by
                rw [fitL, if_neg (by unfold fitP; rw [c9]; decide)]
              rw [el11] at hl9
              exact ih66 (i + 1) z8 (by omega) (by omega) _ _ _ hP hD hS hl9
            · skip
              rw [bI_nz] at c9
              refine lv_iload hx hb dX1_fitting_103 (lv_at hl 1 rfl) ?_
              refine lv_iconst (v := nI (1)) hx hb dX1_fitting_105 (by decide) ?_
              refine lv_iload hx hb dX1_fitting_106 (lv_at hl 0 rfl) ?_
              refine lv_ishl hx hb dX1_fitting_108 ?_
              refine vn_i (v := nI (2 ^ (fitLo wh + i))) (n_shl1 (by omega)) ?_
              refine lv_ior hx hb dX1_fitting_109 ?_
              refine vn_i (v := nI ((fitL x w g fr n wh i) ||| (2 ^ (fitLo wh + i)))) (n_or _ _) ?_
              refine lv_istore (lv' := [(9, .int (nI ((fitL x w g fr n wh i) ||| (2 ^ (fitLo wh + i))))), (10, .int (nI (fitLo wh + i))), (8, .int (nI (fitHi wh))), (7, .int (nI (fitLo wh))), (0, .ref (q)), (1, .ref (a 0)), (2, .int (nI (w))), (3, .ref (qa)), (4, .int (nI (fr))), (5, .int (nI (n))), (6, .int (nI (wh)))]) hx hb dX1_fitting_110 hl (by decide) rfl (fun ls hl => ?_)
              refine lv_iinc (v := nI (fitLo wh + i + 1)) (lv' := [(10, .int (nI (fitLo wh + i + 1))), (9, .int (nI ((fitL x w g fr n wh i) ||| (2 ^ (fitLo wh + i))))), (8, .int (nI (fitHi wh))), (7, .int (nI (fitLo wh))), (0, .ref (q)), (1, .ref (a 0)), (2, .int (nI (w))), (3, .ref (qa)), (4, .int (nI (fr))), (5, .int (nI (n))), (6, .int (nI (wh)))]) hx hb dX1_fitting_112 hl (k := 1) rfl (nI_add _ _) (by decide) rfl (fun ls hl => ?_)
              refine lv_goto (tgt := 66) hx hb dX1_fitting_115 (by decide) ?_
              have hl9 := lv_sub (l' := [(10, .int (nI (fitLo wh + i + 1))), (9, .int (nI ((fitL x w g fr n wh i) ||| (2 ^ (fitLo wh + i))))), (8, .int (nI (fitHi wh))), (7, .int (nI (fitLo wh))), (0, .ref (q)), (1, .ref (a 0)), (2, .int (nI (w))), (3, .ref (qa)), (4, .int (nI (fr))), (5, .int (nI (n))), (6, .int (nI (wh)))]) hl [0, 1, 2, 3, 4, 5, 6, 7, 8, 9, 10] rfl
              have el12 : (.int (nI (fitLo wh + i + 1)) : Value) = .int (nI (fitLo wh + (i + 1))) := by
                rfl
              rw [el12] at hl9
              have el13 : (.int (nI ((fitL x w g fr n wh i) ||| (2 ^ (fitLo wh + i)))) : Value) = .int (nI (fitL x w g fr n wh (i + 1))) := by
                rw [fitL, if_pos (by unfold fitP; exact c9)]
              rw [el13] at hl9
              exact ih66 (i + 1) z8 (by omega) (by omega) _ _ _ hP hD hS hl9
      have hl9 := lv_sub (l' := [(10, .int (nI (fitLo wh))), (9, .int (nI (0))), (8, .int (nI (fitHi wh))), (7, .int (nI (fitLo wh))), (0, .ref (q)), (1, .ref (a 0)), (2, .int (nI (w))), (3, .ref (qa)), (4, .int (nI (fr))), (5, .int (nI (n))), (6, .int (nI (wh)))]) hl [0, 1, 2, 3, 4, 5, 6, 7, 8, 9, 10] rfl
      have el14 : (.int (nI (fitLo wh)) : Value) = .int (nI (fitLo wh + 0)) := by
        rfl
      rw [el14] at hl9
      have el15 : (.int (nI (0)) : Value) = .int (nI (fitL x w g fr n wh 0)) := by
        rfl
      rw [el15] at hl9
      exact loop66 _ 0 y (by omega) (Nat.lt_succ_self _) _ _ _ hP hD hS hl9
set_option maxRecDepth 100000 in
set_option maxHeartbeats 4000000 in
theorem c_X1_windyWays (l : Launch) (D : va_G) (cA : Nat → ClassId) (tt : Nat → Nat) (ms : Int32) (q : Nat) (a b : Nat → Nat) (x y : Sg) (w n ch part : Nat) (hg : Wk x) (ht : St x + 61 < 1073741824) (hw : w < 10) (hn : n ≤ 60) (hc9 : ch ≤ 10) (hp : part < 1024) (hpa : part &&& allF x = part) (sz : Nat) : ClE l D cA tt yX1_windyWays wsX1_windyWays ({ frames := 4, cells := 0, slots := 0, locals := 107 } : Room) [.ref (q), .ref (a 0), .int (nI (w)), .int (nI (n)), .int (nI (ch)), .int (nI (part))] sz ([(q, .inr (1, [.ref (b 0), .int (ms)]))] ++ stW cA b y ++ stW cA a x) (fun zz : Sg => ([(q, .inr (1, [.ref (b 0), .int (ms)]))] ++ stW cA b zz ++ stW cA a x)) (lN (wwF x w n ch part)) := by
  have hlo : andn part (So x) < 1024 := Nat.lt_of_le_of_lt (andn_le _ _) hp
  have hon := onesN_le (andn part (So x))
  refine ClE.mk (cc := cX1_windyWays) (maxL := 14) (by decide) rfl (Nat.le_of_ble_eq_true rfl) ?_
  intro p e s m below meth c A Q ls hB hl hend
  obtain ⟨⟨hx, hb, hml, hown, hts⟩, hP, hK, hD, hS, hA, hE⟩ := hB
  have hown : s.vm.findClass RX1 = some m.cls := hown
  have hwsX40 : ∀ w9 ∈ wsX40, w9.before ([.ref (q), .ref (a 0), .int (nI (w)), .int (nI (n)), .int (nI (ch)), .int (nI (part))] : List Value).toArray s = true := fun w9 h => hts w9 (List.mem_cons_of_mem _ (List.mem_append_left _ (List.mem_append_right _ h)))
  have hwsX10 : ∀ w9 ∈ wsX10, w9.before ([.ref (q), .ref (a 0), .int (nI (w)), .int (nI (n)), .int (nI (ch)), .int (nI (part))] : List Value).toArray s = true := fun w9 h => hts w9 (List.mem_cons_of_mem _ (List.mem_append_right _ h))
  have hl : lv_has ls 14 [(0, .ref (q)), (1, .ref (a 0)), (2, .int (nI (w))), (3, .int (nI (n))), (4, .int (nI (ch))), (5, .int (nI (part)))] := hl
  refine lv_iload hx hb dX1_windyWays_0 (lv_at hl 5 rfl) ?_
  refine lv_aload_n hx hb dX1_windyWays_2 rfl (lv_at hl 1 rfl) ?_
  refine cVi (n := 0) (As := []) (rest := [.int (nI (part))]) (C := RX4) (ci := 4) (q0 := 0) (X := (([(q, .inr (1, [.ref (b 0), .int (ms)]))] ++ stW cA b y ++ stW cA a x))) (pl := []) (wc := (stW cA a x)) (wr := ([(q, .inr (1, [.ref (b 0), .int (ms)]))] ++ stW cA b y)) (w1 := (stW cA a x)) (wn := (([(q, .inr (1, [.ref (b 0), .int (ms)]))] ++ stW cA b y ++ stW cA a x))) (isC := [7, 8, 9, 10, 11, 12]) (isR := [0, 1, 2, 3, 4, 5, 6]) (isN := [0, 1, 2, 3, 4, 5, 6, 7, 8, 9, 10, 11, 12]) ⟨hx, hb, hml, hown, hts⟩ (c_X4_shutOnes l D cA tt a x (hg) _) gX1_windyWays_X4_shutOnes rfl (by decide +kernel) rfl rfl ⟨rfl, rfl⟩ ⟨Nat.le_of_ble_eq_true rfl, Nat.le_of_ble_eq_true rfl⟩ ⟨Nat.zero_le _, Nat.zero_le _⟩ hK hE hA hP hD hS ⟨⟨rfl, by decide⟩, ⟨rfl, by decide, by decide⟩, rfl, by decide⟩ rfl hl.1 rfl (Nat.le_of_ble_eq_true rfl) dX1_windyWays_3 (fun H locs hP hD hS => ?_)
  have hP : va_P D vwCl (([(q, .inr (1, [.ref (b 0), .int (ms)]))] ++ stW cA b y ++ stW cA a x)) _ := hP
  have hD : va_D A (([(q, .inr (1, [.ref (b 0), .int (ms)]))] ++ stW cA b y ++ stW cA a x)) := hD
  refine lv_iand hx hb dX1_windyWays_6 ?_
  refine vn_i (v := nI (andn part (So x))) (by rw [n_and, shut_part hpa]) ?_
  refine lv_istore (lv' := [(6, .int (nI (andn part (So x)))), (0, .ref (q)), (1, .ref (a 0)), (2, .int (nI (w))), (3, .int (nI (n))), (4, .int (nI (ch))), (5, .int (nI (part)))]) hx hb dX1_windyWays_7 hl (by decide) rfl (fun ls hl => ?_)
  refine lv_iload hx hb dX1_windyWays_9 (lv_at hl 0 rfl) ?_
  refine cSi (n := 1) (As := [.int (nI (andn part (So x)))]) (rest := []) (X := ([(q, .inr (1, [.ref (b 0), .int (ms)]))] ++ stW cA b y ++ stW cA a x)) (pl := []) (wc := ([] : va_W)) (wr := ([(q, .inr (1, [.ref (b 0), .int (ms)]))] ++ stW cA b y ++ stW cA a x)) (w1 := ([] : va_W)) (wn := ([(q, .inr (1, [.ref (b 0), .int (ms)]))] ++ stW cA b y ++ stW cA a x)) (isC := []) (isR := [0, 1, 2, 3, 4, 5, 6, 7, 8, 9, 10, 11, 12]) (isN := [0, 1, 2, 3, 4, 5, 6, 7, 8, 9, 10, 11, 12]) ⟨hx, hb, hml, hown, hts⟩ (c_J6_bitCount_0f7a4 l D cA tt (andn part (So x)) (by omega) _) gX1_windyWays_J6_bitCount_0f7a4 rfl (by decide +kernel) ⟨rfl, rfl⟩ ⟨Nat.le_of_ble_eq_true rfl, Nat.le_of_ble_eq_true rfl⟩ ⟨Nat.zero_le _, Nat.zero_le _⟩ hK hE hA hP hD hS ⟨⟨rfl, by decide⟩, ⟨rfl, by decide, by decide⟩, rfl, by decide⟩ rfl hl.1 rfl (Nat.le_of_ble_eq_true rfl) dX1_windyWays_11 (fun H locs hP hD hS => ?_)
  have hP : va_P D vwCl ([(q, .inr (1, [.ref (b 0), .int (ms)]))] ++ stW cA b y ++ stW cA a x) H := hP
  have hD : va_D A ([(q, .inr (1, [.ref (b 0), .int (ms)]))] ++ stW cA b y ++ stW cA a x) := hD
  refine lv_istore (lv' := [(7, .int (nI (onesN (andn part (So x))))), (6, .int (nI (andn part (So x)))), (0, .ref (q)), (1, .ref (a 0)), (2, .int (nI (w))), (3, .int (nI (n))), (4, .int (nI (ch))), (5, .int (nI (part)))]) hx hb dX1_windyWays_14 hl (by decide) rfl (fun ls hl => ?_)
  refine lv_lconst (v := lN 0) hx hb dX1_windyWays_16 rfl ?_
  refine lv_lstore (lv' := [(8, .long (lN (0))), (7, .int (nI (onesN (andn part (So x))))), (6, .int (nI (andn part (So x)))), (0, .ref (q)), (1, .ref (a 0)), (2, .int (nI (w))), (3, .int (nI (n))), (4, .int (nI (ch))), (5, .int (nI (part)))]) hx hb dX1_windyWays_17 hl (by decide) rfl (fun ls hl => ?_)
  refine lv_iconst (v := nI (0)) hx hb dX1_windyWays_19 (by decide) ?_
  refine lv_istore (lv' := [(10, .int (nI (0))), (8, .long (lN (0))), (7, .int (nI (onesN (andn part (So x))))), (6, .int (nI (andn part (So x)))), (0, .ref (q)), (1, .ref (a 0)), (2, .int (nI (w))), (3, .int (nI (n))), (4, .int (nI (ch))), (5, .int (nI (part)))]) hx hb dX1_windyWays_20 hl (by decide) rfl (fun ls hl => ?_)
  have loop24 : ∀ (N24 : Nat) (i : Nat) (z : Sg), (i ≤ andn part (So x) + 1) → (andn part (So x) + 1 - i) < N24 → ∀ (H : Heap) (locs : List Loc) (ls : Array Slot), va_P D vwCl ([(q, .inr (1, [.ref (b 0), .int (ms)]))] ++ stW cA b z ++ stW cA a x) H → va_D A ([(q, .inr (1, [.ref (b 0), .int (ms)]))] ++ stW cA b z ++ stW cA a x) → va_S A s.heap H locs → lv_has ls 14 [(10, .int (nI (i))), (8, .long (lN (wwL x w n ch part i))), (7, .int (nI (onesN (andn part (So x))))), (6, .int (nI (andn part (So x)))), (0, .ref (q)), (1, .ref (a 0)), (2, .int (nI (w))), (3, .int (nI (n))), (4, .int (nI (ch))), (5, .int (nI (part)))] → W p l e ({ frames := 4, cells := 0, slots := 0, locals := 107 } : Room) s m ([.ref (q), .ref (a 0), .int (nI (w)), .int (nI (n)), .int (nI (ch)), .int (nI (part))] : List Value).toArray below meth c H locs 0 0 Q (F0 m 22 ls []) := by
    intro N24
    induction N24 with
    | zero => intro i z iv24_0 hN; exact absurd hN (Nat.not_lt_zero _)
    | succ N24 ih24 =>
      intro i z iv24_0 hN24 H locs ls hP hD hS hl
      have hwl := wwL_le x w n hc9 part i
      have hoi := onesN_le i
      refine lv_iload hx hb dX1_windyWays_22 (lv_at hl 0 rfl) ?_
      refine lv_iload hx hb dX1_windyWays_24 (lv_at hl 3 rfl) ?_
      refine lv_icmp_gt (tgt := 106) hx hb dX1_windyWays_26 (by decide) (fun c2 => ?_) (fun c2 => ?_)
      · skip
        rw [nI_ltI (by omega) (by omega)] at c2
        refine lv_lload hx hb dX1_windyWays_106 (lv_at hl 1 rfl) ?_
        exact hend _ _ _ _ _ z hP hD hS (by unfold wwF; rw [show andn part (So x) + 1 = i by omega]) dX1_windyWays_108
      · skip
        rw [nI_ltI (by omega) (by omega)] at c2
        refine lv_iload hx hb dX1_windyWays_29 (lv_at hl 0 rfl) ?_
        refine lv_iload hx hb dX1_windyWays_31 (lv_at hl 3 rfl) ?_
        refine lv_iconst (v := (-1)) hx hb dX1_windyWays_33 (by decide) ?_
        refine lv_ixor hx hb dX1_windyWays_34 ?_
        refine lv_iand hx hb dX1_windyWays_35 ?_
        refine vn_i (v := nI (andn i (andn part (So x)))) (n_andn) ?_
        refine lv_if_eq (tgt := 42) hx hb dX1_windyWays_36 (by decide) (fun c3 => ?_) (fun c3 => ?_)
        · skip
          rw [n_z (Nat.lt_of_le_of_lt (andn_le _ _) (by omega))] at c3
          have hsub := onesN_sub c3
          have hww := wwW_le hc9 part (So x) i hsub
          refine lv_iload hx hb dX1_windyWays_42 (lv_at hl 0 rfl) ?_
          refine cSi (n := 1) (As := [.int (nI (i))]) (rest := []) (X := ([(q, .inr (1, [.ref (b 0), .int (ms)]))] ++ stW cA b z ++ stW cA a x)) (pl := []) (wc := ([] : va_W)) (wr := ([(q, .inr (1, [.ref (b 0), .int (ms)]))] ++ stW cA b z ++ stW cA a x)) (w1 := ([] : va_W)) (wn := ([(q, .inr (1, [.ref (b 0), .int (ms)]))] ++ stW cA b z ++ stW cA a x)) (isC := []) (isR := [0, 1, 2, 3, 4, 5, 6, 7, 8, 9, 10, 11, 12]) (isN := [0, 1, 2, 3, 4, 5, 6, 7, 8, 9, 10, 11, 12]) ⟨hx, hb, hml, hown, hts⟩ (c_J6_bitCount_0f7a4 l D cA tt i (by omega) _) gX1_windyWays_J6_bitCount_0f7a4 rfl (by decide +kernel) ⟨rfl, rfl⟩ ⟨Nat.le_of_ble_eq_true rfl, Nat.le_of_ble_eq_true rfl⟩ ⟨Nat.zero_le _, Nat.zero_le _⟩ hK hE hA hP hD hS ⟨⟨rfl, by decide⟩, ⟨rfl, by decide, by decide⟩, rfl, by decide⟩ rfl hl.1 rfl (Nat.le_of_ble_eq_true rfl) dX1_windyWays_44 (fun H locs hP hD hS => ?_)
          have hP : va_P D vwCl ([(q, .inr (1, [.ref (b 0), .int (ms)]))] ++ stW cA b z ++ stW cA a x) H := hP
          have hD : va_D A ([(q, .inr (1, [.ref (b 0), .int (ms)]))] ++ stW cA b z ++ stW cA a x) := hD
          refine lv_istore (lv' := [(11, .int (nI (onesN i))), (10, .int (nI (i))), (8, .long (lN (wwL x w n ch part i))), (7, .int (nI (onesN (andn part (So x))))), (6, .int (nI (andn part (So x)))), (0, .ref (q)), (1, .ref (a 0)), (2, .int (nI (w))), (3, .int (nI (n))), (4, .int (nI (ch))), (5, .int (nI (part)))]) hx hb dX1_windyWays_47 hl (by decide) rfl (fun ls hl => ?_)
          refine lv_iload hx hb dX1_windyWays_49 (lv_at hl 9 rfl) ?_
          refine lv_iload hx hb dX1_windyWays_51 (lv_at hl 0 rfl) ?_
          refine cNl (n := 2) (As := [.int (nI (ch)), .int (nI (onesN i))]) (rest := []) (X := ([(q, .inr (1, [.ref (b 0), .int (ms)]))] ++ stW cA b z ++ stW cA a x)) (pl := []) (wc := ([] : va_W)) (wr := ([(q, .inr (1, [.ref (b 0), .int (ms)]))] ++ stW cA b z ++ stW cA a x)) (w1 := ([] : va_W)) (wn := ([(q, .inr (1, [.ref (b 0), .int (ms)]))] ++ stW cA b z ++ stW cA a x)) (isC := []) (isR := [0, 1, 2, 3, 4, 5, 6, 7, 8, 9, 10, 11, 12]) (isN := [0, 1, 2, 3, 4, 5, 6, 7, 8, 9, 10, 11, 12]) ⟨hx, hb, hml, hown, hts⟩ (c_X7_power l D cA tt ch (onesN i) (by omega) (by omega) _) gX1_windyWays_X7_power_n109 rfl (hE.1.m (q := ("AdventStreets$Foretold", 109, yX7_power)) 8 rfl) (hts (.initialized RX7) (List.mem_of_getElem? (i := 20) rfl)) (hts (.static yX7_power) (List.mem_of_getElem? (i := 19) rfl)) (by decide +kernel) ⟨rfl, rfl⟩ ⟨Nat.le_of_ble_eq_true rfl, Nat.le_of_ble_eq_true rfl⟩ ⟨Nat.zero_le _, Nat.zero_le _⟩ hK hE hA hP hD hS ⟨⟨rfl, by decide⟩, ⟨rfl, by decide, by decide⟩, rfl, by decide⟩ rfl hl.1 rfl (Nat.le_of_ble_eq_true rfl) dX1_windyWays_53 (fun H locs hP hD hS => ?_)
          have hP : va_P D vwCl ([(q, .inr (1, [.ref (b 0), .int (ms)]))] ++ stW cA b z ++ stW cA a x) H := hP
          have hD : va_D A ([(q, .inr (1, [.ref (b 0), .int (ms)]))] ++ stW cA b z ++ stW cA a x) := hD
          refine lv_bipush (v := nI (10)) hx hb dX1_windyWays_56 (by decide) ?_
          refine lv_iload hx hb dX1_windyWays_58 (lv_at hl 9 rfl) ?_
          refine lv_isub hx hb dX1_windyWays_60 ?_
          refine vn_i (v := nI (10 - ch)) (pk_sub (by omega)) ?_
          refine lv_iload hx hb dX1_windyWays_61 (lv_at hl 3 rfl) ?_
          refine lv_iload hx hb dX1_windyWays_63 (lv_at hl 0 rfl) ?_
          refine lv_isub hx hb dX1_windyWays_65 ?_
          refine vn_i (v := nI ((onesN (andn part (So x))) - (onesN i))) (pk_sub (by omega)) ?_
          refine cNl (n := 2) (As := [.int (nI (10 - ch)), .int (nI ((onesN (andn part (So x))) - (onesN i)))]) (rest := [.long (lN (ch ^ (onesN i)))]) (X := ([(q, .inr (1, [.ref (b 0), .int (ms)]))] ++ stW cA b z ++ stW cA a x)) (pl := []) (wc := ([] : va_W)) (wr := ([(q, .inr (1, [.ref (b 0), .int (ms)]))] ++ stW cA b z ++ stW cA a x)) (w1 := ([] : va_W)) (wn := ([(q, .inr (1, [.ref (b 0), .int (ms)]))] ++ stW cA b z ++ stW cA a x)) (isC := []) (isR := [0, 1, 2, 3, 4, 5, 6, 7, 8, 9, 10, 11, 12]) (isN := [0, 1, 2, 3, 4, 5, 6, 7, 8, 9, 10, 11, 12]) ⟨hx, hb, hml, hown, hts⟩ (c_X7_power l D cA tt (10 - ch) ((onesN (andn part (So x))) - (onesN i)) (by omega) (by omega) _) gX1_windyWays_X7_power_n109 rfl (hE.1.m (q := ("AdventStreets$Foretold", 109, yX7_power)) 8 rfl) (hts (.initialized RX7) (List.mem_of_getElem? (i := 20) rfl)) (hts (.static yX7_power) (List.mem_of_getElem? (i := 19) rfl)) (by decide +kernel) ⟨rfl, rfl⟩ ⟨Nat.le_of_ble_eq_true rfl, Nat.le_of_ble_eq_true rfl⟩ ⟨Nat.zero_le _, Nat.zero_le _⟩ hK hE hA hP hD hS ⟨⟨rfl, by decide⟩, ⟨rfl, by decide, by decide⟩, rfl, by decide⟩ rfl hl.1 rfl (Nat.le_of_ble_eq_true rfl) dX1_windyWays_66 (fun H locs hP hD hS => ?_)
          have hP : va_P D vwCl ([(q, .inr (1, [.ref (b 0), .int (ms)]))] ++ stW cA b z ++ stW cA a x) H := hP
          have hD : va_D A ([(q, .inr (1, [.ref (b 0), .int (ms)]))] ++ stW cA b z ++ stW cA a x) := hD
          refine lv_lmul hx hb dX1_windyWays_69 ?_
          refine vn_l (v := lN ((ch ^ (onesN i)) * ((10 - ch) ^ ((onesN (andn part (So x))) - (onesN i))))) (lN_mul _ _) ?_
          refine lv_lstore (lv' := [(12, .long (lN ((ch ^ (onesN i)) * ((10 - ch) ^ ((onesN (andn part (So x))) - (onesN i)))))), (11, .int (nI (onesN i))), (10, .int (nI (i))), (8, .long (lN (wwL x w n ch part i))), (7, .int (nI (onesN (andn part (So x))))), (6, .int (nI (andn part (So x)))), (0, .ref (q)), (1, .ref (a 0)), (2, .int (nI (w))), (3, .int (nI (n))), (4, .int (nI (ch))), (5, .int (nI (part)))]) hx hb dX1_windyWays_70 hl (by decide) rfl (fun ls hl => ?_)
          refine lv_lload hx hb dX1_windyWays_72 (lv_at hl 0 rfl) ?_
          refine lv_lconst (v := lN 0) hx hb dX1_windyWays_74 rfl ?_
          refine W.lcmp hx hb dX1_windyWays_75 ?_
          refine lv_if_eq (tgt := 100) hx hb dX1_windyWays_76 (by decide) (fun c4 => ?_) (fun c4 => ?_)
          · skip
            rw [lg_cmp_eq] at c4
            rw [pk_lEQ (by first | (show wwW ch part (So x) i < 2 ^ 63; omega) | decide) (by first | (show wwW ch part (So x) i < 2 ^ 63; omega) | decide)] at c4
            have hno : ¬ (andn i (andn part (So x)) = 0 ∧ ¬ wwW ch part (So x) i = 0 ∧ behB x w n i part = true) := fun q => q.2.1 c4
            refine lv_iinc (v := nI (i + 1)) (lv' := [(10, .int (nI (i + 1))), (12, .long (lN ((ch ^ (onesN i)) * ((10 - ch) ^ ((onesN (andn part (So x))) - (onesN i)))))), (11, .int (nI (onesN i))), (8, .long (lN (wwL x w n ch part i))), (7, .int (nI (onesN (andn part (So x))))), (6, .int (nI (andn part (So x)))), (0, .ref (q)), (1, .ref (a 0)), (2, .int (nI (w))), (3, .int (nI (n))), (4, .int (nI (ch))), (5, .int (nI (part)))]) hx hb dX1_windyWays_100 hl (k := 2) rfl (nI_add _ _) (by decide) rfl (fun ls hl => ?_)
            refine lv_goto (tgt := 22) hx hb dX1_windyWays_103 (by decide) ?_
            have hl9 := lv_sub (l' := [(10, .int (nI (i + 1))), (8, .long (lN (wwL x w n ch part i))), (7, .int (nI (onesN (andn part (So x))))), (6, .int (nI (andn part (So x)))), (0, .ref (q)), (1, .ref (a 0)), (2, .int (nI (w))), (3, .int (nI (n))), (4, .int (nI (ch))), (5, .int (nI (part)))]) hl [0, 3, 4, 5, 6, 7, 8, 9, 10, 11] rfl
            have el5 : (.long (lN (wwL x w n ch part i)) : Value) = .long (lN (wwL x w n ch part (i + 1))) := by
              rw [wwL, wwT, if_neg (fun q => hno q), Nat.add_zero]
            rw [el5] at hl9
            exact ih24 (i + 1) z (by omega) (by omega) _ _ _ hP hD hS hl9
          · skip
            rw [lg_cmp_eq] at c4
            rw [pk_lEQ (by first | (show wwW ch part (So x) i < 2 ^ 63; omega) | decide) (by first | (show wwW ch part (So x) i < 2 ^ 63; omega) | decide)] at c4
            refine lv_aload_n hx hb dX1_windyWays_79 rfl (lv_at hl 6 rfl) ?_
            refine lv_aload_n hx hb dX1_windyWays_80 rfl (lv_at hl 7 rfl) ?_
            refine lv_iload_n hx hb dX1_windyWays_81 rfl (lv_at hl 8 rfl) ?_
            refine lv_iload_n hx hb dX1_windyWays_82 rfl (lv_at hl 9 rfl) ?_
            refine lv_iload hx hb dX1_windyWays_83 (lv_at hl 2 rfl) ?_
            refine lv_iload hx hb dX1_windyWays_85 (lv_at hl 11 rfl) ?_
            refine cVie (n := 5) (As := [.ref (a 0), .int (nI (w)), .int (nI (n)), .int (nI (i)), .int (nI (part))]) (rest := []) (C := RX1) (ci := 1) (q0 := 0) (X := ([(q, .inr (1, [.ref (b 0), .int (ms)]))] ++ stW cA b z ++ stW cA a x)) (pl := []) (wc := ([(q, .inr (1, [.ref (b 0), .int (ms)]))] ++ stW cA b z ++ stW cA a x)) (wr := ([] : va_W)) (w1 := (fun z6 : Sg => ([(q, .inr (1, [.ref (b 0), .int (ms)]))] ++ stW cA b z6 ++ stW cA a x))) (wn := (fun z6 : Sg => ([(q, .inr (1, [.ref (b 0), .int (ms)]))] ++ stW cA b z6 ++ stW cA a x))) (isC := [0, 1, 2, 3, 4, 5, 6, 7, 8, 9, 10, 11, 12]) (isR := []) (isN := [0, 1, 2, 3, 4, 5, 6, 7, 8, 9, 10, 11, 12]) ⟨hx, hb, hml, hown, hts⟩ (c_X1_isOpenBehind l D cA tt ms q a b x z w n i part (hg) (ht) (hw) (hn) (by omega) (by omega) _) gX1_windyWays_X1_isOpenBehind rfl (by decide +kernel) rfl rfl ⟨rfl, rfl⟩ ⟨Nat.le_of_ble_eq_true rfl, Nat.le_of_ble_eq_true rfl⟩ ⟨Nat.zero_le _, Nat.zero_le _⟩ hK hE hA hP hD hS (fun z6 => ⟨⟨rfl, by decide⟩, ⟨rfl, by decide, by decide⟩, rfl, by decide⟩) rfl hl.1 rfl (Nat.le_of_ble_eq_true rfl) dX1_windyWays_87 (fun z6 H locs hP hD hS => ?_)
            have hP : va_P D vwCl ([(q, .inr (1, [.ref (b 0), .int (ms)]))] ++ stW cA b z6 ++ stW cA a x) H := hP
            have hD : va_D A ([(q, .inr (1, [.ref (b 0), .int (ms)]))] ++ stW cA b z6 ++ stW cA a x) := hD
            refine lv_if_eq (tgt := 100) hx hb dX1_windyWays_90 (by decide) (fun c7 => ?_) (fun c7 => ?_)
            · skip
              rw [bI_z] at c7
              have hno : ¬ (andn i (andn part (So x)) = 0 ∧ ¬ wwW ch part (So x) i = 0 ∧ behB x w n i part = true) := fun q => by rw [c7] at q; cases q.2.2
              refine lv_iinc (v := nI (i + 1)) (lv' := [(10, .int (nI (i + 1))), (12, .long (lN ((ch ^ (onesN i)) * ((10 - ch) ^ ((onesN (andn part (So x))) - (onesN i)))))), (11, .int (nI (onesN i))), (8, .long (lN (wwL x w n ch part i))), (7, .int (nI (onesN (andn part (So x))))), (6, .int (nI (andn part (So x)))), (0, .ref (q)), (1, .ref (a 0)), (2, .int (nI (w))), (3, .int (nI (n))), (4, .int (nI (ch))), (5, .int (nI (part)))]) hx hb dX1_windyWays_100 hl (k := 2) rfl (nI_add _ _) (by decide) rfl (fun ls hl => ?_)
              refine lv_goto (tgt := 22) hx hb dX1_windyWays_103 (by decide) ?_
              have hl9 := lv_sub (l' := [(10, .int (nI (i + 1))), (8, .long (lN (wwL x w n ch part i))), (7, .int (nI (onesN (andn part (So x))))), (6, .int (nI (andn part (So x)))), (0, .ref (q)), (1, .ref (a 0)), (2, .int (nI (w))), (3, .int (nI (n))), (4, .int (nI (ch))), (5, .int (nI (part)))]) hl [0, 3, 4, 5, 6, 7, 8, 9, 10, 11] rfl
              have el8 : (.long (lN (wwL x w n ch part i)) : Value) = .long (lN (wwL x w n ch part (i + 1))) := by
                rw [wwL, wwT, if_neg (fun q => hno q), Nat.add_zero]
              rw [el8] at hl9
              exact ih24 (i + 1) z6 (by omega) (by omega) _ _ _ hP hD hS hl9
            · skip
              rw [bI_nz] at c7
              have hyes : andn i (andn part (So x)) = 0 ∧ ¬ wwW ch part (So x) i = 0 ∧ behB x w n i part = true := ⟨c3, c4, c7⟩
              refine lv_lload hx hb dX1_windyWays_93 (lv_at hl 3 rfl) ?_
              refine lv_lload hx hb dX1_windyWays_95 (lv_at hl 0 rfl) ?_
              refine lv_ladd hx hb dX1_windyWays_97 ?_
              refine vn_l (v := lN ((wwL x w n ch part i) + ((ch ^ (onesN i)) * ((10 - ch) ^ ((onesN (andn part (So x))) - (onesN i)))))) (lN_add _ _) ?_
              refine lv_lstore (lv' := [(8, .long (lN ((wwL x w n ch part i) + ((ch ^ (onesN i)) * ((10 - ch) ^ ((onesN (andn part (So x))) - (onesN i))))))), (12, .long (lN ((ch ^ (onesN i)) * ((10 - ch) ^ ((onesN (andn part (So x))) - (onesN i)))))), (11, .int (nI (onesN i))), (10, .int (nI (i))), (7, .int (nI (onesN (andn part (So x))))), (6, .int (nI (andn part (So x)))), (0, .ref (q)), (1, .ref (a 0)), (2, .int (nI (w))), (3, .int (nI (n))), (4, .int (nI (ch))), (5, .int (nI (part)))]) hx hb dX1_windyWays_98 hl (by decide) rfl (fun ls hl => ?_)
              refine lv_iinc (v := nI (i + 1)) (lv' := [(10, .int (nI (i + 1))), (8, .long (lN ((wwL x w n ch part i) + ((ch ^ (onesN i)) * ((10 - ch) ^ ((onesN (andn part (So x))) - (onesN i))))))), (12, .long (lN ((ch ^ (onesN i)) * ((10 - ch) ^ ((onesN (andn part (So x))) - (onesN i)))))), (11, .int (nI (onesN i))), (7, .int (nI (onesN (andn part (So x))))), (6, .int (nI (andn part (So x)))), (0, .ref (q)), (1, .ref (a 0)), (2, .int (nI (w))), (3, .int (nI (n))), (4, .int (nI (ch))), (5, .int (nI (part)))]) hx hb dX1_windyWays_100 hl (k := 3) rfl (nI_add _ _) (by decide) rfl (fun ls hl => ?_)
              refine lv_goto (tgt := 22) hx hb dX1_windyWays_103 (by decide) ?_
              have hl9 := lv_sub (l' := [(10, .int (nI (i + 1))), (8, .long (lN ((wwL x w n ch part i) + ((ch ^ (onesN i)) * ((10 - ch) ^ ((onesN (andn part (So x))) - (onesN i))))))), (7, .int (nI (onesN (andn part (So x))))), (6, .int (nI (andn part (So x)))), (0, .ref (q)), (1, .ref (a 0)), (2, .int (nI (w))), (3, .int (nI (n))), (4, .int (nI (ch))), (5, .int (nI (part)))]) hl [0, 1, 4, 5, 6, 7, 8, 9, 10, 11] rfl
              have el9 : (.long (lN ((wwL x w n ch part i) + ((ch ^ (onesN i)) * ((10 - ch) ^ ((onesN (andn part (So x))) - (onesN i)))))) : Value) = .long (lN (wwL x w n ch part (i + 1))) := by
                rw [wwL, wwT, if_pos hyes]
                rfl
              rw [el9] at hl9
              exact ih24 (i + 1) z6 (by omega) (by omega) _ _ _ hP hD hS hl9
        · skip
          rw [n_z (Nat.lt_of_le_of_lt (andn_le _ _) (by omega))] at c3
          have hno : ¬ (andn i (andn part (So x)) = 0 ∧ ¬ wwW ch part (So x) i = 0 ∧ behB x w n i part = true) := fun q => c3 q.1
          refine lv_goto (tgt := 100) hx hb dX1_windyWays_39 (by decide) ?_
          refine lv_iinc (v := nI (i + 1)) (lv' := [(10, .int (nI (i + 1))), (8, .long (lN (wwL x w n ch part i))), (7, .int (nI (onesN (andn part (So x))))), (6, .int (nI (andn part (So x)))), (0, .ref (q)), (1, .ref (a 0)), (2, .int (nI (w))), (3, .int (nI (n))), (4, .int (nI (ch))), (5, .int (nI (part)))]) hx hb dX1_windyWays_100 hl (k := 0) rfl (nI_add _ _) (by decide) rfl (fun ls hl => ?_)
          refine lv_goto (tgt := 22) hx hb dX1_windyWays_103 (by decide) ?_
          have hl9 := lv_sub (l' := [(10, .int (nI (i + 1))), (8, .long (lN (wwL x w n ch part i))), (7, .int (nI (onesN (andn part (So x))))), (6, .int (nI (andn part (So x)))), (0, .ref (q)), (1, .ref (a 0)), (2, .int (nI (w))), (3, .int (nI (n))), (4, .int (nI (ch))), (5, .int (nI (part)))]) hl [0, 1, 2, 3, 4, 5, 6, 7, 8, 9] rfl
          have el10 : (.long (lN (wwL x w n ch part i)) : Value) = .long (lN (wwL x w n ch part (i + 1))) := by
            rw [wwL, wwT, if_neg (fun q => hno q), Nat.add_zero]
          rw [el10] at hl9
          exact ih24 (i + 1) z (by omega) (by omega) _ _ _ hP hD hS hl9
  have hl9 := lv_sub (l' := [(10, .int (nI (0))), (8, .long (lN (0))), (7, .int (nI (onesN (andn part (So x))))), (6, .int (nI (andn part (So x)))), (0, .ref (q)), (1, .ref (a 0)), (2, .int (nI (w))), (3, .int (nI (n))), (4, .int (nI (ch))), (5, .int (nI (part)))]) hl [0, 1, 2, 3, 4, 5, 6, 7, 8, 9] rfl
  have el11 : (.long (lN (0)) : Value) = .long (lN (wwL x w n ch part 0)) := by
    rfl
  rw [el11] at hl9
  exact loop24 _ 0 y (Nat.zero_le _) (Nat.lt_succ_self _) _ _ _ hP hD hS hl9
