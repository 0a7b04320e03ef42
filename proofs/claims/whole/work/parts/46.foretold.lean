/-! ===== Foretold ===== -/
def tradeN (x : Sg) (w n a b : Nat) : Nat := onesN (SS (turnN (swapD x a b) n) w)
theorem Wk.fast {x : Sg} (h : Wk x) (some : Nat) : Wk (fastF x some) := h.g (donK_lt (fun k hk => by
  have := (h.2.2.2.2 k hk).2.2.2.1
  unfold fastG
  split <;> omega) (fun k hk => (h.2.2.2.2 k hk).2.2.2.1))
theorem Wk.swap {x : Sg} (h : Wk x) {i j : Nat} (hi : i < Sn x) (hj : j < Sn x) : Wk (swapD x i j) := h.d (fun k hk => by
  unfold upN
  split
  · exact (h.2.2.2.2 i hi).2.2.1
  · split
    · exact (h.2.2.2.2 j hj).2.2.1
    · exact (h.2.2.2.2 k hk).2.2.1)
def suppF (x : Sg) (w wh v : Nat) : Sg :=
  if wh = 0 then (Sn x, Se x, Sv x, St x, So x, upN (SK x) w v, SP x, SD x, SG x, SS x)
  else if wh = 1 then (Sn x, Se x, Sv x, St x, So x, SK x, SP x, upN (SD x) w v, SG x, SS x)
  else if wh = 2 then (Sn x, Se x, Sv x, St x, So x, SK x, SP x, SD x, upN (SG x) w v, SS x)
  else (Sn x, v, Sv x, St x, So x, SK x, SP x, SD x, SG x, SS x)
def toldP (x : Sg) (part w : Nat) (g : Nat → Int32) (fr t : Nat) : Bool := decide (g (fr + t) = bI ((So (turnP x part (t + 1))).testBit w))
def toldB (x : Sg) (w : Nat) (g : Nat → Int32) (fr n : Nat) : Bool := decide (fstN n (fun t => !toldP x (touchF x w) w g fr t) = n)
set_option maxRecDepth 100000 in
set_option maxHeartbeats 4000000 in
theorem c_X1_turnTrial (l : Launch) (D : va_G) (cA : Nat → ClassId) (tt : Nat → Nat) (ms : Int32) (q : Nat) (b : Nat → Nat) (y : Sg) (n : Nat) (hg : Wk y) (ht : St y + n < 1073741824) (hn : n < 1000) (sz : Nat) : Cv l D cA tt yX1_turnTrial wsX1_turnTrial ({ frames := 4, cells := 0, slots := 0, locals := 86 } : Room) [.ref (q), .int (nI (n))] sz ([(q, .inr (1, [.ref (b 0), .int (ms)]))] ++ stW cA b y) ([(q, .inr (1, [.ref (b 0), .int (ms)]))] ++ stW cA b (turnN y n)) := by
  refine Cv.mk (cc := cX1_turnTrial) (maxL := 3) (by decide) rfl (Nat.le_of_ble_eq_true rfl) ?_
  intro p e s m below meth c A Q ls hB hl hend
  obtain ⟨⟨hx, hb, hml, hown, hts⟩, hP, hK, hD, hS, hA, hE⟩ := hB
  have hown : s.vm.findClass RX1 = some m.cls := hown
  have hwsX10 : ∀ w9 ∈ wsX10, w9.before ([.ref (q), .int (nI (n))] : List Value).toArray s = true := fun w9 h => hts w9 (List.mem_cons_of_mem _ (List.mem_append_left _ (List.mem_append_right _ h)))
  have hwsX40 : ∀ w9 ∈ wsX40, w9.before ([.ref (q), .int (nI (n))] : List Value).toArray s = true := fun w9 h => hts w9 (List.mem_cons_of_mem _ (List.mem_append_right _ h))
  have hl : lv_has ls 3 [(0, .ref (q)), (1, .int (nI (n)))] := hl
  refine lv_iconst (v := nI (0)) hx hb dX1_turnTrial_0 (by decide) ?_
  refine lv_istore_n (lv' := [(2, .int (nI (0))), (0, .ref (q)), (1, .int (nI (n)))]) hx hb dX1_turnTrial_1 rfl hl (by decide) rfl (fun ls hl => ?_)
  have loop2 : ∀ (N2 : Nat) (i : Nat) (z : Sg), (i ≤ n) → (turnN y i = z) → (Wk z ∧ St z = St y + i) → (n - i) < N2 → ∀ (H : Heap) (locs : List Loc) (ls : Array Slot), va_P D vwCl ([(q, .inr (1, [.ref (b 0), .int (ms)]))] ++ stW cA b z) H → va_D A ([(q, .inr (1, [.ref (b 0), .int (ms)]))] ++ stW cA b z) → va_S A s.heap H locs → lv_has ls 3 [(2, .int (nI (i))), (0, .ref (q)), (1, .int (nI (n)))] → W p l e ({ frames := 4, cells := 0, slots := 0, locals := 86 } : Room) s m ([.ref (q), .int (nI (n))] : List Value).toArray below meth c H locs 0 0 Q (F0 m 2 ls []) := by
    intro N2
    induction N2 with
    | zero => intro i z iv2_0 iv2_1 iv2_2 hN; exact absurd hN (Nat.not_lt_zero _)
    | succ N2 ih2 =>
      intro i z iv2_0 iv2_1 iv2_2 hN2 H locs ls hP hD hS hl
      refine lv_iload_n hx hb dX1_turnTrial_2 rfl (lv_at hl 0 rfl) ?_
      refine lv_iload_n hx hb dX1_turnTrial_3 rfl (lv_at hl 2 rfl) ?_
      refine lv_icmp_ge (tgt := 20) hx hb dX1_turnTrial_4 (by decide) (fun c2 => ?_) (fun c2 => ?_)
      · skip
        rw [nI_leI (by omega) (by omega)] at c2
        have ef3 : (([(q, .inr (1, [.ref (b 0), .int (ms)]))] ++ stW cA b z) : va_W) = ([(q, .inr (1, [.ref (b 0), .int (ms)]))] ++ stW cA b (turnN y n)) := by
          rw [show turnN y n = z from by rw [show n = i by omega]; exact iv2_1]
        have hP : va_P D vwCl ([(q, .inr (1, [.ref (b 0), .int (ms)]))] ++ stW cA b (turnN y n)) _ := Eq.mp (congrArg (fun z9 => va_P D vwCl z9 _) ef3) hP
        have hD : va_D A ([(q, .inr (1, [.ref (b 0), .int (ms)]))] ++ stW cA b (turnN y n)) := Eq.mp (congrArg (fun z9 => va_D A z9) ef3) hD
        exact hend _ _ _ _ hP hD hS dX1_turnTrial_20
      · skip
        rw [nI_leI (by omega) (by omega)] at c2
        refine lv_aload_n hx hb dX1_turnTrial_7 rfl (lv_at hl 1 rfl) ?_
        refine va_get (v := .ref (b 0)) (Ts := wsX10) (C := RX1) (T := TX1) (N := 2) hx hb hwsX10 (fun _ h => h) hown hK hP 0 rfl rfl 0 (by decide) (hts (.fieldLink RX1 12 "AdventStreets$Foretold" "trial" "LAdventStreets$Street;") (List.mem_of_getElem? (i := 1) rfl)) (fun _ h9 => h9) rfl dX1_turnTrial_8 ?_
        refine cVv (n := 0) (As := []) (rest := []) (C := RX4) (ci := 4) (q0 := 0) (X := ([(q, .inr (1, [.ref (b 0), .int (ms)]))] ++ stW cA b z)) (pl := []) (wc := (stW cA b z)) (wr := [(q, .inr (1, [.ref (b 0), .int (ms)]))]) (w1 := (stW cA b (turnF z))) (wn := ([(q, .inr (1, [.ref (b 0), .int (ms)]))] ++ stW cA b (turnF z))) (isC := [1, 2, 3, 4, 5, 6]) (isR := [0]) (isN := [0, 1, 2, 3, 4, 5, 6]) ⟨hx, hb, hml, hown, hts⟩ (c_X4_turn l D cA tt b z (iv2_2.1) (by rw [iv2_2.2]; omega) _) gX1_turnTrial_X4_turn rfl (by decide +kernel) rfl rfl ⟨rfl, rfl⟩ ⟨Nat.le_of_ble_eq_true rfl, Nat.le_of_ble_eq_true rfl⟩ ⟨Nat.zero_le _, Nat.zero_le _⟩ hK hE hA hP hD hS ⟨⟨rfl, by decide⟩, ⟨rfl, by decide, by decide⟩, rfl, by decide⟩ rfl hl.1 rfl (Nat.le_of_ble_eq_true rfl) dX1_turnTrial_11 (fun H locs hP hD hS => ?_)
        have hP : va_P D vwCl ([(q, .inr (1, [.ref (b 0), .int (ms)]))] ++ stW cA b (turnF z)) H := hP
        have hD : va_D A ([(q, .inr (1, [.ref (b 0), .int (ms)]))] ++ stW cA b (turnF z)) := hD
        refine lv_iinc (v := nI (i + 1)) (lv' := [(2, .int (nI (i + 1))), (0, .ref (q)), (1, .int (nI (n)))]) hx hb dX1_turnTrial_14 hl (k := 0) rfl (nI_add _ _) (by decide) rfl (fun ls hl => ?_)
        refine lv_goto (tgt := 2) hx hb dX1_turnTrial_17 (by decide) ?_
        have hl9 := lv_sub (l' := [(2, .int (nI (i + 1))), (0, .ref (q)), (1, .int (nI (n)))]) hl [0, 1, 2] rfl
        exact ih2 (i + 1) (turnF z) (by omega) (by rw [turnN, iv2_1]) (⟨iv2_2.1.turn, by rw [(turn_n z).2.2.2, iv2_2.2]; omega⟩) (by omega) _ _ _ hP hD hS hl9
  have hl9 := lv_sub (l' := [(2, .int (nI (0))), (0, .ref (q)), (1, .int (nI (n)))]) hl [0, 1, 2] rfl
  exact loop2 _ 0 y (Nat.zero_le _) (rfl) (⟨hg, rfl⟩) (Nat.lt_succ_self _) _ _ _ hP hD hS hl9
set_option maxRecDepth 100000 in
set_option maxHeartbeats 4000000 in
theorem c_X1_behind (l : Launch) (D : va_G) (cA : Nat → ClassId) (tt : Nat → Nat) (ms : Int32) (q : Nat) (a b : Nat → Nat) (x y : Sg) (d : Nat) (hg : Wk x) (ht : St x + d < 1073741824) (hn : d < 1000) (sz : Nat) : Cr l D cA tt yX1_behind wsX1_behind ({ frames := 5, cells := 0, slots := 0, locals := 108 } : Room) [.ref (q), .ref (a 0), .int (nI (d))] sz ([(q, .inr (1, [.ref (b 0), .int (ms)]))] ++ stW cA b y ++ stW cA a x) ([(q, .inr (1, [.ref (b 0), .int (ms)]))] ++ stW cA b (turnN x d) ++ stW cA a x) (b 0) := by
  refine Cr.mk (cc := cX1_behind) (maxL := 3) (by decide) rfl (Nat.le_of_ble_eq_true rfl) ?_
  intro p e s m below meth c A Q ls hB hl hend
  obtain ⟨⟨hx, hb, hml, hown, hts⟩, hP, hK, hD, hS, hA, hE⟩ := hB
  have hown : s.vm.findClass RX1 = some m.cls := hown
  have hwsX10 : ∀ w9 ∈ wsX10, w9.before ([.ref (q), .ref (a 0), .int (nI (d))] : List Value).toArray s = true := fun w9 h => hts w9 (List.mem_cons_of_mem _ (List.mem_append_left _ (List.mem_append_right _ h)))
  have hwsX40 : ∀ w9 ∈ wsX40, w9.before ([.ref (q), .ref (a 0), .int (nI (d))] : List Value).toArray s = true := fun w9 h => hts w9 (List.mem_cons_of_mem _ (List.mem_append_right _ h))
  have hl : lv_has ls 3 [(0, .ref (q)), (1, .ref (a 0)), (2, .int (nI (d)))] := hl
  refine lv_aload_n hx hb dX1_behind_0 rfl (lv_at hl 0 rfl) ?_
  refine va_get (v := .ref (b 0)) (Ts := wsX10) (C := RX1) (T := TX1) (N := 2) hx hb hwsX10 (fun _ h => h) hown hK hP 0 rfl rfl 0 (by decide) (hts (.fieldLink RX1 12 "AdventStreets$Foretold" "trial" "LAdventStreets$Street;") (List.mem_of_getElem? (i := 1) rfl)) (fun _ h9 => h9) rfl dX1_behind_1 ?_
  refine lv_aload_n hx hb dX1_behind_4 rfl (lv_at hl 1 rfl) ?_
  refine cVv (n := 1) (As := [.ref (a 0)]) (rest := []) (C := RX4) (ci := 4) (q0 := 0) (X := ([(q, .inr (1, [.ref (b 0), .int (ms)]))] ++ stW cA b y ++ stW cA a x)) (pl := []) (wc := (stW cA b y ++ stW cA a x)) (wr := [(q, .inr (1, [.ref (b 0), .int (ms)]))]) (w1 := (stW cA b x ++ stW cA a x)) (wn := ([(q, .inr (1, [.ref (b 0), .int (ms)]))] ++ stW cA b x ++ stW cA a x)) (isC := [1, 2, 3, 4, 5, 6, 7, 8, 9, 10, 11, 12]) (isR := [0]) (isN := [0, 1, 2, 3, 4, 5, 6, 7, 8, 9, 10, 11, 12]) ⟨hx, hb, hml, hown, hts⟩ (c_X4_take l D cA tt b a y x  _) gX1_behind_X4_take rfl (by decide +kernel) rfl rfl ⟨rfl, rfl⟩ ⟨Nat.le_of_ble_eq_true rfl, Nat.le_of_ble_eq_true rfl⟩ ⟨Nat.zero_le _, Nat.zero_le _⟩ hK hE hA hP hD hS ⟨⟨rfl, by decide⟩, ⟨rfl, by decide, by decide⟩, rfl, by decide⟩ rfl hl.1 rfl (Nat.le_of_ble_eq_true rfl) dX1_behind_5 (fun H locs hP hD hS => ?_)
  have hP : va_P D vwCl ([(q, .inr (1, [.ref (b 0), .int (ms)]))] ++ stW cA b x ++ stW cA a x) H := hP
  have hD : va_D A ([(q, .inr (1, [.ref (b 0), .int (ms)]))] ++ stW cA b x ++ stW cA a x) := hD
  refine lv_aload_n hx hb dX1_behind_8 rfl (lv_at hl 0 rfl) ?_
  refine lv_iload_n hx hb dX1_behind_9 rfl (lv_at hl 2 rfl) ?_
  refine cVv (n := 1) (As := [.int (nI (d))]) (rest := []) (C := RX1) (ci := 1) (q0 := 0) (X := ([(q, .inr (1, [.ref (b 0), .int (ms)]))] ++ stW cA b x ++ stW cA a x)) (pl := []) (wc := ([(q, .inr (1, [.ref (b 0), .int (ms)]))] ++ stW cA b x)) (wr := (stW cA a x)) (w1 := ([(q, .inr (1, [.ref (b 0), .int (ms)]))] ++ stW cA b (turnN x d))) (wn := ([(q, .inr (1, [.ref (b 0), .int (ms)]))] ++ stW cA b (turnN x d) ++ stW cA a x)) (isC := [0, 1, 2, 3, 4, 5, 6]) (isR := [7, 8, 9, 10, 11, 12]) (isN := [6, 7, 8, 9, 10, 11, 12, 0, 1, 2, 3, 4, 5]) ⟨hx, hb, hml, hown, hts⟩ (c_X1_turnTrial l D cA tt ms q b x d (hg) (ht) (hn) _) gX1_behind_X1_turnTrial rfl (by decide +kernel) rfl rfl ⟨rfl, rfl⟩ ⟨Nat.le_of_ble_eq_true rfl, Nat.le_of_ble_eq_true rfl⟩ ⟨Nat.zero_le _, Nat.zero_le _⟩ hK hE hA hP hD hS ⟨⟨rfl, by decide⟩, ⟨rfl, by decide, by decide⟩, rfl, by decide⟩ rfl hl.1 rfl (Nat.le_of_ble_eq_true rfl) dX1_behind_10 (fun H locs hP hD hS => ?_)
  have hP : va_P D vwCl ([(q, .inr (1, [.ref (b 0), .int (ms)]))] ++ stW cA b (turnN x d) ++ stW cA a x) H := hP
  have hD : va_D A ([(q, .inr (1, [.ref (b 0), .int (ms)]))] ++ stW cA b (turnN x d) ++ stW cA a x) := hD
  refine lv_aload_n hx hb dX1_behind_13 rfl (lv_at hl 0 rfl) ?_
  refine va_get (v := .ref (b 0)) (Ts := wsX10) (C := RX1) (T := TX1) (N := 2) hx hb hwsX10 (fun _ h => h) hown hK hP 0 rfl rfl 0 (by decide) (hts (.fieldLink RX1 12 "AdventStreets$Foretold" "trial" "LAdventStreets$Street;") (List.mem_of_getElem? (i := 1) rfl)) (fun _ h9 => h9) rfl dX1_behind_14 ?_
  exact hend _ _ _ _ hP hD hS dX1_behind_17
set_option maxRecDepth 100000 in
set_option maxHeartbeats 4000000 in
theorem c_X1_turnsTillSeen (l : Launch) (D : va_G) (cA : Nat → ClassId) (tt : Nat → Nat) (ms : Int32) (q : Nat) (a b : Nat → Nat) (x y : Sg) (w pic : Nat) (hg : Wk x) (ht : St x + 61 < 1073741824) (hw : w < Sn x) (hp : pic < 32) (sz : Nat) : CiE l D cA tt yX1_turnsTillSeen wsX1_turnsTillSeen ({ frames := 4, cells := 0, slots := 0, locals := 86 } : Room) [.ref (q), .ref (a 0), .int (nI (w)), .int (nI (pic))] sz ([(q, .inr (1, [.ref (b 0), .int (ms)]))] ++ stW cA b y ++ stW cA a x) (fun zz : Sg => ([(q, .inr (1, [.ref (b 0), .int (ms)]))] ++ stW cA b zz ++ stW cA a x)) (idxI 61 (fstN 61 (seenP x w pic))) := by
  have hw10 : w < 10 := Nat.lt_of_lt_of_le hw hg.1
  refine CiE.mk (cc := cX1_turnsTillSeen) (maxL := 5) (ty := .int) (by decide) rfl rfl (Nat.le_of_ble_eq_true rfl) ?_
  intro p e s m below meth c A Q ls hB hl hend
  obtain ⟨⟨hx, hb, hml, hown, hts⟩, hP, hK, hD, hS, hA, hE⟩ := hB
  have hown : s.vm.findClass RX1 = some m.cls := hown
  have hwsX10 : ∀ w9 ∈ wsX10, w9.before ([.ref (q), .ref (a 0), .int (nI (w)), .int (nI (pic))] : List Value).toArray s = true := fun w9 h => hts w9 (List.mem_cons_of_mem _ (List.mem_append_left _ (List.mem_append_right _ h)))
  have hwsX40 : ∀ w9 ∈ wsX40, w9.before ([.ref (q), .ref (a 0), .int (nI (w)), .int (nI (pic))] : List Value).toArray s = true := fun w9 h => hts w9 (List.mem_cons_of_mem _ (List.mem_append_right _ h))
  have hl : lv_has ls 5 [(0, .ref (q)), (1, .ref (a 0)), (2, .int (nI (w))), (3, .int (nI (pic)))] := hl
  refine lv_aload_n hx hb dX1_turnsTillSeen_0 rfl (lv_at hl 0 rfl) ?_
  refine va_get (v := .ref (b 0)) (Ts := wsX10) (C := RX1) (T := TX1) (N := 2) hx hb hwsX10 (fun _ h => h) hown hK hP 0 rfl rfl 0 (by decide) (hts (.fieldLink RX1 12 "AdventStreets$Foretold" "trial" "LAdventStreets$Street;") (List.mem_of_getElem? (i := 1) rfl)) (fun _ h9 => h9) rfl dX1_turnsTillSeen_1 ?_
  refine lv_aload_n hx hb dX1_turnsTillSeen_4 rfl (lv_at hl 1 rfl) ?_
  refine cVv (n := 1) (As := [.ref (a 0)]) (rest := []) (C := RX4) (ci := 4) (q0 := 0) (X := ([(q, .inr (1, [.ref (b 0), .int (ms)]))] ++ stW cA b y ++ stW cA a x)) (pl := []) (wc := (stW cA b y ++ stW cA a x)) (wr := [(q, .inr (1, [.ref (b 0), .int (ms)]))]) (w1 := (stW cA b x ++ stW cA a x)) (wn := ([(q, .inr (1, [.ref (b 0), .int (ms)]))] ++ stW cA b x ++ stW cA a x)) (isC := [1, 2, 3, 4, 5, 6, 7, 8, 9, 10, 11, 12]) (isR := [0]) (isN := [0, 1, 2, 3, 4, 5, 6, 7, 8, 9, 10, 11, 12]) ⟨hx, hb, hml, hown, hts⟩ (c_X4_take l D cA tt b a y x  _) gX1_turnsTillSeen_X4_take rfl (by decide +kernel) rfl rfl ⟨rfl, rfl⟩ ⟨Nat.le_of_ble_eq_true rfl, Nat.le_of_ble_eq_true rfl⟩ ⟨Nat.zero_le _, Nat.zero_le _⟩ hK hE hA hP hD hS ⟨⟨rfl, by decide⟩, ⟨rfl, by decide, by decide⟩, rfl, by decide⟩ rfl hl.1 rfl (Nat.le_of_ble_eq_true rfl) dX1_turnsTillSeen_5 (fun H locs hP hD hS => ?_)
  have hP : va_P D vwCl ([(q, .inr (1, [.ref (b 0), .int (ms)]))] ++ stW cA b x ++ stW cA a x) H := hP
  have hD : va_D A ([(q, .inr (1, [.ref (b 0), .int (ms)]))] ++ stW cA b x ++ stW cA a x) := hD
  refine lv_iconst (v := nI (0)) hx hb dX1_turnsTillSeen_8 (by decide) ?_
  refine lv_istore (lv' := [(4, .int (nI (0))), (0, .ref (q)), (1, .ref (a 0)), (2, .int (nI (w))), (3, .int (nI (pic)))]) hx hb dX1_turnsTillSeen_9 hl (by decide) rfl (fun ls hl => ?_)
  have loop11 : ∀ (N11 : Nat) (i : Nat) (z : Sg), (i ≤ 61) → (turnN x i = z) → (Wk z ∧ St z = St x + i) → (∀ j, j < i → seenP x w pic j = false) → (61 - i) < N11 → ∀ (H : Heap) (locs : List Loc) (ls : Array Slot), va_P D vwCl ([(q, .inr (1, [.ref (b 0), .int (ms)]))] ++ stW cA b z ++ stW cA a x) H → va_D A ([(q, .inr (1, [.ref (b 0), .int (ms)]))] ++ stW cA b z ++ stW cA a x) → va_S A s.heap H locs → lv_has ls 5 [(4, .int (nI (i))), (0, .ref (q)), (1, .ref (a 0)), (2, .int (nI (w))), (3, .int (nI (pic)))] → W p l e ({ frames := 4, cells := 0, slots := 0, locals := 86 } : Room) s m ([.ref (q), .ref (a 0), .int (nI (w)), .int (nI (pic))] : List Value).toArray below meth c H locs 0 0 Q (F0 m 11 ls []) := by
    intro N11
    induction N11 with
    | zero => intro i z iv11_0 iv11_1 iv11_2 iv11_3 hN; exact absurd hN (Nat.not_lt_zero _)
    | succ N11 ih11 =>
      intro i z iv11_0 iv11_1 iv11_2 iv11_3 hN11 H locs ls hP hD hS hl
      refine lv_iload hx hb dX1_turnsTillSeen_11 (lv_at hl 0 rfl) ?_
      refine lv_bipush (v := nI (60)) hx hb dX1_turnsTillSeen_13 (by decide) ?_
      refine lv_icmp_gt (tgt := 50) hx hb dX1_turnsTillSeen_15 (by decide) (fun c2 => ?_) (fun c2 => ?_)
      · skip
        rw [nI_ltI (by omega) (by omega)] at c2
        refine lv_ldc (v := (-1000000)) hx hb hown (hts (.constant RX1 33 (-1000000)) (List.mem_of_getElem? (i := 2) rfl)) dX1_turnsTillSeen_50 ?_
        exact hend _ _ _ _ _ z hP hD hS (by rw [fstN_of (n := 61) (i := i) (by omega) iv11_3 (Or.inl (by omega)), idxI, if_neg (by omega)]) dX1_turnsTillSeen_52
      · skip
        rw [nI_ltI (by omega) (by omega)] at c2
        refine lv_aload_n hx hb dX1_turnsTillSeen_18 rfl (lv_at hl 1 rfl) ?_
        refine va_get (v := .ref (b 0)) (Ts := wsX10) (C := RX1) (T := TX1) (N := 2) hx hb hwsX10 (fun _ h => h) hown hK hP 0 rfl rfl 0 (by decide) (hts (.fieldLink RX1 12 "AdventStreets$Foretold" "trial" "LAdventStreets$Street;") (List.mem_of_getElem? (i := 1) rfl)) (fun _ h9 => h9) rfl dX1_turnsTillSeen_19 ?_
        refine va_getN (v := .ref (b 5)) (Ts := wsX40) (C := RX4) (T := TX4) (N := 10) hx hb hwsX40 (fun _ h => h) hown hK hP 1 rfl rfl 4 (by decide) (hE.1.f (q := ("AdventStreets$Foretold", 29, "AdventStreets$Street", "seen", "[I")) 15 rfl) (fun _ h9 => h9) rfl dX1_turnsTillSeen_22 ?_
        refine lv_iload_n hx hb dX1_turnsTillSeen_25 rfl (lv_at hl 3 rfl) ?_
        refine r_ald (f := SS z) hx hb hK hP 6 rfl (i := w) (by omega) (Nat.lt_of_lt_of_le (by omega : 10 < 1073741824) (by decide)) dX1_turnsTillSeen_26 ?_
        have f26_f3 := iv11_2.1.2.2.2.2 w (by rw [← iv11_1, (turnN_ok hg _).2.2]; exact hw)
        refine lv_iload_n hx hb dX1_turnsTillSeen_27 rfl (lv_at hl 4 rfl) ?_
        refine lv_ishr hx hb dX1_turnsTillSeen_28 ?_
        refine vn_i (v := nI ((SS z w) / 2 ^ pic)) (n_shr (by omega) (by omega)) ?_
        refine lv_iconst (v := nI (1)) hx hb dX1_turnsTillSeen_29 (by decide) ?_
        refine lv_iand hx hb dX1_turnsTillSeen_30 ?_
        refine vn_i (v := bI ((SS z w).testBit pic)) (n_bit _ _) ?_
        refine lv_if_eq (tgt := 37) hx hb dX1_turnsTillSeen_31 (by decide) (fun c4 => ?_) (fun c4 => ?_)
        · skip
          rw [bI_z] at c4
          refine lv_aload_n hx hb dX1_turnsTillSeen_37 rfl (lv_at hl 1 rfl) ?_
          refine va_get (v := .ref (b 0)) (Ts := wsX10) (C := RX1) (T := TX1) (N := 2) hx hb hwsX10 (fun _ h => h) hown hK hP 0 rfl rfl 0 (by decide) (hts (.fieldLink RX1 12 "AdventStreets$Foretold" "trial" "LAdventStreets$Street;") (List.mem_of_getElem? (i := 1) rfl)) (fun _ h9 => h9) rfl dX1_turnsTillSeen_38 ?_
          refine cVv (n := 0) (As := []) (rest := []) (C := RX4) (ci := 4) (q0 := 0) (X := ([(q, .inr (1, [.ref (b 0), .int (ms)]))] ++ stW cA b z ++ stW cA a x)) (pl := []) (wc := (stW cA b z)) (wr := ([(q, .inr (1, [.ref (b 0), .int (ms)]))] ++ stW cA a x)) (w1 := (stW cA b (turnF z))) (wn := ([(q, .inr (1, [.ref (b 0), .int (ms)]))] ++ stW cA b (turnF z) ++ stW cA a x)) (isC := [1, 2, 3, 4, 5, 6]) (isR := [0, 7, 8, 9, 10, 11, 12]) (isN := [0, 7, 8, 9, 10, 11, 12, 1, 2, 3, 4, 5, 6]) ⟨hx, hb, hml, hown, hts⟩ (c_X4_turn l D cA tt b z (iv11_2.1) (by rw [iv11_2.2]; omega) _) gX1_turnsTillSeen_X4_turn rfl (by decide +kernel) rfl rfl ⟨rfl, rfl⟩ ⟨Nat.le_of_ble_eq_true rfl, Nat.le_of_ble_eq_true rfl⟩ ⟨Nat.zero_le _, Nat.zero_le _⟩ hK hE hA hP hD hS ⟨⟨rfl, by decide⟩, ⟨rfl, by decide, by decide⟩, rfl, by decide⟩ rfl hl.1 rfl (Nat.le_of_ble_eq_true rfl) dX1_turnsTillSeen_41 (fun H locs hP hD hS => ?_)
          have hP : va_P D vwCl ([(q, .inr (1, [.ref (b 0), .int (ms)]))] ++ stW cA b (turnF z) ++ stW cA a x) H := hP
          have hD : va_D A ([(q, .inr (1, [.ref (b 0), .int (ms)]))] ++ stW cA b (turnF z) ++ stW cA a x) := hD
          refine lv_iinc (v := nI (i + 1)) (lv' := [(4, .int (nI (i + 1))), (0, .ref (q)), (1, .ref (a 0)), (2, .int (nI (w))), (3, .int (nI (pic)))]) hx hb dX1_turnsTillSeen_44 hl (k := 0) rfl (nI_add _ _) (by decide) rfl (fun ls hl => ?_)
          refine lv_goto (tgt := 11) hx hb dX1_turnsTillSeen_47 (by decide) ?_
          have hl9 := lv_sub (l' := [(4, .int (nI (i + 1))), (0, .ref (q)), (1, .ref (a 0)), (2, .int (nI (w))), (3, .int (nI (pic)))]) hl [0, 1, 2, 3, 4] rfl
          exact ih11 (i + 1) (turnF z) (by omega) (by rw [turnN, iv11_1]) (⟨iv11_2.1.turn, by rw [(turn_n z).2.2.2, iv11_2.2]; omega⟩) (lt_s (p := fun j => seenP x w pic j = false) iv11_3 (by unfold seenP; rw [iv11_1]; exact c4)) (by omega) _ _ _ hP hD hS hl9
        · skip
          rw [bI_nz] at c4
          refine lv_iload hx hb dX1_turnsTillSeen_34 (lv_at hl 0 rfl) ?_
          exact hend _ _ _ _ _ z hP hD hS (by rw [fstN_of (n := 61) (i := i) (by omega) iv11_3 (Or.inr (by unfold seenP; rw [iv11_1]; exact c4)), idxI, if_pos (by omega)]) dX1_turnsTillSeen_36
  have hl9 := lv_sub (l' := [(4, .int (nI (0))), (0, .ref (q)), (1, .ref (a 0)), (2, .int (nI (w))), (3, .int (nI (pic)))]) hl [0, 1, 2, 3, 4] rfl
  exact loop11 _ 0 x (Nat.zero_le _) (rfl) (⟨hg, rfl⟩) (lt_0) (Nat.lt_succ_self _) _ _ _ hP hD hS hl9
set_option maxRecDepth 100000 in
set_option maxHeartbeats 4000000 in
theorem c_X1_turnsTillBare (l : Launch) (D : va_G) (cA : Nat → ClassId) (tt : Nat → Nat) (ms : Int32) (q : Nat) (a b : Nat → Nat) (x y : Sg) (hg : Wk x) (ht : St x + 61 < 1073741824) (sz : Nat) : Ci l D cA tt yX1_turnsTillBare wsX1_turnsTillBare ({ frames := 4, cells := 0, slots := 0, locals := 86 } : Room) [.ref (q), .ref (a 0)] sz ([(q, .inr (1, [.ref (b 0), .int (ms)]))] ++ stW cA b y ++ stW cA a x) ([(q, .inr (1, [.ref (b 0), .int (ms)]))] ++ stW cA b (turnN x (min (fstN 61 (bareP x)) 60)) ++ stW cA a x) (idxI 61 (fstN 61 (bareP x))) := by
  refine Ci.mk (cc := cX1_turnsTillBare) (maxL := 3) (ty := .int) (by decide) rfl rfl (Nat.le_of_ble_eq_true rfl) ?_
  intro p e s m below meth c A Q ls hB hl hend
  obtain ⟨⟨hx, hb, hml, hown, hts⟩, hP, hK, hD, hS, hA, hE⟩ := hB
  have hown : s.vm.findClass RX1 = some m.cls := hown
  have hwsX10 : ∀ w9 ∈ wsX10, w9.before ([.ref (q), .ref (a 0)] : List Value).toArray s = true := fun w9 h => hts w9 (List.mem_cons_of_mem _ (List.mem_append_left _ (List.mem_append_right _ h)))
  have hwsX40 : ∀ w9 ∈ wsX40, w9.before ([.ref (q), .ref (a 0)] : List Value).toArray s = true := fun w9 h => hts w9 (List.mem_cons_of_mem _ (List.mem_append_right _ h))
  have hl : lv_has ls 3 [(0, .ref (q)), (1, .ref (a 0))] := hl
  refine lv_aload_n hx hb dX1_turnsTillBare_0 rfl (lv_at hl 0 rfl) ?_
  refine va_get (v := .ref (b 0)) (Ts := wsX10) (C := RX1) (T := TX1) (N := 2) hx hb hwsX10 (fun _ h => h) hown hK hP 0 rfl rfl 0 (by decide) (hts (.fieldLink RX1 12 "AdventStreets$Foretold" "trial" "LAdventStreets$Street;") (List.mem_of_getElem? (i := 1) rfl)) (fun _ h9 => h9) rfl dX1_turnsTillBare_1 ?_
  refine lv_aload_n hx hb dX1_turnsTillBare_4 rfl (lv_at hl 1 rfl) ?_
  refine cVv (n := 1) (As := [.ref (a 0)]) (rest := []) (C := RX4) (ci := 4) (q0 := 0) (X := ([(q, .inr (1, [.ref (b 0), .int (ms)]))] ++ stW cA b y ++ stW cA a x)) (pl := []) (wc := (stW cA b y ++ stW cA a x)) (wr := [(q, .inr (1, [.ref (b 0), .int (ms)]))]) (w1 := (stW cA b x ++ stW cA a x)) (wn := ([(q, .inr (1, [.ref (b 0), .int (ms)]))] ++ stW cA b x ++ stW cA a x)) (isC := [1, 2, 3, 4, 5, 6, 7, 8, 9, 10, 11, 12]) (isR := [0]) (isN := [0, 1, 2, 3, 4, 5, 6, 7, 8, 9, 10, 11, 12]) ⟨hx, hb, hml, hown, hts⟩ (c_X4_take l D cA tt b a y x  _) gX1_turnsTillBare_X4_take rfl (by decide +kernel) rfl rfl ⟨rfl, rfl⟩ ⟨Nat.le_of_ble_eq_true rfl, Nat.le_of_ble_eq_true rfl⟩ ⟨Nat.zero_le _, Nat.zero_le _⟩ hK hE hA hP hD hS ⟨⟨rfl, by decide⟩, ⟨rfl, by decide, by decide⟩, rfl, by decide⟩ rfl hl.1 rfl (Nat.le_of_ble_eq_true rfl) dX1_turnsTillBare_5 (fun H locs hP hD hS => ?_)
  have hP : va_P D vwCl ([(q, .inr (1, [.ref (b 0), .int (ms)]))] ++ stW cA b x ++ stW cA a x) H := hP
  have hD : va_D A ([(q, .inr (1, [.ref (b 0), .int (ms)]))] ++ stW cA b x ++ stW cA a x) := hD
  refine lv_iconst (v := nI (0)) hx hb dX1_turnsTillBare_8 (by decide) ?_
  refine lv_istore_n (lv' := [(2, .int (nI (0))), (0, .ref (q)), (1, .ref (a 0))]) hx hb dX1_turnsTillBare_9 rfl hl (by decide) rfl (fun ls hl => ?_)
  have loop10 : ∀ (N10 : Nat) (i : Nat) (z : Sg), (i ≤ 60) → (turnN x i = z) → (Wk z ∧ St z = St x + i) → (∀ j, j < i → bareP x j = false) → (60 - i) < N10 → ∀ (H : Heap) (locs : List Loc) (ls : Array Slot), va_P D vwCl ([(q, .inr (1, [.ref (b 0), .int (ms)]))] ++ stW cA b z ++ stW cA a x) H → va_D A ([(q, .inr (1, [.ref (b 0), .int (ms)]))] ++ stW cA b z ++ stW cA a x) → va_S A s.heap H locs → lv_has ls 3 [(2, .int (nI (i))), (0, .ref (q)), (1, .ref (a 0))] → W p l e ({ frames := 4, cells := 0, slots := 0, locals := 86 } : Room) s m ([.ref (q), .ref (a 0)] : List Value).toArray below meth c H locs 0 0 Q (F0 m 10 ls []) := by
    intro N10
    induction N10 with
    | zero => intro i z iv10_0 iv10_1 iv10_2 iv10_3 hN; exact absurd hN (Nat.not_lt_zero _)
    | succ N10 ih10 =>
      intro i z iv10_0 iv10_1 iv10_2 iv10_3 hN10 H locs ls hP hD hS hl
      refine lv_iload_n hx hb dX1_turnsTillBare_10 rfl (lv_at hl 0 rfl) ?_
      refine lv_bipush (v := nI (60)) hx hb dX1_turnsTillBare_11 (by decide) ?_
      refine lv_icmp_ge (tgt := 43) hx hb dX1_turnsTillBare_13 (by decide) (fun c2 => ?_) (fun c2 => ?_)
      · skip
        rw [nI_leI (by omega) (by omega)] at c2
        refine lv_aload_n hx hb dX1_turnsTillBare_43 rfl (lv_at hl 1 rfl) ?_
        refine va_get (v := .ref (b 0)) (Ts := wsX10) (C := RX1) (T := TX1) (N := 2) hx hb hwsX10 (fun _ h => h) hown hK hP 0 rfl rfl 0 (by decide) (hts (.fieldLink RX1 12 "AdventStreets$Foretold" "trial" "LAdventStreets$Street;") (List.mem_of_getElem? (i := 1) rfl)) (fun _ h9 => h9) rfl dX1_turnsTillBare_44 ?_
        refine cVi (n := 0) (As := []) (rest := []) (C := RX4) (ci := 4) (q0 := 0) (X := ([(q, .inr (1, [.ref (b 0), .int (ms)]))] ++ stW cA b z ++ stW cA a x)) (pl := []) (wc := (stW cA b z)) (wr := ([(q, .inr (1, [.ref (b 0), .int (ms)]))] ++ stW cA a x)) (w1 := (stW cA b z)) (wn := ([(q, .inr (1, [.ref (b 0), .int (ms)]))] ++ stW cA b z ++ stW cA a x)) (isC := [1, 2, 3, 4, 5, 6]) (isR := [0, 7, 8, 9, 10, 11, 12]) (isN := [0, 7, 8, 9, 10, 11, 12, 1, 2, 3, 4, 5, 6]) ⟨hx, hb, hml, hown, hts⟩ (c_X4_firstBare l D cA tt b z (iv10_2.1) _) gX1_turnsTillBare_X4_firstBare rfl (by decide +kernel) rfl rfl ⟨rfl, rfl⟩ ⟨Nat.le_of_ble_eq_true rfl, Nat.le_of_ble_eq_true rfl⟩ ⟨Nat.zero_le _, Nat.zero_le _⟩ hK hE hA hP hD hS ⟨⟨rfl, by decide⟩, ⟨rfl, by decide, by decide⟩, rfl, by decide⟩ rfl hl.1 rfl (Nat.le_of_ble_eq_true rfl) dX1_turnsTillBare_47 (fun H locs hP hD hS => ?_)
        have hP : va_P D vwCl ([(q, .inr (1, [.ref (b 0), .int (ms)]))] ++ stW cA b z ++ stW cA a x) H := hP
        have hD : va_D A ([(q, .inr (1, [.ref (b 0), .int (ms)]))] ++ stW cA b z ++ stW cA a x) := hD
        refine lv_ldc (v := (-1000000)) hx hb hown (hts (.constant RX1 33 (-1000000)) (List.mem_of_getElem? (i := 2) rfl)) dX1_turnsTillBare_50 ?_
        refine lv_icmp_eq (tgt := 60) hx hb dX1_turnsTillBare_52 (by decide) (fun c3 => ?_) (fun c3 => ?_)
        · skip
          have e9 : fstN 61 (bareP x) = 61 := fstN_of (by omega) (by rw [show 61 = i + 1 by omega]; exact lt_s (p := fun j => bareP x j = false) iv10_3 (by unfold bareP; rw [iv10_1]; simp [c3])) (Or.inl rfl)
          refine lv_ldc (v := (-1000000)) hx hb hown (hts (.constant RX1 33 (-1000000)) (List.mem_of_getElem? (i := 2) rfl)) dX1_turnsTillBare_60 ?_
          have ef4 : (([(q, .inr (1, [.ref (b 0), .int (ms)]))] ++ stW cA b z ++ stW cA a x) : va_W) = ([(q, .inr (1, [.ref (b 0), .int (ms)]))] ++ stW cA b (turnN x (min (fstN 61 (bareP x)) 60)) ++ stW cA a x) := by
            rw [e9, show min 61 60 = i by omega, iv10_1]
          have hP : va_P D vwCl ([(q, .inr (1, [.ref (b 0), .int (ms)]))] ++ stW cA b (turnN x (min (fstN 61 (bareP x)) 60)) ++ stW cA a x) _ := Eq.mp (congrArg (fun z9 => va_P D vwCl z9 _) ef4) hP
          have hD : va_D A ([(q, .inr (1, [.ref (b 0), .int (ms)]))] ++ stW cA b (turnN x (min (fstN 61 (bareP x)) 60)) ++ stW cA a x) := Eq.mp (congrArg (fun z9 => va_D A z9) ef4) hD
          exact hend _ _ _ _ _ hP hD hS (by rw [e9]; rfl) dX1_turnsTillBare_62
        · skip
          have e9 : fstN 61 (bareP x) = 60 := by
            rw [show 60 = i by omega]
            exact fstN_of (by omega) iv10_3 (Or.inr (by unfold bareP; rw [iv10_1]; simp [c3]))
          refine lv_bipush (v := nI (60)) hx hb dX1_turnsTillBare_55 (by decide) ?_
          refine lv_goto (tgt := 62) hx hb dX1_turnsTillBare_57 (by decide) ?_
          have ef5 : (([(q, .inr (1, [.ref (b 0), .int (ms)]))] ++ stW cA b z ++ stW cA a x) : va_W) = ([(q, .inr (1, [.ref (b 0), .int (ms)]))] ++ stW cA b (turnN x (min (fstN 61 (bareP x)) 60)) ++ stW cA a x) := by
            rw [e9, show min 60 60 = i by omega, iv10_1]
          have hP : va_P D vwCl ([(q, .inr (1, [.ref (b 0), .int (ms)]))] ++ stW cA b (turnN x (min (fstN 61 (bareP x)) 60)) ++ stW cA a x) _ := Eq.mp (congrArg (fun z9 => va_P D vwCl z9 _) ef5) hP
          have hD : va_D A ([(q, .inr (1, [.ref (b 0), .int (ms)]))] ++ stW cA b (turnN x (min (fstN 61 (bareP x)) 60)) ++ stW cA a x) := Eq.mp (congrArg (fun z9 => va_D A z9) ef5) hD
          exact hend _ _ _ _ _ hP hD hS (by rw [e9]; rfl) dX1_turnsTillBare_62
      · skip
        rw [nI_leI (by omega) (by omega)] at c2
        refine lv_aload_n hx hb dX1_turnsTillBare_16 rfl (lv_at hl 1 rfl) ?_
        refine va_get (v := .ref (b 0)) (Ts := wsX10) (C := RX1) (T := TX1) (N := 2) hx hb hwsX10 (fun _ h => h) hown hK hP 0 rfl rfl 0 (by decide) (hts (.fieldLink RX1 12 "AdventStreets$Foretold" "trial" "LAdventStreets$Street;") (List.mem_of_getElem? (i := 1) rfl)) (fun _ h9 => h9) rfl dX1_turnsTillBare_17 ?_
        refine cVi (n := 0) (As := []) (rest := []) (C := RX4) (ci := 4) (q0 := 0) (X := ([(q, .inr (1, [.ref (b 0), .int (ms)]))] ++ stW cA b z ++ stW cA a x)) (pl := []) (wc := (stW cA b z)) (wr := ([(q, .inr (1, [.ref (b 0), .int (ms)]))] ++ stW cA a x)) (w1 := (stW cA b z)) (wn := ([(q, .inr (1, [.ref (b 0), .int (ms)]))] ++ stW cA b z ++ stW cA a x)) (isC := [1, 2, 3, 4, 5, 6]) (isR := [0, 7, 8, 9, 10, 11, 12]) (isN := [0, 7, 8, 9, 10, 11, 12, 1, 2, 3, 4, 5, 6]) ⟨hx, hb, hml, hown, hts⟩ (c_X4_firstBare l D cA tt b z (iv10_2.1) _) gX1_turnsTillBare_X4_firstBare rfl (by decide +kernel) rfl rfl ⟨rfl, rfl⟩ ⟨Nat.le_of_ble_eq_true rfl, Nat.le_of_ble_eq_true rfl⟩ ⟨Nat.zero_le _, Nat.zero_le _⟩ hK hE hA hP hD hS ⟨⟨rfl, by decide⟩, ⟨rfl, by decide, by decide⟩, rfl, by decide⟩ rfl hl.1 rfl (Nat.le_of_ble_eq_true rfl) dX1_turnsTillBare_20 (fun H locs hP hD hS => ?_)
        have hP : va_P D vwCl ([(q, .inr (1, [.ref (b 0), .int (ms)]))] ++ stW cA b z ++ stW cA a x) H := hP
        have hD : va_D A ([(q, .inr (1, [.ref (b 0), .int (ms)]))] ++ stW cA b z ++ stW cA a x) := hD
        refine lv_ldc (v := (-1000000)) hx hb hown (hts (.constant RX1 33 (-1000000)) (List.mem_of_getElem? (i := 2) rfl)) dX1_turnsTillBare_23 ?_
        refine lv_icmp_eq (tgt := 30) hx hb dX1_turnsTillBare_25 (by decide) (fun c6 => ?_) (fun c6 => ?_)
        · skip
          refine lv_aload_n hx hb dX1_turnsTillBare_30 rfl (lv_at hl 1 rfl) ?_
          refine va_get (v := .ref (b 0)) (Ts := wsX10) (C := RX1) (T := TX1) (N := 2) hx hb hwsX10 (fun _ h => h) hown hK hP 0 rfl rfl 0 (by decide) (hts (.fieldLink RX1 12 "AdventStreets$Foretold" "trial" "LAdventStreets$Street;") (List.mem_of_getElem? (i := 1) rfl)) (fun _ h9 => h9) rfl dX1_turnsTillBare_31 ?_
          refine cVv (n := 0) (As := []) (rest := []) (C := RX4) (ci := 4) (q0 := 0) (X := ([(q, .inr (1, [.ref (b 0), .int (ms)]))] ++ stW cA b z ++ stW cA a x)) (pl := []) (wc := (stW cA b z)) (wr := ([(q, .inr (1, [.ref (b 0), .int (ms)]))] ++ stW cA a x)) (w1 := (stW cA b (turnF z))) (wn := ([(q, .inr (1, [.ref (b 0), .int (ms)]))] ++ stW cA b (turnF z) ++ stW cA a x)) (isC := [1, 2, 3, 4, 5, 6]) (isR := [0, 7, 8, 9, 10, 11, 12]) (isN := [0, 7, 8, 9, 10, 11, 12, 1, 2, 3, 4, 5, 6]) ⟨hx, hb, hml, hown, hts⟩ (c_X4_turn l D cA tt b z (iv10_2.1) (by rw [iv10_2.2]; omega) _) gX1_turnsTillBare_X4_turn rfl (by decide +kernel) rfl rfl ⟨rfl, rfl⟩ ⟨Nat.le_of_ble_eq_true rfl, Nat.le_of_ble_eq_true rfl⟩ ⟨Nat.zero_le _, Nat.zero_le _⟩ hK hE hA hP hD hS ⟨⟨rfl, by decide⟩, ⟨rfl, by decide, by decide⟩, rfl, by decide⟩ rfl hl.1 rfl (Nat.le_of_ble_eq_true rfl) dX1_turnsTillBare_34 (fun H locs hP hD hS => ?_)
          have hP : va_P D vwCl ([(q, .inr (1, [.ref (b 0), .int (ms)]))] ++ stW cA b (turnF z) ++ stW cA a x) H := hP
          have hD : va_D A ([(q, .inr (1, [.ref (b 0), .int (ms)]))] ++ stW cA b (turnF z) ++ stW cA a x) := hD
          refine lv_iinc (v := nI (i + 1)) (lv' := [(2, .int (nI (i + 1))), (0, .ref (q)), (1, .ref (a 0))]) hx hb dX1_turnsTillBare_37 hl (k := 0) rfl (nI_add _ _) (by decide) rfl (fun ls hl => ?_)
          refine lv_goto (tgt := 10) hx hb dX1_turnsTillBare_40 (by decide) ?_
          have hl9 := lv_sub (l' := [(2, .int (nI (i + 1))), (0, .ref (q)), (1, .ref (a 0))]) hl [0, 1, 2] rfl
          exact ih10 (i + 1) (turnF z) (by omega) (by rw [turnN, iv10_1]) (⟨iv10_2.1.turn, by rw [(turn_n z).2.2.2, iv10_2.2]; omega⟩) (lt_s (p := fun j => bareP x j = false) iv10_3 (by unfold bareP; rw [iv10_1]; simp [c6])) (by omega) _ _ _ hP hD hS hl9
        · skip
          have e9 : fstN 61 (bareP x) = i := fstN_of (by omega) iv10_3 (Or.inr (by unfold bareP; rw [iv10_1]; simp [c6]))
          refine lv_iload_n hx hb dX1_turnsTillBare_28 rfl (lv_at hl 0 rfl) ?_
          have ef7 : (([(q, .inr (1, [.ref (b 0), .int (ms)]))] ++ stW cA b z ++ stW cA a x) : va_W) = ([(q, .inr (1, [.ref (b 0), .int (ms)]))] ++ stW cA b (turnN x (min (fstN 61 (bareP x)) 60)) ++ stW cA a x) := by
            rw [e9, show min i 60 = i by omega, iv10_1]
          have hP : va_P D vwCl ([(q, .inr (1, [.ref (b 0), .int (ms)]))] ++ stW cA b (turnN x (min (fstN 61 (bareP x)) 60)) ++ stW cA a x) _ := Eq.mp (congrArg (fun z9 => va_P D vwCl z9 _) ef7) hP
          have hD : va_D A ([(q, .inr (1, [.ref (b 0), .int (ms)]))] ++ stW cA b (turnN x (min (fstN 61 (bareP x)) 60)) ++ stW cA a x) := Eq.mp (congrArg (fun z9 => va_D A z9) ef7) hD
          exact hend _ _ _ _ _ hP hD hS (by rw [e9, idxI, if_pos (by omega)]) dX1_turnsTillBare_29
  have hl9 := lv_sub (l' := [(2, .int (nI (0))), (0, .ref (q)), (1, .ref (a 0))]) hl [0, 1, 2] rfl
  exact loop10 _ 0 x (Nat.zero_le _) (rfl) (⟨hg, rfl⟩) (lt_0) (Nat.lt_succ_self _) _ _ _ hP hD hS hl9
set_option maxRecDepth 100000 in
set_option maxHeartbeats 4000000 in
theorem c_X1_staysShut (l : Launch) (D : va_G) (cA : Nat → ClassId) (tt : Nat → Nat) (ms : Int32) (q : Nat) (a b : Nat → Nat) (x y : Sg) (w n gl part : Nat) (hg : Wk x) (ht : St x + 61 < 1073741824) (hw : w < Sn x) (hn : n ≤ 60) (hgl : gl < 1048576) (hp : part < 1048576) (sz : Nat) : CiE l D cA tt yX1_staysShut wsX1_staysShut ({ frames := 3, cells := 0, slots := 0, locals := 81 } : Room) [.ref (q), .ref (a 0), .int (nI (w)), .int (nI (n)), .int (nI (gl)), .int (nI (part))] sz ([(q, .inr (1, [.ref (b 0), .int (ms)]))] ++ stW cA b y ++ stW cA a x) (fun zz : Sg => ([(q, .inr (1, [.ref (b 0), .int (ms)]))] ++ stW cA b zz ++ stW cA a x)) (bI (shutB x w n gl part)) := by
  have hw10 : w < 10 := Nat.lt_of_lt_of_le hw hg.1
  refine CiE.mk (cc := cX1_staysShut) (maxL := 7) (ty := .boolean) (by decide) rfl (bI_n _) (Nat.le_of_ble_eq_true rfl) ?_
  intro p e s m below meth c A Q ls hB hl hend
  obtain ⟨⟨hx, hb, hml, hown, hts⟩, hP, hK, hD, hS, hA, hE⟩ := hB
  have hown : s.vm.findClass RX1 = some m.cls := hown
  have hwsX10 : ∀ w9 ∈ wsX10, w9.before ([.ref (q), .ref (a 0), .int (nI (w)), .int (nI (n)), .int (nI (gl)), .int (nI (part))] : List Value).toArray s = true := fun w9 h => hts w9 (List.mem_cons_of_mem _ (List.mem_append_left _ (List.mem_append_right _ h)))
  have hwsX40 : ∀ w9 ∈ wsX40, w9.before ([.ref (q), .ref (a 0), .int (nI (w)), .int (nI (n)), .int (nI (gl)), .int (nI (part))] : List Value).toArray s = true := fun w9 h => hts w9 (List.mem_cons_of_mem _ (List.mem_append_right _ h))
  have hl : lv_has ls 7 [(0, .ref (q)), (1, .ref (a 0)), (2, .int (nI (w))), (3, .int (nI (n))), (4, .int (nI (gl))), (5, .int (nI (part)))] := hl
  refine lv_aload_n hx hb dX1_staysShut_0 rfl (lv_at hl 0 rfl) ?_
  refine va_get (v := .ref (b 0)) (Ts := wsX10) (C := RX1) (T := TX1) (N := 2) hx hb hwsX10 (fun _ h => h) hown hK hP 0 rfl rfl 0 (by decide) (hts (.fieldLink RX1 12 "AdventStreets$Foretold" "trial" "LAdventStreets$Street;") (List.mem_of_getElem? (i := 1) rfl)) (fun _ h9 => h9) rfl dX1_staysShut_1 ?_
  refine lv_aload_n hx hb dX1_staysShut_4 rfl (lv_at hl 1 rfl) ?_
  refine cVv (n := 1) (As := [.ref (a 0)]) (rest := []) (C := RX4) (ci := 4) (q0 := 0) (X := ([(q, .inr (1, [.ref (b 0), .int (ms)]))] ++ stW cA b y ++ stW cA a x)) (pl := []) (wc := (stW cA b y ++ stW cA a x)) (wr := [(q, .inr (1, [.ref (b 0), .int (ms)]))]) (w1 := (stW cA b x ++ stW cA a x)) (wn := ([(q, .inr (1, [.ref (b 0), .int (ms)]))] ++ stW cA b x ++ stW cA a x)) (isC := [1, 2, 3, 4, 5, 6, 7, 8, 9, 10, 11, 12]) (isR := [0]) (isN := [0, 1, 2, 3, 4, 5, 6, 7, 8, 9, 10, 11, 12]) ⟨hx, hb, hml, hown, hts⟩ (c_X4_take l D cA tt b a y x  _) gX1_staysShut_X4_take rfl (by decide +kernel) rfl rfl ⟨rfl, rfl⟩ ⟨Nat.le_of_ble_eq_true rfl, Nat.le_of_ble_eq_true rfl⟩ ⟨Nat.zero_le _, Nat.zero_le _⟩ hK hE hA hP hD hS ⟨⟨rfl, by decide⟩, ⟨rfl, by decide, by decide⟩, rfl, by decide⟩ rfl hl.1 rfl (Nat.le_of_ble_eq_true rfl) dX1_staysShut_5 (fun H locs hP hD hS => ?_)
  have hP : va_P D vwCl ([(q, .inr (1, [.ref (b 0), .int (ms)]))] ++ stW cA b x ++ stW cA a x) H := hP
  have hD : va_D A ([(q, .inr (1, [.ref (b 0), .int (ms)]))] ++ stW cA b x ++ stW cA a x) := hD
  refine lv_aload_n hx hb dX1_staysShut_8 rfl (lv_at hl 0 rfl) ?_
  refine va_get (v := .ref (b 0)) (Ts := wsX10) (C := RX1) (T := TX1) (N := 2) hx hb hwsX10 (fun _ h => h) hown hK hP 0 rfl rfl 0 (by decide) (hts (.fieldLink RX1 12 "AdventStreets$Foretold" "trial" "LAdventStreets$Street;") (List.mem_of_getElem? (i := 1) rfl)) (fun _ h9 => h9) rfl dX1_staysShut_9 ?_
  refine lv_iload hx hb dX1_staysShut_12 (lv_at hl 4 rfl) ?_
  refine cVv (n := 1) (As := [.int (nI (gl))]) (rest := []) (C := RX4) (ci := 4) (q0 := 0) (X := ([(q, .inr (1, [.ref (b 0), .int (ms)]))] ++ stW cA b x ++ stW cA a x)) (pl := []) (wc := (stW cA b x)) (wr := ([(q, .inr (1, [.ref (b 0), .int (ms)]))] ++ stW cA a x)) (w1 := (stW cA b (fastF x gl))) (wn := ([(q, .inr (1, [.ref (b 0), .int (ms)]))] ++ stW cA b (fastF x gl) ++ stW cA a x)) (isC := [1, 2, 3, 4, 5, 6]) (isR := [0, 7, 8, 9, 10, 11, 12]) (isN := [0, 7, 8, 9, 10, 11, 12, 1, 2, 3, 4, 5, 6]) ⟨hx, hb, hml, hown, hts⟩ (c_X4_glueFast l D cA tt b x gl (hg) (by omega) _) gX1_staysShut_X4_glueFast rfl (by decide +kernel) rfl rfl ⟨rfl, rfl⟩ ⟨Nat.le_of_ble_eq_true rfl, Nat.le_of_ble_eq_true rfl⟩ ⟨Nat.zero_le _, Nat.zero_le _⟩ hK hE hA hP hD hS ⟨⟨rfl, by decide⟩, ⟨rfl, by decide, by decide⟩, rfl, by decide⟩ rfl hl.1 rfl (Nat.le_of_ble_eq_true rfl) dX1_staysShut_14 (fun H locs hP hD hS => ?_)
  have hP : va_P D vwCl ([(q, .inr (1, [.ref (b 0), .int (ms)]))] ++ stW cA b (fastF x gl) ++ stW cA a x) H := hP
  have hD : va_D A ([(q, .inr (1, [.ref (b 0), .int (ms)]))] ++ stW cA b (fastF x gl) ++ stW cA a x) := hD
  refine lv_iconst (v := nI (0)) hx hb dX1_staysShut_17 (by decide) ?_
  refine lv_istore (lv' := [(6, .int (nI (0))), (0, .ref (q)), (1, .ref (a 0)), (2, .int (nI (w))), (3, .int (nI (n))), (4, .int (nI (gl))), (5, .int (nI (part)))]) hx hb dX1_staysShut_18 hl (by decide) rfl (fun ls hl => ?_)
  have loop20 : ∀ (N20 : Nat) (i : Nat) (z : Sg), (i ≤ n) → (turnP (fastF x gl) part i = z) → (Wk z ∧ St z = St x + i) → (∀ j, j < i → openAt (fastF x gl) part w j = false) → (n - i) < N20 → ∀ (H : Heap) (locs : List Loc) (ls : Array Slot), va_P D vwCl ([(q, .inr (1, [.ref (b 0), .int (ms)]))] ++ stW cA b z ++ stW cA a x) H → va_D A ([(q, .inr (1, [.ref (b 0), .int (ms)]))] ++ stW cA b z ++ stW cA a x) → va_S A s.heap H locs → lv_has ls 7 [(6, .int (nI (i))), (0, .ref (q)), (1, .ref (a 0)), (2, .int (nI (w))), (3, .int (nI (n))), (4, .int (nI (gl))), (5, .int (nI (part)))] → W p l e ({ frames := 3, cells := 0, slots := 0, locals := 81 } : Room) s m ([.ref (q), .ref (a 0), .int (nI (w)), .int (nI (n)), .int (nI (gl)), .int (nI (part))] : List Value).toArray below meth c H locs 0 0 Q (F0 m 20 ls []) := by
    intro N20
    induction N20 with
    | zero => intro i z iv20_0 iv20_1 iv20_2 iv20_3 hN; exact absurd hN (Nat.not_lt_zero _)
    | succ N20 ih20 =>
      intro i z iv20_0 iv20_1 iv20_2 iv20_3 hN20 H locs ls hP hD hS hl
      refine lv_iload hx hb dX1_staysShut_20 (lv_at hl 0 rfl) ?_
      refine lv_iload_n hx hb dX1_staysShut_22 rfl (lv_at hl 4 rfl) ?_
      refine lv_icmp_ge (tgt := 61) hx hb dX1_staysShut_23 (by decide) (fun c2 => ?_) (fun c2 => ?_)
      · skip
        rw [nI_leI (by omega) (by omega)] at c2
        refine lv_iconst (v := nI (1)) hx hb dX1_staysShut_61 (by decide) ?_
        exact hend _ _ _ _ _ z hP hD hS (one_bI (by unfold shutB; rw [fstN_of (n := n) (i := i) (by omega) iv20_3 (Or.inl (by omega))]; exact decide_eq_true (by omega))) dX1_staysShut_62
      · skip
        rw [nI_leI (by omega) (by omega)] at c2
        refine lv_aload_n hx hb dX1_staysShut_26 rfl (lv_at hl 1 rfl) ?_
        refine va_get (v := .ref (b 0)) (Ts := wsX10) (C := RX1) (T := TX1) (N := 2) hx hb hwsX10 (fun _ h => h) hown hK hP 0 rfl rfl 0 (by decide) (hts (.fieldLink RX1 12 "AdventStreets$Foretold" "trial" "LAdventStreets$Street;") (List.mem_of_getElem? (i := 1) rfl)) (fun _ h9 => h9) rfl dX1_staysShut_27 ?_
        refine lv_iload_n hx hb dX1_staysShut_30 rfl (lv_at hl 3 rfl) ?_
        refine lv_aload_n hx hb dX1_staysShut_31 rfl (lv_at hl 1 rfl) ?_
        refine va_get (v := .ref (b 0)) (Ts := wsX10) (C := RX1) (T := TX1) (N := 2) hx hb hwsX10 (fun _ h => h) hown hK hP 0 rfl rfl 0 (by decide) (hts (.fieldLink RX1 12 "AdventStreets$Foretold" "trial" "LAdventStreets$Street;") (List.mem_of_getElem? (i := 1) rfl)) (fun _ h9 => h9) rfl dX1_staysShut_32 ?_
        refine cVi (n := 0) (As := []) (rest := [.int (nI (w)), .ref (b 0)]) (C := RX4) (ci := 4) (q0 := 0) (X := ([(q, .inr (1, [.ref (b 0), .int (ms)]))] ++ stW cA b z ++ stW cA a x)) (pl := []) (wc := (stW cA b z)) (wr := ([(q, .inr (1, [.ref (b 0), .int (ms)]))] ++ stW cA a x)) (w1 := (stW cA b z)) (wn := ([(q, .inr (1, [.ref (b 0), .int (ms)]))] ++ stW cA b z ++ stW cA a x)) (isC := [1, 2, 3, 4, 5, 6]) (isR := [0, 7, 8, 9, 10, 11, 12]) (isN := [0, 7, 8, 9, 10, 11, 12, 1, 2, 3, 4, 5, 6]) ⟨hx, hb, hml, hown, hts⟩ (c_X4_date l D cA tt b z (iv20_2.1) (by rw [iv20_2.2]; omega) _) gX1_staysShut_X4_date rfl (by decide +kernel) rfl rfl ⟨rfl, rfl⟩ ⟨Nat.le_of_ble_eq_true rfl, Nat.le_of_ble_eq_true rfl⟩ ⟨Nat.zero_le _, Nat.zero_le _⟩ hK hE hA hP hD hS ⟨⟨rfl, by decide⟩, ⟨rfl, by decide, by decide⟩, rfl, by decide⟩ rfl hl.1 rfl (Nat.le_of_ble_eq_true rfl) dX1_staysShut_35 (fun H locs hP hD hS => ?_)
        have hP : va_P D vwCl ([(q, .inr (1, [.ref (b 0), .int (ms)]))] ++ stW cA b z ++ stW cA a x) H := hP
        have hD : va_D A ([(q, .inr (1, [.ref (b 0), .int (ms)]))] ++ stW cA b z ++ stW cA a x) := hD
        refine cVi (n := 2) (As := [.int (nI (w)), .int (nI (dateF z))]) (rest := []) (C := RX4) (ci := 4) (q0 := 0) (X := ([(q, .inr (1, [.ref (b 0), .int (ms)]))] ++ stW cA b z ++ stW cA a x)) (pl := []) (wc := (stW cA b z)) (wr := ([(q, .inr (1, [.ref (b 0), .int (ms)]))] ++ stW cA a x)) (w1 := (stW cA b z)) (wn := ([(q, .inr (1, [.ref (b 0), .int (ms)]))] ++ stW cA b z ++ stW cA a x)) (isC := [1, 2, 3, 4, 5, 6]) (isR := [0, 7, 8, 9, 10, 11, 12]) (isN := [0, 7, 8, 9, 10, 11, 12, 1, 2, 3, 4, 5, 6]) ⟨hx, hb, hml, hown, hts⟩ (c_X4_wouldOpen l D cA tt b z w (dateF z) (iv20_2.1) (by rw [← iv20_1, (turnP_ok (hg.fast gl) part i).2.2]; exact hw) (Nat.lt_trans (dateK_lt iv20_2.1) (by decide)) _) gX1_staysShut_X4_wouldOpen rfl (by decide +kernel) rfl rfl ⟨rfl, rfl⟩ ⟨Nat.le_of_ble_eq_true rfl, Nat.le_of_ble_eq_true rfl⟩ ⟨Nat.zero_le _, Nat.zero_le _⟩ hK hE hA hP hD hS ⟨⟨rfl, by decide⟩, ⟨rfl, by decide, by decide⟩, rfl, by decide⟩ rfl hl.1 rfl (Nat.le_of_ble_eq_true rfl) dX1_staysShut_38 (fun H locs hP hD hS => ?_)
        have hP : va_P D vwCl ([(q, .inr (1, [.ref (b 0), .int (ms)]))] ++ stW cA b z ++ stW cA a x) H := hP
        have hD : va_D A ([(q, .inr (1, [.ref (b 0), .int (ms)]))] ++ stW cA b z ++ stW cA a x) := hD
        refine lv_if_eq (tgt := 46) hx hb dX1_staysShut_41 (by decide) (fun c3 => ?_) (fun c3 => ?_)
        · skip
          rw [bI_z] at c3
          refine lv_aload_n hx hb dX1_staysShut_46 rfl (lv_at hl 1 rfl) ?_
          refine va_get (v := .ref (b 0)) (Ts := wsX10) (C := RX1) (T := TX1) (N := 2) hx hb hwsX10 (fun _ h => h) hown hK hP 0 rfl rfl 0 (by decide) (hts (.fieldLink RX1 12 "AdventStreets$Foretold" "trial" "LAdventStreets$Street;") (List.mem_of_getElem? (i := 1) rfl)) (fun _ h9 => h9) rfl dX1_staysShut_47 ?_
          refine lv_iload hx hb dX1_staysShut_50 (lv_at hl 6 rfl) ?_
          refine cVv (n := 1) (As := [.int (nI (part))]) (rest := []) (C := RX4) (ci := 4) (q0 := 0) (X := ([(q, .inr (1, [.ref (b 0), .int (ms)]))] ++ stW cA b z ++ stW cA a x)) (pl := []) (wc := (stW cA b z)) (wr := ([(q, .inr (1, [.ref (b 0), .int (ms)]))] ++ stW cA a x)) (w1 := (stW cA b (turnU z part))) (wn := ([(q, .inr (1, [.ref (b 0), .int (ms)]))] ++ stW cA b (turnU z part) ++ stW cA a x)) (isC := [1, 2, 3, 4, 5, 6]) (isR := [0, 7, 8, 9, 10, 11, 12]) (isN := [0, 7, 8, 9, 10, 11, 12, 1, 2, 3, 4, 5, 6]) ⟨hx, hb, hml, hown, hts⟩ (c_X4_turnUnseen l D cA tt b z part (iv20_2.1) (by rw [iv20_2.2]; omega) (by omega) _) gX1_staysShut_X4_turnUnseen rfl (by decide +kernel) rfl rfl ⟨rfl, rfl⟩ ⟨Nat.le_of_ble_eq_true rfl, Nat.le_of_ble_eq_true rfl⟩ ⟨Nat.zero_le _, Nat.zero_le _⟩ hK hE hA hP hD hS ⟨⟨rfl, by decide⟩, ⟨rfl, by decide, by decide⟩, rfl, by decide⟩ rfl hl.1 rfl (Nat.le_of_ble_eq_true rfl) dX1_staysShut_52 (fun H locs hP hD hS => ?_)
          have hP : va_P D vwCl ([(q, .inr (1, [.ref (b 0), .int (ms)]))] ++ stW cA b (turnU z part) ++ stW cA a x) H := hP
          have hD : va_D A ([(q, .inr (1, [.ref (b 0), .int (ms)]))] ++ stW cA b (turnU z part) ++ stW cA a x) := hD
          refine lv_iinc (v := nI (i + 1)) (lv' := [(6, .int (nI (i + 1))), (0, .ref (q)), (1, .ref (a 0)), (2, .int (nI (w))), (3, .int (nI (n))), (4, .int (nI (gl))), (5, .int (nI (part)))]) hx hb dX1_staysShut_55 hl (k := 0) rfl (nI_add _ _) (by decide) rfl (fun ls hl => ?_)
          refine lv_goto (tgt := 20) hx hb dX1_staysShut_58 (by decide) ?_
          have hl9 := lv_sub (l' := [(6, .int (nI (i + 1))), (0, .ref (q)), (1, .ref (a 0)), (2, .int (nI (w))), (3, .int (nI (n))), (4, .int (nI (gl))), (5, .int (nI (part)))]) hl [0, 1, 2, 3, 4, 5, 6] rfl
          exact ih20 (i + 1) (turnU z part) (by omega) (by rw [turnP, iv20_1]) (⟨iv20_2.1.turnU part, by rw [(turnU_n z part).2.2.2, iv20_2.2]; omega⟩) (lt_s (p := fun j => openAt (fastF x gl) part w j = false) iv20_3 (by unfold openAt; rw [iv20_1]; exact c3)) (by omega) _ _ _ hP hD hS hl9
        · skip
          rw [bI_nz] at c3
          refine lv_iconst (v := nI (0)) hx hb dX1_staysShut_44 (by decide) ?_
          exact hend _ _ _ _ _ z hP hD hS (zero_bI (by unfold shutB; rw [fstN_of (n := n) (i := i) (by omega) iv20_3 (Or.inr (by unfold openAt; rw [iv20_1]; exact c3))]; exact decide_eq_false (by omega))) dX1_staysShut_45
  have hl9 := lv_sub (l' := [(6, .int (nI (0))), (0, .ref (q)), (1, .ref (a 0)), (2, .int (nI (w))), (3, .int (nI (n))), (4, .int (nI (gl))), (5, .int (nI (part)))]) hl [0, 1, 2, 3, 4, 5, 6] rfl
  exact loop20 _ 0 (fastF x gl) (Nat.zero_le _) (rfl) (⟨hg.fast gl, rfl⟩) (lt_0) (Nat.lt_succ_self _) _ _ _ hP hD hS hl9
set_option maxRecDepth 100000 in
set_option maxHeartbeats 4000000 in
theorem c_X1_seenByTrade (l : Launch) (D : va_G) (cA : Nat → ClassId) (tt : Nat → Nat) (ms : Int32) (q : Nat) (a b : Nat → Nat) (x y : Sg) (w n i j : Nat) (hg : Wk x) (ht : St x + n < 1073741824) (hn : n < 1000) (hw : w < Sn x) (hi : i < Sn x) (hj : j < Sn x) (sz : Nat) : CiE l D cA tt yX1_seenByTrade wsX1_seenByTrade ({ frames := 5, cells := 0, slots := 0, locals := 108 } : Room) [.ref (q), .ref (a 0), .int (nI (w)), .int (nI (n)), .int (nI (i)), .int (nI (j))] sz ([(q, .inr (1, [.ref (b 0), .int (ms)]))] ++ stW cA b y ++ stW cA a x) (fun zz : Sg => ([(q, .inr (1, [.ref (b 0), .int (ms)]))] ++ stW cA b zz ++ stW cA a x)) (nI (tradeN x w n i j)) := by
  have hw10 : w < 10 := Nat.lt_of_lt_of_le hw hg.1
  refine CiE.mk (cc := cX1_seenByTrade) (maxL := 6) (ty := .int) (by decide) rfl rfl (Nat.le_of_ble_eq_true rfl) ?_
  intro p e s m below meth c A Q ls hB hl hend
  obtain ⟨⟨hx, hb, hml, hown, hts⟩, hP, hK, hD, hS, hA, hE⟩ := hB
  have hown : s.vm.findClass RX1 = some m.cls := hown
  have hwsX10 : ∀ w9 ∈ wsX10, w9.before ([.ref (q), .ref (a 0), .int (nI (w)), .int (nI (n)), .int (nI (i)), .int (nI (j))] : List Value).toArray s = true := fun w9 h => hts w9 (List.mem_cons_of_mem _ (List.mem_append_left _ (List.mem_append_right _ h)))
  have hwsX40 : ∀ w9 ∈ wsX40, w9.before ([.ref (q), .ref (a 0), .int (nI (w)), .int (nI (n)), .int (nI (i)), .int (nI (j))] : List Value).toArray s = true := fun w9 h => hts w9 (List.mem_cons_of_mem _ (List.mem_append_right _ h))
  have hl : lv_has ls 6 [(0, .ref (q)), (1, .ref (a 0)), (2, .int (nI (w))), (3, .int (nI (n))), (4, .int (nI (i))), (5, .int (nI (j)))] := hl
  refine lv_aload_n hx hb dX1_seenByTrade_0 rfl (lv_at hl 0 rfl) ?_
  refine va_get (v := .ref (b 0)) (Ts := wsX10) (C := RX1) (T := TX1) (N := 2) hx hb hwsX10 (fun _ h => h) hown hK hP 0 rfl rfl 0 (by decide) (hts (.fieldLink RX1 12 "AdventStreets$Foretold" "trial" "LAdventStreets$Street;") (List.mem_of_getElem? (i := 1) rfl)) (fun _ h9 => h9) rfl dX1_seenByTrade_1 ?_
  refine lv_aload_n hx hb dX1_seenByTrade_4 rfl (lv_at hl 1 rfl) ?_
  refine cVv (n := 1) (As := [.ref (a 0)]) (rest := []) (C := RX4) (ci := 4) (q0 := 0) (X := ([(q, .inr (1, [.ref (b 0), .int (ms)]))] ++ stW cA b y ++ stW cA a x)) (pl := []) (wc := (stW cA b y ++ stW cA a x)) (wr := [(q, .inr (1, [.ref (b 0), .int (ms)]))]) (w1 := (stW cA b x ++ stW cA a x)) (wn := ([(q, .inr (1, [.ref (b 0), .int (ms)]))] ++ stW cA b x ++ stW cA a x)) (isC := [1, 2, 3, 4, 5, 6, 7, 8, 9, 10, 11, 12]) (isR := [0]) (isN := [0, 1, 2, 3, 4, 5, 6, 7, 8, 9, 10, 11, 12]) ⟨hx, hb, hml, hown, hts⟩ (c_X4_take l D cA tt b a y x  _) gX1_seenByTrade_X4_take rfl (by decide +kernel) rfl rfl ⟨rfl, rfl⟩ ⟨Nat.le_of_ble_eq_true rfl, Nat.le_of_ble_eq_true rfl⟩ ⟨Nat.zero_le _, Nat.zero_le _⟩ hK hE hA hP hD hS ⟨⟨rfl, by decide⟩, ⟨rfl, by decide, by decide⟩, rfl, by decide⟩ rfl hl.1 rfl (Nat.le_of_ble_eq_true rfl) dX1_seenByTrade_5 (fun H locs hP hD hS => ?_)
  have hP : va_P D vwCl ([(q, .inr (1, [.ref (b 0), .int (ms)]))] ++ stW cA b x ++ stW cA a x) H := hP
  have hD : va_D A ([(q, .inr (1, [.ref (b 0), .int (ms)]))] ++ stW cA b x ++ stW cA a x) := hD
  refine lv_aload_n hx hb dX1_seenByTrade_8 rfl (lv_at hl 0 rfl) ?_
  refine va_get (v := .ref (b 0)) (Ts := wsX10) (C := RX1) (T := TX1) (N := 2) hx hb hwsX10 (fun _ h => h) hown hK hP 0 rfl rfl 0 (by decide) (hts (.fieldLink RX1 12 "AdventStreets$Foretold" "trial" "LAdventStreets$Street;") (List.mem_of_getElem? (i := 1) rfl)) (fun _ h9 => h9) rfl dX1_seenByTrade_9 ?_
  refine lv_iload hx hb dX1_seenByTrade_12 (lv_at hl 4 rfl) ?_
  refine lv_iload hx hb dX1_seenByTrade_14 (lv_at hl 5 rfl) ?_
  refine cVv (n := 2) (As := [.int (nI (i)), .int (nI (j))]) (rest := []) (C := RX4) (ci := 4) (q0 := 0) (X := ([(q, .inr (1, [.ref (b 0), .int (ms)]))] ++ stW cA b x ++ stW cA a x)) (pl := []) (wc := (stW cA b x)) (wr := ([(q, .inr (1, [.ref (b 0), .int (ms)]))] ++ stW cA a x)) (w1 := (stW cA b (swapD x i j))) (wn := ([(q, .inr (1, [.ref (b 0), .int (ms)]))] ++ stW cA b (swapD x i j) ++ stW cA a x)) (isC := [1, 2, 3, 4, 5, 6]) (isR := [0, 7, 8, 9, 10, 11, 12]) (isN := [0, 7, 8, 9, 10, 11, 12, 1, 2, 3, 4, 5, 6]) ⟨hx, hb, hml, hown, hts⟩ (c_X4_changeDays l D cA tt b x i j (hg) (Nat.lt_of_lt_of_le hi hg.1) (Nat.lt_of_lt_of_le hj hg.1) _) gX1_seenByTrade_X4_changeDays rfl (by decide +kernel) rfl rfl ⟨rfl, rfl⟩ ⟨Nat.le_of_ble_eq_true rfl, Nat.le_of_ble_eq_true rfl⟩ ⟨Nat.zero_le _, Nat.zero_le _⟩ hK hE hA hP hD hS ⟨⟨rfl, by decide⟩, ⟨rfl, by decide, by decide⟩, rfl, by decide⟩ rfl hl.1 rfl (Nat.le_of_ble_eq_true rfl) dX1_seenByTrade_16 (fun H locs hP hD hS => ?_)
  have hP : va_P D vwCl ([(q, .inr (1, [.ref (b 0), .int (ms)]))] ++ stW cA b (swapD x i j) ++ stW cA a x) H := hP
  have hD : va_D A ([(q, .inr (1, [.ref (b 0), .int (ms)]))] ++ stW cA b (swapD x i j) ++ stW cA a x) := hD
  refine lv_aload_n hx hb dX1_seenByTrade_19 rfl (lv_at hl 0 rfl) ?_
  refine lv_iload_n hx hb dX1_seenByTrade_20 rfl (lv_at hl 3 rfl) ?_
  refine cVv (n := 1) (As := [.int (nI (n))]) (rest := []) (C := RX1) (ci := 1) (q0 := 0) (X := ([(q, .inr (1, [.ref (b 0), .int (ms)]))] ++ stW cA b (swapD x i j) ++ stW cA a x)) (pl := []) (wc := ([(q, .inr (1, [.ref (b 0), .int (ms)]))] ++ stW cA b (swapD x i j))) (wr := (stW cA a x)) (w1 := ([(q, .inr (1, [.ref (b 0), .int (ms)]))] ++ stW cA b (turnN (swapD x i j) n))) (wn := ([(q, .inr (1, [.ref (b 0), .int (ms)]))] ++ stW cA b (turnN (swapD x i j) n) ++ stW cA a x)) (isC := [0, 1, 2, 3, 4, 5, 6]) (isR := [7, 8, 9, 10, 11, 12]) (isN := [6, 7, 8, 9, 10, 11, 12, 0, 1, 2, 3, 4, 5]) ⟨hx, hb, hml, hown, hts⟩ (c_X1_turnTrial l D cA tt ms q b (swapD x i j) n (hg.swap hi hj) (ht) (hn) _) gX1_seenByTrade_X1_turnTrial rfl (by decide +kernel) rfl rfl ⟨rfl, rfl⟩ ⟨Nat.le_of_ble_eq_true rfl, Nat.le_of_ble_eq_true rfl⟩ ⟨Nat.zero_le _, Nat.zero_le _⟩ hK hE hA hP hD hS ⟨⟨rfl, by decide⟩, ⟨rfl, by decide, by decide⟩, rfl, by decide⟩ rfl hl.1 rfl (Nat.le_of_ble_eq_true rfl) dX1_seenByTrade_21 (fun H locs hP hD hS => ?_)
  have hP : va_P D vwCl ([(q, .inr (1, [.ref (b 0), .int (ms)]))] ++ stW cA b (turnN (swapD x i j) n) ++ stW cA a x) H := hP
  have hD : va_D A ([(q, .inr (1, [.ref (b 0), .int (ms)]))] ++ stW cA b (turnN (swapD x i j) n) ++ stW cA a x) := hD
  refine lv_aload_n hx hb dX1_seenByTrade_24 rfl (lv_at hl 0 rfl) ?_
  refine va_get (v := .ref (b 0)) (Ts := wsX10) (C := RX1) (T := TX1) (N := 2) hx hb hwsX10 (fun _ h => h) hown hK hP 0 rfl rfl 0 (by decide) (hts (.fieldLink RX1 12 "AdventStreets$Foretold" "trial" "LAdventStreets$Street;") (List.mem_of_getElem? (i := 1) rfl)) (fun _ h9 => h9) rfl dX1_seenByTrade_25 ?_
  refine va_getN (v := .ref (b 5)) (Ts := wsX40) (C := RX4) (T := TX4) (N := 10) hx hb hwsX40 (fun _ h => h) hown hK hP 1 rfl rfl 4 (by decide) (hE.1.f (q := ("AdventStreets$Foretold", 29, "AdventStreets$Street", "seen", "[I")) 15 rfl) (fun _ h9 => h9) rfl dX1_seenByTrade_28 ?_
  refine lv_iload_n hx hb dX1_seenByTrade_31 rfl (lv_at hl 2 rfl) ?_
  refine r_ald (f := SS (turnN (swapD x i j) n)) hx hb hK hP 6 rfl (i := w) (by omega) (Nat.lt_of_lt_of_le (by omega : 10 < 1073741824) (by decide)) dX1_seenByTrade_32 ?_
  refine cSi (n := 1) (As := [.int (nI (SS (turnN (swapD x i j) n) w))]) (rest := []) (X := ([(q, .inr (1, [.ref (b 0), .int (ms)]))] ++ stW cA b (turnN (swapD x i j) n) ++ stW cA a x)) (pl := []) (wc := ([] : va_W)) (wr := ([(q, .inr (1, [.ref (b 0), .int (ms)]))] ++ stW cA b (turnN (swapD x i j) n) ++ stW cA a x)) (w1 := ([] : va_W)) (wn := ([(q, .inr (1, [.ref (b 0), .int (ms)]))] ++ stW cA b (turnN (swapD x i j) n) ++ stW cA a x)) (isC := []) (isR := [0, 1, 2, 3, 4, 5, 6, 7, 8, 9, 10, 11, 12]) (isN := [0, 1, 2, 3, 4, 5, 6, 7, 8, 9, 10, 11, 12]) ⟨hx, hb, hml, hown, hts⟩ (c_J6_bitCount_0f7a4 l D cA tt (SS (turnN (swapD x i j) n) w) (((turnN_ok (hg.swap hi hj) n).1.2.2.2.2 w (by rw [(turnN_ok (hg.swap hi hj) n).2.2]; exact hw)).2.2.2.2) _) gX1_seenByTrade_J6_bitCount_0f7a4 rfl (by decide +kernel) ⟨rfl, rfl⟩ ⟨Nat.le_of_ble_eq_true rfl, Nat.le_of_ble_eq_true rfl⟩ ⟨Nat.zero_le _, Nat.zero_le _⟩ hK hE hA hP hD hS ⟨⟨rfl, by decide⟩, ⟨rfl, by decide, by decide⟩, rfl, by decide⟩ rfl hl.1 rfl (Nat.le_of_ble_eq_true rfl) dX1_seenByTrade_33 (fun H locs hP hD hS => ?_)
  have hP : va_P D vwCl ([(q, .inr (1, [.ref (b 0), .int (ms)]))] ++ stW cA b (turnN (swapD x i j) n) ++ stW cA a x) H := hP
  have hD : va_D A ([(q, .inr (1, [.ref (b 0), .int (ms)]))] ++ stW cA b (turnN (swapD x i j) n) ++ stW cA a x) := hD
  exact hend _ _ _ _ _ (turnN (swapD x i j) n) hP hD hS (rfl) dX1_seenByTrade_36
set_option maxRecDepth 100000 in
set_option maxHeartbeats 4000000 in
theorem c_X1_isOpenBehind (l : Launch) (D : va_G) (cA : Nat → ClassId) (tt : Nat → Nat) (ms : Int32) (q : Nat) (a b : Nat → Nat) (x y : Sg) (w n li part : Nat) (hg : Wk x) (ht : St x + 61 < 1073741824) (hw : w < 10) (hn : n ≤ 60) (hli : li < 1024) (hp : part < 1048576) (sz : Nat) : CiE l D cA tt yX1_isOpenBehind wsX1_isOpenBehind ({ frames := 3, cells := 0, slots := 0, locals := 81 } : Room) [.ref (q), .ref (a 0), .int (nI (w)), .int (nI (n)), .int (nI (li)), .int (nI (part))] sz ([(q, .inr (1, [.ref (b 0), .int (ms)]))] ++ stW cA b y ++ stW cA a x) (fun zz : Sg => ([(q, .inr (1, [.ref (b 0), .int (ms)]))] ++ stW cA b zz ++ stW cA a x)) (bI (behB x w n li part)) := by
  refine CiE.mk (cc := cX1_isOpenBehind) (maxL := 7) (ty := .boolean) (by decide) rfl (bI_n _) (Nat.le_of_ble_eq_true rfl) ?_
  intro p e s m below meth c A Q ls hB hl hend
  obtain ⟨⟨hx, hb, hml, hown, hts⟩, hP, hK, hD, hS, hA, hE⟩ := hB
  have hown : s.vm.findClass RX1 = some m.cls := hown
  have hwsX10 : ∀ w9 ∈ wsX10, w9.before ([.ref (q), .ref (a 0), .int (nI (w)), .int (nI (n)), .int (nI (li)), .int (nI (part))] : List Value).toArray s = true := fun w9 h => hts w9 (List.mem_cons_of_mem _ (List.mem_append_left _ (List.mem_append_right _ h)))
  have hwsX40 : ∀ w9 ∈ wsX40, w9.before ([.ref (q), .ref (a 0), .int (nI (w)), .int (nI (n)), .int (nI (li)), .int (nI (part))] : List Value).toArray s = true := fun w9 h => hts w9 (List.mem_cons_of_mem _ (List.mem_append_right _ h))
  have hl : lv_has ls 7 [(0, .ref (q)), (1, .ref (a 0)), (2, .int (nI (w))), (3, .int (nI (n))), (4, .int (nI (li))), (5, .int (nI (part)))] := hl
  refine lv_aload_n hx hb dX1_isOpenBehind_0 rfl (lv_at hl 0 rfl) ?_
  refine va_get (v := .ref (b 0)) (Ts := wsX10) (C := RX1) (T := TX1) (N := 2) hx hb hwsX10 (fun _ h => h) hown hK hP 0 rfl rfl 0 (by decide) (hts (.fieldLink RX1 12 "AdventStreets$Foretold" "trial" "LAdventStreets$Street;") (List.mem_of_getElem? (i := 1) rfl)) (fun _ h9 => h9) rfl dX1_isOpenBehind_1 ?_
  refine lv_aload_n hx hb dX1_isOpenBehind_4 rfl (lv_at hl 1 rfl) ?_
  refine cVv (n := 1) (As := [.ref (a 0)]) (rest := []) (C := RX4) (ci := 4) (q0 := 0) (X := ([(q, .inr (1, [.ref (b 0), .int (ms)]))] ++ stW cA b y ++ stW cA a x)) (pl := []) (wc := (stW cA b y ++ stW cA a x)) (wr := [(q, .inr (1, [.ref (b 0), .int (ms)]))]) (w1 := (stW cA b x ++ stW cA a x)) (wn := ([(q, .inr (1, [.ref (b 0), .int (ms)]))] ++ stW cA b x ++ stW cA a x)) (isC := [1, 2, 3, 4, 5, 6, 7, 8, 9, 10, 11, 12]) (isR := [0]) (isN := [0, 1, 2, 3, 4, 5, 6, 7, 8, 9, 10, 11, 12]) ⟨hx, hb, hml, hown, hts⟩ (c_X4_take l D cA tt b a y x  _) gX1_isOpenBehind_X4_take rfl (by decide +kernel) rfl rfl ⟨rfl, rfl⟩ ⟨Nat.le_of_ble_eq_true rfl, Nat.le_of_ble_eq_true rfl⟩ ⟨Nat.zero_le _, Nat.zero_le _⟩ hK hE hA hP hD hS ⟨⟨rfl, by decide⟩, ⟨rfl, by decide, by decide⟩, rfl, by decide⟩ rfl hl.1 rfl (Nat.le_of_ble_eq_true rfl) dX1_isOpenBehind_5 (fun H locs hP hD hS => ?_)
  have hP : va_P D vwCl ([(q, .inr (1, [.ref (b 0), .int (ms)]))] ++ stW cA b x ++ stW cA a x) H := hP
  have hD : va_D A ([(q, .inr (1, [.ref (b 0), .int (ms)]))] ++ stW cA b x ++ stW cA a x) := hD
  refine lv_aload_n hx hb dX1_isOpenBehind_8 rfl (lv_at hl 0 rfl) ?_
  refine va_get (v := .ref (b 0)) (Ts := wsX10) (C := RX1) (T := TX1) (N := 2) hx hb hwsX10 (fun _ h => h) hown hK hP 0 rfl rfl 0 (by decide) (hts (.fieldLink RX1 12 "AdventStreets$Foretold" "trial" "LAdventStreets$Street;") (List.mem_of_getElem? (i := 1) rfl)) (fun _ h9 => h9) rfl dX1_isOpenBehind_9 ?_
  refine lv_dup hx hb dX1_isOpenBehind_12 rfl ?_
  refine va_getN (v := .int (nI (So x))) (Ts := wsX40) (C := RX4) (T := TX4) (N := 10) hx hb hwsX40 (fun _ h => h) hown hK hP 1 rfl rfl 9 (by decide) (hE.1.f (q := ("AdventStreets$Foretold", 116, "AdventStreets$Street", "opened", "I")) 25 rfl) (fun _ h9 => h9) rfl dX1_isOpenBehind_13 ?_
  refine lv_iload hx hb dX1_isOpenBehind_16 (lv_at hl 4 rfl) ?_
  refine lv_ior hx hb dX1_isOpenBehind_18 ?_
  refine vn_i (v := nI ((So x) ||| li)) (n_or _ _) ?_
  refine va_putN (v := .int (nI ((So x) ||| li))) (ty := .int) (Ts := wsX40) (C := RX4) (T := TX4) (N := 10) hx hb hwsX40 (fun _ h => h) tyX4 tyX4_ok nmX4 hown hK hP hD hS 1 rfl rfl 9 (by decide) (hE.1.f (q := ("AdventStreets$Foretold", 116, "AdventStreets$Street", "opened", "I")) 25 rfl) (fun _ h9 => h9) rfl (tyX4_ok 9 (by decide)) rfl rfl (Nat.le_of_ble_eq_true rfl) dX1_isOpenBehind_19 (fun H locs hP hD hS => ?_)
  have hP : va_P D vwCl ([(q, .inr (1, [.ref (b 0), .int (ms)]))] ++ stW cA b (Sn x, Se x, Sv x, St x, (So x) ||| li, SK x, SP x, SD x, SG x, SS x) ++ stW cA a x) H := hP
  have hD : va_D A ([(q, .inr (1, [.ref (b 0), .int (ms)]))] ++ stW cA b (Sn x, Se x, Sv x, St x, (So x) ||| li, SK x, SP x, SD x, SG x, SS x) ++ stW cA a x) := hD
  refine lv_iconst (v := nI (0)) hx hb dX1_isOpenBehind_22 (by decide) ?_
  refine lv_istore (lv' := [(6, .int (nI (0))), (0, .ref (q)), (1, .ref (a 0)), (2, .int (nI (w))), (3, .int (nI (n))), (4, .int (nI (li))), (5, .int (nI (part)))]) hx hb dX1_isOpenBehind_23 hl (by decide) rfl (fun ls hl => ?_)
  have loop25 : ∀ (N25 : Nat) (i : Nat) (z : Sg), (i ≤ n) → (turnP (wO x (So x ||| li)) part i = z) → (Wk z ∧ St z = St x + i) → (n - i) < N25 → ∀ (H : Heap) (locs : List Loc) (ls : Array Slot), va_P D vwCl ([(q, .inr (1, [.ref (b 0), .int (ms)]))] ++ stW cA b z ++ stW cA a x) H → va_D A ([(q, .inr (1, [.ref (b 0), .int (ms)]))] ++ stW cA b z ++ stW cA a x) → va_S A s.heap H locs → lv_has ls 7 [(6, .int (nI (i))), (0, .ref (q)), (1, .ref (a 0)), (2, .int (nI (w))), (3, .int (nI (n))), (4, .int (nI (li))), (5, .int (nI (part)))] → W p l e ({ frames := 3, cells := 0, slots := 0, locals := 81 } : Room) s m ([.ref (q), .ref (a 0), .int (nI (w)), .int (nI (n)), .int (nI (li)), .int (nI (part))] : List Value).toArray below meth c H locs 0 0 Q (F0 m 25 ls []) := by
    intro N25
    induction N25 with
    | zero => intro i z iv25_0 iv25_1 iv25_2 hN; exact absurd hN (Nat.not_lt_zero _)
    | succ N25 ih25 =>
      intro i z iv25_0 iv25_1 iv25_2 hN25 H locs ls hP hD hS hl
      refine lv_iload hx hb dX1_isOpenBehind_25 (lv_at hl 0 rfl) ?_
      refine lv_iload_n hx hb dX1_isOpenBehind_27 rfl (lv_at hl 4 rfl) ?_
      refine lv_icmp_ge (tgt := 46) hx hb dX1_isOpenBehind_28 (by decide) (fun c2 => ?_) (fun c2 => ?_)
      · skip
        rw [nI_leI (by omega) (by omega)] at c2
        refine lv_aload_n hx hb dX1_isOpenBehind_46 rfl (lv_at hl 1 rfl) ?_
        refine va_get (v := .ref (b 0)) (Ts := wsX10) (C := RX1) (T := TX1) (N := 2) hx hb hwsX10 (fun _ h => h) hown hK hP 0 rfl rfl 0 (by decide) (hts (.fieldLink RX1 12 "AdventStreets$Foretold" "trial" "LAdventStreets$Street;") (List.mem_of_getElem? (i := 1) rfl)) (fun _ h9 => h9) rfl dX1_isOpenBehind_47 ?_
        refine lv_iload_n hx hb dX1_isOpenBehind_50 rfl (lv_at hl 3 rfl) ?_
        refine cVi (n := 1) (As := [.int (nI (w))]) (rest := []) (C := RX4) (ci := 4) (q0 := 0) (X := ([(q, .inr (1, [.ref (b 0), .int (ms)]))] ++ stW cA b z ++ stW cA a x)) (pl := []) (wc := (stW cA b z)) (wr := ([(q, .inr (1, [.ref (b 0), .int (ms)]))] ++ stW cA a x)) (w1 := (stW cA b z)) (wn := ([(q, .inr (1, [.ref (b 0), .int (ms)]))] ++ stW cA b z ++ stW cA a x)) (isC := [1, 2, 3, 4, 5, 6]) (isR := [0, 7, 8, 9, 10, 11, 12]) (isN := [0, 7, 8, 9, 10, 11, 12, 1, 2, 3, 4, 5, 6]) ⟨hx, hb, hml, hown, hts⟩ (c_X4_isOpen l D cA tt b z w (iv25_2.1) (by omega) _) gX1_isOpenBehind_X4_isOpen rfl (by decide +kernel) rfl rfl ⟨rfl, rfl⟩ ⟨Nat.le_of_ble_eq_true rfl, Nat.le_of_ble_eq_true rfl⟩ ⟨Nat.zero_le _, Nat.zero_le _⟩ hK hE hA hP hD hS ⟨⟨rfl, by decide⟩, ⟨rfl, by decide, by decide⟩, rfl, by decide⟩ rfl hl.1 rfl (Nat.le_of_ble_eq_true rfl) dX1_isOpenBehind_51 (fun H locs hP hD hS => ?_)
        have hP : va_P D vwCl ([(q, .inr (1, [.ref (b 0), .int (ms)]))] ++ stW cA b z ++ stW cA a x) H := hP
        have hD : va_D A ([(q, .inr (1, [.ref (b 0), .int (ms)]))] ++ stW cA b z ++ stW cA a x) := hD
        exact hend _ _ _ _ _ z hP hD hS (by unfold behB; rw [show n = i by omega, iv25_1]) dX1_isOpenBehind_54
      · skip
        rw [nI_leI (by omega) (by omega)] at c2
        refine lv_aload_n hx hb dX1_isOpenBehind_31 rfl (lv_at hl 1 rfl) ?_
        refine va_get (v := .ref (b 0)) (Ts := wsX10) (C := RX1) (T := TX1) (N := 2) hx hb hwsX10 (fun _ h => h) hown hK hP 0 rfl rfl 0 (by decide) (hts (.fieldLink RX1 12 "AdventStreets$Foretold" "trial" "LAdventStreets$Street;") (List.mem_of_getElem? (i := 1) rfl)) (fun _ h9 => h9) rfl dX1_isOpenBehind_32 ?_
        refine lv_iload hx hb dX1_isOpenBehind_35 (lv_at hl 6 rfl) ?_
        refine cVv (n := 1) (As := [.int (nI (part))]) (rest := []) (C := RX4) (ci := 4) (q0 := 0) (X := ([(q, .inr (1, [.ref (b 0), .int (ms)]))] ++ stW cA b z ++ stW cA a x)) (pl := []) (wc := (stW cA b z)) (wr := ([(q, .inr (1, [.ref (b 0), .int (ms)]))] ++ stW cA a x)) (w1 := (stW cA b (turnU z part))) (wn := ([(q, .inr (1, [.ref (b 0), .int (ms)]))] ++ stW cA b (turnU z part) ++ stW cA a x)) (isC := [1, 2, 3, 4, 5, 6]) (isR := [0, 7, 8, 9, 10, 11, 12]) (isN := [0, 7, 8, 9, 10, 11, 12, 1, 2, 3, 4, 5, 6]) ⟨hx, hb, hml, hown, hts⟩ (c_X4_turnUnseen l D cA tt b z part (iv25_2.1) (by rw [iv25_2.2]; omega) (by omega) _) gX1_isOpenBehind_X4_turnUnseen rfl (by decide +kernel) rfl rfl ⟨rfl, rfl⟩ ⟨Nat.le_of_ble_eq_true rfl, Nat.le_of_ble_eq_true rfl⟩ ⟨Nat.zero_le _, Nat.zero_le _⟩ hK hE hA hP hD hS ⟨⟨rfl, by decide⟩, ⟨rfl, by decide, by decide⟩, rfl, by decide⟩ rfl hl.1 rfl (Nat.le_of_ble_eq_true rfl) dX1_isOpenBehind_37 (fun H locs hP hD hS => ?_)
        have hP : va_P D vwCl ([(q, .inr (1, [.ref (b 0), .int (ms)]))] ++ stW cA b (turnU z part) ++ stW cA a x) H := hP
        have hD : va_D A ([(q, .inr (1, [.ref (b 0), .int (ms)]))] ++ stW cA b (turnU z part) ++ stW cA a x) := hD
        refine lv_iinc (v := nI (i + 1)) (lv' := [(6, .int (nI (i + 1))), (0, .ref (q)), (1, .ref (a 0)), (2, .int (nI (w))), (3, .int (nI (n))), (4, .int (nI (li))), (5, .int (nI (part)))]) hx hb dX1_isOpenBehind_40 hl (k := 0) rfl (nI_add _ _) (by decide) rfl (fun ls hl => ?_)
        refine lv_goto (tgt := 25) hx hb dX1_isOpenBehind_43 (by decide) ?_
        have hl9 := lv_sub (l' := [(6, .int (nI (i + 1))), (0, .ref (q)), (1, .ref (a 0)), (2, .int (nI (w))), (3, .int (nI (n))), (4, .int (nI (li))), (5, .int (nI (part)))]) hl [0, 1, 2, 3, 4, 5, 6] rfl
        exact ih25 (i + 1) (turnU z part) (by omega) (by rw [turnP, iv25_1]) (⟨iv25_2.1.turnU part, by rw [(turnU_n z part).2.2.2, iv25_2.2]; omega⟩) (by omega) _ _ _ hP hD hS hl9
  have ew3 : Sn x = Sn (Sn x, Se x, Sv x, St x, So x ||| li, SK x, SP x, SD x, SG x, SS x) := by
    simp []
  have hP : va_P D vwCl ([(q, .inr (1, [.ref (b 0), .int (ms)]))] ++ stW cA b (Sn (Sn x, Se x, Sv x, St x, So x ||| li, SK x, SP x, SD x, SG x, SS x), Se x, Sv x, St x, (So x) ||| li, SK x, SP x, SD x, SG x, SS x) ++ stW cA a x) _ := Eq.mp (congrArg (fun z9 => va_P D vwCl ([(q, .inr (1, [.ref (b 0), .int (ms)]))] ++ stW cA b (z9, Se x, Sv x, St x, (So x) ||| li, SK x, SP x, SD x, SG x, SS x) ++ stW cA a x) _) ew3) hP
  have hD : va_D A ([(q, .inr (1, [.ref (b 0), .int (ms)]))] ++ stW cA b (Sn (Sn x, Se x, Sv x, St x, So x ||| li, SK x, SP x, SD x, SG x, SS x), Se x, Sv x, St x, (So x) ||| li, SK x, SP x, SD x, SG x, SS x) ++ stW cA a x) := Eq.mp (congrArg (fun z9 => va_D A ([(q, .inr (1, [.ref (b 0), .int (ms)]))] ++ stW cA b (z9, Se x, Sv x, St x, (So x) ||| li, SK x, SP x, SD x, SG x, SS x) ++ stW cA a x)) ew3) hD
  have ew4 : Se x = Se (Sn x, Se x, Sv x, St x, So x ||| li, SK x, SP x, SD x, SG x, SS x) := by
    simp []
  have hP : va_P D vwCl ([(q, .inr (1, [.ref (b 0), .int (ms)]))] ++ stW cA b (Sn (Sn x, Se x, Sv x, St x, So x ||| li, SK x, SP x, SD x, SG x, SS x), Se (Sn x, Se x, Sv x, St x, So x ||| li, SK x, SP x, SD x, SG x, SS x), Sv x, St x, (So x) ||| li, SK x, SP x, SD x, SG x, SS x) ++ stW cA a x) _ := Eq.mp (congrArg (fun z9 => va_P D vwCl ([(q, .inr (1, [.ref (b 0), .int (ms)]))] ++ stW cA b (Sn (Sn x, Se x, Sv x, St x, So x ||| li, SK x, SP x, SD x, SG x, SS x), z9, Sv x, St x, (So x) ||| li, SK x, SP x, SD x, SG x, SS x) ++ stW cA a x) _) ew4) hP
  have hD : va_D A ([(q, .inr (1, [.ref (b 0), .int (ms)]))] ++ stW cA b (Sn (Sn x, Se x, Sv x, St x, So x ||| li, SK x, SP x, SD x, SG x, SS x), Se (Sn x, Se x, Sv x, St x, So x ||| li, SK x, SP x, SD x, SG x, SS x), Sv x, St x, (So x) ||| li, SK x, SP x, SD x, SG x, SS x) ++ stW cA a x) := Eq.mp (congrArg (fun z9 => va_D A ([(q, .inr (1, [.ref (b 0), .int (ms)]))] ++ stW cA b (Sn (Sn x, Se x, Sv x, St x, So x ||| li, SK x, SP x, SD x, SG x, SS x), z9, Sv x, St x, (So x) ||| li, SK x, SP x, SD x, SG x, SS x) ++ stW cA a x)) ew4) hD
  have ew5 : Sv x = Sv (Sn x, Se x, Sv x, St x, So x ||| li, SK x, SP x, SD x, SG x, SS x) := by
    simp []
  have hP : va_P D vwCl ([(q, .inr (1, [.ref (b 0), .int (ms)]))] ++ stW cA b (Sn (Sn x, Se x, Sv x, St x, So x ||| li, SK x, SP x, SD x, SG x, SS x), Se (Sn x, Se x, Sv x, St x, So x ||| li, SK x, SP x, SD x, SG x, SS x), Sv (Sn x, Se x, Sv x, St x, So x ||| li, SK x, SP x, SD x, SG x, SS x), St x, (So x) ||| li, SK x, SP x, SD x, SG x, SS x) ++ stW cA a x) _ := Eq.mp (congrArg (fun z9 => va_P D vwCl ([(q, .inr (1, [.ref (b 0), .int (ms)]))] ++ stW cA b (Sn (Sn x, Se x, Sv x, St x, So x ||| li, SK x, SP x, SD x, SG x, SS x), Se (Sn x, Se x, Sv x, St x, So x ||| li, SK x, SP x, SD x, SG x, SS x), z9, St x, (So x) ||| li, SK x, SP x, SD x, SG x, SS x) ++ stW cA a x) _) ew5) hP
  have hD : va_D A ([(q, .inr (1, [.ref (b 0), .int (ms)]))] ++ stW cA b (Sn (Sn x, Se x, Sv x, St x, So x ||| li, SK x, SP x, SD x, SG x, SS x), Se (Sn x, Se x, Sv x, St x, So x ||| li, SK x, SP x, SD x, SG x, SS x), Sv (Sn x, Se x, Sv x, St x, So x ||| li, SK x, SP x, SD x, SG x, SS x), St x, (So x) ||| li, SK x, SP x, SD x, SG x, SS x) ++ stW cA a x) := Eq.mp (congrArg (fun z9 => va_D A ([(q, .inr (1, [.ref (b 0), .int (ms)]))] ++ stW cA b (Sn (Sn x, Se x, Sv x, St x, So x ||| li, SK x, SP x, SD x, SG x, SS x), Se (Sn x, Se x, Sv x, St x, So x ||| li, SK x, SP x, SD x, SG x, SS x), z9, St x, (So x) ||| li, SK x, SP x, SD x, SG x, SS x) ++ stW cA a x)) ew5) hD
  have ew6 : St x = St (Sn x, Se x, Sv x, St x, So x ||| li, SK x, SP x, SD x, SG x, SS x) := by
    simp []
  have hP : va_P D vwCl ([(q, .inr (1, [.ref (b 0), .int (ms)]))] ++ stW cA b (Sn (Sn x, Se x, Sv x, St x, So x ||| li, SK x, SP x, SD x, SG x, SS x), Se (Sn x, Se x, Sv x, St x, So x ||| li, SK x, SP x, SD x, SG x, SS x), Sv (Sn x, Se x, Sv x, St x, So x ||| li, SK x, SP x, SD x, SG x, SS x), St (Sn x, Se x, Sv x, St x, So x ||| li, SK x, SP x, SD x, SG x, SS x), (So x) ||| li, SK x, SP x, SD x, SG x, SS x) ++ stW cA a x) _ := Eq.mp (congrArg (fun z9 => va_P D vwCl ([(q, .inr (1, [.ref (b 0), .int (ms)]))] ++ stW cA b (Sn (Sn x, Se x, Sv x, St x, So x ||| li, SK x, SP x, SD x, SG x, SS x), Se (Sn x, Se x, Sv x, St x, So x ||| li, SK x, SP x, SD x, SG x, SS x), Sv (Sn x, Se x, Sv x, St x, So x ||| li, SK x, SP x, SD x, SG x, SS x), z9, (So x) ||| li, SK x, SP x, SD x, SG x, SS x) ++ stW cA a x) _) ew6) hP
  have hD : va_D A ([(q, .inr (1, [.ref (b 0), .int (ms)]))] ++ stW cA b (Sn (Sn x, Se x, Sv x, St x, So x ||| li, SK x, SP x, SD x, SG x, SS x), Se (Sn x, Se x, Sv x, St x, So x ||| li, SK x, SP x, SD x, SG x, SS x), Sv (Sn x, Se x, Sv x, St x, So x ||| li, SK x, SP x, SD x, SG x, SS x), St (Sn x, Se x, Sv x, St x, So x ||| li, SK x, SP x, SD x, SG x, SS x), (So x) ||| li, SK x, SP x, SD x, SG x, SS x) ++ stW cA a x) := Eq.mp (congrArg (fun z9 => va_D A ([(q, .inr (1, [.ref (b 0), .int (ms)]))] ++ stW cA b (Sn (Sn x, Se x, Sv x, St x, So x ||| li, SK x, SP x, SD x, SG x, SS x), Se (Sn x, Se x, Sv x, St x, So x ||| li, SK x, SP x, SD x, SG x, SS x), Sv (Sn x, Se x, Sv x, St x, So x ||| li, SK x, SP x, SD x, SG x, SS x), z9, (So x) ||| li, SK x, SP x, SD x, SG x, SS x) ++ stW cA a x)) ew6) hD
  have ew7 : (So x) ||| li = So (Sn x, Se x, Sv x, St x, So x ||| li, SK x, SP x, SD x, SG x, SS x) := by
    simp []
  have hP : va_P D vwCl ([(q, .inr (1, [.ref (b 0), .int (ms)]))] ++ stW cA b (Sn (Sn x, Se x, Sv x, St x, So x ||| li, SK x, SP x, SD x, SG x, SS x), Se (Sn x, Se x, Sv x, St x, So x ||| li, SK x, SP x, SD x, SG x, SS x), Sv (Sn x, Se x, Sv x, St x, So x ||| li, SK x, SP x, SD x, SG x, SS x), St (Sn x, Se x, Sv x, St x, So x ||| li, SK x, SP x, SD x, SG x, SS x), So (Sn x, Se x, Sv x, St x, So x ||| li, SK x, SP x, SD x, SG x, SS x), SK x, SP x, SD x, SG x, SS x) ++ stW cA a x) _ := Eq.mp (congrArg (fun z9 => va_P D vwCl ([(q, .inr (1, [.ref (b 0), .int (ms)]))] ++ stW cA b (Sn (Sn x, Se x, Sv x, St x, So x ||| li, SK x, SP x, SD x, SG x, SS x), Se (Sn x, Se x, Sv x, St x, So x ||| li, SK x, SP x, SD x, SG x, SS x), Sv (Sn x, Se x, Sv x, St x, So x ||| li, SK x, SP x, SD x, SG x, SS x), St (Sn x, Se x, Sv x, St x, So x ||| li, SK x, SP x, SD x, SG x, SS x), z9, SK x, SP x, SD x, SG x, SS x) ++ stW cA a x) _) ew7) hP
  have hD : va_D A ([(q, .inr (1, [.ref (b 0), .int (ms)]))] ++ stW cA b (Sn (Sn x, Se x, Sv x, St x, So x ||| li, SK x, SP x, SD x, SG x, SS x), Se (Sn x, Se x, Sv x, St x, So x ||| li, SK x, SP x, SD x, SG x, SS x), Sv (Sn x, Se x, Sv x, St x, So x ||| li, SK x, SP x, SD x, SG x, SS x), St (Sn x, Se x, Sv x, St x, So x ||| li, SK x, SP x, SD x, SG x, SS x), So (Sn x, Se x, Sv x, St x, So x ||| li, SK x, SP x, SD x, SG x, SS x), SK x, SP x, SD x, SG x, SS x) ++ stW cA a x) := Eq.mp (congrArg (fun z9 => va_D A ([(q, .inr (1, [.ref (b 0), .int (ms)]))] ++ stW cA b (Sn (Sn x, Se x, Sv x, St x, So x ||| li, SK x, SP x, SD x, SG x, SS x), Se (Sn x, Se x, Sv x, St x, So x ||| li, SK x, SP x, SD x, SG x, SS x), Sv (Sn x, Se x, Sv x, St x, So x ||| li, SK x, SP x, SD x, SG x, SS x), St (Sn x, Se x, Sv x, St x, So x ||| li, SK x, SP x, SD x, SG x, SS x), z9, SK x, SP x, SD x, SG x, SS x) ++ stW cA a x)) ew7) hD
  have ew8 : SK x = SK (Sn x, Se x, Sv x, St x, So x ||| li, SK x, SP x, SD x, SG x, SS x) := by
    simp []
  have hP : va_P D vwCl ([(q, .inr (1, [.ref (b 0), .int (ms)]))] ++ stW cA b (Sn (Sn x, Se x, Sv x, St x, So x ||| li, SK x, SP x, SD x, SG x, SS x), Se (Sn x, Se x, Sv x, St x, So x ||| li, SK x, SP x, SD x, SG x, SS x), Sv (Sn x, Se x, Sv x, St x, So x ||| li, SK x, SP x, SD x, SG x, SS x), St (Sn x, Se x, Sv x, St x, So x ||| li, SK x, SP x, SD x, SG x, SS x), So (Sn x, Se x, Sv x, St x, So x ||| li, SK x, SP x, SD x, SG x, SS x), SK (Sn x, Se x, Sv x, St x, So x ||| li, SK x, SP x, SD x, SG x, SS x), SP x, SD x, SG x, SS x) ++ stW cA a x) _ := Eq.mp (congrArg (fun z9 => va_P D vwCl ([(q, .inr (1, [.ref (b 0), .int (ms)]))] ++ stW cA b (Sn (Sn x, Se x, Sv x, St x, So x ||| li, SK x, SP x, SD x, SG x, SS x), Se (Sn x, Se x, Sv x, St x, So x ||| li, SK x, SP x, SD x, SG x, SS x), Sv (Sn x, Se x, Sv x, St x, So x ||| li, SK x, SP x, SD x, SG x, SS x), St (Sn x, Se x, Sv x, St x, So x ||| li, SK x, SP x, SD x, SG x, SS x), So (Sn x, Se x, Sv x, St x, So x ||| li, SK x, SP x, SD x, SG x, SS x), z9, SP x, SD x, SG x, SS x) ++ stW cA a x) _) ew8) hP
  have hD : va_D A ([(q, .inr (1, [.ref (b 0), .int (ms)]))] ++ stW cA b (Sn (Sn x, Se x, Sv x, St x, So x ||| li, SK x, SP x, SD x, SG x, SS x), Se (Sn x, Se x, Sv x, St x, So x ||| li, SK x, SP x, SD x, SG x, SS x), Sv (Sn x, Se x, Sv x, St x, So x ||| li, SK x, SP x, SD x, SG x, SS x), St (Sn x, Se x, Sv x, St x, So x ||| li, SK x, SP x, SD x, SG x, SS x), So (Sn x, Se x, Sv x, St x, So x ||| li, SK x, SP x, SD x, SG x, SS x), SK (Sn x, Se x, Sv x, St x, So x ||| li, SK x, SP x, SD x, SG x, SS x), SP x, SD x, SG x, SS x) ++ stW cA a x) := Eq.mp (congrArg (fun z9 => va_D A ([(q, .inr (1, [.ref (b 0), .int (ms)]))] ++ stW cA b (Sn (Sn x, Se x, Sv x, St x, So x ||| li, SK x, SP x, SD x, SG x, SS x), Se (Sn x, Se x, Sv x, St x, So x ||| li, SK x, SP x, SD x, SG x, SS x), Sv (Sn x, Se x, Sv x, St x, So x ||| li, SK x, SP x, SD x, SG x, SS x), St (Sn x, Se x, Sv x, St x, So x ||| li, SK x, SP x, SD x, SG x, SS x), So (Sn x, Se x, Sv x, St x, So x ||| li, SK x, SP x, SD x, SG x, SS x), z9, SP x, SD x, SG x, SS x) ++ stW cA a x)) ew8) hD
  have ew9 : SP x = SP (Sn x, Se x, Sv x, St x, So x ||| li, SK x, SP x, SD x, SG x, SS x) := by
    simp []
  have hP : va_P D vwCl ([(q, .inr (1, [.ref (b 0), .int (ms)]))] ++ stW cA b (Sn (Sn x, Se x, Sv x, St x, So x ||| li, SK x, SP x, SD x, SG x, SS x), Se (Sn x, Se x, Sv x, St x, So x ||| li, SK x, SP x, SD x, SG x, SS x), Sv (Sn x, Se x, Sv x, St x, So x ||| li, SK x, SP x, SD x, SG x, SS x), St (Sn x, Se x, Sv x, St x, So x ||| li, SK x, SP x, SD x, SG x, SS x), So (Sn x, Se x, Sv x, St x, So x ||| li, SK x, SP x, SD x, SG x, SS x), SK (Sn x, Se x, Sv x, St x, So x ||| li, SK x, SP x, SD x, SG x, SS x), SP (Sn x, Se x, Sv x, St x, So x ||| li, SK x, SP x, SD x, SG x, SS x), SD x, SG x, SS x) ++ stW cA a x) _ := Eq.mp (congrArg (fun z9 => va_P D vwCl ([(q, .inr (1, [.ref (b 0), .int (ms)]))] ++ stW cA b (Sn (Sn x, Se x, Sv x, St x, So x ||| li, SK x, SP x, SD x, SG x, SS x), Se (Sn x, Se x, Sv x, St x, So x ||| li, SK x, SP x, SD x, SG x, SS x), Sv (Sn x, Se x, Sv x, St x, So x ||| li, SK x, SP x, SD x, SG x, SS x), St (Sn x, Se x, Sv x, St x, So x ||| li, SK x, SP x, SD x, SG x, SS x), So (Sn x, Se x, Sv x, St x, So x ||| li, SK x, SP x, SD x, SG x, SS x), SK (Sn x, Se x, Sv x, St x, So x ||| li, SK x, SP x, SD x, SG x, SS x), z9, SD x, SG x, SS x) ++ stW cA a x) _) ew9) hP
  have hD : va_D A ([(q, .inr (1, [.ref (b 0), .int (ms)]))] ++ stW cA b (Sn (Sn x, Se x, Sv x, St x, So x ||| li, SK x, SP x, SD x, SG x, SS x), Se (Sn x, Se x, Sv x, St x, So x ||| li, SK x, SP x, SD x, SG x, SS x), Sv (Sn x, Se x, Sv x, St x, So x ||| li, SK x, SP x, SD x, SG x, SS x), St (Sn x, Se x, Sv x, St x, So x ||| li, SK x, SP x, SD x, SG x, SS x), So (Sn x, Se x, Sv x, St x, So x ||| li, SK x, SP x, SD x, SG x, SS x), SK (Sn x, Se x, Sv x, St x, So x ||| li, SK x, SP x, SD x, SG x, SS x), SP (Sn x, Se x, Sv x, St x, So x ||| li, SK x, SP x, SD x, SG x, SS x), SD x, SG x, SS x) ++ stW cA a x) := Eq.mp (congrArg (fun z9 => va_D A ([(q, .inr (1, [.ref (b 0), .int (ms)]))] ++ stW cA b (Sn (Sn x, Se x, Sv x, St x, So x ||| li, SK x, SP x, SD x, SG x, SS x), Se (Sn x, Se x, Sv x, St x, So x ||| li, SK x, SP x, SD x, SG x, SS x), Sv (Sn x, Se x, Sv x, St x, So x ||| li, SK x, SP x, SD x, SG x, SS x), St (Sn x, Se x, Sv x, St x, So x ||| li, SK x, SP x, SD x, SG x, SS x), So (Sn x, Se x, Sv x, St x, So x ||| li, SK x, SP x, SD x, SG x, SS x), SK (Sn x, Se x, Sv x, St x, So x ||| li, SK x, SP x, SD x, SG x, SS x), z9, SD x, SG x, SS x) ++ stW cA a x)) ew9) hD
  have ew10 : SD x = SD (Sn x, Se x, Sv x, St x, So x ||| li, SK x, SP x, SD x, SG x, SS x) := by
    simp []
  have hP : va_P D vwCl ([(q, .inr (1, [.ref (b 0), .int (ms)]))] ++ stW cA b (Sn (Sn x, Se x, Sv x, St x, So x ||| li, SK x, SP x, SD x, SG x, SS x), Se (Sn x, Se x, Sv x, St x, So x ||| li, SK x, SP x, SD x, SG x, SS x), Sv (Sn x, Se x, Sv x, St x, So x ||| li, SK x, SP x, SD x, SG x, SS x), St (Sn x, Se x, Sv x, St x, So x ||| li, SK x, SP x, SD x, SG x, SS x), So (Sn x, Se x, Sv x, St x, So x ||| li, SK x, SP x, SD x, SG x, SS x), SK (Sn x, Se x, Sv x, St x, So x ||| li, SK x, SP x, SD x, SG x, SS x), SP (Sn x, Se x, Sv x, St x, So x ||| li, SK x, SP x, SD x, SG x, SS x), SD (Sn x, Se x, Sv x, St x, So x ||| li, SK x, SP x, SD x, SG x, SS x), SG x, SS x) ++ stW cA a x) _ := Eq.mp (congrArg (fun z9 => va_P D vwCl ([(q, .inr (1, [.ref (b 0), .int (ms)]))] ++ stW cA b (Sn (Sn x, Se x, Sv x, St x, So x ||| li, SK x, SP x, SD x, SG x, SS x), Se (Sn x, Se x, Sv x, St x, So x ||| li, SK x, SP x, SD x, SG x, SS x), Sv (Sn x, Se x, Sv x, St x, So x ||| li, SK x, SP x, SD x, SG x, SS x), St (Sn x, Se x, Sv x, St x, So x ||| li, SK x, SP x, SD x, SG x, SS x), So (Sn x, Se x, Sv x, St x, So x ||| li, SK x, SP x, SD x, SG x, SS x), SK (Sn x, Se x, Sv x, St x, So x ||| li, SK x, SP x, SD x, SG x, SS x), SP (Sn x, Se x, Sv x, St x, So x ||| li, SK x, SP x, SD x, SG x, SS x), z9, SG x, SS x) ++ stW cA a x) _) ew10) hP
  have hD : va_D A ([(q, .inr (1, [.ref (b 0), .int (ms)]))] ++ stW cA b (Sn (Sn x, Se x, Sv x, St x, So x ||| li, SK x, SP x, SD x, SG x, SS x), Se (Sn x, Se x, Sv x, St x, So x ||| li, SK x, SP x, SD x, SG x, SS x), Sv (Sn x, Se x, Sv x, St x, So x ||| li, SK x, SP x, SD x, SG x, SS x), St (Sn x, Se x, Sv x, St x, So x ||| li, SK x, SP x, SD x, SG x, SS x), So (Sn x, Se x, Sv x, St x, So x ||| li, SK x, SP x, SD x, SG x, SS x), SK (Sn x, Se x, Sv x, St x, So x ||| li, SK x, SP x, SD x, SG x, SS x), SP (Sn x, Se x, Sv x, St x, So x ||| li, SK x, SP x, SD x, SG x, SS x), SD (Sn x, Se x, Sv x, St x, So x ||| li, SK x, SP x, SD x, SG x, SS x), SG x, SS x) ++ stW cA a x) := Eq.mp (congrArg (fun z9 => va_D A ([(q, .inr (1, [.ref (b 0), .int (ms)]))] ++ stW cA b (Sn (Sn x, Se x, Sv x, St x, So x ||| li, SK x, SP x, SD x, SG x, SS x), Se (Sn x, Se x, Sv x, St x, So x ||| li, SK x, SP x, SD x, SG x, SS x), Sv (Sn x, Se x, Sv x, St x, So x ||| li, SK x, SP x, SD x, SG x, SS x), St (Sn x, Se x, Sv x, St x, So x ||| li, SK x, SP x, SD x, SG x, SS x), So (Sn x, Se x, Sv x, St x, So x ||| li, SK x, SP x, SD x, SG x, SS x), SK (Sn x, Se x, Sv x, St x, So x ||| li, SK x, SP x, SD x, SG x, SS x), SP (Sn x, Se x, Sv x, St x, So x ||| li, SK x, SP x, SD x, SG x, SS x), z9, SG x, SS x) ++ stW cA a x)) ew10) hD
  have ew11 : SG x = SG (Sn x, Se x, Sv x, St x, So x ||| li, SK x, SP x, SD x, SG x, SS x) := by
    simp []
  have hP : va_P D vwCl ([(q, .inr (1, [.ref (b 0), .int (ms)]))] ++ stW cA b (Sn (Sn x, Se x, Sv x, St x, So x ||| li, SK x, SP x, SD x, SG x, SS x), Se (Sn x, Se x, Sv x, St x, So x ||| li, SK x, SP x, SD x, SG x, SS x), Sv (Sn x, Se x, Sv x, St x, So x ||| li, SK x, SP x, SD x, SG x, SS x), St (Sn x, Se x, Sv x, St x, So x ||| li, SK x, SP x, SD x, SG x, SS x), So (Sn x, Se x, Sv x, St x, So x ||| li, SK x, SP x, SD x, SG x, SS x), SK (Sn x, Se x, Sv x, St x, So x ||| li, SK x, SP x, SD x, SG x, SS x), SP (Sn x, Se x, Sv x, St x, So x ||| li, SK x, SP x, SD x, SG x, SS x), SD (Sn x, Se x, Sv x, St x, So x ||| li, SK x, SP x, SD x, SG x, SS x), SG (Sn x, Se x, Sv x, St x, So x ||| li, SK x, SP x, SD x, SG x, SS x), SS x) ++ stW cA a x) _ := Eq.mp (congrArg (fun z9 => va_P D vwCl ([(q, .inr (1, [.ref (b 0), .int (ms)]))] ++ stW cA b (Sn (Sn x, Se x, Sv x, St x, So x ||| li, SK x, SP x, SD x, SG x, SS x), Se (Sn x, Se x, Sv x, St x, So x ||| li, SK x, SP x, SD x, SG x, SS x), Sv (Sn x, Se x, Sv x, St x, So x ||| li, SK x, SP x, SD x, SG x, SS x), St (Sn x, Se x, Sv x, St x, So x ||| li, SK x, SP x, SD x, SG x, SS x), So (Sn x, Se x, Sv x, St x, So x ||| li, SK x, SP x, SD x, SG x, SS x), SK (Sn x, Se x, Sv x, St x, So x ||| li, SK x, SP x, SD x, SG x, SS x), SP (Sn x, Se x, Sv x, St x, So x ||| li, SK x, SP x, SD x, SG x, SS x), SD (Sn x, Se x, Sv x, St x, So x ||| li, SK x, SP x, SD x, SG x, SS x), z9, SS x) ++ stW cA a x) _) ew11) hP
  have hD : va_D A ([(q, .inr (1, [.ref (b 0), .int (ms)]))] ++ stW cA b (Sn (Sn x, Se x, Sv x, St x, So x ||| li, SK x, SP x, SD x, SG x, SS x), Se (Sn x, Se x, Sv x, St x, So x ||| li, SK x, SP x, SD x, SG x, SS x), Sv (Sn x, Se x, Sv x, St x, So x ||| li, SK x, SP x, SD x, SG x, SS x), St (Sn x, Se x, Sv x, St x, So x ||| li, SK x, SP x, SD x, SG x, SS x), So (Sn x, Se x, Sv x, St x, So x ||| li, SK x, SP x, SD x, SG x, SS x), SK (Sn x, Se x, Sv x, St x, So x ||| li, SK x, SP x, SD x, SG x, SS x), SP (Sn x, Se x, Sv x, St x, So x ||| li, SK x, SP x, SD x, SG x, SS x), SD (Sn x, Se x, Sv x, St x, So x ||| li, SK x, SP x, SD x, SG x, SS x), SG (Sn x, Se x, Sv x, St x, So x ||| li, SK x, SP x, SD x, SG x, SS x), SS x) ++ stW cA a x) := Eq.mp (congrArg (fun z9 => va_D A ([(q, .inr (1, [.ref (b 0), .int (ms)]))] ++ stW cA b (Sn (Sn x, Se x, Sv x, St x, So x ||| li, SK x, SP x, SD x, SG x, SS x), Se (Sn x, Se x, Sv x, St x, So x ||| li, SK x, SP x, SD x, SG x, SS x), Sv (Sn x, Se x, Sv x, St x, So x ||| li, SK x, SP x, SD x, SG x, SS x), St (Sn x, Se x, Sv x, St x, So x ||| li, SK x, SP x, SD x, SG x, SS x), So (Sn x, Se x, Sv x, St x, So x ||| li, SK x, SP x, SD x, SG x, SS x), SK (Sn x, Se x, Sv x, St x, So x ||| li, SK x, SP x, SD x, SG x, SS x), SP (Sn x, Se x, Sv x, St x, So x ||| li, SK x, SP x, SD x, SG x, SS x), SD (Sn x, Se x, Sv x, St x, So x ||| li, SK x, SP x, SD x, SG x, SS x), z9, SS x) ++ stW cA a x)) ew11) hD
  have ew12 : SS x = SS (Sn x, Se x, Sv x, St x, So x ||| li, SK x, SP x, SD x, SG x, SS x) := by
    simp []
  have hP : va_P D vwCl ([(q, .inr (1, [.ref (b 0), .int (ms)]))] ++ stW cA b (Sn x, Se x, Sv x, St x, So x ||| li, SK x, SP x, SD x, SG x, SS x) ++ stW cA a x) _ := Eq.mp (congrArg (fun z9 => va_P D vwCl ([(q, .inr (1, [.ref (b 0), .int (ms)]))] ++ stW cA b (Sn (Sn x, Se x, Sv x, St x, So x ||| li, SK x, SP x, SD x, SG x, SS x), Se (Sn x, Se x, Sv x, St x, So x ||| li, SK x, SP x, SD x, SG x, SS x), Sv (Sn x, Se x, Sv x, St x, So x ||| li, SK x, SP x, SD x, SG x, SS x), St (Sn x, Se x, Sv x, St x, So x ||| li, SK x, SP x, SD x, SG x, SS x), So (Sn x, Se x, Sv x, St x, So x ||| li, SK x, SP x, SD x, SG x, SS x), SK (Sn x, Se x, Sv x, St x, So x ||| li, SK x, SP x, SD x, SG x, SS x), SP (Sn x, Se x, Sv x, St x, So x ||| li, SK x, SP x, SD x, SG x, SS x), SD (Sn x, Se x, Sv x, St x, So x ||| li, SK x, SP x, SD x, SG x, SS x), SG (Sn x, Se x, Sv x, St x, So x ||| li, SK x, SP x, SD x, SG x, SS x), z9) ++ stW cA a x) _) ew12) hP
  have hD : va_D A ([(q, .inr (1, [.ref (b 0), .int (ms)]))] ++ stW cA b (Sn x, Se x, Sv x, St x, So x ||| li, SK x, SP x, SD x, SG x, SS x) ++ stW cA a x) := Eq.mp (congrArg (fun z9 => va_D A ([(q, .inr (1, [.ref (b 0), .int (ms)]))] ++ stW cA b (Sn (Sn x, Se x, Sv x, St x, So x ||| li, SK x, SP x, SD x, SG x, SS x), Se (Sn x, Se x, Sv x, St x, So x ||| li, SK x, SP x, SD x, SG x, SS x), Sv (Sn x, Se x, Sv x, St x, So x ||| li, SK x, SP x, SD x, SG x, SS x), St (Sn x, Se x, Sv x, St x, So x ||| li, SK x, SP x, SD x, SG x, SS x), So (Sn x, Se x, Sv x, St x, So x ||| li, SK x, SP x, SD x, SG x, SS x), SK (Sn x, Se x, Sv x, St x, So x ||| li, SK x, SP x, SD x, SG x, SS x), SP (Sn x, Se x, Sv x, St x, So x ||| li, SK x, SP x, SD x, SG x, SS x), SD (Sn x, Se x, Sv x, St x, So x ||| li, SK x, SP x, SD x, SG x, SS x), SG (Sn x, Se x, Sv x, St x, So x ||| li, SK x, SP x, SD x, SG x, SS x), z9) ++ stW cA a x)) ew12) hD
  have hl9 := lv_sub (l' := [(6, .int (nI (0))), (0, .ref (q)), (1, .ref (a 0)), (2, .int (nI (w))), (3, .int (nI (n))), (4, .int (nI (li))), (5, .int (nI (part)))]) hl [0, 1, 2, 3, 4, 5, 6] rfl
  exact loop25 _ 0 (Sn x, Se x, Sv x, St x, So x ||| li, SK x, SP x, SD x, SG x, SS x) (Nat.zero_le _) (rfl) (⟨hg.o (or10 hg.2.2.2.1 hli), rfl⟩) (Nat.lt_succ_self _) _ _ _ hP hD hS hl9
set_option maxRecDepth 100000 in
set_option maxHeartbeats 4000000 in
theorem c_X1_suppose (l : Launch) (D : va_G) (cA : Nat → ClassId) (tt : Nat → Nat) (ms : Int32) (q : Nat) (b : Nat → Nat) (y : Sg) (w wh v : Nat) (hw : w < 10) (hwh : wh ≤ 3) (sz : Nat) : Cv l D cA tt yX1_suppose wsX1_suppose ({ frames := 0, cells := 0, slots := 0, locals := 0 } : Room) [.ref (q), .int (nI (w)), .int (nI (wh)), .int (nI (v))] sz ([(q, .inr (1, [.ref (b 0), .int (ms)]))] ++ stW cA b y) ([(q, .inr (1, [.ref (b 0), .int (ms)]))] ++ stW cA b (suppF y w wh v)) := by
  refine Cv.mk (cc := cX1_suppose) (maxL := 4) (by decide) rfl (Nat.le_of_ble_eq_true rfl) ?_
  intro p e s m below meth c A Q ls hB hl hend
  obtain ⟨⟨hx, hb, hml, hown, hts⟩, hP, hK, hD, hS, hA, hE⟩ := hB
  have hown : s.vm.findClass RX1 = some m.cls := hown
  have hwsX10 : ∀ w9 ∈ wsX10, w9.before ([.ref (q), .int (nI (w)), .int (nI (wh)), .int (nI (v))] : List Value).toArray s = true := fun w9 h => hts w9 (List.mem_cons_of_mem _ (List.mem_append_left _ (List.mem_append_right _ h)))
  have hwsX40 : ∀ w9 ∈ wsX40, w9.before ([.ref (q), .int (nI (w)), .int (nI (wh)), .int (nI (v))] : List Value).toArray s = true := fun w9 h => hts w9 (List.mem_cons_of_mem _ (List.mem_append_right _ h))
  have hl : lv_has ls 4 [(0, .ref (q)), (1, .int (nI (w))), (2, .int (nI (wh))), (3, .int (nI (v)))] := hl
  refine lv_iload_n hx hb dX1_suppose_0 rfl (lv_at hl 2 rfl) ?_
  refine lv_if_ne (tgt := 17) hx hb dX1_suppose_1 (by decide) (fun c1 => ?_) (fun c1 => ?_)
  · skip
    rw [n_z (by omega)] at c1
    refine lv_iload_n hx hb dX1_suppose_17 rfl (lv_at hl 2 rfl) ?_
    refine lv_iconst (v := nI (1)) hx hb dX1_suppose_18 (by decide) ?_
    refine lv_icmp_ne (tgt := 35) hx hb dX1_suppose_19 (by decide) (fun c2 => ?_) (fun c2 => ?_)
    · skip
      rw [nI_eq (by omega) (by omega)] at c2
      refine lv_iload_n hx hb dX1_suppose_35 rfl (lv_at hl 2 rfl) ?_
      refine lv_iconst (v := nI (2)) hx hb dX1_suppose_36 (by decide) ?_
      refine lv_icmp_ne (tgt := 53) hx hb dX1_suppose_37 (by decide) (fun c3 => ?_) (fun c3 => ?_)
      · skip
        rw [nI_eq (by omega) (by omega)] at c3
        refine lv_aload_n hx hb dX1_suppose_53 rfl (lv_at hl 0 rfl) ?_
        refine va_get (v := .ref (b 0)) (Ts := wsX10) (C := RX1) (T := TX1) (N := 2) hx hb hwsX10 (fun _ h => h) hown hK hP 0 rfl rfl 0 (by decide) (hts (.fieldLink RX1 12 "AdventStreets$Foretold" "trial" "LAdventStreets$Street;") (List.mem_of_getElem? (i := 1) rfl)) (fun _ h9 => h9) rfl dX1_suppose_54 ?_
        refine lv_iload_n hx hb dX1_suppose_57 rfl (lv_at hl 3 rfl) ?_
        refine va_putN (v := .int (nI (v))) (ty := .int) (Ts := wsX40) (C := RX4) (T := TX4) (N := 10) hx hb hwsX40 (fun _ h => h) tyX4 tyX4_ok nmX4 hown hK hP hD hS 1 rfl rfl 6 (by decide) (hE.1.f (q := ("AdventStreets$Foretold", 103, "AdventStreets$Street", "eve", "I")) 20 rfl) (fun _ h9 => h9) rfl (tyX4_ok 6 (by decide)) rfl rfl (Nat.le_of_ble_eq_true rfl) dX1_suppose_58 (fun H locs hP hD hS => ?_)
        have hP : va_P D vwCl ([(q, .inr (1, [.ref (b 0), .int (ms)]))] ++ stW cA b (Sn y, v, Sv y, St y, So y, SK y, SP y, SD y, SG y, SS y)) H := hP
        have hD : va_D A ([(q, .inr (1, [.ref (b 0), .int (ms)]))] ++ stW cA b (Sn y, v, Sv y, St y, So y, SK y, SP y, SD y, SG y, SS y)) := hD
        have ef4 : (([(q, .inr (1, [.ref (b 0), .int (ms)]))] ++ stW cA b (Sn y, v, Sv y, St y, So y, SK y, SP y, SD y, SG y, SS y)) : va_W) = ([(q, .inr (1, [.ref (b 0), .int (ms)]))] ++ stW cA b (suppF y w wh v)) := by
          simp [suppF, c1, c2, c3]
        have hP : va_P D vwCl ([(q, .inr (1, [.ref (b 0), .int (ms)]))] ++ stW cA b (suppF y w wh v)) _ := Eq.mp (congrArg (fun z9 => va_P D vwCl z9 _) ef4) hP
        have hD : va_D A ([(q, .inr (1, [.ref (b 0), .int (ms)]))] ++ stW cA b (suppF y w wh v)) := Eq.mp (congrArg (fun z9 => va_D A z9) ef4) hD
        exact hend _ _ _ _ hP hD hS dX1_suppose_61
      · skip
        rw [nI_eq (by omega) (by omega)] at c3
        refine lv_aload_n hx hb dX1_suppose_40 rfl (lv_at hl 0 rfl) ?_
        refine va_get (v := .ref (b 0)) (Ts := wsX10) (C := RX1) (T := TX1) (N := 2) hx hb hwsX10 (fun _ h => h) hown hK hP 0 rfl rfl 0 (by decide) (hts (.fieldLink RX1 12 "AdventStreets$Foretold" "trial" "LAdventStreets$Street;") (List.mem_of_getElem? (i := 1) rfl)) (fun _ h9 => h9) rfl dX1_suppose_41 ?_
        refine va_getN (v := .ref (b 4)) (Ts := wsX40) (C := RX4) (T := TX4) (N := 10) hx hb hwsX40 (fun _ h => h) hown hK hP 1 rfl rfl 3 (by decide) (hE.1.f (q := ("AdventStreets$Foretold", 100, "AdventStreets$Street", "glues", "[I")) 13 rfl) (fun _ h9 => h9) rfl dX1_suppose_44 ?_
        refine lv_iload_n hx hb dX1_suppose_47 rfl (lv_at hl 1 rfl) ?_
        refine lv_iload_n hx hb dX1_suppose_48 rfl (lv_at hl 3 rfl) ?_
        refine r_ast (f := SG y) hx hb hK hP hD hS 5 rfl (i := w) (by omega) (Nat.lt_of_lt_of_le (by omega : 10 < 1073741824) (by decide)) dX1_suppose_49 (fun H locs hP hD hS => ?_)
        have hP : va_P D vwCl ([(q, .inr (1, [.ref (b 0), .int (ms)]))] ++ stW cA b (Sn y, Se y, Sv y, St y, So y, SK y, SP y, SD y, upN (SG y) w v, SS y)) H := hP
        have hD : va_D A ([(q, .inr (1, [.ref (b 0), .int (ms)]))] ++ stW cA b (Sn y, Se y, Sv y, St y, So y, SK y, SP y, SD y, upN (SG y) w v, SS y)) := hD
        refine lv_goto (tgt := 61) hx hb dX1_suppose_50 (by decide) ?_
        have ef5 : (([(q, .inr (1, [.ref (b 0), .int (ms)]))] ++ stW cA b (Sn y, Se y, Sv y, St y, So y, SK y, SP y, SD y, upN (SG y) w v, SS y)) : va_W) = ([(q, .inr (1, [.ref (b 0), .int (ms)]))] ++ stW cA b (suppF y w wh v)) := by
          simp [suppF, c1, c2, c3]
        have hP : va_P D vwCl ([(q, .inr (1, [.ref (b 0), .int (ms)]))] ++ stW cA b (suppF y w wh v)) _ := Eq.mp (congrArg (fun z9 => va_P D vwCl z9 _) ef5) hP
        have hD : va_D A ([(q, .inr (1, [.ref (b 0), .int (ms)]))] ++ stW cA b (suppF y w wh v)) := Eq.mp (congrArg (fun z9 => va_D A z9) ef5) hD
        exact hend _ _ _ _ hP hD hS dX1_suppose_61
    · skip
      rw [nI_eq (by omega) (by omega)] at c2
      refine lv_aload_n hx hb dX1_suppose_22 rfl (lv_at hl 0 rfl) ?_
      refine va_get (v := .ref (b 0)) (Ts := wsX10) (C := RX1) (T := TX1) (N := 2) hx hb hwsX10 (fun _ h => h) hown hK hP 0 rfl rfl 0 (by decide) (hts (.fieldLink RX1 12 "AdventStreets$Foretold" "trial" "LAdventStreets$Street;") (List.mem_of_getElem? (i := 1) rfl)) (fun _ h9 => h9) rfl dX1_suppose_23 ?_
      refine va_getN (v := .ref (b 2)) (Ts := wsX40) (C := RX4) (T := TX4) (N := 10) hx hb hwsX40 (fun _ h => h) hown hK hP 1 rfl rfl 1 (by decide) (hE.1.f (q := ("AdventStreets$Foretold", 97, "AdventStreets$Street", "days", "[I")) 10 rfl) (fun _ h9 => h9) rfl dX1_suppose_26 ?_
      refine lv_iload_n hx hb dX1_suppose_29 rfl (lv_at hl 1 rfl) ?_
      refine lv_iload_n hx hb dX1_suppose_30 rfl (lv_at hl 3 rfl) ?_
      refine r_ast (f := SD y) hx hb hK hP hD hS 3 rfl (i := w) (by omega) (Nat.lt_of_lt_of_le (by omega : 10 < 1073741824) (by decide)) dX1_suppose_31 (fun H locs hP hD hS => ?_)
      have hP : va_P D vwCl ([(q, .inr (1, [.ref (b 0), .int (ms)]))] ++ stW cA b (Sn y, Se y, Sv y, St y, So y, SK y, SP y, upN (SD y) w v, SG y, SS y)) H := hP
      have hD : va_D A ([(q, .inr (1, [.ref (b 0), .int (ms)]))] ++ stW cA b (Sn y, Se y, Sv y, St y, So y, SK y, SP y, upN (SD y) w v, SG y, SS y)) := hD
      refine lv_goto (tgt := 61) hx hb dX1_suppose_32 (by decide) ?_
      have ef6 : (([(q, .inr (1, [.ref (b 0), .int (ms)]))] ++ stW cA b (Sn y, Se y, Sv y, St y, So y, SK y, SP y, upN (SD y) w v, SG y, SS y)) : va_W) = ([(q, .inr (1, [.ref (b 0), .int (ms)]))] ++ stW cA b (suppF y w wh v)) := by
        simp [suppF, c1, c2]
      have hP : va_P D vwCl ([(q, .inr (1, [.ref (b 0), .int (ms)]))] ++ stW cA b (suppF y w wh v)) _ := Eq.mp (congrArg (fun z9 => va_P D vwCl z9 _) ef6) hP
      have hD : va_D A ([(q, .inr (1, [.ref (b 0), .int (ms)]))] ++ stW cA b (suppF y w wh v)) := Eq.mp (congrArg (fun z9 => va_D A z9) ef6) hD
      exact hend _ _ _ _ hP hD hS dX1_suppose_61
  · skip
    rw [n_z (by omega)] at c1
    refine lv_aload_n hx hb dX1_suppose_4 rfl (lv_at hl 0 rfl) ?_
    refine va_get (v := .ref (b 0)) (Ts := wsX10) (C := RX1) (T := TX1) (N := 2) hx hb hwsX10 (fun _ h => h) hown hK hP 0 rfl rfl 0 (by decide) (hts (.fieldLink RX1 12 "AdventStreets$Foretold" "trial" "LAdventStreets$Street;") (List.mem_of_getElem? (i := 1) rfl)) (fun _ h9 => h9) rfl dX1_suppose_5 ?_
    refine va_getN (v := .ref (b 1)) (Ts := wsX40) (C := RX4) (T := TX4) (N := 10) hx hb hwsX40 (fun _ h => h) hown hK hP 1 rfl rfl 0 (by decide) (hE.1.f (q := ("AdventStreets$Foretold", 94, "AdventStreets$Street", "kinds", "[I")) 8 rfl) (fun _ h9 => h9) rfl dX1_suppose_8 ?_
    refine lv_iload_n hx hb dX1_suppose_11 rfl (lv_at hl 1 rfl) ?_
    refine lv_iload_n hx hb dX1_suppose_12 rfl (lv_at hl 3 rfl) ?_
    refine r_ast (f := SK y) hx hb hK hP hD hS 2 rfl (i := w) (by omega) (Nat.lt_of_lt_of_le (by omega : 10 < 1073741824) (by decide)) dX1_suppose_13 (fun H locs hP hD hS => ?_)
    have hP : va_P D vwCl ([(q, .inr (1, [.ref (b 0), .int (ms)]))] ++ stW cA b (Sn y, Se y, Sv y, St y, So y, upN (SK y) w v, SP y, SD y, SG y, SS y)) H := hP
    have hD : va_D A ([(q, .inr (1, [.ref (b 0), .int (ms)]))] ++ stW cA b (Sn y, Se y, Sv y, St y, So y, upN (SK y) w v, SP y, SD y, SG y, SS y)) := hD
    refine lv_goto (tgt := 61) hx hb dX1_suppose_14 (by decide) ?_
    have ef7 : (([(q, .inr (1, [.ref (b 0), .int (ms)]))] ++ stW cA b (Sn y, Se y, Sv y, St y, So y, upN (SK y) w v, SP y, SD y, SG y, SS y)) : va_W) = ([(q, .inr (1, [.ref (b 0), .int (ms)]))] ++ stW cA b (suppF y w wh v)) := by
      simp [suppF, c1]
    have hP : va_P D vwCl ([(q, .inr (1, [.ref (b 0), .int (ms)]))] ++ stW cA b (suppF y w wh v)) _ := Eq.mp (congrArg (fun z9 => va_P D vwCl z9 _) ef7) hP
    have hD : va_D A ([(q, .inr (1, [.ref (b 0), .int (ms)]))] ++ stW cA b (suppF y w wh v)) := Eq.mp (congrArg (fun z9 => va_D A z9) ef7) hD
    exact hend _ _ _ _ hP hD hS dX1_suppose_61
set_option maxRecDepth 100000 in
set_option maxHeartbeats 4000000 in
theorem c_X1_isAsTold (l : Launch) (D : va_G) (cA : Nat → ClassId) (tt : Nat → Nat) (ms : Int32) (q qa : Nat) (b : Nat → Nat) (x : Sg) (g : Nat → Int32) (w fr n : Nat) (hg : Wk x) (ht : St x + 61 < 1073741824) (hw : w < 10) (hn : n ≤ 60) (hfr : fr + n ≤ 40) (sz : Nat) : CiE l D cA tt yX1_isAsTold wsX1_isAsTold ({ frames := 3, cells := 0, slots := 0, locals := 71 } : Room) [.ref (q), .int (nI (w)), .ref (qa), .int (nI (fr)), .int (nI (n))] sz ([(q, .inr (1, [.ref (b 0), .int (ms)]))] ++ stW cA b x ++ [(qa, .inl (cA 0, 40, .inl g))]) (fun zz : Sg => ([(q, .inr (1, [.ref (b 0), .int (ms)]))] ++ stW cA b zz ++ [(qa, .inl (cA 0, 40, .inl g))])) (bI (toldB x w g fr n)) := by
  refine CiE.mk (cc := cX1_isAsTold) (maxL := 7) (ty := .boolean) (by decide) rfl (bI_n _) (Nat.le_of_ble_eq_true rfl) ?_
  intro p e s m below meth c A Q ls hB hl hend
  obtain ⟨⟨hx, hb, hml, hown, hts⟩, hP, hK, hD, hS, hA, hE⟩ := hB
  have hown : s.vm.findClass RX1 = some m.cls := hown
  have hwsX10 : ∀ w9 ∈ wsX10, w9.before ([.ref (q), .int (nI (w)), .ref (qa), .int (nI (fr)), .int (nI (n))] : List Value).toArray s = true := fun w9 h => hts w9 (List.mem_cons_of_mem _ (List.mem_append_left _ (List.mem_append_right _ h)))
  have hwsX40 : ∀ w9 ∈ wsX40, w9.before ([.ref (q), .int (nI (w)), .ref (qa), .int (nI (fr)), .int (nI (n))] : List Value).toArray s = true := fun w9 h => hts w9 (List.mem_cons_of_mem _ (List.mem_append_right _ h))
  have hl : lv_has ls 7 [(0, .ref (q)), (1, .int (nI (w))), (2, .ref (qa)), (3, .int (nI (fr))), (4, .int (nI (n)))] := hl
  refine lv_aload_n hx hb dX1_isAsTold_0 rfl (lv_at hl 0 rfl) ?_
  refine va_get (v := .ref (b 0)) (Ts := wsX10) (C := RX1) (T := TX1) (N := 2) hx hb hwsX10 (fun _ h => h) hown hK hP 0 rfl rfl 0 (by decide) (hts (.fieldLink RX1 12 "AdventStreets$Foretold" "trial" "LAdventStreets$Street;") (List.mem_of_getElem? (i := 1) rfl)) (fun _ h9 => h9) rfl dX1_isAsTold_1 ?_
  refine lv_iload_n hx hb dX1_isAsTold_4 rfl (lv_at hl 1 rfl) ?_
  refine cVi (n := 1) (As := [.int (nI (w))]) (rest := []) (C := RX4) (ci := 4) (q0 := 0) (X := ([(q, .inr (1, [.ref (b 0), .int (ms)]))] ++ stW cA b x ++ [(qa, .inl (cA 0, 40, .inl g))])) (pl := []) (wc := (stW cA b x)) (wr := [(q, .inr (1, [.ref (b 0), .int (ms)])), (qa, .inl (cA 0, 40, .inl g))]) (w1 := (stW cA b x)) (wn := ([(q, .inr (1, [.ref (b 0), .int (ms)]))] ++ stW cA b x ++ [(qa, .inl (cA 0, 40, .inl g))])) (isC := [1, 2, 3, 4, 5, 6]) (isR := [0, 7]) (isN := [0, 2, 3, 4, 5, 6, 7, 1]) ⟨hx, hb, hml, hown, hts⟩ (c_X4_touching l D cA tt b x w (hg) (hw) _) gX1_isAsTold_X4_touching rfl (by decide +kernel) rfl rfl ⟨rfl, rfl⟩ ⟨Nat.le_of_ble_eq_true rfl, Nat.le_of_ble_eq_true rfl⟩ ⟨Nat.zero_le _, Nat.zero_le _⟩ hK hE hA hP hD hS ⟨⟨rfl, by decide⟩, ⟨rfl, by decide, by decide⟩, rfl, by decide⟩ rfl hl.1 rfl (Nat.le_of_ble_eq_true rfl) dX1_isAsTold_5 (fun H locs hP hD hS => ?_)
  have hP : va_P D vwCl ([(q, .inr (1, [.ref (b 0), .int (ms)]))] ++ stW cA b x ++ [(qa, .inl (cA 0, 40, .inl g))]) H := hP
  have hD : va_D A ([(q, .inr (1, [.ref (b 0), .int (ms)]))] ++ stW cA b x ++ [(qa, .inl (cA 0, 40, .inl g))]) := hD
  refine lv_istore (lv' := [(5, .int (nI (touchF x w))), (0, .ref (q)), (1, .int (nI (w))), (2, .ref (qa)), (3, .int (nI (fr))), (4, .int (nI (n)))]) hx hb dX1_isAsTold_8 hl (by decide) rfl (fun ls hl => ?_)
  refine lv_iconst (v := nI (0)) hx hb dX1_isAsTold_10 (by decide) ?_
  refine lv_istore (lv' := [(6, .int (nI (0))), (5, .int (nI (touchF x w))), (0, .ref (q)), (1, .int (nI (w))), (2, .ref (qa)), (3, .int (nI (fr))), (4, .int (nI (n)))]) hx hb dX1_isAsTold_11 hl (by decide) rfl (fun ls hl => ?_)
  have loop13 : ∀ (N13 : Nat) (i : Nat) (z : Sg), (i ≤ n) → (turnP x (touchF x w) i = z) → (Wk z ∧ St z = St x + i) → (∀ j, j < i → toldP x (touchF x w) w g fr j = true) → (n - i) < N13 → ∀ (H : Heap) (locs : List Loc) (ls : Array Slot), va_P D vwCl ([(q, .inr (1, [.ref (b 0), .int (ms)]))] ++ stW cA b z ++ [(qa, .inl (cA 0, 40, .inl g))]) H → va_D A ([(q, .inr (1, [.ref (b 0), .int (ms)]))] ++ stW cA b z ++ [(qa, .inl (cA 0, 40, .inl g))]) → va_S A s.heap H locs → lv_has ls 7 [(6, .int (nI (i))), (5, .int (nI (touchF x w))), (0, .ref (q)), (1, .int (nI (w))), (2, .ref (qa)), (3, .int (nI (fr))), (4, .int (nI (n)))] → W p l e ({ frames := 3, cells := 0, slots := 0, locals := 71 } : Room) s m ([.ref (q), .int (nI (w)), .ref (qa), .int (nI (fr)), .int (nI (n))] : List Value).toArray below meth c H locs 0 0 Q (F0 m 13 ls []) := by
    intro N13
    induction N13 with
    | zero => intro i z iv13_0 iv13_1 iv13_2 iv13_3 hN; exact absurd hN (Nat.not_lt_zero _)
    | succ N13 ih13 =>
      intro i z iv13_0 iv13_1 iv13_2 iv13_3 hN13 H locs ls hP hD hS hl
      refine lv_iload hx hb dX1_isAsTold_13 (lv_at hl 0 rfl) ?_
      refine lv_iload hx hb dX1_isAsTold_15 (lv_at hl 6 rfl) ?_
      refine lv_icmp_ge (tgt := 62) hx hb dX1_isAsTold_17 (by decide) (fun c2 => ?_) (fun c2 => ?_)
      · skip
        rw [nI_leI (by omega) (by omega)] at c2
        refine lv_iconst (v := nI (1)) hx hb dX1_isAsTold_62 (by decide) ?_
        exact hend _ _ _ _ _ z hP hD hS (one_bI (by unfold toldB; rw [fstN_of (n := n) (i := i) (by omega) (fun j hj => by rw [iv13_3 j hj]; rfl) (Or.inl (by omega))]; exact decide_eq_true (by omega))) dX1_isAsTold_63
      · skip
        rw [nI_leI (by omega) (by omega)] at c2
        refine lv_aload_n hx hb dX1_isAsTold_20 rfl (lv_at hl 2 rfl) ?_
        refine va_get (v := .ref (b 0)) (Ts := wsX10) (C := RX1) (T := TX1) (N := 2) hx hb hwsX10 (fun _ h => h) hown hK hP 0 rfl rfl 0 (by decide) (hts (.fieldLink RX1 12 "AdventStreets$Foretold" "trial" "LAdventStreets$Street;") (List.mem_of_getElem? (i := 1) rfl)) (fun _ h9 => h9) rfl dX1_isAsTold_21 ?_
        refine lv_iload hx hb dX1_isAsTold_24 (lv_at hl 1 rfl) ?_
        refine cVv (n := 1) (As := [.int (nI (touchF x w))]) (rest := []) (C := RX4) (ci := 4) (q0 := 0) (X := ([(q, .inr (1, [.ref (b 0), .int (ms)]))] ++ stW cA b z ++ [(qa, .inl (cA 0, 40, .inl g))])) (pl := []) (wc := (stW cA b z)) (wr := [(q, .inr (1, [.ref (b 0), .int (ms)])), (qa, .inl (cA 0, 40, .inl g))]) (w1 := (stW cA b (turnU z (touchF x w)))) (wn := ([(q, .inr (1, [.ref (b 0), .int (ms)]))] ++ stW cA b (turnU z (touchF x w)) ++ [(qa, .inl (cA 0, 40, .inl g))])) (isC := [1, 2, 3, 4, 5, 6]) (isR := [0, 7]) (isN := [0, 2, 3, 4, 5, 6, 7, 1]) ⟨hx, hb, hml, hown, hts⟩ (c_X4_turnUnseen l D cA tt b z (touchF x w) (iv13_2.1) (by rw [iv13_2.2]; omega) (Nat.lt_trans (touch_lt hg.1 hw _) (by decide)) _) gX1_isAsTold_X4_turnUnseen rfl (by decide +kernel) rfl rfl ⟨rfl, rfl⟩ ⟨Nat.le_of_ble_eq_true rfl, Nat.le_of_ble_eq_true rfl⟩ ⟨Nat.zero_le _, Nat.zero_le _⟩ hK hE hA hP hD hS ⟨⟨rfl, by decide⟩, ⟨rfl, by decide, by decide⟩, rfl, by decide⟩ rfl hl.1 rfl (Nat.le_of_ble_eq_true rfl) dX1_isAsTold_26 (fun H locs hP hD hS => ?_)
        have hP : va_P D vwCl ([(q, .inr (1, [.ref (b 0), .int (ms)]))] ++ stW cA b (turnU z (touchF x w)) ++ [(qa, .inl (cA 0, 40, .inl g))]) H := hP
        have hD : va_D A ([(q, .inr (1, [.ref (b 0), .int (ms)]))] ++ stW cA b (turnU z (touchF x w)) ++ [(qa, .inl (cA 0, 40, .inl g))]) := hD
        refine lv_aload_n hx hb dX1_isAsTold_29 rfl (lv_at hl 4 rfl) ?_
        refine lv_iload_n hx hb dX1_isAsTold_30 rfl (lv_at hl 5 rfl) ?_
        refine lv_iload hx hb dX1_isAsTold_31 (lv_at hl 0 rfl) ?_
        refine lv_iadd hx hb dX1_isAsTold_33 ?_
        refine vn_i (v := nI (fr + i)) (nI_add _ _) ?_
        refine r_aldI (f := g) hx hb hK hP 7 rfl (i := fr + i) (by omega) (Nat.lt_of_lt_of_le (by omega : 40 < 1073741824) (by decide)) dX1_isAsTold_34 ?_
        refine joinW (pc' := 51) (ls' := ls) (rest' := [.int (g (fr + i))]) (bI ((So (turnU z (touchF x w))).testBit w)) hP hD hS (fun jn51 => ?_) (fun H locs hP hD hS => ?_)
        · skip
          refine lv_aload_n hx hb dX1_isAsTold_35 rfl (lv_at hl 2 rfl) ?_
          refine va_get (v := .ref (b 0)) (Ts := wsX10) (C := RX1) (T := TX1) (N := 2) hx hb hwsX10 (fun _ h => h) hown hK hP 0 rfl rfl 0 (by decide) (hts (.fieldLink RX1 12 "AdventStreets$Foretold" "trial" "LAdventStreets$Street;") (List.mem_of_getElem? (i := 1) rfl)) (fun _ h9 => h9) rfl dX1_isAsTold_36 ?_
          refine lv_iload_n hx hb dX1_isAsTold_39 rfl (lv_at hl 3 rfl) ?_
          refine cVi (n := 1) (As := [.int (nI (w))]) (rest := [.int (g (fr + i))]) (C := RX4) (ci := 4) (q0 := 0) (X := ([(q, .inr (1, [.ref (b 0), .int (ms)]))] ++ stW cA b (turnU z (touchF x w)) ++ [(qa, .inl (cA 0, 40, .inl g))])) (pl := []) (wc := (stW cA b (turnU z (touchF x w)))) (wr := [(q, .inr (1, [.ref (b 0), .int (ms)])), (qa, .inl (cA 0, 40, .inl g))]) (w1 := (stW cA b (turnU z (touchF x w)))) (wn := ([(q, .inr (1, [.ref (b 0), .int (ms)]))] ++ stW cA b (turnU z (touchF x w)) ++ [(qa, .inl (cA 0, 40, .inl g))])) (isC := [1, 2, 3, 4, 5, 6]) (isR := [0, 7]) (isN := [0, 2, 3, 4, 5, 6, 7, 1]) ⟨hx, hb, hml, hown, hts⟩ (c_X4_isOpen l D cA tt b (turnU z (touchF x w)) w (iv13_2.1.turnU _) (by omega) _) gX1_isAsTold_X4_isOpen rfl (by decide +kernel) rfl rfl ⟨rfl, rfl⟩ ⟨Nat.le_of_ble_eq_true rfl, Nat.le_of_ble_eq_true rfl⟩ ⟨Nat.zero_le _, Nat.zero_le _⟩ hK hE hA hP hD hS ⟨⟨rfl, by decide⟩, ⟨rfl, by decide, by decide⟩, rfl, by decide⟩ rfl hl.1 rfl (Nat.le_of_ble_eq_true rfl) dX1_isAsTold_40 (fun H locs hP hD hS => ?_)
          have hP : va_P D vwCl ([(q, .inr (1, [.ref (b 0), .int (ms)]))] ++ stW cA b (turnU z (touchF x w)) ++ [(qa, .inl (cA 0, 40, .inl g))]) H := hP
          have hD : va_D A ([(q, .inr (1, [.ref (b 0), .int (ms)]))] ++ stW cA b (turnU z (touchF x w)) ++ [(qa, .inl (cA 0, 40, .inl g))]) := hD
          refine lv_if_eq (tgt := 50) hx hb dX1_isAsTold_43 (by decide) (fun c3 => ?_) (fun c3 => ?_)
          · skip
            rw [bI_z] at c3
            refine lv_iconst (v := nI (0)) hx hb dX1_isAsTold_50 (by decide) ?_
            exact jn51 _ _ _ (zero_bI (by first | (simp [c2, c3]; done) | (simp; omega))) hP hD hS
          · skip
            rw [bI_nz] at c3
            refine lv_iconst (v := nI (1)) hx hb dX1_isAsTold_46 (by decide) ?_
            refine lv_goto (tgt := 51) hx hb dX1_isAsTold_47 (by decide) ?_
            exact jn51 _ _ _ (one_bI (by first | (simp [c2, c3]; done) | (simp; omega))) hP hD hS
        · skip
          have hP : va_P D vwCl ([(q, .inr (1, [.ref (b 0), .int (ms)]))] ++ stW cA b (turnU z (touchF x w)) ++ [(qa, .inl (cA 0, 40, .inl g))]) H := hP
          have hD : va_D A ([(q, .inr (1, [.ref (b 0), .int (ms)]))] ++ stW cA b (turnU z (touchF x w)) ++ [(qa, .inl (cA 0, 40, .inl g))]) := hD
          refine lv_icmp_eq (tgt := 56) hx hb dX1_isAsTold_51 (by decide) (fun c4 => ?_) (fun c4 => ?_)
          · skip
            refine lv_iinc (v := nI (i + 1)) (lv' := [(6, .int (nI (i + 1))), (5, .int (nI (touchF x w))), (0, .ref (q)), (1, .int (nI (w))), (2, .ref (qa)), (3, .int (nI (fr))), (4, .int (nI (n)))]) hx hb dX1_isAsTold_56 hl (k := 0) rfl (nI_add _ _) (by decide) rfl (fun ls hl => ?_)
            refine lv_goto (tgt := 13) hx hb dX1_isAsTold_59 (by decide) ?_
            have hl9 := lv_sub (l' := [(6, .int (nI (i + 1))), (5, .int (nI (touchF x w))), (0, .ref (q)), (1, .int (nI (w))), (2, .ref (qa)), (3, .int (nI (fr))), (4, .int (nI (n)))]) hl [0, 1, 2, 3, 4, 5, 6] rfl
            exact ih13 (i + 1) (turnU z (touchF x w)) (by omega) (by rw [turnP, iv13_1]) (⟨iv13_2.1.turnU (touchF x w), by rw [(turnU_n z (touchF x w)).2.2.2, iv13_2.2]; omega⟩) (lt_s (p := fun j => toldP x (touchF x w) w g fr j = true) iv13_3 (by unfold toldP; rw [turnP, iv13_1]; simp [c4])) (by omega) _ _ _ hP hD hS hl9
          · skip
            refine lv_iconst (v := nI (0)) hx hb dX1_isAsTold_54 (by decide) ?_
            exact hend _ _ _ _ _ (turnU z (touchF x w)) hP hD hS (zero_bI (by unfold toldB; rw [fstN_of (n := n) (i := i) (by omega) (fun j hj => by rw [iv13_3 j hj]; rfl) (Or.inr (by unfold toldP; rw [turnP, iv13_1]; simp [c4]))]; exact decide_eq_false (by omega))) dX1_isAsTold_55
  have hl9 := lv_sub (l' := [(6, .int (nI (0))), (5, .int (nI (touchF x w))), (0, .ref (q)), (1, .int (nI (w))), (2, .ref (qa)), (3, .int (nI (fr))), (4, .int (nI (n)))]) hl [0, 1, 2, 3, 4, 5, 6] rfl
  exact loop13 _ 0 x (Nat.zero_le _) (rfl) (⟨hg, rfl⟩) (lt_0) (Nat.lt_succ_self _) _ _ _ hP hD hS hl9
