/-! ===== answer ===== -/
set_option maxRecDepth 100000 in
set_option maxHeartbeats 4000000 in
theorem c_X7_answer_10 (l : Launch) (D : va_G) (cA : Nat → ClassId) (tt : Nat → Nat) (a : Nat → Nat) (ql qb : Nat) (x : Sg) (t : Nat × (Nat → Nat)) (w d : Nat) (hg : Wk x) (ht : t.1 ≤ 16) (hw : w < Sn x) (hd : d ≤ 8) (sz : Nat) : Ci l D cA tt yX7_answer wsX7_answer ({ frames := 1, cells := 0, slots := 0, locals := 21 } : Room) [.ref (a 0), .ref (ql), .int (nI (10)), .int (nI (w)), .int (nI (d))] sz (stW cA a x ++ [(ql, .inr (6, [.ref (qb), .int (nI (t.1))])), (qb, .inl (cA 0, 16, arN t.2))]) (stW cA a x ++ [(ql, .inr (6, [.ref (qb), .int (nI ((trc t 10).1))])), (qb, .inl (cA 0, 16, arN ((trc t 10).2)))]) (nI (SP x w)) := by
  have hw10 : w < 10 := Nat.lt_of_lt_of_le hw hg.1
  have gw := hg.2.2.2.2 w hw
  refine Ci.mk (cc := cX7_answer) (maxL := 7) (ty := .int) (by decide) rfl rfl (Nat.le_of_ble_eq_true rfl) ?_
  intro p e s m below meth c A Q ls hB hl hend
  obtain ⟨⟨hx, hb, hml, hown, hts⟩, hP, hK, hD, hS, hA, hE⟩ := hB
  have hown : s.vm.findClass RX7 = some m.cls := hown
  have hwsX40 : ∀ w9 ∈ wsX40, w9.before ([.ref (a 0), .ref (ql), .int (nI (10)), .int (nI (w)), .int (nI (d))] : List Value).toArray s = true := fun w9 h => hts w9 (List.mem_cons_of_mem _ (List.mem_append_left _ (List.mem_append_right _ h)))
  have hwsX60 : ∀ w9 ∈ wsX60, w9.before ([.ref (a 0), .ref (ql), .int (nI (10)), .int (nI (w)), .int (nI (d))] : List Value).toArray s = true := fun w9 h => hts w9 (List.mem_cons_of_mem _ (List.mem_append_right _ h))
  have hl : lv_has ls 7 [(0, .ref (a 0)), (1, .ref (ql)), (2, .int (nI (10))), (3, .int (nI (w))), (4, .int (nI (d)))] := hl
  refine lv_iload hx hb dX7_answer_0 (lv_at hl 4 rfl) ?_
  refine lv_bipush (v := nI (8)) hx hb dX7_answer_2 (by decide) ?_
  refine lv_icmp_le (tgt := 9) hx hb dX7_answer_4 (by decide) (fun c1 => ?_) (fun c1 => ?_)
  · skip
    rw [nI_leI (by omega) (by omega)] at c1
    refine lv_aload_n hx hb dX7_answer_9 rfl (lv_at hl 1 rfl) ?_
    refine lv_iload_n hx hb dX7_answer_10 rfl (lv_at hl 2 rfl) ?_
    refine cVv (n := 1) (As := [.int (nI (10))]) (rest := []) (C := RX6) (ci := 6) (q0 := 0) (X := (stW cA a x ++ [(ql, .inr (6, [.ref (qb), .int (nI (t.1))])), (qb, .inl (cA 0, 16, arN t.2))])) (pl := []) (wc := [(ql, .inr (6, [.ref (qb), .int (nI (t.1))])), (qb, .inl (cA 0, 16, arN t.2))]) (wr := (stW cA a x)) (w1 := [(ql, .inr (6, [.ref (qb), .int (nI ((trc t 10).1))])), (qb, .inl (cA 0, 16, arN ((trc t 10).2)))]) (wn := (stW cA a x ++ [(ql, .inr (6, [.ref (qb), .int (nI ((trc t 10).1))])), (qb, .inl (cA 0, 16, arN ((trc t 10).2)))])) (isC := [6, 7]) (isR := [0, 1, 2, 3, 4, 5]) (isN := [0, 1, 2, 3, 4, 5, 6, 7]) ⟨hx, hb, hml, hown, hts⟩ (c_X6_add l D cA tt ql qb t 10 (by first | assumption | (repeat' first | assumption | apply trc_le)) _) gX7_answer_X6_add rfl (by decide +kernel) rfl rfl ⟨rfl, rfl⟩ ⟨Nat.le_of_ble_eq_true rfl, Nat.le_of_ble_eq_true rfl⟩ ⟨Nat.zero_le _, Nat.zero_le _⟩ hK hE hA hP hD hS ⟨⟨rfl, by decide⟩, ⟨rfl, by decide, by decide⟩, rfl, by decide⟩ rfl hl.1 rfl (Nat.le_of_ble_eq_true rfl) dX7_answer_11 (fun H locs hP hD hS => ?_)
    have hP : va_P D vwCl (stW cA a x ++ [(ql, .inr (6, [.ref (qb), .int (nI ((trc t 10).1))])), (qb, .inl (cA 0, 16, arN ((trc t 10).2)))]) H := hP
    have hD : va_D A (stW cA a x ++ [(ql, .inr (6, [.ref (qb), .int (nI ((trc t 10).1))])), (qb, .inl (cA 0, 16, arN ((trc t 10).2)))]) := hD
    refine lv_iload hx hb dX7_answer_14 (lv_at hl 4 rfl) ?_
    refine lv_iconst (v := nI (1)) hx hb dX7_answer_16 (by decide) ?_
    refine lv_iadd hx hb dX7_answer_17 ?_
    refine vn_i (v := nI (d + 1)) (nI_add _ _) ?_
    refine lv_istore (lv' := [(5, .int (nI (d + 1))), (0, .ref (a 0)), (1, .ref (ql)), (2, .int (nI (10))), (3, .int (nI (w))), (4, .int (nI (d)))]) hx hb dX7_answer_18 hl (by decide) rfl (fun ls hl => ?_)
    refine lv_aload_n hx hb dX7_answer_20 rfl (lv_at hl 1 rfl) ?_
    refine va_getN (v := .ref (a 1)) (Ts := wsX40) (C := RX4) (T := TX4) (N := 10) hx hb hwsX40 (fun _ h => h) hown hK hP 0 rfl rfl 0 (by decide) (hE.1.f (q := ("AdventStreets", 280, "AdventStreets$Street", "kinds", "[I")) 9 rfl) (fun _ h9 => h9) rfl dX7_answer_21 ?_
    refine lv_iload_n hx hb dX7_answer_24 rfl (lv_at hl 4 rfl) ?_
    refine r_ald (f := SK x) hx hb hK hP 1 rfl (i := w) (by omega) (Nat.lt_of_lt_of_le (by omega : 10 < 1073741824) (by decide)) dX7_answer_25 ?_
    refine lv_istore (lv' := [(6, .int (nI (SK x w))), (5, .int (nI (d + 1))), (0, .ref (a 0)), (1, .ref (ql)), (2, .int (nI (10))), (3, .int (nI (w))), (4, .int (nI (d)))]) hx hb dX7_answer_26 hl (by decide) rfl (fun ls hl => ?_)
    refine lv_iload_n hx hb dX7_answer_28 rfl (lv_at hl 4 rfl) ?_
    refine lv_tableIn (off := 75) (tgt := 104) hx hb dX7_answer_29 (by decide +kernel) (by decide +kernel) (by decide +kernel) (by decide) ?_
    refine lv_aload_n hx hb dX7_answer_104 rfl (lv_at hl 2 rfl) ?_
    refine va_getN (v := .ref (a 3)) (Ts := wsX40) (C := RX4) (T := TX4) (N := 10) hx hb hwsX40 (fun _ h => h) hown hK hP 0 rfl rfl 2 (by decide) (hE.1.f (q := ("AdventStreets", 166, "AdventStreets$Street", "pictures", "[I")) 12 rfl) (fun _ h9 => h9) rfl dX7_answer_105 ?_
    refine lv_iload_n hx hb dX7_answer_108 rfl (lv_at hl 5 rfl) ?_
    refine r_ald (f := SP x) hx hb hK hP 3 rfl (i := w) (by omega) (Nat.lt_of_lt_of_le (by omega : 10 < 1073741824) (by decide)) dX7_answer_109 ?_
    exact hend _ _ _ _ _ hP hD hS (rfl) dX7_answer_110
  · skip
    rw [nI_leI (by omega) (by omega)] at c1
    omega
set_option maxRecDepth 100000 in
set_option maxHeartbeats 4000000 in
theorem c_X7_answer_20 (l : Launch) (D : va_G) (cA : Nat → ClassId) (tt : Nat → Nat) (a : Nat → Nat) (ql qb : Nat) (x : Sg) (t : Nat × (Nat → Nat)) (w d : Nat) (hg : Wk x) (ht : t.1 ≤ 16) (hw : w < Sn x) (hd : d ≤ 8) (sz : Nat) : Ci l D cA tt yX7_answer wsX7_answer ({ frames := 1, cells := 0, slots := 0, locals := 21 } : Room) [.ref (a 0), .ref (ql), .int (nI (20)), .int (nI (w)), .int (nI (d))] sz (stW cA a x ++ [(ql, .inr (6, [.ref (qb), .int (nI (t.1))])), (qb, .inl (cA 0, 16, arN t.2))]) (stW cA a x ++ [(ql, .inr (6, [.ref (qb), .int (nI ((trc t 20).1))])), (qb, .inl (cA 0, 16, arN ((trc t 20).2)))]) (nI (w)) := by
  have hw10 : w < 10 := Nat.lt_of_lt_of_le hw hg.1
  have gw := hg.2.2.2.2 w hw
  refine Ci.mk (cc := cX7_answer) (maxL := 7) (ty := .int) (by decide) rfl rfl (Nat.le_of_ble_eq_true rfl) ?_
  intro p e s m below meth c A Q ls hB hl hend
  obtain ⟨⟨hx, hb, hml, hown, hts⟩, hP, hK, hD, hS, hA, hE⟩ := hB
  have hown : s.vm.findClass RX7 = some m.cls := hown
  have hwsX40 : ∀ w9 ∈ wsX40, w9.before ([.ref (a 0), .ref (ql), .int (nI (20)), .int (nI (w)), .int (nI (d))] : List Value).toArray s = true := fun w9 h => hts w9 (List.mem_cons_of_mem _ (List.mem_append_left _ (List.mem_append_right _ h)))
  have hwsX60 : ∀ w9 ∈ wsX60, w9.before ([.ref (a 0), .ref (ql), .int (nI (20)), .int (nI (w)), .int (nI (d))] : List Value).toArray s = true := fun w9 h => hts w9 (List.mem_cons_of_mem _ (List.mem_append_right _ h))
  have hl : lv_has ls 7 [(0, .ref (a 0)), (1, .ref (ql)), (2, .int (nI (20))), (3, .int (nI (w))), (4, .int (nI (d)))] := hl
  refine lv_iload hx hb dX7_answer_0 (lv_at hl 4 rfl) ?_
  refine lv_bipush (v := nI (8)) hx hb dX7_answer_2 (by decide) ?_
  refine lv_icmp_le (tgt := 9) hx hb dX7_answer_4 (by decide) (fun c1 => ?_) (fun c1 => ?_)
  · skip
    rw [nI_leI (by omega) (by omega)] at c1
    refine lv_aload_n hx hb dX7_answer_9 rfl (lv_at hl 1 rfl) ?_
    refine lv_iload_n hx hb dX7_answer_10 rfl (lv_at hl 2 rfl) ?_
    refine cVv (n := 1) (As := [.int (nI (20))]) (rest := []) (C := RX6) (ci := 6) (q0 := 0) (X := (stW cA a x ++ [(ql, .inr (6, [.ref (qb), .int (nI (t.1))])), (qb, .inl (cA 0, 16, arN t.2))])) (pl := []) (wc := [(ql, .inr (6, [.ref (qb), .int (nI (t.1))])), (qb, .inl (cA 0, 16, arN t.2))]) (wr := (stW cA a x)) (w1 := [(ql, .inr (6, [.ref (qb), .int (nI ((trc t 20).1))])), (qb, .inl (cA 0, 16, arN ((trc t 20).2)))]) (wn := (stW cA a x ++ [(ql, .inr (6, [.ref (qb), .int (nI ((trc t 20).1))])), (qb, .inl (cA 0, 16, arN ((trc t 20).2)))])) (isC := [6, 7]) (isR := [0, 1, 2, 3, 4, 5]) (isN := [0, 1, 2, 3, 4, 5, 6, 7]) ⟨hx, hb, hml, hown, hts⟩ (c_X6_add l D cA tt ql qb t 20 (by first | assumption | (repeat' first | assumption | apply trc_le)) _) gX7_answer_X6_add rfl (by decide +kernel) rfl rfl ⟨rfl, rfl⟩ ⟨Nat.le_of_ble_eq_true rfl, Nat.le_of_ble_eq_true rfl⟩ ⟨Nat.zero_le _, Nat.zero_le _⟩ hK hE hA hP hD hS ⟨⟨rfl, by decide⟩, ⟨rfl, by decide, by decide⟩, rfl, by decide⟩ rfl hl.1 rfl (Nat.le_of_ble_eq_true rfl) dX7_answer_11 (fun H locs hP hD hS => ?_)
    have hP : va_P D vwCl (stW cA a x ++ [(ql, .inr (6, [.ref (qb), .int (nI ((trc t 20).1))])), (qb, .inl (cA 0, 16, arN ((trc t 20).2)))]) H := hP
    have hD : va_D A (stW cA a x ++ [(ql, .inr (6, [.ref (qb), .int (nI ((trc t 20).1))])), (qb, .inl (cA 0, 16, arN ((trc t 20).2)))]) := hD
    refine lv_iload hx hb dX7_answer_14 (lv_at hl 4 rfl) ?_
    refine lv_iconst (v := nI (1)) hx hb dX7_answer_16 (by decide) ?_
    refine lv_iadd hx hb dX7_answer_17 ?_
    refine vn_i (v := nI (d + 1)) (nI_add _ _) ?_
    refine lv_istore (lv' := [(5, .int (nI (d + 1))), (0, .ref (a 0)), (1, .ref (ql)), (2, .int (nI (20))), (3, .int (nI (w))), (4, .int (nI (d)))]) hx hb dX7_answer_18 hl (by decide) rfl (fun ls hl => ?_)
    refine lv_aload_n hx hb dX7_answer_20 rfl (lv_at hl 1 rfl) ?_
    refine va_getN (v := .ref (a 1)) (Ts := wsX40) (C := RX4) (T := TX4) (N := 10) hx hb hwsX40 (fun _ h => h) hown hK hP 0 rfl rfl 0 (by decide) (hE.1.f (q := ("AdventStreets", 280, "AdventStreets$Street", "kinds", "[I")) 9 rfl) (fun _ h9 => h9) rfl dX7_answer_21 ?_
    refine lv_iload_n hx hb dX7_answer_24 rfl (lv_at hl 4 rfl) ?_
    refine r_ald (f := SK x) hx hb hK hP 1 rfl (i := w) (by omega) (Nat.lt_of_lt_of_le (by omega : 10 < 1073741824) (by decide)) dX7_answer_25 ?_
    refine lv_istore (lv' := [(6, .int (nI (SK x w))), (5, .int (nI (d + 1))), (0, .ref (a 0)), (1, .ref (ql)), (2, .int (nI (20))), (3, .int (nI (w))), (4, .int (nI (d)))]) hx hb dX7_answer_26 hl (by decide) rfl (fun ls hl => ?_)
    refine lv_iload_n hx hb dX7_answer_28 rfl (lv_at hl 4 rfl) ?_
    refine lv_tableIn (off := 147) (tgt := 176) hx hb dX7_answer_29 (by decide +kernel) (by decide +kernel) (by decide +kernel) (by decide) ?_
    refine lv_iload_n hx hb dX7_answer_176 rfl (lv_at hl 5 rfl) ?_
    exact hend _ _ _ _ _ hP hD hS (rfl) dX7_answer_177
  · skip
    rw [nI_leI (by omega) (by omega)] at c1
    omega
set_option maxRecDepth 100000 in
set_option maxHeartbeats 4000000 in
theorem c_X7_answer_21 (l : Launch) (D : va_G) (cA : Nat → ClassId) (tt : Nat → Nat) (a : Nat → Nat) (ql qb : Nat) (x : Sg) (t : Nat × (Nat → Nat)) (w d : Nat) (hg : Wk x) (ht : t.1 ≤ 16) (hw : w < Sn x) (hd : d ≤ 7) (sz : Nat) : Ci l D cA tt yX7_answer wsX7_answer ({ frames := 2, cells := 0, slots := 0, locals := 47 } : Room) [.ref (a 0), .ref (ql), .int (nI (21)), .int (nI (w)), .int (nI (d))] sz (stW cA a x ++ [(ql, .inr (6, [.ref (qb), .int (nI (t.1))])), (qb, .inl (cA 0, 16, arN t.2))]) (stW cA a x ++ [(ql, .inr (6, [.ref (qb), .int (nI ((trc (trc t 21) 20).1))])), (qb, .inl (cA 0, 16, arN ((trc (trc t 21) 20).2)))]) (nI (w + SG x w)) := by
  have hw10 : w < 10 := Nat.lt_of_lt_of_le hw hg.1
  have gw := hg.2.2.2.2 w hw
  refine Ci.mk (cc := cX7_answer) (maxL := 7) (ty := .int) (by decide) rfl rfl (Nat.le_of_ble_eq_true rfl) ?_
  intro p e s m below meth c A Q ls hB hl hend
  obtain ⟨⟨hx, hb, hml, hown, hts⟩, hP, hK, hD, hS, hA, hE⟩ := hB
  have hown : s.vm.findClass RX7 = some m.cls := hown
  have hwsX40 : ∀ w9 ∈ wsX40, w9.before ([.ref (a 0), .ref (ql), .int (nI (21)), .int (nI (w)), .int (nI (d))] : List Value).toArray s = true := fun w9 h => hts w9 (List.mem_cons_of_mem _ (List.mem_append_left _ (List.mem_append_right _ h)))
  have hwsX60 : ∀ w9 ∈ wsX60, w9.before ([.ref (a 0), .ref (ql), .int (nI (21)), .int (nI (w)), .int (nI (d))] : List Value).toArray s = true := fun w9 h => hts w9 (List.mem_cons_of_mem _ (List.mem_append_right _ h))
  have hl : lv_has ls 7 [(0, .ref (a 0)), (1, .ref (ql)), (2, .int (nI (21))), (3, .int (nI (w))), (4, .int (nI (d)))] := hl
  refine lv_iload hx hb dX7_answer_0 (lv_at hl 4 rfl) ?_
  refine lv_bipush (v := nI (8)) hx hb dX7_answer_2 (by decide) ?_
  refine lv_icmp_le (tgt := 9) hx hb dX7_answer_4 (by decide) (fun c1 => ?_) (fun c1 => ?_)
  · skip
    rw [nI_leI (by omega) (by omega)] at c1
    refine lv_aload_n hx hb dX7_answer_9 rfl (lv_at hl 1 rfl) ?_
    refine lv_iload_n hx hb dX7_answer_10 rfl (lv_at hl 2 rfl) ?_
    refine cVv (n := 1) (As := [.int (nI (21))]) (rest := []) (C := RX6) (ci := 6) (q0 := 0) (X := (stW cA a x ++ [(ql, .inr (6, [.ref (qb), .int (nI (t.1))])), (qb, .inl (cA 0, 16, arN t.2))])) (pl := []) (wc := [(ql, .inr (6, [.ref (qb), .int (nI (t.1))])), (qb, .inl (cA 0, 16, arN t.2))]) (wr := (stW cA a x)) (w1 := [(ql, .inr (6, [.ref (qb), .int (nI ((trc t 21).1))])), (qb, .inl (cA 0, 16, arN ((trc t 21).2)))]) (wn := (stW cA a x ++ [(ql, .inr (6, [.ref (qb), .int (nI ((trc t 21).1))])), (qb, .inl (cA 0, 16, arN ((trc t 21).2)))])) (isC := [6, 7]) (isR := [0, 1, 2, 3, 4, 5]) (isN := [0, 1, 2, 3, 4, 5, 6, 7]) ⟨hx, hb, hml, hown, hts⟩ (c_X6_add l D cA tt ql qb t 21 (by first | assumption | (repeat' first | assumption | apply trc_le)) _) gX7_answer_X6_add rfl (by decide +kernel) rfl rfl ⟨rfl, rfl⟩ ⟨Nat.le_of_ble_eq_true rfl, Nat.le_of_ble_eq_true rfl⟩ ⟨Nat.zero_le _, Nat.zero_le _⟩ hK hE hA hP hD hS ⟨⟨rfl, by decide⟩, ⟨rfl, by decide, by decide⟩, rfl, by decide⟩ rfl hl.1 rfl (Nat.le_of_ble_eq_true rfl) dX7_answer_11 (fun H locs hP hD hS => ?_)
    have hP : va_P D vwCl (stW cA a x ++ [(ql, .inr (6, [.ref (qb), .int (nI ((trc t 21).1))])), (qb, .inl (cA 0, 16, arN ((trc t 21).2)))]) H := hP
    have hD : va_D A (stW cA a x ++ [(ql, .inr (6, [.ref (qb), .int (nI ((trc t 21).1))])), (qb, .inl (cA 0, 16, arN ((trc t 21).2)))]) := hD
    refine lv_iload hx hb dX7_answer_14 (lv_at hl 4 rfl) ?_
    refine lv_iconst (v := nI (1)) hx hb dX7_answer_16 (by decide) ?_
    refine lv_iadd hx hb dX7_answer_17 ?_
    refine vn_i (v := nI (d + 1)) (nI_add _ _) ?_
    refine lv_istore (lv' := [(5, .int (nI (d + 1))), (0, .ref (a 0)), (1, .ref (ql)), (2, .int (nI (21))), (3, .int (nI (w))), (4, .int (nI (d)))]) hx hb dX7_answer_18 hl (by decide) rfl (fun ls hl => ?_)
    refine lv_aload_n hx hb dX7_answer_20 rfl (lv_at hl 1 rfl) ?_
    refine va_getN (v := .ref (a 1)) (Ts := wsX40) (C := RX4) (T := TX4) (N := 10) hx hb hwsX40 (fun _ h => h) hown hK hP 0 rfl rfl 0 (by decide) (hE.1.f (q := ("AdventStreets", 280, "AdventStreets$Street", "kinds", "[I")) 9 rfl) (fun _ h9 => h9) rfl dX7_answer_21 ?_
    refine lv_iload_n hx hb dX7_answer_24 rfl (lv_at hl 4 rfl) ?_
    refine r_ald (f := SK x) hx hb hK hP 1 rfl (i := w) (by omega) (Nat.lt_of_lt_of_le (by omega : 10 < 1073741824) (by decide)) dX7_answer_25 ?_
    refine lv_istore (lv' := [(6, .int (nI (SK x w))), (5, .int (nI (d + 1))), (0, .ref (a 0)), (1, .ref (ql)), (2, .int (nI (21))), (3, .int (nI (w))), (4, .int (nI (d)))]) hx hb dX7_answer_26 hl (by decide) rfl (fun ls hl => ?_)
    refine lv_iload_n hx hb dX7_answer_28 rfl (lv_at hl 4 rfl) ?_
    refine lv_tableIn (off := 149) (tgt := 178) hx hb dX7_answer_29 (by decide +kernel) (by decide +kernel) (by decide +kernel) (by decide) ?_
    refine lv_aload_n hx hb dX7_answer_178 rfl (lv_at hl 2 rfl) ?_
    refine lv_aload_n hx hb dX7_answer_179 rfl (lv_at hl 3 rfl) ?_
    refine lv_bipush (v := nI (20)) hx hb dX7_answer_180 (by decide) ?_
    refine lv_iload_n hx hb dX7_answer_182 rfl (lv_at hl 5 rfl) ?_
    refine lv_iload hx hb dX7_answer_183 (lv_at hl 1 rfl) ?_
    refine cSi (n := 5) (As := [.ref (a 0), .ref (ql), .int (nI (20)), .int (nI (w)), .int (nI (d + 1))]) (rest := []) (X := (stW cA a x ++ [(ql, .inr (6, [.ref (qb), .int (nI ((trc t 21).1))])), (qb, .inl (cA 0, 16, arN ((trc t 21).2)))])) (pl := []) (wc := (stW cA a x ++ [(ql, .inr (6, [.ref (qb), .int (nI ((trc t 21).1))])), (qb, .inl (cA 0, 16, arN ((trc t 21).2)))])) (wr := ([] : va_W)) (w1 := (stW cA a x ++ [(ql, .inr (6, [.ref (qb), .int (nI ((trc (trc t 21) 20).1))])), (qb, .inl (cA 0, 16, arN ((trc (trc t 21) 20).2)))])) (wn := (stW cA a x ++ [(ql, .inr (6, [.ref (qb), .int (nI ((trc (trc t 21) 20).1))])), (qb, .inl (cA 0, 16, arN ((trc (trc t 21) 20).2)))])) (isC := [0, 1, 2, 3, 4, 5, 6, 7]) (isR := []) (isN := [0, 1, 2, 3, 4, 5, 6, 7]) ⟨hx, hb, hml, hown, hts⟩ (c_X7_answer_20 l D cA tt a ql qb x (trc t 21) w (d + 1) (hg) (by first | assumption | (repeat' first | assumption | apply trc_le)) (hw) (by omega) _) gX7_answer_X7_answer rfl (by decide +kernel) ⟨rfl, rfl⟩ ⟨Nat.le_of_ble_eq_true rfl, Nat.le_of_ble_eq_true rfl⟩ ⟨Nat.zero_le _, Nat.zero_le _⟩ hK hE hA hP hD hS ⟨⟨rfl, by decide⟩, ⟨rfl, by decide, by decide⟩, rfl, by decide⟩ rfl hl.1 rfl (Nat.le_of_ble_eq_true rfl) dX7_answer_185 (fun H locs hP hD hS => ?_)
    have hP : va_P D vwCl (stW cA a x ++ [(ql, .inr (6, [.ref (qb), .int (nI ((trc (trc t 21) 20).1))])), (qb, .inl (cA 0, 16, arN ((trc (trc t 21) 20).2)))]) H := hP
    have hD : va_D A (stW cA a x ++ [(ql, .inr (6, [.ref (qb), .int (nI ((trc (trc t 21) 20).1))])), (qb, .inl (cA 0, 16, arN ((trc (trc t 21) 20).2)))]) := hD
    refine lv_aload_n hx hb dX7_answer_188 rfl (lv_at hl 2 rfl) ?_
    refine va_getN (v := .ref (a 4)) (Ts := wsX40) (C := RX4) (T := TX4) (N := 10) hx hb hwsX40 (fun _ h => h) hown hK hP 0 rfl rfl 3 (by decide) (hE.1.f (q := ("AdventStreets", 169, "AdventStreets$Street", "glues", "[I")) 14 rfl) (fun _ h9 => h9) rfl dX7_answer_189 ?_
    refine lv_iload_n hx hb dX7_answer_192 rfl (lv_at hl 5 rfl) ?_
    refine r_ald (f := SG x) hx hb hK hP 4 rfl (i := w) (by omega) (Nat.lt_of_lt_of_le (by omega : 10 < 1073741824) (by decide)) dX7_answer_193 ?_
    refine lv_iadd hx hb dX7_answer_194 ?_
    refine vn_i (v := nI (w + (SG x w))) (nI_add _ _) ?_
    exact hend _ _ _ _ _ hP hD hS (by simp [c1]) dX7_answer_195
  · skip
    rw [nI_leI (by omega) (by omega)] at c1
    omega
set_option maxRecDepth 100000 in
set_option maxHeartbeats 4000000 in
theorem c_X7_answer_13 (l : Launch) (D : va_G) (cA : Nat → ClassId) (tt : Nat → Nat) (a : Nat → Nat) (ql qb : Nat) (x : Sg) (t : Nat × (Nat → Nat)) (w d : Nat) (hg : Wk x) (ht : t.1 ≤ 16) (hw : w < Sn x) (hd : d ≤ 7) (sz : Nat) : Ci l D cA tt yX7_answer wsX7_answer ({ frames := 2, cells := 0, slots := 0, locals := 47 } : Room) [.ref (a 0), .ref (ql), .int (nI (13)), .int (nI (w)), .int (nI (d))] sz (stW cA a x ++ [(ql, .inr (6, [.ref (qb), .int (nI (t.1))])), (qb, .inl (cA 0, 16, arN t.2))]) (stW cA a x ++ [(ql, .inr (6, [.ref (qb), .int (nI ((trc (trc t 13) 10).1))])), (qb, .inl (cA 0, 16, arN ((trc (trc t 13) 10).2)))]) (nI (SP x w) - nI 100) := by
  have hw10 : w < 10 := Nat.lt_of_lt_of_le hw hg.1
  have gw := hg.2.2.2.2 w hw
  refine Ci.mk (cc := cX7_answer) (maxL := 7) (ty := .int) (by decide) rfl rfl (Nat.le_of_ble_eq_true rfl) ?_
  intro p e s m below meth c A Q ls hB hl hend
  obtain ⟨⟨hx, hb, hml, hown, hts⟩, hP, hK, hD, hS, hA, hE⟩ := hB
  have hown : s.vm.findClass RX7 = some m.cls := hown
  have hwsX40 : ∀ w9 ∈ wsX40, w9.before ([.ref (a 0), .ref (ql), .int (nI (13)), .int (nI (w)), .int (nI (d))] : List Value).toArray s = true := fun w9 h => hts w9 (List.mem_cons_of_mem _ (List.mem_append_left _ (List.mem_append_right _ h)))
  have hwsX60 : ∀ w9 ∈ wsX60, w9.before ([.ref (a 0), .ref (ql), .int (nI (13)), .int (nI (w)), .int (nI (d))] : List Value).toArray s = true := fun w9 h => hts w9 (List.mem_cons_of_mem _ (List.mem_append_right _ h))
  have hl : lv_has ls 7 [(0, .ref (a 0)), (1, .ref (ql)), (2, .int (nI (13))), (3, .int (nI (w))), (4, .int (nI (d)))] := hl
  refine lv_iload hx hb dX7_answer_0 (lv_at hl 4 rfl) ?_
  refine lv_bipush (v := nI (8)) hx hb dX7_answer_2 (by decide) ?_
  refine lv_icmp_le (tgt := 9) hx hb dX7_answer_4 (by decide) (fun c1 => ?_) (fun c1 => ?_)
  · skip
    rw [nI_leI (by omega) (by omega)] at c1
    refine lv_aload_n hx hb dX7_answer_9 rfl (lv_at hl 1 rfl) ?_
    refine lv_iload_n hx hb dX7_answer_10 rfl (lv_at hl 2 rfl) ?_
    refine cVv (n := 1) (As := [.int (nI (13))]) (rest := []) (C := RX6) (ci := 6) (q0 := 0) (X := (stW cA a x ++ [(ql, .inr (6, [.ref (qb), .int (nI (t.1))])), (qb, .inl (cA 0, 16, arN t.2))])) (pl := []) (wc := [(ql, .inr (6, [.ref (qb), .int (nI (t.1))])), (qb, .inl (cA 0, 16, arN t.2))]) (wr := (stW cA a x)) (w1 := [(ql, .inr (6, [.ref (qb), .int (nI ((trc t 13).1))])), (qb, .inl (cA 0, 16, arN ((trc t 13).2)))]) (wn := (stW cA a x ++ [(ql, .inr (6, [.ref (qb), .int (nI ((trc t 13).1))])), (qb, .inl (cA 0, 16, arN ((trc t 13).2)))])) (isC := [6, 7]) (isR := [0, 1, 2, 3, 4, 5]) (isN := [0, 1, 2, 3, 4, 5, 6, 7]) ⟨hx, hb, hml, hown, hts⟩ (c_X6_add l D cA tt ql qb t 13 (by first | assumption | (repeat' first | assumption | apply trc_le)) _) gX7_answer_X6_add rfl (by decide +kernel) rfl rfl ⟨rfl, rfl⟩ ⟨Nat.le_of_ble_eq_true rfl, Nat.le_of_ble_eq_true rfl⟩ ⟨Nat.zero_le _, Nat.zero_le _⟩ hK hE hA hP hD hS ⟨⟨rfl, by decide⟩, ⟨rfl, by decide, by decide⟩, rfl, by decide⟩ rfl hl.1 rfl (Nat.le_of_ble_eq_true rfl) dX7_answer_11 (fun H locs hP hD hS => ?_)
    have hP : va_P D vwCl (stW cA a x ++ [(ql, .inr (6, [.ref (qb), .int (nI ((trc t 13).1))])), (qb, .inl (cA 0, 16, arN ((trc t 13).2)))]) H := hP
    have hD : va_D A (stW cA a x ++ [(ql, .inr (6, [.ref (qb), .int (nI ((trc t 13).1))])), (qb, .inl (cA 0, 16, arN ((trc t 13).2)))]) := hD
    refine lv_iload hx hb dX7_answer_14 (lv_at hl 4 rfl) ?_
    refine lv_iconst (v := nI (1)) hx hb dX7_answer_16 (by decide) ?_
    refine lv_iadd hx hb dX7_answer_17 ?_
    refine vn_i (v := nI (d + 1)) (nI_add _ _) ?_
    refine lv_istore (lv' := [(5, .int (nI (d + 1))), (0, .ref (a 0)), (1, .ref (ql)), (2, .int (nI (13))), (3, .int (nI (w))), (4, .int (nI (d)))]) hx hb dX7_answer_18 hl (by decide) rfl (fun ls hl => ?_)
    refine lv_aload_n hx hb dX7_answer_20 rfl (lv_at hl 1 rfl) ?_
    refine va_getN (v := .ref (a 1)) (Ts := wsX40) (C := RX4) (T := TX4) (N := 10) hx hb hwsX40 (fun _ h => h) hown hK hP 0 rfl rfl 0 (by decide) (hE.1.f (q := ("AdventStreets", 280, "AdventStreets$Street", "kinds", "[I")) 9 rfl) (fun _ h9 => h9) rfl dX7_answer_21 ?_
    refine lv_iload_n hx hb dX7_answer_24 rfl (lv_at hl 4 rfl) ?_
    refine r_ald (f := SK x) hx hb hK hP 1 rfl (i := w) (by omega) (Nat.lt_of_lt_of_le (by omega : 10 < 1073741824) (by decide)) dX7_answer_25 ?_
    refine lv_istore (lv' := [(6, .int (nI (SK x w))), (5, .int (nI (d + 1))), (0, .ref (a 0)), (1, .ref (ql)), (2, .int (nI (13))), (3, .int (nI (w))), (4, .int (nI (d)))]) hx hb dX7_answer_26 hl (by decide) rfl (fun ls hl => ?_)
    refine lv_iload_n hx hb dX7_answer_28 rfl (lv_at hl 4 rfl) ?_
    refine lv_tableIn (off := 120) (tgt := 149) hx hb dX7_answer_29 (by decide +kernel) (by decide +kernel) (by decide +kernel) (by decide) ?_
    refine lv_aload_n hx hb dX7_answer_149 rfl (lv_at hl 2 rfl) ?_
    refine lv_aload_n hx hb dX7_answer_150 rfl (lv_at hl 3 rfl) ?_
    refine lv_bipush (v := nI (10)) hx hb dX7_answer_151 (by decide) ?_
    refine lv_iload_n hx hb dX7_answer_153 rfl (lv_at hl 5 rfl) ?_
    refine lv_iload hx hb dX7_answer_154 (lv_at hl 1 rfl) ?_
    refine cSi (n := 5) (As := [.ref (a 0), .ref (ql), .int (nI (10)), .int (nI (w)), .int (nI (d + 1))]) (rest := []) (X := (stW cA a x ++ [(ql, .inr (6, [.ref (qb), .int (nI ((trc t 13).1))])), (qb, .inl (cA 0, 16, arN ((trc t 13).2)))])) (pl := []) (wc := (stW cA a x ++ [(ql, .inr (6, [.ref (qb), .int (nI ((trc t 13).1))])), (qb, .inl (cA 0, 16, arN ((trc t 13).2)))])) (wr := ([] : va_W)) (w1 := (stW cA a x ++ [(ql, .inr (6, [.ref (qb), .int (nI ((trc (trc t 13) 10).1))])), (qb, .inl (cA 0, 16, arN ((trc (trc t 13) 10).2)))])) (wn := (stW cA a x ++ [(ql, .inr (6, [.ref (qb), .int (nI ((trc (trc t 13) 10).1))])), (qb, .inl (cA 0, 16, arN ((trc (trc t 13) 10).2)))])) (isC := [0, 1, 2, 3, 4, 5, 6, 7]) (isR := []) (isN := [0, 1, 2, 3, 4, 5, 6, 7]) ⟨hx, hb, hml, hown, hts⟩ (c_X7_answer_10 l D cA tt a ql qb x (trc t 13) w (d + 1) (hg) (by first | assumption | (repeat' first | assumption | apply trc_le)) (hw) (by omega) _) gX7_answer_X7_answer rfl (by decide +kernel) ⟨rfl, rfl⟩ ⟨Nat.le_of_ble_eq_true rfl, Nat.le_of_ble_eq_true rfl⟩ ⟨Nat.zero_le _, Nat.zero_le _⟩ hK hE hA hP hD hS ⟨⟨rfl, by decide⟩, ⟨rfl, by decide, by decide⟩, rfl, by decide⟩ rfl hl.1 rfl (Nat.le_of_ble_eq_true rfl) dX7_answer_156 (fun H locs hP hD hS => ?_)
    have hP : va_P D vwCl (stW cA a x ++ [(ql, .inr (6, [.ref (qb), .int (nI ((trc (trc t 13) 10).1))])), (qb, .inl (cA 0, 16, arN ((trc (trc t 13) 10).2)))]) H := hP
    have hD : va_D A (stW cA a x ++ [(ql, .inr (6, [.ref (qb), .int (nI ((trc (trc t 13) 10).1))])), (qb, .inl (cA 0, 16, arN ((trc (trc t 13) 10).2)))]) := hD
    refine lv_bipush (v := nI (100)) hx hb dX7_answer_159 (by decide) ?_
    refine lv_isub hx hb dX7_answer_161 ?_
    exact hend _ _ _ _ _ hP hD hS (by simp [c1]) dX7_answer_162
  · skip
    rw [nI_leI (by omega) (by omega)] at c1
    omega
set_option maxRecDepth 100000 in
set_option maxHeartbeats 4000000 in
theorem c_X7_answer_22 (l : Launch) (D : va_G) (cA : Nat → ClassId) (tt : Nat → Nat) (a : Nat → Nat) (ql qb : Nat) (x : Sg) (t : Nat × (Nat → Nat)) (w d : Nat) (hg : Wk x) (ht : t.1 ≤ 16) (hw : w < Sn x) (hd : d ≤ 6) (sz : Nat) : Ci l D cA tt yX7_answer wsX7_answer ({ frames := 3, cells := 0, slots := 0, locals := 73 } : Room) [.ref (a 0), .ref (ql), .int (nI (22)), .int (nI (w)), .int (nI (d))] sz (stW cA a x ++ [(ql, .inr (6, [.ref (qb), .int (nI (t.1))])), (qb, .inl (cA 0, 16, arN t.2))]) (stW cA a x ++ [(ql, .inr (6, [.ref (qb), .int (nI ((trc (trc (trc t 22) 21) 20).1))])), (qb, .inl (cA 0, 16, arN ((trc (trc (trc t 22) 21) 20).2)))]) (nI (w + SG x w) - nI 1000) := by
  have hw10 : w < 10 := Nat.lt_of_lt_of_le hw hg.1
  have gw := hg.2.2.2.2 w hw
  refine Ci.mk (cc := cX7_answer) (maxL := 7) (ty := .int) (by decide) rfl rfl (Nat.le_of_ble_eq_true rfl) ?_
  intro p e s m below meth c A Q ls hB hl hend
  obtain ⟨⟨hx, hb, hml, hown, hts⟩, hP, hK, hD, hS, hA, hE⟩ := hB
  have hown : s.vm.findClass RX7 = some m.cls := hown
  have hwsX40 : ∀ w9 ∈ wsX40, w9.before ([.ref (a 0), .ref (ql), .int (nI (22)), .int (nI (w)), .int (nI (d))] : List Value).toArray s = true := fun w9 h => hts w9 (List.mem_cons_of_mem _ (List.mem_append_left _ (List.mem_append_right _ h)))
  have hwsX60 : ∀ w9 ∈ wsX60, w9.before ([.ref (a 0), .ref (ql), .int (nI (22)), .int (nI (w)), .int (nI (d))] : List Value).toArray s = true := fun w9 h => hts w9 (List.mem_cons_of_mem _ (List.mem_append_right _ h))
  have hl : lv_has ls 7 [(0, .ref (a 0)), (1, .ref (ql)), (2, .int (nI (22))), (3, .int (nI (w))), (4, .int (nI (d)))] := hl
  refine lv_iload hx hb dX7_answer_0 (lv_at hl 4 rfl) ?_
  refine lv_bipush (v := nI (8)) hx hb dX7_answer_2 (by decide) ?_
  refine lv_icmp_le (tgt := 9) hx hb dX7_answer_4 (by decide) (fun c1 => ?_) (fun c1 => ?_)
  · skip
    rw [nI_leI (by omega) (by omega)] at c1
    refine lv_aload_n hx hb dX7_answer_9 rfl (lv_at hl 1 rfl) ?_
    refine lv_iload_n hx hb dX7_answer_10 rfl (lv_at hl 2 rfl) ?_
    refine cVv (n := 1) (As := [.int (nI (22))]) (rest := []) (C := RX6) (ci := 6) (q0 := 0) (X := (stW cA a x ++ [(ql, .inr (6, [.ref (qb), .int (nI (t.1))])), (qb, .inl (cA 0, 16, arN t.2))])) (pl := []) (wc := [(ql, .inr (6, [.ref (qb), .int (nI (t.1))])), (qb, .inl (cA 0, 16, arN t.2))]) (wr := (stW cA a x)) (w1 := [(ql, .inr (6, [.ref (qb), .int (nI ((trc t 22).1))])), (qb, .inl (cA 0, 16, arN ((trc t 22).2)))]) (wn := (stW cA a x ++ [(ql, .inr (6, [.ref (qb), .int (nI ((trc t 22).1))])), (qb, .inl (cA 0, 16, arN ((trc t 22).2)))])) (isC := [6, 7]) (isR := [0, 1, 2, 3, 4, 5]) (isN := [0, 1, 2, 3, 4, 5, 6, 7]) ⟨hx, hb, hml, hown, hts⟩ (c_X6_add l D cA tt ql qb t 22 (by first | assumption | (repeat' first | assumption | apply trc_le)) _) gX7_answer_X6_add rfl (by decide +kernel) rfl rfl ⟨rfl, rfl⟩ ⟨Nat.le_of_ble_eq_true rfl, Nat.le_of_ble_eq_true rfl⟩ ⟨Nat.zero_le _, Nat.zero_le _⟩ hK hE hA hP hD hS ⟨⟨rfl, by decide⟩, ⟨rfl, by decide, by decide⟩, rfl, by decide⟩ rfl hl.1 rfl (Nat.le_of_ble_eq_true rfl) dX7_answer_11 (fun H locs hP hD hS => ?_)
    have hP : va_P D vwCl (stW cA a x ++ [(ql, .inr (6, [.ref (qb), .int (nI ((trc t 22).1))])), (qb, .inl (cA 0, 16, arN ((trc t 22).2)))]) H := hP
    have hD : va_D A (stW cA a x ++ [(ql, .inr (6, [.ref (qb), .int (nI ((trc t 22).1))])), (qb, .inl (cA 0, 16, arN ((trc t 22).2)))]) := hD
    refine lv_iload hx hb dX7_answer_14 (lv_at hl 4 rfl) ?_
    refine lv_iconst (v := nI (1)) hx hb dX7_answer_16 (by decide) ?_
    refine lv_iadd hx hb dX7_answer_17 ?_
    refine vn_i (v := nI (d + 1)) (nI_add _ _) ?_
    refine lv_istore (lv' := [(5, .int (nI (d + 1))), (0, .ref (a 0)), (1, .ref (ql)), (2, .int (nI (22))), (3, .int (nI (w))), (4, .int (nI (d)))]) hx hb dX7_answer_18 hl (by decide) rfl (fun ls hl => ?_)
    refine lv_aload_n hx hb dX7_answer_20 rfl (lv_at hl 1 rfl) ?_
    refine va_getN (v := .ref (a 1)) (Ts := wsX40) (C := RX4) (T := TX4) (N := 10) hx hb hwsX40 (fun _ h => h) hown hK hP 0 rfl rfl 0 (by decide) (hE.1.f (q := ("AdventStreets", 280, "AdventStreets$Street", "kinds", "[I")) 9 rfl) (fun _ h9 => h9) rfl dX7_answer_21 ?_
    refine lv_iload_n hx hb dX7_answer_24 rfl (lv_at hl 4 rfl) ?_
    refine r_ald (f := SK x) hx hb hK hP 1 rfl (i := w) (by omega) (Nat.lt_of_lt_of_le (by omega : 10 < 1073741824) (by decide)) dX7_answer_25 ?_
    refine lv_istore (lv' := [(6, .int (nI (SK x w))), (5, .int (nI (d + 1))), (0, .ref (a 0)), (1, .ref (ql)), (2, .int (nI (22))), (3, .int (nI (w))), (4, .int (nI (d)))]) hx hb dX7_answer_26 hl (by decide) rfl (fun ls hl => ?_)
    refine lv_iload_n hx hb dX7_answer_28 rfl (lv_at hl 4 rfl) ?_
    refine lv_tableIn (off := 167) (tgt := 196) hx hb dX7_answer_29 (by decide +kernel) (by decide +kernel) (by decide +kernel) (by decide) ?_
    refine lv_aload_n hx hb dX7_answer_196 rfl (lv_at hl 2 rfl) ?_
    refine lv_aload_n hx hb dX7_answer_197 rfl (lv_at hl 3 rfl) ?_
    refine lv_bipush (v := nI (21)) hx hb dX7_answer_198 (by decide) ?_
    refine lv_iload_n hx hb dX7_answer_200 rfl (lv_at hl 5 rfl) ?_
    refine lv_iload hx hb dX7_answer_201 (lv_at hl 1 rfl) ?_
    refine cSi (n := 5) (As := [.ref (a 0), .ref (ql), .int (nI (21)), .int (nI (w)), .int (nI (d + 1))]) (rest := []) (X := (stW cA a x ++ [(ql, .inr (6, [.ref (qb), .int (nI ((trc t 22).1))])), (qb, .inl (cA 0, 16, arN ((trc t 22).2)))])) (pl := []) (wc := (stW cA a x ++ [(ql, .inr (6, [.ref (qb), .int (nI ((trc t 22).1))])), (qb, .inl (cA 0, 16, arN ((trc t 22).2)))])) (wr := ([] : va_W)) (w1 := (stW cA a x ++ [(ql, .inr (6, [.ref (qb), .int (nI ((trc (trc (trc t 22) 21) 20).1))])), (qb, .inl (cA 0, 16, arN ((trc (trc (trc t 22) 21) 20).2)))])) (wn := (stW cA a x ++ [(ql, .inr (6, [.ref (qb), .int (nI ((trc (trc (trc t 22) 21) 20).1))])), (qb, .inl (cA 0, 16, arN ((trc (trc (trc t 22) 21) 20).2)))])) (isC := [0, 1, 2, 3, 4, 5, 6, 7]) (isR := []) (isN := [0, 1, 2, 3, 4, 5, 6, 7]) ⟨hx, hb, hml, hown, hts⟩ (c_X7_answer_21 l D cA tt a ql qb x (trc t 22) w (d + 1) (hg) (by first | assumption | (repeat' first | assumption | apply trc_le)) (hw) (by omega) _) gX7_answer_X7_answer rfl (by decide +kernel) ⟨rfl, rfl⟩ ⟨Nat.le_of_ble_eq_true rfl, Nat.le_of_ble_eq_true rfl⟩ ⟨Nat.zero_le _, Nat.zero_le _⟩ hK hE hA hP hD hS ⟨⟨rfl, by decide⟩, ⟨rfl, by decide, by decide⟩, rfl, by decide⟩ rfl hl.1 rfl (Nat.le_of_ble_eq_true rfl) dX7_answer_203 (fun H locs hP hD hS => ?_)
    have hP : va_P D vwCl (stW cA a x ++ [(ql, .inr (6, [.ref (qb), .int (nI ((trc (trc (trc t 22) 21) 20).1))])), (qb, .inl (cA 0, 16, arN ((trc (trc (trc t 22) 21) 20).2)))]) H := hP
    have hD : va_D A (stW cA a x ++ [(ql, .inr (6, [.ref (qb), .int (nI ((trc (trc (trc t 22) 21) 20).1))])), (qb, .inl (cA 0, 16, arN ((trc (trc (trc t 22) 21) 20).2)))]) := hD
    refine lv_sipush (v := nI (1000)) hx hb dX7_answer_206 (by decide) ?_
    refine lv_isub hx hb dX7_answer_209 ?_
    exact hend _ _ _ _ _ hP hD hS (by simp [c1]) dX7_answer_210
  · skip
    rw [nI_leI (by omega) (by omega)] at c1
    omega
set_option maxRecDepth 100000 in
set_option maxHeartbeats 4000000 in
theorem c_X7_answer_24 (l : Launch) (D : va_G) (cA : Nat → ClassId) (tt : Nat → Nat) (a : Nat → Nat) (ql qb : Nat) (x : Sg) (t : Nat × (Nat → Nat)) (w d : Nat) (hg : Wk x) (ht : t.1 ≤ 16) (hw : w < Sn x) (hd : d ≤ 6) (sz : Nat) : Ci l D cA tt yX7_answer wsX7_answer ({ frames := 3, cells := 0, slots := 0, locals := 73 } : Room) [.ref (a 0), .ref (ql), .int (nI (24)), .int (nI (w)), .int (nI (d))] sz (stW cA a x ++ [(ql, .inr (6, [.ref (qb), .int (nI (t.1))])), (qb, .inl (cA 0, 16, arN t.2))]) (stW cA a x ++ [(ql, .inr (6, [.ref (qb), .int (nI ((trc (trc (trc t 24) 21) 20).1))])), (qb, .inl (cA 0, 16, arN ((trc (trc (trc t 24) 21) 20).2)))]) (nI (2 * (w + SG x w))) := by
  have hw10 : w < 10 := Nat.lt_of_lt_of_le hw hg.1
  have gw := hg.2.2.2.2 w hw
  refine Ci.mk (cc := cX7_answer) (maxL := 7) (ty := .int) (by decide) rfl rfl (Nat.le_of_ble_eq_true rfl) ?_
  intro p e s m below meth c A Q ls hB hl hend
  obtain ⟨⟨hx, hb, hml, hown, hts⟩, hP, hK, hD, hS, hA, hE⟩ := hB
  have hown : s.vm.findClass RX7 = some m.cls := hown
  have hwsX40 : ∀ w9 ∈ wsX40, w9.before ([.ref (a 0), .ref (ql), .int (nI (24)), .int (nI (w)), .int (nI (d))] : List Value).toArray s = true := fun w9 h => hts w9 (List.mem_cons_of_mem _ (List.mem_append_left _ (List.mem_append_right _ h)))
  have hwsX60 : ∀ w9 ∈ wsX60, w9.before ([.ref (a 0), .ref (ql), .int (nI (24)), .int (nI (w)), .int (nI (d))] : List Value).toArray s = true := fun w9 h => hts w9 (List.mem_cons_of_mem _ (List.mem_append_right _ h))
  have hl : lv_has ls 7 [(0, .ref (a 0)), (1, .ref (ql)), (2, .int (nI (24))), (3, .int (nI (w))), (4, .int (nI (d)))] := hl
  refine lv_iload hx hb dX7_answer_0 (lv_at hl 4 rfl) ?_
  refine lv_bipush (v := nI (8)) hx hb dX7_answer_2 (by decide) ?_
  refine lv_icmp_le (tgt := 9) hx hb dX7_answer_4 (by decide) (fun c1 => ?_) (fun c1 => ?_)
  · skip
    rw [nI_leI (by omega) (by omega)] at c1
    refine lv_aload_n hx hb dX7_answer_9 rfl (lv_at hl 1 rfl) ?_
    refine lv_iload_n hx hb dX7_answer_10 rfl (lv_at hl 2 rfl) ?_
    refine cVv (n := 1) (As := [.int (nI (24))]) (rest := []) (C := RX6) (ci := 6) (q0 := 0) (X := (stW cA a x ++ [(ql, .inr (6, [.ref (qb), .int (nI (t.1))])), (qb, .inl (cA 0, 16, arN t.2))])) (pl := []) (wc := [(ql, .inr (6, [.ref (qb), .int (nI (t.1))])), (qb, .inl (cA 0, 16, arN t.2))]) (wr := (stW cA a x)) (w1 := [(ql, .inr (6, [.ref (qb), .int (nI ((trc t 24).1))])), (qb, .inl (cA 0, 16, arN ((trc t 24).2)))]) (wn := (stW cA a x ++ [(ql, .inr (6, [.ref (qb), .int (nI ((trc t 24).1))])), (qb, .inl (cA 0, 16, arN ((trc t 24).2)))])) (isC := [6, 7]) (isR := [0, 1, 2, 3, 4, 5]) (isN := [0, 1, 2, 3, 4, 5, 6, 7]) ⟨hx, hb, hml, hown, hts⟩ (c_X6_add l D cA tt ql qb t 24 (by first | assumption | (repeat' first | assumption | apply trc_le)) _) gX7_answer_X6_add rfl (by decide +kernel) rfl rfl ⟨rfl, rfl⟩ ⟨Nat.le_of_ble_eq_true rfl, Nat.le_of_ble_eq_true rfl⟩ ⟨Nat.zero_le _, Nat.zero_le _⟩ hK hE hA hP hD hS ⟨⟨rfl, by decide⟩, ⟨rfl, by decide, by decide⟩, rfl, by decide⟩ rfl hl.1 rfl (Nat.le_of_ble_eq_true rfl) dX7_answer_11 (fun H locs hP hD hS => ?_)
    have hP : va_P D vwCl (stW cA a x ++ [(ql, .inr (6, [.ref (qb), .int (nI ((trc t 24).1))])), (qb, .inl (cA 0, 16, arN ((trc t 24).2)))]) H := hP
    have hD : va_D A (stW cA a x ++ [(ql, .inr (6, [.ref (qb), .int (nI ((trc t 24).1))])), (qb, .inl (cA 0, 16, arN ((trc t 24).2)))]) := hD
    refine lv_iload hx hb dX7_answer_14 (lv_at hl 4 rfl) ?_
    refine lv_iconst (v := nI (1)) hx hb dX7_answer_16 (by decide) ?_
    refine lv_iadd hx hb dX7_answer_17 ?_
    refine vn_i (v := nI (d + 1)) (nI_add _ _) ?_
    refine lv_istore (lv' := [(5, .int (nI (d + 1))), (0, .ref (a 0)), (1, .ref (ql)), (2, .int (nI (24))), (3, .int (nI (w))), (4, .int (nI (d)))]) hx hb dX7_answer_18 hl (by decide) rfl (fun ls hl => ?_)
    refine lv_aload_n hx hb dX7_answer_20 rfl (lv_at hl 1 rfl) ?_
    refine va_getN (v := .ref (a 1)) (Ts := wsX40) (C := RX4) (T := TX4) (N := 10) hx hb hwsX40 (fun _ h => h) hown hK hP 0 rfl rfl 0 (by decide) (hE.1.f (q := ("AdventStreets", 280, "AdventStreets$Street", "kinds", "[I")) 9 rfl) (fun _ h9 => h9) rfl dX7_answer_21 ?_
    refine lv_iload_n hx hb dX7_answer_24 rfl (lv_at hl 4 rfl) ?_
    refine r_ald (f := SK x) hx hb hK hP 1 rfl (i := w) (by omega) (Nat.lt_of_lt_of_le (by omega : 10 < 1073741824) (by decide)) dX7_answer_25 ?_
    refine lv_istore (lv' := [(6, .int (nI (SK x w))), (5, .int (nI (d + 1))), (0, .ref (a 0)), (1, .ref (ql)), (2, .int (nI (24))), (3, .int (nI (w))), (4, .int (nI (d)))]) hx hb dX7_answer_26 hl (by decide) rfl (fun ls hl => ?_)
    refine lv_iload_n hx hb dX7_answer_28 rfl (lv_at hl 4 rfl) ?_
    refine lv_tableIn (off := 208) (tgt := 237) hx hb dX7_answer_29 (by decide +kernel) (by decide +kernel) (by decide +kernel) (by decide) ?_
    refine lv_iconst (v := nI (2)) hx hb dX7_answer_237 (by decide) ?_
    refine lv_aload_n hx hb dX7_answer_238 rfl (lv_at hl 2 rfl) ?_
    refine lv_aload_n hx hb dX7_answer_239 rfl (lv_at hl 3 rfl) ?_
    refine lv_bipush (v := nI (21)) hx hb dX7_answer_240 (by decide) ?_
    refine lv_iload_n hx hb dX7_answer_242 rfl (lv_at hl 5 rfl) ?_
    refine lv_iload hx hb dX7_answer_243 (lv_at hl 1 rfl) ?_
    refine cSi (n := 5) (As := [.ref (a 0), .ref (ql), .int (nI (21)), .int (nI (w)), .int (nI (d + 1))]) (rest := [.int (nI (2))]) (X := (stW cA a x ++ [(ql, .inr (6, [.ref (qb), .int (nI ((trc t 24).1))])), (qb, .inl (cA 0, 16, arN ((trc t 24).2)))])) (pl := []) (wc := (stW cA a x ++ [(ql, .inr (6, [.ref (qb), .int (nI ((trc t 24).1))])), (qb, .inl (cA 0, 16, arN ((trc t 24).2)))])) (wr := ([] : va_W)) (w1 := (stW cA a x ++ [(ql, .inr (6, [.ref (qb), .int (nI ((trc (trc (trc t 24) 21) 20).1))])), (qb, .inl (cA 0, 16, arN ((trc (trc (trc t 24) 21) 20).2)))])) (wn := (stW cA a x ++ [(ql, .inr (6, [.ref (qb), .int (nI ((trc (trc (trc t 24) 21) 20).1))])), (qb, .inl (cA 0, 16, arN ((trc (trc (trc t 24) 21) 20).2)))])) (isC := [0, 1, 2, 3, 4, 5, 6, 7]) (isR := []) (isN := [0, 1, 2, 3, 4, 5, 6, 7]) ⟨hx, hb, hml, hown, hts⟩ (c_X7_answer_21 l D cA tt a ql qb x (trc t 24) w (d + 1) (hg) (by first | assumption | (repeat' first | assumption | apply trc_le)) (hw) (by omega) _) gX7_answer_X7_answer rfl (by decide +kernel) ⟨rfl, rfl⟩ ⟨Nat.le_of_ble_eq_true rfl, Nat.le_of_ble_eq_true rfl⟩ ⟨Nat.zero_le _, Nat.zero_le _⟩ hK hE hA hP hD hS ⟨⟨rfl, by decide⟩, ⟨rfl, by decide, by decide⟩, rfl, by decide⟩ rfl hl.1 rfl (Nat.le_of_ble_eq_true rfl) dX7_answer_245 (fun H locs hP hD hS => ?_)
    have hP : va_P D vwCl (stW cA a x ++ [(ql, .inr (6, [.ref (qb), .int (nI ((trc (trc (trc t 24) 21) 20).1))])), (qb, .inl (cA 0, 16, arN ((trc (trc (trc t 24) 21) 20).2)))]) H := hP
    have hD : va_D A (stW cA a x ++ [(ql, .inr (6, [.ref (qb), .int (nI ((trc (trc (trc t 24) 21) 20).1))])), (qb, .inl (cA 0, 16, arN ((trc (trc (trc t 24) 21) 20).2)))]) := hD
    refine lv_imul hx hb dX7_answer_248 ?_
    refine vn_i (v := nI (2 * (w + SG x w))) (pk_mul _ _) ?_
    exact hend _ _ _ _ _ hP hD hS (rfl) dX7_answer_249
  · skip
    rw [nI_leI (by omega) (by omega)] at c1
    omega
set_option maxRecDepth 100000 in
set_option maxHeartbeats 4000000 in
theorem c_X7_answer_14 (l : Launch) (D : va_G) (cA : Nat → ClassId) (tt : Nat → Nat) (a : Nat → Nat) (ql qb : Nat) (x : Sg) (t : Nat × (Nat → Nat)) (w d : Nat) (hg : Wk x) (ht : t.1 ≤ 16) (hw : w < Sn x) (hd : d ≤ 6) (sz : Nat) : Ci l D cA tt yX7_answer wsX7_answer ({ frames := 3, cells := 0, slots := 0, locals := 73 } : Room) [.ref (a 0), .ref (ql), .int (nI (14)), .int (nI (w)), .int (nI (d))] sz (stW cA a x ++ [(ql, .inr (6, [.ref (qb), .int (nI (t.1))])), (qb, .inl (cA 0, 16, arN t.2))]) (stW cA a x ++ [(ql, .inr (6, [.ref (qb), .int (nI ((trc (trc (trc t 14) 13) 10).1))])), (qb, .inl (cA 0, 16, arN ((trc (trc (trc t 14) 13) 10).2)))]) (nI 2 * (nI (SP x w) - nI 100)) := by
  have hw10 : w < 10 := Nat.lt_of_lt_of_le hw hg.1
  have gw := hg.2.2.2.2 w hw
  refine Ci.mk (cc := cX7_answer) (maxL := 7) (ty := .int) (by decide) rfl rfl (Nat.le_of_ble_eq_true rfl) ?_
  intro p e s m below meth c A Q ls hB hl hend
  obtain ⟨⟨hx, hb, hml, hown, hts⟩, hP, hK, hD, hS, hA, hE⟩ := hB
  have hown : s.vm.findClass RX7 = some m.cls := hown
  have hwsX40 : ∀ w9 ∈ wsX40, w9.before ([.ref (a 0), .ref (ql), .int (nI (14)), .int (nI (w)), .int (nI (d))] : List Value).toArray s = true := fun w9 h => hts w9 (List.mem_cons_of_mem _ (List.mem_append_left _ (List.mem_append_right _ h)))
  have hwsX60 : ∀ w9 ∈ wsX60, w9.before ([.ref (a 0), .ref (ql), .int (nI (14)), .int (nI (w)), .int (nI (d))] : List Value).toArray s = true := fun w9 h => hts w9 (List.mem_cons_of_mem _ (List.mem_append_right _ h))
  have hl : lv_has ls 7 [(0, .ref (a 0)), (1, .ref (ql)), (2, .int (nI (14))), (3, .int (nI (w))), (4, .int (nI (d)))] := hl
  refine lv_iload hx hb dX7_answer_0 (lv_at hl 4 rfl) ?_
  refine lv_bipush (v := nI (8)) hx hb dX7_answer_2 (by decide) ?_
  refine lv_icmp_le (tgt := 9) hx hb dX7_answer_4 (by decide) (fun c1 => ?_) (fun c1 => ?_)
  · skip
    rw [nI_leI (by omega) (by omega)] at c1
    refine lv_aload_n hx hb dX7_answer_9 rfl (lv_at hl 1 rfl) ?_
    refine lv_iload_n hx hb dX7_answer_10 rfl (lv_at hl 2 rfl) ?_
    refine cVv (n := 1) (As := [.int (nI (14))]) (rest := []) (C := RX6) (ci := 6) (q0 := 0) (X := (stW cA a x ++ [(ql, .inr (6, [.ref (qb), .int (nI (t.1))])), (qb, .inl (cA 0, 16, arN t.2))])) (pl := []) (wc := [(ql, .inr (6, [.ref (qb), .int (nI (t.1))])), (qb, .inl (cA 0, 16, arN t.2))]) (wr := (stW cA a x)) (w1 := [(ql, .inr (6, [.ref (qb), .int (nI ((trc t 14).1))])), (qb, .inl (cA 0, 16, arN ((trc t 14).2)))]) (wn := (stW cA a x ++ [(ql, .inr (6, [.ref (qb), .int (nI ((trc t 14).1))])), (qb, .inl (cA 0, 16, arN ((trc t 14).2)))])) (isC := [6, 7]) (isR := [0, 1, 2, 3, 4, 5]) (isN := [0, 1, 2, 3, 4, 5, 6, 7]) ⟨hx, hb, hml, hown, hts⟩ (c_X6_add l D cA tt ql qb t 14 (by first | assumption | (repeat' first | assumption | apply trc_le)) _) gX7_answer_X6_add rfl (by decide +kernel) rfl rfl ⟨rfl, rfl⟩ ⟨Nat.le_of_ble_eq_true rfl, Nat.le_of_ble_eq_true rfl⟩ ⟨Nat.zero_le _, Nat.zero_le _⟩ hK hE hA hP hD hS ⟨⟨rfl, by decide⟩, ⟨rfl, by decide, by decide⟩, rfl, by decide⟩ rfl hl.1 rfl (Nat.le_of_ble_eq_true rfl) dX7_answer_11 (fun H locs hP hD hS => ?_)
    have hP : va_P D vwCl (stW cA a x ++ [(ql, .inr (6, [.ref (qb), .int (nI ((trc t 14).1))])), (qb, .inl (cA 0, 16, arN ((trc t 14).2)))]) H := hP
    have hD : va_D A (stW cA a x ++ [(ql, .inr (6, [.ref (qb), .int (nI ((trc t 14).1))])), (qb, .inl (cA 0, 16, arN ((trc t 14).2)))]) := hD
    refine lv_iload hx hb dX7_answer_14 (lv_at hl 4 rfl) ?_
    refine lv_iconst (v := nI (1)) hx hb dX7_answer_16 (by decide) ?_
    refine lv_iadd hx hb dX7_answer_17 ?_
    refine vn_i (v := nI (d + 1)) (nI_add _ _) ?_
    refine lv_istore (lv' := [(5, .int (nI (d + 1))), (0, .ref (a 0)), (1, .ref (ql)), (2, .int (nI (14))), (3, .int (nI (w))), (4, .int (nI (d)))]) hx hb dX7_answer_18 hl (by decide) rfl (fun ls hl => ?_)
    refine lv_aload_n hx hb dX7_answer_20 rfl (lv_at hl 1 rfl) ?_
    refine va_getN (v := .ref (a 1)) (Ts := wsX40) (C := RX4) (T := TX4) (N := 10) hx hb hwsX40 (fun _ h => h) hown hK hP 0 rfl rfl 0 (by decide) (hE.1.f (q := ("AdventStreets", 280, "AdventStreets$Street", "kinds", "[I")) 9 rfl) (fun _ h9 => h9) rfl dX7_answer_21 ?_
    refine lv_iload_n hx hb dX7_answer_24 rfl (lv_at hl 4 rfl) ?_
    refine r_ald (f := SK x) hx hb hK hP 1 rfl (i := w) (by omega) (Nat.lt_of_lt_of_le (by omega : 10 < 1073741824) (by decide)) dX7_answer_25 ?_
    refine lv_istore (lv' := [(6, .int (nI (SK x w))), (5, .int (nI (d + 1))), (0, .ref (a 0)), (1, .ref (ql)), (2, .int (nI (14))), (3, .int (nI (w))), (4, .int (nI (d)))]) hx hb dX7_answer_26 hl (by decide) rfl (fun ls hl => ?_)
    refine lv_iload_n hx hb dX7_answer_28 rfl (lv_at hl 4 rfl) ?_
    refine lv_tableIn (off := 134) (tgt := 163) hx hb dX7_answer_29 (by decide +kernel) (by decide +kernel) (by decide +kernel) (by decide) ?_
    refine lv_iconst (v := nI (2)) hx hb dX7_answer_163 (by decide) ?_
    refine lv_aload_n hx hb dX7_answer_164 rfl (lv_at hl 2 rfl) ?_
    refine lv_aload_n hx hb dX7_answer_165 rfl (lv_at hl 3 rfl) ?_
    refine lv_bipush (v := nI (13)) hx hb dX7_answer_166 (by decide) ?_
    refine lv_iload_n hx hb dX7_answer_168 rfl (lv_at hl 5 rfl) ?_
    refine lv_iload hx hb dX7_answer_169 (lv_at hl 1 rfl) ?_
    refine cSi (n := 5) (As := [.ref (a 0), .ref (ql), .int (nI (13)), .int (nI (w)), .int (nI (d + 1))]) (rest := [.int (nI (2))]) (X := (stW cA a x ++ [(ql, .inr (6, [.ref (qb), .int (nI ((trc t 14).1))])), (qb, .inl (cA 0, 16, arN ((trc t 14).2)))])) (pl := []) (wc := (stW cA a x ++ [(ql, .inr (6, [.ref (qb), .int (nI ((trc t 14).1))])), (qb, .inl (cA 0, 16, arN ((trc t 14).2)))])) (wr := ([] : va_W)) (w1 := (stW cA a x ++ [(ql, .inr (6, [.ref (qb), .int (nI ((trc (trc (trc t 14) 13) 10).1))])), (qb, .inl (cA 0, 16, arN ((trc (trc (trc t 14) 13) 10).2)))])) (wn := (stW cA a x ++ [(ql, .inr (6, [.ref (qb), .int (nI ((trc (trc (trc t 14) 13) 10).1))])), (qb, .inl (cA 0, 16, arN ((trc (trc (trc t 14) 13) 10).2)))])) (isC := [0, 1, 2, 3, 4, 5, 6, 7]) (isR := []) (isN := [0, 1, 2, 3, 4, 5, 6, 7]) ⟨hx, hb, hml, hown, hts⟩ (c_X7_answer_13 l D cA tt a ql qb x (trc t 14) w (d + 1) (hg) (by first | assumption | (repeat' first | assumption | apply trc_le)) (hw) (by omega) _) gX7_answer_X7_answer rfl (by decide +kernel) ⟨rfl, rfl⟩ ⟨Nat.le_of_ble_eq_true rfl, Nat.le_of_ble_eq_true rfl⟩ ⟨Nat.zero_le _, Nat.zero_le _⟩ hK hE hA hP hD hS ⟨⟨rfl, by decide⟩, ⟨rfl, by decide, by decide⟩, rfl, by decide⟩ rfl hl.1 rfl (Nat.le_of_ble_eq_true rfl) dX7_answer_171 (fun H locs hP hD hS => ?_)
    have hP : va_P D vwCl (stW cA a x ++ [(ql, .inr (6, [.ref (qb), .int (nI ((trc (trc (trc t 14) 13) 10).1))])), (qb, .inl (cA 0, 16, arN ((trc (trc (trc t 14) 13) 10).2)))]) H := hP
    have hD : va_D A (stW cA a x ++ [(ql, .inr (6, [.ref (qb), .int (nI ((trc (trc (trc t 14) 13) 10).1))])), (qb, .inl (cA 0, 16, arN ((trc (trc (trc t 14) 13) 10).2)))]) := hD
    refine lv_imul hx hb dX7_answer_174 ?_
    exact hend _ _ _ _ _ hP hD hS (by simp [c1]) dX7_answer_175
  · skip
    rw [nI_leI (by omega) (by omega)] at c1
    omega
set_option maxRecDepth 100000 in
set_option maxHeartbeats 4000000 in
theorem c_X7_answer_11_1 (l : Launch) (D : va_G) (cA : Nat → ClassId) (tt : Nat → Nat) (a : Nat → Nat) (ql qb : Nat) (x : Sg) (t : Nat × (Nat → Nat)) (w d : Nat) (hg : Wk x) (ht : t.1 ≤ 16) (hw : w < Sn x) (hd : d ≤ 5) (hk : SK x w = 1) (sz : Nat) : Ci l D cA tt yX7_answer wsX7_answer ({ frames := 3, cells := 0, slots := 0, locals := 73 } : Room) [.ref (a 0), .ref (ql), .int (nI (11)), .int (nI (w)), .int (nI (d))] sz (stW cA a x ++ [(ql, .inr (6, [.ref (qb), .int (nI (t.1))])), (qb, .inl (cA 0, 16, arN t.2))]) (stW cA a x ++ [(ql, .inr (6, [.ref (qb), .int (nI ((trc (trc (trc (trc t 11) 10) 21) 20).1))])), (qb, .inl (cA 0, 16, arN ((trc (trc (trc (trc t 11) 10) 21) 20).2)))]) (nI (SP x w + (w + SG x w))) := by
  have hw10 : w < 10 := Nat.lt_of_lt_of_le hw hg.1
  have gw := hg.2.2.2.2 w hw
  refine Ci.mk (cc := cX7_answer) (maxL := 7) (ty := .int) (by decide) rfl rfl (Nat.le_of_ble_eq_true rfl) ?_
  intro p e s m below meth c A Q ls hB hl hend
  obtain ⟨⟨hx, hb, hml, hown, hts⟩, hP, hK, hD, hS, hA, hE⟩ := hB
  have hown : s.vm.findClass RX7 = some m.cls := hown
  have hwsX40 : ∀ w9 ∈ wsX40, w9.before ([.ref (a 0), .ref (ql), .int (nI (11)), .int (nI (w)), .int (nI (d))] : List Value).toArray s = true := fun w9 h => hts w9 (List.mem_cons_of_mem _ (List.mem_append_left _ (List.mem_append_right _ h)))
  have hwsX60 : ∀ w9 ∈ wsX60, w9.before ([.ref (a 0), .ref (ql), .int (nI (11)), .int (nI (w)), .int (nI (d))] : List Value).toArray s = true := fun w9 h => hts w9 (List.mem_cons_of_mem _ (List.mem_append_right _ h))
  have hl : lv_has ls 7 [(0, .ref (a 0)), (1, .ref (ql)), (2, .int (nI (11))), (3, .int (nI (w))), (4, .int (nI (d)))] := hl
  refine lv_iload hx hb dX7_answer_0 (lv_at hl 4 rfl) ?_
  refine lv_bipush (v := nI (8)) hx hb dX7_answer_2 (by decide) ?_
  refine lv_icmp_le (tgt := 9) hx hb dX7_answer_4 (by decide) (fun c1 => ?_) (fun c1 => ?_)
  · skip
    rw [nI_leI (by omega) (by omega)] at c1
    refine lv_aload_n hx hb dX7_answer_9 rfl (lv_at hl 1 rfl) ?_
    refine lv_iload_n hx hb dX7_answer_10 rfl (lv_at hl 2 rfl) ?_
    refine cVv (n := 1) (As := [.int (nI (11))]) (rest := []) (C := RX6) (ci := 6) (q0 := 0) (X := (stW cA a x ++ [(ql, .inr (6, [.ref (qb), .int (nI (t.1))])), (qb, .inl (cA 0, 16, arN t.2))])) (pl := []) (wc := [(ql, .inr (6, [.ref (qb), .int (nI (t.1))])), (qb, .inl (cA 0, 16, arN t.2))]) (wr := (stW cA a x)) (w1 := [(ql, .inr (6, [.ref (qb), .int (nI ((trc t 11).1))])), (qb, .inl (cA 0, 16, arN ((trc t 11).2)))]) (wn := (stW cA a x ++ [(ql, .inr (6, [.ref (qb), .int (nI ((trc t 11).1))])), (qb, .inl (cA 0, 16, arN ((trc t 11).2)))])) (isC := [6, 7]) (isR := [0, 1, 2, 3, 4, 5]) (isN := [0, 1, 2, 3, 4, 5, 6, 7]) ⟨hx, hb, hml, hown, hts⟩ (c_X6_add l D cA tt ql qb t 11 (by first | assumption | (repeat' first | assumption | apply trc_le)) _) gX7_answer_X6_add rfl (by decide +kernel) rfl rfl ⟨rfl, rfl⟩ ⟨Nat.le_of_ble_eq_true rfl, Nat.le_of_ble_eq_true rfl⟩ ⟨Nat.zero_le _, Nat.zero_le _⟩ hK hE hA hP hD hS ⟨⟨rfl, by decide⟩, ⟨rfl, by decide, by decide⟩, rfl, by decide⟩ rfl hl.1 rfl (Nat.le_of_ble_eq_true rfl) dX7_answer_11 (fun H locs hP hD hS => ?_)
    have hP : va_P D vwCl (stW cA a x ++ [(ql, .inr (6, [.ref (qb), .int (nI ((trc t 11).1))])), (qb, .inl (cA 0, 16, arN ((trc t 11).2)))]) H := hP
    have hD : va_D A (stW cA a x ++ [(ql, .inr (6, [.ref (qb), .int (nI ((trc t 11).1))])), (qb, .inl (cA 0, 16, arN ((trc t 11).2)))]) := hD
    refine lv_iload hx hb dX7_answer_14 (lv_at hl 4 rfl) ?_
    refine lv_iconst (v := nI (1)) hx hb dX7_answer_16 (by decide) ?_
    refine lv_iadd hx hb dX7_answer_17 ?_
    refine vn_i (v := nI (d + 1)) (nI_add _ _) ?_
    refine lv_istore (lv' := [(5, .int (nI (d + 1))), (0, .ref (a 0)), (1, .ref (ql)), (2, .int (nI (11))), (3, .int (nI (w))), (4, .int (nI (d)))]) hx hb dX7_answer_18 hl (by decide) rfl (fun ls hl => ?_)
    refine lv_aload_n hx hb dX7_answer_20 rfl (lv_at hl 1 rfl) ?_
    refine va_getN (v := .ref (a 1)) (Ts := wsX40) (C := RX4) (T := TX4) (N := 10) hx hb hwsX40 (fun _ h => h) hown hK hP 0 rfl rfl 0 (by decide) (hE.1.f (q := ("AdventStreets", 280, "AdventStreets$Street", "kinds", "[I")) 9 rfl) (fun _ h9 => h9) rfl dX7_answer_21 ?_
    refine lv_iload_n hx hb dX7_answer_24 rfl (lv_at hl 4 rfl) ?_
    refine r_ald (f := SK x) hx hb hK hP 1 rfl (i := w) (by omega) (Nat.lt_of_lt_of_le (by omega : 10 < 1073741824) (by decide)) dX7_answer_25 ?_
    refine lv_istore (lv' := [(6, .int (nI (SK x w))), (5, .int (nI (d + 1))), (0, .ref (a 0)), (1, .ref (ql)), (2, .int (nI (11))), (3, .int (nI (w))), (4, .int (nI (d)))]) hx hb dX7_answer_26 hl (by decide) rfl (fun ls hl => ?_)
    refine lv_iload_n hx hb dX7_answer_28 rfl (lv_at hl 4 rfl) ?_
    refine lv_tableIn (off := 82) (tgt := 111) hx hb dX7_answer_29 (by decide +kernel) (by decide +kernel) (by decide +kernel) (by decide) ?_
    refine lv_aload_n hx hb dX7_answer_111 rfl (lv_at hl 2 rfl) ?_
    refine lv_aload_n hx hb dX7_answer_112 rfl (lv_at hl 3 rfl) ?_
    refine lv_bipush (v := nI (10)) hx hb dX7_answer_113 (by decide) ?_
    refine lv_iload_n hx hb dX7_answer_115 rfl (lv_at hl 5 rfl) ?_
    refine lv_iload hx hb dX7_answer_116 (lv_at hl 1 rfl) ?_
    refine cSi (n := 5) (As := [.ref (a 0), .ref (ql), .int (nI (10)), .int (nI (w)), .int (nI (d + 1))]) (rest := []) (X := (stW cA a x ++ [(ql, .inr (6, [.ref (qb), .int (nI ((trc t 11).1))])), (qb, .inl (cA 0, 16, arN ((trc t 11).2)))])) (pl := []) (wc := (stW cA a x ++ [(ql, .inr (6, [.ref (qb), .int (nI ((trc t 11).1))])), (qb, .inl (cA 0, 16, arN ((trc t 11).2)))])) (wr := ([] : va_W)) (w1 := (stW cA a x ++ [(ql, .inr (6, [.ref (qb), .int (nI ((trc (trc t 11) 10).1))])), (qb, .inl (cA 0, 16, arN ((trc (trc t 11) 10).2)))])) (wn := (stW cA a x ++ [(ql, .inr (6, [.ref (qb), .int (nI ((trc (trc t 11) 10).1))])), (qb, .inl (cA 0, 16, arN ((trc (trc t 11) 10).2)))])) (isC := [0, 1, 2, 3, 4, 5, 6, 7]) (isR := []) (isN := [0, 1, 2, 3, 4, 5, 6, 7]) ⟨hx, hb, hml, hown, hts⟩ (c_X7_answer_10 l D cA tt a ql qb x (trc t 11) w (d + 1) (hg) (by first | assumption | (repeat' first | assumption | apply trc_le)) (hw) (by omega) _) gX7_answer_X7_answer rfl (by decide +kernel) ⟨rfl, rfl⟩ ⟨Nat.le_of_ble_eq_true rfl, Nat.le_of_ble_eq_true rfl⟩ ⟨Nat.zero_le _, Nat.zero_le _⟩ hK hE hA hP hD hS ⟨⟨rfl, by decide⟩, ⟨rfl, by decide, by decide⟩, rfl, by decide⟩ rfl hl.1 rfl (Nat.le_of_ble_eq_true rfl) dX7_answer_118 (fun H locs hP hD hS => ?_)
    have hP : va_P D vwCl (stW cA a x ++ [(ql, .inr (6, [.ref (qb), .int (nI ((trc (trc t 11) 10).1))])), (qb, .inl (cA 0, 16, arN ((trc (trc t 11) 10).2)))]) H := hP
    have hD : va_D A (stW cA a x ++ [(ql, .inr (6, [.ref (qb), .int (nI ((trc (trc t 11) 10).1))])), (qb, .inl (cA 0, 16, arN ((trc (trc t 11) 10).2)))]) := hD
    refine lv_aload_n hx hb dX7_answer_121 rfl (lv_at hl 2 rfl) ?_
    refine lv_aload_n hx hb dX7_answer_122 rfl (lv_at hl 3 rfl) ?_
    refine lv_iload hx hb dX7_answer_123 (lv_at hl 0 rfl) ?_
    refine lv_iconst (v := nI (1)) hx hb dX7_answer_125 (by decide) ?_
    refine cSi (n := 2) (As := [.int (nI (SK x w)), .int (nI (1))]) (rest := [.ref (ql), .ref (a 0), .int (nI (SP x w))]) (X := (stW cA a x ++ [(ql, .inr (6, [.ref (qb), .int (nI ((trc (trc t 11) 10).1))])), (qb, .inl (cA 0, 16, arN ((trc (trc t 11) 10).2)))])) (pl := []) (wc := ([] : va_W)) (wr := (stW cA a x ++ [(ql, .inr (6, [.ref (qb), .int (nI ((trc (trc t 11) 10).1))])), (qb, .inl (cA 0, 16, arN ((trc (trc t 11) 10).2)))])) (w1 := ([] : va_W)) (wn := (stW cA a x ++ [(ql, .inr (6, [.ref (qb), .int (nI ((trc (trc t 11) 10).1))])), (qb, .inl (cA 0, 16, arN ((trc (trc t 11) 10).2)))])) (isC := []) (isR := [0, 1, 2, 3, 4, 5, 6, 7]) (isN := [0, 1, 2, 3, 4, 5, 6, 7]) ⟨hx, hb, hml, hown, hts⟩ (c_X7_firstBody l D cA tt (SK x w) 1 (by omega) (by omega) _) gX7_answer_X7_firstBody rfl (by decide +kernel) ⟨rfl, rfl⟩ ⟨Nat.le_of_ble_eq_true rfl, Nat.le_of_ble_eq_true rfl⟩ ⟨Nat.zero_le _, Nat.zero_le _⟩ hK hE hA hP hD hS ⟨⟨rfl, by decide⟩, ⟨rfl, by decide, by decide⟩, rfl, by decide⟩ rfl hl.1 rfl (Nat.le_of_ble_eq_true rfl) dX7_answer_126 (fun H locs hP hD hS => ?_)
    have hP : va_P D vwCl (stW cA a x ++ [(ql, .inr (6, [.ref (qb), .int (nI ((trc (trc t 11) 10).1))])), (qb, .inl (cA 0, 16, arN ((trc (trc t 11) 10).2)))]) H := hP
    have hD : va_D A (stW cA a x ++ [(ql, .inr (6, [.ref (qb), .int (nI ((trc (trc t 11) 10).1))])), (qb, .inl (cA 0, 16, arN ((trc (trc t 11) 10).2)))]) := hD
    refine vn_i (v := nI 21) (by rw [hk]; rfl) ?_
    refine lv_iload_n hx hb dX7_answer_129 rfl (lv_at hl 5 rfl) ?_
    refine lv_iload hx hb dX7_answer_130 (lv_at hl 1 rfl) ?_
    refine cSi (n := 5) (As := [.ref (a 0), .ref (ql), .int (nI (21)), .int (nI (w)), .int (nI (d + 1))]) (rest := [.int (nI (SP x w))]) (X := (stW cA a x ++ [(ql, .inr (6, [.ref (qb), .int (nI ((trc (trc t 11) 10).1))])), (qb, .inl (cA 0, 16, arN ((trc (trc t 11) 10).2)))])) (pl := []) (wc := (stW cA a x ++ [(ql, .inr (6, [.ref (qb), .int (nI ((trc (trc t 11) 10).1))])), (qb, .inl (cA 0, 16, arN ((trc (trc t 11) 10).2)))])) (wr := ([] : va_W)) (w1 := (stW cA a x ++ [(ql, .inr (6, [.ref (qb), .int (nI ((trc (trc (trc (trc t 11) 10) 21) 20).1))])), (qb, .inl (cA 0, 16, arN ((trc (trc (trc (trc t 11) 10) 21) 20).2)))])) (wn := (stW cA a x ++ [(ql, .inr (6, [.ref (qb), .int (nI ((trc (trc (trc (trc t 11) 10) 21) 20).1))])), (qb, .inl (cA 0, 16, arN ((trc (trc (trc (trc t 11) 10) 21) 20).2)))])) (isC := [0, 1, 2, 3, 4, 5, 6, 7]) (isR := []) (isN := [0, 1, 2, 3, 4, 5, 6, 7]) ⟨hx, hb, hml, hown, hts⟩ (c_X7_answer_21 l D cA tt a ql qb x (trc (trc t 11) 10) w (d + 1) (hg) (by first | assumption | (repeat' first | assumption | apply trc_le)) (hw) (by omega) _) gX7_answer_X7_answer rfl (by decide +kernel) ⟨rfl, rfl⟩ ⟨Nat.le_of_ble_eq_true rfl, Nat.le_of_ble_eq_true rfl⟩ ⟨Nat.zero_le _, Nat.zero_le _⟩ hK hE hA hP hD hS ⟨⟨rfl, by decide⟩, ⟨rfl, by decide, by decide⟩, rfl, by decide⟩ rfl hl.1 rfl (Nat.le_of_ble_eq_true rfl) dX7_answer_132 (fun H locs hP hD hS => ?_)
    have hP : va_P D vwCl (stW cA a x ++ [(ql, .inr (6, [.ref (qb), .int (nI ((trc (trc (trc (trc t 11) 10) 21) 20).1))])), (qb, .inl (cA 0, 16, arN ((trc (trc (trc (trc t 11) 10) 21) 20).2)))]) H := hP
    have hD : va_D A (stW cA a x ++ [(ql, .inr (6, [.ref (qb), .int (nI ((trc (trc (trc (trc t 11) 10) 21) 20).1))])), (qb, .inl (cA 0, 16, arN ((trc (trc (trc (trc t 11) 10) 21) 20).2)))]) := hD
    refine lv_iadd hx hb dX7_answer_135 ?_
    refine vn_i (v := nI (SP x w + (w + SG x w))) (nI_add _ _) ?_
    exact hend _ _ _ _ _ hP hD hS (rfl) dX7_answer_136
  · skip
    rw [nI_leI (by omega) (by omega)] at c1
    omega
set_option maxRecDepth 100000 in
set_option maxHeartbeats 4000000 in
theorem c_X7_answer_11_2 (l : Launch) (D : va_G) (cA : Nat → ClassId) (tt : Nat → Nat) (a : Nat → Nat) (ql qb : Nat) (x : Sg) (t : Nat × (Nat → Nat)) (w d : Nat) (hg : Wk x) (ht : t.1 ≤ 16) (hw : w < Sn x) (hd : d ≤ 5) (hk : SK x w = 2) (sz : Nat) : Ci l D cA tt yX7_answer wsX7_answer ({ frames := 4, cells := 0, slots := 0, locals := 99 } : Room) [.ref (a 0), .ref (ql), .int (nI (11)), .int (nI (w)), .int (nI (d))] sz (stW cA a x ++ [(ql, .inr (6, [.ref (qb), .int (nI (t.1))])), (qb, .inl (cA 0, 16, arN t.2))]) (stW cA a x ++ [(ql, .inr (6, [.ref (qb), .int (nI ((trc (trc (trc (trc (trc t 11) 10) 24) 21) 20).1))])), (qb, .inl (cA 0, 16, arN ((trc (trc (trc (trc (trc t 11) 10) 24) 21) 20).2)))]) (nI (SP x w + (2 * (w + SG x w)))) := by
  have hw10 : w < 10 := Nat.lt_of_lt_of_le hw hg.1
  have gw := hg.2.2.2.2 w hw
  refine Ci.mk (cc := cX7_answer) (maxL := 7) (ty := .int) (by decide) rfl rfl (Nat.le_of_ble_eq_true rfl) ?_
  intro p e s m below meth c A Q ls hB hl hend
  obtain ⟨⟨hx, hb, hml, hown, hts⟩, hP, hK, hD, hS, hA, hE⟩ := hB
  have hown : s.vm.findClass RX7 = some m.cls := hown
  have hwsX40 : ∀ w9 ∈ wsX40, w9.before ([.ref (a 0), .ref (ql), .int (nI (11)), .int (nI (w)), .int (nI (d))] : List Value).toArray s = true := fun w9 h => hts w9 (List.mem_cons_of_mem _ (List.mem_append_left _ (List.mem_append_right _ h)))
  have hwsX60 : ∀ w9 ∈ wsX60, w9.before ([.ref (a 0), .ref (ql), .int (nI (11)), .int (nI (w)), .int (nI (d))] : List Value).toArray s = true := fun w9 h => hts w9 (List.mem_cons_of_mem _ (List.mem_append_right _ h))
  have hl : lv_has ls 7 [(0, .ref (a 0)), (1, .ref (ql)), (2, .int (nI (11))), (3, .int (nI (w))), (4, .int (nI (d)))] := hl
  refine lv_iload hx hb dX7_answer_0 (lv_at hl 4 rfl) ?_
  refine lv_bipush (v := nI (8)) hx hb dX7_answer_2 (by decide) ?_
  refine lv_icmp_le (tgt := 9) hx hb dX7_answer_4 (by decide) (fun c1 => ?_) (fun c1 => ?_)
  · skip
    rw [nI_leI (by omega) (by omega)] at c1
    refine lv_aload_n hx hb dX7_answer_9 rfl (lv_at hl 1 rfl) ?_
    refine lv_iload_n hx hb dX7_answer_10 rfl (lv_at hl 2 rfl) ?_
    refine cVv (n := 1) (As := [.int (nI (11))]) (rest := []) (C := RX6) (ci := 6) (q0 := 0) (X := (stW cA a x ++ [(ql, .inr (6, [.ref (qb), .int (nI (t.1))])), (qb, .inl (cA 0, 16, arN t.2))])) (pl := []) (wc := [(ql, .inr (6, [.ref (qb), .int (nI (t.1))])), (qb, .inl (cA 0, 16, arN t.2))]) (wr := (stW cA a x)) (w1 := [(ql, .inr (6, [.ref (qb), .int (nI ((trc t 11).1))])), (qb, .inl (cA 0, 16, arN ((trc t 11).2)))]) (wn := (stW cA a x ++ [(ql, .inr (6, [.ref (qb), .int (nI ((trc t 11).1))])), (qb, .inl (cA 0, 16, arN ((trc t 11).2)))])) (isC := [6, 7]) (isR := [0, 1, 2, 3, 4, 5]) (isN := [0, 1, 2, 3, 4, 5, 6, 7]) ⟨hx, hb, hml, hown, hts⟩ (c_X6_add l D cA tt ql qb t 11 (by first | assumption | (repeat' first | assumption | apply trc_le)) _) gX7_answer_X6_add rfl (by decide +kernel) rfl rfl ⟨rfl, rfl⟩ ⟨Nat.le_of_ble_eq_true rfl, Nat.le_of_ble_eq_true rfl⟩ ⟨Nat.zero_le _, Nat.zero_le _⟩ hK hE hA hP hD hS ⟨⟨rfl, by decide⟩, ⟨rfl, by decide, by decide⟩, rfl, by decide⟩ rfl hl.1 rfl (Nat.le_of_ble_eq_true rfl) dX7_answer_11 (fun H locs hP hD hS => ?_)
    have hP : va_P D vwCl (stW cA a x ++ [(ql, .inr (6, [.ref (qb), .int (nI ((trc t 11).1))])), (qb, .inl (cA 0, 16, arN ((trc t 11).2)))]) H := hP
    have hD : va_D A (stW cA a x ++ [(ql, .inr (6, [.ref (qb), .int (nI ((trc t 11).1))])), (qb, .inl (cA 0, 16, arN ((trc t 11).2)))]) := hD
    refine lv_iload hx hb dX7_answer_14 (lv_at hl 4 rfl) ?_
    refine lv_iconst (v := nI (1)) hx hb dX7_answer_16 (by decide) ?_
    refine lv_iadd hx hb dX7_answer_17 ?_
    refine vn_i (v := nI (d + 1)) (nI_add _ _) ?_
    refine lv_istore (lv' := [(5, .int (nI (d + 1))), (0, .ref (a 0)), (1, .ref (ql)), (2, .int (nI (11))), (3, .int (nI (w))), (4, .int (nI (d)))]) hx hb dX7_answer_18 hl (by decide) rfl (fun ls hl => ?_)
    refine lv_aload_n hx hb dX7_answer_20 rfl (lv_at hl 1 rfl) ?_
    refine va_getN (v := .ref (a 1)) (Ts := wsX40) (C := RX4) (T := TX4) (N := 10) hx hb hwsX40 (fun _ h => h) hown hK hP 0 rfl rfl 0 (by decide) (hE.1.f (q := ("AdventStreets", 280, "AdventStreets$Street", "kinds", "[I")) 9 rfl) (fun _ h9 => h9) rfl dX7_answer_21 ?_
    refine lv_iload_n hx hb dX7_answer_24 rfl (lv_at hl 4 rfl) ?_
    refine r_ald (f := SK x) hx hb hK hP 1 rfl (i := w) (by omega) (Nat.lt_of_lt_of_le (by omega : 10 < 1073741824) (by decide)) dX7_answer_25 ?_
    refine lv_istore (lv' := [(6, .int (nI (SK x w))), (5, .int (nI (d + 1))), (0, .ref (a 0)), (1, .ref (ql)), (2, .int (nI (11))), (3, .int (nI (w))), (4, .int (nI (d)))]) hx hb dX7_answer_26 hl (by decide) rfl (fun ls hl => ?_)
    refine lv_iload_n hx hb dX7_answer_28 rfl (lv_at hl 4 rfl) ?_
    refine lv_tableIn (off := 82) (tgt := 111) hx hb dX7_answer_29 (by decide +kernel) (by decide +kernel) (by decide +kernel) (by decide) ?_
    refine lv_aload_n hx hb dX7_answer_111 rfl (lv_at hl 2 rfl) ?_
    refine lv_aload_n hx hb dX7_answer_112 rfl (lv_at hl 3 rfl) ?_
    refine lv_bipush (v := nI (10)) hx hb dX7_answer_113 (by decide) ?_
    refine lv_iload_n hx hb dX7_answer_115 rfl (lv_at hl 5 rfl) ?_
    refine lv_iload hx hb dX7_answer_116 (lv_at hl 1 rfl) ?_
    refine cSi (n := 5) (As := [.ref (a 0), .ref (ql), .int (nI (10)), .int (nI (w)), .int (nI (d + 1))]) (rest := []) (X := (stW cA a x ++ [(ql, .inr (6, [.ref (qb), .int (nI ((trc t 11).1))])), (qb, .inl (cA 0, 16, arN ((trc t 11).2)))])) (pl := []) (wc := (stW cA a x ++ [(ql, .inr (6, [.ref (qb), .int (nI ((trc t 11).1))])), (qb, .inl (cA 0, 16, arN ((trc t 11).2)))])) (wr := ([] : va_W)) (w1 := (stW cA a x ++ [(ql, .inr (6, [.ref (qb), .int (nI ((trc (trc t 11) 10).1))])), (qb, .inl (cA 0, 16, arN ((trc (trc t 11) 10).2)))])) (wn := (stW cA a x ++ [(ql, .inr (6, [.ref (qb), .int (nI ((trc (trc t 11) 10).1))])), (qb, .inl (cA 0, 16, arN ((trc (trc t 11) 10).2)))])) (isC := [0, 1, 2, 3, 4, 5, 6, 7]) (isR := []) (isN := [0, 1, 2, 3, 4, 5, 6, 7]) ⟨hx, hb, hml, hown, hts⟩ (c_X7_answer_10 l D cA tt a ql qb x (trc t 11) w (d + 1) (hg) (by first | assumption | (repeat' first | assumption | apply trc_le)) (hw) (by omega) _) gX7_answer_X7_answer rfl (by decide +kernel) ⟨rfl, rfl⟩ ⟨Nat.le_of_ble_eq_true rfl, Nat.le_of_ble_eq_true rfl⟩ ⟨Nat.zero_le _, Nat.zero_le _⟩ hK hE hA hP hD hS ⟨⟨rfl, by decide⟩, ⟨rfl, by decide, by decide⟩, rfl, by decide⟩ rfl hl.1 rfl (Nat.le_of_ble_eq_true rfl) dX7_answer_118 (fun H locs hP hD hS => ?_)
    have hP : va_P D vwCl (stW cA a x ++ [(ql, .inr (6, [.ref (qb), .int (nI ((trc (trc t 11) 10).1))])), (qb, .inl (cA 0, 16, arN ((trc (trc t 11) 10).2)))]) H := hP
    have hD : va_D A (stW cA a x ++ [(ql, .inr (6, [.ref (qb), .int (nI ((trc (trc t 11) 10).1))])), (qb, .inl (cA 0, 16, arN ((trc (trc t 11) 10).2)))]) := hD
    refine lv_aload_n hx hb dX7_answer_121 rfl (lv_at hl 2 rfl) ?_
    refine lv_aload_n hx hb dX7_answer_122 rfl (lv_at hl 3 rfl) ?_
    refine lv_iload hx hb dX7_answer_123 (lv_at hl 0 rfl) ?_
    refine lv_iconst (v := nI (1)) hx hb dX7_answer_125 (by decide) ?_
    refine cSi (n := 2) (As := [.int (nI (SK x w)), .int (nI (1))]) (rest := [.ref (ql), .ref (a 0), .int (nI (SP x w))]) (X := (stW cA a x ++ [(ql, .inr (6, [.ref (qb), .int (nI ((trc (trc t 11) 10).1))])), (qb, .inl (cA 0, 16, arN ((trc (trc t 11) 10).2)))])) (pl := []) (wc := ([] : va_W)) (wr := (stW cA a x ++ [(ql, .inr (6, [.ref (qb), .int (nI ((trc (trc t 11) 10).1))])), (qb, .inl (cA 0, 16, arN ((trc (trc t 11) 10).2)))])) (w1 := ([] : va_W)) (wn := (stW cA a x ++ [(ql, .inr (6, [.ref (qb), .int (nI ((trc (trc t 11) 10).1))])), (qb, .inl (cA 0, 16, arN ((trc (trc t 11) 10).2)))])) (isC := []) (isR := [0, 1, 2, 3, 4, 5, 6, 7]) (isN := [0, 1, 2, 3, 4, 5, 6, 7]) ⟨hx, hb, hml, hown, hts⟩ (c_X7_firstBody l D cA tt (SK x w) 1 (by omega) (by omega) _) gX7_answer_X7_firstBody rfl (by decide +kernel) ⟨rfl, rfl⟩ ⟨Nat.le_of_ble_eq_true rfl, Nat.le_of_ble_eq_true rfl⟩ ⟨Nat.zero_le _, Nat.zero_le _⟩ hK hE hA hP hD hS ⟨⟨rfl, by decide⟩, ⟨rfl, by decide, by decide⟩, rfl, by decide⟩ rfl hl.1 rfl (Nat.le_of_ble_eq_true rfl) dX7_answer_126 (fun H locs hP hD hS => ?_)
    have hP : va_P D vwCl (stW cA a x ++ [(ql, .inr (6, [.ref (qb), .int (nI ((trc (trc t 11) 10).1))])), (qb, .inl (cA 0, 16, arN ((trc (trc t 11) 10).2)))]) H := hP
    have hD : va_D A (stW cA a x ++ [(ql, .inr (6, [.ref (qb), .int (nI ((trc (trc t 11) 10).1))])), (qb, .inl (cA 0, 16, arN ((trc (trc t 11) 10).2)))]) := hD
    refine vn_i (v := nI 24) (by rw [hk]; rfl) ?_
    refine lv_iload_n hx hb dX7_answer_129 rfl (lv_at hl 5 rfl) ?_
    refine lv_iload hx hb dX7_answer_130 (lv_at hl 1 rfl) ?_
    refine cSi (n := 5) (As := [.ref (a 0), .ref (ql), .int (nI (24)), .int (nI (w)), .int (nI (d + 1))]) (rest := [.int (nI (SP x w))]) (X := (stW cA a x ++ [(ql, .inr (6, [.ref (qb), .int (nI ((trc (trc t 11) 10).1))])), (qb, .inl (cA 0, 16, arN ((trc (trc t 11) 10).2)))])) (pl := []) (wc := (stW cA a x ++ [(ql, .inr (6, [.ref (qb), .int (nI ((trc (trc t 11) 10).1))])), (qb, .inl (cA 0, 16, arN ((trc (trc t 11) 10).2)))])) (wr := ([] : va_W)) (w1 := (stW cA a x ++ [(ql, .inr (6, [.ref (qb), .int (nI ((trc (trc (trc (trc (trc t 11) 10) 24) 21) 20).1))])), (qb, .inl (cA 0, 16, arN ((trc (trc (trc (trc (trc t 11) 10) 24) 21) 20).2)))])) (wn := (stW cA a x ++ [(ql, .inr (6, [.ref (qb), .int (nI ((trc (trc (trc (trc (trc t 11) 10) 24) 21) 20).1))])), (qb, .inl (cA 0, 16, arN ((trc (trc (trc (trc (trc t 11) 10) 24) 21) 20).2)))])) (isC := [0, 1, 2, 3, 4, 5, 6, 7]) (isR := []) (isN := [0, 1, 2, 3, 4, 5, 6, 7]) ⟨hx, hb, hml, hown, hts⟩ (c_X7_answer_24 l D cA tt a ql qb x (trc (trc t 11) 10) w (d + 1) (hg) (by first | assumption | (repeat' first | assumption | apply trc_le)) (hw) (by omega) _) gX7_answer_X7_answer rfl (by decide +kernel) ⟨rfl, rfl⟩ ⟨Nat.le_of_ble_eq_true rfl, Nat.le_of_ble_eq_true rfl⟩ ⟨Nat.zero_le _, Nat.zero_le _⟩ hK hE hA hP hD hS ⟨⟨rfl, by decide⟩, ⟨rfl, by decide, by decide⟩, rfl, by decide⟩ rfl hl.1 rfl (Nat.le_of_ble_eq_true rfl) dX7_answer_132 (fun H locs hP hD hS => ?_)
    have hP : va_P D vwCl (stW cA a x ++ [(ql, .inr (6, [.ref (qb), .int (nI ((trc (trc (trc (trc (trc t 11) 10) 24) 21) 20).1))])), (qb, .inl (cA 0, 16, arN ((trc (trc (trc (trc (trc t 11) 10) 24) 21) 20).2)))]) H := hP
    have hD : va_D A (stW cA a x ++ [(ql, .inr (6, [.ref (qb), .int (nI ((trc (trc (trc (trc (trc t 11) 10) 24) 21) 20).1))])), (qb, .inl (cA 0, 16, arN ((trc (trc (trc (trc (trc t 11) 10) 24) 21) 20).2)))]) := hD
    refine lv_iadd hx hb dX7_answer_135 ?_
    refine vn_i (v := nI (SP x w + (2 * (w + SG x w)))) (nI_add _ _) ?_
    exact hend _ _ _ _ _ hP hD hS (rfl) dX7_answer_136
  · skip
    rw [nI_leI (by omega) (by omega)] at c1
    omega
set_option maxRecDepth 100000 in
set_option maxHeartbeats 4000000 in
theorem c_X7_answer_11_3 (l : Launch) (D : va_G) (cA : Nat → ClassId) (tt : Nat → Nat) (a : Nat → Nat) (ql qb : Nat) (x : Sg) (t : Nat × (Nat → Nat)) (w d : Nat) (hg : Wk x) (ht : t.1 ≤ 16) (hw : w < Sn x) (hd : d ≤ 5) (hk : SK x w = 3) (sz : Nat) : Ci l D cA tt yX7_answer wsX7_answer ({ frames := 4, cells := 0, slots := 0, locals := 99 } : Room) [.ref (a 0), .ref (ql), .int (nI (11)), .int (nI (w)), .int (nI (d))] sz (stW cA a x ++ [(ql, .inr (6, [.ref (qb), .int (nI (t.1))])), (qb, .inl (cA 0, 16, arN t.2))]) (stW cA a x ++ [(ql, .inr (6, [.ref (qb), .int (nI ((trc (trc (trc (trc (trc t 11) 10) 22) 21) 20).1))])), (qb, .inl (cA 0, 16, arN ((trc (trc (trc (trc (trc t 11) 10) 22) 21) 20).2)))]) (nI (SP x w) + (nI (w + SG x w) - nI 1000)) := by
  have hw10 : w < 10 := Nat.lt_of_lt_of_le hw hg.1
  have gw := hg.2.2.2.2 w hw
  refine Ci.mk (cc := cX7_answer) (maxL := 7) (ty := .int) (by decide) rfl rfl (Nat.le_of_ble_eq_true rfl) ?_
  intro p e s m below meth c A Q ls hB hl hend
  obtain ⟨⟨hx, hb, hml, hown, hts⟩, hP, hK, hD, hS, hA, hE⟩ := hB
  have hown : s.vm.findClass RX7 = some m.cls := hown
  have hwsX40 : ∀ w9 ∈ wsX40, w9.before ([.ref (a 0), .ref (ql), .int (nI (11)), .int (nI (w)), .int (nI (d))] : List Value).toArray s = true := fun w9 h => hts w9 (List.mem_cons_of_mem _ (List.mem_append_left _ (List.mem_append_right _ h)))
  have hwsX60 : ∀ w9 ∈ wsX60, w9.before ([.ref (a 0), .ref (ql), .int (nI (11)), .int (nI (w)), .int (nI (d))] : List Value).toArray s = true := fun w9 h => hts w9 (List.mem_cons_of_mem _ (List.mem_append_right _ h))
  have hl : lv_has ls 7 [(0, .ref (a 0)), (1, .ref (ql)), (2, .int (nI (11))), (3, .int (nI (w))), (4, .int (nI (d)))] := hl
  refine lv_iload hx hb dX7_answer_0 (lv_at hl 4 rfl) ?_
  refine lv_bipush (v := nI (8)) hx hb dX7_answer_2 (by decide) ?_
  refine lv_icmp_le (tgt := 9) hx hb dX7_answer_4 (by decide) (fun c1 => ?_) (fun c1 => ?_)
  · skip
    rw [nI_leI (by omega) (by omega)] at c1
    refine lv_aload_n hx hb dX7_answer_9 rfl (lv_at hl 1 rfl) ?_
    refine lv_iload_n hx hb dX7_answer_10 rfl (lv_at hl 2 rfl) ?_
    refine cVv (n := 1) (As := [.int (nI (11))]) (rest := []) (C := RX6) (ci := 6) (q0 := 0) (X := (stW cA a x ++ [(ql, .inr (6, [.ref (qb), .int (nI (t.1))])), (qb, .inl (cA 0, 16, arN t.2))])) (pl := []) (wc := [(ql, .inr (6, [.ref (qb), .int (nI (t.1))])), (qb, .inl (cA 0, 16, arN t.2))]) (wr := (stW cA a x)) (w1 := [(ql, .inr (6, [.ref (qb), .int (nI ((trc t 11).1))])), (qb, .inl (cA 0, 16, arN ((trc t 11).2)))]) (wn := (stW cA a x ++ [(ql, .inr (6, [.ref (qb), .int (nI ((trc t 11).1))])), (qb, .inl (cA 0, 16, arN ((trc t 11).2)))])) (isC := [6, 7]) (isR := [0, 1, 2, 3, 4, 5]) (isN := [0, 1, 2, 3, 4, 5, 6, 7]) ⟨hx, hb, hml, hown, hts⟩ (c_X6_add l D cA tt ql qb t 11 (by first | assumption | (repeat' first | assumption | apply trc_le)) _) gX7_answer_X6_add rfl (by decide +kernel) rfl rfl ⟨rfl, rfl⟩ ⟨Nat.le_of_ble_eq_true rfl, Nat.le_of_ble_eq_true rfl⟩ ⟨Nat.zero_le _, Nat.zero_le _⟩ hK hE hA hP hD hS ⟨⟨rfl, by decide⟩, ⟨rfl, by decide, by decide⟩, rfl, by decide⟩ rfl hl.1 rfl (Nat.le_of_ble_eq_true rfl) dX7_answer_11 (fun H locs hP hD hS => ?_)
    have hP : va_P D vwCl (stW cA a x ++ [(ql, .inr (6, [.ref (qb), .int (nI ((trc t 11).1))])), (qb, .inl (cA 0, 16, arN ((trc t 11).2)))]) H := hP
    have hD : va_D A (stW cA a x ++ [(ql, .inr (6, [.ref (qb), .int (nI ((trc t 11).1))])), (qb, .inl (cA 0, 16, arN ((trc t 11).2)))]) := hD
    refine lv_iload hx hb dX7_answer_14 (lv_at hl 4 rfl) ?_
    refine lv_iconst (v := nI (1)) hx hb dX7_answer_16 (by decide) ?_
    refine lv_iadd hx hb dX7_answer_17 ?_
    refine vn_i (v := nI (d + 1)) (nI_add _ _) ?_
    refine lv_istore (lv' := [(5, .int (nI (d + 1))), (0, .ref (a 0)), (1, .ref (ql)), (2, .int (nI (11))), (3, .int (nI (w))), (4, .int (nI (d)))]) hx hb dX7_answer_18 hl (by decide) rfl (fun ls hl => ?_)
    refine lv_aload_n hx hb dX7_answer_20 rfl (lv_at hl 1 rfl) ?_
    refine va_getN (v := .ref (a 1)) (Ts := wsX40) (C := RX4) (T := TX4) (N := 10) hx hb hwsX40 (fun _ h => h) hown hK hP 0 rfl rfl 0 (by decide) (hE.1.f (q := ("AdventStreets", 280, "AdventStreets$Street", "kinds", "[I")) 9 rfl) (fun _ h9 => h9) rfl dX7_answer_21 ?_
    refine lv_iload_n hx hb dX7_answer_24 rfl (lv_at hl 4 rfl) ?_
    refine r_ald (f := SK x) hx hb hK hP 1 rfl (i := w) (by omega) (Nat.lt_of_lt_of_le (by omega : 10 < 1073741824) (by decide)) dX7_answer_25 ?_
    refine lv_istore (lv' := [(6, .int (nI (SK x w))), (5, .int (nI (d + 1))), (0, .ref (a 0)), (1, .ref (ql)), (2, .int (nI (11))), (3, .int (nI (w))), (4, .int (nI (d)))]) hx hb dX7_answer_26 hl (by decide) rfl (fun ls hl => ?_)
    refine lv_iload_n hx hb dX7_answer_28 rfl (lv_at hl 4 rfl) ?_
    refine lv_tableIn (off := 82) (tgt := 111) hx hb dX7_answer_29 (by decide +kernel) (by decide +kernel) (by decide +kernel) (by decide) ?_
    refine lv_aload_n hx hb dX7_answer_111 rfl (lv_at hl 2 rfl) ?_
    refine lv_aload_n hx hb dX7_answer_112 rfl (lv_at hl 3 rfl) ?_
    refine lv_bipush (v := nI (10)) hx hb dX7_answer_113 (by decide) ?_
    refine lv_iload_n hx hb dX7_answer_115 rfl (lv_at hl 5 rfl) ?_
    refine lv_iload hx hb dX7_answer_116 (lv_at hl 1 rfl) ?_
    refine cSi (n := 5) (As := [.ref (a 0), .ref (ql), .int (nI (10)), .int (nI (w)), .int (nI (d + 1))]) (rest := []) (X := (stW cA a x ++ [(ql, .inr (6, [.ref (qb), .int (nI ((trc t 11).1))])), (qb, .inl (cA 0, 16, arN ((trc t 11).2)))])) (pl := []) (wc := (stW cA a x ++ [(ql, .inr (6, [.ref (qb), .int (nI ((trc t 11).1))])), (qb, .inl (cA 0, 16, arN ((trc t 11).2)))])) (wr := ([] : va_W)) (w1 := (stW cA a x ++ [(ql, .inr (6, [.ref (qb), .int (nI ((trc (trc t 11) 10).1))])), (qb, .inl (cA 0, 16, arN ((trc (trc t 11) 10).2)))])) (wn := (stW cA a x ++ [(ql, .inr (6, [.ref (qb), .int (nI ((trc (trc t 11) 10).1))])), (qb, .inl (cA 0, 16, arN ((trc (trc t 11) 10).2)))])) (isC := [0, 1, 2, 3, 4, 5, 6, 7]) (isR := []) (isN := [0, 1, 2, 3, 4, 5, 6, 7]) ⟨hx, hb, hml, hown, hts⟩ (c_X7_answer_10 l D cA tt a ql qb x (trc t 11) w (d + 1) (hg) (by first | assumption | (repeat' first | assumption | apply trc_le)) (hw) (by omega) _) gX7_answer_X7_answer rfl (by decide +kernel) ⟨rfl, rfl⟩ ⟨Nat.le_of_ble_eq_true rfl, Nat.le_of_ble_eq_true rfl⟩ ⟨Nat.zero_le _, Nat.zero_le _⟩ hK hE hA hP hD hS ⟨⟨rfl, by decide⟩, ⟨rfl, by decide, by decide⟩, rfl, by decide⟩ rfl hl.1 rfl (Nat.le_of_ble_eq_true rfl) dX7_answer_118 (fun H locs hP hD hS => ?_)
    have hP : va_P D vwCl (stW cA a x ++ [(ql, .inr (6, [.ref (qb), .int (nI ((trc (trc t 11) 10).1))])), (qb, .inl (cA 0, 16, arN ((trc (trc t 11) 10).2)))]) H := hP
    have hD : va_D A (stW cA a x ++ [(ql, .inr (6, [.ref (qb), .int (nI ((trc (trc t 11) 10).1))])), (qb, .inl (cA 0, 16, arN ((trc (trc t 11) 10).2)))]) := hD
    refine lv_aload_n hx hb dX7_answer_121 rfl (lv_at hl 2 rfl) ?_
    refine lv_aload_n hx hb dX7_answer_122 rfl (lv_at hl 3 rfl) ?_
    refine lv_iload hx hb dX7_answer_123 (lv_at hl 0 rfl) ?_
    refine lv_iconst (v := nI (1)) hx hb dX7_answer_125 (by decide) ?_
    refine cSi (n := 2) (As := [.int (nI (SK x w)), .int (nI (1))]) (rest := [.ref (ql), .ref (a 0), .int (nI (SP x w))]) (X := (stW cA a x ++ [(ql, .inr (6, [.ref (qb), .int (nI ((trc (trc t 11) 10).1))])), (qb, .inl (cA 0, 16, arN ((trc (trc t 11) 10).2)))])) (pl := []) (wc := ([] : va_W)) (wr := (stW cA a x ++ [(ql, .inr (6, [.ref (qb), .int (nI ((trc (trc t 11) 10).1))])), (qb, .inl (cA 0, 16, arN ((trc (trc t 11) 10).2)))])) (w1 := ([] : va_W)) (wn := (stW cA a x ++ [(ql, .inr (6, [.ref (qb), .int (nI ((trc (trc t 11) 10).1))])), (qb, .inl (cA 0, 16, arN ((trc (trc t 11) 10).2)))])) (isC := []) (isR := [0, 1, 2, 3, 4, 5, 6, 7]) (isN := [0, 1, 2, 3, 4, 5, 6, 7]) ⟨hx, hb, hml, hown, hts⟩ (c_X7_firstBody l D cA tt (SK x w) 1 (by omega) (by omega) _) gX7_answer_X7_firstBody rfl (by decide +kernel) ⟨rfl, rfl⟩ ⟨Nat.le_of_ble_eq_true rfl, Nat.le_of_ble_eq_true rfl⟩ ⟨Nat.zero_le _, Nat.zero_le _⟩ hK hE hA hP hD hS ⟨⟨rfl, by decide⟩, ⟨rfl, by decide, by decide⟩, rfl, by decide⟩ rfl hl.1 rfl (Nat.le_of_ble_eq_true rfl) dX7_answer_126 (fun H locs hP hD hS => ?_)
    have hP : va_P D vwCl (stW cA a x ++ [(ql, .inr (6, [.ref (qb), .int (nI ((trc (trc t 11) 10).1))])), (qb, .inl (cA 0, 16, arN ((trc (trc t 11) 10).2)))]) H := hP
    have hD : va_D A (stW cA a x ++ [(ql, .inr (6, [.ref (qb), .int (nI ((trc (trc t 11) 10).1))])), (qb, .inl (cA 0, 16, arN ((trc (trc t 11) 10).2)))]) := hD
    refine vn_i (v := nI 22) (by rw [hk]; rfl) ?_
    refine lv_iload_n hx hb dX7_answer_129 rfl (lv_at hl 5 rfl) ?_
    refine lv_iload hx hb dX7_answer_130 (lv_at hl 1 rfl) ?_
    refine cSi (n := 5) (As := [.ref (a 0), .ref (ql), .int (nI (22)), .int (nI (w)), .int (nI (d + 1))]) (rest := [.int (nI (SP x w))]) (X := (stW cA a x ++ [(ql, .inr (6, [.ref (qb), .int (nI ((trc (trc t 11) 10).1))])), (qb, .inl (cA 0, 16, arN ((trc (trc t 11) 10).2)))])) (pl := []) (wc := (stW cA a x ++ [(ql, .inr (6, [.ref (qb), .int (nI ((trc (trc t 11) 10).1))])), (qb, .inl (cA 0, 16, arN ((trc (trc t 11) 10).2)))])) (wr := ([] : va_W)) (w1 := (stW cA a x ++ [(ql, .inr (6, [.ref (qb), .int (nI ((trc (trc (trc (trc (trc t 11) 10) 22) 21) 20).1))])), (qb, .inl (cA 0, 16, arN ((trc (trc (trc (trc (trc t 11) 10) 22) 21) 20).2)))])) (wn := (stW cA a x ++ [(ql, .inr (6, [.ref (qb), .int (nI ((trc (trc (trc (trc (trc t 11) 10) 22) 21) 20).1))])), (qb, .inl (cA 0, 16, arN ((trc (trc (trc (trc (trc t 11) 10) 22) 21) 20).2)))])) (isC := [0, 1, 2, 3, 4, 5, 6, 7]) (isR := []) (isN := [0, 1, 2, 3, 4, 5, 6, 7]) ⟨hx, hb, hml, hown, hts⟩ (c_X7_answer_22 l D cA tt a ql qb x (trc (trc t 11) 10) w (d + 1) (hg) (by first | assumption | (repeat' first | assumption | apply trc_le)) (hw) (by omega) _) gX7_answer_X7_answer rfl (by decide +kernel) ⟨rfl, rfl⟩ ⟨Nat.le_of_ble_eq_true rfl, Nat.le_of_ble_eq_true rfl⟩ ⟨Nat.zero_le _, Nat.zero_le _⟩ hK hE hA hP hD hS ⟨⟨rfl, by decide⟩, ⟨rfl, by decide, by decide⟩, rfl, by decide⟩ rfl hl.1 rfl (Nat.le_of_ble_eq_true rfl) dX7_answer_132 (fun H locs hP hD hS => ?_)
    have hP : va_P D vwCl (stW cA a x ++ [(ql, .inr (6, [.ref (qb), .int (nI ((trc (trc (trc (trc (trc t 11) 10) 22) 21) 20).1))])), (qb, .inl (cA 0, 16, arN ((trc (trc (trc (trc (trc t 11) 10) 22) 21) 20).2)))]) H := hP
    have hD : va_D A (stW cA a x ++ [(ql, .inr (6, [.ref (qb), .int (nI ((trc (trc (trc (trc (trc t 11) 10) 22) 21) 20).1))])), (qb, .inl (cA 0, 16, arN ((trc (trc (trc (trc (trc t 11) 10) 22) 21) 20).2)))]) := hD
    refine lv_iadd hx hb dX7_answer_135 ?_
    exact hend _ _ _ _ _ hP hD hS (by simp [c1]) dX7_answer_136
  · skip
    rw [nI_leI (by omega) (by omega)] at c1
    omega
set_option maxRecDepth 100000 in
set_option maxHeartbeats 4000000 in
theorem c_X7_answer_12 (l : Launch) (D : va_G) (cA : Nat → ClassId) (tt : Nat → Nat) (a : Nat → Nat) (ql qb : Nat) (x : Sg) (t : Nat × (Nat → Nat)) (w d : Nat) (hg : Wk x) (ht : t.1 ≤ 16) (hw : w < Sn x) (hd : d ≤ 4) (hk : SK x w = 2) (sz : Nat) : Ci l D cA tt yX7_answer wsX7_answer ({ frames := 5, cells := 0, slots := 0, locals := 125 } : Room) [.ref (a 0), .ref (ql), .int (nI (12)), .int (nI (w)), .int (nI (d))] sz (stW cA a x ++ [(ql, .inr (6, [.ref (qb), .int (nI (t.1))])), (qb, .inl (cA 0, 16, arN t.2))]) (stW cA a x ++ [(ql, .inr (6, [.ref (qb), .int (nI ((trc (trc (trc (trc (trc (trc t 12) 11) 10) 24) 21) 20).1))])), (qb, .inl (cA 0, 16, arN ((trc (trc (trc (trc (trc (trc t 12) 11) 10) 24) 21) 20).2)))]) (-(nI (SP x w + (2 * (w + SG x w))))) := by
  have hw10 : w < 10 := Nat.lt_of_lt_of_le hw hg.1
  have gw := hg.2.2.2.2 w hw
  refine Ci.mk (cc := cX7_answer) (maxL := 7) (ty := .int) (by decide) rfl rfl (Nat.le_of_ble_eq_true rfl) ?_
  intro p e s m below meth c A Q ls hB hl hend
  obtain ⟨⟨hx, hb, hml, hown, hts⟩, hP, hK, hD, hS, hA, hE⟩ := hB
  have hown : s.vm.findClass RX7 = some m.cls := hown
  have hwsX40 : ∀ w9 ∈ wsX40, w9.before ([.ref (a 0), .ref (ql), .int (nI (12)), .int (nI (w)), .int (nI (d))] : List Value).toArray s = true := fun w9 h => hts w9 (List.mem_cons_of_mem _ (List.mem_append_left _ (List.mem_append_right _ h)))
  have hwsX60 : ∀ w9 ∈ wsX60, w9.before ([.ref (a 0), .ref (ql), .int (nI (12)), .int (nI (w)), .int (nI (d))] : List Value).toArray s = true := fun w9 h => hts w9 (List.mem_cons_of_mem _ (List.mem_append_right _ h))
  have hl : lv_has ls 7 [(0, .ref (a 0)), (1, .ref (ql)), (2, .int (nI (12))), (3, .int (nI (w))), (4, .int (nI (d)))] := hl
  refine lv_iload hx hb dX7_answer_0 (lv_at hl 4 rfl) ?_
  refine lv_bipush (v := nI (8)) hx hb dX7_answer_2 (by decide) ?_
  refine lv_icmp_le (tgt := 9) hx hb dX7_answer_4 (by decide) (fun c1 => ?_) (fun c1 => ?_)
  · skip
    rw [nI_leI (by omega) (by omega)] at c1
    refine lv_aload_n hx hb dX7_answer_9 rfl (lv_at hl 1 rfl) ?_
    refine lv_iload_n hx hb dX7_answer_10 rfl (lv_at hl 2 rfl) ?_
    refine cVv (n := 1) (As := [.int (nI (12))]) (rest := []) (C := RX6) (ci := 6) (q0 := 0) (X := (stW cA a x ++ [(ql, .inr (6, [.ref (qb), .int (nI (t.1))])), (qb, .inl (cA 0, 16, arN t.2))])) (pl := []) (wc := [(ql, .inr (6, [.ref (qb), .int (nI (t.1))])), (qb, .inl (cA 0, 16, arN t.2))]) (wr := (stW cA a x)) (w1 := [(ql, .inr (6, [.ref (qb), .int (nI ((trc t 12).1))])), (qb, .inl (cA 0, 16, arN ((trc t 12).2)))]) (wn := (stW cA a x ++ [(ql, .inr (6, [.ref (qb), .int (nI ((trc t 12).1))])), (qb, .inl (cA 0, 16, arN ((trc t 12).2)))])) (isC := [6, 7]) (isR := [0, 1, 2, 3, 4, 5]) (isN := [0, 1, 2, 3, 4, 5, 6, 7]) ⟨hx, hb, hml, hown, hts⟩ (c_X6_add l D cA tt ql qb t 12 (by first | assumption | (repeat' first | assumption | apply trc_le)) _) gX7_answer_X6_add rfl (by decide +kernel) rfl rfl ⟨rfl, rfl⟩ ⟨Nat.le_of_ble_eq_true rfl, Nat.le_of_ble_eq_true rfl⟩ ⟨Nat.zero_le _, Nat.zero_le _⟩ hK hE hA hP hD hS ⟨⟨rfl, by decide⟩, ⟨rfl, by decide, by decide⟩, rfl, by decide⟩ rfl hl.1 rfl (Nat.le_of_ble_eq_true rfl) dX7_answer_11 (fun H locs hP hD hS => ?_)
    have hP : va_P D vwCl (stW cA a x ++ [(ql, .inr (6, [.ref (qb), .int (nI ((trc t 12).1))])), (qb, .inl (cA 0, 16, arN ((trc t 12).2)))]) H := hP
    have hD : va_D A (stW cA a x ++ [(ql, .inr (6, [.ref (qb), .int (nI ((trc t 12).1))])), (qb, .inl (cA 0, 16, arN ((trc t 12).2)))]) := hD
    refine lv_iload hx hb dX7_answer_14 (lv_at hl 4 rfl) ?_
    refine lv_iconst (v := nI (1)) hx hb dX7_answer_16 (by decide) ?_
    refine lv_iadd hx hb dX7_answer_17 ?_
    refine vn_i (v := nI (d + 1)) (nI_add _ _) ?_
    refine lv_istore (lv' := [(5, .int (nI (d + 1))), (0, .ref (a 0)), (1, .ref (ql)), (2, .int (nI (12))), (3, .int (nI (w))), (4, .int (nI (d)))]) hx hb dX7_answer_18 hl (by decide) rfl (fun ls hl => ?_)
    refine lv_aload_n hx hb dX7_answer_20 rfl (lv_at hl 1 rfl) ?_
    refine va_getN (v := .ref (a 1)) (Ts := wsX40) (C := RX4) (T := TX4) (N := 10) hx hb hwsX40 (fun _ h => h) hown hK hP 0 rfl rfl 0 (by decide) (hE.1.f (q := ("AdventStreets", 280, "AdventStreets$Street", "kinds", "[I")) 9 rfl) (fun _ h9 => h9) rfl dX7_answer_21 ?_
    refine lv_iload_n hx hb dX7_answer_24 rfl (lv_at hl 4 rfl) ?_
    refine r_ald (f := SK x) hx hb hK hP 1 rfl (i := w) (by omega) (Nat.lt_of_lt_of_le (by omega : 10 < 1073741824) (by decide)) dX7_answer_25 ?_
    refine lv_istore (lv' := [(6, .int (nI (SK x w))), (5, .int (nI (d + 1))), (0, .ref (a 0)), (1, .ref (ql)), (2, .int (nI (12))), (3, .int (nI (w))), (4, .int (nI (d)))]) hx hb dX7_answer_26 hl (by decide) rfl (fun ls hl => ?_)
    refine lv_iload_n hx hb dX7_answer_28 rfl (lv_at hl 4 rfl) ?_
    refine lv_tableIn (off := 108) (tgt := 137) hx hb dX7_answer_29 (by decide +kernel) (by decide +kernel) (by decide +kernel) (by decide) ?_
    refine lv_aload_n hx hb dX7_answer_137 rfl (lv_at hl 2 rfl) ?_
    refine lv_aload_n hx hb dX7_answer_138 rfl (lv_at hl 3 rfl) ?_
    refine lv_bipush (v := nI (11)) hx hb dX7_answer_139 (by decide) ?_
    refine lv_iload_n hx hb dX7_answer_141 rfl (lv_at hl 5 rfl) ?_
    refine lv_iload hx hb dX7_answer_142 (lv_at hl 1 rfl) ?_
    refine cSi (n := 5) (As := [.ref (a 0), .ref (ql), .int (nI (11)), .int (nI (w)), .int (nI (d + 1))]) (rest := []) (X := (stW cA a x ++ [(ql, .inr (6, [.ref (qb), .int (nI ((trc t 12).1))])), (qb, .inl (cA 0, 16, arN ((trc t 12).2)))])) (pl := []) (wc := (stW cA a x ++ [(ql, .inr (6, [.ref (qb), .int (nI ((trc t 12).1))])), (qb, .inl (cA 0, 16, arN ((trc t 12).2)))])) (wr := ([] : va_W)) (w1 := (stW cA a x ++ [(ql, .inr (6, [.ref (qb), .int (nI ((trc (trc (trc (trc (trc (trc t 12) 11) 10) 24) 21) 20).1))])), (qb, .inl (cA 0, 16, arN ((trc (trc (trc (trc (trc (trc t 12) 11) 10) 24) 21) 20).2)))])) (wn := (stW cA a x ++ [(ql, .inr (6, [.ref (qb), .int (nI ((trc (trc (trc (trc (trc (trc t 12) 11) 10) 24) 21) 20).1))])), (qb, .inl (cA 0, 16, arN ((trc (trc (trc (trc (trc (trc t 12) 11) 10) 24) 21) 20).2)))])) (isC := [0, 1, 2, 3, 4, 5, 6, 7]) (isR := []) (isN := [0, 1, 2, 3, 4, 5, 6, 7]) ⟨hx, hb, hml, hown, hts⟩ (c_X7_answer_11_2 l D cA tt a ql qb x (trc t 12) w (d + 1) (hg) (by first | assumption | (repeat' first | assumption | apply trc_le)) (hw) (by omega) (hk) _) gX7_answer_X7_answer rfl (by decide +kernel) ⟨rfl, rfl⟩ ⟨Nat.le_of_ble_eq_true rfl, Nat.le_of_ble_eq_true rfl⟩ ⟨Nat.zero_le _, Nat.zero_le _⟩ hK hE hA hP hD hS ⟨⟨rfl, by decide⟩, ⟨rfl, by decide, by decide⟩, rfl, by decide⟩ rfl hl.1 rfl (Nat.le_of_ble_eq_true rfl) dX7_answer_144 (fun H locs hP hD hS => ?_)
    have hP : va_P D vwCl (stW cA a x ++ [(ql, .inr (6, [.ref (qb), .int (nI ((trc (trc (trc (trc (trc (trc t 12) 11) 10) 24) 21) 20).1))])), (qb, .inl (cA 0, 16, arN ((trc (trc (trc (trc (trc (trc t 12) 11) 10) 24) 21) 20).2)))]) H := hP
    have hD : va_D A (stW cA a x ++ [(ql, .inr (6, [.ref (qb), .int (nI ((trc (trc (trc (trc (trc (trc t 12) 11) 10) 24) 21) 20).1))])), (qb, .inl (cA 0, 16, arN ((trc (trc (trc (trc (trc (trc t 12) 11) 10) 24) 21) 20).2)))]) := hD
    refine lv_ineg hx hb dX7_answer_147 ?_
    exact hend _ _ _ _ _ hP hD hS (rfl) dX7_answer_148
  · skip
    rw [nI_leI (by omega) (by omega)] at c1
    omega
set_option maxRecDepth 100000 in
set_option maxHeartbeats 4000000 in
theorem c_X7_answer_23_4 (l : Launch) (D : va_G) (cA : Nat → ClassId) (tt : Nat → Nat) (a : Nat → Nat) (ql qb : Nat) (x : Sg) (t : Nat × (Nat → Nat)) (w d : Nat) (hg : Wk x) (ht : t.1 ≤ 16) (hw : w < Sn x) (hd : d ≤ 5) (hk : SK x w = 4) (sz : Nat) : Ci l D cA tt yX7_answer wsX7_answer ({ frames := 3, cells := 0, slots := 0, locals := 73 } : Room) [.ref (a 0), .ref (ql), .int (nI (23)), .int (nI (w)), .int (nI (d))] sz (stW cA a x ++ [(ql, .inr (6, [.ref (qb), .int (nI (t.1))])), (qb, .inl (cA 0, 16, arN t.2))]) (stW cA a x ++ [(ql, .inr (6, [.ref (qb), .int (nI ((trc (trc (trc (trc t 23) 20) 13) 10).1))])), (qb, .inl (cA 0, 16, arN ((trc (trc (trc (trc t 23) 20) 13) 10).2)))]) (nI w - (nI (SP x w) - nI 100)) := by
  have hw10 : w < 10 := Nat.lt_of_lt_of_le hw hg.1
  have gw := hg.2.2.2.2 w hw
  refine Ci.mk (cc := cX7_answer) (maxL := 7) (ty := .int) (by decide) rfl rfl (Nat.le_of_ble_eq_true rfl) ?_
  intro p e s m below meth c A Q ls hB hl hend
  obtain ⟨⟨hx, hb, hml, hown, hts⟩, hP, hK, hD, hS, hA, hE⟩ := hB
  have hown : s.vm.findClass RX7 = some m.cls := hown
  have hwsX40 : ∀ w9 ∈ wsX40, w9.before ([.ref (a 0), .ref (ql), .int (nI (23)), .int (nI (w)), .int (nI (d))] : List Value).toArray s = true := fun w9 h => hts w9 (List.mem_cons_of_mem _ (List.mem_append_left _ (List.mem_append_right _ h)))
  have hwsX60 : ∀ w9 ∈ wsX60, w9.before ([.ref (a 0), .ref (ql), .int (nI (23)), .int (nI (w)), .int (nI (d))] : List Value).toArray s = true := fun w9 h => hts w9 (List.mem_cons_of_mem _ (List.mem_append_right _ h))
  have hl : lv_has ls 7 [(0, .ref (a 0)), (1, .ref (ql)), (2, .int (nI (23))), (3, .int (nI (w))), (4, .int (nI (d)))] := hl
  refine lv_iload hx hb dX7_answer_0 (lv_at hl 4 rfl) ?_
  refine lv_bipush (v := nI (8)) hx hb dX7_answer_2 (by decide) ?_
  refine lv_icmp_le (tgt := 9) hx hb dX7_answer_4 (by decide) (fun c1 => ?_) (fun c1 => ?_)
  · skip
    rw [nI_leI (by omega) (by omega)] at c1
    refine lv_aload_n hx hb dX7_answer_9 rfl (lv_at hl 1 rfl) ?_
    refine lv_iload_n hx hb dX7_answer_10 rfl (lv_at hl 2 rfl) ?_
    refine cVv (n := 1) (As := [.int (nI (23))]) (rest := []) (C := RX6) (ci := 6) (q0 := 0) (X := (stW cA a x ++ [(ql, .inr (6, [.ref (qb), .int (nI (t.1))])), (qb, .inl (cA 0, 16, arN t.2))])) (pl := []) (wc := [(ql, .inr (6, [.ref (qb), .int (nI (t.1))])), (qb, .inl (cA 0, 16, arN t.2))]) (wr := (stW cA a x)) (w1 := [(ql, .inr (6, [.ref (qb), .int (nI ((trc t 23).1))])), (qb, .inl (cA 0, 16, arN ((trc t 23).2)))]) (wn := (stW cA a x ++ [(ql, .inr (6, [.ref (qb), .int (nI ((trc t 23).1))])), (qb, .inl (cA 0, 16, arN ((trc t 23).2)))])) (isC := [6, 7]) (isR := [0, 1, 2, 3, 4, 5]) (isN := [0, 1, 2, 3, 4, 5, 6, 7]) ⟨hx, hb, hml, hown, hts⟩ (c_X6_add l D cA tt ql qb t 23 (by first | assumption | (repeat' first | assumption | apply trc_le)) _) gX7_answer_X6_add rfl (by decide +kernel) rfl rfl ⟨rfl, rfl⟩ ⟨Nat.le_of_ble_eq_true rfl, Nat.le_of_ble_eq_true rfl⟩ ⟨Nat.zero_le _, Nat.zero_le _⟩ hK hE hA hP hD hS ⟨⟨rfl, by decide⟩, ⟨rfl, by decide, by decide⟩, rfl, by decide⟩ rfl hl.1 rfl (Nat.le_of_ble_eq_true rfl) dX7_answer_11 (fun H locs hP hD hS => ?_)
    have hP : va_P D vwCl (stW cA a x ++ [(ql, .inr (6, [.ref (qb), .int (nI ((trc t 23).1))])), (qb, .inl (cA 0, 16, arN ((trc t 23).2)))]) H := hP
    have hD : va_D A (stW cA a x ++ [(ql, .inr (6, [.ref (qb), .int (nI ((trc t 23).1))])), (qb, .inl (cA 0, 16, arN ((trc t 23).2)))]) := hD
    refine lv_iload hx hb dX7_answer_14 (lv_at hl 4 rfl) ?_
    refine lv_iconst (v := nI (1)) hx hb dX7_answer_16 (by decide) ?_
    refine lv_iadd hx hb dX7_answer_17 ?_
    refine vn_i (v := nI (d + 1)) (nI_add _ _) ?_
    refine lv_istore (lv' := [(5, .int (nI (d + 1))), (0, .ref (a 0)), (1, .ref (ql)), (2, .int (nI (23))), (3, .int (nI (w))), (4, .int (nI (d)))]) hx hb dX7_answer_18 hl (by decide) rfl (fun ls hl => ?_)
    refine lv_aload_n hx hb dX7_answer_20 rfl (lv_at hl 1 rfl) ?_
    refine va_getN (v := .ref (a 1)) (Ts := wsX40) (C := RX4) (T := TX4) (N := 10) hx hb hwsX40 (fun _ h => h) hown hK hP 0 rfl rfl 0 (by decide) (hE.1.f (q := ("AdventStreets", 280, "AdventStreets$Street", "kinds", "[I")) 9 rfl) (fun _ h9 => h9) rfl dX7_answer_21 ?_
    refine lv_iload_n hx hb dX7_answer_24 rfl (lv_at hl 4 rfl) ?_
    refine r_ald (f := SK x) hx hb hK hP 1 rfl (i := w) (by omega) (Nat.lt_of_lt_of_le (by omega : 10 < 1073741824) (by decide)) dX7_answer_25 ?_
    refine lv_istore (lv' := [(6, .int (nI (SK x w))), (5, .int (nI (d + 1))), (0, .ref (a 0)), (1, .ref (ql)), (2, .int (nI (23))), (3, .int (nI (w))), (4, .int (nI (d)))]) hx hb dX7_answer_26 hl (by decide) rfl (fun ls hl => ?_)
    refine lv_iload_n hx hb dX7_answer_28 rfl (lv_at hl 4 rfl) ?_
    refine lv_tableIn (off := 182) (tgt := 211) hx hb dX7_answer_29 (by decide +kernel) (by decide +kernel) (by decide +kernel) (by decide) ?_
    refine lv_aload_n hx hb dX7_answer_211 rfl (lv_at hl 2 rfl) ?_
    refine lv_aload_n hx hb dX7_answer_212 rfl (lv_at hl 3 rfl) ?_
    refine lv_bipush (v := nI (20)) hx hb dX7_answer_213 (by decide) ?_
    refine lv_iload_n hx hb dX7_answer_215 rfl (lv_at hl 5 rfl) ?_
    refine lv_iload hx hb dX7_answer_216 (lv_at hl 1 rfl) ?_
    refine cSi (n := 5) (As := [.ref (a 0), .ref (ql), .int (nI (20)), .int (nI (w)), .int (nI (d + 1))]) (rest := []) (X := (stW cA a x ++ [(ql, .inr (6, [.ref (qb), .int (nI ((trc t 23).1))])), (qb, .inl (cA 0, 16, arN ((trc t 23).2)))])) (pl := []) (wc := (stW cA a x ++ [(ql, .inr (6, [.ref (qb), .int (nI ((trc t 23).1))])), (qb, .inl (cA 0, 16, arN ((trc t 23).2)))])) (wr := ([] : va_W)) (w1 := (stW cA a x ++ [(ql, .inr (6, [.ref (qb), .int (nI ((trc (trc t 23) 20).1))])), (qb, .inl (cA 0, 16, arN ((trc (trc t 23) 20).2)))])) (wn := (stW cA a x ++ [(ql, .inr (6, [.ref (qb), .int (nI ((trc (trc t 23) 20).1))])), (qb, .inl (cA 0, 16, arN ((trc (trc t 23) 20).2)))])) (isC := [0, 1, 2, 3, 4, 5, 6, 7]) (isR := []) (isN := [0, 1, 2, 3, 4, 5, 6, 7]) ⟨hx, hb, hml, hown, hts⟩ (c_X7_answer_20 l D cA tt a ql qb x (trc t 23) w (d + 1) (hg) (by first | assumption | (repeat' first | assumption | apply trc_le)) (hw) (by omega) _) gX7_answer_X7_answer rfl (by decide +kernel) ⟨rfl, rfl⟩ ⟨Nat.le_of_ble_eq_true rfl, Nat.le_of_ble_eq_true rfl⟩ ⟨Nat.zero_le _, Nat.zero_le _⟩ hK hE hA hP hD hS ⟨⟨rfl, by decide⟩, ⟨rfl, by decide, by decide⟩, rfl, by decide⟩ rfl hl.1 rfl (Nat.le_of_ble_eq_true rfl) dX7_answer_218 (fun H locs hP hD hS => ?_)
    have hP : va_P D vwCl (stW cA a x ++ [(ql, .inr (6, [.ref (qb), .int (nI ((trc (trc t 23) 20).1))])), (qb, .inl (cA 0, 16, arN ((trc (trc t 23) 20).2)))]) H := hP
    have hD : va_D A (stW cA a x ++ [(ql, .inr (6, [.ref (qb), .int (nI ((trc (trc t 23) 20).1))])), (qb, .inl (cA 0, 16, arN ((trc (trc t 23) 20).2)))]) := hD
    refine lv_aload_n hx hb dX7_answer_221 rfl (lv_at hl 2 rfl) ?_
    refine lv_aload_n hx hb dX7_answer_222 rfl (lv_at hl 3 rfl) ?_
    refine lv_iload hx hb dX7_answer_223 (lv_at hl 0 rfl) ?_
    refine lv_iconst (v := nI (0)) hx hb dX7_answer_225 (by decide) ?_
    refine cSi (n := 2) (As := [.int (nI (SK x w)), .int (nI (0))]) (rest := [.ref (ql), .ref (a 0), .int (nI (w))]) (X := (stW cA a x ++ [(ql, .inr (6, [.ref (qb), .int (nI ((trc (trc t 23) 20).1))])), (qb, .inl (cA 0, 16, arN ((trc (trc t 23) 20).2)))])) (pl := []) (wc := ([] : va_W)) (wr := (stW cA a x ++ [(ql, .inr (6, [.ref (qb), .int (nI ((trc (trc t 23) 20).1))])), (qb, .inl (cA 0, 16, arN ((trc (trc t 23) 20).2)))])) (w1 := ([] : va_W)) (wn := (stW cA a x ++ [(ql, .inr (6, [.ref (qb), .int (nI ((trc (trc t 23) 20).1))])), (qb, .inl (cA 0, 16, arN ((trc (trc t 23) 20).2)))])) (isC := []) (isR := [0, 1, 2, 3, 4, 5, 6, 7]) (isN := [0, 1, 2, 3, 4, 5, 6, 7]) ⟨hx, hb, hml, hown, hts⟩ (c_X7_firstBody l D cA tt (SK x w) 0 (by omega) (by omega) _) gX7_answer_X7_firstBody rfl (by decide +kernel) ⟨rfl, rfl⟩ ⟨Nat.le_of_ble_eq_true rfl, Nat.le_of_ble_eq_true rfl⟩ ⟨Nat.zero_le _, Nat.zero_le _⟩ hK hE hA hP hD hS ⟨⟨rfl, by decide⟩, ⟨rfl, by decide, by decide⟩, rfl, by decide⟩ rfl hl.1 rfl (Nat.le_of_ble_eq_true rfl) dX7_answer_226 (fun H locs hP hD hS => ?_)
    have hP : va_P D vwCl (stW cA a x ++ [(ql, .inr (6, [.ref (qb), .int (nI ((trc (trc t 23) 20).1))])), (qb, .inl (cA 0, 16, arN ((trc (trc t 23) 20).2)))]) H := hP
    have hD : va_D A (stW cA a x ++ [(ql, .inr (6, [.ref (qb), .int (nI ((trc (trc t 23) 20).1))])), (qb, .inl (cA 0, 16, arN ((trc (trc t 23) 20).2)))]) := hD
    refine vn_i (v := nI 13) (by rw [hk]; rfl) ?_
    refine lv_iload_n hx hb dX7_answer_229 rfl (lv_at hl 5 rfl) ?_
    refine lv_iload hx hb dX7_answer_230 (lv_at hl 1 rfl) ?_
    refine cSi (n := 5) (As := [.ref (a 0), .ref (ql), .int (nI (13)), .int (nI (w)), .int (nI (d + 1))]) (rest := [.int (nI (w))]) (X := (stW cA a x ++ [(ql, .inr (6, [.ref (qb), .int (nI ((trc (trc t 23) 20).1))])), (qb, .inl (cA 0, 16, arN ((trc (trc t 23) 20).2)))])) (pl := []) (wc := (stW cA a x ++ [(ql, .inr (6, [.ref (qb), .int (nI ((trc (trc t 23) 20).1))])), (qb, .inl (cA 0, 16, arN ((trc (trc t 23) 20).2)))])) (wr := ([] : va_W)) (w1 := (stW cA a x ++ [(ql, .inr (6, [.ref (qb), .int (nI ((trc (trc (trc (trc t 23) 20) 13) 10).1))])), (qb, .inl (cA 0, 16, arN ((trc (trc (trc (trc t 23) 20) 13) 10).2)))])) (wn := (stW cA a x ++ [(ql, .inr (6, [.ref (qb), .int (nI ((trc (trc (trc (trc t 23) 20) 13) 10).1))])), (qb, .inl (cA 0, 16, arN ((trc (trc (trc (trc t 23) 20) 13) 10).2)))])) (isC := [0, 1, 2, 3, 4, 5, 6, 7]) (isR := []) (isN := [0, 1, 2, 3, 4, 5, 6, 7]) ⟨hx, hb, hml, hown, hts⟩ (c_X7_answer_13 l D cA tt a ql qb x (trc (trc t 23) 20) w (d + 1) (hg) (by first | assumption | (repeat' first | assumption | apply trc_le)) (hw) (by omega) _) gX7_answer_X7_answer rfl (by decide +kernel) ⟨rfl, rfl⟩ ⟨Nat.le_of_ble_eq_true rfl, Nat.le_of_ble_eq_true rfl⟩ ⟨Nat.zero_le _, Nat.zero_le _⟩ hK hE hA hP hD hS ⟨⟨rfl, by decide⟩, ⟨rfl, by decide, by decide⟩, rfl, by decide⟩ rfl hl.1 rfl (Nat.le_of_ble_eq_true rfl) dX7_answer_232 (fun H locs hP hD hS => ?_)
    have hP : va_P D vwCl (stW cA a x ++ [(ql, .inr (6, [.ref (qb), .int (nI ((trc (trc (trc (trc t 23) 20) 13) 10).1))])), (qb, .inl (cA 0, 16, arN ((trc (trc (trc (trc t 23) 20) 13) 10).2)))]) H := hP
    have hD : va_D A (stW cA a x ++ [(ql, .inr (6, [.ref (qb), .int (nI ((trc (trc (trc (trc t 23) 20) 13) 10).1))])), (qb, .inl (cA 0, 16, arN ((trc (trc (trc (trc t 23) 20) 13) 10).2)))]) := hD
    refine lv_isub hx hb dX7_answer_235 ?_
    exact hend _ _ _ _ _ hP hD hS (by simp [c1]) dX7_answer_236
  · skip
    rw [nI_leI (by omega) (by omega)] at c1
    omega
set_option maxRecDepth 100000 in
set_option maxHeartbeats 4000000 in
theorem c_X7_answer_23_5 (l : Launch) (D : va_G) (cA : Nat → ClassId) (tt : Nat → Nat) (a : Nat → Nat) (ql qb : Nat) (x : Sg) (t : Nat × (Nat → Nat)) (w d : Nat) (hg : Wk x) (ht : t.1 ≤ 16) (hw : w < Sn x) (hd : d ≤ 5) (hk : SK x w = 5) (sz : Nat) : Ci l D cA tt yX7_answer wsX7_answer ({ frames := 4, cells := 0, slots := 0, locals := 99 } : Room) [.ref (a 0), .ref (ql), .int (nI (23)), .int (nI (w)), .int (nI (d))] sz (stW cA a x ++ [(ql, .inr (6, [.ref (qb), .int (nI (t.1))])), (qb, .inl (cA 0, 16, arN t.2))]) (stW cA a x ++ [(ql, .inr (6, [.ref (qb), .int (nI ((trc (trc (trc (trc (trc t 23) 20) 14) 13) 10).1))])), (qb, .inl (cA 0, 16, arN ((trc (trc (trc (trc (trc t 23) 20) 14) 13) 10).2)))]) (nI w - (nI 2 * (nI (SP x w) - nI 100))) := by
  have hw10 : w < 10 := Nat.lt_of_lt_of_le hw hg.1
  have gw := hg.2.2.2.2 w hw
  refine Ci.mk (cc := cX7_answer) (maxL := 7) (ty := .int) (by decide) rfl rfl (Nat.le_of_ble_eq_true rfl) ?_
  intro p e s m below meth c A Q ls hB hl hend
  obtain ⟨⟨hx, hb, hml, hown, hts⟩, hP, hK, hD, hS, hA, hE⟩ := hB
  have hown : s.vm.findClass RX7 = some m.cls := hown
  have hwsX40 : ∀ w9 ∈ wsX40, w9.before ([.ref (a 0), .ref (ql), .int (nI (23)), .int (nI (w)), .int (nI (d))] : List Value).toArray s = true := fun w9 h => hts w9 (List.mem_cons_of_mem _ (List.mem_append_left _ (List.mem_append_right _ h)))
  have hwsX60 : ∀ w9 ∈ wsX60, w9.before ([.ref (a 0), .ref (ql), .int (nI (23)), .int (nI (w)), .int (nI (d))] : List Value).toArray s = true := fun w9 h => hts w9 (List.mem_cons_of_mem _ (List.mem_append_right _ h))
  have hl : lv_has ls 7 [(0, .ref (a 0)), (1, .ref (ql)), (2, .int (nI (23))), (3, .int (nI (w))), (4, .int (nI (d)))] := hl
  refine lv_iload hx hb dX7_answer_0 (lv_at hl 4 rfl) ?_
  refine lv_bipush (v := nI (8)) hx hb dX7_answer_2 (by decide) ?_
  refine lv_icmp_le (tgt := 9) hx hb dX7_answer_4 (by decide) (fun c1 => ?_) (fun c1 => ?_)
  · skip
    rw [nI_leI (by omega) (by omega)] at c1
    refine lv_aload_n hx hb dX7_answer_9 rfl (lv_at hl 1 rfl) ?_
    refine lv_iload_n hx hb dX7_answer_10 rfl (lv_at hl 2 rfl) ?_
    refine cVv (n := 1) (As := [.int (nI (23))]) (rest := []) (C := RX6) (ci := 6) (q0 := 0) (X := (stW cA a x ++ [(ql, .inr (6, [.ref (qb), .int (nI (t.1))])), (qb, .inl (cA 0, 16, arN t.2))])) (pl := []) (wc := [(ql, .inr (6, [.ref (qb), .int (nI (t.1))])), (qb, .inl (cA 0, 16, arN t.2))]) (wr := (stW cA a x)) (w1 := [(ql, .inr (6, [.ref (qb), .int (nI ((trc t 23).1))])), (qb, .inl (cA 0, 16, arN ((trc t 23).2)))]) (wn := (stW cA a x ++ [(ql, .inr (6, [.ref (qb), .int (nI ((trc t 23).1))])), (qb, .inl (cA 0, 16, arN ((trc t 23).2)))])) (isC := [6, 7]) (isR := [0, 1, 2, 3, 4, 5]) (isN := [0, 1, 2, 3, 4, 5, 6, 7]) ⟨hx, hb, hml, hown, hts⟩ (c_X6_add l D cA tt ql qb t 23 (by first | assumption | (repeat' first | assumption | apply trc_le)) _) gX7_answer_X6_add rfl (by decide +kernel) rfl rfl ⟨rfl, rfl⟩ ⟨Nat.le_of_ble_eq_true rfl, Nat.le_of_ble_eq_true rfl⟩ ⟨Nat.zero_le _, Nat.zero_le _⟩ hK hE hA hP hD hS ⟨⟨rfl, by decide⟩, ⟨rfl, by decide, by decide⟩, rfl, by decide⟩ rfl hl.1 rfl (Nat.le_of_ble_eq_true rfl) dX7_answer_11 (fun H locs hP hD hS => ?_)
    have hP : va_P D vwCl (stW cA a x ++ [(ql, .inr (6, [.ref (qb), .int (nI ((trc t 23).1))])), (qb, .inl (cA 0, 16, arN ((trc t 23).2)))]) H := hP
    have hD : va_D A (stW cA a x ++ [(ql, .inr (6, [.ref (qb), .int (nI ((trc t 23).1))])), (qb, .inl (cA 0, 16, arN ((trc t 23).2)))]) := hD
    refine lv_iload hx hb dX7_answer_14 (lv_at hl 4 rfl) ?_
    refine lv_iconst (v := nI (1)) hx hb dX7_answer_16 (by decide) ?_
    refine lv_iadd hx hb dX7_answer_17 ?_
    refine vn_i (v := nI (d + 1)) (nI_add _ _) ?_
    refine lv_istore (lv' := [(5, .int (nI (d + 1))), (0, .ref (a 0)), (1, .ref (ql)), (2, .int (nI (23))), (3, .int (nI (w))), (4, .int (nI (d)))]) hx hb dX7_answer_18 hl (by decide) rfl (fun ls hl => ?_)
    refine lv_aload_n hx hb dX7_answer_20 rfl (lv_at hl 1 rfl) ?_
    refine va_getN (v := .ref (a 1)) (Ts := wsX40) (C := RX4) (T := TX4) (N := 10) hx hb hwsX40 (fun _ h => h) hown hK hP 0 rfl rfl 0 (by decide) (hE.1.f (q := ("AdventStreets", 280, "AdventStreets$Street", "kinds", "[I")) 9 rfl) (fun _ h9 => h9) rfl dX7_answer_21 ?_
    refine lv_iload_n hx hb dX7_answer_24 rfl (lv_at hl 4 rfl) ?_
    refine r_ald (f := SK x) hx hb hK hP 1 rfl (i := w) (by omega) (Nat.lt_of_lt_of_le (by omega : 10 < 1073741824) (by decide)) dX7_answer_25 ?_
    refine lv_istore (lv' := [(6, .int (nI (SK x w))), (5, .int (nI (d + 1))), (0, .ref (a 0)), (1, .ref (ql)), (2, .int (nI (23))), (3, .int (nI (w))), (4, .int (nI (d)))]) hx hb dX7_answer_26 hl (by decide) rfl (fun ls hl => ?_)
    refine lv_iload_n hx hb dX7_answer_28 rfl (lv_at hl 4 rfl) ?_
    refine lv_tableIn (off := 182) (tgt := 211) hx hb dX7_answer_29 (by decide +kernel) (by decide +kernel) (by decide +kernel) (by decide) ?_
    refine lv_aload_n hx hb dX7_answer_211 rfl (lv_at hl 2 rfl) ?_
    refine lv_aload_n hx hb dX7_answer_212 rfl (lv_at hl 3 rfl) ?_
    refine lv_bipush (v := nI (20)) hx hb dX7_answer_213 (by decide) ?_
    refine lv_iload_n hx hb dX7_answer_215 rfl (lv_at hl 5 rfl) ?_
    refine lv_iload hx hb dX7_answer_216 (lv_at hl 1 rfl) ?_
    refine cSi (n := 5) (As := [.ref (a 0), .ref (ql), .int (nI (20)), .int (nI (w)), .int (nI (d + 1))]) (rest := []) (X := (stW cA a x ++ [(ql, .inr (6, [.ref (qb), .int (nI ((trc t 23).1))])), (qb, .inl (cA 0, 16, arN ((trc t 23).2)))])) (pl := []) (wc := (stW cA a x ++ [(ql, .inr (6, [.ref (qb), .int (nI ((trc t 23).1))])), (qb, .inl (cA 0, 16, arN ((trc t 23).2)))])) (wr := ([] : va_W)) (w1 := (stW cA a x ++ [(ql, .inr (6, [.ref (qb), .int (nI ((trc (trc t 23) 20).1))])), (qb, .inl (cA 0, 16, arN ((trc (trc t 23) 20).2)))])) (wn := (stW cA a x ++ [(ql, .inr (6, [.ref (qb), .int (nI ((trc (trc t 23) 20).1))])), (qb, .inl (cA 0, 16, arN ((trc (trc t 23) 20).2)))])) (isC := [0, 1, 2, 3, 4, 5, 6, 7]) (isR := []) (isN := [0, 1, 2, 3, 4, 5, 6, 7]) ⟨hx, hb, hml, hown, hts⟩ (c_X7_answer_20 l D cA tt a ql qb x (trc t 23) w (d + 1) (hg) (by first | assumption | (repeat' first | assumption | apply trc_le)) (hw) (by omega) _) gX7_answer_X7_answer rfl (by decide +kernel) ⟨rfl, rfl⟩ ⟨Nat.le_of_ble_eq_true rfl, Nat.le_of_ble_eq_true rfl⟩ ⟨Nat.zero_le _, Nat.zero_le _⟩ hK hE hA hP hD hS ⟨⟨rfl, by decide⟩, ⟨rfl, by decide, by decide⟩, rfl, by decide⟩ rfl hl.1 rfl (Nat.le_of_ble_eq_true rfl) dX7_answer_218 (fun H locs hP hD hS => ?_)
    have hP : va_P D vwCl (stW cA a x ++ [(ql, .inr (6, [.ref (qb), .int (nI ((trc (trc t 23) 20).1))])), (qb, .inl (cA 0, 16, arN ((trc (trc t 23) 20).2)))]) H := hP
    have hD : va_D A (stW cA a x ++ [(ql, .inr (6, [.ref (qb), .int (nI ((trc (trc t 23) 20).1))])), (qb, .inl (cA 0, 16, arN ((trc (trc t 23) 20).2)))]) := hD
    refine lv_aload_n hx hb dX7_answer_221 rfl (lv_at hl 2 rfl) ?_
    refine lv_aload_n hx hb dX7_answer_222 rfl (lv_at hl 3 rfl) ?_
    refine lv_iload hx hb dX7_answer_223 (lv_at hl 0 rfl) ?_
    refine lv_iconst (v := nI (0)) hx hb dX7_answer_225 (by decide) ?_
    refine cSi (n := 2) (As := [.int (nI (SK x w)), .int (nI (0))]) (rest := [.ref (ql), .ref (a 0), .int (nI (w))]) (X := (stW cA a x ++ [(ql, .inr (6, [.ref (qb), .int (nI ((trc (trc t 23) 20).1))])), (qb, .inl (cA 0, 16, arN ((trc (trc t 23) 20).2)))])) (pl := []) (wc := ([] : va_W)) (wr := (stW cA a x ++ [(ql, .inr (6, [.ref (qb), .int (nI ((trc (trc t 23) 20).1))])), (qb, .inl (cA 0, 16, arN ((trc (trc t 23) 20).2)))])) (w1 := ([] : va_W)) (wn := (stW cA a x ++ [(ql, .inr (6, [.ref (qb), .int (nI ((trc (trc t 23) 20).1))])), (qb, .inl (cA 0, 16, arN ((trc (trc t 23) 20).2)))])) (isC := []) (isR := [0, 1, 2, 3, 4, 5, 6, 7]) (isN := [0, 1, 2, 3, 4, 5, 6, 7]) ⟨hx, hb, hml, hown, hts⟩ (c_X7_firstBody l D cA tt (SK x w) 0 (by omega) (by omega) _) gX7_answer_X7_firstBody rfl (by decide +kernel) ⟨rfl, rfl⟩ ⟨Nat.le_of_ble_eq_true rfl, Nat.le_of_ble_eq_true rfl⟩ ⟨Nat.zero_le _, Nat.zero_le _⟩ hK hE hA hP hD hS ⟨⟨rfl, by decide⟩, ⟨rfl, by decide, by decide⟩, rfl, by decide⟩ rfl hl.1 rfl (Nat.le_of_ble_eq_true rfl) dX7_answer_226 (fun H locs hP hD hS => ?_)
    have hP : va_P D vwCl (stW cA a x ++ [(ql, .inr (6, [.ref (qb), .int (nI ((trc (trc t 23) 20).1))])), (qb, .inl (cA 0, 16, arN ((trc (trc t 23) 20).2)))]) H := hP
    have hD : va_D A (stW cA a x ++ [(ql, .inr (6, [.ref (qb), .int (nI ((trc (trc t 23) 20).1))])), (qb, .inl (cA 0, 16, arN ((trc (trc t 23) 20).2)))]) := hD
    refine vn_i (v := nI 14) (by rw [hk]; rfl) ?_
    refine lv_iload_n hx hb dX7_answer_229 rfl (lv_at hl 5 rfl) ?_
    refine lv_iload hx hb dX7_answer_230 (lv_at hl 1 rfl) ?_
    refine cSi (n := 5) (As := [.ref (a 0), .ref (ql), .int (nI (14)), .int (nI (w)), .int (nI (d + 1))]) (rest := [.int (nI (w))]) (X := (stW cA a x ++ [(ql, .inr (6, [.ref (qb), .int (nI ((trc (trc t 23) 20).1))])), (qb, .inl (cA 0, 16, arN ((trc (trc t 23) 20).2)))])) (pl := []) (wc := (stW cA a x ++ [(ql, .inr (6, [.ref (qb), .int (nI ((trc (trc t 23) 20).1))])), (qb, .inl (cA 0, 16, arN ((trc (trc t 23) 20).2)))])) (wr := ([] : va_W)) (w1 := (stW cA a x ++ [(ql, .inr (6, [.ref (qb), .int (nI ((trc (trc (trc (trc (trc t 23) 20) 14) 13) 10).1))])), (qb, .inl (cA 0, 16, arN ((trc (trc (trc (trc (trc t 23) 20) 14) 13) 10).2)))])) (wn := (stW cA a x ++ [(ql, .inr (6, [.ref (qb), .int (nI ((trc (trc (trc (trc (trc t 23) 20) 14) 13) 10).1))])), (qb, .inl (cA 0, 16, arN ((trc (trc (trc (trc (trc t 23) 20) 14) 13) 10).2)))])) (isC := [0, 1, 2, 3, 4, 5, 6, 7]) (isR := []) (isN := [0, 1, 2, 3, 4, 5, 6, 7]) ⟨hx, hb, hml, hown, hts⟩ (c_X7_answer_14 l D cA tt a ql qb x (trc (trc t 23) 20) w (d + 1) (hg) (by first | assumption | (repeat' first | assumption | apply trc_le)) (hw) (by omega) _) gX7_answer_X7_answer rfl (by decide +kernel) ⟨rfl, rfl⟩ ⟨Nat.le_of_ble_eq_true rfl, Nat.le_of_ble_eq_true rfl⟩ ⟨Nat.zero_le _, Nat.zero_le _⟩ hK hE hA hP hD hS ⟨⟨rfl, by decide⟩, ⟨rfl, by decide, by decide⟩, rfl, by decide⟩ rfl hl.1 rfl (Nat.le_of_ble_eq_true rfl) dX7_answer_232 (fun H locs hP hD hS => ?_)
    have hP : va_P D vwCl (stW cA a x ++ [(ql, .inr (6, [.ref (qb), .int (nI ((trc (trc (trc (trc (trc t 23) 20) 14) 13) 10).1))])), (qb, .inl (cA 0, 16, arN ((trc (trc (trc (trc (trc t 23) 20) 14) 13) 10).2)))]) H := hP
    have hD : va_D A (stW cA a x ++ [(ql, .inr (6, [.ref (qb), .int (nI ((trc (trc (trc (trc (trc t 23) 20) 14) 13) 10).1))])), (qb, .inl (cA 0, 16, arN ((trc (trc (trc (trc (trc t 23) 20) 14) 13) 10).2)))]) := hD
    refine lv_isub hx hb dX7_answer_235 ?_
    exact hend _ _ _ _ _ hP hD hS (by simp [c1]) dX7_answer_236
  · skip
    rw [nI_leI (by omega) (by omega)] at c1
    omega
