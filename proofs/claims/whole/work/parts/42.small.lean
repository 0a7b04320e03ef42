/-! ===== tape, trace, statics ===== -/
set_option maxRecDepth 100000 in
set_option maxHeartbeats 4000000 in
theorem c_X5_add (l : Launch) (D : va_G) (cA : Nat → ClassId) (tt : Nat → Nat) (q qr qb len : Nat) (f : Nat → Nat) (v : Nat) (hlen : len ≤ 130) (sz : Nat) : Ci l D cA tt yX5_add wsX5_add ({ frames := 0, cells := 0, slots := 0, locals := 0 } : Room) [.ref (q), .int (nI (v))] sz [(q, .inr (5, [.ref (qb), .ref (qr), .int (nI (len))])), (qb, .inl (cA 0, 130, arN f))] [(q, .inr (5, [.ref (qb), .ref (qr), .int (nI ((addT 130 len f v).1))])), (qb, .inl (cA 0, 130, arN ((addT 130 len f v).2)))] (bI (decide (len < 130))) := by
  refine Ci.mk (cc := cX5_add) (maxL := 2) (ty := .boolean) (by decide) rfl (bI_n _) (Nat.le_of_ble_eq_true rfl) ?_
  intro p e s m below meth c A Q ls hB hl hend
  obtain ⟨⟨hx, hb, hml, hown, hts⟩, hP, hK, hD, hS, hA, hE⟩ := hB
  have hown : s.vm.findClass RX5 = some m.cls := hown
  have hwsX50 : ∀ w9 ∈ wsX50, w9.before ([.ref (q), .int (nI (v))] : List Value).toArray s = true := fun w9 h => hts w9 (List.mem_cons_of_mem _ (List.mem_append_right _ h))
  have hl : lv_has ls 2 [(0, .ref (q)), (1, .int (nI (v)))] := hl
  refine lv_aload_n hx hb dX5_add_0 rfl (lv_at hl 0 rfl) ?_
  refine va_get (v := .int (nI (len))) (Ts := wsX50) (C := RX5) (T := TX5) (N := 3) hx hb hwsX50 (fun _ h => h) hown hK hP 0 rfl rfl 2 (by decide) (hts (.fieldLink RX5 22 "AdventStreets$Tape" "length" "I") (List.mem_of_getElem? (i := 1) rfl)) (fun _ h9 => h9) rfl dX5_add_1 ?_
  refine lv_sipush (v := nI (130)) hx hb dX5_add_4 (by decide) ?_
  refine lv_icmp_lt (tgt := 12) hx hb dX5_add_7 (by decide) (fun c1 => ?_) (fun c1 => ?_)
  · skip
    rw [nI_ltI (by omega) (by omega)] at c1
    refine lv_aload_n hx hb dX5_add_12 rfl (lv_at hl 0 rfl) ?_
    refine va_get (v := .ref (qb)) (Ts := wsX50) (C := RX5) (T := TX5) (N := 3) hx hb hwsX50 (fun _ h => h) hown hK hP 0 rfl rfl 0 (by decide) (hts (.fieldLink RX5 9 "AdventStreets$Tape" "bytes" "[I") (List.mem_of_getElem? (i := 2) rfl)) (fun _ h9 => h9) rfl dX5_add_13 ?_
    refine lv_aload_n hx hb dX5_add_16 rfl (lv_at hl 0 rfl) ?_
    refine va_get (v := .int (nI (len))) (Ts := wsX50) (C := RX5) (T := TX5) (N := 3) hx hb hwsX50 (fun _ h => h) hown hK hP 0 rfl rfl 2 (by decide) (hts (.fieldLink RX5 22 "AdventStreets$Tape" "length" "I") (List.mem_of_getElem? (i := 1) rfl)) (fun _ h9 => h9) rfl dX5_add_17 ?_
    refine lv_iload_n hx hb dX5_add_20 rfl (lv_at hl 1 rfl) ?_
    refine r_ast (f := f) hx hb hK hP hD hS 1 rfl (i := len) (by omega) (Nat.lt_of_lt_of_le (by omega : 130 < 1073741824) (by decide)) dX5_add_21 (fun H locs hP hD hS => ?_)
    have hP : va_P D vwCl [(q, .inr (5, [.ref (qb), .ref (qr), .int (nI (len))])), (qb, .inl (cA 0, 130, arN (upN f len v)))] H := hP
    have hD : va_D A [(q, .inr (5, [.ref (qb), .ref (qr), .int (nI (len))])), (qb, .inl (cA 0, 130, arN (upN f len v)))] := hD
    refine lv_aload_n hx hb dX5_add_22 rfl (lv_at hl 0 rfl) ?_
    refine lv_dup hx hb dX5_add_23 rfl ?_
    refine va_get (v := .int (nI (len))) (Ts := wsX50) (C := RX5) (T := TX5) (N := 3) hx hb hwsX50 (fun _ h => h) hown hK hP 0 rfl rfl 2 (by decide) (hts (.fieldLink RX5 22 "AdventStreets$Tape" "length" "I") (List.mem_of_getElem? (i := 1) rfl)) (fun _ h9 => h9) rfl dX5_add_24 ?_
    refine lv_iconst (v := nI (1)) hx hb dX5_add_27 (by decide) ?_
    refine lv_iadd hx hb dX5_add_28 ?_
    refine vn_i (v := nI (len + 1)) (nI_add _ _) ?_
    refine va_put (v := .int (nI (len + 1))) (ty := .int) (Ts := wsX50) (C := RX5) (T := TX5) (N := 3) hx hb hwsX50 (fun _ h => h) tyX5 tyX5_ok nmX5 hown hK hP hD hS 0 rfl rfl 2 (by decide) (hts (.fieldLink RX5 22 "AdventStreets$Tape" "length" "I") (List.mem_of_getElem? (i := 1) rfl)) (fun _ h9 => h9) rfl (tyX5_ok 2 (by decide)) rfl rfl (Nat.le_of_ble_eq_true rfl) dX5_add_29 (fun H locs hP hD hS => ?_)
    have hP : va_P D vwCl [(q, .inr (5, [.ref (qb), .ref (qr), .int (nI (len + 1))])), (qb, .inl (cA 0, 130, arN (upN f len v)))] H := hP
    have hD : va_D A [(q, .inr (5, [.ref (qb), .ref (qr), .int (nI (len + 1))])), (qb, .inl (cA 0, 130, arN (upN f len v)))] := hD
    refine lv_iconst (v := nI (1)) hx hb dX5_add_32 (by decide) ?_
    have ef2 : ([(q, .inr (5, [.ref (qb), .ref (qr), .int (nI (len + 1))])), (qb, .inl (cA 0, 130, arN (upN f len v)))] : va_W) = [(q, .inr (5, [.ref (qb), .ref (qr), .int (nI ((addT 130 len f v).1))])), (qb, .inl (cA 0, 130, arN ((addT 130 len f v).2)))] := by
      rw [addT, if_pos (by omega)]
    have hP : va_P D vwCl [(q, .inr (5, [.ref (qb), .ref (qr), .int (nI ((addT 130 len f v).1))])), (qb, .inl (cA 0, 130, arN ((addT 130 len f v).2)))] _ := Eq.mp (congrArg (fun z9 => va_P D vwCl z9 _) ef2) hP
    have hD : va_D A [(q, .inr (5, [.ref (qb), .ref (qr), .int (nI ((addT 130 len f v).1))])), (qb, .inl (cA 0, 130, arN ((addT 130 len f v).2)))] := Eq.mp (congrArg (fun z9 => va_D A z9) ef2) hD
    exact hend _ _ _ _ _ hP hD hS (one_bI (decide_eq_true (by omega))) dX5_add_33
  · skip
    rw [nI_ltI (by omega) (by omega)] at c1
    refine lv_iconst (v := nI (0)) hx hb dX5_add_10 (by decide) ?_
    have ef3 : ([(q, .inr (5, [.ref (qb), .ref (qr), .int (nI (len))])), (qb, .inl (cA 0, 130, arN f))] : va_W) = [(q, .inr (5, [.ref (qb), .ref (qr), .int (nI ((addT 130 len f v).1))])), (qb, .inl (cA 0, 130, arN ((addT 130 len f v).2)))] := by
      rw [addT, if_neg (by omega)]
    have hP : va_P D vwCl [(q, .inr (5, [.ref (qb), .ref (qr), .int (nI ((addT 130 len f v).1))])), (qb, .inl (cA 0, 130, arN ((addT 130 len f v).2)))] _ := Eq.mp (congrArg (fun z9 => va_P D vwCl z9 _) ef3) hP
    have hD : va_D A [(q, .inr (5, [.ref (qb), .ref (qr), .int (nI ((addT 130 len f v).1))])), (qb, .inl (cA 0, 130, arN ((addT 130 len f v).2)))] := Eq.mp (congrArg (fun z9 => va_D A z9) ef3) hD
    exact hend _ _ _ _ _ hP hD hS (zero_bI (decide_eq_false (by omega))) dX5_add_11
set_option maxRecDepth 100000 in
set_option maxHeartbeats 4000000 in
theorem c_X5_at (l : Launch) (D : va_G) (cA : Nat → ClassId) (tt : Nat → Nat) (q qr qb len : Nat) (f : Nat → Nat) (i : Nat) (hlen : len ≤ 130) (hi : i < 1048576) (sz : Nat) : Ci l D cA tt yX5_at wsX5_at ({ frames := 0, cells := 0, slots := 0, locals := 0 } : Room) [.ref (q), .int (nI (i))] sz [(q, .inr (5, [.ref (qb), .ref (qr), .int (nI (len))])), (qb, .inl (cA 0, 130, arN f))] [(q, .inr (5, [.ref (qb), .ref (qr), .int (nI (len))])), (qb, .inl (cA 0, 130, arN f))] (tapAt len f i) := by
  refine Ci.mk (cc := cX5_at) (maxL := 2) (ty := .int) (by decide) rfl rfl (Nat.le_of_ble_eq_true rfl) ?_
  intro p e s m below meth c A Q ls hB hl hend
  obtain ⟨⟨hx, hb, hml, hown, hts⟩, hP, hK, hD, hS, hA, hE⟩ := hB
  have hown : s.vm.findClass RX5 = some m.cls := hown
  have hwsX50 : ∀ w9 ∈ wsX50, w9.before ([.ref (q), .int (nI (i))] : List Value).toArray s = true := fun w9 h => hts w9 (List.mem_cons_of_mem _ (List.mem_append_right _ h))
  have hl : lv_has ls 2 [(0, .ref (q)), (1, .int (nI (i)))] := hl
  refine lv_iload_n hx hb dX5_at_0 rfl (lv_at hl 1 rfl) ?_
  refine lv_if_lt (tgt := 21) hx hb dX5_at_1 (by decide) (fun c1 => ?_) (fun c1 => ?_)
  · skip
    rw [n_lt0 (by omega)] at c1
    exact c1.elim
  · skip
    rw [n_lt0 (by omega)] at c1
    refine lv_iload_n hx hb dX5_at_4 rfl (lv_at hl 1 rfl) ?_
    refine lv_aload_n hx hb dX5_at_5 rfl (lv_at hl 0 rfl) ?_
    refine va_get (v := .int (nI (len))) (Ts := wsX50) (C := RX5) (T := TX5) (N := 3) hx hb hwsX50 (fun _ h => h) hown hK hP 0 rfl rfl 2 (by decide) (hts (.fieldLink RX5 22 "AdventStreets$Tape" "length" "I") (List.mem_of_getElem? (i := 1) rfl)) (fun _ h9 => h9) rfl dX5_at_6 ?_
    refine lv_icmp_ge (tgt := 21) hx hb dX5_at_9 (by decide) (fun c2 => ?_) (fun c2 => ?_)
    · skip
      rw [nI_leI (by omega) (by omega)] at c2
      refine lv_ldc (v := (-1000000)) hx hb hown (hts (.constant RX5 26 (-1000000)) (List.mem_of_getElem? (i := 3) rfl)) dX5_at_21 ?_
      exact hend _ _ _ _ _ hP hD hS (by rw [tapAt, if_neg (by omega)]) dX5_at_23
    · skip
      rw [nI_leI (by omega) (by omega)] at c2
      refine lv_aload_n hx hb dX5_at_12 rfl (lv_at hl 0 rfl) ?_
      refine va_get (v := .ref (qb)) (Ts := wsX50) (C := RX5) (T := TX5) (N := 3) hx hb hwsX50 (fun _ h => h) hown hK hP 0 rfl rfl 0 (by decide) (hts (.fieldLink RX5 9 "AdventStreets$Tape" "bytes" "[I") (List.mem_of_getElem? (i := 2) rfl)) (fun _ h9 => h9) rfl dX5_at_13 ?_
      refine lv_iload_n hx hb dX5_at_16 rfl (lv_at hl 1 rfl) ?_
      refine r_ald (f := f) hx hb hK hP 1 rfl (i := i) (by omega) (Nat.lt_of_lt_of_le (by omega : 130 < 1073741824) (by decide)) dX5_at_17 ?_
      refine lv_goto (tgt := 23) hx hb dX5_at_18 (by decide) ?_
      exact hend _ _ _ _ _ hP hD hS (by rw [tapAt, if_pos (by omega)]) dX5_at_23
set_option maxRecDepth 100000 in
set_option maxHeartbeats 4000000 in
theorem c_X6_add (l : Launch) (D : va_G) (cA : Nat → ClassId) (tt : Nat → Nat) (ql qb : Nat) (t : Nat × (Nat → Nat)) (v : Nat) (ht : t.1 ≤ 16) (sz : Nat) : Cv l D cA tt yX6_add wsX6_add ({ frames := 0, cells := 0, slots := 0, locals := 0 } : Room) [.ref (ql), .int (nI (v))] sz [(ql, .inr (6, [.ref (qb), .int (nI (t.1))])), (qb, .inl (cA 0, 16, arN t.2))] [(ql, .inr (6, [.ref (qb), .int (nI ((trc t v).1))])), (qb, .inl (cA 0, 16, arN ((trc t v).2)))] := by
  refine Cv.mk (cc := cX6_add) (maxL := 2) (by decide) rfl (Nat.le_of_ble_eq_true rfl) ?_
  intro p e s m below meth c A Q ls hB hl hend
  obtain ⟨⟨hx, hb, hml, hown, hts⟩, hP, hK, hD, hS, hA, hE⟩ := hB
  have hown : s.vm.findClass RX6 = some m.cls := hown
  have hwsX60 : ∀ w9 ∈ wsX60, w9.before ([.ref (ql), .int (nI (v))] : List Value).toArray s = true := fun w9 h => hts w9 (List.mem_cons_of_mem _ (List.mem_append_right _ h))
  have hl : lv_has ls 2 [(0, .ref (ql)), (1, .int (nI (v)))] := hl
  refine lv_aload_n hx hb dX6_add_0 rfl (lv_at hl 0 rfl) ?_
  refine va_get (v := .int (nI (t.1))) (Ts := wsX60) (C := RX6) (T := TX6) (N := 2) hx hb hwsX60 (fun _ h => h) hown hK hP 0 rfl rfl 1 (by decide) (hts (.fieldLink RX6 15 "AdventStreets$Trace" "length" "I") (List.mem_of_getElem? (i := 1) rfl)) (fun _ h9 => h9) rfl dX6_add_1 ?_
  refine lv_bipush (v := nI (16)) hx hb dX6_add_4 (by decide) ?_
  refine lv_icmp_ge (tgt := 29) hx hb dX6_add_6 (by decide) (fun c1 => ?_) (fun c1 => ?_)
  · skip
    rw [nI_leI (by omega) (by omega)] at c1
    have ef2 : ([(ql, .inr (6, [.ref (qb), .int (nI (t.1))])), (qb, .inl (cA 0, 16, arN t.2))] : va_W) = [(ql, .inr (6, [.ref (qb), .int (nI ((trc t v).1))])), (qb, .inl (cA 0, 16, arN ((trc t v).2)))] := by
      rw [trc, if_neg (by omega)]
    have hP : va_P D vwCl [(ql, .inr (6, [.ref (qb), .int (nI ((trc t v).1))])), (qb, .inl (cA 0, 16, arN ((trc t v).2)))] _ := Eq.mp (congrArg (fun z9 => va_P D vwCl z9 _) ef2) hP
    have hD : va_D A [(ql, .inr (6, [.ref (qb), .int (nI ((trc t v).1))])), (qb, .inl (cA 0, 16, arN ((trc t v).2)))] := Eq.mp (congrArg (fun z9 => va_D A z9) ef2) hD
    exact hend _ _ _ _ hP hD hS dX6_add_29
  · skip
    rw [nI_leI (by omega) (by omega)] at c1
    refine lv_aload_n hx hb dX6_add_9 rfl (lv_at hl 0 rfl) ?_
    refine va_get (v := .ref (qb)) (Ts := wsX60) (C := RX6) (T := TX6) (N := 2) hx hb hwsX60 (fun _ h => h) hown hK hP 0 rfl rfl 0 (by decide) (hts (.fieldLink RX6 9 "AdventStreets$Trace" "bodies" "[I") (List.mem_of_getElem? (i := 2) rfl)) (fun _ h9 => h9) rfl dX6_add_10 ?_
    refine lv_aload_n hx hb dX6_add_13 rfl (lv_at hl 0 rfl) ?_
    refine va_get (v := .int (nI (t.1))) (Ts := wsX60) (C := RX6) (T := TX6) (N := 2) hx hb hwsX60 (fun _ h => h) hown hK hP 0 rfl rfl 1 (by decide) (hts (.fieldLink RX6 15 "AdventStreets$Trace" "length" "I") (List.mem_of_getElem? (i := 1) rfl)) (fun _ h9 => h9) rfl dX6_add_14 ?_
    refine lv_iload_n hx hb dX6_add_17 rfl (lv_at hl 1 rfl) ?_
    refine r_ast (f := t.2) hx hb hK hP hD hS 1 rfl (i := t.1) (by omega) (Nat.lt_of_lt_of_le (by omega : 16 < 1073741824) (by decide)) dX6_add_18 (fun H locs hP hD hS => ?_)
    have hP : va_P D vwCl [(ql, .inr (6, [.ref (qb), .int (nI (t.1))])), (qb, .inl (cA 0, 16, arN (upN t.2 t.1 v)))] H := hP
    have hD : va_D A [(ql, .inr (6, [.ref (qb), .int (nI (t.1))])), (qb, .inl (cA 0, 16, arN (upN t.2 t.1 v)))] := hD
    refine lv_aload_n hx hb dX6_add_19 rfl (lv_at hl 0 rfl) ?_
    refine lv_dup hx hb dX6_add_20 rfl ?_
    refine va_get (v := .int (nI (t.1))) (Ts := wsX60) (C := RX6) (T := TX6) (N := 2) hx hb hwsX60 (fun _ h => h) hown hK hP 0 rfl rfl 1 (by decide) (hts (.fieldLink RX6 15 "AdventStreets$Trace" "length" "I") (List.mem_of_getElem? (i := 1) rfl)) (fun _ h9 => h9) rfl dX6_add_21 ?_
    refine lv_iconst (v := nI (1)) hx hb dX6_add_24 (by decide) ?_
    refine lv_iadd hx hb dX6_add_25 ?_
    refine vn_i (v := nI (t.1 + 1)) (nI_add _ _) ?_
    refine va_put (v := .int (nI (t.1 + 1))) (ty := .int) (Ts := wsX60) (C := RX6) (T := TX6) (N := 2) hx hb hwsX60 (fun _ h => h) tyX6 tyX6_ok nmX6 hown hK hP hD hS 0 rfl rfl 1 (by decide) (hts (.fieldLink RX6 15 "AdventStreets$Trace" "length" "I") (List.mem_of_getElem? (i := 1) rfl)) (fun _ h9 => h9) rfl (tyX6_ok 1 (by decide)) rfl rfl (Nat.le_of_ble_eq_true rfl) dX6_add_26 (fun H locs hP hD hS => ?_)
    have hP : va_P D vwCl [(ql, .inr (6, [.ref (qb), .int (nI (t.1 + 1))])), (qb, .inl (cA 0, 16, arN (upN t.2 t.1 v)))] H := hP
    have hD : va_D A [(ql, .inr (6, [.ref (qb), .int (nI (t.1 + 1))])), (qb, .inl (cA 0, 16, arN (upN t.2 t.1 v)))] := hD
    have ef3 : ([(ql, .inr (6, [.ref (qb), .int (nI (t.1 + 1))])), (qb, .inl (cA 0, 16, arN (upN t.2 t.1 v)))] : va_W) = [(ql, .inr (6, [.ref (qb), .int (nI ((trc t v).1))])), (qb, .inl (cA 0, 16, arN ((trc t v).2)))] := by
      rw [trc, if_pos (by omega)]
    have hP : va_P D vwCl [(ql, .inr (6, [.ref (qb), .int (nI ((trc t v).1))])), (qb, .inl (cA 0, 16, arN ((trc t v).2)))] _ := Eq.mp (congrArg (fun z9 => va_P D vwCl z9 _) ef3) hP
    have hD : va_D A [(ql, .inr (6, [.ref (qb), .int (nI ((trc t v).1))])), (qb, .inl (cA 0, 16, arN ((trc t v).2)))] := Eq.mp (congrArg (fun z9 => va_D A z9) ef3) hD
    exact hend _ _ _ _ hP hD hS dX6_add_29
set_option maxRecDepth 100000 in
set_option maxHeartbeats 4000000 in
theorem c_X7_isWithin (l : Launch) (D : va_G) (cA : Nat → ClassId) (tt : Nat → Nat) (v lo hi : Int32)  (sz : Nat) : Ci l D cA tt yX7_isWithin wsX7_isWithin ({ frames := 0, cells := 0, slots := 0, locals := 0 } : Room) [.int (v), .int (lo), .int (hi)] sz ([] : va_W) ([] : va_W) (bI (inI v lo hi)) := by
  refine Ci.mk (cc := cX7_isWithin) (maxL := 3) (ty := .boolean) (by decide) rfl (bI_n _) (Nat.le_of_ble_eq_true rfl) ?_
  intro p e s m below meth c A Q ls hB hl hend
  obtain ⟨⟨hx, hb, hml, hown, hts⟩, hP, hK, hD, hS, hA, hE⟩ := hB
  have hown : s.vm.findClass RX7 = some m.cls := hown
  have hl : lv_has ls 3 [(0, .int (v)), (1, .int (lo)), (2, .int (hi))] := hl
  refine lv_iload_n hx hb dX7_isWithin_0 rfl (lv_at hl 0 rfl) ?_
  refine lv_iload_n hx hb dX7_isWithin_1 rfl (lv_at hl 1 rfl) ?_
  refine lv_icmp_lt (tgt := 14) hx hb dX7_isWithin_2 (by decide) (fun c1 => ?_) (fun c1 => ?_)
  · skip
    refine lv_iconst (v := nI (0)) hx hb dX7_isWithin_14 (by decide) ?_
    exact hend _ _ _ _ _ hP hD hS (zero_bI (inI_lo c1)) dX7_isWithin_15
  · skip
    refine lv_iload_n hx hb dX7_isWithin_5 rfl (lv_at hl 0 rfl) ?_
    refine lv_iload_n hx hb dX7_isWithin_6 rfl (lv_at hl 2 rfl) ?_
    refine lv_icmp_gt (tgt := 14) hx hb dX7_isWithin_7 (by decide) (fun c2 => ?_) (fun c2 => ?_)
    · skip
      refine lv_iconst (v := nI (0)) hx hb dX7_isWithin_14 (by decide) ?_
      exact hend _ _ _ _ _ hP hD hS (zero_bI (inI_hi c2)) dX7_isWithin_15
    · skip
      refine lv_iconst (v := nI (1)) hx hb dX7_isWithin_10 (by decide) ?_
      refine lv_goto (tgt := 15) hx hb dX7_isWithin_11 (by decide) ?_
      exact hend _ _ _ _ _ hP hD hS (one_bI (inI_ok c1 c2)) dX7_isWithin_15
set_option maxRecDepth 100000 in
set_option maxHeartbeats 4000000 in
theorem c_X7_isRow (l : Launch) (D : va_G) (cA : Nat → ClassId) (tt : Nat → Nat) (v : Int32)  (sz : Nat) : Ci l D cA tt yX7_isRow wsX7_isRow ({ frames := 0, cells := 0, slots := 0, locals := 0 } : Room) [.int (v)] sz ([] : va_W) ([] : va_W) (bI (inI v (nI 0) (nI 7))) := by
  refine Ci.mk (cc := cX7_isRow) (maxL := 1) (ty := .boolean) (by decide) rfl (bI_n _) (Nat.le_of_ble_eq_true rfl) ?_
  intro p e s m below meth c A Q ls hB hl hend
  obtain ⟨⟨hx, hb, hml, hown, hts⟩, hP, hK, hD, hS, hA, hE⟩ := hB
  have hown : s.vm.findClass RX7 = some m.cls := hown
  have hl : lv_has ls 1 [(0, .int (v))] := hl
  refine lv_iload_n hx hb dX7_isRow_0 rfl (lv_at hl 0 rfl) ?_
  refine lv_if_lt (tgt := 14) hx hb dX7_isRow_1 (by decide) (fun c1 => ?_) (fun c1 => ?_)
  · skip
    refine lv_iconst (v := nI (0)) hx hb dX7_isRow_14 (by decide) ?_
    exact hend _ _ _ _ _ hP hD hS (zero_bI (inI_lo c1)) dX7_isRow_15
  · skip
    refine lv_iload_n hx hb dX7_isRow_4 rfl (lv_at hl 0 rfl) ?_
    refine lv_bipush (v := nI (8)) hx hb dX7_isRow_5 (by decide) ?_
    refine lv_icmp_ge (tgt := 14) hx hb dX7_isRow_7 (by decide) (fun c2 => ?_) (fun c2 => ?_)
    · skip
      refine lv_iconst (v := nI (0)) hx hb dX7_isRow_14 (by decide) ?_
      exact hend _ _ _ _ _ hP hD hS (zero_bI (inI_ge (k := 7) (by decide) c2)) dX7_isRow_15
    · skip
      refine lv_iconst (v := nI (1)) hx hb dX7_isRow_10 (by decide) ?_
      refine lv_goto (tgt := 15) hx hb dX7_isRow_11 (by decide) ?_
      exact hend _ _ _ _ _ hP hD hS (one_bI (inI_ok2 (k := 7) (by decide) c1 c2)) dX7_isRow_15
set_option maxRecDepth 100000 in
set_option maxHeartbeats 4000000 in
theorem c_X7_isEither (l : Launch) (D : va_G) (cA : Nat → ClassId) (tt : Nat → Nat) (v : Int32)  (sz : Nat) : Ci l D cA tt yX7_isEither wsX7_isEither ({ frames := 0, cells := 0, slots := 0, locals := 0 } : Room) [.int (v)] sz ([] : va_W) ([] : va_W) (bI (inI v (nI 0) (nI 1))) := by
  refine Ci.mk (cc := cX7_isEither) (maxL := 1) (ty := .boolean) (by decide) rfl (bI_n _) (Nat.le_of_ble_eq_true rfl) ?_
  intro p e s m below meth c A Q ls hB hl hend
  obtain ⟨⟨hx, hb, hml, hown, hts⟩, hP, hK, hD, hS, hA, hE⟩ := hB
  have hown : s.vm.findClass RX7 = some m.cls := hown
  have hl : lv_has ls 1 [(0, .int (v))] := hl
  refine lv_iload_n hx hb dX7_isEither_0 rfl (lv_at hl 0 rfl) ?_
  refine lv_if_eq (tgt := 9) hx hb dX7_isEither_1 (by decide) (fun c1 => ?_) (fun c1 => ?_)
  · skip
    refine lv_iconst (v := nI (1)) hx hb dX7_isEither_9 (by decide) ?_
    refine lv_goto (tgt := 14) hx hb dX7_isEither_10 (by decide) ?_
    exact hend _ _ _ _ _ hP hD hS (one_bI (by rw [c1]; decide)) dX7_isEither_14
  · skip
    refine lv_iload_n hx hb dX7_isEither_4 rfl (lv_at hl 0 rfl) ?_
    refine lv_iconst (v := nI (1)) hx hb dX7_isEither_5 (by decide) ?_
    refine lv_icmp_ne (tgt := 13) hx hb dX7_isEither_6 (by decide) (fun c2 => ?_) (fun c2 => ?_)
    · skip
      refine lv_iconst (v := nI (0)) hx hb dX7_isEither_13 (by decide) ?_
      exact hend _ _ _ _ _ hP hD hS (zero_bI (inI_01 c1 c2)) dX7_isEither_14
    · skip
      refine lv_iconst (v := nI (1)) hx hb dX7_isEither_9 (by decide) ?_
      refine lv_goto (tgt := 14) hx hb dX7_isEither_10 (by decide) ?_
      exact hend _ _ _ _ _ hP hD hS (one_bI (by rw [c2]; decide)) dX7_isEither_14
set_option maxRecDepth 100000 in
set_option maxHeartbeats 4000000 in
theorem c_X7_isOfKind (l : Launch) (D : va_G) (cA : Nat → ClassId) (tt : Nat → Nat) (k kd : Nat) (hk : k ≤ 5) (hd : kd ≤ 5) (sz : Nat) : Ci l D cA tt yX7_isOfKind wsX7_isOfKind ({ frames := 1, cells := 0, slots := 0, locals := 22 } : Room) [.int (nI (k)), .int (nI (kd))] sz ([] : va_W) ([] : va_W) (bI (isA k kd)) := by
  refine Ci.mk (cc := cX7_isOfKind) (maxL := 4) (ty := .boolean) (by decide) rfl (bI_n _) (Nat.le_of_ble_eq_true rfl) ?_
  intro p e s m below meth c A Q ls hB hl hend
  obtain ⟨⟨hx, hb, hml, hown, hts⟩, hP, hK, hD, hS, hA, hE⟩ := hB
  have hown : s.vm.findClass RX7 = some m.cls := hown
  have hl : lv_has ls 4 [(0, .int (nI (k))), (1, .int (nI (kd)))] := hl
  refine lv_iload_n hx hb dX7_isOfKind_0 rfl (lv_at hl 0 rfl) ?_
  refine lv_istore_n (lv' := [(2, .int (nI (k))), (0, .int (nI (k))), (1, .int (nI (kd)))]) hx hb dX7_isOfKind_1 rfl hl (by decide) rfl (fun ls hl => ?_)
  refine lv_iconst (v := nI (0)) hx hb dX7_isOfKind_2 (by decide) ?_
  refine lv_istore_n (lv' := [(3, .int (nI (0))), (2, .int (nI (k))), (0, .int (nI (k))), (1, .int (nI (kd)))]) hx hb dX7_isOfKind_3 rfl hl (by decide) rfl (fun ls hl => ?_)
  have loop4 : ∀ (N4 : Nat) (i : Nat), (i ≤ 6) → (∀ j, j < i → itP j k ≠ kd) → (6 - i) < N4 → ∀ (H : Heap) (locs : List Loc) (ls : Array Slot), va_P D vwCl ([] : va_W) H → va_D A ([] : va_W) → va_S A s.heap H locs → lv_has ls 4 [(3, .int (nI (i))), (2, .int (nI (itP i k))), (0, .int (nI (k))), (1, .int (nI (kd)))] → W p l e ({ frames := 1, cells := 0, slots := 0, locals := 22 } : Room) s m ([.int (nI (k)), .int (nI (kd))] : List Value).toArray below meth c H locs 0 0 Q (F0 m 4 ls []) := by
    intro N4
    induction N4 with
    | zero => intro i iv4_0 iv4_1 hN; exact absurd hN (Nat.not_lt_zero _)
    | succ N4 ih4 =>
      intro i iv4_0 iv4_1 hN4 H locs ls hP hD hS hl
      have fk := itP_le i hk
      refine lv_iload_n hx hb dX7_isOfKind_4 rfl (lv_at hl 0 rfl) ?_
      refine va_gets hx hb hE.2.1.1 hS hown (hts (.fieldLink RX7 307 "AdventStreets" "IS_TOO" "[I") (List.mem_of_getElem? (i := 1) rfl)) (fun _ h9 => h9) dX7_isOfKind_5 ?_
      refine va_tlen hx hb hE.2.1.2 hS (v := nI 6) rfl dX7_isOfKind_8 ?_
      refine lv_icmp_ge (tgt := 47) hx hb dX7_isOfKind_9 (by decide) (fun c2 => ?_) (fun c2 => ?_)
      · skip
        rw [nI_leI (by omega) (by omega)] at c2
        refine lv_iload_n hx hb dX7_isOfKind_47 rfl (lv_at hl 1 rfl) ?_
        refine lv_iload_n hx hb dX7_isOfKind_48 rfl (lv_at hl 3 rfl) ?_
        refine lv_icmp_ne (tgt := 56) hx hb dX7_isOfKind_49 (by decide) (fun c3 => ?_) (fun c3 => ?_)
        · skip
          rw [nI_eq (by omega) (by omega)] at c3
          refine lv_iconst (v := nI (0)) hx hb dX7_isOfKind_56 (by decide) ?_
          exact hend _ _ _ _ _ hP hD hS (zero_bI (isA_f hk hd (i := i) (by omega) iv4_1 c3)) dX7_isOfKind_57
        · skip
          rw [nI_eq (by omega) (by omega)] at c3
          refine lv_iconst (v := nI (1)) hx hb dX7_isOfKind_52 (by decide) ?_
          refine lv_goto (tgt := 57) hx hb dX7_isOfKind_53 (by decide) ?_
          exact hend _ _ _ _ _ hP hD hS (one_bI (isA_t hk hd (i := i) (by omega) c3)) dX7_isOfKind_57
      · skip
        rw [nI_leI (by omega) (by omega)] at c2
        refine lv_iload_n hx hb dX7_isOfKind_12 rfl (lv_at hl 1 rfl) ?_
        refine lv_iload_n hx hb dX7_isOfKind_13 rfl (lv_at hl 3 rfl) ?_
        refine lv_icmp_eq (tgt := 47) hx hb dX7_isOfKind_14 (by decide) (fun c4 => ?_) (fun c4 => ?_)
        · skip
          rw [nI_eq (by omega) (by omega)] at c4
          refine lv_iload_n hx hb dX7_isOfKind_47 rfl (lv_at hl 1 rfl) ?_
          refine lv_iload_n hx hb dX7_isOfKind_48 rfl (lv_at hl 3 rfl) ?_
          refine lv_icmp_ne (tgt := 56) hx hb dX7_isOfKind_49 (by decide) (fun c5 => ?_) (fun c5 => ?_)
          · skip
            rw [nI_eq (by omega) (by omega)] at c5
            refine lv_iconst (v := nI (0)) hx hb dX7_isOfKind_56 (by decide) ?_
            exact hend _ _ _ _ _ hP hD hS (zero_bI (isA_f hk hd (i := i) (by omega) iv4_1 c5)) dX7_isOfKind_57
          · skip
            rw [nI_eq (by omega) (by omega)] at c5
            refine lv_iconst (v := nI (1)) hx hb dX7_isOfKind_52 (by decide) ?_
            refine lv_goto (tgt := 57) hx hb dX7_isOfKind_53 (by decide) ?_
            exact hend _ _ _ _ _ hP hD hS (one_bI (isA_t hk hd (i := i) (by omega) c5)) dX7_isOfKind_57
        · skip
          rw [nI_eq (by omega) (by omega)] at c4
          refine lv_iload_n hx hb dX7_isOfKind_17 rfl (lv_at hl 1 rfl) ?_
          refine lv_iconst (v := nI (0)) hx hb dX7_isOfKind_18 (by decide) ?_
          refine va_gets hx hb hE.2.1.1 hS hown (hts (.fieldLink RX7 307 "AdventStreets" "IS_TOO" "[I") (List.mem_of_getElem? (i := 1) rfl)) (fun _ h9 => h9) dX7_isOfKind_19 ?_
          refine va_tlen hx hb hE.2.1.2 hS (v := nI 6) rfl dX7_isOfKind_22 ?_
          refine lv_iconst (v := nI (1)) hx hb dX7_isOfKind_23 (by decide) ?_
          refine lv_isub hx hb dX7_isOfKind_24 ?_
          refine vn_i (v := nI (5)) (by decide) ?_
          refine cSi (n := 3) (As := [.int (nI (itP i k)), .int (nI (0)), .int (nI (5))]) (rest := []) (X := ([] : va_W)) (pl := []) (wc := ([] : va_W)) (wr := ([] : va_W)) (w1 := ([] : va_W)) (wn := ([] : va_W)) (isC := []) (isR := []) (isN := []) ⟨hx, hb, hml, hown, hts⟩ (c_X7_isWithin l D cA tt (nI (itP i k)) (nI (0)) (nI (5))  _) gX7_isOfKind_X7_isWithin rfl (by decide +kernel) ⟨rfl, rfl⟩ ⟨Nat.le_of_ble_eq_true rfl, Nat.le_of_ble_eq_true rfl⟩ ⟨Nat.zero_le _, Nat.zero_le _⟩ hK hE hA hP hD hS ⟨⟨rfl, by decide⟩, ⟨rfl, by decide, by decide⟩, rfl, by decide⟩ rfl hl.1 rfl (Nat.le_of_ble_eq_true rfl) dX7_isOfKind_25 (fun H locs hP hD hS => ?_)
          have hP : va_P D vwCl ([] : va_W) H := hP
          have hD : va_D A ([] : va_W) := hD
          refine lv_if_eq (tgt := 39) hx hb dX7_isOfKind_28 (by decide) (fun c6 => ?_) (fun _ => ?_)
          · rw [bI_z, inI_nat (Nat.zero_le _) (by omega) (by decide)] at c6
            cases c6
          refine va_gets hx hb hE.2.1.1 hS hown (hts (.fieldLink RX7 307 "AdventStreets" "IS_TOO" "[I") (List.mem_of_getElem? (i := 1) rfl)) (fun _ h9 => h9) dX7_isOfKind_31 ?_
          refine lv_iload_n hx hb dX7_isOfKind_34 rfl (lv_at hl 1 rfl) ?_
          refine va_ti hx hb hE.2.1.2 hS (vp_in_nI (n := itP i k) (by omega) (by decide)) rfl dX7_isOfKind_35 ?_
          refine vn_i (v := nI (pr0 (itP i k))) (by rw [nI_clamp (by omega)]; rfl) ?_
          refine lv_goto (tgt := 40) hx hb dX7_isOfKind_36 (by decide) ?_
          refine lv_istore_n (lv' := [(2, .int (nI (pr0 (itP i k)))), (3, .int (nI (i))), (0, .int (nI (k))), (1, .int (nI (kd)))]) hx hb dX7_isOfKind_40 rfl hl (by decide) rfl (fun ls hl => ?_)
          refine lv_iinc (v := nI (i + 1)) (lv' := [(3, .int (nI (i + 1))), (2, .int (nI (pr0 (itP i k)))), (0, .int (nI (k))), (1, .int (nI (kd)))]) hx hb dX7_isOfKind_41 hl (k := 1) rfl (nI_add _ _) (by decide) rfl (fun ls hl => ?_)
          refine lv_goto (tgt := 4) hx hb dX7_isOfKind_44 (by decide) ?_
          have hl9 := lv_sub (l' := [(3, .int (nI (i + 1))), (2, .int (nI (pr0 (itP i k)))), (0, .int (nI (k))), (1, .int (nI (kd)))]) hl [0, 1, 2, 3] rfl
          have el6 : (.int (nI (pr0 (itP i k))) : Value) = .int (nI (itP (i + 1) k)) := by
            rfl
          rw [el6] at hl9
          exact ih4 (i + 1) (by omega) (lt_s (p := fun j => itP j k ≠ kd) iv4_1 c4) (by omega) _ _ _ hP hD hS hl9
  have hl9 := lv_sub (l' := [(3, .int (nI (0))), (2, .int (nI (k))), (0, .int (nI (k))), (1, .int (nI (kd)))]) hl [0, 1, 2, 3] rfl
  have el7 : (.int (nI (k)) : Value) = .int (nI (itP 0 k)) := by
    rfl
  rw [el7] at hl9
  exact loop4 _ 0 (by decide) (lt_0) (Nat.lt_succ_self _) _ _ _ hP hD hS hl9
set_option maxRecDepth 100000 in
set_option maxHeartbeats 4000000 in
theorem c_X7_firstBody (l : Launch) (D : va_G) (cA : Nat → ClassId) (tt : Nat → Nat) (k w : Nat) (hk : 1 ≤ k ∧ k ≤ 5) (hw : w ≤ 1) (sz : Nat) : Ci l D cA tt yX7_firstBody wsX7_firstBody ({ frames := 1, cells := 0, slots := 0, locals := 22 } : Room) [.int (nI (k)), .int (nI (w))] sz ([] : va_W) ([] : va_W) (nI (bodN k w)) := by
  refine Ci.mk (cc := cX7_firstBody) (maxL := 2) (ty := .int) (by decide) rfl rfl (Nat.le_of_ble_eq_true rfl) ?_
  intro p e s m below meth c A Q ls hB hl hend
  obtain ⟨⟨hx, hb, hml, hown, hts⟩, hP, hK, hD, hS, hA, hE⟩ := hB
  have hown : s.vm.findClass RX7 = some m.cls := hown
  have hl : lv_has ls 2 [(0, .int (nI (k))), (1, .int (nI (w)))] := hl
  refine lv_iload_n hx hb dX7_firstBody_0 rfl (lv_at hl 0 rfl) ?_
  refine lv_iconst (v := nI (1)) hx hb dX7_firstBody_1 (by decide) ?_
  refine lv_iconst (v := nI (5)) hx hb dX7_firstBody_2 (by decide) ?_
  refine cSi (n := 3) (As := [.int (nI (k)), .int (nI (1)), .int (nI (5))]) (rest := []) (X := ([] : va_W)) (pl := []) (wc := ([] : va_W)) (wr := ([] : va_W)) (w1 := ([] : va_W)) (wn := ([] : va_W)) (isC := []) (isR := []) (isN := []) ⟨hx, hb, hml, hown, hts⟩ (c_X7_isWithin l D cA tt (nI (k)) (nI (1)) (nI (5))  _) gX7_firstBody_X7_isWithin rfl (by decide +kernel) ⟨rfl, rfl⟩ ⟨Nat.le_of_ble_eq_true rfl, Nat.le_of_ble_eq_true rfl⟩ ⟨Nat.zero_le _, Nat.zero_le _⟩ hK hE hA hP hD hS ⟨⟨rfl, by decide⟩, ⟨rfl, by decide, by decide⟩, rfl, by decide⟩ rfl hl.1 rfl (Nat.le_of_ble_eq_true rfl) dX7_firstBody_3 (fun H locs hP hD hS => ?_)
  have hP : va_P D vwCl ([] : va_W) H := hP
  have hD : va_D A ([] : va_W) := hD
  refine lv_if_ne (tgt := 12) hx hb dX7_firstBody_6 (by decide) (fun c1 => ?_) (fun c1 => ?_)
  · skip
    rw [bI_nz] at c1
    refine lv_iload_n hx hb dX7_firstBody_12 rfl (lv_at hl 1 rfl) ?_
    refine lv_if_ne (tgt := 24) hx hb dX7_firstBody_13 (by decide) (fun c2 => ?_) (fun c2 => ?_)
    · skip
      rw [n_z (by omega)] at c2
      refine va_gets hx hb hE.2.2.2.1 hS hown (hts (.fieldLink RX7 313 "AdventStreets" "MARK_BODIES" "[I") (List.mem_of_getElem? (i := 3) rfl)) (fun _ h9 => h9) dX7_firstBody_24 ?_
      refine lv_iload_n hx hb dX7_firstBody_27 rfl (lv_at hl 0 rfl) ?_
      refine va_ti hx hb hE.2.2.2.2 hS (vp_in_nI (n := k) (by omega) (by decide)) rfl dX7_firstBody_28 ?_
      refine vn_i (v := nI (pr2 k)) (by rw [nI_clamp (by omega)]; rfl) ?_
      exact hend _ _ _ _ _ hP hD hS (by rw [bodN, if_neg (by omega)]) dX7_firstBody_29
    · skip
      rw [n_z (by omega)] at c2
      refine va_gets hx hb hE.2.2.1.1 hS hown (hts (.fieldLink RX7 310 "AdventStreets" "SIZE_BODIES" "[I") (List.mem_of_getElem? (i := 2) rfl)) (fun _ h9 => h9) dX7_firstBody_16 ?_
      refine lv_iload_n hx hb dX7_firstBody_19 rfl (lv_at hl 0 rfl) ?_
      refine va_ti hx hb hE.2.2.1.2 hS (vp_in_nI (n := k) (by omega) (by decide)) rfl dX7_firstBody_20 ?_
      refine vn_i (v := nI (pr1 k)) (by rw [nI_clamp (by omega)]; rfl) ?_
      refine lv_goto (tgt := 29) hx hb dX7_firstBody_21 (by decide) ?_
      exact hend _ _ _ _ _ hP hD hS (by rw [bodN, if_pos (by omega)]) dX7_firstBody_29
  · skip
    rw [bI_z] at c1
    exact absurd (inI_nat (a := k) (lo := 1) (hi := 5) (by omega) (by omega) (by omega)) (by rw [c1]; decide)
set_option maxRecDepth 100000 in
set_option maxHeartbeats 4000000 in
theorem c_X7_power (l : Launch) (D : va_G) (cA : Nat → ClassId) (tt : Nat → Nat) (b n : Nat) (hb9 : b ≤ 10) (hn : n ≤ 10) (sz : Nat) : Cl l D cA tt yX7_power wsX7_power ({ frames := 0, cells := 0, slots := 0, locals := 0 } : Room) [.int (nI (b)), .int (nI (n))] sz ([] : va_W) ([] : va_W) (lN (b ^ n)) := by
  refine Cl.mk (cc := cX7_power) (maxL := 5) (by decide) rfl (Nat.le_of_ble_eq_true rfl) ?_
  intro p e s m below meth c A Q ls hB hl hend
  obtain ⟨⟨hx, hb, hml, hown, hts⟩, hP, hK, hD, hS, hA, hE⟩ := hB
  have hown : s.vm.findClass RX7 = some m.cls := hown
  have hl : lv_has ls 5 [(0, .int (nI (b))), (1, .int (nI (n)))] := hl
  refine lv_lconst (v := lN 1) hx hb dX7_power_0 rfl ?_
  refine lv_lstore_n (lv' := [(2, .long (lN (1))), (0, .int (nI (b))), (1, .int (nI (n)))]) hx hb dX7_power_1 rfl hl (by decide) rfl (fun ls hl => ?_)
  refine lv_iconst (v := nI (0)) hx hb dX7_power_2 (by decide) ?_
  refine lv_istore (lv' := [(4, .int (nI (0))), (2, .long (lN (1))), (0, .int (nI (b))), (1, .int (nI (n)))]) hx hb dX7_power_3 hl (by decide) rfl (fun ls hl => ?_)
  have loop5 : ∀ (N5 : Nat) (i : Nat), (i ≤ n) → (n - i) < N5 → ∀ (H : Heap) (locs : List Loc) (ls : Array Slot), va_P D vwCl ([] : va_W) H → va_D A ([] : va_W) → va_S A s.heap H locs → lv_has ls 5 [(4, .int (nI (i))), (2, .long (lN (b ^ i))), (0, .int (nI (b))), (1, .int (nI (n)))] → W p l e ({ frames := 0, cells := 0, slots := 0, locals := 0 } : Room) s m ([.int (nI (b)), .int (nI (n))] : List Value).toArray below meth c H locs 0 0 Q (F0 m 5 ls []) := by
    intro N5
    induction N5 with
    | zero => intro i iv5_0 hN; exact absurd hN (Nat.not_lt_zero _)
    | succ N5 ih5 =>
      intro i iv5_0 hN5 H locs ls hP hD hS hl
      refine lv_iload hx hb dX7_power_5 (lv_at hl 0 rfl) ?_
      refine lv_iload_n hx hb dX7_power_7 rfl (lv_at hl 3 rfl) ?_
      refine lv_icmp_ge (tgt := 22) hx hb dX7_power_8 (by decide) (fun c2 => ?_) (fun c2 => ?_)
      · skip
        rw [nI_leI (by omega) (by omega)] at c2
        refine lv_lload_n hx hb dX7_power_22 rfl (lv_at hl 1 rfl) ?_
        exact hend _ _ _ _ _ hP hD hS (by rw [show i = n by omega]) dX7_power_23
      · skip
        rw [nI_leI (by omega) (by omega)] at c2
        refine lv_lload_n hx hb dX7_power_11 rfl (lv_at hl 1 rfl) ?_
        refine lv_iload_n hx hb dX7_power_12 rfl (lv_at hl 2 rfl) ?_
        refine lv_i2l (v := lN (b)) hx hb dX7_power_13 (nI_l (by omega)) ?_
        refine lv_lmul hx hb dX7_power_14 ?_
        refine vn_l (v := lN ((b ^ i) * b)) (lN_mul _ _) ?_
        refine lv_lstore_n (lv' := [(2, .long (lN ((b ^ i) * b))), (4, .int (nI (i))), (0, .int (nI (b))), (1, .int (nI (n)))]) hx hb dX7_power_15 rfl hl (by decide) rfl (fun ls hl => ?_)
        refine lv_iinc (v := nI (i + 1)) (lv' := [(4, .int (nI (i + 1))), (2, .long (lN ((b ^ i) * b))), (0, .int (nI (b))), (1, .int (nI (n)))]) hx hb dX7_power_16 hl (k := 1) rfl (nI_add _ _) (by decide) rfl (fun ls hl => ?_)
        refine lv_goto (tgt := 5) hx hb dX7_power_19 (by decide) ?_
        have hl9 := lv_sub (l' := [(4, .int (nI (i + 1))), (2, .long (lN ((b ^ i) * b))), (0, .int (nI (b))), (1, .int (nI (n)))]) hl [0, 1, 2, 3] rfl
        have el3 : (.long (lN ((b ^ i) * b)) : Value) = .long (lN (b ^ (i + 1))) := by
          rfl
        rw [el3] at hl9
        exact ih5 (i + 1) (by omega) (by omega) _ _ _ hP hD hS hl9
  have hl9 := lv_sub (l' := [(4, .int (nI (0))), (2, .long (lN (1))), (0, .int (nI (b))), (1, .int (nI (n)))]) hl [0, 1, 2, 3] rfl
  have el4 : (.long (lN (1)) : Value) = .long (lN (b ^ 0)) := by
    rfl
  rw [el4] at hl9
  exact loop5 _ 0 (by omega) (Nat.lt_succ_self _) _ _ _ hP hD hS hl9
set_option maxRecDepth 100000 in
set_option maxHeartbeats 4000000 in
theorem c_X7_commonDivisor (l : Launch) (D : va_G) (cA : Nat → ClassId) (tt : Nat → Nat) (x y : Nat) (hx9 : x < 2 ^ 45) (hy9 : y < 2 ^ 45) (sz : Nat) : Cl l D cA tt yX7_commonDivisor wsX7_commonDivisor ({ frames := 0, cells := 0, slots := 0, locals := 0 } : Room) [.long (lN (x)), .long (lN (y))] sz ([] : va_W) ([] : va_W) (lN (Nat.gcd x y)) := by
  refine Cl.mk (cc := cX7_commonDivisor) (maxL := 11) (by decide) rfl (Nat.le_of_ble_eq_true rfl) ?_
  intro p e s m below meth c A Q ls hB hl hend
  obtain ⟨⟨hx, hb, hml, hown, hts⟩, hP, hK, hD, hS, hA, hE⟩ := hB
  have hown : s.vm.findClass RX7 = some m.cls := hown
  have hl : lv_has ls 11 [(0, .long (lN (x))), (2, .long (lN (y)))] := hl
  refine lv_lload_n hx hb dX7_commonDivisor_0 rfl (lv_at hl 0 rfl) ?_
  refine lv_lstore (lv' := [(4, .long (lN (x))), (0, .long (lN (x))), (2, .long (lN (y)))]) hx hb dX7_commonDivisor_1 hl (by decide) rfl (fun ls hl => ?_)
  refine lv_lload_n hx hb dX7_commonDivisor_3 rfl (lv_at hl 2 rfl) ?_
  refine lv_lstore (lv' := [(6, .long (lN (y))), (4, .long (lN (x))), (0, .long (lN (x))), (2, .long (lN (y)))]) hx hb dX7_commonDivisor_4 hl (by decide) rfl (fun ls hl => ?_)
  refine lv_iconst (v := nI (0)) hx hb dX7_commonDivisor_6 (by decide) ?_
  refine lv_istore (lv' := [(8, .int (nI (0))), (6, .long (lN (y))), (4, .long (lN (x))), (0, .long (lN (x))), (2, .long (lN (y)))]) hx hb dX7_commonDivisor_7 hl (by decide) rfl (fun ls hl => ?_)
  have loop9 : ∀ (N9 : Nat) (i : Nat) (g : Nat) (h : Nat), (i ≤ 200) → (gcI x y i g h) → (200 - i) < N9 → ∀ (H : Heap) (locs : List Loc) (ls : Array Slot), va_P D vwCl ([] : va_W) H → va_D A ([] : va_W) → va_S A s.heap H locs → lv_has ls 11 [(8, .int (nI (i))), (6, .long (lN (h))), (4, .long (lN (g))), (0, .long (lN (x))), (2, .long (lN (y)))] → W p l e ({ frames := 0, cells := 0, slots := 0, locals := 0 } : Room) s m ([.long (lN (x)), .long (lN (y))] : List Value).toArray below meth c H locs 0 0 Q (F0 m 9 ls []) := by
    intro N9
    induction N9 with
    | zero => intro i g h iv9_0 iv9_1 hN; exact absurd hN (Nat.not_lt_zero _)
    | succ N9 ih9 =>
      intro i g h iv9_0 iv9_1 hN9 H locs ls hP hD hS hl
      have gb := iv9_1.2.1
      have gb2 := iv9_1.2.2.1
      refine lv_iload hx hb dX7_commonDivisor_9 (lv_at hl 0 rfl) ?_
      refine lv_sipush (v := nI (200)) hx hb dX7_commonDivisor_11 (by decide) ?_
      refine lv_icmp_ge (tgt := 45) hx hb dX7_commonDivisor_14 (by decide) (fun c2 => ?_) (fun c2 => ?_)
      · skip
        rw [nI_leI (by omega) (by omega)] at c2
        refine lv_lload hx hb dX7_commonDivisor_45 (lv_at hl 2 rfl) ?_
        exact hend _ _ _ _ _ hP hD hS (by rw [iv9_1.done (by omega)]) dX7_commonDivisor_47
      · skip
        rw [nI_leI (by omega) (by omega)] at c2
        refine lv_lload hx hb dX7_commonDivisor_17 (lv_at hl 1 rfl) ?_
        refine lv_lconst (v := lN 0) hx hb dX7_commonDivisor_19 rfl ?_
        refine W.lcmp hx hb dX7_commonDivisor_20 ?_
        refine lv_if_eq (tgt := 45) hx hb dX7_commonDivisor_21 (by decide) (fun c3 => ?_) (fun c3 => ?_)
        · skip
          rw [lg_cmp_eq] at c3
          rw [pk_lEQ (by omega) (by omega)] at c3
          refine lv_lload hx hb dX7_commonDivisor_45 (lv_at hl 2 rfl) ?_
          exact hend _ _ _ _ _ hP hD hS (by rw [iv9_1.done (by omega)]) dX7_commonDivisor_47
        · skip
          rw [lg_cmp_eq] at c3
          rw [pk_lEQ (by omega) (by omega)] at c3
          refine lv_lload hx hb dX7_commonDivisor_24 (lv_at hl 2 rfl) ?_
          refine lv_lload hx hb dX7_commonDivisor_26 (lv_at hl 1 rfl) ?_
          refine lv_lrem hx hb dX7_commonDivisor_28 (lN_ne0 (by omega) (by omega)) ?_
          refine vn_l (v := lN (g % h)) (pk_lRem (by omega) (by omega) (by omega)) ?_
          refine lv_lstore (lv' := [(9, .long (lN (g % h))), (8, .int (nI (i))), (6, .long (lN (h))), (4, .long (lN (g))), (0, .long (lN (x))), (2, .long (lN (y)))]) hx hb dX7_commonDivisor_29 hl (by decide) rfl (fun ls hl => ?_)
          refine lv_lload hx hb dX7_commonDivisor_31 (lv_at hl 2 rfl) ?_
          refine lv_lstore (lv' := [(4, .long (lN (h))), (9, .long (lN (g % h))), (8, .int (nI (i))), (6, .long (lN (h))), (0, .long (lN (x))), (2, .long (lN (y)))]) hx hb dX7_commonDivisor_33 hl (by decide) rfl (fun ls hl => ?_)
          refine lv_lload hx hb dX7_commonDivisor_35 (lv_at hl 1 rfl) ?_
          refine lv_lstore (lv' := [(6, .long (lN (g % h))), (4, .long (lN (h))), (9, .long (lN (g % h))), (8, .int (nI (i))), (0, .long (lN (x))), (2, .long (lN (y)))]) hx hb dX7_commonDivisor_37 hl (by decide) rfl (fun ls hl => ?_)
          refine lv_iinc (v := nI (i + 1)) (lv' := [(8, .int (nI (i + 1))), (6, .long (lN (g % h))), (4, .long (lN (h))), (9, .long (lN (g % h))), (0, .long (lN (x))), (2, .long (lN (y)))]) hx hb dX7_commonDivisor_39 hl (k := 3) rfl (nI_add _ _) (by decide) rfl (fun ls hl => ?_)
          refine lv_goto (tgt := 9) hx hb dX7_commonDivisor_42 (by decide) ?_
          have hl9 := lv_sub (l' := [(8, .int (nI (i + 1))), (6, .long (lN (g % h))), (4, .long (lN (h))), (0, .long (lN (x))), (2, .long (lN (y)))]) hl [0, 1, 2, 4, 5] rfl
          exact ih9 (i + 1) h (g % h) (by omega) (iv9_1.step (by omega)) (by omega) _ _ _ hP hD hS hl9
  have hl9 := lv_sub (l' := [(8, .int (nI (0))), (6, .long (lN (y))), (4, .long (lN (x))), (0, .long (lN (x))), (2, .long (lN (y)))]) hl [0, 1, 2, 3, 4] rfl
  exact loop9 _ 0 x y (by decide) (gcI.init hx9 hy9) (Nat.lt_succ_self _) _ _ _ hP hD hS hl9
