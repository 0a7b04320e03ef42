/-! ===== Reader ===== -/
theorem inI_tN {v lo hi : Nat} (hv : v < 2 ^ 31) (hl : lo < 2 ^ 31) (hh : hi < 2 ^ 31) (h : inI (nI v) (nI lo) (nI hi) = true) : lo ≤ v ∧ v ≤ hi := by
  unfold inI at h
  rw [Bool.and_eq_true, decide_eq_true_eq, decide_eq_true_eq, nI_leI hl hv, nI_leI hv hh] at h
  exact h
theorem inI_fN {v lo hi : Nat} (hv : v < 2 ^ 31) (hl : lo < 2 ^ 31) (hh : hi < 2 ^ 31) (h : inI (nI v) (nI lo) (nI hi) = false) : v < lo ∨ hi < v := by
  by_cases a : v < lo
  · exact Or.inl a
  · by_cases b : hi < v
    · exact Or.inr b
    · rw [inI_nat (by omega) (by omega) hh] at h
      cases h
set_option maxRecDepth 100000 in
set_option maxHeartbeats 4000000 in
theorem c_X2_fail (l : Launch) (D : va_G) (cA : Nat → ClassId) (tt : Nat → Nat) (q : Nat) (r : Nat × Nat) (k : Nat)  (sz : Nat) : Cv l D cA tt yX2_fail wsX2_fail ({ frames := 0, cells := 0, slots := 0, locals := 0 } : Room) [.ref (q), .int (nI (k))] sz [(q, .inr (2, [.int (nI (r.1)), .int (nI (r.2))]))] [(q, .inr (2, [.int (nI (r.1)), .int (nI (k))]))] := by
  refine Cv.mk (cc := cX2_fail) (maxL := 2) (by decide) rfl (Nat.le_of_ble_eq_true rfl) ?_
  intro p e s m below meth c A Q ls hB hl hend
  obtain ⟨⟨hx, hb, hml, hown, hts⟩, hP, hK, hD, hS, hA, hE⟩ := hB
  have hown : s.vm.findClass RX2 = some m.cls := hown
  have hwsX20 : ∀ w9 ∈ wsX20, w9.before ([.ref (q), .int (nI (k))] : List Value).toArray s = true := fun w9 h => hts w9 (List.mem_cons_of_mem _ (List.mem_append_right _ h))
  have hl : lv_has ls 2 [(0, .ref (q)), (1, .int (nI (k)))] := hl
  refine lv_aload_n hx hb dX2_fail_0 rfl (lv_at hl 0 rfl) ?_
  refine lv_iload_n hx hb dX2_fail_1 rfl (lv_at hl 1 rfl) ?_
  refine va_put (v := .int (nI (k))) (ty := .int) (Ts := wsX20) (C := RX2) (T := TX2) (N := 2) hx hb hwsX20 (fun _ h => h) tyX2 tyX2_ok nmX2 hown hK hP hD hS 0 rfl rfl 1 (by decide) (hts (.fieldLink RX2 15 "AdventStreets$Reader" "fault" "I") (List.mem_of_getElem? (i := 1) rfl)) (fun _ h9 => h9) rfl (tyX2_ok 1 (by decide)) rfl rfl (Nat.le_of_ble_eq_true rfl) dX2_fail_2 (fun H locs hP hD hS => ?_)
  have hP : va_P D vwCl [(q, .inr (2, [.int (nI (r.1)), .int (nI (k))]))] H := hP
  have hD : va_D A [(q, .inr (2, [.int (nI (r.1)), .int (nI (k))]))] := hD
  exact hend _ _ _ _ hP hD hS dX2_fail_5
set_option maxRecDepth 100000 in
set_option maxHeartbeats 4000000 in
theorem c_X2_kindOf (l : Launch) (D : va_G) (cA : Nat → ClassId) (tt : Nat → Nat) (ch : Int32)  (sz : Nat) : Ci l D cA tt yX2_kindOf wsX2_kindOf ({ frames := 0, cells := 0, slots := 0, locals := 0 } : Room) [.int (ch)] sz ([] : va_W) ([] : va_W) (kindN ch) := by
  refine Ci.mk (cc := cX2_kindOf) (maxL := 1) (ty := .int) (by decide) rfl rfl (Nat.le_of_ble_eq_true rfl) ?_
  intro p e s m below meth c A Q ls hB hl hend
  obtain ⟨⟨hx, hb, hml, hown, hts⟩, hP, hK, hD, hS, hA, hE⟩ := hB
  have hown : s.vm.findClass RX2 = some m.cls := hown
  have hl : lv_has ls 1 [(0, .int (ch))] := hl
  refine lv_iload_n hx hb dX2_kindOf_0 rfl (lv_at hl 0 rfl) ?_
  by_cases c1 : ch = (99 : Int32)
  · skip
    refine lv_lookup (off := 55) (tgt := 56) hx hb dX2_kindOf_1 (by decide) (by rw [c1]; rfl) (by decide) ?_
    refine lv_iconst (v := nI (3)) hx hb dX2_kindOf_56 (by decide) ?_
    exact hend _ _ _ _ _ hP hD hS (by rw [c1]; decide +kernel) dX2_kindOf_57
  by_cases c2 : ch = (100 : Int32)
  · skip
    refine lv_lookup (off := 53) (tgt := 54) hx hb dX2_kindOf_1 (by decide) (by rw [c2]; rfl) (by decide) ?_
    refine lv_iconst (v := nI (2)) hx hb dX2_kindOf_54 (by decide) ?_
    exact hend _ _ _ _ _ hP hD hS (by rw [c2]; decide +kernel) dX2_kindOf_55
  by_cases c3 : ch = (102 : Int32)
  · skip
    refine lv_lookup (off := 51) (tgt := 52) hx hb dX2_kindOf_1 (by decide) (by rw [c3]; rfl) (by decide) ?_
    refine lv_iconst (v := nI (1)) hx hb dX2_kindOf_52 (by decide) ?_
    exact hend _ _ _ _ _ hP hD hS (by rw [c3]; decide +kernel) dX2_kindOf_53
  by_cases c4 : ch = (114 : Int32)
  · skip
    refine lv_lookup (off := 59) (tgt := 60) hx hb dX2_kindOf_1 (by decide) (by rw [c4]; rfl) (by decide) ?_
    refine lv_iconst (v := nI (5)) hx hb dX2_kindOf_60 (by decide) ?_
    exact hend _ _ _ _ _ hP hD hS (by rw [c4]; decide +kernel) dX2_kindOf_61
  by_cases c5 : ch = (116 : Int32)
  · skip
    refine lv_lookup (off := 57) (tgt := 58) hx hb dX2_kindOf_1 (by decide) (by rw [c5]; rfl) (by decide) ?_
    refine lv_iconst (v := nI (4)) hx hb dX2_kindOf_58 (by decide) ?_
    exact hend _ _ _ _ _ hP hD hS (by rw [c5]; decide +kernel) dX2_kindOf_59
  refine lv_lookup (off := 61) (tgt := 62) hx hb dX2_kindOf_1 (by decide) (by show Op.lookupswitch.offset [(99, 55), (100, 53), (102, 51), (114, 59), (116, 57)] 61 (ch).toInt = 61; rw [lv_osw c1 (by decide +kernel), lv_osw c2 (by decide +kernel), lv_osw c3 (by decide +kernel), lv_osw c4 (by decide +kernel), lv_osw c5 (by decide +kernel)]; rfl) (by decide) ?_
  refine lv_ldc (v := (-1000000)) hx hb hown (hts (.constant RX2 61 (-1000000)) (List.mem_of_getElem? (i := 1) rfl)) dX2_kindOf_62 ?_
  exact hend _ _ _ _ _ hP hD hS ((kindN_eq.mpr (by unfold kindM; rw [if_neg c3, if_neg c2, if_neg c1, if_neg c5, if_neg c4])).symm) dX2_kindOf_64
set_option maxRecDepth 100000 in
set_option maxHeartbeats 4000000 in
theorem c_X2_readByte (l : Launch) (D : va_G) (cA : Nat → ClassId) (tt : Nat → Nat) (q qt qb : Nat) (r : Nat × Nat) (len : Nat) (f : Nat → Nat) (due : Nat) (hlen : len ≤ 130) (hR : Rk len r) (hdu : due < 1000) (sz : Nat) : Cv l D cA tt yX2_readByte wsX2_readByte ({ frames := 1, cells := 0, slots := 0, locals := 21 } : Room) [.ref (q), .ref (qt), .int (nI (due))] sz [(q, .inr (2, [.int (nI (r.1)), .int (nI (r.2))])), (qt, .inr (5, [.ref (qb), .ref (q), .int (nI (len))])), (qb, .inl (cA 0, 130, arN f))] [(q, .inr (2, [.int (nI ((rbF len f due r).1)), .int (nI ((rbF len f due r).2))])), (qt, .inr (5, [.ref (qb), .ref (q), .int (nI (len))])), (qb, .inl (cA 0, 130, arN f))] := by
  obtain ⟨ra, rb⟩ := id hR
  refine Cv.mk (cc := cX2_readByte) (maxL := 3) (by decide) rfl (Nat.le_of_ble_eq_true rfl) ?_
  intro p e s m below meth c A Q ls hB hl hend
  obtain ⟨⟨hx, hb, hml, hown, hts⟩, hP, hK, hD, hS, hA, hE⟩ := hB
  have hown : s.vm.findClass RX2 = some m.cls := hown
  have hwsX20 : ∀ w9 ∈ wsX20, w9.before ([.ref (q), .ref (qt), .int (nI (due))] : List Value).toArray s = true := fun w9 h => hts w9 (List.mem_cons_of_mem _ (List.mem_append_left _ (List.mem_append_right _ h)))
  have hwsX50 : ∀ w9 ∈ wsX50, w9.before ([.ref (q), .ref (qt), .int (nI (due))] : List Value).toArray s = true := fun w9 h => hts w9 (List.mem_cons_of_mem _ (List.mem_append_right _ h))
  have hl : lv_has ls 3 [(0, .ref (q)), (1, .ref (qt)), (2, .int (nI (due)))] := hl
  refine lv_aload_n hx hb dX2_readByte_0 rfl (lv_at hl 0 rfl) ?_
  refine va_get (v := .int (nI (r.2))) (Ts := wsX20) (C := RX2) (T := TX2) (N := 2) hx hb hwsX20 (fun _ h => h) hown hK hP 0 rfl rfl 1 (by decide) (hts (.fieldLink RX2 15 "AdventStreets$Reader" "fault" "I") (List.mem_of_getElem? (i := 1) rfl)) (fun _ h9 => h9) rfl dX2_readByte_1 ?_
  refine lv_if_eq (tgt := 8) hx hb dX2_readByte_4 (by decide) (fun c1 => ?_) (fun c1 => ?_)
  · skip
    rw [n_z (by omega)] at c1
    refine lv_aload_n hx hb dX2_readByte_8 rfl (lv_at hl 1 rfl) ?_
    refine lv_aload_n hx hb dX2_readByte_9 rfl (lv_at hl 0 rfl) ?_
    refine va_get (v := .int (nI (r.1))) (Ts := wsX20) (C := RX2) (T := TX2) (N := 2) hx hb hwsX20 (fun _ h => h) hown hK hP 0 rfl rfl 0 (by decide) (hts (.fieldLink RX2 9 "AdventStreets$Reader" "at" "I") (List.mem_of_getElem? (i := 2) rfl)) (fun _ h9 => h9) rfl dX2_readByte_10 ?_
    refine cVi (n := 1) (As := [.int (nI (r.1))]) (rest := []) (C := RX5) (ci := 5) (q0 := 0) (X := [(q, .inr (2, [.int (nI (r.1)), .int (nI (r.2))])), (qt, .inr (5, [.ref (qb), .ref (q), .int (nI (len))])), (qb, .inl (cA 0, 130, arN f))]) (pl := []) (wc := [(qt, .inr (5, [.ref (qb), .ref (q), .int (nI (len))])), (qb, .inl (cA 0, 130, arN f))]) (wr := [(q, .inr (2, [.int (nI (r.1)), .int (nI (r.2))]))]) (w1 := [(qt, .inr (5, [.ref (qb), .ref (q), .int (nI (len))])), (qb, .inl (cA 0, 130, arN f))]) (wn := [(q, .inr (2, [.int (nI (r.1)), .int (nI (r.2))])), (qt, .inr (5, [.ref (qb), .ref (q), .int (nI (len))])), (qb, .inl (cA 0, 130, arN f))]) (isC := [1, 2]) (isR := [0]) (isN := [0, 1, 2]) ⟨hx, hb, hml, hown, hts⟩ (c_X5_at l D cA tt qt q qb len f r.1 (hlen) (by omega) _) gX2_readByte_X5_at rfl (by decide +kernel) rfl rfl ⟨rfl, rfl⟩ ⟨Nat.le_of_ble_eq_true rfl, Nat.le_of_ble_eq_true rfl⟩ ⟨Nat.zero_le _, Nat.zero_le _⟩ hK hE hA hP hD hS ⟨⟨rfl, by decide⟩, ⟨rfl, by decide, by decide⟩, rfl, by decide⟩ rfl hl.1 rfl (Nat.le_of_ble_eq_true rfl) dX2_readByte_13 (fun H locs hP hD hS => ?_)
    have hP : va_P D vwCl [(q, .inr (2, [.int (nI (r.1)), .int (nI (r.2))])), (qt, .inr (5, [.ref (qb), .ref (q), .int (nI (len))])), (qb, .inl (cA 0, 130, arN f))] H := hP
    have hD : va_D A [(q, .inr (2, [.int (nI (r.1)), .int (nI (r.2))])), (qt, .inr (5, [.ref (qb), .ref (q), .int (nI (len))])), (qb, .inl (cA 0, 130, arN f))] := hD
    refine lv_iload_n hx hb dX2_readByte_16 rfl (lv_at hl 2 rfl) ?_
    refine lv_icmp_ne (tgt := 33) hx hb dX2_readByte_17 (by decide) (fun c2 => ?_) (fun c2 => ?_)
    · skip
      refine lv_aload_n hx hb dX2_readByte_33 rfl (lv_at hl 0 rfl) ?_
      refine lv_iconst (v := nI (1)) hx hb dX2_readByte_34 (by decide) ?_
      refine cVv (n := 1) (As := [.int (nI (1))]) (rest := []) (C := RX2) (ci := 2) (q0 := 0) (X := [(q, .inr (2, [.int (nI (r.1)), .int (nI (r.2))])), (qt, .inr (5, [.ref (qb), .ref (q), .int (nI (len))])), (qb, .inl (cA 0, 130, arN f))]) (pl := []) (wc := [(q, .inr (2, [.int (nI (r.1)), .int (nI (r.2))]))]) (wr := [(qt, .inr (5, [.ref (qb), .ref (q), .int (nI (len))])), (qb, .inl (cA 0, 130, arN f))]) (w1 := [(q, .inr (2, [.int (nI (r.1)), .int (nI (1))]))]) (wn := [(q, .inr (2, [.int (nI (r.1)), .int (nI (1))])), (qt, .inr (5, [.ref (qb), .ref (q), .int (nI (len))])), (qb, .inl (cA 0, 130, arN f))]) (isC := [0]) (isR := [1, 2]) (isN := [2, 0, 1]) ⟨hx, hb, hml, hown, hts⟩ (c_X2_fail l D cA tt q r 1  _) gX2_readByte_X2_fail rfl (by decide +kernel) rfl rfl ⟨rfl, rfl⟩ ⟨Nat.le_of_ble_eq_true rfl, Nat.le_of_ble_eq_true rfl⟩ ⟨Nat.zero_le _, Nat.zero_le _⟩ hK hE hA hP hD hS ⟨⟨rfl, by decide⟩, ⟨rfl, by decide, by decide⟩, rfl, by decide⟩ rfl hl.1 rfl (Nat.le_of_ble_eq_true rfl) dX2_readByte_35 (fun H locs hP hD hS => ?_)
      have hP : va_P D vwCl [(q, .inr (2, [.int (nI (r.1)), .int (nI (1))])), (qt, .inr (5, [.ref (qb), .ref (q), .int (nI (len))])), (qb, .inl (cA 0, 130, arN f))] H := hP
      have hD : va_D A [(q, .inr (2, [.int (nI (r.1)), .int (nI (1))])), (qt, .inr (5, [.ref (qb), .ref (q), .int (nI (len))])), (qb, .inl (cA 0, 130, arN f))] := hD
      have ef3 : ([(q, .inr (2, [.int (nI (r.1)), .int (nI (1))])), (qt, .inr (5, [.ref (qb), .ref (q), .int (nI (len))])), (qb, .inl (cA 0, 130, arN f))] : va_W) = [(q, .inr (2, [.int (nI ((rbF len f due r).1)), .int (nI ((rbF len f due r).2))])), (qt, .inr (5, [.ref (qb), .ref (q), .int (nI (len))])), (qb, .inl (cA 0, 130, arN f))] := by
        rw [rbF, if_pos c1, if_neg c2]
      have hP : va_P D vwCl [(q, .inr (2, [.int (nI ((rbF len f due r).1)), .int (nI ((rbF len f due r).2))])), (qt, .inr (5, [.ref (qb), .ref (q), .int (nI (len))])), (qb, .inl (cA 0, 130, arN f))] _ := Eq.mp (congrArg (fun z9 => va_P D vwCl z9 _) ef3) hP
      have hD : va_D A [(q, .inr (2, [.int (nI ((rbF len f due r).1)), .int (nI ((rbF len f due r).2))])), (qt, .inr (5, [.ref (qb), .ref (q), .int (nI (len))])), (qb, .inl (cA 0, 130, arN f))] := Eq.mp (congrArg (fun z9 => va_D A z9) ef3) hD
      exact hend _ _ _ _ hP hD hS dX2_readByte_38
    · skip
      refine lv_aload_n hx hb dX2_readByte_20 rfl (lv_at hl 0 rfl) ?_
      refine lv_dup hx hb dX2_readByte_21 rfl ?_
      refine va_get (v := .int (nI (r.1))) (Ts := wsX20) (C := RX2) (T := TX2) (N := 2) hx hb hwsX20 (fun _ h => h) hown hK hP 0 rfl rfl 0 (by decide) (hts (.fieldLink RX2 9 "AdventStreets$Reader" "at" "I") (List.mem_of_getElem? (i := 2) rfl)) (fun _ h9 => h9) rfl dX2_readByte_22 ?_
      refine lv_iconst (v := nI (1)) hx hb dX2_readByte_25 (by decide) ?_
      refine lv_iadd hx hb dX2_readByte_26 ?_
      refine vn_i (v := nI (r.1 + 1)) (nI_add _ _) ?_
      refine va_put (v := .int (nI (r.1 + 1))) (ty := .int) (Ts := wsX20) (C := RX2) (T := TX2) (N := 2) hx hb hwsX20 (fun _ h => h) tyX2 tyX2_ok nmX2 hown hK hP hD hS 0 rfl rfl 0 (by decide) (hts (.fieldLink RX2 9 "AdventStreets$Reader" "at" "I") (List.mem_of_getElem? (i := 2) rfl)) (fun _ h9 => h9) rfl (tyX2_ok 0 (by decide)) rfl rfl (Nat.le_of_ble_eq_true rfl) dX2_readByte_27 (fun H locs hP hD hS => ?_)
      have hP : va_P D vwCl [(q, .inr (2, [.int (nI (r.1 + 1)), .int (nI (r.2))])), (qt, .inr (5, [.ref (qb), .ref (q), .int (nI (len))])), (qb, .inl (cA 0, 130, arN f))] H := hP
      have hD : va_D A [(q, .inr (2, [.int (nI (r.1 + 1)), .int (nI (r.2))])), (qt, .inr (5, [.ref (qb), .ref (q), .int (nI (len))])), (qb, .inl (cA 0, 130, arN f))] := hD
      refine lv_goto (tgt := 38) hx hb dX2_readByte_30 (by decide) ?_
      have ef4 : ([(q, .inr (2, [.int (nI (r.1 + 1)), .int (nI (r.2))])), (qt, .inr (5, [.ref (qb), .ref (q), .int (nI (len))])), (qb, .inl (cA 0, 130, arN f))] : va_W) = [(q, .inr (2, [.int (nI ((rbF len f due r).1)), .int (nI ((rbF len f due r).2))])), (qt, .inr (5, [.ref (qb), .ref (q), .int (nI (len))])), (qb, .inl (cA 0, 130, arN f))] := by
        rw [rbF, if_pos c1, if_pos c2]
      have hP : va_P D vwCl [(q, .inr (2, [.int (nI ((rbF len f due r).1)), .int (nI ((rbF len f due r).2))])), (qt, .inr (5, [.ref (qb), .ref (q), .int (nI (len))])), (qb, .inl (cA 0, 130, arN f))] _ := Eq.mp (congrArg (fun z9 => va_P D vwCl z9 _) ef4) hP
      have hD : va_D A [(q, .inr (2, [.int (nI ((rbF len f due r).1)), .int (nI ((rbF len f due r).2))])), (qt, .inr (5, [.ref (qb), .ref (q), .int (nI (len))])), (qb, .inl (cA 0, 130, arN f))] := Eq.mp (congrArg (fun z9 => va_D A z9) ef4) hD
      exact hend _ _ _ _ hP hD hS dX2_readByte_38
  · skip
    rw [n_z (by omega)] at c1
    have ef5 : ([(q, .inr (2, [.int (nI (r.1)), .int (nI (r.2))])), (qt, .inr (5, [.ref (qb), .ref (q), .int (nI (len))])), (qb, .inl (cA 0, 130, arN f))] : va_W) = [(q, .inr (2, [.int (nI ((rbF len f due r).1)), .int (nI ((rbF len f due r).2))])), (qt, .inr (5, [.ref (qb), .ref (q), .int (nI (len))])), (qb, .inl (cA 0, 130, arN f))] := by
      rw [rbF, if_neg c1]
    have hP : va_P D vwCl [(q, .inr (2, [.int (nI ((rbF len f due r).1)), .int (nI ((rbF len f due r).2))])), (qt, .inr (5, [.ref (qb), .ref (q), .int (nI (len))])), (qb, .inl (cA 0, 130, arN f))] _ := Eq.mp (congrArg (fun z9 => va_P D vwCl z9 _) ef5) hP
    have hD : va_D A [(q, .inr (2, [.int (nI ((rbF len f due r).1)), .int (nI ((rbF len f due r).2))])), (qt, .inr (5, [.ref (qb), .ref (q), .int (nI (len))])), (qb, .inl (cA 0, 130, arN f))] := Eq.mp (congrArg (fun z9 => va_D A z9) ef5) hD
    exact hend _ _ _ _ hP hD hS dX2_readByte_7
set_option maxRecDepth 100000 in
set_option maxHeartbeats 4000000 in
theorem c_X2_readNumber (l : Launch) (D : va_G) (cA : Nat → ClassId) (tt : Nat → Nat) (q qt qb : Nat) (r : Nat × Nat) (len : Nat) (f : Nat → Nat) (lo hi : Nat) (hlen : len ≤ 130) (hR : Rk len r) (hf : ∀ i, i < 130 → f i < 256) (hlo : lo < 1000) (hhi : hi < 1000) (sz : Nat) : Ci l D cA tt yX2_readNumber wsX2_readNumber ({ frames := 1, cells := 0, slots := 0, locals := 22 } : Room) [.ref (q), .ref (qt), .int (nI (lo)), .int (nI (hi))] sz [(q, .inr (2, [.int (nI (r.1)), .int (nI (r.2))])), (qt, .inr (5, [.ref (qb), .ref (q), .int (nI (len))])), (qb, .inl (cA 0, 130, arN f))] [(q, .inr (2, [.int (nI ((rnF len f lo hi r).2.1)), .int (nI ((rnF len f lo hi r).2.2))])), (qt, .inr (5, [.ref (qb), .ref (q), .int (nI (len))])), (qb, .inl (cA 0, 130, arN f))] (nI ((rnF len f lo hi r).1)) := by
  obtain ⟨ra, rb⟩ := id hR
  refine Ci.mk (cc := cX2_readNumber) (maxL := 7) (ty := .int) (by decide) rfl rfl (Nat.le_of_ble_eq_true rfl) ?_
  intro p e s m below meth c A Q ls hB hl hend
  obtain ⟨⟨hx, hb, hml, hown, hts⟩, hP, hK, hD, hS, hA, hE⟩ := hB
  have hown : s.vm.findClass RX2 = some m.cls := hown
  have hwsX20 : ∀ w9 ∈ wsX20, w9.before ([.ref (q), .ref (qt), .int (nI (lo)), .int (nI (hi))] : List Value).toArray s = true := fun w9 h => hts w9 (List.mem_cons_of_mem _ (List.mem_append_left _ (List.mem_append_right _ h)))
  have hwsX50 : ∀ w9 ∈ wsX50, w9.before ([.ref (q), .ref (qt), .int (nI (lo)), .int (nI (hi))] : List Value).toArray s = true := fun w9 h => hts w9 (List.mem_cons_of_mem _ (List.mem_append_right _ h))
  have hl : lv_has ls 7 [(0, .ref (q)), (1, .ref (qt)), (2, .int (nI (lo))), (3, .int (nI (hi)))] := hl
  refine lv_aload_n hx hb dX2_readNumber_0 rfl (lv_at hl 0 rfl) ?_
  refine va_get (v := .int (nI (r.2))) (Ts := wsX20) (C := RX2) (T := TX2) (N := 2) hx hb hwsX20 (fun _ h => h) hown hK hP 0 rfl rfl 1 (by decide) (hts (.fieldLink RX2 15 "AdventStreets$Reader" "fault" "I") (List.mem_of_getElem? (i := 1) rfl)) (fun _ h9 => h9) rfl dX2_readNumber_1 ?_
  refine lv_if_eq (tgt := 9) hx hb dX2_readNumber_4 (by decide) (fun c1 => ?_) (fun c1 => ?_)
  · skip
    rw [n_z (by omega)] at c1
    refine lv_iconst (v := nI (0)) hx hb dX2_readNumber_9 (by decide) ?_
    refine lv_istore (lv' := [(4, .int (nI (0))), (0, .ref (q)), (1, .ref (qt)), (2, .int (nI (lo))), (3, .int (nI (hi)))]) hx hb dX2_readNumber_10 hl (by decide) rfl (fun ls hl => ?_)
    refine lv_iconst (v := nI (0)) hx hb dX2_readNumber_12 (by decide) ?_
    refine lv_istore (lv' := [(5, .int (nI (0))), (4, .int (nI (0))), (0, .ref (q)), (1, .ref (qt)), (2, .int (nI (lo))), (3, .int (nI (hi)))]) hx hb dX2_readNumber_13 hl (by decide) rfl (fun ls hl => ?_)
    refine lv_aload_n hx hb dX2_readNumber_15 rfl (lv_at hl 3 rfl) ?_
    refine lv_aload_n hx hb dX2_readNumber_16 rfl (lv_at hl 2 rfl) ?_
    refine va_get (v := .int (nI (r.1))) (Ts := wsX20) (C := RX2) (T := TX2) (N := 2) hx hb hwsX20 (fun _ h => h) hown hK hP 0 rfl rfl 0 (by decide) (hts (.fieldLink RX2 9 "AdventStreets$Reader" "at" "I") (List.mem_of_getElem? (i := 2) rfl)) (fun _ h9 => h9) rfl dX2_readNumber_17 ?_
    refine cVi (n := 1) (As := [.int (nI (r.1))]) (rest := []) (C := RX5) (ci := 5) (q0 := 0) (X := [(q, .inr (2, [.int (nI (r.1)), .int (nI (r.2))])), (qt, .inr (5, [.ref (qb), .ref (q), .int (nI (len))])), (qb, .inl (cA 0, 130, arN f))]) (pl := []) (wc := [(qt, .inr (5, [.ref (qb), .ref (q), .int (nI (len))])), (qb, .inl (cA 0, 130, arN f))]) (wr := [(q, .inr (2, [.int (nI (r.1)), .int (nI (r.2))]))]) (w1 := [(qt, .inr (5, [.ref (qb), .ref (q), .int (nI (len))])), (qb, .inl (cA 0, 130, arN f))]) (wn := [(q, .inr (2, [.int (nI (r.1)), .int (nI (r.2))])), (qt, .inr (5, [.ref (qb), .ref (q), .int (nI (len))])), (qb, .inl (cA 0, 130, arN f))]) (isC := [1, 2]) (isR := [0]) (isN := [0, 1, 2]) ⟨hx, hb, hml, hown, hts⟩ (c_X5_at l D cA tt qt q qb len f r.1 (hlen) (by omega) _) gX2_readNumber_X5_at rfl (by decide +kernel) rfl rfl ⟨rfl, rfl⟩ ⟨Nat.le_of_ble_eq_true rfl, Nat.le_of_ble_eq_true rfl⟩ ⟨Nat.zero_le _, Nat.zero_le _⟩ hK hE hA hP hD hS ⟨⟨rfl, by decide⟩, ⟨rfl, by decide, by decide⟩, rfl, by decide⟩ rfl hl.1 rfl (Nat.le_of_ble_eq_true rfl) dX2_readNumber_20 (fun H locs hP hD hS => ?_)
    have hP : va_P D vwCl [(q, .inr (2, [.int (nI (r.1)), .int (nI (r.2))])), (qt, .inr (5, [.ref (qb), .ref (q), .int (nI (len))])), (qb, .inl (cA 0, 130, arN f))] H := hP
    have hD : va_D A [(q, .inr (2, [.int (nI (r.1)), .int (nI (r.2))])), (qt, .inr (5, [.ref (qb), .ref (q), .int (nI (len))])), (qb, .inl (cA 0, 130, arN f))] := hD
    refine lv_istore (lv' := [(6, .int (tapAt len f r.1)), (5, .int (nI (0))), (4, .int (nI (0))), (0, .ref (q)), (1, .ref (qt)), (2, .int (nI (lo))), (3, .int (nI (hi)))]) hx hb dX2_readNumber_23 hl (by decide) rfl (fun ls hl => ?_)
    have loop25 : ∀ (N25 : Nat) (g : Nat), (g ≤ 3) → (∀ j, j < g → isDig len f (r.1 + j) = true) → (3 - g) < N25 → ∀ (H : Heap) (locs : List Loc) (ls : Array Slot), va_P D vwCl [(q, .inr (2, [.int (nI (r.1)), .int (nI (r.2))])), (qt, .inr (5, [.ref (qb), .ref (q), .int (nI (len))])), (qb, .inl (cA 0, 130, arN f))] H → va_D A [(q, .inr (2, [.int (nI (r.1)), .int (nI (r.2))])), (qt, .inr (5, [.ref (qb), .ref (q), .int (nI (len))])), (qb, .inl (cA 0, 130, arN f))] → va_S A s.heap H locs → lv_has ls 7 [(6, .int (tapAt len f (r.1 + g))), (5, .int (nI (g))), (4, .int (nI (valN f r.1 g))), (0, .ref (q)), (1, .ref (qt)), (2, .int (nI (lo))), (3, .int (nI (hi)))] → W p l e ({ frames := 1, cells := 0, slots := 0, locals := 22 } : Room) s m ([.ref (q), .ref (qt), .int (nI (lo)), .int (nI (hi))] : List Value).toArray below meth c H locs 0 0 Q (F0 m 25 ls []) := by
      intro N25
      induction N25 with
      | zero => intro g iv25_0 iv25_1 hN; exact absurd hN (Nat.not_lt_zero _)
      | succ N25 ih25 =>
        intro g iv25_0 iv25_1 hN25 H locs ls hP hD hS hl
        have fv := valN_lt iv25_1
        have fp : 10 ^ g ≤ 10 ^ 3 := Nat.pow_le_pow_right (by decide) iv25_0
        refine lv_iload hx hb dX2_readNumber_25 (lv_at hl 0 rfl) ?_
        refine lv_bipush (v := nI (48)) hx hb dX2_readNumber_27 (by decide) ?_
        refine lv_icmp_lt (tgt := 77) hx hb dX2_readNumber_29 (by decide) (fun c3 => ?_) (fun c3 => ?_)
        · skip
          have hfg : figN len f r.1 = g := figN_of iv25_0 iv25_1 (Or.inr (dig_lo (fun h9 => hf _ (by omega)) c3))
          refine lv_iload hx hb dX2_readNumber_77 (lv_at hl 1 rfl) ?_
          refine lv_if_eq (tgt := 88) hx hb dX2_readNumber_79 (by decide) (fun c4 => ?_) (fun c4 => ?_)
          · skip
            rw [n_z (by omega)] at c4
            refine lv_aload_n hx hb dX2_readNumber_88 rfl (lv_at hl 3 rfl) ?_
            refine lv_iconst (v := nI (1)) hx hb dX2_readNumber_89 (by decide) ?_
            refine cVv (n := 1) (As := [.int (nI (1))]) (rest := []) (C := RX2) (ci := 2) (q0 := 0) (X := [(q, .inr (2, [.int (nI (r.1)), .int (nI (r.2))])), (qt, .inr (5, [.ref (qb), .ref (q), .int (nI (len))])), (qb, .inl (cA 0, 130, arN f))]) (pl := []) (wc := [(q, .inr (2, [.int (nI (r.1)), .int (nI (r.2))]))]) (wr := [(qt, .inr (5, [.ref (qb), .ref (q), .int (nI (len))])), (qb, .inl (cA 0, 130, arN f))]) (w1 := [(q, .inr (2, [.int (nI (r.1)), .int (nI (1))]))]) (wn := [(q, .inr (2, [.int (nI (r.1)), .int (nI (1))])), (qt, .inr (5, [.ref (qb), .ref (q), .int (nI (len))])), (qb, .inl (cA 0, 130, arN f))]) (isC := [0]) (isR := [1, 2]) (isN := [2, 0, 1]) ⟨hx, hb, hml, hown, hts⟩ (c_X2_fail l D cA tt q r 1  _) gX2_readNumber_X2_fail rfl (by decide +kernel) rfl rfl ⟨rfl, rfl⟩ ⟨Nat.le_of_ble_eq_true rfl, Nat.le_of_ble_eq_true rfl⟩ ⟨Nat.zero_le _, Nat.zero_le _⟩ hK hE hA hP hD hS ⟨⟨rfl, by decide⟩, ⟨rfl, by decide, by decide⟩, rfl, by decide⟩ rfl hl.1 rfl (Nat.le_of_ble_eq_true rfl) dX2_readNumber_90 (fun H locs hP hD hS => ?_)
            have hP : va_P D vwCl [(q, .inr (2, [.int (nI (r.1)), .int (nI (1))])), (qt, .inr (5, [.ref (qb), .ref (q), .int (nI (len))])), (qb, .inl (cA 0, 130, arN f))] H := hP
            have hD : va_D A [(q, .inr (2, [.int (nI (r.1)), .int (nI (1))])), (qt, .inr (5, [.ref (qb), .ref (q), .int (nI (len))])), (qb, .inl (cA 0, 130, arN f))] := hD
            refine lv_goto (tgt := 125) hx hb dX2_readNumber_93 (by decide) ?_
            refine lv_iload hx hb dX2_readNumber_125 (lv_at hl 2 rfl) ?_
            have ef5 : ([(q, .inr (2, [.int (nI (r.1)), .int (nI (1))])), (qt, .inr (5, [.ref (qb), .ref (q), .int (nI (len))])), (qb, .inl (cA 0, 130, arN f))] : va_W) = [(q, .inr (2, [.int (nI ((rnF len f lo hi r).2.1)), .int (nI ((rnF len f lo hi r).2.2))])), (qt, .inr (5, [.ref (qb), .ref (q), .int (nI (len))])), (qb, .inl (cA 0, 130, arN f))] := by
              rw [rnF, if_pos c1, hfg, if_pos (by omega)]
            have hP : va_P D vwCl [(q, .inr (2, [.int (nI ((rnF len f lo hi r).2.1)), .int (nI ((rnF len f lo hi r).2.2))])), (qt, .inr (5, [.ref (qb), .ref (q), .int (nI (len))])), (qb, .inl (cA 0, 130, arN f))] _ := Eq.mp (congrArg (fun z9 => va_P D vwCl z9 _) ef5) hP
            have hD : va_D A [(q, .inr (2, [.int (nI ((rnF len f lo hi r).2.1)), .int (nI ((rnF len f lo hi r).2.2))])), (qt, .inr (5, [.ref (qb), .ref (q), .int (nI (len))])), (qb, .inl (cA 0, 130, arN f))] := Eq.mp (congrArg (fun z9 => va_D A z9) ef5) hD
            exact hend _ _ _ _ _ hP hD hS (by rw [rnF, if_pos c1, hfg, if_pos (by omega)]) dX2_readNumber_127
          · skip
            rw [n_z (by omega)] at c4
            refine lv_iload hx hb dX2_readNumber_82 (lv_at hl 1 rfl) ?_
            refine lv_iconst (v := nI (2)) hx hb dX2_readNumber_84 (by decide) ?_
            refine lv_icmp_le (tgt := 96) hx hb dX2_readNumber_85 (by decide) (fun c6 => ?_) (fun c6 => ?_)
            · skip
              rw [nI_leI (by omega) (by omega)] at c6
              refine lv_iload hx hb dX2_readNumber_96 (lv_at hl 2 rfl) ?_
              refine lv_iload_n hx hb dX2_readNumber_98 rfl (lv_at hl 5 rfl) ?_
              refine lv_iload_n hx hb dX2_readNumber_99 rfl (lv_at hl 6 rfl) ?_
              refine cNi (n := 3) (As := [.int (nI (valN f r.1 g)), .int (nI (lo)), .int (nI (hi))]) (rest := []) (X := [(q, .inr (2, [.int (nI (r.1)), .int (nI (r.2))])), (qt, .inr (5, [.ref (qb), .ref (q), .int (nI (len))])), (qb, .inl (cA 0, 130, arN f))]) (pl := []) (wc := ([] : va_W)) (wr := [(q, .inr (2, [.int (nI (r.1)), .int (nI (r.2))])), (qt, .inr (5, [.ref (qb), .ref (q), .int (nI (len))])), (qb, .inl (cA 0, 130, arN f))]) (w1 := ([] : va_W)) (wn := [(q, .inr (2, [.int (nI (r.1)), .int (nI (r.2))])), (qt, .inr (5, [.ref (qb), .ref (q), .int (nI (len))])), (qb, .inl (cA 0, 130, arN f))]) (isC := []) (isR := [0, 1, 2]) (isN := [0, 1, 2]) ⟨hx, hb, hml, hown, hts⟩ (c_X7_isWithin l D cA tt (nI (valN f r.1 g)) (nI (lo)) (nI (hi))  _) gX2_readNumber_X7_isWithin_n66 rfl (hE.1.m (q := ("AdventStreets$Reader", 66, yX7_isWithin)) 7 rfl) (hts (.initialized RX7) (List.mem_of_getElem? (i := 17) rfl)) (hts (.static yX7_isWithin) (List.mem_of_getElem? (i := 16) rfl)) (by decide +kernel) ⟨rfl, rfl⟩ ⟨Nat.le_of_ble_eq_true rfl, Nat.le_of_ble_eq_true rfl⟩ ⟨Nat.zero_le _, Nat.zero_le _⟩ hK hE hA hP hD hS ⟨⟨rfl, by decide⟩, ⟨rfl, by decide, by decide⟩, rfl, by decide⟩ rfl hl.1 rfl (Nat.le_of_ble_eq_true rfl) dX2_readNumber_100 (fun H locs hP hD hS => ?_)
              have hP : va_P D vwCl [(q, .inr (2, [.int (nI (r.1)), .int (nI (r.2))])), (qt, .inr (5, [.ref (qb), .ref (q), .int (nI (len))])), (qb, .inl (cA 0, 130, arN f))] H := hP
              have hD : va_D A [(q, .inr (2, [.int (nI (r.1)), .int (nI (r.2))])), (qt, .inr (5, [.ref (qb), .ref (q), .int (nI (len))])), (qb, .inl (cA 0, 130, arN f))] := hD
              refine lv_if_ne (tgt := 114) hx hb dX2_readNumber_103 (by decide) (fun c7 => ?_) (fun c7 => ?_)
              · skip
                rw [bI_nz] at c7
                have hin := inI_tN (by omega) (by omega) (by omega) c7
                refine lv_aload_n hx hb dX2_readNumber_114 rfl (lv_at hl 3 rfl) ?_
                refine lv_dup hx hb dX2_readNumber_115 rfl ?_
                refine va_get (v := .int (nI (r.1))) (Ts := wsX20) (C := RX2) (T := TX2) (N := 2) hx hb hwsX20 (fun _ h => h) hown hK hP 0 rfl rfl 0 (by decide) (hts (.fieldLink RX2 9 "AdventStreets$Reader" "at" "I") (List.mem_of_getElem? (i := 2) rfl)) (fun _ h9 => h9) rfl dX2_readNumber_116 ?_
                refine lv_iload hx hb dX2_readNumber_119 (lv_at hl 1 rfl) ?_
                refine lv_iadd hx hb dX2_readNumber_121 ?_
                refine vn_i (v := nI (r.1 + g)) (nI_add _ _) ?_
                refine va_put (v := .int (nI (r.1 + g))) (ty := .int) (Ts := wsX20) (C := RX2) (T := TX2) (N := 2) hx hb hwsX20 (fun _ h => h) tyX2 tyX2_ok nmX2 hown hK hP hD hS 0 rfl rfl 0 (by decide) (hts (.fieldLink RX2 9 "AdventStreets$Reader" "at" "I") (List.mem_of_getElem? (i := 2) rfl)) (fun _ h9 => h9) rfl (tyX2_ok 0 (by decide)) rfl rfl (Nat.le_of_ble_eq_true rfl) dX2_readNumber_122 (fun H locs hP hD hS => ?_)
                have hP : va_P D vwCl [(q, .inr (2, [.int (nI (r.1 + g)), .int (nI (r.2))])), (qt, .inr (5, [.ref (qb), .ref (q), .int (nI (len))])), (qb, .inl (cA 0, 130, arN f))] H := hP
                have hD : va_D A [(q, .inr (2, [.int (nI (r.1 + g)), .int (nI (r.2))])), (qt, .inr (5, [.ref (qb), .ref (q), .int (nI (len))])), (qb, .inl (cA 0, 130, arN f))] := hD
                refine lv_iload hx hb dX2_readNumber_125 (lv_at hl 2 rfl) ?_
                have ef8 : ([(q, .inr (2, [.int (nI (r.1 + g)), .int (nI (r.2))])), (qt, .inr (5, [.ref (qb), .ref (q), .int (nI (len))])), (qb, .inl (cA 0, 130, arN f))] : va_W) = [(q, .inr (2, [.int (nI ((rnF len f lo hi r).2.1)), .int (nI ((rnF len f lo hi r).2.2))])), (qt, .inr (5, [.ref (qb), .ref (q), .int (nI (len))])), (qb, .inl (cA 0, 130, arN f))] := by
                  rw [rnF, if_pos c1, hfg, if_neg (by omega), if_pos (by omega)]
                have hP : va_P D vwCl [(q, .inr (2, [.int (nI ((rnF len f lo hi r).2.1)), .int (nI ((rnF len f lo hi r).2.2))])), (qt, .inr (5, [.ref (qb), .ref (q), .int (nI (len))])), (qb, .inl (cA 0, 130, arN f))] _ := Eq.mp (congrArg (fun z9 => va_P D vwCl z9 _) ef8) hP
                have hD : va_D A [(q, .inr (2, [.int (nI ((rnF len f lo hi r).2.1)), .int (nI ((rnF len f lo hi r).2.2))])), (qt, .inr (5, [.ref (qb), .ref (q), .int (nI (len))])), (qb, .inl (cA 0, 130, arN f))] := Eq.mp (congrArg (fun z9 => va_D A z9) ef8) hD
                exact hend _ _ _ _ _ hP hD hS (by rw [rnF, if_pos c1, hfg, if_neg (by omega), if_pos (by omega)]) dX2_readNumber_127
              · skip
                rw [bI_z] at c7
                have hin := inI_fN (by omega) (by omega) (by omega) c7
                refine lv_aload_n hx hb dX2_readNumber_106 rfl (lv_at hl 3 rfl) ?_
                refine lv_iconst (v := nI (2)) hx hb dX2_readNumber_107 (by decide) ?_
                refine cVv (n := 1) (As := [.int (nI (2))]) (rest := []) (C := RX2) (ci := 2) (q0 := 0) (X := [(q, .inr (2, [.int (nI (r.1)), .int (nI (r.2))])), (qt, .inr (5, [.ref (qb), .ref (q), .int (nI (len))])), (qb, .inl (cA 0, 130, arN f))]) (pl := []) (wc := [(q, .inr (2, [.int (nI (r.1)), .int (nI (r.2))]))]) (wr := [(qt, .inr (5, [.ref (qb), .ref (q), .int (nI (len))])), (qb, .inl (cA 0, 130, arN f))]) (w1 := [(q, .inr (2, [.int (nI (r.1)), .int (nI (2))]))]) (wn := [(q, .inr (2, [.int (nI (r.1)), .int (nI (2))])), (qt, .inr (5, [.ref (qb), .ref (q), .int (nI (len))])), (qb, .inl (cA 0, 130, arN f))]) (isC := [0]) (isR := [1, 2]) (isN := [2, 0, 1]) ⟨hx, hb, hml, hown, hts⟩ (c_X2_fail l D cA tt q r 2  _) gX2_readNumber_X2_fail rfl (by decide +kernel) rfl rfl ⟨rfl, rfl⟩ ⟨Nat.le_of_ble_eq_true rfl, Nat.le_of_ble_eq_true rfl⟩ ⟨Nat.zero_le _, Nat.zero_le _⟩ hK hE hA hP hD hS ⟨⟨rfl, by decide⟩, ⟨rfl, by decide, by decide⟩, rfl, by decide⟩ rfl hl.1 rfl (Nat.le_of_ble_eq_true rfl) dX2_readNumber_108 (fun H locs hP hD hS => ?_)
                have hP : va_P D vwCl [(q, .inr (2, [.int (nI (r.1)), .int (nI (2))])), (qt, .inr (5, [.ref (qb), .ref (q), .int (nI (len))])), (qb, .inl (cA 0, 130, arN f))] H := hP
                have hD : va_D A [(q, .inr (2, [.int (nI (r.1)), .int (nI (2))])), (qt, .inr (5, [.ref (qb), .ref (q), .int (nI (len))])), (qb, .inl (cA 0, 130, arN f))] := hD
                refine lv_goto (tgt := 125) hx hb dX2_readNumber_111 (by decide) ?_
                refine lv_iload hx hb dX2_readNumber_125 (lv_at hl 2 rfl) ?_
                have ef9 : ([(q, .inr (2, [.int (nI (r.1)), .int (nI (2))])), (qt, .inr (5, [.ref (qb), .ref (q), .int (nI (len))])), (qb, .inl (cA 0, 130, arN f))] : va_W) = [(q, .inr (2, [.int (nI ((rnF len f lo hi r).2.1)), .int (nI ((rnF len f lo hi r).2.2))])), (qt, .inr (5, [.ref (qb), .ref (q), .int (nI (len))])), (qb, .inl (cA 0, 130, arN f))] := by
                  rw [rnF, if_pos c1, hfg, if_neg (by omega), if_neg (by omega)]
                have hP : va_P D vwCl [(q, .inr (2, [.int (nI ((rnF len f lo hi r).2.1)), .int (nI ((rnF len f lo hi r).2.2))])), (qt, .inr (5, [.ref (qb), .ref (q), .int (nI (len))])), (qb, .inl (cA 0, 130, arN f))] _ := Eq.mp (congrArg (fun z9 => va_P D vwCl z9 _) ef9) hP
                have hD : va_D A [(q, .inr (2, [.int (nI ((rnF len f lo hi r).2.1)), .int (nI ((rnF len f lo hi r).2.2))])), (qt, .inr (5, [.ref (qb), .ref (q), .int (nI (len))])), (qb, .inl (cA 0, 130, arN f))] := Eq.mp (congrArg (fun z9 => va_D A z9) ef9) hD
                exact hend _ _ _ _ _ hP hD hS (by rw [rnF, if_pos c1, hfg, if_neg (by omega), if_neg (by omega)]) dX2_readNumber_127
            · skip
              rw [nI_leI (by omega) (by omega)] at c6
              refine lv_aload_n hx hb dX2_readNumber_88 rfl (lv_at hl 3 rfl) ?_
              refine lv_iconst (v := nI (1)) hx hb dX2_readNumber_89 (by decide) ?_
              refine cVv (n := 1) (As := [.int (nI (1))]) (rest := []) (C := RX2) (ci := 2) (q0 := 0) (X := [(q, .inr (2, [.int (nI (r.1)), .int (nI (r.2))])), (qt, .inr (5, [.ref (qb), .ref (q), .int (nI (len))])), (qb, .inl (cA 0, 130, arN f))]) (pl := []) (wc := [(q, .inr (2, [.int (nI (r.1)), .int (nI (r.2))]))]) (wr := [(qt, .inr (5, [.ref (qb), .ref (q), .int (nI (len))])), (qb, .inl (cA 0, 130, arN f))]) (w1 := [(q, .inr (2, [.int (nI (r.1)), .int (nI (1))]))]) (wn := [(q, .inr (2, [.int (nI (r.1)), .int (nI (1))])), (qt, .inr (5, [.ref (qb), .ref (q), .int (nI (len))])), (qb, .inl (cA 0, 130, arN f))]) (isC := [0]) (isR := [1, 2]) (isN := [2, 0, 1]) ⟨hx, hb, hml, hown, hts⟩ (c_X2_fail l D cA tt q r 1  _) gX2_readNumber_X2_fail rfl (by decide +kernel) rfl rfl ⟨rfl, rfl⟩ ⟨Nat.le_of_ble_eq_true rfl, Nat.le_of_ble_eq_true rfl⟩ ⟨Nat.zero_le _, Nat.zero_le _⟩ hK hE hA hP hD hS ⟨⟨rfl, by decide⟩, ⟨rfl, by decide, by decide⟩, rfl, by decide⟩ rfl hl.1 rfl (Nat.le_of_ble_eq_true rfl) dX2_readNumber_90 (fun H locs hP hD hS => ?_)
              have hP : va_P D vwCl [(q, .inr (2, [.int (nI (r.1)), .int (nI (1))])), (qt, .inr (5, [.ref (qb), .ref (q), .int (nI (len))])), (qb, .inl (cA 0, 130, arN f))] H := hP
              have hD : va_D A [(q, .inr (2, [.int (nI (r.1)), .int (nI (1))])), (qt, .inr (5, [.ref (qb), .ref (q), .int (nI (len))])), (qb, .inl (cA 0, 130, arN f))] := hD
              refine lv_goto (tgt := 125) hx hb dX2_readNumber_93 (by decide) ?_
              refine lv_iload hx hb dX2_readNumber_125 (lv_at hl 2 rfl) ?_
              have ef10 : ([(q, .inr (2, [.int (nI (r.1)), .int (nI (1))])), (qt, .inr (5, [.ref (qb), .ref (q), .int (nI (len))])), (qb, .inl (cA 0, 130, arN f))] : va_W) = [(q, .inr (2, [.int (nI ((rnF len f lo hi r).2.1)), .int (nI ((rnF len f lo hi r).2.2))])), (qt, .inr (5, [.ref (qb), .ref (q), .int (nI (len))])), (qb, .inl (cA 0, 130, arN f))] := by
                rw [rnF, if_pos c1, hfg, if_pos (by omega)]
              have hP : va_P D vwCl [(q, .inr (2, [.int (nI ((rnF len f lo hi r).2.1)), .int (nI ((rnF len f lo hi r).2.2))])), (qt, .inr (5, [.ref (qb), .ref (q), .int (nI (len))])), (qb, .inl (cA 0, 130, arN f))] _ := Eq.mp (congrArg (fun z9 => va_P D vwCl z9 _) ef10) hP
              have hD : va_D A [(q, .inr (2, [.int (nI ((rnF len f lo hi r).2.1)), .int (nI ((rnF len f lo hi r).2.2))])), (qt, .inr (5, [.ref (qb), .ref (q), .int (nI (len))])), (qb, .inl (cA 0, 130, arN f))] := Eq.mp (congrArg (fun z9 => va_D A z9) ef10) hD
              exact hend _ _ _ _ _ hP hD hS (by rw [rnF, if_pos c1, hfg, if_pos (by omega)]) dX2_readNumber_127
        · skip
          refine lv_iload hx hb dX2_readNumber_32 (lv_at hl 0 rfl) ?_
          refine lv_bipush (v := nI (57)) hx hb dX2_readNumber_34 (by decide) ?_
          refine lv_icmp_gt (tgt := 77) hx hb dX2_readNumber_36 (by decide) (fun c11 => ?_) (fun c11 => ?_)
          · skip
            have hfg : figN len f r.1 = g := figN_of iv25_0 iv25_1 (Or.inr (dig_hi (fun h9 => hf _ (by omega)) c11))
            refine lv_iload hx hb dX2_readNumber_77 (lv_at hl 1 rfl) ?_
            refine lv_if_eq (tgt := 88) hx hb dX2_readNumber_79 (by decide) (fun c12 => ?_) (fun c12 => ?_)
            · skip
              rw [n_z (by omega)] at c12
              refine lv_aload_n hx hb dX2_readNumber_88 rfl (lv_at hl 3 rfl) ?_
              refine lv_iconst (v := nI (1)) hx hb dX2_readNumber_89 (by decide) ?_
              refine cVv (n := 1) (As := [.int (nI (1))]) (rest := []) (C := RX2) (ci := 2) (q0 := 0) (X := [(q, .inr (2, [.int (nI (r.1)), .int (nI (r.2))])), (qt, .inr (5, [.ref (qb), .ref (q), .int (nI (len))])), (qb, .inl (cA 0, 130, arN f))]) (pl := []) (wc := [(q, .inr (2, [.int (nI (r.1)), .int (nI (r.2))]))]) (wr := [(qt, .inr (5, [.ref (qb), .ref (q), .int (nI (len))])), (qb, .inl (cA 0, 130, arN f))]) (w1 := [(q, .inr (2, [.int (nI (r.1)), .int (nI (1))]))]) (wn := [(q, .inr (2, [.int (nI (r.1)), .int (nI (1))])), (qt, .inr (5, [.ref (qb), .ref (q), .int (nI (len))])), (qb, .inl (cA 0, 130, arN f))]) (isC := [0]) (isR := [1, 2]) (isN := [2, 0, 1]) ⟨hx, hb, hml, hown, hts⟩ (c_X2_fail l D cA tt q r 1  _) gX2_readNumber_X2_fail rfl (by decide +kernel) rfl rfl ⟨rfl, rfl⟩ ⟨Nat.le_of_ble_eq_true rfl, Nat.le_of_ble_eq_true rfl⟩ ⟨Nat.zero_le _, Nat.zero_le _⟩ hK hE hA hP hD hS ⟨⟨rfl, by decide⟩, ⟨rfl, by decide, by decide⟩, rfl, by decide⟩ rfl hl.1 rfl (Nat.le_of_ble_eq_true rfl) dX2_readNumber_90 (fun H locs hP hD hS => ?_)
              have hP : va_P D vwCl [(q, .inr (2, [.int (nI (r.1)), .int (nI (1))])), (qt, .inr (5, [.ref (qb), .ref (q), .int (nI (len))])), (qb, .inl (cA 0, 130, arN f))] H := hP
              have hD : va_D A [(q, .inr (2, [.int (nI (r.1)), .int (nI (1))])), (qt, .inr (5, [.ref (qb), .ref (q), .int (nI (len))])), (qb, .inl (cA 0, 130, arN f))] := hD
              refine lv_goto (tgt := 125) hx hb dX2_readNumber_93 (by decide) ?_
              refine lv_iload hx hb dX2_readNumber_125 (lv_at hl 2 rfl) ?_
              have ef13 : ([(q, .inr (2, [.int (nI (r.1)), .int (nI (1))])), (qt, .inr (5, [.ref (qb), .ref (q), .int (nI (len))])), (qb, .inl (cA 0, 130, arN f))] : va_W) = [(q, .inr (2, [.int (nI ((rnF len f lo hi r).2.1)), .int (nI ((rnF len f lo hi r).2.2))])), (qt, .inr (5, [.ref (qb), .ref (q), .int (nI (len))])), (qb, .inl (cA 0, 130, arN f))] := by
                rw [rnF, if_pos c1, hfg, if_pos (by omega)]
              have hP : va_P D vwCl [(q, .inr (2, [.int (nI ((rnF len f lo hi r).2.1)), .int (nI ((rnF len f lo hi r).2.2))])), (qt, .inr (5, [.ref (qb), .ref (q), .int (nI (len))])), (qb, .inl (cA 0, 130, arN f))] _ := Eq.mp (congrArg (fun z9 => va_P D vwCl z9 _) ef13) hP
              have hD : va_D A [(q, .inr (2, [.int (nI ((rnF len f lo hi r).2.1)), .int (nI ((rnF len f lo hi r).2.2))])), (qt, .inr (5, [.ref (qb), .ref (q), .int (nI (len))])), (qb, .inl (cA 0, 130, arN f))] := Eq.mp (congrArg (fun z9 => va_D A z9) ef13) hD
              exact hend _ _ _ _ _ hP hD hS (by rw [rnF, if_pos c1, hfg, if_pos (by omega)]) dX2_readNumber_127
            · skip
              rw [n_z (by omega)] at c12
              refine lv_iload hx hb dX2_readNumber_82 (lv_at hl 1 rfl) ?_
              refine lv_iconst (v := nI (2)) hx hb dX2_readNumber_84 (by decide) ?_
              refine lv_icmp_le (tgt := 96) hx hb dX2_readNumber_85 (by decide) (fun c14 => ?_) (fun c14 => ?_)
              · skip
                rw [nI_leI (by omega) (by omega)] at c14
                refine lv_iload hx hb dX2_readNumber_96 (lv_at hl 2 rfl) ?_
                refine lv_iload_n hx hb dX2_readNumber_98 rfl (lv_at hl 5 rfl) ?_
                refine lv_iload_n hx hb dX2_readNumber_99 rfl (lv_at hl 6 rfl) ?_
                refine cNi (n := 3) (As := [.int (nI (valN f r.1 g)), .int (nI (lo)), .int (nI (hi))]) (rest := []) (X := [(q, .inr (2, [.int (nI (r.1)), .int (nI (r.2))])), (qt, .inr (5, [.ref (qb), .ref (q), .int (nI (len))])), (qb, .inl (cA 0, 130, arN f))]) (pl := []) (wc := ([] : va_W)) (wr := [(q, .inr (2, [.int (nI (r.1)), .int (nI (r.2))])), (qt, .inr (5, [.ref (qb), .ref (q), .int (nI (len))])), (qb, .inl (cA 0, 130, arN f))]) (w1 := ([] : va_W)) (wn := [(q, .inr (2, [.int (nI (r.1)), .int (nI (r.2))])), (qt, .inr (5, [.ref (qb), .ref (q), .int (nI (len))])), (qb, .inl (cA 0, 130, arN f))]) (isC := []) (isR := [0, 1, 2]) (isN := [0, 1, 2]) ⟨hx, hb, hml, hown, hts⟩ (c_X7_isWithin l D cA tt (nI (valN f r.1 g)) (nI (lo)) (nI (hi))  _) gX2_readNumber_X7_isWithin_n66 rfl (hE.1.m (q := ("AdventStreets$Reader", 66, yX7_isWithin)) 7 rfl) (hts (.initialized RX7) (List.mem_of_getElem? (i := 17) rfl)) (hts (.static yX7_isWithin) (List.mem_of_getElem? (i := 16) rfl)) (by decide +kernel) ⟨rfl, rfl⟩ ⟨Nat.le_of_ble_eq_true rfl, Nat.le_of_ble_eq_true rfl⟩ ⟨Nat.zero_le _, Nat.zero_le _⟩ hK hE hA hP hD hS ⟨⟨rfl, by decide⟩, ⟨rfl, by decide, by decide⟩, rfl, by decide⟩ rfl hl.1 rfl (Nat.le_of_ble_eq_true rfl) dX2_readNumber_100 (fun H locs hP hD hS => ?_)
                have hP : va_P D vwCl [(q, .inr (2, [.int (nI (r.1)), .int (nI (r.2))])), (qt, .inr (5, [.ref (qb), .ref (q), .int (nI (len))])), (qb, .inl (cA 0, 130, arN f))] H := hP
                have hD : va_D A [(q, .inr (2, [.int (nI (r.1)), .int (nI (r.2))])), (qt, .inr (5, [.ref (qb), .ref (q), .int (nI (len))])), (qb, .inl (cA 0, 130, arN f))] := hD
                refine lv_if_ne (tgt := 114) hx hb dX2_readNumber_103 (by decide) (fun c15 => ?_) (fun c15 => ?_)
                · skip
                  rw [bI_nz] at c15
                  have hin := inI_tN (by omega) (by omega) (by omega) c15
                  refine lv_aload_n hx hb dX2_readNumber_114 rfl (lv_at hl 3 rfl) ?_
                  refine lv_dup hx hb dX2_readNumber_115 rfl ?_
                  refine va_get (v := .int (nI (r.1))) (Ts := wsX20) (C := RX2) (T := TX2) (N := 2) hx hb hwsX20 (fun _ h => h) hown hK hP 0 rfl rfl 0 (by decide) (hts (.fieldLink RX2 9 "AdventStreets$Reader" "at" "I") (List.mem_of_getElem? (i := 2) rfl)) (fun _ h9 => h9) rfl dX2_readNumber_116 ?_
                  refine lv_iload hx hb dX2_readNumber_119 (lv_at hl 1 rfl) ?_
                  refine lv_iadd hx hb dX2_readNumber_121 ?_
                  refine vn_i (v := nI (r.1 + g)) (nI_add _ _) ?_
                  refine va_put (v := .int (nI (r.1 + g))) (ty := .int) (Ts := wsX20) (C := RX2) (T := TX2) (N := 2) hx hb hwsX20 (fun _ h => h) tyX2 tyX2_ok nmX2 hown hK hP hD hS 0 rfl rfl 0 (by decide) (hts (.fieldLink RX2 9 "AdventStreets$Reader" "at" "I") (List.mem_of_getElem? (i := 2) rfl)) (fun _ h9 => h9) rfl (tyX2_ok 0 (by decide)) rfl rfl (Nat.le_of_ble_eq_true rfl) dX2_readNumber_122 (fun H locs hP hD hS => ?_)
                  have hP : va_P D vwCl [(q, .inr (2, [.int (nI (r.1 + g)), .int (nI (r.2))])), (qt, .inr (5, [.ref (qb), .ref (q), .int (nI (len))])), (qb, .inl (cA 0, 130, arN f))] H := hP
                  have hD : va_D A [(q, .inr (2, [.int (nI (r.1 + g)), .int (nI (r.2))])), (qt, .inr (5, [.ref (qb), .ref (q), .int (nI (len))])), (qb, .inl (cA 0, 130, arN f))] := hD
                  refine lv_iload hx hb dX2_readNumber_125 (lv_at hl 2 rfl) ?_
                  have ef16 : ([(q, .inr (2, [.int (nI (r.1 + g)), .int (nI (r.2))])), (qt, .inr (5, [.ref (qb), .ref (q), .int (nI (len))])), (qb, .inl (cA 0, 130, arN f))] : va_W) = [(q, .inr (2, [.int (nI ((rnF len f lo hi r).2.1)), .int (nI ((rnF len f lo hi r).2.2))])), (qt, .inr (5, [.ref (qb), .ref (q), .int (nI (len))])), (qb, .inl (cA 0, 130, arN f))] := by
                    rw [rnF, if_pos c1, hfg, if_neg (by omega), if_pos (by omega)]
                  have hP : va_P D vwCl [(q, .inr (2, [.int (nI ((rnF len f lo hi r).2.1)), .int (nI ((rnF len f lo hi r).2.2))])), (qt, .inr (5, [.ref (qb), .ref (q), .int (nI (len))])), (qb, .inl (cA 0, 130, arN f))] _ := Eq.mp (congrArg (fun z9 => va_P D vwCl z9 _) ef16) hP
                  have hD : va_D A [(q, .inr (2, [.int (nI ((rnF len f lo hi r).2.1)), .int (nI ((rnF len f lo hi r).2.2))])), (qt, .inr (5, [.ref (qb), .ref (q), .int (nI (len))])), (qb, .inl (cA 0, 130, arN f))] := Eq.mp (congrArg (fun z9 => va_D A z9) ef16) hD
                  exact hend _ _ _ _ _ hP hD hS (by rw [rnF, if_pos c1, hfg, if_neg (by omega), if_pos (by omega)]) dX2_readNumber_127
                · skip
                  rw [bI_z] at c15
                  have hin := inI_fN (by omega) (by omega) (by omega) c15
                  refine lv_aload_n hx hb dX2_readNumber_106 rfl (lv_at hl 3 rfl) ?_
                  refine lv_iconst (v := nI (2)) hx hb dX2_readNumber_107 (by decide) ?_
                  refine cVv (n := 1) (As := [.int (nI (2))]) (rest := []) (C := RX2) (ci := 2) (q0 := 0) (X := [(q, .inr (2, [.int (nI (r.1)), .int (nI (r.2))])), (qt, .inr (5, [.ref (qb), .ref (q), .int (nI (len))])), (qb, .inl (cA 0, 130, arN f))]) (pl := []) (wc := [(q, .inr (2, [.int (nI (r.1)), .int (nI (r.2))]))]) (wr := [(qt, .inr (5, [.ref (qb), .ref (q), .int (nI (len))])), (qb, .inl (cA 0, 130, arN f))]) (w1 := [(q, .inr (2, [.int (nI (r.1)), .int (nI (2))]))]) (wn := [(q, .inr (2, [.int (nI (r.1)), .int (nI (2))])), (qt, .inr (5, [.ref (qb), .ref (q), .int (nI (len))])), (qb, .inl (cA 0, 130, arN f))]) (isC := [0]) (isR := [1, 2]) (isN := [2, 0, 1]) ⟨hx, hb, hml, hown, hts⟩ (c_X2_fail l D cA tt q r 2  _) gX2_readNumber_X2_fail rfl (by decide +kernel) rfl rfl ⟨rfl, rfl⟩ ⟨Nat.le_of_ble_eq_true rfl, Nat.le_of_ble_eq_true rfl⟩ ⟨Nat.zero_le _, Nat.zero_le _⟩ hK hE hA hP hD hS ⟨⟨rfl, by decide⟩, ⟨rfl, by decide, by decide⟩, rfl, by decide⟩ rfl hl.1 rfl (Nat.le_of_ble_eq_true rfl) dX2_readNumber_108 (fun H locs hP hD hS => ?_)
                  have hP : va_P D vwCl [(q, .inr (2, [.int (nI (r.1)), .int (nI (2))])), (qt, .inr (5, [.ref (qb), .ref (q), .int (nI (len))])), (qb, .inl (cA 0, 130, arN f))] H := hP
                  have hD : va_D A [(q, .inr (2, [.int (nI (r.1)), .int (nI (2))])), (qt, .inr (5, [.ref (qb), .ref (q), .int (nI (len))])), (qb, .inl (cA 0, 130, arN f))] := hD
                  refine lv_goto (tgt := 125) hx hb dX2_readNumber_111 (by decide) ?_
                  refine lv_iload hx hb dX2_readNumber_125 (lv_at hl 2 rfl) ?_
                  have ef17 : ([(q, .inr (2, [.int (nI (r.1)), .int (nI (2))])), (qt, .inr (5, [.ref (qb), .ref (q), .int (nI (len))])), (qb, .inl (cA 0, 130, arN f))] : va_W) = [(q, .inr (2, [.int (nI ((rnF len f lo hi r).2.1)), .int (nI ((rnF len f lo hi r).2.2))])), (qt, .inr (5, [.ref (qb), .ref (q), .int (nI (len))])), (qb, .inl (cA 0, 130, arN f))] := by
                    rw [rnF, if_pos c1, hfg, if_neg (by omega), if_neg (by omega)]
                  have hP : va_P D vwCl [(q, .inr (2, [.int (nI ((rnF len f lo hi r).2.1)), .int (nI ((rnF len f lo hi r).2.2))])), (qt, .inr (5, [.ref (qb), .ref (q), .int (nI (len))])), (qb, .inl (cA 0, 130, arN f))] _ := Eq.mp (congrArg (fun z9 => va_P D vwCl z9 _) ef17) hP
                  have hD : va_D A [(q, .inr (2, [.int (nI ((rnF len f lo hi r).2.1)), .int (nI ((rnF len f lo hi r).2.2))])), (qt, .inr (5, [.ref (qb), .ref (q), .int (nI (len))])), (qb, .inl (cA 0, 130, arN f))] := Eq.mp (congrArg (fun z9 => va_D A z9) ef17) hD
                  exact hend _ _ _ _ _ hP hD hS (by rw [rnF, if_pos c1, hfg, if_neg (by omega), if_neg (by omega)]) dX2_readNumber_127
              · skip
                rw [nI_leI (by omega) (by omega)] at c14
                refine lv_aload_n hx hb dX2_readNumber_88 rfl (lv_at hl 3 rfl) ?_
                refine lv_iconst (v := nI (1)) hx hb dX2_readNumber_89 (by decide) ?_
                refine cVv (n := 1) (As := [.int (nI (1))]) (rest := []) (C := RX2) (ci := 2) (q0 := 0) (X := [(q, .inr (2, [.int (nI (r.1)), .int (nI (r.2))])), (qt, .inr (5, [.ref (qb), .ref (q), .int (nI (len))])), (qb, .inl (cA 0, 130, arN f))]) (pl := []) (wc := [(q, .inr (2, [.int (nI (r.1)), .int (nI (r.2))]))]) (wr := [(qt, .inr (5, [.ref (qb), .ref (q), .int (nI (len))])), (qb, .inl (cA 0, 130, arN f))]) (w1 := [(q, .inr (2, [.int (nI (r.1)), .int (nI (1))]))]) (wn := [(q, .inr (2, [.int (nI (r.1)), .int (nI (1))])), (qt, .inr (5, [.ref (qb), .ref (q), .int (nI (len))])), (qb, .inl (cA 0, 130, arN f))]) (isC := [0]) (isR := [1, 2]) (isN := [2, 0, 1]) ⟨hx, hb, hml, hown, hts⟩ (c_X2_fail l D cA tt q r 1  _) gX2_readNumber_X2_fail rfl (by decide +kernel) rfl rfl ⟨rfl, rfl⟩ ⟨Nat.le_of_ble_eq_true rfl, Nat.le_of_ble_eq_true rfl⟩ ⟨Nat.zero_le _, Nat.zero_le _⟩ hK hE hA hP hD hS ⟨⟨rfl, by decide⟩, ⟨rfl, by decide, by decide⟩, rfl, by decide⟩ rfl hl.1 rfl (Nat.le_of_ble_eq_true rfl) dX2_readNumber_90 (fun H locs hP hD hS => ?_)
                have hP : va_P D vwCl [(q, .inr (2, [.int (nI (r.1)), .int (nI (1))])), (qt, .inr (5, [.ref (qb), .ref (q), .int (nI (len))])), (qb, .inl (cA 0, 130, arN f))] H := hP
                have hD : va_D A [(q, .inr (2, [.int (nI (r.1)), .int (nI (1))])), (qt, .inr (5, [.ref (qb), .ref (q), .int (nI (len))])), (qb, .inl (cA 0, 130, arN f))] := hD
                refine lv_goto (tgt := 125) hx hb dX2_readNumber_93 (by decide) ?_
                refine lv_iload hx hb dX2_readNumber_125 (lv_at hl 2 rfl) ?_
                have ef18 : ([(q, .inr (2, [.int (nI (r.1)), .int (nI (1))])), (qt, .inr (5, [.ref (qb), .ref (q), .int (nI (len))])), (qb, .inl (cA 0, 130, arN f))] : va_W) = [(q, .inr (2, [.int (nI ((rnF len f lo hi r).2.1)), .int (nI ((rnF len f lo hi r).2.2))])), (qt, .inr (5, [.ref (qb), .ref (q), .int (nI (len))])), (qb, .inl (cA 0, 130, arN f))] := by
                  rw [rnF, if_pos c1, hfg, if_pos (by omega)]
                have hP : va_P D vwCl [(q, .inr (2, [.int (nI ((rnF len f lo hi r).2.1)), .int (nI ((rnF len f lo hi r).2.2))])), (qt, .inr (5, [.ref (qb), .ref (q), .int (nI (len))])), (qb, .inl (cA 0, 130, arN f))] _ := Eq.mp (congrArg (fun z9 => va_P D vwCl z9 _) ef18) hP
                have hD : va_D A [(q, .inr (2, [.int (nI ((rnF len f lo hi r).2.1)), .int (nI ((rnF len f lo hi r).2.2))])), (qt, .inr (5, [.ref (qb), .ref (q), .int (nI (len))])), (qb, .inl (cA 0, 130, arN f))] := Eq.mp (congrArg (fun z9 => va_D A z9) ef18) hD
                exact hend _ _ _ _ _ hP hD hS (by rw [rnF, if_pos c1, hfg, if_pos (by omega)]) dX2_readNumber_127
          · skip
            have hdg9 := dig_in (fun h9 => hf _ (by omega)) c3 c11
            have hd3 := isDig_lt hdg9
            rw [dig_val hdg9] at hl
            refine lv_iload hx hb dX2_readNumber_39 (lv_at hl 1 rfl) ?_
            refine lv_iconst (v := nI (3)) hx hb dX2_readNumber_41 (by decide) ?_
            refine lv_icmp_ge (tgt := 77) hx hb dX2_readNumber_42 (by decide) (fun c19 => ?_) (fun c19 => ?_)
            · skip
              rw [nI_leI (by omega) (by omega)] at c19
              have hfg : figN len f r.1 = g := figN_of iv25_0 iv25_1 (Or.inl (by omega))
              refine lv_iload hx hb dX2_readNumber_77 (lv_at hl 1 rfl) ?_
              refine lv_if_eq (tgt := 88) hx hb dX2_readNumber_79 (by decide) (fun c20 => ?_) (fun c20 => ?_)
              · skip
                rw [n_z (by omega)] at c20
                refine lv_aload_n hx hb dX2_readNumber_88 rfl (lv_at hl 3 rfl) ?_
                refine lv_iconst (v := nI (1)) hx hb dX2_readNumber_89 (by decide) ?_
                refine cVv (n := 1) (As := [.int (nI (1))]) (rest := []) (C := RX2) (ci := 2) (q0 := 0) (X := [(q, .inr (2, [.int (nI (r.1)), .int (nI (r.2))])), (qt, .inr (5, [.ref (qb), .ref (q), .int (nI (len))])), (qb, .inl (cA 0, 130, arN f))]) (pl := []) (wc := [(q, .inr (2, [.int (nI (r.1)), .int (nI (r.2))]))]) (wr := [(qt, .inr (5, [.ref (qb), .ref (q), .int (nI (len))])), (qb, .inl (cA 0, 130, arN f))]) (w1 := [(q, .inr (2, [.int (nI (r.1)), .int (nI (1))]))]) (wn := [(q, .inr (2, [.int (nI (r.1)), .int (nI (1))])), (qt, .inr (5, [.ref (qb), .ref (q), .int (nI (len))])), (qb, .inl (cA 0, 130, arN f))]) (isC := [0]) (isR := [1, 2]) (isN := [2, 0, 1]) ⟨hx, hb, hml, hown, hts⟩ (c_X2_fail l D cA tt q r 1  _) gX2_readNumber_X2_fail rfl (by decide +kernel) rfl rfl ⟨rfl, rfl⟩ ⟨Nat.le_of_ble_eq_true rfl, Nat.le_of_ble_eq_true rfl⟩ ⟨Nat.zero_le _, Nat.zero_le _⟩ hK hE hA hP hD hS ⟨⟨rfl, by decide⟩, ⟨rfl, by decide, by decide⟩, rfl, by decide⟩ rfl hl.1 rfl (Nat.le_of_ble_eq_true rfl) dX2_readNumber_90 (fun H locs hP hD hS => ?_)
                have hP : va_P D vwCl [(q, .inr (2, [.int (nI (r.1)), .int (nI (1))])), (qt, .inr (5, [.ref (qb), .ref (q), .int (nI (len))])), (qb, .inl (cA 0, 130, arN f))] H := hP
                have hD : va_D A [(q, .inr (2, [.int (nI (r.1)), .int (nI (1))])), (qt, .inr (5, [.ref (qb), .ref (q), .int (nI (len))])), (qb, .inl (cA 0, 130, arN f))] := hD
                refine lv_goto (tgt := 125) hx hb dX2_readNumber_93 (by decide) ?_
                refine lv_iload hx hb dX2_readNumber_125 (lv_at hl 2 rfl) ?_
                have ef21 : ([(q, .inr (2, [.int (nI (r.1)), .int (nI (1))])), (qt, .inr (5, [.ref (qb), .ref (q), .int (nI (len))])), (qb, .inl (cA 0, 130, arN f))] : va_W) = [(q, .inr (2, [.int (nI ((rnF len f lo hi r).2.1)), .int (nI ((rnF len f lo hi r).2.2))])), (qt, .inr (5, [.ref (qb), .ref (q), .int (nI (len))])), (qb, .inl (cA 0, 130, arN f))] := by
                  rw [rnF, if_pos c1, hfg, if_pos (by omega)]
                have hP : va_P D vwCl [(q, .inr (2, [.int (nI ((rnF len f lo hi r).2.1)), .int (nI ((rnF len f lo hi r).2.2))])), (qt, .inr (5, [.ref (qb), .ref (q), .int (nI (len))])), (qb, .inl (cA 0, 130, arN f))] _ := Eq.mp (congrArg (fun z9 => va_P D vwCl z9 _) ef21) hP
                have hD : va_D A [(q, .inr (2, [.int (nI ((rnF len f lo hi r).2.1)), .int (nI ((rnF len f lo hi r).2.2))])), (qt, .inr (5, [.ref (qb), .ref (q), .int (nI (len))])), (qb, .inl (cA 0, 130, arN f))] := Eq.mp (congrArg (fun z9 => va_D A z9) ef21) hD
                exact hend _ _ _ _ _ hP hD hS (by rw [rnF, if_pos c1, hfg, if_pos (by omega)]) dX2_readNumber_127
              · skip
                rw [n_z (by omega)] at c20
                refine lv_iload hx hb dX2_readNumber_82 (lv_at hl 1 rfl) ?_
                refine lv_iconst (v := nI (2)) hx hb dX2_readNumber_84 (by decide) ?_
                refine lv_icmp_le (tgt := 96) hx hb dX2_readNumber_85 (by decide) (fun c22 => ?_) (fun c22 => ?_)
                · skip
                  rw [nI_leI (by omega) (by omega)] at c22
                  refine lv_iload hx hb dX2_readNumber_96 (lv_at hl 2 rfl) ?_
                  refine lv_iload_n hx hb dX2_readNumber_98 rfl (lv_at hl 5 rfl) ?_
                  refine lv_iload_n hx hb dX2_readNumber_99 rfl (lv_at hl 6 rfl) ?_
                  refine cNi (n := 3) (As := [.int (nI (valN f r.1 g)), .int (nI (lo)), .int (nI (hi))]) (rest := []) (X := [(q, .inr (2, [.int (nI (r.1)), .int (nI (r.2))])), (qt, .inr (5, [.ref (qb), .ref (q), .int (nI (len))])), (qb, .inl (cA 0, 130, arN f))]) (pl := []) (wc := ([] : va_W)) (wr := [(q, .inr (2, [.int (nI (r.1)), .int (nI (r.2))])), (qt, .inr (5, [.ref (qb), .ref (q), .int (nI (len))])), (qb, .inl (cA 0, 130, arN f))]) (w1 := ([] : va_W)) (wn := [(q, .inr (2, [.int (nI (r.1)), .int (nI (r.2))])), (qt, .inr (5, [.ref (qb), .ref (q), .int (nI (len))])), (qb, .inl (cA 0, 130, arN f))]) (isC := []) (isR := [0, 1, 2]) (isN := [0, 1, 2]) ⟨hx, hb, hml, hown, hts⟩ (c_X7_isWithin l D cA tt (nI (valN f r.1 g)) (nI (lo)) (nI (hi))  _) gX2_readNumber_X7_isWithin_n66 rfl (hE.1.m (q := ("AdventStreets$Reader", 66, yX7_isWithin)) 7 rfl) (hts (.initialized RX7) (List.mem_of_getElem? (i := 17) rfl)) (hts (.static yX7_isWithin) (List.mem_of_getElem? (i := 16) rfl)) (by decide +kernel) ⟨rfl, rfl⟩ ⟨Nat.le_of_ble_eq_true rfl, Nat.le_of_ble_eq_true rfl⟩ ⟨Nat.zero_le _, Nat.zero_le _⟩ hK hE hA hP hD hS ⟨⟨rfl, by decide⟩, ⟨rfl, by decide, by decide⟩, rfl, by decide⟩ rfl hl.1 rfl (Nat.le_of_ble_eq_true rfl) dX2_readNumber_100 (fun H locs hP hD hS => ?_)
                  have hP : va_P D vwCl [(q, .inr (2, [.int (nI (r.1)), .int (nI (r.2))])), (qt, .inr (5, [.ref (qb), .ref (q), .int (nI (len))])), (qb, .inl (cA 0, 130, arN f))] H := hP
                  have hD : va_D A [(q, .inr (2, [.int (nI (r.1)), .int (nI (r.2))])), (qt, .inr (5, [.ref (qb), .ref (q), .int (nI (len))])), (qb, .inl (cA 0, 130, arN f))] := hD
                  refine lv_if_ne (tgt := 114) hx hb dX2_readNumber_103 (by decide) (fun c23 => ?_) (fun c23 => ?_)
                  · skip
                    rw [bI_nz] at c23
                    have hin := inI_tN (by omega) (by omega) (by omega) c23
                    refine lv_aload_n hx hb dX2_readNumber_114 rfl (lv_at hl 3 rfl) ?_
                    refine lv_dup hx hb dX2_readNumber_115 rfl ?_
                    refine va_get (v := .int (nI (r.1))) (Ts := wsX20) (C := RX2) (T := TX2) (N := 2) hx hb hwsX20 (fun _ h => h) hown hK hP 0 rfl rfl 0 (by decide) (hts (.fieldLink RX2 9 "AdventStreets$Reader" "at" "I") (List.mem_of_getElem? (i := 2) rfl)) (fun _ h9 => h9) rfl dX2_readNumber_116 ?_
                    refine lv_iload hx hb dX2_readNumber_119 (lv_at hl 1 rfl) ?_
                    refine lv_iadd hx hb dX2_readNumber_121 ?_
                    refine vn_i (v := nI (r.1 + g)) (nI_add _ _) ?_
                    refine va_put (v := .int (nI (r.1 + g))) (ty := .int) (Ts := wsX20) (C := RX2) (T := TX2) (N := 2) hx hb hwsX20 (fun _ h => h) tyX2 tyX2_ok nmX2 hown hK hP hD hS 0 rfl rfl 0 (by decide) (hts (.fieldLink RX2 9 "AdventStreets$Reader" "at" "I") (List.mem_of_getElem? (i := 2) rfl)) (fun _ h9 => h9) rfl (tyX2_ok 0 (by decide)) rfl rfl (Nat.le_of_ble_eq_true rfl) dX2_readNumber_122 (fun H locs hP hD hS => ?_)
                    have hP : va_P D vwCl [(q, .inr (2, [.int (nI (r.1 + g)), .int (nI (r.2))])), (qt, .inr (5, [.ref (qb), .ref (q), .int (nI (len))])), (qb, .inl (cA 0, 130, arN f))] H := hP
                    have hD : va_D A [(q, .inr (2, [.int (nI (r.1 + g)), .int (nI (r.2))])), (qt, .inr (5, [.ref (qb), .ref (q), .int (nI (len))])), (qb, .inl (cA 0, 130, arN f))] := hD
                    refine lv_iload hx hb dX2_readNumber_125 (lv_at hl 2 rfl) ?_
                    have ef24 : ([(q, .inr (2, [.int (nI (r.1 + g)), .int (nI (r.2))])), (qt, .inr (5, [.ref (qb), .ref (q), .int (nI (len))])), (qb, .inl (cA 0, 130, arN f))] : va_W) = [(q, .inr (2, [.int (nI ((rnF len f lo hi r).2.1)), .int (nI ((rnF len f lo hi r).2.2))])), (qt, .inr (5, [.ref (qb), .ref (q), .int (nI (len))])), (qb, .inl (cA 0, 130, arN f))] := by
                      rw [rnF, if_pos c1, hfg, if_neg (by omega), if_pos (by omega)]
                    have hP : va_P D vwCl [(q, .inr (2, [.int (nI ((rnF len f lo hi r).2.1)), .int (nI ((rnF len f lo hi r).2.2))])), (qt, .inr (5, [.ref (qb), .ref (q), .int (nI (len))])), (qb, .inl (cA 0, 130, arN f))] _ := Eq.mp (congrArg (fun z9 => va_P D vwCl z9 _) ef24) hP
                    have hD : va_D A [(q, .inr (2, [.int (nI ((rnF len f lo hi r).2.1)), .int (nI ((rnF len f lo hi r).2.2))])), (qt, .inr (5, [.ref (qb), .ref (q), .int (nI (len))])), (qb, .inl (cA 0, 130, arN f))] := Eq.mp (congrArg (fun z9 => va_D A z9) ef24) hD
                    exact hend _ _ _ _ _ hP hD hS (by rw [rnF, if_pos c1, hfg, if_neg (by omega), if_pos (by omega)]) dX2_readNumber_127
                  · skip
                    rw [bI_z] at c23
                    have hin := inI_fN (by omega) (by omega) (by omega) c23
                    refine lv_aload_n hx hb dX2_readNumber_106 rfl (lv_at hl 3 rfl) ?_
                    refine lv_iconst (v := nI (2)) hx hb dX2_readNumber_107 (by decide) ?_
                    refine cVv (n := 1) (As := [.int (nI (2))]) (rest := []) (C := RX2) (ci := 2) (q0 := 0) (X := [(q, .inr (2, [.int (nI (r.1)), .int (nI (r.2))])), (qt, .inr (5, [.ref (qb), .ref (q), .int (nI (len))])), (qb, .inl (cA 0, 130, arN f))]) (pl := []) (wc := [(q, .inr (2, [.int (nI (r.1)), .int (nI (r.2))]))]) (wr := [(qt, .inr (5, [.ref (qb), .ref (q), .int (nI (len))])), (qb, .inl (cA 0, 130, arN f))]) (w1 := [(q, .inr (2, [.int (nI (r.1)), .int (nI (2))]))]) (wn := [(q, .inr (2, [.int (nI (r.1)), .int (nI (2))])), (qt, .inr (5, [.ref (qb), .ref (q), .int (nI (len))])), (qb, .inl (cA 0, 130, arN f))]) (isC := [0]) (isR := [1, 2]) (isN := [2, 0, 1]) ⟨hx, hb, hml, hown, hts⟩ (c_X2_fail l D cA tt q r 2  _) gX2_readNumber_X2_fail rfl (by decide +kernel) rfl rfl ⟨rfl, rfl⟩ ⟨Nat.le_of_ble_eq_true rfl, Nat.le_of_ble_eq_true rfl⟩ ⟨Nat.zero_le _, Nat.zero_le _⟩ hK hE hA hP hD hS ⟨⟨rfl, by decide⟩, ⟨rfl, by decide, by decide⟩, rfl, by decide⟩ rfl hl.1 rfl (Nat.le_of_ble_eq_true rfl) dX2_readNumber_108 (fun H locs hP hD hS => ?_)
                    have hP : va_P D vwCl [(q, .inr (2, [.int (nI (r.1)), .int (nI (2))])), (qt, .inr (5, [.ref (qb), .ref (q), .int (nI (len))])), (qb, .inl (cA 0, 130, arN f))] H := hP
                    have hD : va_D A [(q, .inr (2, [.int (nI (r.1)), .int (nI (2))])), (qt, .inr (5, [.ref (qb), .ref (q), .int (nI (len))])), (qb, .inl (cA 0, 130, arN f))] := hD
                    refine lv_goto (tgt := 125) hx hb dX2_readNumber_111 (by decide) ?_
                    refine lv_iload hx hb dX2_readNumber_125 (lv_at hl 2 rfl) ?_
                    have ef25 : ([(q, .inr (2, [.int (nI (r.1)), .int (nI (2))])), (qt, .inr (5, [.ref (qb), .ref (q), .int (nI (len))])), (qb, .inl (cA 0, 130, arN f))] : va_W) = [(q, .inr (2, [.int (nI ((rnF len f lo hi r).2.1)), .int (nI ((rnF len f lo hi r).2.2))])), (qt, .inr (5, [.ref (qb), .ref (q), .int (nI (len))])), (qb, .inl (cA 0, 130, arN f))] := by
                      rw [rnF, if_pos c1, hfg, if_neg (by omega), if_neg (by omega)]
                    have hP : va_P D vwCl [(q, .inr (2, [.int (nI ((rnF len f lo hi r).2.1)), .int (nI ((rnF len f lo hi r).2.2))])), (qt, .inr (5, [.ref (qb), .ref (q), .int (nI (len))])), (qb, .inl (cA 0, 130, arN f))] _ := Eq.mp (congrArg (fun z9 => va_P D vwCl z9 _) ef25) hP
                    have hD : va_D A [(q, .inr (2, [.int (nI ((rnF len f lo hi r).2.1)), .int (nI ((rnF len f lo hi r).2.2))])), (qt, .inr (5, [.ref (qb), .ref (q), .int (nI (len))])), (qb, .inl (cA 0, 130, arN f))] := Eq.mp (congrArg (fun z9 => va_D A z9) ef25) hD
                    exact hend _ _ _ _ _ hP hD hS (by rw [rnF, if_pos c1, hfg, if_neg (by omega), if_neg (by omega)]) dX2_readNumber_127
                · skip
                  rw [nI_leI (by omega) (by omega)] at c22
                  refine lv_aload_n hx hb dX2_readNumber_88 rfl (lv_at hl 3 rfl) ?_
                  refine lv_iconst (v := nI (1)) hx hb dX2_readNumber_89 (by decide) ?_
                  refine cVv (n := 1) (As := [.int (nI (1))]) (rest := []) (C := RX2) (ci := 2) (q0 := 0) (X := [(q, .inr (2, [.int (nI (r.1)), .int (nI (r.2))])), (qt, .inr (5, [.ref (qb), .ref (q), .int (nI (len))])), (qb, .inl (cA 0, 130, arN f))]) (pl := []) (wc := [(q, .inr (2, [.int (nI (r.1)), .int (nI (r.2))]))]) (wr := [(qt, .inr (5, [.ref (qb), .ref (q), .int (nI (len))])), (qb, .inl (cA 0, 130, arN f))]) (w1 := [(q, .inr (2, [.int (nI (r.1)), .int (nI (1))]))]) (wn := [(q, .inr (2, [.int (nI (r.1)), .int (nI (1))])), (qt, .inr (5, [.ref (qb), .ref (q), .int (nI (len))])), (qb, .inl (cA 0, 130, arN f))]) (isC := [0]) (isR := [1, 2]) (isN := [2, 0, 1]) ⟨hx, hb, hml, hown, hts⟩ (c_X2_fail l D cA tt q r 1  _) gX2_readNumber_X2_fail rfl (by decide +kernel) rfl rfl ⟨rfl, rfl⟩ ⟨Nat.le_of_ble_eq_true rfl, Nat.le_of_ble_eq_true rfl⟩ ⟨Nat.zero_le _, Nat.zero_le _⟩ hK hE hA hP hD hS ⟨⟨rfl, by decide⟩, ⟨rfl, by decide, by decide⟩, rfl, by decide⟩ rfl hl.1 rfl (Nat.le_of_ble_eq_true rfl) dX2_readNumber_90 (fun H locs hP hD hS => ?_)
                  have hP : va_P D vwCl [(q, .inr (2, [.int (nI (r.1)), .int (nI (1))])), (qt, .inr (5, [.ref (qb), .ref (q), .int (nI (len))])), (qb, .inl (cA 0, 130, arN f))] H := hP
                  have hD : va_D A [(q, .inr (2, [.int (nI (r.1)), .int (nI (1))])), (qt, .inr (5, [.ref (qb), .ref (q), .int (nI (len))])), (qb, .inl (cA 0, 130, arN f))] := hD
                  refine lv_goto (tgt := 125) hx hb dX2_readNumber_93 (by decide) ?_
                  refine lv_iload hx hb dX2_readNumber_125 (lv_at hl 2 rfl) ?_
                  have ef26 : ([(q, .inr (2, [.int (nI (r.1)), .int (nI (1))])), (qt, .inr (5, [.ref (qb), .ref (q), .int (nI (len))])), (qb, .inl (cA 0, 130, arN f))] : va_W) = [(q, .inr (2, [.int (nI ((rnF len f lo hi r).2.1)), .int (nI ((rnF len f lo hi r).2.2))])), (qt, .inr (5, [.ref (qb), .ref (q), .int (nI (len))])), (qb, .inl (cA 0, 130, arN f))] := by
                    rw [rnF, if_pos c1, hfg, if_pos (by omega)]
                  have hP : va_P D vwCl [(q, .inr (2, [.int (nI ((rnF len f lo hi r).2.1)), .int (nI ((rnF len f lo hi r).2.2))])), (qt, .inr (5, [.ref (qb), .ref (q), .int (nI (len))])), (qb, .inl (cA 0, 130, arN f))] _ := Eq.mp (congrArg (fun z9 => va_P D vwCl z9 _) ef26) hP
                  have hD : va_D A [(q, .inr (2, [.int (nI ((rnF len f lo hi r).2.1)), .int (nI ((rnF len f lo hi r).2.2))])), (qt, .inr (5, [.ref (qb), .ref (q), .int (nI (len))])), (qb, .inl (cA 0, 130, arN f))] := Eq.mp (congrArg (fun z9 => va_D A z9) ef26) hD
                  exact hend _ _ _ _ _ hP hD hS (by rw [rnF, if_pos c1, hfg, if_pos (by omega)]) dX2_readNumber_127
            · skip
              rw [nI_leI (by omega) (by omega)] at c19
              refine lv_bipush (v := nI (10)) hx hb dX2_readNumber_45 (by decide) ?_
              refine lv_iload hx hb dX2_readNumber_47 (lv_at hl 2 rfl) ?_
              refine lv_imul hx hb dX2_readNumber_49 ?_
              refine vn_i (v := nI (10 * (valN f r.1 g))) (pk_mul _ _) ?_
              refine lv_iload hx hb dX2_readNumber_50 (lv_at hl 0 rfl) ?_
              refine lv_iadd hx hb dX2_readNumber_52 ?_
              refine vn_i (v := nI (10 * (valN f r.1 g) + (f (r.1 + g)))) (nI_add _ _) ?_
              refine lv_bipush (v := nI (48)) hx hb dX2_readNumber_53 (by decide) ?_
              refine lv_isub hx hb dX2_readNumber_55 ?_
              refine vn_i (v := nI ((10 * (valN f r.1 g) + (f (r.1 + g))) - 48)) (pk_sub (by omega)) ?_
              refine lv_istore (lv' := [(4, .int (nI ((10 * (valN f r.1 g) + (f (r.1 + g))) - 48))), (6, .int (nI (f (r.1 + g)))), (5, .int (nI (g))), (0, .ref (q)), (1, .ref (qt)), (2, .int (nI (lo))), (3, .int (nI (hi)))]) hx hb dX2_readNumber_56 hl (by decide) rfl (fun ls hl => ?_)
              refine lv_iinc (v := nI (g + 1)) (lv' := [(5, .int (nI (g + 1))), (4, .int (nI ((10 * (valN f r.1 g) + (f (r.1 + g))) - 48))), (6, .int (nI (f (r.1 + g)))), (0, .ref (q)), (1, .ref (qt)), (2, .int (nI (lo))), (3, .int (nI (hi)))]) hx hb dX2_readNumber_58 hl (k := 2) rfl (nI_add _ _) (by decide) rfl (fun ls hl => ?_)
              refine lv_aload_n hx hb dX2_readNumber_61 rfl (lv_at hl 4 rfl) ?_
              refine lv_aload_n hx hb dX2_readNumber_62 rfl (lv_at hl 3 rfl) ?_
              refine va_get (v := .int (nI (r.1))) (Ts := wsX20) (C := RX2) (T := TX2) (N := 2) hx hb hwsX20 (fun _ h => h) hown hK hP 0 rfl rfl 0 (by decide) (hts (.fieldLink RX2 9 "AdventStreets$Reader" "at" "I") (List.mem_of_getElem? (i := 2) rfl)) (fun _ h9 => h9) rfl dX2_readNumber_63 ?_
              refine lv_iload hx hb dX2_readNumber_66 (lv_at hl 0 rfl) ?_
              refine lv_iadd hx hb dX2_readNumber_68 ?_
              refine vn_i (v := nI (r.1 + (g + 1))) (nI_add _ _) ?_
              refine cVi (n := 1) (As := [.int (nI (r.1 + (g + 1)))]) (rest := []) (C := RX5) (ci := 5) (q0 := 0) (X := [(q, .inr (2, [.int (nI (r.1)), .int (nI (r.2))])), (qt, .inr (5, [.ref (qb), .ref (q), .int (nI (len))])), (qb, .inl (cA 0, 130, arN f))]) (pl := []) (wc := [(qt, .inr (5, [.ref (qb), .ref (q), .int (nI (len))])), (qb, .inl (cA 0, 130, arN f))]) (wr := [(q, .inr (2, [.int (nI (r.1)), .int (nI (r.2))]))]) (w1 := [(qt, .inr (5, [.ref (qb), .ref (q), .int (nI (len))])), (qb, .inl (cA 0, 130, arN f))]) (wn := [(q, .inr (2, [.int (nI (r.1)), .int (nI (r.2))])), (qt, .inr (5, [.ref (qb), .ref (q), .int (nI (len))])), (qb, .inl (cA 0, 130, arN f))]) (isC := [1, 2]) (isR := [0]) (isN := [0, 1, 2]) ⟨hx, hb, hml, hown, hts⟩ (c_X5_at l D cA tt qt q qb len f (r.1 + (g + 1)) (hlen) (by omega) _) gX2_readNumber_X5_at rfl (by decide +kernel) rfl rfl ⟨rfl, rfl⟩ ⟨Nat.le_of_ble_eq_true rfl, Nat.le_of_ble_eq_true rfl⟩ ⟨Nat.zero_le _, Nat.zero_le _⟩ hK hE hA hP hD hS ⟨⟨rfl, by decide⟩, ⟨rfl, by decide, by decide⟩, rfl, by decide⟩ rfl hl.1 rfl (Nat.le_of_ble_eq_true rfl) dX2_readNumber_69 (fun H locs hP hD hS => ?_)
              have hP : va_P D vwCl [(q, .inr (2, [.int (nI (r.1)), .int (nI (r.2))])), (qt, .inr (5, [.ref (qb), .ref (q), .int (nI (len))])), (qb, .inl (cA 0, 130, arN f))] H := hP
              have hD : va_D A [(q, .inr (2, [.int (nI (r.1)), .int (nI (r.2))])), (qt, .inr (5, [.ref (qb), .ref (q), .int (nI (len))])), (qb, .inl (cA 0, 130, arN f))] := hD
              refine lv_istore (lv' := [(6, .int (tapAt len f (r.1 + (g + 1)))), (5, .int (nI (g + 1))), (4, .int (nI ((10 * (valN f r.1 g) + (f (r.1 + g))) - 48))), (0, .ref (q)), (1, .ref (qt)), (2, .int (nI (lo))), (3, .int (nI (hi)))]) hx hb dX2_readNumber_72 hl (by decide) rfl (fun ls hl => ?_)
              refine lv_goto (tgt := 25) hx hb dX2_readNumber_74 (by decide) ?_
              have hl9 := lv_sub (l' := [(6, .int (tapAt len f (r.1 + (g + 1)))), (5, .int (nI (g + 1))), (4, .int (nI ((10 * (valN f r.1 g) + (f (r.1 + g))) - 48))), (0, .ref (q)), (1, .ref (qt)), (2, .int (nI (lo))), (3, .int (nI (hi)))]) hl [0, 1, 2, 3, 4, 5, 6] rfl
              have el27 : (.int (nI ((10 * (valN f r.1 g) + (f (r.1 + g))) - 48)) : Value) = .int (nI (valN f r.1 (g + 1))) := by
                rfl
              rw [el27] at hl9
              exact ih25 (g + 1) (by omega) (lt_s (p := fun j => isDig len f (r.1 + j) = true) iv25_1 hdg9) (by omega) _ _ _ hP hD hS hl9
    have hl9 := lv_sub (l' := [(6, .int (tapAt len f r.1)), (5, .int (nI (0))), (4, .int (nI (0))), (0, .ref (q)), (1, .ref (qt)), (2, .int (nI (lo))), (3, .int (nI (hi)))]) hl [0, 1, 2, 3, 4, 5, 6] rfl
    have el28 : (.int (tapAt len f r.1) : Value) = .int (tapAt len f (r.1 + 0)) := by
      rfl
    rw [el28] at hl9
    have el29 : (.int (nI (0)) : Value) = .int (nI (valN f r.1 0)) := by
      rfl
    rw [el29] at hl9
    exact loop25 _ 0 (by decide) (lt_0) (Nat.lt_succ_self _) _ _ _ hP hD hS hl9
  · skip
    rw [n_z (by omega)] at c1
    refine lv_iconst (v := nI (0)) hx hb dX2_readNumber_7 (by decide) ?_
    have ef30 : ([(q, .inr (2, [.int (nI (r.1)), .int (nI (r.2))])), (qt, .inr (5, [.ref (qb), .ref (q), .int (nI (len))])), (qb, .inl (cA 0, 130, arN f))] : va_W) = [(q, .inr (2, [.int (nI ((rnF len f lo hi r).2.1)), .int (nI ((rnF len f lo hi r).2.2))])), (qt, .inr (5, [.ref (qb), .ref (q), .int (nI (len))])), (qb, .inl (cA 0, 130, arN f))] := by
      rw [rnF, if_neg c1]
    have hP : va_P D vwCl [(q, .inr (2, [.int (nI ((rnF len f lo hi r).2.1)), .int (nI ((rnF len f lo hi r).2.2))])), (qt, .inr (5, [.ref (qb), .ref (q), .int (nI (len))])), (qb, .inl (cA 0, 130, arN f))] _ := Eq.mp (congrArg (fun z9 => va_P D vwCl z9 _) ef30) hP
    have hD : va_D A [(q, .inr (2, [.int (nI ((rnF len f lo hi r).2.1)), .int (nI ((rnF len f lo hi r).2.2))])), (qt, .inr (5, [.ref (qb), .ref (q), .int (nI (len))])), (qb, .inl (cA 0, 130, arN f))] := Eq.mp (congrArg (fun z9 => va_D A z9) ef30) hD
    exact hend _ _ _ _ _ hP hD hS (by rw [rnF, if_neg c1]) dX2_readNumber_8
set_option maxRecDepth 100000 in
set_option maxHeartbeats 4000000 in
theorem c_X2_readSort (l : Launch) (D : va_G) (cA : Nat → ClassId) (tt : Nat → Nat) (q qt qb : Nat) (r : Nat × Nat) (len : Nat) (f : Nat → Nat) (room : Bool) (hlen : len ≤ 130) (hR : Rk len r) (sz : Nat) : Ci l D cA tt yX2_readSort wsX2_readSort ({ frames := 1, cells := 0, slots := 0, locals := 21 } : Room) [.ref (q), .ref (qt), .int (bI (room))] sz [(q, .inr (2, [.int (nI (r.1)), .int (nI (r.2))])), (qt, .inr (5, [.ref (qb), .ref (q), .int (nI (len))])), (qb, .inl (cA 0, 130, arN f))] [(q, .inr (2, [.int (nI ((rsF len f room r).1)), .int (nI ((rsF len f room r).2))])), (qt, .inr (5, [.ref (qb), .ref (q), .int (nI (len))])), (qb, .inl (cA 0, 130, arN f))] (kindN (tapAt len f r.1)) := by
  obtain ⟨ra, rb⟩ := id hR
  refine Ci.mk (cc := cX2_readSort) (maxL := 4) (ty := .int) (by decide) rfl rfl (Nat.le_of_ble_eq_true rfl) ?_
  intro p e s m below meth c A Q ls hB hl hend
  obtain ⟨⟨hx, hb, hml, hown, hts⟩, hP, hK, hD, hS, hA, hE⟩ := hB
  have hown : s.vm.findClass RX2 = some m.cls := hown
  have hwsX20 : ∀ w9 ∈ wsX20, w9.before ([.ref (q), .ref (qt), .int (bI (room))] : List Value).toArray s = true := fun w9 h => hts w9 (List.mem_cons_of_mem _ (List.mem_append_left _ (List.mem_append_right _ h)))
  have hwsX50 : ∀ w9 ∈ wsX50, w9.before ([.ref (q), .ref (qt), .int (bI (room))] : List Value).toArray s = true := fun w9 h => hts w9 (List.mem_cons_of_mem _ (List.mem_append_right _ h))
  have hl : lv_has ls 4 [(0, .ref (q)), (1, .ref (qt)), (2, .int (bI (room)))] := hl
  refine lv_aload_n hx hb dX2_readSort_0 rfl (lv_at hl 1 rfl) ?_
  refine lv_aload_n hx hb dX2_readSort_1 rfl (lv_at hl 0 rfl) ?_
  refine va_get (v := .int (nI (r.1))) (Ts := wsX20) (C := RX2) (T := TX2) (N := 2) hx hb hwsX20 (fun _ h => h) hown hK hP 0 rfl rfl 0 (by decide) (hts (.fieldLink RX2 9 "AdventStreets$Reader" "at" "I") (List.mem_of_getElem? (i := 1) rfl)) (fun _ h9 => h9) rfl dX2_readSort_2 ?_
  refine cVi (n := 1) (As := [.int (nI (r.1))]) (rest := []) (C := RX5) (ci := 5) (q0 := 0) (X := [(q, .inr (2, [.int (nI (r.1)), .int (nI (r.2))])), (qt, .inr (5, [.ref (qb), .ref (q), .int (nI (len))])), (qb, .inl (cA 0, 130, arN f))]) (pl := []) (wc := [(qt, .inr (5, [.ref (qb), .ref (q), .int (nI (len))])), (qb, .inl (cA 0, 130, arN f))]) (wr := [(q, .inr (2, [.int (nI (r.1)), .int (nI (r.2))]))]) (w1 := [(qt, .inr (5, [.ref (qb), .ref (q), .int (nI (len))])), (qb, .inl (cA 0, 130, arN f))]) (wn := [(q, .inr (2, [.int (nI (r.1)), .int (nI (r.2))])), (qt, .inr (5, [.ref (qb), .ref (q), .int (nI (len))])), (qb, .inl (cA 0, 130, arN f))]) (isC := [1, 2]) (isR := [0]) (isN := [0, 1, 2]) ⟨hx, hb, hml, hown, hts⟩ (c_X5_at l D cA tt qt q qb len f r.1 (hlen) (by omega) _) gX2_readSort_X5_at rfl (by decide +kernel) rfl rfl ⟨rfl, rfl⟩ ⟨Nat.le_of_ble_eq_true rfl, Nat.le_of_ble_eq_true rfl⟩ ⟨Nat.zero_le _, Nat.zero_le _⟩ hK hE hA hP hD hS ⟨⟨rfl, by decide⟩, ⟨rfl, by decide, by decide⟩, rfl, by decide⟩ rfl hl.1 rfl (Nat.le_of_ble_eq_true rfl) dX2_readSort_5 (fun H locs hP hD hS => ?_)
  have hP : va_P D vwCl [(q, .inr (2, [.int (nI (r.1)), .int (nI (r.2))])), (qt, .inr (5, [.ref (qb), .ref (q), .int (nI (len))])), (qb, .inl (cA 0, 130, arN f))] H := hP
  have hD : va_D A [(q, .inr (2, [.int (nI (r.1)), .int (nI (r.2))])), (qt, .inr (5, [.ref (qb), .ref (q), .int (nI (len))])), (qb, .inl (cA 0, 130, arN f))] := hD
  refine cSi (n := 1) (As := [.int (tapAt len f r.1)]) (rest := []) (X := [(q, .inr (2, [.int (nI (r.1)), .int (nI (r.2))])), (qt, .inr (5, [.ref (qb), .ref (q), .int (nI (len))])), (qb, .inl (cA 0, 130, arN f))]) (pl := []) (wc := ([] : va_W)) (wr := [(q, .inr (2, [.int (nI (r.1)), .int (nI (r.2))])), (qt, .inr (5, [.ref (qb), .ref (q), .int (nI (len))])), (qb, .inl (cA 0, 130, arN f))]) (w1 := ([] : va_W)) (wn := [(q, .inr (2, [.int (nI (r.1)), .int (nI (r.2))])), (qt, .inr (5, [.ref (qb), .ref (q), .int (nI (len))])), (qb, .inl (cA 0, 130, arN f))]) (isC := []) (isR := [0, 1, 2]) (isN := [0, 1, 2]) ⟨hx, hb, hml, hown, hts⟩ (c_X2_kindOf l D cA tt (tapAt len f r.1)  _) gX2_readSort_X2_kindOf rfl (by decide +kernel) ⟨rfl, rfl⟩ ⟨Nat.le_of_ble_eq_true rfl, Nat.le_of_ble_eq_true rfl⟩ ⟨Nat.zero_le _, Nat.zero_le _⟩ hK hE hA hP hD hS ⟨⟨rfl, by decide⟩, ⟨rfl, by decide, by decide⟩, rfl, by decide⟩ rfl hl.1 rfl (Nat.le_of_ble_eq_true rfl) dX2_readSort_8 (fun H locs hP hD hS => ?_)
  have hP : va_P D vwCl [(q, .inr (2, [.int (nI (r.1)), .int (nI (r.2))])), (qt, .inr (5, [.ref (qb), .ref (q), .int (nI (len))])), (qb, .inl (cA 0, 130, arN f))] H := hP
  have hD : va_D A [(q, .inr (2, [.int (nI (r.1)), .int (nI (r.2))])), (qt, .inr (5, [.ref (qb), .ref (q), .int (nI (len))])), (qb, .inl (cA 0, 130, arN f))] := hD
  refine lv_istore_n (lv' := [(3, .int (kindN (tapAt len f r.1))), (0, .ref (q)), (1, .ref (qt)), (2, .int (bI (room)))]) hx hb dX2_readSort_11 rfl hl (by decide) rfl (fun ls hl => ?_)
  refine lv_iload_n hx hb dX2_readSort_12 rfl (lv_at hl 0 rfl) ?_
  refine lv_ldc (v := (-1000000)) hx hb hown (hts (.constant RX2 61 (-1000000)) (List.mem_of_getElem? (i := 2) rfl)) dX2_readSort_13 ?_
  refine lv_icmp_ne (tgt := 26) hx hb dX2_readSort_15 (by decide) (fun c1 => ?_) (fun c1 => ?_)
  · skip
    refine lv_iload_n hx hb dX2_readSort_26 rfl (lv_at hl 3 rfl) ?_
    refine lv_if_ne (tgt := 38) hx hb dX2_readSort_27 (by decide) (fun c2 => ?_) (fun c2 => ?_)
    · skip
      rw [bI_nz] at c2
      refine lv_aload_n hx hb dX2_readSort_38 rfl (lv_at hl 1 rfl) ?_
      refine lv_dup hx hb dX2_readSort_39 rfl ?_
      refine va_get (v := .int (nI (r.1))) (Ts := wsX20) (C := RX2) (T := TX2) (N := 2) hx hb hwsX20 (fun _ h => h) hown hK hP 0 rfl rfl 0 (by decide) (hts (.fieldLink RX2 9 "AdventStreets$Reader" "at" "I") (List.mem_of_getElem? (i := 1) rfl)) (fun _ h9 => h9) rfl dX2_readSort_40 ?_
      refine lv_iconst (v := nI (1)) hx hb dX2_readSort_43 (by decide) ?_
      refine lv_iadd hx hb dX2_readSort_44 ?_
      refine vn_i (v := nI (r.1 + 1)) (nI_add _ _) ?_
      refine va_put (v := .int (nI (r.1 + 1))) (ty := .int) (Ts := wsX20) (C := RX2) (T := TX2) (N := 2) hx hb hwsX20 (fun _ h => h) tyX2 tyX2_ok nmX2 hown hK hP hD hS 0 rfl rfl 0 (by decide) (hts (.fieldLink RX2 9 "AdventStreets$Reader" "at" "I") (List.mem_of_getElem? (i := 1) rfl)) (fun _ h9 => h9) rfl (tyX2_ok 0 (by decide)) rfl rfl (Nat.le_of_ble_eq_true rfl) dX2_readSort_45 (fun H locs hP hD hS => ?_)
      have hP : va_P D vwCl [(q, .inr (2, [.int (nI (r.1 + 1)), .int (nI (r.2))])), (qt, .inr (5, [.ref (qb), .ref (q), .int (nI (len))])), (qb, .inl (cA 0, 130, arN f))] H := hP
      have hD : va_D A [(q, .inr (2, [.int (nI (r.1 + 1)), .int (nI (r.2))])), (qt, .inr (5, [.ref (qb), .ref (q), .int (nI (len))])), (qb, .inl (cA 0, 130, arN f))] := hD
      refine lv_iload_n hx hb dX2_readSort_48 rfl (lv_at hl 0 rfl) ?_
      have ef3 : ([(q, .inr (2, [.int (nI (r.1 + 1)), .int (nI (r.2))])), (qt, .inr (5, [.ref (qb), .ref (q), .int (nI (len))])), (qb, .inl (cA 0, 130, arN f))] : va_W) = [(q, .inr (2, [.int (nI ((rsF len f room r).1)), .int (nI ((rsF len f room r).2))])), (qt, .inr (5, [.ref (qb), .ref (q), .int (nI (len))])), (qb, .inl (cA 0, 130, arN f))] := by
        rw [rsF, if_neg (fun q => c1 (kindN_eq.mpr q)), if_neg (by rw [c2]; decide)]
      have hP : va_P D vwCl [(q, .inr (2, [.int (nI ((rsF len f room r).1)), .int (nI ((rsF len f room r).2))])), (qt, .inr (5, [.ref (qb), .ref (q), .int (nI (len))])), (qb, .inl (cA 0, 130, arN f))] _ := Eq.mp (congrArg (fun z9 => va_P D vwCl z9 _) ef3) hP
      have hD : va_D A [(q, .inr (2, [.int (nI ((rsF len f room r).1)), .int (nI ((rsF len f room r).2))])), (qt, .inr (5, [.ref (qb), .ref (q), .int (nI (len))])), (qb, .inl (cA 0, 130, arN f))] := Eq.mp (congrArg (fun z9 => va_D A z9) ef3) hD
      exact hend _ _ _ _ _ hP hD hS (rfl) dX2_readSort_49
    · skip
      rw [bI_z] at c2
      refine lv_aload_n hx hb dX2_readSort_30 rfl (lv_at hl 1 rfl) ?_
      refine lv_iconst (v := nI (3)) hx hb dX2_readSort_31 (by decide) ?_
      refine cVv (n := 1) (As := [.int (nI (3))]) (rest := []) (C := RX2) (ci := 2) (q0 := 0) (X := [(q, .inr (2, [.int (nI (r.1)), .int (nI (r.2))])), (qt, .inr (5, [.ref (qb), .ref (q), .int (nI (len))])), (qb, .inl (cA 0, 130, arN f))]) (pl := []) (wc := [(q, .inr (2, [.int (nI (r.1)), .int (nI (r.2))]))]) (wr := [(qt, .inr (5, [.ref (qb), .ref (q), .int (nI (len))])), (qb, .inl (cA 0, 130, arN f))]) (w1 := [(q, .inr (2, [.int (nI (r.1)), .int (nI (3))]))]) (wn := [(q, .inr (2, [.int (nI (r.1)), .int (nI (3))])), (qt, .inr (5, [.ref (qb), .ref (q), .int (nI (len))])), (qb, .inl (cA 0, 130, arN f))]) (isC := [0]) (isR := [1, 2]) (isN := [2, 0, 1]) ⟨hx, hb, hml, hown, hts⟩ (c_X2_fail l D cA tt q r 3  _) gX2_readSort_X2_fail rfl (by decide +kernel) rfl rfl ⟨rfl, rfl⟩ ⟨Nat.le_of_ble_eq_true rfl, Nat.le_of_ble_eq_true rfl⟩ ⟨Nat.zero_le _, Nat.zero_le _⟩ hK hE hA hP hD hS ⟨⟨rfl, by decide⟩, ⟨rfl, by decide, by decide⟩, rfl, by decide⟩ rfl hl.1 rfl (Nat.le_of_ble_eq_true rfl) dX2_readSort_32 (fun H locs hP hD hS => ?_)
      have hP : va_P D vwCl [(q, .inr (2, [.int (nI (r.1)), .int (nI (3))])), (qt, .inr (5, [.ref (qb), .ref (q), .int (nI (len))])), (qb, .inl (cA 0, 130, arN f))] H := hP
      have hD : va_D A [(q, .inr (2, [.int (nI (r.1)), .int (nI (3))])), (qt, .inr (5, [.ref (qb), .ref (q), .int (nI (len))])), (qb, .inl (cA 0, 130, arN f))] := hD
      refine lv_goto (tgt := 48) hx hb dX2_readSort_35 (by decide) ?_
      refine lv_iload_n hx hb dX2_readSort_48 rfl (lv_at hl 0 rfl) ?_
      have ef4 : ([(q, .inr (2, [.int (nI (r.1)), .int (nI (3))])), (qt, .inr (5, [.ref (qb), .ref (q), .int (nI (len))])), (qb, .inl (cA 0, 130, arN f))] : va_W) = [(q, .inr (2, [.int (nI ((rsF len f room r).1)), .int (nI ((rsF len f room r).2))])), (qt, .inr (5, [.ref (qb), .ref (q), .int (nI (len))])), (qb, .inl (cA 0, 130, arN f))] := by
        rw [rsF, if_neg (fun q => c1 (kindN_eq.mpr q)), if_pos c2]
      have hP : va_P D vwCl [(q, .inr (2, [.int (nI ((rsF len f room r).1)), .int (nI ((rsF len f room r).2))])), (qt, .inr (5, [.ref (qb), .ref (q), .int (nI (len))])), (qb, .inl (cA 0, 130, arN f))] _ := Eq.mp (congrArg (fun z9 => va_P D vwCl z9 _) ef4) hP
      have hD : va_D A [(q, .inr (2, [.int (nI ((rsF len f room r).1)), .int (nI ((rsF len f room r).2))])), (qt, .inr (5, [.ref (qb), .ref (q), .int (nI (len))])), (qb, .inl (cA 0, 130, arN f))] := Eq.mp (congrArg (fun z9 => va_D A z9) ef4) hD
      exact hend _ _ _ _ _ hP hD hS (rfl) dX2_readSort_49
  · skip
    refine lv_aload_n hx hb dX2_readSort_18 rfl (lv_at hl 1 rfl) ?_
    refine lv_iconst (v := nI (1)) hx hb dX2_readSort_19 (by decide) ?_
    refine cVv (n := 1) (As := [.int (nI (1))]) (rest := []) (C := RX2) (ci := 2) (q0 := 0) (X := [(q, .inr (2, [.int (nI (r.1)), .int (nI (r.2))])), (qt, .inr (5, [.ref (qb), .ref (q), .int (nI (len))])), (qb, .inl (cA 0, 130, arN f))]) (pl := []) (wc := [(q, .inr (2, [.int (nI (r.1)), .int (nI (r.2))]))]) (wr := [(qt, .inr (5, [.ref (qb), .ref (q), .int (nI (len))])), (qb, .inl (cA 0, 130, arN f))]) (w1 := [(q, .inr (2, [.int (nI (r.1)), .int (nI (1))]))]) (wn := [(q, .inr (2, [.int (nI (r.1)), .int (nI (1))])), (qt, .inr (5, [.ref (qb), .ref (q), .int (nI (len))])), (qb, .inl (cA 0, 130, arN f))]) (isC := [0]) (isR := [1, 2]) (isN := [2, 0, 1]) ⟨hx, hb, hml, hown, hts⟩ (c_X2_fail l D cA tt q r 1  _) gX2_readSort_X2_fail rfl (by decide +kernel) rfl rfl ⟨rfl, rfl⟩ ⟨Nat.le_of_ble_eq_true rfl, Nat.le_of_ble_eq_true rfl⟩ ⟨Nat.zero_le _, Nat.zero_le _⟩ hK hE hA hP hD hS ⟨⟨rfl, by decide⟩, ⟨rfl, by decide, by decide⟩, rfl, by decide⟩ rfl hl.1 rfl (Nat.le_of_ble_eq_true rfl) dX2_readSort_20 (fun H locs hP hD hS => ?_)
    have hP : va_P D vwCl [(q, .inr (2, [.int (nI (r.1)), .int (nI (1))])), (qt, .inr (5, [.ref (qb), .ref (q), .int (nI (len))])), (qb, .inl (cA 0, 130, arN f))] H := hP
    have hD : va_D A [(q, .inr (2, [.int (nI (r.1)), .int (nI (1))])), (qt, .inr (5, [.ref (qb), .ref (q), .int (nI (len))])), (qb, .inl (cA 0, 130, arN f))] := hD
    refine lv_goto (tgt := 48) hx hb dX2_readSort_23 (by decide) ?_
    refine lv_iload_n hx hb dX2_readSort_48 rfl (lv_at hl 0 rfl) ?_
    have ef5 : ([(q, .inr (2, [.int (nI (r.1)), .int (nI (1))])), (qt, .inr (5, [.ref (qb), .ref (q), .int (nI (len))])), (qb, .inl (cA 0, 130, arN f))] : va_W) = [(q, .inr (2, [.int (nI ((rsF len f room r).1)), .int (nI ((rsF len f room r).2))])), (qt, .inr (5, [.ref (qb), .ref (q), .int (nI (len))])), (qb, .inl (cA 0, 130, arN f))] := by
      rw [rsF, if_pos (kindN_eq.mp c1)]
    have hP : va_P D vwCl [(q, .inr (2, [.int (nI ((rsF len f room r).1)), .int (nI ((rsF len f room r).2))])), (qt, .inr (5, [.ref (qb), .ref (q), .int (nI (len))])), (qb, .inl (cA 0, 130, arN f))] _ := Eq.mp (congrArg (fun z9 => va_P D vwCl z9 _) ef5) hP
    have hD : va_D A [(q, .inr (2, [.int (nI ((rsF len f room r).1)), .int (nI ((rsF len f room r).2))])), (qt, .inr (5, [.ref (qb), .ref (q), .int (nI (len))])), (qb, .inl (cA 0, 130, arN f))] := Eq.mp (congrArg (fun z9 => va_D A z9) ef5) hD
    exact hend _ _ _ _ _ hP hD hS (rfl) dX2_readSort_49
set_option maxRecDepth 100000 in
set_option maxHeartbeats 4000000 in
theorem c_X2_readLaw (l : Launch) (D : va_G) (cA : Nat → ClassId) (tt : Nat → Nat) (a : Nat → Nat) (q qt qb : Nat) (r : Nat × Nat) (len : Nat) (f : Nat → Nat) (x : Sg) (hlen : len ≤ 130) (hR : Rk len r) (hf : ∀ i, i < 130 → f i < 256) (sz : Nat) : Cv l D cA tt yX2_readLaw wsX2_readLaw ({ frames := 2, cells := 0, slots := 0, locals := 48 } : Room) [.ref (q), .ref (qt), .ref (a 0)] sz ([(q, .inr (2, [.int (nI (r.1)), .int (nI (r.2))])), (qt, .inr (5, [.ref (qb), .ref (q), .int (nI (len))])), (qb, .inl (cA 0, 130, arN f))] ++ stW cA a x) ([(q, .inr (2, [.int (nI ((lwR len f r).1)), .int (nI ((lwR len f r).2))])), (qt, .inr (5, [.ref (qb), .ref (q), .int (nI (len))])), (qb, .inl (cA 0, 130, arN f))] ++ stW cA a (beginF x (lwE len f r).1 (lwS len f r).1)) := by
  refine Cv.mk (cc := cX2_readLaw) (maxL := 5) (by decide) rfl (Nat.le_of_ble_eq_true rfl) ?_
  intro p e s m below meth c A Q ls hB hl hend
  obtain ⟨⟨hx, hb, hml, hown, hts⟩, hP, hK, hD, hS, hA, hE⟩ := hB
  have hown : s.vm.findClass RX2 = some m.cls := hown
  have hwsX20 : ∀ w9 ∈ wsX20, w9.before ([.ref (q), .ref (qt), .ref (a 0)] : List Value).toArray s = true := fun w9 h => hts w9 (List.mem_cons_of_mem _ (List.mem_append_left _ (List.mem_append_left _ (List.mem_append_right _ h))))
  have hwsX50 : ∀ w9 ∈ wsX50, w9.before ([.ref (q), .ref (qt), .ref (a 0)] : List Value).toArray s = true := fun w9 h => hts w9 (List.mem_cons_of_mem _ (List.mem_append_left _ (List.mem_append_right _ h)))
  have hwsX40 : ∀ w9 ∈ wsX40, w9.before ([.ref (q), .ref (qt), .ref (a 0)] : List Value).toArray s = true := fun w9 h => hts w9 (List.mem_cons_of_mem _ (List.mem_append_right _ h))
  have hl : lv_has ls 5 [(0, .ref (q)), (1, .ref (qt)), (2, .ref (a 0))] := hl
  refine lv_aload_n hx hb dX2_readLaw_0 rfl (lv_at hl 0 rfl) ?_
  refine lv_aload_n hx hb dX2_readLaw_1 rfl (lv_at hl 1 rfl) ?_
  refine lv_bipush (v := nI (101)) hx hb dX2_readLaw_2 (by decide) ?_
  refine cVv (n := 2) (As := [.ref (qt), .int (nI (101))]) (rest := []) (C := RX2) (ci := 2) (q0 := 0) (X := ([(q, .inr (2, [.int (nI (r.1)), .int (nI (r.2))])), (qt, .inr (5, [.ref (qb), .ref (q), .int (nI (len))])), (qb, .inl (cA 0, 130, arN f))] ++ stW cA a x)) (pl := []) (wc := [(q, .inr (2, [.int (nI (r.1)), .int (nI (r.2))])), (qt, .inr (5, [.ref (qb), .ref (q), .int (nI (len))])), (qb, .inl (cA 0, 130, arN f))]) (wr := (stW cA a x)) (w1 := [(q, .inr (2, [.int (nI ((rbF len f 101 r).1)), .int (nI ((rbF len f 101 r).2))])), (qt, .inr (5, [.ref (qb), .ref (q), .int (nI (len))])), (qb, .inl (cA 0, 130, arN f))]) (wn := ([(q, .inr (2, [.int (nI ((rbF len f 101 r).1)), .int (nI ((rbF len f 101 r).2))])), (qt, .inr (5, [.ref (qb), .ref (q), .int (nI (len))])), (qb, .inl (cA 0, 130, arN f))] ++ stW cA a x)) (isC := [0, 1, 2]) (isR := [3, 4, 5, 6, 7, 8]) (isN := [6, 7, 8, 0, 1, 2, 3, 4, 5]) ⟨hx, hb, hml, hown, hts⟩ (c_X2_readByte l D cA tt q qt qb r len f 101 (hlen) (hR) (by decide) _) gX2_readLaw_X2_readByte rfl (by decide +kernel) rfl rfl ⟨rfl, rfl⟩ ⟨Nat.le_of_ble_eq_true rfl, Nat.le_of_ble_eq_true rfl⟩ ⟨Nat.zero_le _, Nat.zero_le _⟩ hK hE hA hP hD hS ⟨⟨rfl, by decide⟩, ⟨rfl, by decide, by decide⟩, rfl, by decide⟩ rfl hl.1 rfl (Nat.le_of_ble_eq_true rfl) dX2_readLaw_4 (fun H locs hP hD hS => ?_)
  have hP : va_P D vwCl ([(q, .inr (2, [.int (nI ((rbF len f 101 r).1)), .int (nI ((rbF len f 101 r).2))])), (qt, .inr (5, [.ref (qb), .ref (q), .int (nI (len))])), (qb, .inl (cA 0, 130, arN f))] ++ stW cA a x) H := hP
  have hD : va_D A ([(q, .inr (2, [.int (nI ((rbF len f 101 r).1)), .int (nI ((rbF len f 101 r).2))])), (qt, .inr (5, [.ref (qb), .ref (q), .int (nI (len))])), (qb, .inl (cA 0, 130, arN f))] ++ stW cA a x) := hD
  have k2 : Rk len (rbF len f 101 r) := Rk.b hR (by decide)
  generalize e_r2 : rbF len f 101 r = r2 at hP hD k2 ⊢
  refine lv_aload_n hx hb dX2_readLaw_7 rfl (lv_at hl 0 rfl) ?_
  refine lv_aload_n hx hb dX2_readLaw_8 rfl (lv_at hl 1 rfl) ?_
  refine lv_iconst (v := nI (2)) hx hb dX2_readLaw_9 (by decide) ?_
  refine lv_bipush (v := nI (24)) hx hb dX2_readLaw_10 (by decide) ?_
  refine cVi (n := 3) (As := [.ref (qt), .int (nI (2)), .int (nI (24))]) (rest := []) (C := RX2) (ci := 2) (q0 := 0) (X := ([(q, .inr (2, [.int (nI (r2.1)), .int (nI (r2.2))])), (qt, .inr (5, [.ref (qb), .ref (q), .int (nI (len))])), (qb, .inl (cA 0, 130, arN f))] ++ stW cA a x)) (pl := []) (wc := [(q, .inr (2, [.int (nI (r2.1)), .int (nI (r2.2))])), (qt, .inr (5, [.ref (qb), .ref (q), .int (nI (len))])), (qb, .inl (cA 0, 130, arN f))]) (wr := (stW cA a x)) (w1 := [(q, .inr (2, [.int (nI ((rnF len f 2 24 r2).2.1)), .int (nI ((rnF len f 2 24 r2).2.2))])), (qt, .inr (5, [.ref (qb), .ref (q), .int (nI (len))])), (qb, .inl (cA 0, 130, arN f))]) (wn := ([(q, .inr (2, [.int (nI ((rnF len f 2 24 r2).2.1)), .int (nI ((rnF len f 2 24 r2).2.2))])), (qt, .inr (5, [.ref (qb), .ref (q), .int (nI (len))])), (qb, .inl (cA 0, 130, arN f))] ++ stW cA a x)) (isC := [0, 1, 2]) (isR := [3, 4, 5, 6, 7, 8]) (isN := [6, 7, 8, 0, 1, 2, 3, 4, 5]) ⟨hx, hb, hml, hown, hts⟩ (c_X2_readNumber l D cA tt q qt qb r2 len f 2 24 (hlen) (k2) (hf) (by omega) (by omega) _) gX2_readLaw_X2_readNumber rfl (by decide +kernel) rfl rfl ⟨rfl, rfl⟩ ⟨Nat.le_of_ble_eq_true rfl, Nat.le_of_ble_eq_true rfl⟩ ⟨Nat.zero_le _, Nat.zero_le _⟩ hK hE hA hP hD hS ⟨⟨rfl, by decide⟩, ⟨rfl, by decide, by decide⟩, rfl, by decide⟩ rfl hl.1 rfl (Nat.le_of_ble_eq_true rfl) dX2_readLaw_12 (fun H locs hP hD hS => ?_)
  have hP : va_P D vwCl ([(q, .inr (2, [.int (nI ((rnF len f 2 24 r2).2.1)), .int (nI ((rnF len f 2 24 r2).2.2))])), (qt, .inr (5, [.ref (qb), .ref (q), .int (nI (len))])), (qb, .inl (cA 0, 130, arN f))] ++ stW cA a x) H := hP
  have hD : va_D A ([(q, .inr (2, [.int (nI ((rnF len f 2 24 r2).2.1)), .int (nI ((rnF len f 2 24 r2).2.2))])), (qt, .inr (5, [.ref (qb), .ref (q), .int (nI (len))])), (qb, .inl (cA 0, 130, arN f))] ++ stW cA a x) := hD
  have k3 : Rk len (rnF len f 2 24 r2).2 := Rk.n k2
  generalize e_z3 : rnF len f 2 24 r2 = z3 at hP hD k3 ⊢
  refine lv_istore_n (lv' := [(3, .int (nI (z3.1))), (0, .ref (q)), (1, .ref (qt)), (2, .ref (a 0))]) hx hb dX2_readLaw_15 rfl hl (by decide) rfl (fun ls hl => ?_)
  refine lv_aload_n hx hb dX2_readLaw_16 rfl (lv_at hl 1 rfl) ?_
  refine lv_aload_n hx hb dX2_readLaw_17 rfl (lv_at hl 2 rfl) ?_
  refine lv_bipush (v := nI (44)) hx hb dX2_readLaw_18 (by decide) ?_
  refine cVv (n := 2) (As := [.ref (qt), .int (nI (44))]) (rest := []) (C := RX2) (ci := 2) (q0 := 0) (X := ([(q, .inr (2, [.int (nI (z3.2.1)), .int (nI (z3.2.2))])), (qt, .inr (5, [.ref (qb), .ref (q), .int (nI (len))])), (qb, .inl (cA 0, 130, arN f))] ++ stW cA a x)) (pl := []) (wc := [(q, .inr (2, [.int (nI (z3.2.1)), .int (nI (z3.2.2))])), (qt, .inr (5, [.ref (qb), .ref (q), .int (nI (len))])), (qb, .inl (cA 0, 130, arN f))]) (wr := (stW cA a x)) (w1 := [(q, .inr (2, [.int (nI ((rbF len f 44 z3.2).1)), .int (nI ((rbF len f 44 z3.2).2))])), (qt, .inr (5, [.ref (qb), .ref (q), .int (nI (len))])), (qb, .inl (cA 0, 130, arN f))]) (wn := ([(q, .inr (2, [.int (nI ((rbF len f 44 z3.2).1)), .int (nI ((rbF len f 44 z3.2).2))])), (qt, .inr (5, [.ref (qb), .ref (q), .int (nI (len))])), (qb, .inl (cA 0, 130, arN f))] ++ stW cA a x)) (isC := [0, 1, 2]) (isR := [3, 4, 5, 6, 7, 8]) (isN := [6, 7, 8, 0, 1, 2, 3, 4, 5]) ⟨hx, hb, hml, hown, hts⟩ (c_X2_readByte l D cA tt q qt qb z3.2 len f 44 (hlen) (k3) (by decide) _) gX2_readLaw_X2_readByte rfl (by decide +kernel) rfl rfl ⟨rfl, rfl⟩ ⟨Nat.le_of_ble_eq_true rfl, Nat.le_of_ble_eq_true rfl⟩ ⟨Nat.zero_le _, Nat.zero_le _⟩ hK hE hA hP hD hS ⟨⟨rfl, by decide⟩, ⟨rfl, by decide, by decide⟩, rfl, by decide⟩ rfl hl.1 rfl (Nat.le_of_ble_eq_true rfl) dX2_readLaw_20 (fun H locs hP hD hS => ?_)
  have hP : va_P D vwCl ([(q, .inr (2, [.int (nI ((rbF len f 44 z3.2).1)), .int (nI ((rbF len f 44 z3.2).2))])), (qt, .inr (5, [.ref (qb), .ref (q), .int (nI (len))])), (qb, .inl (cA 0, 130, arN f))] ++ stW cA a x) H := hP
  have hD : va_D A ([(q, .inr (2, [.int (nI ((rbF len f 44 z3.2).1)), .int (nI ((rbF len f 44 z3.2).2))])), (qt, .inr (5, [.ref (qb), .ref (q), .int (nI (len))])), (qb, .inl (cA 0, 130, arN f))] ++ stW cA a x) := hD
  have k4 : Rk len (rbF len f 44 z3.2) := Rk.b k3 (by decide)
  generalize e_r4 : rbF len f 44 z3.2 = r4 at hP hD k4 ⊢
  refine lv_aload_n hx hb dX2_readLaw_23 rfl (lv_at hl 1 rfl) ?_
  refine lv_aload_n hx hb dX2_readLaw_24 rfl (lv_at hl 2 rfl) ?_
  refine lv_iconst (v := nI (0)) hx hb dX2_readLaw_25 (by decide) ?_
  refine lv_iconst (v := nI (3)) hx hb dX2_readLaw_26 (by decide) ?_
  refine cVi (n := 3) (As := [.ref (qt), .int (nI (0)), .int (nI (3))]) (rest := []) (C := RX2) (ci := 2) (q0 := 0) (X := ([(q, .inr (2, [.int (nI (r4.1)), .int (nI (r4.2))])), (qt, .inr (5, [.ref (qb), .ref (q), .int (nI (len))])), (qb, .inl (cA 0, 130, arN f))] ++ stW cA a x)) (pl := []) (wc := [(q, .inr (2, [.int (nI (r4.1)), .int (nI (r4.2))])), (qt, .inr (5, [.ref (qb), .ref (q), .int (nI (len))])), (qb, .inl (cA 0, 130, arN f))]) (wr := (stW cA a x)) (w1 := [(q, .inr (2, [.int (nI ((rnF len f 0 3 r4).2.1)), .int (nI ((rnF len f 0 3 r4).2.2))])), (qt, .inr (5, [.ref (qb), .ref (q), .int (nI (len))])), (qb, .inl (cA 0, 130, arN f))]) (wn := ([(q, .inr (2, [.int (nI ((rnF len f 0 3 r4).2.1)), .int (nI ((rnF len f 0 3 r4).2.2))])), (qt, .inr (5, [.ref (qb), .ref (q), .int (nI (len))])), (qb, .inl (cA 0, 130, arN f))] ++ stW cA a x)) (isC := [0, 1, 2]) (isR := [3, 4, 5, 6, 7, 8]) (isN := [6, 7, 8, 0, 1, 2, 3, 4, 5]) ⟨hx, hb, hml, hown, hts⟩ (c_X2_readNumber l D cA tt q qt qb r4 len f 0 3 (hlen) (k4) (hf) (by omega) (by omega) _) gX2_readLaw_X2_readNumber rfl (by decide +kernel) rfl rfl ⟨rfl, rfl⟩ ⟨Nat.le_of_ble_eq_true rfl, Nat.le_of_ble_eq_true rfl⟩ ⟨Nat.zero_le _, Nat.zero_le _⟩ hK hE hA hP hD hS ⟨⟨rfl, by decide⟩, ⟨rfl, by decide, by decide⟩, rfl, by decide⟩ rfl hl.1 rfl (Nat.le_of_ble_eq_true rfl) dX2_readLaw_27 (fun H locs hP hD hS => ?_)
  have hP : va_P D vwCl ([(q, .inr (2, [.int (nI ((rnF len f 0 3 r4).2.1)), .int (nI ((rnF len f 0 3 r4).2.2))])), (qt, .inr (5, [.ref (qb), .ref (q), .int (nI (len))])), (qb, .inl (cA 0, 130, arN f))] ++ stW cA a x) H := hP
  have hD : va_D A ([(q, .inr (2, [.int (nI ((rnF len f 0 3 r4).2.1)), .int (nI ((rnF len f 0 3 r4).2.2))])), (qt, .inr (5, [.ref (qb), .ref (q), .int (nI (len))])), (qb, .inl (cA 0, 130, arN f))] ++ stW cA a x) := hD
  have k5 : Rk len (rnF len f 0 3 r4).2 := Rk.n k4
  generalize e_z5 : rnF len f 0 3 r4 = z5 at hP hD k5 ⊢
  refine lv_istore (lv' := [(4, .int (nI (z5.1))), (3, .int (nI (z3.1))), (0, .ref (q)), (1, .ref (qt)), (2, .ref (a 0))]) hx hb dX2_readLaw_30 hl (by decide) rfl (fun ls hl => ?_)
  refine lv_aload_n hx hb dX2_readLaw_32 rfl (lv_at hl 2 rfl) ?_
  refine lv_aload_n hx hb dX2_readLaw_33 rfl (lv_at hl 3 rfl) ?_
  refine lv_bipush (v := nI (59)) hx hb dX2_readLaw_34 (by decide) ?_
  refine cVv (n := 2) (As := [.ref (qt), .int (nI (59))]) (rest := []) (C := RX2) (ci := 2) (q0 := 0) (X := ([(q, .inr (2, [.int (nI (z5.2.1)), .int (nI (z5.2.2))])), (qt, .inr (5, [.ref (qb), .ref (q), .int (nI (len))])), (qb, .inl (cA 0, 130, arN f))] ++ stW cA a x)) (pl := []) (wc := [(q, .inr (2, [.int (nI (z5.2.1)), .int (nI (z5.2.2))])), (qt, .inr (5, [.ref (qb), .ref (q), .int (nI (len))])), (qb, .inl (cA 0, 130, arN f))]) (wr := (stW cA a x)) (w1 := [(q, .inr (2, [.int (nI ((rbF len f 59 z5.2).1)), .int (nI ((rbF len f 59 z5.2).2))])), (qt, .inr (5, [.ref (qb), .ref (q), .int (nI (len))])), (qb, .inl (cA 0, 130, arN f))]) (wn := ([(q, .inr (2, [.int (nI ((rbF len f 59 z5.2).1)), .int (nI ((rbF len f 59 z5.2).2))])), (qt, .inr (5, [.ref (qb), .ref (q), .int (nI (len))])), (qb, .inl (cA 0, 130, arN f))] ++ stW cA a x)) (isC := [0, 1, 2]) (isR := [3, 4, 5, 6, 7, 8]) (isN := [6, 7, 8, 0, 1, 2, 3, 4, 5]) ⟨hx, hb, hml, hown, hts⟩ (c_X2_readByte l D cA tt q qt qb z5.2 len f 59 (hlen) (k5) (by decide) _) gX2_readLaw_X2_readByte rfl (by decide +kernel) rfl rfl ⟨rfl, rfl⟩ ⟨Nat.le_of_ble_eq_true rfl, Nat.le_of_ble_eq_true rfl⟩ ⟨Nat.zero_le _, Nat.zero_le _⟩ hK hE hA hP hD hS ⟨⟨rfl, by decide⟩, ⟨rfl, by decide, by decide⟩, rfl, by decide⟩ rfl hl.1 rfl (Nat.le_of_ble_eq_true rfl) dX2_readLaw_36 (fun H locs hP hD hS => ?_)
  have hP : va_P D vwCl ([(q, .inr (2, [.int (nI ((rbF len f 59 z5.2).1)), .int (nI ((rbF len f 59 z5.2).2))])), (qt, .inr (5, [.ref (qb), .ref (q), .int (nI (len))])), (qb, .inl (cA 0, 130, arN f))] ++ stW cA a x) H := hP
  have hD : va_D A ([(q, .inr (2, [.int (nI ((rbF len f 59 z5.2).1)), .int (nI ((rbF len f 59 z5.2).2))])), (qt, .inr (5, [.ref (qb), .ref (q), .int (nI (len))])), (qb, .inl (cA 0, 130, arN f))] ++ stW cA a x) := hD
  have k6 : Rk len (rbF len f 59 z5.2) := Rk.b k5 (by decide)
  generalize e_r6 : rbF len f 59 z5.2 = r6 at hP hD k6 ⊢
  refine lv_aload_n hx hb dX2_readLaw_39 rfl (lv_at hl 4 rfl) ?_
  refine lv_iload_n hx hb dX2_readLaw_40 rfl (lv_at hl 1 rfl) ?_
  refine lv_iload hx hb dX2_readLaw_41 (lv_at hl 0 rfl) ?_
  refine cVv (n := 2) (As := [.int (nI (z3.1)), .int (nI (z5.1))]) (rest := []) (C := RX4) (ci := 4) (q0 := 0) (X := ([(q, .inr (2, [.int (nI (r6.1)), .int (nI (r6.2))])), (qt, .inr (5, [.ref (qb), .ref (q), .int (nI (len))])), (qb, .inl (cA 0, 130, arN f))] ++ stW cA a x)) (pl := []) (wc := (stW cA a x)) (wr := [(q, .inr (2, [.int (nI (r6.1)), .int (nI (r6.2))])), (qt, .inr (5, [.ref (qb), .ref (q), .int (nI (len))])), (qb, .inl (cA 0, 130, arN f))]) (w1 := (stW cA a (beginF x z3.1 z5.1))) (wn := ([(q, .inr (2, [.int (nI (r6.1)), .int (nI (r6.2))])), (qt, .inr (5, [.ref (qb), .ref (q), .int (nI (len))])), (qb, .inl (cA 0, 130, arN f))] ++ stW cA a (beginF x z3.1 z5.1))) (isC := [3, 4, 5, 6, 7, 8]) (isR := [0, 1, 2]) (isN := [0, 1, 2, 3, 4, 5, 6, 7, 8]) ⟨hx, hb, hml, hown, hts⟩ (c_X4_begin l D cA tt a x z3.1 z5.1  _) gX2_readLaw_X4_begin rfl (by decide +kernel) rfl rfl ⟨rfl, rfl⟩ ⟨Nat.le_of_ble_eq_true rfl, Nat.le_of_ble_eq_true rfl⟩ ⟨Nat.zero_le _, Nat.zero_le _⟩ hK hE hA hP hD hS ⟨⟨rfl, by decide⟩, ⟨rfl, by decide, by decide⟩, rfl, by decide⟩ rfl hl.1 rfl (Nat.le_of_ble_eq_true rfl) dX2_readLaw_43 (fun H locs hP hD hS => ?_)
  have hP : va_P D vwCl ([(q, .inr (2, [.int (nI (r6.1)), .int (nI (r6.2))])), (qt, .inr (5, [.ref (qb), .ref (q), .int (nI (len))])), (qb, .inl (cA 0, 130, arN f))] ++ stW cA a (beginF x z3.1 z5.1)) H := hP
  have hD : va_D A ([(q, .inr (2, [.int (nI (r6.1)), .int (nI (r6.2))])), (qt, .inr (5, [.ref (qb), .ref (q), .int (nI (len))])), (qb, .inl (cA 0, 130, arN f))] ++ stW cA a (beginF x z3.1 z5.1)) := hD
  have ef1 : (([(q, .inr (2, [.int (nI (r6.1)), .int (nI (r6.2))])), (qt, .inr (5, [.ref (qb), .ref (q), .int (nI (len))])), (qb, .inl (cA 0, 130, arN f))] ++ stW cA a (beginF x z3.1 z5.1)) : va_W) = ([(q, .inr (2, [.int (nI ((lwR len f r).1)), .int (nI ((lwR len f r).2))])), (qt, .inr (5, [.ref (qb), .ref (q), .int (nI (len))])), (qb, .inl (cA 0, 130, arN f))] ++ stW cA a (beginF x (lwE len f r).1 (lwS len f r).1)) := by
    have e1 : lwE len f r = z3 := by unfold lwE; rw [e_r2, e_z3]
    have e2 : lwS len f r = z5 := by unfold lwS; rw [e1, e_r4, e_z5]
    have e3 : lwR len f r = r6 := by unfold lwR; rw [e2, e_r6]
    rw [e1, e2, e3]
  have hP : va_P D vwCl ([(q, .inr (2, [.int (nI ((lwR len f r).1)), .int (nI ((lwR len f r).2))])), (qt, .inr (5, [.ref (qb), .ref (q), .int (nI (len))])), (qb, .inl (cA 0, 130, arN f))] ++ stW cA a (beginF x (lwE len f r).1 (lwS len f r).1)) _ := Eq.mp (congrArg (fun z9 => va_P D vwCl z9 _) ef1) hP
  have hD : va_D A ([(q, .inr (2, [.int (nI ((lwR len f r).1)), .int (nI ((lwR len f r).2))])), (qt, .inr (5, [.ref (qb), .ref (q), .int (nI (len))])), (qb, .inl (cA 0, 130, arN f))] ++ stW cA a (beginF x (lwE len f r).1 (lwS len f r).1)) := Eq.mp (congrArg (fun z9 => va_D A z9) ef1) hD
  exact hend _ _ _ _ hP hD hS dX2_readLaw_46
set_option maxRecDepth 100000 in
set_option maxHeartbeats 4000000 in
theorem c_X2_readWindow (l : Launch) (D : va_G) (cA : Nat → ClassId) (tt : Nat → Nat) (a : Nat → Nat) (q qt qb : Nat) (r : Nat × Nat) (len : Nat) (f : Nat → Nat) (x : Sg) (hlen : len ≤ 130) (hR : Rk len r) (hf : ∀ i, i < 130 → f i < 256) (hn : Sn x ≤ 10) (sz : Nat) : Cv l D cA tt yX2_readWindow wsX2_readWindow ({ frames := 2, cells := 0, slots := 0, locals := 48 } : Room) [.ref (q), .ref (qt), .ref (a 0)] sz ([(q, .inr (2, [.int (nI (r.1)), .int (nI (r.2))])), (qt, .inr (5, [.ref (qb), .ref (q), .int (nI (len))])), (qb, .inl (cA 0, 130, arN f))] ++ stW cA a x) ([(q, .inr (2, [.int (nI ((wnR len f (decide (Sn x < 10)) r).1)), .int (nI ((wnR len f (decide (Sn x < 10)) r).2))])), (qt, .inr (5, [.ref (qb), .ref (q), .int (nI (len))])), (qb, .inl (cA 0, 130, arN f))] ++ stW cA a (wnX len f r x)) := by
  obtain ⟨ra, rb⟩ := id hR
  refine Cv.mk (cc := cX2_readWindow) (maxL := 7) (by decide) rfl (Nat.le_of_ble_eq_true rfl) ?_
  intro p e s m below meth c A Q ls hB hl hend
  obtain ⟨⟨hx, hb, hml, hown, hts⟩, hP, hK, hD, hS, hA, hE⟩ := hB
  have hown : s.vm.findClass RX2 = some m.cls := hown
  have hwsX40 : ∀ w9 ∈ wsX40, w9.before ([.ref (q), .ref (qt), .ref (a 0)] : List Value).toArray s = true := fun w9 h => hts w9 (List.mem_cons_of_mem _ (List.mem_append_left _ (List.mem_append_left _ (List.mem_append_right _ h))))
  have hwsX20 : ∀ w9 ∈ wsX20, w9.before ([.ref (q), .ref (qt), .ref (a 0)] : List Value).toArray s = true := fun w9 h => hts w9 (List.mem_cons_of_mem _ (List.mem_append_left _ (List.mem_append_right _ h)))
  have hwsX50 : ∀ w9 ∈ wsX50, w9.before ([.ref (q), .ref (qt), .ref (a 0)] : List Value).toArray s = true := fun w9 h => hts w9 (List.mem_cons_of_mem _ (List.mem_append_right _ h))
  have hl : lv_has ls 7 [(0, .ref (q)), (1, .ref (qt)), (2, .ref (a 0))] := hl
  refine lv_aload_n hx hb dX2_readWindow_0 rfl (lv_at hl 0 rfl) ?_
  refine lv_aload_n hx hb dX2_readWindow_1 rfl (lv_at hl 1 rfl) ?_
  refine joinW (pc' := 16) (ls' := ls) (rest' := [.ref (qt), .ref (q)]) (bI (decide (Sn x < 10))) hP hD hS (fun jn16 => ?_) (fun H locs hP hD hS => ?_)
  · skip
    refine lv_aload_n hx hb dX2_readWindow_2 rfl (lv_at hl 2 rfl) ?_
    refine va_getN (v := .int (nI (Sn x))) (Ts := wsX40) (C := RX4) (T := TX4) (N := 10) hx hb hwsX40 (fun _ h => h) hown hK hP 3 rfl rfl 5 (by decide) (hE.1.f (q := ("AdventStreets$Reader", 44, "AdventStreets$Street", "windows", "I")) 17 rfl) (fun _ h9 => h9) rfl dX2_readWindow_3 ?_
    refine lv_bipush (v := nI (10)) hx hb dX2_readWindow_6 (by decide) ?_
    refine lv_icmp_ge (tgt := 15) hx hb dX2_readWindow_8 (by decide) (fun c1 => ?_) (fun c1 => ?_)
    · skip
      rw [nI_leI (by omega) (by omega)] at c1
      refine lv_iconst (v := nI (0)) hx hb dX2_readWindow_15 (by decide) ?_
      exact jn16 _ _ _ (zero_bI (by first | (simp [c1]; done) | (simp; omega))) hP hD hS
    · skip
      rw [nI_leI (by omega) (by omega)] at c1
      refine lv_iconst (v := nI (1)) hx hb dX2_readWindow_11 (by decide) ?_
      refine lv_goto (tgt := 16) hx hb dX2_readWindow_12 (by decide) ?_
      exact jn16 _ _ _ (one_bI (by first | (simp [c1]; done) | (simp; omega))) hP hD hS
  · skip
    have hP : va_P D vwCl ([(q, .inr (2, [.int (nI (r.1)), .int (nI (r.2))])), (qt, .inr (5, [.ref (qb), .ref (q), .int (nI (len))])), (qb, .inl (cA 0, 130, arN f))] ++ stW cA a x) H := hP
    have hD : va_D A ([(q, .inr (2, [.int (nI (r.1)), .int (nI (r.2))])), (qt, .inr (5, [.ref (qb), .ref (q), .int (nI (len))])), (qb, .inl (cA 0, 130, arN f))] ++ stW cA a x) := hD
    refine cVi (n := 2) (As := [.ref (qt), .int (bI (decide (Sn x < 10)))]) (rest := []) (C := RX2) (ci := 2) (q0 := 0) (X := ([(q, .inr (2, [.int (nI (r.1)), .int (nI (r.2))])), (qt, .inr (5, [.ref (qb), .ref (q), .int (nI (len))])), (qb, .inl (cA 0, 130, arN f))] ++ stW cA a x)) (pl := []) (wc := [(q, .inr (2, [.int (nI (r.1)), .int (nI (r.2))])), (qt, .inr (5, [.ref (qb), .ref (q), .int (nI (len))])), (qb, .inl (cA 0, 130, arN f))]) (wr := (stW cA a x)) (w1 := [(q, .inr (2, [.int (nI ((rsF len f (decide (Sn x < 10)) r).1)), .int (nI ((rsF len f (decide (Sn x < 10)) r).2))])), (qt, .inr (5, [.ref (qb), .ref (q), .int (nI (len))])), (qb, .inl (cA 0, 130, arN f))]) (wn := ([(q, .inr (2, [.int (nI ((rsF len f (decide (Sn x < 10)) r).1)), .int (nI ((rsF len f (decide (Sn x < 10)) r).2))])), (qt, .inr (5, [.ref (qb), .ref (q), .int (nI (len))])), (qb, .inl (cA 0, 130, arN f))] ++ stW cA a x)) (isC := [0, 1, 2]) (isR := [3, 4, 5, 6, 7, 8]) (isN := [6, 7, 8, 0, 1, 2, 3, 4, 5]) ⟨hx, hb, hml, hown, hts⟩ (c_X2_readSort l D cA tt q qt qb r len f (decide (Sn x < 10)) (hlen) (hR) _) gX2_readWindow_X2_readSort rfl (by decide +kernel) rfl rfl ⟨rfl, rfl⟩ ⟨Nat.le_of_ble_eq_true rfl, Nat.le_of_ble_eq_true rfl⟩ ⟨Nat.zero_le _, Nat.zero_le _⟩ hK hE hA hP hD hS ⟨⟨rfl, by decide⟩, ⟨rfl, by decide, by decide⟩, rfl, by decide⟩ rfl hl.1 rfl (Nat.le_of_ble_eq_true rfl) dX2_readWindow_16 (fun H locs hP hD hS => ?_)
    have hP : va_P D vwCl ([(q, .inr (2, [.int (nI ((rsF len f (decide (Sn x < 10)) r).1)), .int (nI ((rsF len f (decide (Sn x < 10)) r).2))])), (qt, .inr (5, [.ref (qb), .ref (q), .int (nI (len))])), (qb, .inl (cA 0, 130, arN f))] ++ stW cA a x) H := hP
    have hD : va_D A ([(q, .inr (2, [.int (nI ((rsF len f (decide (Sn x < 10)) r).1)), .int (nI ((rsF len f (decide (Sn x < 10)) r).2))])), (qt, .inr (5, [.ref (qb), .ref (q), .int (nI (len))])), (qb, .inl (cA 0, 130, arN f))] ++ stW cA a x) := hD
    have k2 : Rk len (rsF len f (decide (Sn x < 10)) r) := Rk.s hR
    generalize e_r2 : rsF len f (decide (Sn x < 10)) r = r2 at hP hD k2 ⊢
    refine lv_istore_n (lv' := [(3, .int (kindN (tapAt len f r.1))), (0, .ref (q)), (1, .ref (qt)), (2, .ref (a 0))]) hx hb dX2_readWindow_19 rfl hl (by decide) rfl (fun ls hl => ?_)
    refine lv_aload_n hx hb dX2_readWindow_20 rfl (lv_at hl 1 rfl) ?_
    refine lv_aload_n hx hb dX2_readWindow_21 rfl (lv_at hl 2 rfl) ?_
    refine lv_iconst (v := nI (1)) hx hb dX2_readWindow_22 (by decide) ?_
    refine lv_bipush (v := nI (24)) hx hb dX2_readWindow_23 (by decide) ?_
    refine cVi (n := 3) (As := [.ref (qt), .int (nI (1)), .int (nI (24))]) (rest := []) (C := RX2) (ci := 2) (q0 := 0) (X := ([(q, .inr (2, [.int (nI (r2.1)), .int (nI (r2.2))])), (qt, .inr (5, [.ref (qb), .ref (q), .int (nI (len))])), (qb, .inl (cA 0, 130, arN f))] ++ stW cA a x)) (pl := []) (wc := [(q, .inr (2, [.int (nI (r2.1)), .int (nI (r2.2))])), (qt, .inr (5, [.ref (qb), .ref (q), .int (nI (len))])), (qb, .inl (cA 0, 130, arN f))]) (wr := (stW cA a x)) (w1 := [(q, .inr (2, [.int (nI ((rnF len f 1 24 r2).2.1)), .int (nI ((rnF len f 1 24 r2).2.2))])), (qt, .inr (5, [.ref (qb), .ref (q), .int (nI (len))])), (qb, .inl (cA 0, 130, arN f))]) (wn := ([(q, .inr (2, [.int (nI ((rnF len f 1 24 r2).2.1)), .int (nI ((rnF len f 1 24 r2).2.2))])), (qt, .inr (5, [.ref (qb), .ref (q), .int (nI (len))])), (qb, .inl (cA 0, 130, arN f))] ++ stW cA a x)) (isC := [0, 1, 2]) (isR := [3, 4, 5, 6, 7, 8]) (isN := [6, 7, 8, 0, 1, 2, 3, 4, 5]) ⟨hx, hb, hml, hown, hts⟩ (c_X2_readNumber l D cA tt q qt qb r2 len f 1 24 (hlen) (k2) (hf) (by omega) (by omega) _) gX2_readWindow_X2_readNumber rfl (by decide +kernel) rfl rfl ⟨rfl, rfl⟩ ⟨Nat.le_of_ble_eq_true rfl, Nat.le_of_ble_eq_true rfl⟩ ⟨Nat.zero_le _, Nat.zero_le _⟩ hK hE hA hP hD hS ⟨⟨rfl, by decide⟩, ⟨rfl, by decide, by decide⟩, rfl, by decide⟩ rfl hl.1 rfl (Nat.le_of_ble_eq_true rfl) dX2_readWindow_25 (fun H locs hP hD hS => ?_)
    have hP : va_P D vwCl ([(q, .inr (2, [.int (nI ((rnF len f 1 24 r2).2.1)), .int (nI ((rnF len f 1 24 r2).2.2))])), (qt, .inr (5, [.ref (qb), .ref (q), .int (nI (len))])), (qb, .inl (cA 0, 130, arN f))] ++ stW cA a x) H := hP
    have hD : va_D A ([(q, .inr (2, [.int (nI ((rnF len f 1 24 r2).2.1)), .int (nI ((rnF len f 1 24 r2).2.2))])), (qt, .inr (5, [.ref (qb), .ref (q), .int (nI (len))])), (qb, .inl (cA 0, 130, arN f))] ++ stW cA a x) := hD
    have k3 : Rk len (rnF len f 1 24 r2).2 := Rk.n k2
    generalize e_z3 : rnF len f 1 24 r2 = z3 at hP hD k3 ⊢
    refine lv_istore (lv' := [(4, .int (nI (z3.1))), (3, .int (kindN (tapAt len f r.1))), (0, .ref (q)), (1, .ref (qt)), (2, .ref (a 0))]) hx hb dX2_readWindow_28 hl (by decide) rfl (fun ls hl => ?_)
    refine lv_aload_n hx hb dX2_readWindow_30 rfl (lv_at hl 2 rfl) ?_
    refine lv_aload_n hx hb dX2_readWindow_31 rfl (lv_at hl 3 rfl) ?_
    refine lv_bipush (v := nI (44)) hx hb dX2_readWindow_32 (by decide) ?_
    refine cVv (n := 2) (As := [.ref (qt), .int (nI (44))]) (rest := []) (C := RX2) (ci := 2) (q0 := 0) (X := ([(q, .inr (2, [.int (nI (z3.2.1)), .int (nI (z3.2.2))])), (qt, .inr (5, [.ref (qb), .ref (q), .int (nI (len))])), (qb, .inl (cA 0, 130, arN f))] ++ stW cA a x)) (pl := []) (wc := [(q, .inr (2, [.int (nI (z3.2.1)), .int (nI (z3.2.2))])), (qt, .inr (5, [.ref (qb), .ref (q), .int (nI (len))])), (qb, .inl (cA 0, 130, arN f))]) (wr := (stW cA a x)) (w1 := [(q, .inr (2, [.int (nI ((rbF len f 44 z3.2).1)), .int (nI ((rbF len f 44 z3.2).2))])), (qt, .inr (5, [.ref (qb), .ref (q), .int (nI (len))])), (qb, .inl (cA 0, 130, arN f))]) (wn := ([(q, .inr (2, [.int (nI ((rbF len f 44 z3.2).1)), .int (nI ((rbF len f 44 z3.2).2))])), (qt, .inr (5, [.ref (qb), .ref (q), .int (nI (len))])), (qb, .inl (cA 0, 130, arN f))] ++ stW cA a x)) (isC := [0, 1, 2]) (isR := [3, 4, 5, 6, 7, 8]) (isN := [6, 7, 8, 0, 1, 2, 3, 4, 5]) ⟨hx, hb, hml, hown, hts⟩ (c_X2_readByte l D cA tt q qt qb z3.2 len f 44 (hlen) (k3) (by decide) _) gX2_readWindow_X2_readByte rfl (by decide +kernel) rfl rfl ⟨rfl, rfl⟩ ⟨Nat.le_of_ble_eq_true rfl, Nat.le_of_ble_eq_true rfl⟩ ⟨Nat.zero_le _, Nat.zero_le _⟩ hK hE hA hP hD hS ⟨⟨rfl, by decide⟩, ⟨rfl, by decide, by decide⟩, rfl, by decide⟩ rfl hl.1 rfl (Nat.le_of_ble_eq_true rfl) dX2_readWindow_34 (fun H locs hP hD hS => ?_)
    have hP : va_P D vwCl ([(q, .inr (2, [.int (nI ((rbF len f 44 z3.2).1)), .int (nI ((rbF len f 44 z3.2).2))])), (qt, .inr (5, [.ref (qb), .ref (q), .int (nI (len))])), (qb, .inl (cA 0, 130, arN f))] ++ stW cA a x) H := hP
    have hD : va_D A ([(q, .inr (2, [.int (nI ((rbF len f 44 z3.2).1)), .int (nI ((rbF len f 44 z3.2).2))])), (qt, .inr (5, [.ref (qb), .ref (q), .int (nI (len))])), (qb, .inl (cA 0, 130, arN f))] ++ stW cA a x) := hD
    have k4 : Rk len (rbF len f 44 z3.2) := Rk.b k3 (by decide)
    generalize e_r4 : rbF len f 44 z3.2 = r4 at hP hD k4 ⊢
    refine lv_aload_n hx hb dX2_readWindow_37 rfl (lv_at hl 2 rfl) ?_
    refine lv_aload_n hx hb dX2_readWindow_38 rfl (lv_at hl 3 rfl) ?_
    refine lv_iconst (v := nI (0)) hx hb dX2_readWindow_39 (by decide) ?_
    refine lv_bipush (v := nI (9)) hx hb dX2_readWindow_40 (by decide) ?_
    refine cVi (n := 3) (As := [.ref (qt), .int (nI (0)), .int (nI (9))]) (rest := []) (C := RX2) (ci := 2) (q0 := 0) (X := ([(q, .inr (2, [.int (nI (r4.1)), .int (nI (r4.2))])), (qt, .inr (5, [.ref (qb), .ref (q), .int (nI (len))])), (qb, .inl (cA 0, 130, arN f))] ++ stW cA a x)) (pl := []) (wc := [(q, .inr (2, [.int (nI (r4.1)), .int (nI (r4.2))])), (qt, .inr (5, [.ref (qb), .ref (q), .int (nI (len))])), (qb, .inl (cA 0, 130, arN f))]) (wr := (stW cA a x)) (w1 := [(q, .inr (2, [.int (nI ((rnF len f 0 9 r4).2.1)), .int (nI ((rnF len f 0 9 r4).2.2))])), (qt, .inr (5, [.ref (qb), .ref (q), .int (nI (len))])), (qb, .inl (cA 0, 130, arN f))]) (wn := ([(q, .inr (2, [.int (nI ((rnF len f 0 9 r4).2.1)), .int (nI ((rnF len f 0 9 r4).2.2))])), (qt, .inr (5, [.ref (qb), .ref (q), .int (nI (len))])), (qb, .inl (cA 0, 130, arN f))] ++ stW cA a x)) (isC := [0, 1, 2]) (isR := [3, 4, 5, 6, 7, 8]) (isN := [6, 7, 8, 0, 1, 2, 3, 4, 5]) ⟨hx, hb, hml, hown, hts⟩ (c_X2_readNumber l D cA tt q qt qb r4 len f 0 9 (hlen) (k4) (hf) (by omega) (by omega) _) gX2_readWindow_X2_readNumber rfl (by decide +kernel) rfl rfl ⟨rfl, rfl⟩ ⟨Nat.le_of_ble_eq_true rfl, Nat.le_of_ble_eq_true rfl⟩ ⟨Nat.zero_le _, Nat.zero_le _⟩ hK hE hA hP hD hS ⟨⟨rfl, by decide⟩, ⟨rfl, by decide, by decide⟩, rfl, by decide⟩ rfl hl.1 rfl (Nat.le_of_ble_eq_true rfl) dX2_readWindow_42 (fun H locs hP hD hS => ?_)
    have hP : va_P D vwCl ([(q, .inr (2, [.int (nI ((rnF len f 0 9 r4).2.1)), .int (nI ((rnF len f 0 9 r4).2.2))])), (qt, .inr (5, [.ref (qb), .ref (q), .int (nI (len))])), (qb, .inl (cA 0, 130, arN f))] ++ stW cA a x) H := hP
    have hD : va_D A ([(q, .inr (2, [.int (nI ((rnF len f 0 9 r4).2.1)), .int (nI ((rnF len f 0 9 r4).2.2))])), (qt, .inr (5, [.ref (qb), .ref (q), .int (nI (len))])), (qb, .inl (cA 0, 130, arN f))] ++ stW cA a x) := hD
    have k5 : Rk len (rnF len f 0 9 r4).2 := Rk.n k4
    generalize e_z5 : rnF len f 0 9 r4 = z5 at hP hD k5 ⊢
    refine lv_istore (lv' := [(5, .int (nI (z5.1))), (4, .int (nI (z3.1))), (3, .int (kindN (tapAt len f r.1))), (0, .ref (q)), (1, .ref (qt)), (2, .ref (a 0))]) hx hb dX2_readWindow_45 hl (by decide) rfl (fun ls hl => ?_)
    refine lv_aload_n hx hb dX2_readWindow_47 rfl (lv_at hl 3 rfl) ?_
    refine lv_aload_n hx hb dX2_readWindow_48 rfl (lv_at hl 4 rfl) ?_
    refine lv_bipush (v := nI (44)) hx hb dX2_readWindow_49 (by decide) ?_
    refine cVv (n := 2) (As := [.ref (qt), .int (nI (44))]) (rest := []) (C := RX2) (ci := 2) (q0 := 0) (X := ([(q, .inr (2, [.int (nI (z5.2.1)), .int (nI (z5.2.2))])), (qt, .inr (5, [.ref (qb), .ref (q), .int (nI (len))])), (qb, .inl (cA 0, 130, arN f))] ++ stW cA a x)) (pl := []) (wc := [(q, .inr (2, [.int (nI (z5.2.1)), .int (nI (z5.2.2))])), (qt, .inr (5, [.ref (qb), .ref (q), .int (nI (len))])), (qb, .inl (cA 0, 130, arN f))]) (wr := (stW cA a x)) (w1 := [(q, .inr (2, [.int (nI ((rbF len f 44 z5.2).1)), .int (nI ((rbF len f 44 z5.2).2))])), (qt, .inr (5, [.ref (qb), .ref (q), .int (nI (len))])), (qb, .inl (cA 0, 130, arN f))]) (wn := ([(q, .inr (2, [.int (nI ((rbF len f 44 z5.2).1)), .int (nI ((rbF len f 44 z5.2).2))])), (qt, .inr (5, [.ref (qb), .ref (q), .int (nI (len))])), (qb, .inl (cA 0, 130, arN f))] ++ stW cA a x)) (isC := [0, 1, 2]) (isR := [3, 4, 5, 6, 7, 8]) (isN := [6, 7, 8, 0, 1, 2, 3, 4, 5]) ⟨hx, hb, hml, hown, hts⟩ (c_X2_readByte l D cA tt q qt qb z5.2 len f 44 (hlen) (k5) (by decide) _) gX2_readWindow_X2_readByte rfl (by decide +kernel) rfl rfl ⟨rfl, rfl⟩ ⟨Nat.le_of_ble_eq_true rfl, Nat.le_of_ble_eq_true rfl⟩ ⟨Nat.zero_le _, Nat.zero_le _⟩ hK hE hA hP hD hS ⟨⟨rfl, by decide⟩, ⟨rfl, by decide, by decide⟩, rfl, by decide⟩ rfl hl.1 rfl (Nat.le_of_ble_eq_true rfl) dX2_readWindow_51 (fun H locs hP hD hS => ?_)
    have hP : va_P D vwCl ([(q, .inr (2, [.int (nI ((rbF len f 44 z5.2).1)), .int (nI ((rbF len f 44 z5.2).2))])), (qt, .inr (5, [.ref (qb), .ref (q), .int (nI (len))])), (qb, .inl (cA 0, 130, arN f))] ++ stW cA a x) H := hP
    have hD : va_D A ([(q, .inr (2, [.int (nI ((rbF len f 44 z5.2).1)), .int (nI ((rbF len f 44 z5.2).2))])), (qt, .inr (5, [.ref (qb), .ref (q), .int (nI (len))])), (qb, .inl (cA 0, 130, arN f))] ++ stW cA a x) := hD
    have k6 : Rk len (rbF len f 44 z5.2) := Rk.b k5 (by decide)
    generalize e_r6 : rbF len f 44 z5.2 = r6 at hP hD k6 ⊢
    refine lv_aload_n hx hb dX2_readWindow_54 rfl (lv_at hl 3 rfl) ?_
    refine lv_aload_n hx hb dX2_readWindow_55 rfl (lv_at hl 4 rfl) ?_
    refine lv_iconst (v := nI (0)) hx hb dX2_readWindow_56 (by decide) ?_
    refine lv_bipush (v := nI (9)) hx hb dX2_readWindow_57 (by decide) ?_
    refine cVi (n := 3) (As := [.ref (qt), .int (nI (0)), .int (nI (9))]) (rest := []) (C := RX2) (ci := 2) (q0 := 0) (X := ([(q, .inr (2, [.int (nI (r6.1)), .int (nI (r6.2))])), (qt, .inr (5, [.ref (qb), .ref (q), .int (nI (len))])), (qb, .inl (cA 0, 130, arN f))] ++ stW cA a x)) (pl := []) (wc := [(q, .inr (2, [.int (nI (r6.1)), .int (nI (r6.2))])), (qt, .inr (5, [.ref (qb), .ref (q), .int (nI (len))])), (qb, .inl (cA 0, 130, arN f))]) (wr := (stW cA a x)) (w1 := [(q, .inr (2, [.int (nI ((rnF len f 0 9 r6).2.1)), .int (nI ((rnF len f 0 9 r6).2.2))])), (qt, .inr (5, [.ref (qb), .ref (q), .int (nI (len))])), (qb, .inl (cA 0, 130, arN f))]) (wn := ([(q, .inr (2, [.int (nI ((rnF len f 0 9 r6).2.1)), .int (nI ((rnF len f 0 9 r6).2.2))])), (qt, .inr (5, [.ref (qb), .ref (q), .int (nI (len))])), (qb, .inl (cA 0, 130, arN f))] ++ stW cA a x)) (isC := [0, 1, 2]) (isR := [3, 4, 5, 6, 7, 8]) (isN := [6, 7, 8, 0, 1, 2, 3, 4, 5]) ⟨hx, hb, hml, hown, hts⟩ (c_X2_readNumber l D cA tt q qt qb r6 len f 0 9 (hlen) (k6) (hf) (by omega) (by omega) _) gX2_readWindow_X2_readNumber rfl (by decide +kernel) rfl rfl ⟨rfl, rfl⟩ ⟨Nat.le_of_ble_eq_true rfl, Nat.le_of_ble_eq_true rfl⟩ ⟨Nat.zero_le _, Nat.zero_le _⟩ hK hE hA hP hD hS ⟨⟨rfl, by decide⟩, ⟨rfl, by decide, by decide⟩, rfl, by decide⟩ rfl hl.1 rfl (Nat.le_of_ble_eq_true rfl) dX2_readWindow_59 (fun H locs hP hD hS => ?_)
    have hP : va_P D vwCl ([(q, .inr (2, [.int (nI ((rnF len f 0 9 r6).2.1)), .int (nI ((rnF len f 0 9 r6).2.2))])), (qt, .inr (5, [.ref (qb), .ref (q), .int (nI (len))])), (qb, .inl (cA 0, 130, arN f))] ++ stW cA a x) H := hP
    have hD : va_D A ([(q, .inr (2, [.int (nI ((rnF len f 0 9 r6).2.1)), .int (nI ((rnF len f 0 9 r6).2.2))])), (qt, .inr (5, [.ref (qb), .ref (q), .int (nI (len))])), (qb, .inl (cA 0, 130, arN f))] ++ stW cA a x) := hD
    have k7 : Rk len (rnF len f 0 9 r6).2 := Rk.n k6
    generalize e_z7 : rnF len f 0 9 r6 = z7 at hP hD k7 ⊢
    refine lv_istore (lv' := [(6, .int (nI (z7.1))), (5, .int (nI (z5.1))), (4, .int (nI (z3.1))), (3, .int (kindN (tapAt len f r.1))), (0, .ref (q)), (1, .ref (qt)), (2, .ref (a 0))]) hx hb dX2_readWindow_62 hl (by decide) rfl (fun ls hl => ?_)
    refine lv_aload_n hx hb dX2_readWindow_64 rfl (lv_at hl 4 rfl) ?_
    refine lv_aload_n hx hb dX2_readWindow_65 rfl (lv_at hl 5 rfl) ?_
    refine lv_bipush (v := nI (59)) hx hb dX2_readWindow_66 (by decide) ?_
    refine cVv (n := 2) (As := [.ref (qt), .int (nI (59))]) (rest := []) (C := RX2) (ci := 2) (q0 := 0) (X := ([(q, .inr (2, [.int (nI (z7.2.1)), .int (nI (z7.2.2))])), (qt, .inr (5, [.ref (qb), .ref (q), .int (nI (len))])), (qb, .inl (cA 0, 130, arN f))] ++ stW cA a x)) (pl := []) (wc := [(q, .inr (2, [.int (nI (z7.2.1)), .int (nI (z7.2.2))])), (qt, .inr (5, [.ref (qb), .ref (q), .int (nI (len))])), (qb, .inl (cA 0, 130, arN f))]) (wr := (stW cA a x)) (w1 := [(q, .inr (2, [.int (nI ((rbF len f 59 z7.2).1)), .int (nI ((rbF len f 59 z7.2).2))])), (qt, .inr (5, [.ref (qb), .ref (q), .int (nI (len))])), (qb, .inl (cA 0, 130, arN f))]) (wn := ([(q, .inr (2, [.int (nI ((rbF len f 59 z7.2).1)), .int (nI ((rbF len f 59 z7.2).2))])), (qt, .inr (5, [.ref (qb), .ref (q), .int (nI (len))])), (qb, .inl (cA 0, 130, arN f))] ++ stW cA a x)) (isC := [0, 1, 2]) (isR := [3, 4, 5, 6, 7, 8]) (isN := [6, 7, 8, 0, 1, 2, 3, 4, 5]) ⟨hx, hb, hml, hown, hts⟩ (c_X2_readByte l D cA tt q qt qb z7.2 len f 59 (hlen) (k7) (by decide) _) gX2_readWindow_X2_readByte rfl (by decide +kernel) rfl rfl ⟨rfl, rfl⟩ ⟨Nat.le_of_ble_eq_true rfl, Nat.le_of_ble_eq_true rfl⟩ ⟨Nat.zero_le _, Nat.zero_le _⟩ hK hE hA hP hD hS ⟨⟨rfl, by decide⟩, ⟨rfl, by decide, by decide⟩, rfl, by decide⟩ rfl hl.1 rfl (Nat.le_of_ble_eq_true rfl) dX2_readWindow_68 (fun H locs hP hD hS => ?_)
    have hP : va_P D vwCl ([(q, .inr (2, [.int (nI ((rbF len f 59 z7.2).1)), .int (nI ((rbF len f 59 z7.2).2))])), (qt, .inr (5, [.ref (qb), .ref (q), .int (nI (len))])), (qb, .inl (cA 0, 130, arN f))] ++ stW cA a x) H := hP
    have hD : va_D A ([(q, .inr (2, [.int (nI ((rbF len f 59 z7.2).1)), .int (nI ((rbF len f 59 z7.2).2))])), (qt, .inr (5, [.ref (qb), .ref (q), .int (nI (len))])), (qb, .inl (cA 0, 130, arN f))] ++ stW cA a x) := hD
    have k8 : Rk len (rbF len f 59 z7.2) := Rk.b k7 (by decide)
    generalize e_r8 : rbF len f 59 z7.2 = r8 at hP hD k8 ⊢
    refine lv_aload_n hx hb dX2_readWindow_71 rfl (lv_at hl 4 rfl) ?_
    refine va_get (v := .int (nI (r8.2))) (Ts := wsX20) (C := RX2) (T := TX2) (N := 2) hx hb hwsX20 (fun _ h => h) hown hK hP 0 rfl rfl 1 (by decide) (hts (.fieldLink RX2 15 "AdventStreets$Reader" "fault" "I") (List.mem_of_getElem? (i := 1) rfl)) (fun _ h9 => h9) rfl dX2_readWindow_72 ?_
    refine lv_if_ne (tgt := 89) hx hb dX2_readWindow_75 (by decide) (fun c2 => ?_) (fun c2 => ?_)
    · skip
      rw [n_z (Nat.lt_of_le_of_lt k8.2 (by decide))] at c2
      have ef3 : (([(q, .inr (2, [.int (nI (r8.1)), .int (nI (r8.2))])), (qt, .inr (5, [.ref (qb), .ref (q), .int (nI (len))])), (qb, .inl (cA 0, 130, arN f))] ++ stW cA a x) : va_W) = ([(q, .inr (2, [.int (nI ((wnR len f (decide (Sn x < 10)) r).1)), .int (nI ((wnR len f (decide (Sn x < 10)) r).2))])), (qt, .inr (5, [.ref (qb), .ref (q), .int (nI (len))])), (qb, .inl (cA 0, 130, arN f))] ++ stW cA a (wnX len f r x)) := by
        have q1 : wnD len f (decide (Sn x < 10)) r = z3 := by unfold wnD; rw [e_r2, e_z3]
        have q2 : wnP len f (decide (Sn x < 10)) r = z5 := by unfold wnP; rw [q1, e_r4, e_z5]
        have q3 : wnG len f (decide (Sn x < 10)) r = z7 := by unfold wnG; rw [q2, e_r6, e_z7]
        have q4 : wnR len f (decide (Sn x < 10)) r = r8 := by unfold wnR; rw [q3, e_r8]
        have e9 : wnX len f r x = x := by
          unfold wnX
          rw [q4, if_neg c2]
        rw [e9, q4]
      have hP : va_P D vwCl ([(q, .inr (2, [.int (nI ((wnR len f (decide (Sn x < 10)) r).1)), .int (nI ((wnR len f (decide (Sn x < 10)) r).2))])), (qt, .inr (5, [.ref (qb), .ref (q), .int (nI (len))])), (qb, .inl (cA 0, 130, arN f))] ++ stW cA a (wnX len f r x)) _ := Eq.mp (congrArg (fun z9 => va_P D vwCl z9 _) ef3) hP
      have hD : va_D A ([(q, .inr (2, [.int (nI ((wnR len f (decide (Sn x < 10)) r).1)), .int (nI ((wnR len f (decide (Sn x < 10)) r).2))])), (qt, .inr (5, [.ref (qb), .ref (q), .int (nI (len))])), (qb, .inl (cA 0, 130, arN f))] ++ stW cA a (wnX len f r x)) := Eq.mp (congrArg (fun z9 => va_D A z9) ef3) hD
      exact hend _ _ _ _ hP hD hS dX2_readWindow_89
    · skip
      rw [n_z (Nat.lt_of_le_of_lt k8.2 (by decide))] at c2
      have q1 : wnD len f (decide (Sn x < 10)) r = z3 := by unfold wnD; rw [e_r2, e_z3]
      have q2 : wnP len f (decide (Sn x < 10)) r = z5 := by unfold wnP; rw [q1, e_r4, e_z5]
      have q3 : wnG len f (decide (Sn x < 10)) r = z7 := by unfold wnG; rw [q2, e_r6, e_z7]
      have q4 : wnR len f (decide (Sn x < 10)) r = r8 := by unfold wnR; rw [q3, e_r8]
      have h0 := wn_0 (len := len) (f := f) (room := decide (Sn x < 10)) (r := r) (by rw [q4]; exact c2)
      have hk9 := kindN_ne (fun q => h0.2.2.1 (kindN_eq.mp q))
      rw [hk9.1] at hl
      refine lv_aload_n hx hb dX2_readWindow_78 rfl (lv_at hl 6 rfl) ?_
      refine lv_iload_n hx hb dX2_readWindow_79 rfl (lv_at hl 3 rfl) ?_
      refine lv_iload hx hb dX2_readWindow_80 (lv_at hl 2 rfl) ?_
      refine lv_iload hx hb dX2_readWindow_82 (lv_at hl 1 rfl) ?_
      refine lv_iload hx hb dX2_readWindow_84 (lv_at hl 0 rfl) ?_
      refine cVv (n := 4) (As := [.int (nI (kindM (tapAt len f r.1))), .int (nI (z3.1)), .int (nI (z5.1)), .int (nI (z7.1))]) (rest := []) (C := RX4) (ci := 4) (q0 := 0) (X := ([(q, .inr (2, [.int (nI (r8.1)), .int (nI (r8.2))])), (qt, .inr (5, [.ref (qb), .ref (q), .int (nI (len))])), (qb, .inl (cA 0, 130, arN f))] ++ stW cA a x)) (pl := []) (wc := (stW cA a x)) (wr := [(q, .inr (2, [.int (nI (r8.1)), .int (nI (r8.2))])), (qt, .inr (5, [.ref (qb), .ref (q), .int (nI (len))])), (qb, .inl (cA 0, 130, arN f))]) (w1 := (stW cA a (buildF x (kindM (tapAt len f r.1)) z3.1 z5.1 z7.1))) (wn := ([(q, .inr (2, [.int (nI (r8.1)), .int (nI (r8.2))])), (qt, .inr (5, [.ref (qb), .ref (q), .int (nI (len))])), (qb, .inl (cA 0, 130, arN f))] ++ stW cA a (buildF x (kindM (tapAt len f r.1)) z3.1 z5.1 z7.1))) (isC := [3, 4, 5, 6, 7, 8]) (isR := [0, 1, 2]) (isN := [0, 1, 2, 3, 4, 5, 6, 7, 8]) ⟨hx, hb, hml, hown, hts⟩ (c_X4_build l D cA tt a x (kindM (tapAt len f r.1)) z3.1 z5.1 z7.1 (hn) _) gX2_readWindow_X4_build rfl (by decide +kernel) rfl rfl ⟨rfl, rfl⟩ ⟨Nat.le_of_ble_eq_true rfl, Nat.le_of_ble_eq_true rfl⟩ ⟨Nat.zero_le _, Nat.zero_le _⟩ hK hE hA hP hD hS ⟨⟨rfl, by decide⟩, ⟨rfl, by decide, by decide⟩, rfl, by decide⟩ rfl hl.1 rfl (Nat.le_of_ble_eq_true rfl) dX2_readWindow_86 (fun H locs hP hD hS => ?_)
      have hP : va_P D vwCl ([(q, .inr (2, [.int (nI (r8.1)), .int (nI (r8.2))])), (qt, .inr (5, [.ref (qb), .ref (q), .int (nI (len))])), (qb, .inl (cA 0, 130, arN f))] ++ stW cA a (buildF x (kindM (tapAt len f r.1)) z3.1 z5.1 z7.1)) H := hP
      have hD : va_D A ([(q, .inr (2, [.int (nI (r8.1)), .int (nI (r8.2))])), (qt, .inr (5, [.ref (qb), .ref (q), .int (nI (len))])), (qb, .inl (cA 0, 130, arN f))] ++ stW cA a (buildF x (kindM (tapAt len f r.1)) z3.1 z5.1 z7.1)) := hD
      have ef4 : (([(q, .inr (2, [.int (nI (r8.1)), .int (nI (r8.2))])), (qt, .inr (5, [.ref (qb), .ref (q), .int (nI (len))])), (qb, .inl (cA 0, 130, arN f))] ++ stW cA a (buildF x (kindM (tapAt len f r.1)) z3.1 z5.1 z7.1)) : va_W) = ([(q, .inr (2, [.int (nI ((wnR len f (decide (Sn x < 10)) r).1)), .int (nI ((wnR len f (decide (Sn x < 10)) r).2))])), (qt, .inr (5, [.ref (qb), .ref (q), .int (nI (len))])), (qb, .inl (cA 0, 130, arN f))] ++ stW cA a (wnX len f r x)) := by
        have e9 : wnX len f r x = buildF x (kindM (tapAt len f r.1)) z3.1 z5.1 z7.1 := by
          unfold wnX
          rw [q4, if_pos c2, q1, q2, q3]
        rw [e9, q4]
      have hP : va_P D vwCl ([(q, .inr (2, [.int (nI ((wnR len f (decide (Sn x < 10)) r).1)), .int (nI ((wnR len f (decide (Sn x < 10)) r).2))])), (qt, .inr (5, [.ref (qb), .ref (q), .int (nI (len))])), (qb, .inl (cA 0, 130, arN f))] ++ stW cA a (wnX len f r x)) _ := Eq.mp (congrArg (fun z9 => va_P D vwCl z9 _) ef4) hP
      have hD : va_D A ([(q, .inr (2, [.int (nI ((wnR len f (decide (Sn x < 10)) r).1)), .int (nI ((wnR len f (decide (Sn x < 10)) r).2))])), (qt, .inr (5, [.ref (qb), .ref (q), .int (nI (len))])), (qb, .inl (cA 0, 130, arN f))] ++ stW cA a (wnX len f r x)) := Eq.mp (congrArg (fun z9 => va_D A z9) ef4) hD
      exact hend _ _ _ _ hP hD hS dX2_readWindow_89
set_option maxRecDepth 100000 in
set_option maxHeartbeats 4000000 in
theorem c_X2_readStreet (l : Launch) (D : va_G) (cA : Nat → ClassId) (tt : Nat → Nat) (a : Nat → Nat) (q qt qb : Nat) (r : Nat × Nat) (len : Nat) (f : Nat → Nat) (x : Sg) (hlen : len ≤ 130) (hf : ∀ i, i < 130 → f i < 256) (sz : Nat) : Cv l D cA tt yX2_readStreet wsX2_readStreet ({ frames := 3, cells := 0, slots := 0, locals := 74 } : Room) [.ref (q), .ref (qt), .ref (a 0)] sz ([(q, .inr (2, [.int (nI (r.1)), .int (nI (r.2))])), (qt, .inr (5, [.ref (qb), .ref (q), .int (nI (len))])), (qb, .inl (cA 0, 130, arN f))] ++ stW cA a x) ([(q, .inr (2, [.int (nI ((rdF len f x).1.1)), .int (nI ((rdF len f x).1.2))])), (qt, .inr (5, [.ref (qb), .ref (q), .int (nI (len))])), (qb, .inl (cA 0, 130, arN f))] ++ stW cA a ((rdF len f x).2)) := by
  refine Cv.mk (cc := cX2_readStreet) (maxL := 4) (by decide) rfl (Nat.le_of_ble_eq_true rfl) ?_
  intro p e s m below meth c A Q ls hB hl hend
  obtain ⟨⟨hx, hb, hml, hown, hts⟩, hP, hK, hD, hS, hA, hE⟩ := hB
  have hown : s.vm.findClass RX2 = some m.cls := hown
  have hwsX20 : ∀ w9 ∈ wsX20, w9.before ([.ref (q), .ref (qt), .ref (a 0)] : List Value).toArray s = true := fun w9 h => hts w9 (List.mem_cons_of_mem _ (List.mem_append_left _ (List.mem_append_left _ (List.mem_append_right _ h))))
  have hwsX50 : ∀ w9 ∈ wsX50, w9.before ([.ref (q), .ref (qt), .ref (a 0)] : List Value).toArray s = true := fun w9 h => hts w9 (List.mem_cons_of_mem _ (List.mem_append_left _ (List.mem_append_right _ h)))
  have hwsX40 : ∀ w9 ∈ wsX40, w9.before ([.ref (q), .ref (qt), .ref (a 0)] : List Value).toArray s = true := fun w9 h => hts w9 (List.mem_cons_of_mem _ (List.mem_append_right _ h))
  have hl : lv_has ls 4 [(0, .ref (q)), (1, .ref (qt)), (2, .ref (a 0))] := hl
  refine lv_aload_n hx hb dX2_readStreet_0 rfl (lv_at hl 0 rfl) ?_
  refine lv_iconst (v := nI (0)) hx hb dX2_readStreet_1 (by decide) ?_
  refine va_put (v := .int (nI (0))) (ty := .int) (Ts := wsX20) (C := RX2) (T := TX2) (N := 2) hx hb hwsX20 (fun _ h => h) tyX2 tyX2_ok nmX2 hown hK hP hD hS 0 rfl rfl 0 (by decide) (hts (.fieldLink RX2 9 "AdventStreets$Reader" "at" "I") (List.mem_of_getElem? (i := 1) rfl)) (fun _ h9 => h9) rfl (tyX2_ok 0 (by decide)) rfl rfl (Nat.le_of_ble_eq_true rfl) dX2_readStreet_2 (fun H locs hP hD hS => ?_)
  have hP : va_P D vwCl ([(q, .inr (2, [.int (nI (0)), .int (nI (r.2))])), (qt, .inr (5, [.ref (qb), .ref (q), .int (nI (len))])), (qb, .inl (cA 0, 130, arN f))] ++ stW cA a x) H := hP
  have hD : va_D A ([(q, .inr (2, [.int (nI (0)), .int (nI (r.2))])), (qt, .inr (5, [.ref (qb), .ref (q), .int (nI (len))])), (qb, .inl (cA 0, 130, arN f))] ++ stW cA a x) := hD
  refine lv_aload_n hx hb dX2_readStreet_5 rfl (lv_at hl 0 rfl) ?_
  refine lv_iconst (v := nI (0)) hx hb dX2_readStreet_6 (by decide) ?_
  refine va_put (v := .int (nI (0))) (ty := .int) (Ts := wsX20) (C := RX2) (T := TX2) (N := 2) hx hb hwsX20 (fun _ h => h) tyX2 tyX2_ok nmX2 hown hK hP hD hS 0 rfl rfl 1 (by decide) (hts (.fieldLink RX2 15 "AdventStreets$Reader" "fault" "I") (List.mem_of_getElem? (i := 2) rfl)) (fun _ h9 => h9) rfl (tyX2_ok 1 (by decide)) rfl rfl (Nat.le_of_ble_eq_true rfl) dX2_readStreet_7 (fun H locs hP hD hS => ?_)
  have hP : va_P D vwCl ([(q, .inr (2, [.int (nI (0)), .int (nI (0))])), (qt, .inr (5, [.ref (qb), .ref (q), .int (nI (len))])), (qb, .inl (cA 0, 130, arN f))] ++ stW cA a x) H := hP
  have hD : va_D A ([(q, .inr (2, [.int (nI (0)), .int (nI (0))])), (qt, .inr (5, [.ref (qb), .ref (q), .int (nI (len))])), (qb, .inl (cA 0, 130, arN f))] ++ stW cA a x) := hD
  refine lv_aload_n hx hb dX2_readStreet_10 rfl (lv_at hl 0 rfl) ?_
  refine lv_aload_n hx hb dX2_readStreet_11 rfl (lv_at hl 1 rfl) ?_
  refine lv_aload_n hx hb dX2_readStreet_12 rfl (lv_at hl 2 rfl) ?_
  refine cVv (n := 2) (As := [.ref (qt), .ref (a 0)]) (rest := []) (C := RX2) (ci := 2) (q0 := 0) (X := ([(q, .inr (2, [.int (nI (0)), .int (nI (0))])), (qt, .inr (5, [.ref (qb), .ref (q), .int (nI (len))])), (qb, .inl (cA 0, 130, arN f))] ++ stW cA a x)) (pl := []) (wc := ([(q, .inr (2, [.int (nI (0)), .int (nI (0))])), (qt, .inr (5, [.ref (qb), .ref (q), .int (nI (len))])), (qb, .inl (cA 0, 130, arN f))] ++ stW cA a x)) (wr := ([] : va_W)) (w1 := ([(q, .inr (2, [.int (nI ((lwR len f (0, 0)).1)), .int (nI ((lwR len f (0, 0)).2))])), (qt, .inr (5, [.ref (qb), .ref (q), .int (nI (len))])), (qb, .inl (cA 0, 130, arN f))] ++ stW cA a (beginF x (lwE len f (0, 0)).1 (lwS len f (0, 0)).1))) (wn := ([(q, .inr (2, [.int (nI ((lwR len f (0, 0)).1)), .int (nI ((lwR len f (0, 0)).2))])), (qt, .inr (5, [.ref (qb), .ref (q), .int (nI (len))])), (qb, .inl (cA 0, 130, arN f))] ++ stW cA a (beginF x (lwE len f (0, 0)).1 (lwS len f (0, 0)).1))) (isC := [0, 1, 2, 3, 4, 5, 6, 7, 8]) (isR := []) (isN := [0, 1, 2, 3, 4, 5, 6, 7, 8]) ⟨hx, hb, hml, hown, hts⟩ (c_X2_readLaw l D cA tt a q qt qb (0, 0) len f x (hlen) (⟨Nat.zero_le _, Nat.zero_le _⟩) (hf) _) gX2_readStreet_X2_readLaw rfl (by decide +kernel) rfl rfl ⟨rfl, rfl⟩ ⟨Nat.le_of_ble_eq_true rfl, Nat.le_of_ble_eq_true rfl⟩ ⟨Nat.zero_le _, Nat.zero_le _⟩ hK hE hA hP hD hS ⟨⟨rfl, by decide⟩, ⟨rfl, by decide, by decide⟩, rfl, by decide⟩ rfl hl.1 rfl (Nat.le_of_ble_eq_true rfl) dX2_readStreet_13 (fun H locs hP hD hS => ?_)
  have hP : va_P D vwCl ([(q, .inr (2, [.int (nI ((lwR len f (0, 0)).1)), .int (nI ((lwR len f (0, 0)).2))])), (qt, .inr (5, [.ref (qb), .ref (q), .int (nI (len))])), (qb, .inl (cA 0, 130, arN f))] ++ stW cA a (beginF x (lwE len f (0, 0)).1 (lwS len f (0, 0)).1)) H := hP
  have hD : va_D A ([(q, .inr (2, [.int (nI ((lwR len f (0, 0)).1)), .int (nI ((lwR len f (0, 0)).2))])), (qt, .inr (5, [.ref (qb), .ref (q), .int (nI (len))])), (qb, .inl (cA 0, 130, arN f))] ++ stW cA a (beginF x (lwE len f (0, 0)).1 (lwS len f (0, 0)).1)) := hD
  refine lv_iconst (v := nI (0)) hx hb dX2_readStreet_16 (by decide) ?_
  refine lv_istore_n (lv' := [(3, .int (nI (0))), (0, .ref (q)), (1, .ref (qt)), (2, .ref (a 0))]) hx hb dX2_readStreet_17 rfl hl (by decide) rfl (fun ls hl => ?_)
  have loop18 : ∀ (N18 : Nat) (i : Nat) (u : Nat × Nat) (y : Sg), (i ≤ 11) → (∀ j, j < i → rdP len f x j = false) → (rdS len f x i = (u, y)) → (Rk len u ∧ Sn y ≤ 10) → (11 - i) < N18 → ∀ (H : Heap) (locs : List Loc) (ls : Array Slot), va_P D vwCl ([(q, .inr (2, [.int (nI (u.1)), .int (nI (u.2))])), (qt, .inr (5, [.ref (qb), .ref (q), .int (nI (len))])), (qb, .inl (cA 0, 130, arN f))] ++ stW cA a y) H → va_D A ([(q, .inr (2, [.int (nI (u.1)), .int (nI (u.2))])), (qt, .inr (5, [.ref (qb), .ref (q), .int (nI (len))])), (qb, .inl (cA 0, 130, arN f))] ++ stW cA a y) → va_S A s.heap H locs → lv_has ls 4 [(3, .int (nI (i))), (0, .ref (q)), (1, .ref (qt)), (2, .ref (a 0))] → W p l e ({ frames := 3, cells := 0, slots := 0, locals := 74 } : Room) s m ([.ref (q), .ref (qt), .ref (a 0)] : List Value).toArray below meth c H locs 0 0 Q (F0 m 18 ls []) := by
    intro N18
    induction N18 with
    | zero => intro i u y iv18_0 iv18_1 iv18_2 iv18_3 hN; exact absurd hN (Nat.not_lt_zero _)
    | succ N18 ih18 =>
      intro i u y iv18_0 iv18_1 iv18_2 iv18_3 hN18 H locs ls hP hD hS hl
      obtain ⟨⟨hok1, hok2⟩, hok3⟩ := id iv18_3
      refine lv_iload_n hx hb dX2_readStreet_18 rfl (lv_at hl 0 rfl) ?_
      refine lv_bipush (v := nI (10)) hx hb dX2_readStreet_19 (by decide) ?_
      refine lv_icmp_gt (tgt := 60) hx hb dX2_readStreet_21 (by decide) (fun c2 => ?_) (fun c2 => ?_)
      · skip
        rw [nI_ltI (by omega) (by omega)] at c2
        have ef3 : (([(q, .inr (2, [.int (nI (u.1)), .int (nI (u.2))])), (qt, .inr (5, [.ref (qb), .ref (q), .int (nI (len))])), (qb, .inl (cA 0, 130, arN f))] ++ stW cA a y) : va_W) = ([(q, .inr (2, [.int (nI ((rdF len f x).1.1)), .int (nI ((rdF len f x).1.2))])), (qt, .inr (5, [.ref (qb), .ref (q), .int (nI (len))])), (qb, .inl (cA 0, 130, arN f))] ++ stW cA a ((rdF len f x).2)) := by
          have e9 : rdP len f x i = true := by
            unfold rdP
            rw [iv18_2]
            first | (simp [c2]; done) | (simp [c2]; omega)
          have e8 : rdF len f x = (u, y) := by
            unfold rdF
            rw [rdK_of (by omega) iv18_1 e9]
            exact iv18_2
          rw [e8]
        have hP : va_P D vwCl ([(q, .inr (2, [.int (nI ((rdF len f x).1.1)), .int (nI ((rdF len f x).1.2))])), (qt, .inr (5, [.ref (qb), .ref (q), .int (nI (len))])), (qb, .inl (cA 0, 130, arN f))] ++ stW cA a ((rdF len f x).2)) _ := Eq.mp (congrArg (fun z9 => va_P D vwCl z9 _) ef3) hP
        have hD : va_D A ([(q, .inr (2, [.int (nI ((rdF len f x).1.1)), .int (nI ((rdF len f x).1.2))])), (qt, .inr (5, [.ref (qb), .ref (q), .int (nI (len))])), (qb, .inl (cA 0, 130, arN f))] ++ stW cA a ((rdF len f x).2)) := Eq.mp (congrArg (fun z9 => va_D A z9) ef3) hD
        exact hend _ _ _ _ hP hD hS dX2_readStreet_60
      · skip
        rw [nI_ltI (by omega) (by omega)] at c2
        refine lv_aload_n hx hb dX2_readStreet_24 rfl (lv_at hl 1 rfl) ?_
        refine va_get (v := .int (nI (u.2))) (Ts := wsX20) (C := RX2) (T := TX2) (N := 2) hx hb hwsX20 (fun _ h => h) hown hK hP 0 rfl rfl 1 (by decide) (hts (.fieldLink RX2 15 "AdventStreets$Reader" "fault" "I") (List.mem_of_getElem? (i := 2) rfl)) (fun _ h9 => h9) rfl dX2_readStreet_25 ?_
        refine lv_if_ne (tgt := 60) hx hb dX2_readStreet_28 (by decide) (fun c4 => ?_) (fun c4 => ?_)
        · skip
          rw [n_z (by omega)] at c4
          have ef5 : (([(q, .inr (2, [.int (nI (u.1)), .int (nI (u.2))])), (qt, .inr (5, [.ref (qb), .ref (q), .int (nI (len))])), (qb, .inl (cA 0, 130, arN f))] ++ stW cA a y) : va_W) = ([(q, .inr (2, [.int (nI ((rdF len f x).1.1)), .int (nI ((rdF len f x).1.2))])), (qt, .inr (5, [.ref (qb), .ref (q), .int (nI (len))])), (qb, .inl (cA 0, 130, arN f))] ++ stW cA a ((rdF len f x).2)) := by
            have e9 : rdP len f x i = true := by
              unfold rdP
              rw [iv18_2]
              first | (simp [c2, c4]; done) | (simp [c2, c4]; omega)
            have e8 : rdF len f x = (u, y) := by
              unfold rdF
              rw [rdK_of (by omega) iv18_1 e9]
              exact iv18_2
            rw [e8]
          have hP : va_P D vwCl ([(q, .inr (2, [.int (nI ((rdF len f x).1.1)), .int (nI ((rdF len f x).1.2))])), (qt, .inr (5, [.ref (qb), .ref (q), .int (nI (len))])), (qb, .inl (cA 0, 130, arN f))] ++ stW cA a ((rdF len f x).2)) _ := Eq.mp (congrArg (fun z9 => va_P D vwCl z9 _) ef5) hP
          have hD : va_D A ([(q, .inr (2, [.int (nI ((rdF len f x).1.1)), .int (nI ((rdF len f x).1.2))])), (qt, .inr (5, [.ref (qb), .ref (q), .int (nI (len))])), (qb, .inl (cA 0, 130, arN f))] ++ stW cA a ((rdF len f x).2)) := Eq.mp (congrArg (fun z9 => va_D A z9) ef5) hD
          exact hend _ _ _ _ hP hD hS dX2_readStreet_60
        · skip
          rw [n_z (by omega)] at c4
          refine lv_iload_n hx hb dX2_readStreet_31 rfl (lv_at hl 0 rfl) ?_
          refine lv_iconst (v := nI (2)) hx hb dX2_readStreet_32 (by decide) ?_
          refine lv_icmp_lt (tgt := 48) hx hb dX2_readStreet_33 (by decide) (fun c6 => ?_) (fun c6 => ?_)
          · skip
            rw [nI_ltI (by omega) (by omega)] at c6
            refine lv_aload_n hx hb dX2_readStreet_48 rfl (lv_at hl 1 rfl) ?_
            refine lv_aload_n hx hb dX2_readStreet_49 rfl (lv_at hl 2 rfl) ?_
            refine lv_aload_n hx hb dX2_readStreet_50 rfl (lv_at hl 3 rfl) ?_
            refine cVv (n := 2) (As := [.ref (qt), .ref (a 0)]) (rest := []) (C := RX2) (ci := 2) (q0 := 0) (X := ([(q, .inr (2, [.int (nI (u.1)), .int (nI (u.2))])), (qt, .inr (5, [.ref (qb), .ref (q), .int (nI (len))])), (qb, .inl (cA 0, 130, arN f))] ++ stW cA a y)) (pl := []) (wc := ([(q, .inr (2, [.int (nI (u.1)), .int (nI (u.2))])), (qt, .inr (5, [.ref (qb), .ref (q), .int (nI (len))])), (qb, .inl (cA 0, 130, arN f))] ++ stW cA a y)) (wr := ([] : va_W)) (w1 := ([(q, .inr (2, [.int (nI ((wnR len f (decide (Sn y < 10)) u).1)), .int (nI ((wnR len f (decide (Sn y < 10)) u).2))])), (qt, .inr (5, [.ref (qb), .ref (q), .int (nI (len))])), (qb, .inl (cA 0, 130, arN f))] ++ stW cA a (wnX len f u y))) (wn := ([(q, .inr (2, [.int (nI ((wnR len f (decide (Sn y < 10)) u).1)), .int (nI ((wnR len f (decide (Sn y < 10)) u).2))])), (qt, .inr (5, [.ref (qb), .ref (q), .int (nI (len))])), (qb, .inl (cA 0, 130, arN f))] ++ stW cA a (wnX len f u y))) (isC := [0, 1, 2, 3, 4, 5, 6, 7, 8]) (isR := []) (isN := [0, 1, 2, 3, 4, 5, 6, 7, 8]) ⟨hx, hb, hml, hown, hts⟩ (c_X2_readWindow l D cA tt a q qt qb u len f y (hlen) (iv18_3.1) (hf) (hok3) _) gX2_readStreet_X2_readWindow rfl (by decide +kernel) rfl rfl ⟨rfl, rfl⟩ ⟨Nat.le_of_ble_eq_true rfl, Nat.le_of_ble_eq_true rfl⟩ ⟨Nat.zero_le _, Nat.zero_le _⟩ hK hE hA hP hD hS ⟨⟨rfl, by decide⟩, ⟨rfl, by decide, by decide⟩, rfl, by decide⟩ rfl hl.1 rfl (Nat.le_of_ble_eq_true rfl) dX2_readStreet_51 (fun H locs hP hD hS => ?_)
            have hP : va_P D vwCl ([(q, .inr (2, [.int (nI ((wnR len f (decide (Sn y < 10)) u).1)), .int (nI ((wnR len f (decide (Sn y < 10)) u).2))])), (qt, .inr (5, [.ref (qb), .ref (q), .int (nI (len))])), (qb, .inl (cA 0, 130, arN f))] ++ stW cA a (wnX len f u y)) H := hP
            have hD : va_D A ([(q, .inr (2, [.int (nI ((wnR len f (decide (Sn y < 10)) u).1)), .int (nI ((wnR len f (decide (Sn y < 10)) u).2))])), (qt, .inr (5, [.ref (qb), .ref (q), .int (nI (len))])), (qb, .inl (cA 0, 130, arN f))] ++ stW cA a (wnX len f u y)) := hD
            refine lv_iinc (v := nI (i + 1)) (lv' := [(3, .int (nI (i + 1))), (0, .ref (q)), (1, .ref (qt)), (2, .ref (a 0))]) hx hb dX2_readStreet_54 hl (k := 0) rfl (nI_add _ _) (by decide) rfl (fun ls hl => ?_)
            refine lv_goto (tgt := 18) hx hb dX2_readStreet_57 (by decide) ?_
            have hl9 := lv_sub (l' := [(3, .int (nI (i + 1))), (0, .ref (q)), (1, .ref (qt)), (2, .ref (a 0))]) hl [0, 1, 2, 3] rfl
            exact ih18 (i + 1) (wnR len f (decide (Sn y < 10)) u) (wnX len f u y) (by omega) (lt_s (p := fun j => rdP len f x j = false) iv18_1 (by
  unfold rdP
  rw [iv18_2]
  first | (simp [c2, c4, c6]; done) | (simp [c2, c4, c6]; omega))) (by simp only [rdS_s, iv18_2]) (And.intro (Rk.w (f := f) (room := decide (Sn y < 10)) iv18_3.1) (wnX_n (f := f) (r := u) iv18_3.2)) (by omega) _ _ _ hP hD hS hl9
          · skip
            rw [nI_ltI (by omega) (by omega)] at c6
            refine lv_aload_n hx hb dX2_readStreet_36 rfl (lv_at hl 1 rfl) ?_
            refine va_get (v := .int (nI (u.1))) (Ts := wsX20) (C := RX2) (T := TX2) (N := 2) hx hb hwsX20 (fun _ h => h) hown hK hP 0 rfl rfl 0 (by decide) (hts (.fieldLink RX2 9 "AdventStreets$Reader" "at" "I") (List.mem_of_getElem? (i := 1) rfl)) (fun _ h9 => h9) rfl dX2_readStreet_37 ?_
            refine lv_aload_n hx hb dX2_readStreet_40 rfl (lv_at hl 2 rfl) ?_
            refine va_getN (v := .int (nI (len))) (Ts := wsX50) (C := RX5) (T := TX5) (N := 3) hx hb hwsX50 (fun _ h => h) hown hK hP 1 rfl rfl 2 (by decide) (hE.1.f (q := ("AdventStreets$Reader", 22, "AdventStreets$Tape", "length", "I")) 6 rfl) (fun _ h9 => h9) rfl dX2_readStreet_41 ?_
            refine lv_icmp_ne (tgt := 48) hx hb dX2_readStreet_44 (by decide) (fun c7 => ?_) (fun c7 => ?_)
            · skip
              rw [nI_eq (by omega) (by omega)] at c7
              refine lv_aload_n hx hb dX2_readStreet_48 rfl (lv_at hl 1 rfl) ?_
              refine lv_aload_n hx hb dX2_readStreet_49 rfl (lv_at hl 2 rfl) ?_
              refine lv_aload_n hx hb dX2_readStreet_50 rfl (lv_at hl 3 rfl) ?_
              refine cVv (n := 2) (As := [.ref (qt), .ref (a 0)]) (rest := []) (C := RX2) (ci := 2) (q0 := 0) (X := ([(q, .inr (2, [.int (nI (u.1)), .int (nI (u.2))])), (qt, .inr (5, [.ref (qb), .ref (q), .int (nI (len))])), (qb, .inl (cA 0, 130, arN f))] ++ stW cA a y)) (pl := []) (wc := ([(q, .inr (2, [.int (nI (u.1)), .int (nI (u.2))])), (qt, .inr (5, [.ref (qb), .ref (q), .int (nI (len))])), (qb, .inl (cA 0, 130, arN f))] ++ stW cA a y)) (wr := ([] : va_W)) (w1 := ([(q, .inr (2, [.int (nI ((wnR len f (decide (Sn y < 10)) u).1)), .int (nI ((wnR len f (decide (Sn y < 10)) u).2))])), (qt, .inr (5, [.ref (qb), .ref (q), .int (nI (len))])), (qb, .inl (cA 0, 130, arN f))] ++ stW cA a (wnX len f u y))) (wn := ([(q, .inr (2, [.int (nI ((wnR len f (decide (Sn y < 10)) u).1)), .int (nI ((wnR len f (decide (Sn y < 10)) u).2))])), (qt, .inr (5, [.ref (qb), .ref (q), .int (nI (len))])), (qb, .inl (cA 0, 130, arN f))] ++ stW cA a (wnX len f u y))) (isC := [0, 1, 2, 3, 4, 5, 6, 7, 8]) (isR := []) (isN := [0, 1, 2, 3, 4, 5, 6, 7, 8]) ⟨hx, hb, hml, hown, hts⟩ (c_X2_readWindow l D cA tt a q qt qb u len f y (hlen) (iv18_3.1) (hf) (hok3) _) gX2_readStreet_X2_readWindow rfl (by decide +kernel) rfl rfl ⟨rfl, rfl⟩ ⟨Nat.le_of_ble_eq_true rfl, Nat.le_of_ble_eq_true rfl⟩ ⟨Nat.zero_le _, Nat.zero_le _⟩ hK hE hA hP hD hS ⟨⟨rfl, by decide⟩, ⟨rfl, by decide, by decide⟩, rfl, by decide⟩ rfl hl.1 rfl (Nat.le_of_ble_eq_true rfl) dX2_readStreet_51 (fun H locs hP hD hS => ?_)
              have hP : va_P D vwCl ([(q, .inr (2, [.int (nI ((wnR len f (decide (Sn y < 10)) u).1)), .int (nI ((wnR len f (decide (Sn y < 10)) u).2))])), (qt, .inr (5, [.ref (qb), .ref (q), .int (nI (len))])), (qb, .inl (cA 0, 130, arN f))] ++ stW cA a (wnX len f u y)) H := hP
              have hD : va_D A ([(q, .inr (2, [.int (nI ((wnR len f (decide (Sn y < 10)) u).1)), .int (nI ((wnR len f (decide (Sn y < 10)) u).2))])), (qt, .inr (5, [.ref (qb), .ref (q), .int (nI (len))])), (qb, .inl (cA 0, 130, arN f))] ++ stW cA a (wnX len f u y)) := hD
              refine lv_iinc (v := nI (i + 1)) (lv' := [(3, .int (nI (i + 1))), (0, .ref (q)), (1, .ref (qt)), (2, .ref (a 0))]) hx hb dX2_readStreet_54 hl (k := 0) rfl (nI_add _ _) (by decide) rfl (fun ls hl => ?_)
              refine lv_goto (tgt := 18) hx hb dX2_readStreet_57 (by decide) ?_
              have hl9 := lv_sub (l' := [(3, .int (nI (i + 1))), (0, .ref (q)), (1, .ref (qt)), (2, .ref (a 0))]) hl [0, 1, 2, 3] rfl
              exact ih18 (i + 1) (wnR len f (decide (Sn y < 10)) u) (wnX len f u y) (by omega) (lt_s (p := fun j => rdP len f x j = false) iv18_1 (by
  unfold rdP
  rw [iv18_2]
  first | (simp [c2, c4, c6, c7]; done) | (simp [c2, c4, c6, c7]; omega))) (by simp only [rdS_s, iv18_2]) (And.intro (Rk.w (f := f) (room := decide (Sn y < 10)) iv18_3.1) (wnX_n (f := f) (r := u) iv18_3.2)) (by omega) _ _ _ hP hD hS hl9
            · skip
              rw [nI_eq (by omega) (by omega)] at c7
              have ef8 : (([(q, .inr (2, [.int (nI (u.1)), .int (nI (u.2))])), (qt, .inr (5, [.ref (qb), .ref (q), .int (nI (len))])), (qb, .inl (cA 0, 130, arN f))] ++ stW cA a y) : va_W) = ([(q, .inr (2, [.int (nI ((rdF len f x).1.1)), .int (nI ((rdF len f x).1.2))])), (qt, .inr (5, [.ref (qb), .ref (q), .int (nI (len))])), (qb, .inl (cA 0, 130, arN f))] ++ stW cA a ((rdF len f x).2)) := by
                have e9 : rdP len f x i = true := by
                  unfold rdP
                  rw [iv18_2]
                  first | (simp [c2, c4, c6, c7]; done) | (simp [c2, c4, c6, c7]; omega)
                have e8 : rdF len f x = (u, y) := by
                  unfold rdF
                  rw [rdK_of (by omega) iv18_1 e9]
                  exact iv18_2
                rw [e8]
              have hP : va_P D vwCl ([(q, .inr (2, [.int (nI ((rdF len f x).1.1)), .int (nI ((rdF len f x).1.2))])), (qt, .inr (5, [.ref (qb), .ref (q), .int (nI (len))])), (qb, .inl (cA 0, 130, arN f))] ++ stW cA a ((rdF len f x).2)) _ := Eq.mp (congrArg (fun z9 => va_P D vwCl z9 _) ef8) hP
              have hD : va_D A ([(q, .inr (2, [.int (nI ((rdF len f x).1.1)), .int (nI ((rdF len f x).1.2))])), (qt, .inr (5, [.ref (qb), .ref (q), .int (nI (len))])), (qb, .inl (cA 0, 130, arN f))] ++ stW cA a ((rdF len f x).2)) := Eq.mp (congrArg (fun z9 => va_D A z9) ef8) hD
              exact hend _ _ _ _ hP hD hS dX2_readStreet_47
  have hl9 := lv_sub (l' := [(3, .int (nI (0))), (0, .ref (q)), (1, .ref (qt)), (2, .ref (a 0))]) hl [0, 1, 2, 3] rfl
  exact loop18 _ 0 (lwR len f (0, 0)) (beginF x (lwE len f (0, 0)).1 (lwS len f (0, 0)).1) (by decide) (lt_0) (rdS_0 len f x) (And.intro (Rk.l ⟨Nat.zero_le _, Nat.zero_le _⟩) (Nat.zero_le _)) (Nat.lt_succ_self _) _ _ _ hP hD hS hl9
