/-! ===== constructors ===== -/
abbrev sg0 : Sg := (0, 0, 0, 0, 0, fun _ => 0, fun _ => 0, fun _ => 0, fun _ => 0, fun _ => 0)
def sa9 (q : Nat) (u : Nat → Nat) : Nat → Nat := fun i => if i = 0 then q else u i
set_option maxRecDepth 100000 in
set_option maxHeartbeats 4000000 in
theorem c_X4_init (l : Launch) (D : va_G) (cA : Nat → ClassId) (tt : Nat → Nat) (q : Nat) (sz : Nat) : Cn (U := Nat → Nat) l D cA tt yX4_init wsX4_init ({ frames := 1, cells := 5, slots := 50, locals := 20 } : Room) [.ref (q)] sz [(q, .inr (4, [.null, .null, .null, .null, .null, .int (nI (0)), .int (nI (0)), .int (nI (0)), .int (nI (0)), .int (nI (0))]))] (fun u => (stW cA (sa9 q u) sg0)) 5 50 := by
  refine Cn.mk (cc := cX4_init) (maxL := 1) (by decide) rfl rfl (Nat.le_of_ble_eq_true rfl) ?_
  intro p e s m below meth c A Q ls hB hO hin hl hend
  obtain ⟨⟨hx, hb, hml, hown, hts⟩, hP, hK, hD, hS, hA, hE⟩ := hB
  have hown : s.vm.findClass RX4 = some m.cls := hown
  have hwsX40 : ∀ w9 ∈ wsX40, w9.before ([.ref (q)] : List Value).toArray s = true := fun w9 h => hts w9 (List.mem_cons_of_mem _ (List.mem_append_right _ h))
  have hl : lv_has ls 1 [(0, .ref (q))] := hl
  refine lv_aload_n hx hb dX4_init_0 rfl (lv_at hl 0 rfl) ?_
  refine W.objInit hx hb hown (hts (.methodLink RX4 3 objectInit) (List.mem_of_getElem? (i := 1) rfl)) (hts (.instanceMethod objectInit) (List.mem_of_getElem? (i := 2) rfl)) (hts (.code objectInit ⟨#[0xb1]⟩ 1 none) (List.mem_of_getElem? (i := 3) rfl)) rfl (by rw [hml]; exact hl.1) rfl dX4_init_1 (Nat.le_of_ble_eq_true rfl) (Nat.le_of_ble_eq_true rfl) ?_
  refine W.eq (g2 := F0 m 4 ls []) rfl ?_
  refine lv_aload_n hx hb dX4_init_4 rfl (lv_at hl 0 rfl) ?_
  refine lv_bipush (v := nI (10)) hx hb dX4_init_5 (by decide) ?_
  refine r_newI (N := 10) hx hb (hts (.arrayClass .int) (List.mem_of_getElem? (i := 4) rfl)) hK hP hD hS hA (by decide) (Nat.le_of_ble_eq_true rfl) (Nat.le_of_ble_eq_true rfl) dX4_init_7 (fun q7 H hP hD hS => ?_)
  refine W.widen (k := 1) (n := 10) (by omega) (by omega) ?_
  have hP : va_P D vwCl [(q, .inr (4, [.null, .null, .null, .null, .null, .int (nI (0)), .int (nI (0)), .int (nI (0)), .int (nI (0)), .int (nI (0))])), (q7, .inl (cA 0, 10, arN (fun _ => 0)))] _ := hP
  have hD : va_D A [(q, .inr (4, [.null, .null, .null, .null, .null, .int (nI (0)), .int (nI (0)), .int (nI (0)), .int (nI (0)), .int (nI (0))])), (q7, .inl (cA 0, 10, arN (fun _ => 0)))] := hD
  refine va_putF (v := .ref (q7)) (ty := .array .int) (Ts := wsX40) (C := RX4) (T := TX4) (N := 10) hx hb hwsX40 (fun _ h => h) tyX4 tyX4_ok nmX4 hown hK hP hD hS 0 rfl rfl 0 (by decide) (hts (.fieldLink RX4 9 "AdventStreets$Street" "kinds" "[I") (List.mem_of_getElem? (i := 5) rfl)) (fun _ h9 => h9) rfl hin rfl (by decide +kernel) rfl rfl (Nat.le_of_ble_eq_true rfl) dX4_init_9 (fun H locs hP hD hS => ?_)
  have hP : va_P D vwCl [(q, .inr (4, [.ref (q7), .null, .null, .null, .null, .int (nI (0)), .int (nI (0)), .int (nI (0)), .int (nI (0)), .int (nI (0))])), (q7, .inl (cA 0, 10, arN (fun _ => 0)))] _ := hP
  have hD : va_D A [(q, .inr (4, [.ref (q7), .null, .null, .null, .null, .int (nI (0)), .int (nI (0)), .int (nI (0)), .int (nI (0)), .int (nI (0))])), (q7, .inl (cA 0, 10, arN (fun _ => 0)))] := hD
  refine lv_aload_n hx hb dX4_init_12 rfl (lv_at hl 0 rfl) ?_
  refine lv_bipush (v := nI (10)) hx hb dX4_init_13 (by decide) ?_
  refine r_newI (N := 10) hx hb (hts (.arrayClass .int) (List.mem_of_getElem? (i := 4) rfl)) hK hP hD hS hA (by decide) (Nat.le_of_ble_eq_true rfl) (Nat.le_of_ble_eq_true rfl) dX4_init_15 (fun q15 H hP hD hS => ?_)
  refine W.widen (k := 2) (n := 20) (by omega) (by omega) ?_
  have hP : va_P D vwCl [(q, .inr (4, [.ref (q7), .null, .null, .null, .null, .int (nI (0)), .int (nI (0)), .int (nI (0)), .int (nI (0)), .int (nI (0))])), (q7, .inl (cA 0, 10, arN (fun _ => 0))), (q15, .inl (cA 0, 10, arN (fun _ => 0)))] _ := hP
  have hD : va_D A [(q, .inr (4, [.ref (q7), .null, .null, .null, .null, .int (nI (0)), .int (nI (0)), .int (nI (0)), .int (nI (0)), .int (nI (0))])), (q7, .inl (cA 0, 10, arN (fun _ => 0))), (q15, .inl (cA 0, 10, arN (fun _ => 0)))] := hD
  refine va_putF (v := .ref (q15)) (ty := .array .int) (Ts := wsX40) (C := RX4) (T := TX4) (N := 10) hx hb hwsX40 (fun _ h => h) tyX4 tyX4_ok nmX4 hown hK hP hD hS 0 rfl rfl 1 (by decide) (hts (.fieldLink RX4 15 "AdventStreets$Street" "days" "[I") (List.mem_of_getElem? (i := 6) rfl)) (fun _ h9 => h9) rfl hin rfl (by decide +kernel) rfl rfl (Nat.le_of_ble_eq_true rfl) dX4_init_17 (fun H locs hP hD hS => ?_)
  have hP : va_P D vwCl [(q, .inr (4, [.ref (q7), .ref (q15), .null, .null, .null, .int (nI (0)), .int (nI (0)), .int (nI (0)), .int (nI (0)), .int (nI (0))])), (q7, .inl (cA 0, 10, arN (fun _ => 0))), (q15, .inl (cA 0, 10, arN (fun _ => 0)))] _ := hP
  have hD : va_D A [(q, .inr (4, [.ref (q7), .ref (q15), .null, .null, .null, .int (nI (0)), .int (nI (0)), .int (nI (0)), .int (nI (0)), .int (nI (0))])), (q7, .inl (cA 0, 10, arN (fun _ => 0))), (q15, .inl (cA 0, 10, arN (fun _ => 0)))] := hD
  refine lv_aload_n hx hb dX4_init_20 rfl (lv_at hl 0 rfl) ?_
  refine lv_bipush (v := nI (10)) hx hb dX4_init_21 (by decide) ?_
  refine r_newI (N := 10) hx hb (hts (.arrayClass .int) (List.mem_of_getElem? (i := 4) rfl)) hK hP hD hS hA (by decide) (Nat.le_of_ble_eq_true rfl) (Nat.le_of_ble_eq_true rfl) dX4_init_23 (fun q23 H hP hD hS => ?_)
  refine W.widen (k := 3) (n := 30) (by omega) (by omega) ?_
  have hP : va_P D vwCl [(q, .inr (4, [.ref (q7), .ref (q15), .null, .null, .null, .int (nI (0)), .int (nI (0)), .int (nI (0)), .int (nI (0)), .int (nI (0))])), (q7, .inl (cA 0, 10, arN (fun _ => 0))), (q15, .inl (cA 0, 10, arN (fun _ => 0))), (q23, .inl (cA 0, 10, arN (fun _ => 0)))] _ := hP
  have hD : va_D A [(q, .inr (4, [.ref (q7), .ref (q15), .null, .null, .null, .int (nI (0)), .int (nI (0)), .int (nI (0)), .int (nI (0)), .int (nI (0))])), (q7, .inl (cA 0, 10, arN (fun _ => 0))), (q15, .inl (cA 0, 10, arN (fun _ => 0))), (q23, .inl (cA 0, 10, arN (fun _ => 0)))] := hD
  refine va_putF (v := .ref (q23)) (ty := .array .int) (Ts := wsX40) (C := RX4) (T := TX4) (N := 10) hx hb hwsX40 (fun _ h => h) tyX4 tyX4_ok nmX4 hown hK hP hD hS 0 rfl rfl 2 (by decide) (hts (.fieldLink RX4 18 "AdventStreets$Street" "pictures" "[I") (List.mem_of_getElem? (i := 7) rfl)) (fun _ h9 => h9) rfl hin rfl (by decide +kernel) rfl rfl (Nat.le_of_ble_eq_true rfl) dX4_init_25 (fun H locs hP hD hS => ?_)
  have hP : va_P D vwCl [(q, .inr (4, [.ref (q7), .ref (q15), .ref (q23), .null, .null, .int (nI (0)), .int (nI (0)), .int (nI (0)), .int (nI (0)), .int (nI (0))])), (q7, .inl (cA 0, 10, arN (fun _ => 0))), (q15, .inl (cA 0, 10, arN (fun _ => 0))), (q23, .inl (cA 0, 10, arN (fun _ => 0)))] _ := hP
  have hD : va_D A [(q, .inr (4, [.ref (q7), .ref (q15), .ref (q23), .null, .null, .int (nI (0)), .int (nI (0)), .int (nI (0)), .int (nI (0)), .int (nI (0))])), (q7, .inl (cA 0, 10, arN (fun _ => 0))), (q15, .inl (cA 0, 10, arN (fun _ => 0))), (q23, .inl (cA 0, 10, arN (fun _ => 0)))] := hD
  refine lv_aload_n hx hb dX4_init_28 rfl (lv_at hl 0 rfl) ?_
  refine lv_bipush (v := nI (10)) hx hb dX4_init_29 (by decide) ?_
  refine r_newI (N := 10) hx hb (hts (.arrayClass .int) (List.mem_of_getElem? (i := 4) rfl)) hK hP hD hS hA (by decide) (Nat.le_of_ble_eq_true rfl) (Nat.le_of_ble_eq_true rfl) dX4_init_31 (fun q31 H hP hD hS => ?_)
  refine W.widen (k := 4) (n := 40) (by omega) (by omega) ?_
  have hP : va_P D vwCl [(q, .inr (4, [.ref (q7), .ref (q15), .ref (q23), .null, .null, .int (nI (0)), .int (nI (0)), .int (nI (0)), .int (nI (0)), .int (nI (0))])), (q7, .inl (cA 0, 10, arN (fun _ => 0))), (q15, .inl (cA 0, 10, arN (fun _ => 0))), (q23, .inl (cA 0, 10, arN (fun _ => 0))), (q31, .inl (cA 0, 10, arN (fun _ => 0)))] _ := hP
  have hD : va_D A [(q, .inr (4, [.ref (q7), .ref (q15), .ref (q23), .null, .null, .int (nI (0)), .int (nI (0)), .int (nI (0)), .int (nI (0)), .int (nI (0))])), (q7, .inl (cA 0, 10, arN (fun _ => 0))), (q15, .inl (cA 0, 10, arN (fun _ => 0))), (q23, .inl (cA 0, 10, arN (fun _ => 0))), (q31, .inl (cA 0, 10, arN (fun _ => 0)))] := hD
  refine va_putF (v := .ref (q31)) (ty := .array .int) (Ts := wsX40) (C := RX4) (T := TX4) (N := 10) hx hb hwsX40 (fun _ h => h) tyX4 tyX4_ok nmX4 hown hK hP hD hS 0 rfl rfl 3 (by decide) (hts (.fieldLink RX4 21 "AdventStreets$Street" "glues" "[I") (List.mem_of_getElem? (i := 8) rfl)) (fun _ h9 => h9) rfl hin rfl (by decide +kernel) rfl rfl (Nat.le_of_ble_eq_true rfl) dX4_init_33 (fun H locs hP hD hS => ?_)
  have hP : va_P D vwCl [(q, .inr (4, [.ref (q7), .ref (q15), .ref (q23), .ref (q31), .null, .int (nI (0)), .int (nI (0)), .int (nI (0)), .int (nI (0)), .int (nI (0))])), (q7, .inl (cA 0, 10, arN (fun _ => 0))), (q15, .inl (cA 0, 10, arN (fun _ => 0))), (q23, .inl (cA 0, 10, arN (fun _ => 0))), (q31, .inl (cA 0, 10, arN (fun _ => 0)))] _ := hP
  have hD : va_D A [(q, .inr (4, [.ref (q7), .ref (q15), .ref (q23), .ref (q31), .null, .int (nI (0)), .int (nI (0)), .int (nI (0)), .int (nI (0)), .int (nI (0))])), (q7, .inl (cA 0, 10, arN (fun _ => 0))), (q15, .inl (cA 0, 10, arN (fun _ => 0))), (q23, .inl (cA 0, 10, arN (fun _ => 0))), (q31, .inl (cA 0, 10, arN (fun _ => 0)))] := hD
  refine lv_aload_n hx hb dX4_init_36 rfl (lv_at hl 0 rfl) ?_
  refine lv_bipush (v := nI (10)) hx hb dX4_init_37 (by decide) ?_
  refine r_newI (N := 10) hx hb (hts (.arrayClass .int) (List.mem_of_getElem? (i := 4) rfl)) hK hP hD hS hA (by decide) (Nat.le_of_ble_eq_true rfl) (Nat.le_of_ble_eq_true rfl) dX4_init_39 (fun q39 H hP hD hS => ?_)
  refine W.widen (k := 5) (n := 50) (by omega) (by omega) ?_
  have hP : va_P D vwCl [(q, .inr (4, [.ref (q7), .ref (q15), .ref (q23), .ref (q31), .null, .int (nI (0)), .int (nI (0)), .int (nI (0)), .int (nI (0)), .int (nI (0))])), (q7, .inl (cA 0, 10, arN (fun _ => 0))), (q15, .inl (cA 0, 10, arN (fun _ => 0))), (q23, .inl (cA 0, 10, arN (fun _ => 0))), (q31, .inl (cA 0, 10, arN (fun _ => 0))), (q39, .inl (cA 0, 10, arN (fun _ => 0)))] _ := hP
  have hD : va_D A [(q, .inr (4, [.ref (q7), .ref (q15), .ref (q23), .ref (q31), .null, .int (nI (0)), .int (nI (0)), .int (nI (0)), .int (nI (0)), .int (nI (0))])), (q7, .inl (cA 0, 10, arN (fun _ => 0))), (q15, .inl (cA 0, 10, arN (fun _ => 0))), (q23, .inl (cA 0, 10, arN (fun _ => 0))), (q31, .inl (cA 0, 10, arN (fun _ => 0))), (q39, .inl (cA 0, 10, arN (fun _ => 0)))] := hD
  refine va_putF (v := .ref (q39)) (ty := .array .int) (Ts := wsX40) (C := RX4) (T := TX4) (N := 10) hx hb hwsX40 (fun _ h => h) tyX4 tyX4_ok nmX4 hown hK hP hD hS 0 rfl rfl 4 (by decide) (hts (.fieldLink RX4 24 "AdventStreets$Street" "seen" "[I") (List.mem_of_getElem? (i := 9) rfl)) (fun _ h9 => h9) rfl hin rfl (by decide +kernel) rfl rfl (Nat.le_of_ble_eq_true rfl) dX4_init_41 (fun H locs hP hD hS => ?_)
  have hP : va_P D vwCl [(q, .inr (4, [.ref (q7), .ref (q15), .ref (q23), .ref (q31), .ref (q39), .int (nI (0)), .int (nI (0)), .int (nI (0)), .int (nI (0)), .int (nI (0))])), (q7, .inl (cA 0, 10, arN (fun _ => 0))), (q15, .inl (cA 0, 10, arN (fun _ => 0))), (q23, .inl (cA 0, 10, arN (fun _ => 0))), (q31, .inl (cA 0, 10, arN (fun _ => 0))), (q39, .inl (cA 0, 10, arN (fun _ => 0)))] _ := hP
  have hD : va_D A [(q, .inr (4, [.ref (q7), .ref (q15), .ref (q23), .ref (q31), .ref (q39), .int (nI (0)), .int (nI (0)), .int (nI (0)), .int (nI (0)), .int (nI (0))])), (q7, .inl (cA 0, 10, arN (fun _ => 0))), (q15, .inl (cA 0, 10, arN (fun _ => 0))), (q23, .inl (cA 0, 10, arN (fun _ => 0))), (q31, .inl (cA 0, 10, arN (fun _ => 0))), (q39, .inl (cA 0, 10, arN (fun _ => 0)))] := hD
  exact hend _ _ _ _ (fun i => [q, q7, q15, q23, q31, q39].getD i 0) hP hD hS dX4_init_44
set_option maxRecDepth 100000 in
set_option maxHeartbeats 4000000 in
theorem c_X2_init (l : Launch) (D : va_G) (cA : Nat → ClassId) (tt : Nat → Nat) (q : Nat) (sz : Nat) : Cn (U := Nat → Nat) l D cA tt yX2_init wsX2_init ({ frames := 1, cells := 0, slots := 0, locals := 20 } : Room) [.ref (q)] sz [(q, .inr (2, [.int (nI (0)), .int (nI (0))]))] (fun u => [(q, .inr (2, [.int (nI (0)), .int (nI (0))]))]) 0 0 := by
  refine Cn.mk (cc := cX2_init) (maxL := 1) (by decide) rfl rfl (Nat.le_of_ble_eq_true rfl) ?_
  intro p e s m below meth c A Q ls hB hO hin hl hend
  obtain ⟨⟨hx, hb, hml, hown, hts⟩, hP, hK, hD, hS, hA, hE⟩ := hB
  have hown : s.vm.findClass RX2 = some m.cls := hown
  have hl : lv_has ls 1 [(0, .ref (q))] := hl
  refine lv_aload_n hx hb dX2_init_0 rfl (lv_at hl 0 rfl) ?_
  refine W.objInit hx hb hown (hts (.methodLink RX2 3 objectInit) (List.mem_of_getElem? (i := 1) rfl)) (hts (.instanceMethod objectInit) (List.mem_of_getElem? (i := 2) rfl)) (hts (.code objectInit ⟨#[0xb1]⟩ 1 none) (List.mem_of_getElem? (i := 3) rfl)) rfl (by rw [hml]; exact hl.1) rfl dX2_init_1 (Nat.le_of_ble_eq_true rfl) (Nat.le_of_ble_eq_true rfl) ?_
  refine W.eq (g2 := F0 m 4 ls []) rfl ?_
  exact hend _ _ _ _ (fun _ => 0) hP hD hS dX2_init_4
set_option maxRecDepth 100000 in
set_option maxHeartbeats 4000000 in
theorem c_X6_init (l : Launch) (D : va_G) (cA : Nat → ClassId) (tt : Nat → Nat) (q : Nat) (sz : Nat) : Cn (U := Nat → Nat) l D cA tt yX6_init wsX6_init ({ frames := 1, cells := 1, slots := 16, locals := 20 } : Room) [.ref (q)] sz [(q, .inr (6, [.null, .int (nI (0))]))] (fun u => [(q, .inr (6, [.ref (u 1), .int (nI (0))])), (u 1, .inl (cA 0, 16, arN (fun _ => 0)))]) 1 16 := by
  refine Cn.mk (cc := cX6_init) (maxL := 1) (by decide) rfl rfl (Nat.le_of_ble_eq_true rfl) ?_
  intro p e s m below meth c A Q ls hB hO hin hl hend
  obtain ⟨⟨hx, hb, hml, hown, hts⟩, hP, hK, hD, hS, hA, hE⟩ := hB
  have hown : s.vm.findClass RX6 = some m.cls := hown
  have hwsX60 : ∀ w9 ∈ wsX60, w9.before ([.ref (q)] : List Value).toArray s = true := fun w9 h => hts w9 (List.mem_cons_of_mem _ (List.mem_append_right _ h))
  have hl : lv_has ls 1 [(0, .ref (q))] := hl
  refine lv_aload_n hx hb dX6_init_0 rfl (lv_at hl 0 rfl) ?_
  refine W.objInit hx hb hown (hts (.methodLink RX6 3 objectInit) (List.mem_of_getElem? (i := 1) rfl)) (hts (.instanceMethod objectInit) (List.mem_of_getElem? (i := 2) rfl)) (hts (.code objectInit ⟨#[0xb1]⟩ 1 none) (List.mem_of_getElem? (i := 3) rfl)) rfl (by rw [hml]; exact hl.1) rfl dX6_init_1 (Nat.le_of_ble_eq_true rfl) (Nat.le_of_ble_eq_true rfl) ?_
  refine W.eq (g2 := F0 m 4 ls []) rfl ?_
  refine lv_aload_n hx hb dX6_init_4 rfl (lv_at hl 0 rfl) ?_
  refine lv_bipush (v := nI (16)) hx hb dX6_init_5 (by decide) ?_
  refine r_newI (N := 16) hx hb (hts (.arrayClass .int) (List.mem_of_getElem? (i := 4) rfl)) hK hP hD hS hA (by decide) (Nat.le_of_ble_eq_true rfl) (Nat.le_of_ble_eq_true rfl) dX6_init_7 (fun q7 H hP hD hS => ?_)
  refine W.widen (k := 1) (n := 16) (by omega) (by omega) ?_
  have hP : va_P D vwCl [(q, .inr (6, [.null, .int (nI (0))])), (q7, .inl (cA 0, 16, arN (fun _ => 0)))] _ := hP
  have hD : va_D A [(q, .inr (6, [.null, .int (nI (0))])), (q7, .inl (cA 0, 16, arN (fun _ => 0)))] := hD
  refine va_putF (v := .ref (q7)) (ty := .array .int) (Ts := wsX60) (C := RX6) (T := TX6) (N := 2) hx hb hwsX60 (fun _ h => h) tyX6 tyX6_ok nmX6 hown hK hP hD hS 0 rfl rfl 0 (by decide) (hts (.fieldLink RX6 9 "AdventStreets$Trace" "bodies" "[I") (List.mem_of_getElem? (i := 5) rfl)) (fun _ h9 => h9) rfl hin rfl (by decide +kernel) rfl rfl (Nat.le_of_ble_eq_true rfl) dX6_init_9 (fun H locs hP hD hS => ?_)
  have hP : va_P D vwCl [(q, .inr (6, [.ref (q7), .int (nI (0))])), (q7, .inl (cA 0, 16, arN (fun _ => 0)))] _ := hP
  have hD : va_D A [(q, .inr (6, [.ref (q7), .int (nI (0))])), (q7, .inl (cA 0, 16, arN (fun _ => 0)))] := hD
  exact hend _ _ _ _ (fun _ => q7) hP hD hS dX6_init_12
set_option maxRecDepth 100000 in
set_option maxHeartbeats 4000000 in
theorem c_X5_init (l : Launch) (D : va_G) (cA : Nat → ClassId) (tt : Nat → Nat) (q : Nat) (sz : Nat) : Cn (U := Nat → Nat) l D cA tt yX5_init wsX5_init ({ frames := 2, cells := 2, slots := 132, locals := 40 } : Room) [.ref (q)] sz [(q, .inr (5, [.null, .null, .int (nI (0))]))] (fun u => [(q, .inr (5, [.ref (u 1), .ref (u 2), .int (nI (0))])), (u 1, .inl (cA 0, 130, arN (fun _ => 0))), (u 2, .inr (2, [.int (nI (0)), .int (nI (0))]))]) 2 132 := by
  refine Cn.mk (cc := cX5_init) (maxL := 1) (by decide) rfl rfl (Nat.le_of_ble_eq_true rfl) ?_
  intro p e s m below meth c A Q ls hB hO hin hl hend
  obtain ⟨⟨hx, hb, hml, hown, hts⟩, hP, hK, hD, hS, hA, hE⟩ := hB
  have hown : s.vm.findClass RX5 = some m.cls := hown
  have hwsX50 : ∀ w9 ∈ wsX50, w9.before ([.ref (q)] : List Value).toArray s = true := fun w9 h => hts w9 (List.mem_cons_of_mem _ (List.mem_append_left _ (List.mem_append_right _ h)))
  have hwsX20 : ∀ w9 ∈ wsX20, w9.before ([.ref (q)] : List Value).toArray s = true := fun w9 h => hts w9 (List.mem_cons_of_mem _ (List.mem_append_right _ h))
  have hl : lv_has ls 1 [(0, .ref (q))] := hl
  refine lv_aload_n hx hb dX5_init_0 rfl (lv_at hl 0 rfl) ?_
  refine W.objInit hx hb hown (hts (.methodLink RX5 3 objectInit) (List.mem_of_getElem? (i := 1) rfl)) (hts (.instanceMethod objectInit) (List.mem_of_getElem? (i := 2) rfl)) (hts (.code objectInit ⟨#[0xb1]⟩ 1 none) (List.mem_of_getElem? (i := 3) rfl)) rfl (by rw [hml]; exact hl.1) rfl dX5_init_1 (Nat.le_of_ble_eq_true rfl) (Nat.le_of_ble_eq_true rfl) ?_
  refine W.eq (g2 := F0 m 4 ls []) rfl ?_
  refine lv_aload_n hx hb dX5_init_4 rfl (lv_at hl 0 rfl) ?_
  refine lv_sipush (v := nI (130)) hx hb dX5_init_5 (by decide) ?_
  refine r_newI (N := 130) hx hb (hts (.arrayClass .int) (List.mem_of_getElem? (i := 4) rfl)) hK hP hD hS hA (by decide) (Nat.le_of_ble_eq_true rfl) (Nat.le_of_ble_eq_true rfl) dX5_init_8 (fun q8 H hP hD hS => ?_)
  refine W.widen (k := 1) (n := 130) (by omega) (by omega) ?_
  have hP : va_P D vwCl [(q, .inr (5, [.null, .null, .int (nI (0))])), (q8, .inl (cA 0, 130, arN (fun _ => 0)))] _ := hP
  have hD : va_D A [(q, .inr (5, [.null, .null, .int (nI (0))])), (q8, .inl (cA 0, 130, arN (fun _ => 0)))] := hD
  refine va_putF (v := .ref (q8)) (ty := .array .int) (Ts := wsX50) (C := RX5) (T := TX5) (N := 3) hx hb hwsX50 (fun _ h => h) tyX5 tyX5_ok nmX5 hown hK hP hD hS 0 rfl rfl 0 (by decide) (hts (.fieldLink RX5 9 "AdventStreets$Tape" "bytes" "[I") (List.mem_of_getElem? (i := 5) rfl)) (fun _ h9 => h9) rfl hin rfl (by decide +kernel) rfl rfl (Nat.le_of_ble_eq_true rfl) dX5_init_10 (fun H locs hP hD hS => ?_)
  have hP : va_P D vwCl [(q, .inr (5, [.ref (q8), .null, .int (nI (0))])), (q8, .inl (cA 0, 130, arN (fun _ => 0)))] _ := hP
  have hD : va_D A [(q, .inr (5, [.ref (q8), .null, .int (nI (0))])), (q8, .inl (cA 0, 130, arN (fun _ => 0)))] := hD
  refine lv_aload_n hx hb dX5_init_13 rfl (lv_at hl 0 rfl) ?_
  refine va_new (ci := 2) (fs := [.int (nI (0)), .int (nI (0))]) (C := RX2) (T := TX2) (N := 2) (Ts := wsX20) hx hb hwsX20 (fun _ h => h) tyX2 tyX2_ok hown (hts (.classLink RX5 15 RX2) (List.mem_of_getElem? (i := 6) rfl)) (hts (.instantiable RX2 2) (List.mem_of_getElem? (i := 7) rfl)) (hts (.initialized RX2) (List.mem_of_getElem? (i := 8) rfl)) hK hP hD hS hA rfl (fun j hj => by rcases (show j = 0 ∨ j = 1 by omega) with rfl | rfl <;> rfl) (Nat.le_of_ble_eq_true rfl) (Nat.le_of_ble_eq_true rfl) dX5_init_14 (fun q14 H hP hD hS => ?_)
  refine W.widen (k := 2) (n := 132) (by omega) (by omega) ?_
  have hP : va_P D vwCl [(q, .inr (5, [.ref (q8), .null, .int (nI (0))])), (q8, .inl (cA 0, 130, arN (fun _ => 0))), (q14, .inr (2, [.int (nI (0)), .int (nI (0))]))] _ := hP
  have hD : va_D A [(q, .inr (5, [.ref (q8), .null, .int (nI (0))])), (q8, .inl (cA 0, 130, arN (fun _ => 0))), (q14, .inr (2, [.int (nI (0)), .int (nI (0))]))] := hD
  refine lv_dup hx hb dX5_init_17 rfl ?_
  refine cJv (fun _ => 0) (U := Nat → Nat) (rm := ({ frames := 1, cells := 0, slots := 0, locals := 20 } : Room)) (mc := 0) (ms := 0) (n := 0) (As := []) (rest := [.ref (q14), .ref (q)]) (X := [(q, .inr (5, [.ref (q8), .null, .int (nI (0))])), (q8, .inl (cA 0, 130, arN (fun _ => 0))), (q14, .inr (2, [.int (nI (0)), .int (nI (0))]))]) (pl := []) (wc := [(q14, .inr (2, [.int (nI (0)), .int (nI (0))]))]) (wr := [(q, .inr (5, [.ref (q8), .null, .int (nI (0))])), (q8, .inl (cA 0, 130, arN (fun _ => 0)))]) (w1 := fun u => [(q14, .inr (2, [.int (nI (0)), .int (nI (0))]))]) (wn := fun u => [(q, .inr (5, [.ref (q8), .null, .int (nI (0))])), (q8, .inl (cA 0, 130, arN (fun _ => 0)))] ++ [(q14, .inr (2, [.int (nI (0)), .int (nI (0))]))]) (isC := [2]) (isR := [0, 1]) (isN := [0, 1, 2]) ⟨hx, hb, hml, hown, hts⟩ (c_X2_init l D cA tt q14 _) gX5_init_X2_init_n17 rfl ⟨rfl, rfl⟩ (hts (.initialized RX2) (List.mem_of_getElem? (i := 8) rfl)) (hE.1.m (q := ("AdventStreets$Tape", 17, yX2_init)) 1 rfl) (hts (.instanceMethod yX2_init) (List.mem_of_getElem? (i := 10) rfl)) rfl (by decide +kernel) ⟨Nat.le_of_ble_eq_true rfl, Nat.le_of_ble_eq_true rfl⟩ ⟨Nat.le_of_ble_eq_true rfl, Nat.le_of_ble_eq_true rfl⟩ hK hE hO hA hP hD hS (fun u => ⟨⟨rfl, by decide⟩, ⟨rfl, by decide, by decide⟩, rfl, by decide⟩) rfl hl.1 rfl (Nat.le_of_ble_eq_true rfl) dX5_init_18 (fun u1 H locs hP hD hS => ?_)
  refine W.widen (k := 2) (n := 132) (by omega) (by omega) ?_
  have hP : va_P D vwCl [(q, .inr (5, [.ref (q8), .null, .int (nI (0))])), (q8, .inl (cA 0, 130, arN (fun _ => 0))), (q14, .inr (2, [.int (nI (0)), .int (nI (0))]))] _ := hP
  have hD : va_D A [(q, .inr (5, [.ref (q8), .null, .int (nI (0))])), (q8, .inl (cA 0, 130, arN (fun _ => 0))), (q14, .inr (2, [.int (nI (0)), .int (nI (0))]))] := hD
  refine va_putF (v := .ref (q14)) (ty := .object "AdventStreets$Reader") (Ts := wsX50) (C := RX5) (T := TX5) (N := 3) hx hb hwsX50 (fun _ h => h) tyX5 tyX5_ok nmX5 hown hK hP hD hS 0 rfl rfl 1 (by decide) (hts (.fieldLink RX5 18 "AdventStreets$Tape" "reader" "LAdventStreets$Reader;") (List.mem_of_getElem? (i := 9) rfl)) (fun _ h9 => h9) rfl hin rfl (by decide +kernel) rfl rfl (Nat.le_of_ble_eq_true rfl) dX5_init_21 (fun H locs hP hD hS => ?_)
  have hP : va_P D vwCl [(q, .inr (5, [.ref (q8), .ref (q14), .int (nI (0))])), (q8, .inl (cA 0, 130, arN (fun _ => 0))), (q14, .inr (2, [.int (nI (0)), .int (nI (0))]))] _ := hP
  have hD : va_D A [(q, .inr (5, [.ref (q8), .ref (q14), .int (nI (0))])), (q8, .inl (cA 0, 130, arN (fun _ => 0))), (q14, .inr (2, [.int (nI (0)), .int (nI (0))]))] := hD
  exact hend _ _ _ _ (fun i => [0, q8, q14].getD i 0) hP hD hS dX5_init_24
set_option maxRecDepth 100000 in
set_option maxHeartbeats 4000000 in
theorem c_X1_init (l : Launch) (D : va_G) (cA : Nat → ClassId) (tt : Nat → Nat) (q : Nat) (sz : Nat) : Cn (U := Nat → Nat) l D cA tt yX1_init wsX1_init ({ frames := 2, cells := 6, slots := 60, locals := 40 } : Room) [.ref (q)] sz [(q, .inr (1, [.null, .int (nI (0))]))] (fun u => ([(q, .inr (1, [.ref (u 0), .int (nI (0))]))] ++ stW cA u sg0)) 6 60 := by
  refine Cn.mk (cc := cX1_init) (maxL := 1) (by decide) rfl rfl (Nat.le_of_ble_eq_true rfl) ?_
  intro p e s m below meth c A Q ls hB hO hin hl hend
  obtain ⟨⟨hx, hb, hml, hown, hts⟩, hP, hK, hD, hS, hA, hE⟩ := hB
  have hown : s.vm.findClass RX1 = some m.cls := hown
  have hwsX40 : ∀ w9 ∈ wsX40, w9.before ([.ref (q)] : List Value).toArray s = true := fun w9 h => hts w9 (List.mem_cons_of_mem _ (List.mem_append_left _ (List.mem_append_right _ h)))
  have hwsX10 : ∀ w9 ∈ wsX10, w9.before ([.ref (q)] : List Value).toArray s = true := fun w9 h => hts w9 (List.mem_cons_of_mem _ (List.mem_append_right _ h))
  have hl : lv_has ls 1 [(0, .ref (q))] := hl
  refine lv_aload_n hx hb dX1_init_0 rfl (lv_at hl 0 rfl) ?_
  refine W.objInit hx hb hown (hts (.methodLink RX1 3 objectInit) (List.mem_of_getElem? (i := 1) rfl)) (hts (.instanceMethod objectInit) (List.mem_of_getElem? (i := 2) rfl)) (hts (.code objectInit ⟨#[0xb1]⟩ 1 none) (List.mem_of_getElem? (i := 3) rfl)) rfl (by rw [hml]; exact hl.1) rfl dX1_init_1 (Nat.le_of_ble_eq_true rfl) (Nat.le_of_ble_eq_true rfl) ?_
  refine W.eq (g2 := F0 m 4 ls []) rfl ?_
  refine lv_aload_n hx hb dX1_init_4 rfl (lv_at hl 0 rfl) ?_
  refine va_new (ci := 4) (fs := [.null, .null, .null, .null, .null, .int (nI (0)), .int (nI (0)), .int (nI (0)), .int (nI (0)), .int (nI (0))]) (C := RX4) (T := TX4) (N := 10) (Ts := wsX40) hx hb hwsX40 (fun _ h => h) tyX4 tyX4_ok hown (hts (.classLink RX1 9 RX4) (List.mem_of_getElem? (i := 4) rfl)) (hts (.instantiable RX4 10) (List.mem_of_getElem? (i := 5) rfl)) (hts (.initialized RX4) (List.mem_of_getElem? (i := 6) rfl)) hK hP hD hS hA rfl (fun j hj => by rcases (show j = 0 ∨ j = 1 ∨ j = 2 ∨ j = 3 ∨ j = 4 ∨ j = 5 ∨ j = 6 ∨ j = 7 ∨ j = 8 ∨ j = 9 by omega) with rfl | rfl | rfl | rfl | rfl | rfl | rfl | rfl | rfl | rfl <;> rfl) (Nat.le_of_ble_eq_true rfl) (Nat.le_of_ble_eq_true rfl) dX1_init_5 (fun q5 H hP hD hS => ?_)
  refine W.widen (k := 1) (n := 10) (by omega) (by omega) ?_
  have hP : va_P D vwCl [(q, .inr (1, [.null, .int (nI (0))])), (q5, .inr (4, [.null, .null, .null, .null, .null, .int (nI (0)), .int (nI (0)), .int (nI (0)), .int (nI (0)), .int (nI (0))]))] _ := hP
  have hD : va_D A [(q, .inr (1, [.null, .int (nI (0))])), (q5, .inr (4, [.null, .null, .null, .null, .null, .int (nI (0)), .int (nI (0)), .int (nI (0)), .int (nI (0)), .int (nI (0))]))] := hD
  refine lv_dup hx hb dX1_init_8 rfl ?_
  refine cJv (fun _ => 0) (U := Nat → Nat) (rm := ({ frames := 1, cells := 5, slots := 50, locals := 20 } : Room)) (mc := 5) (ms := 50) (n := 0) (As := []) (rest := [.ref (q5), .ref (q)]) (X := [(q, .inr (1, [.null, .int (nI (0))])), (q5, .inr (4, [.null, .null, .null, .null, .null, .int (nI (0)), .int (nI (0)), .int (nI (0)), .int (nI (0)), .int (nI (0))]))]) (pl := []) (wc := [(q5, .inr (4, [.null, .null, .null, .null, .null, .int (nI (0)), .int (nI (0)), .int (nI (0)), .int (nI (0)), .int (nI (0))]))]) (wr := [(q, .inr (1, [.null, .int (nI (0))]))]) (w1 := fun u => (stW cA (sa9 q5 u) sg0)) (wn := fun u => [(q, .inr (1, [.null, .int (nI (0))]))] ++ (stW cA (sa9 q5 u) sg0)) (isC := [1]) (isR := [0]) (isN := [0, 1, 2, 3, 4, 5, 6]) ⟨hx, hb, hml, hown, hts⟩ (c_X4_init l D cA tt q5 _) gX1_init_X4_init_n11 rfl ⟨rfl, rfl⟩ (hts (.initialized RX4) (List.mem_of_getElem? (i := 6) rfl)) (hE.1.m (q := ("AdventStreets$Foretold", 11, yX4_init)) 4 rfl) (hts (.instanceMethod yX4_init) (List.mem_of_getElem? (i := 8) rfl)) rfl (by decide +kernel) ⟨Nat.le_of_ble_eq_true rfl, Nat.le_of_ble_eq_true rfl⟩ ⟨Nat.le_of_ble_eq_true rfl, Nat.le_of_ble_eq_true rfl⟩ hK hE hO hA hP hD hS (fun u => ⟨⟨rfl, by decide⟩, ⟨rfl, by decide, by decide⟩, rfl, by decide⟩) rfl hl.1 rfl (Nat.le_of_ble_eq_true rfl) dX1_init_9 (fun u1 H locs hP hD hS => ?_)
  refine W.widen (k := 6) (n := 60) (by omega) (by omega) ?_
  have hP : va_P D vwCl ([(q, .inr (1, [.null, .int (nI (0))]))] ++ stW cA (sa9 q5 u1) sg0) _ := hP
  have hD : va_D A ([(q, .inr (1, [.null, .int (nI (0))]))] ++ stW cA (sa9 q5 u1) sg0) := hD
  refine va_putF (v := .ref (q5)) (ty := .object "AdventStreets$Street") (Ts := wsX10) (C := RX1) (T := TX1) (N := 2) hx hb hwsX10 (fun _ h => h) tyX1 tyX1_ok nmX1 hown hK hP hD hS 0 rfl rfl 0 (by decide) (hts (.fieldLink RX1 12 "AdventStreets$Foretold" "trial" "LAdventStreets$Street;") (List.mem_of_getElem? (i := 7) rfl)) (fun _ h9 => h9) rfl hin rfl (by decide +kernel) rfl rfl (Nat.le_of_ble_eq_true rfl) dX1_init_12 (fun H locs hP hD hS => ?_)
  have hP : va_P D vwCl ([(q, .inr (1, [.ref (q5), .int (nI (0))]))] ++ stW cA (sa9 q5 u1) sg0) _ := hP
  have hD : va_D A ([(q, .inr (1, [.ref (q5), .int (nI (0))]))] ++ stW cA (sa9 q5 u1) sg0) := hD
  exact hend _ _ _ _ (sa9 q5 u1) hP hD hS dX1_init_15
set_option maxRecDepth 100000 in
set_option maxHeartbeats 4000000 in
theorem c_X3_init (l : Launch) (D : va_G) (cA : Nat → ClassId) (tt : Nat → Nat) (q : Nat) (sz : Nat) : Cn (U := (Nat → Nat) × (Nat → Nat)) l D cA tt yX3_init wsX3_init ({ frames := 1, cells := 11, slots := 344, locals := 23 } : Room) [.ref (q)] sz [(q, .inr (3, [.null, .null, .null]))] (fun u => ([(q, .inr (3, [.ref (u.1 1), .ref (u.1 2), .ref (u.1 3)])), (u.1 1, .inl (cA 0, 8, .inl (fun _ => -1))), (u.1 2, .inl (cA 0, 8, arN (fun _ => 0))), (u.1 3, .inl (cA 2, 8, .inr (.inr (.inr (.inr (fun i => some (u.2 i)))))))] ++ gridW cA u.2 (fun _ _ => nI 0))) 11 344 := by
  refine Cn.mk (cc := cX3_init) (maxL := 1) (by decide) rfl rfl (Nat.le_of_ble_eq_true rfl) ?_
  intro p e s m below meth c A Q ls hB hO hin hl hend
  obtain ⟨⟨hx, hb, hml, hown, hts⟩, hP, hK, hD, hS, hA, hE⟩ := hB
  have hown : s.vm.findClass RX3 = some m.cls := hown
  have hwsX30 : ∀ w9 ∈ wsX30, w9.before ([.ref (q)] : List Value).toArray s = true := fun w9 h => hts w9 (List.mem_cons_of_mem _ (List.mem_append_right _ h))
  have hl : lv_has ls 1 [(0, .ref (q))] := hl
  refine lv_aload_n hx hb dX3_init_0 rfl (lv_at hl 0 rfl) ?_
  refine W.objInit hx hb hown (hts (.methodLink RX3 3 objectInit) (List.mem_of_getElem? (i := 1) rfl)) (hts (.instanceMethod objectInit) (List.mem_of_getElem? (i := 2) rfl)) (hts (.code objectInit ⟨#[0xb1]⟩ 1 none) (List.mem_of_getElem? (i := 3) rfl)) rfl (by rw [hml]; exact hl.1) rfl dX3_init_1 (Nat.le_of_ble_eq_true rfl) (Nat.le_of_ble_eq_true rfl) ?_
  refine W.eq (g2 := F0 m 4 ls []) rfl ?_
  refine lv_aload_n hx hb dX3_init_4 rfl (lv_at hl 0 rfl) ?_
  refine lv_bipush (v := nI (8)) hx hb dX3_init_5 (by decide) ?_
  refine r_newI (N := 8) hx hb (hts (.arrayClass .int) (List.mem_of_getElem? (i := 4) rfl)) hK hP hD hS hA (by decide) (Nat.le_of_ble_eq_true rfl) (Nat.le_of_ble_eq_true rfl) dX3_init_7 (fun q7 H hP hD hS => ?_)
  refine W.widen (k := 1) (n := 8) (by omega) (by omega) ?_
  have hP : va_P D vwCl [(q, .inr (3, [.null, .null, .null])), (q7, .inl (cA 0, 8, arN (fun _ => 0)))] _ := hP
  have hD : va_D A [(q, .inr (3, [.null, .null, .null])), (q7, .inl (cA 0, 8, arN (fun _ => 0)))] := hD
  refine va_putF (v := .ref (q7)) (ty := .array .int) (Ts := wsX30) (C := RX3) (T := TX3) (N := 3) hx hb hwsX30 (fun _ h => h) tyX3 tyX3_ok nmX3 hown hK hP hD hS 0 rfl rfl 0 (by decide) (hts (.fieldLink RX3 9 "AdventStreets$Rows" "lanes" "[I") (List.mem_of_getElem? (i := 5) rfl)) (fun _ h9 => h9) rfl hin rfl (by decide +kernel) rfl rfl (Nat.le_of_ble_eq_true rfl) dX3_init_9 (fun H locs hP hD hS => ?_)
  have hP : va_P D vwCl [(q, .inr (3, [.ref (q7), .null, .null])), (q7, .inl (cA 0, 8, arN (fun _ => 0)))] _ := hP
  have hD : va_D A [(q, .inr (3, [.ref (q7), .null, .null])), (q7, .inl (cA 0, 8, arN (fun _ => 0)))] := hD
  refine lv_aload_n hx hb dX3_init_12 rfl (lv_at hl 0 rfl) ?_
  refine lv_bipush (v := nI (8)) hx hb dX3_init_13 (by decide) ?_
  refine r_newI (N := 8) hx hb (hts (.arrayClass .int) (List.mem_of_getElem? (i := 4) rfl)) hK hP hD hS hA (by decide) (Nat.le_of_ble_eq_true rfl) (Nat.le_of_ble_eq_true rfl) dX3_init_15 (fun q15 H hP hD hS => ?_)
  refine W.widen (k := 2) (n := 16) (by omega) (by omega) ?_
  have hP : va_P D vwCl [(q, .inr (3, [.ref (q7), .null, .null])), (q7, .inl (cA 0, 8, arN (fun _ => 0))), (q15, .inl (cA 0, 8, arN (fun _ => 0)))] _ := hP
  have hD : va_D A [(q, .inr (3, [.ref (q7), .null, .null])), (q7, .inl (cA 0, 8, arN (fun _ => 0))), (q15, .inl (cA 0, 8, arN (fun _ => 0)))] := hD
  refine va_putF (v := .ref (q15)) (ty := .array .int) (Ts := wsX30) (C := RX3) (T := TX3) (N := 3) hx hb hwsX30 (fun _ h => h) tyX3 tyX3_ok nmX3 hown hK hP hD hS 0 rfl rfl 1 (by decide) (hts (.fieldLink RX3 15 "AdventStreets$Rows" "lengths" "[I") (List.mem_of_getElem? (i := 6) rfl)) (fun _ h9 => h9) rfl hin rfl (by decide +kernel) rfl rfl (Nat.le_of_ble_eq_true rfl) dX3_init_17 (fun H locs hP hD hS => ?_)
  have hP : va_P D vwCl [(q, .inr (3, [.ref (q7), .ref (q15), .null])), (q7, .inl (cA 0, 8, arN (fun _ => 0))), (q15, .inl (cA 0, 8, arN (fun _ => 0)))] _ := hP
  have hD : va_D A [(q, .inr (3, [.ref (q7), .ref (q15), .null])), (q7, .inl (cA 0, 8, arN (fun _ => 0))), (q15, .inl (cA 0, 8, arN (fun _ => 0)))] := hD
  refine lv_aload_n hx hb dX3_init_20 rfl (lv_at hl 0 rfl) ?_
  refine lv_bipush (v := nI (8)) hx hb dX3_init_21 (by decide) ?_
  refine lv_bipush (v := nI (40)) hx hb dX3_init_23 (by decide) ?_
  refine r_multi hx hb hown (hts (.classLink RX3 18 "[[I") (List.mem_of_getElem? (i := 7) rfl)) hO (hts (.arrayClass .int) (List.mem_of_getElem? (i := 4) rfl)) hK hP hD hS hA (Nat.le_of_ble_eq_true rfl) (Nat.le_of_ble_eq_true rfl) dX3_init_25 (fun q25 ga25 H locs hP hD hS => ?_)
  refine W.widen (k := 11) (n := 344) (by omega) (by omega) ?_
  have hP : va_P D vwCl ([(q, .inr (3, [.ref (q7), .ref (q15), .null])), (q7, .inl (cA 0, 8, arN (fun _ => 0))), (q15, .inl (cA 0, 8, arN (fun _ => 0))), (q25, .inl (cA 2, 8, .inr (.inr (.inr (.inr (fun i => some (ga25 i)))))))] ++ gridW cA ga25 (fun _ _ => nI 0)) _ := hP
  have hD : va_D A ([(q, .inr (3, [.ref (q7), .ref (q15), .null])), (q7, .inl (cA 0, 8, arN (fun _ => 0))), (q15, .inl (cA 0, 8, arN (fun _ => 0))), (q25, .inl (cA 2, 8, .inr (.inr (.inr (.inr (fun i => some (ga25 i)))))))] ++ gridW cA ga25 (fun _ _ => nI 0)) := hD
  refine va_putF (v := .ref (q25)) (ty := .array (.array .int)) (Ts := wsX30) (C := RX3) (T := TX3) (N := 3) hx hb hwsX30 (fun _ h => h) tyX3 tyX3_ok nmX3 hown hK hP hD hS 0 rfl rfl 2 (by decide) (hts (.fieldLink RX3 20 "AdventStreets$Rows" "items" "[[I") (List.mem_of_getElem? (i := 8) rfl)) (fun _ h9 => h9) rfl hin rfl (by decide +kernel) rfl rfl (Nat.le_of_ble_eq_true rfl) dX3_init_29 (fun H locs hP hD hS => ?_)
  have hP : va_P D vwCl ([(q, .inr (3, [.ref (q7), .ref (q15), .ref (q25)])), (q7, .inl (cA 0, 8, arN (fun _ => 0))), (q15, .inl (cA 0, 8, arN (fun _ => 0))), (q25, .inl (cA 2, 8, .inr (.inr (.inr (.inr (fun i => some (ga25 i)))))))] ++ gridW cA ga25 (fun _ _ => nI 0)) _ := hP
  have hD : va_D A ([(q, .inr (3, [.ref (q7), .ref (q15), .ref (q25)])), (q7, .inl (cA 0, 8, arN (fun _ => 0))), (q15, .inl (cA 0, 8, arN (fun _ => 0))), (q25, .inl (cA 2, 8, .inr (.inr (.inr (.inr (fun i => some (ga25 i)))))))] ++ gridW cA ga25 (fun _ _ => nI 0)) := hD
  refine lv_aload_n hx hb dX3_init_32 rfl (lv_at hl 0 rfl) ?_
  refine va_get (v := .ref (q7)) (Ts := wsX30) (C := RX3) (T := TX3) (N := 3) hx hb hwsX30 (fun _ h => h) hown hK hP 0 rfl rfl 0 (by decide) (hts (.fieldLink RX3 9 "AdventStreets$Rows" "lanes" "[I") (List.mem_of_getElem? (i := 5) rfl)) (fun _ h9 => h9) rfl dX3_init_33 ?_
  refine lv_iconst (v := (-1)) hx hb dX3_init_36 (by decide) ?_
  refine cSv (n := 2) (As := [.ref (q7), .int ((-1))]) (rest := []) (X := [(q, .inr (3, [.ref (q7), .ref (q15), .ref (q25)])), (q7, .inl (cA 0, 8, arN (fun _ => 0))), (q15, .inl (cA 0, 8, arN (fun _ => 0))), (q25, .inl (cA 2, 8, .inr (.inr (.inr (.inr (fun i => some (ga25 i)))))))]) (pl := gridW cA ga25 (fun _ _ => nI 0)) (wc := [(q7, .inl (cA 0, 8, .inl (fun _ => 0)))]) (wr := [(q, .inr (3, [.ref (q7), .ref (q15), .ref (q25)])), (q15, .inl (cA 0, 8, arN (fun _ => 0))), (q25, .inl (cA 2, 8, .inr (.inr (.inr (.inr (fun i => some (ga25 i)))))))]) (w1 := [(q7, .inl (cA 0, 8, .inl (fun _ => (-1))))]) (wn := [(q, .inr (3, [.ref (q7), .ref (q15), .ref (q25)])), (q7, .inl (cA 0, 8, .inl (fun _ => (-1)))), (q15, .inl (cA 0, 8, arN (fun _ => 0))), (q25, .inl (cA 2, 8, .inr (.inr (.inr (.inr (fun i => some (ga25 i)))))))]) (isC := [1]) (isR := [0, 2, 3]) (isN := [0, 3, 1, 2]) ⟨hx, hb, hml, hown, hts⟩ (c_J7_fill_53178 l D cA tt q7 8 (fun _ => 0) (-1) (by omega) _) gX3_init_J7_fill_53178 rfl (by decide +kernel) ⟨rfl, rfl⟩ ⟨Nat.le_of_ble_eq_true rfl, Nat.le_of_ble_eq_true rfl⟩ ⟨Nat.le_of_ble_eq_true rfl, Nat.le_of_ble_eq_true rfl⟩ hK hE hA hP hD hS ⟨⟨rfl, by decide⟩, ⟨rfl, by decide, by decide⟩, rfl, by decide⟩ rfl hl.1 rfl (Nat.le_of_ble_eq_true rfl) dX3_init_37 (fun H locs hP hD hS => ?_)
  have hP : va_P D vwCl ([(q, .inr (3, [.ref (q7), .ref (q15), .ref (q25)])), (q7, .inl (cA 0, 8, .inl (fun _ => (-1)))), (q15, .inl (cA 0, 8, arN (fun _ => 0))), (q25, .inl (cA 2, 8, .inr (.inr (.inr (.inr (fun i => some (ga25 i)))))))] ++ gridW cA ga25 (fun _ _ => nI 0)) _ := hP
  have hD : va_D A ([(q, .inr (3, [.ref (q7), .ref (q15), .ref (q25)])), (q7, .inl (cA 0, 8, .inl (fun _ => (-1)))), (q15, .inl (cA 0, 8, arN (fun _ => 0))), (q25, .inl (cA 2, 8, .inr (.inr (.inr (.inr (fun i => some (ga25 i)))))))] ++ gridW cA ga25 (fun _ _ => nI 0)) := hD
  exact hend _ _ _ _ ((fun i => [0, q7, q15, q25].getD i 0), ga25) hP hD hS dX3_init_40
