/-! ===== AdventStreets: reads ===== -/
theorem inW_lo {v : Int32} {n : Nat} (h : v < 0) : inW v n = false := by
  unfold inW
  rw [decide_eq_false (Int32.not_le.mpr h)]; rfl
theorem inW_hi {v : Int32} {n : Nat} (h : nI n ≤ v) : inW v n = false := by
  unfold inW
  rw [decide_eq_false (p := v < nI n) (Int32.not_lt.mpr h), Bool.and_false]
theorem inW_ok {v : Int32} {n : Nat} (h1 : ¬ v < 0) (h2 : ¬ nI n ≤ v) : inW v n = true := by
  unfold inW
  rw [decide_eq_true (Int32.not_lt.mp h1), decide_eq_true (Int32.not_le.mp h2)]; rfl
def kindR (x : Sg) (pw : Int32) : Int32 := if inW pw (Sn x) = true then nI (SK x pw.toNatClampNeg) else (-1000001)
def windowR (x : Sg) (pw ph : Int32) : Int32 := if inW pw (Sn x) = true then
    (if ph = 0 then nI (SD x pw.toNatClampNeg) else if ph = 1 then nI (SP x pw.toNatClampNeg) else if ph = 2 then nI (SG x pw.toNatClampNeg) else if ph = 3 then bI ((So x).testBit pw.toNatClampNeg) else if ph = 4 then nI (SS x pw.toNatClampNeg) else if ph = 5 then bI (wouldF x pw.toNatClampNeg (dateF x)) else (-1000001)) else (-1000001)
def guessR (x : Sg) (pw : Int32) : Int32 := if inW pw (Sn x) = true then nI (andn (picsF x (allF x)) (SS x pw.toNatClampNeg)) else (-1000001)
def opensR (x : Sg) (pd : Int32) : Int32 := if Sn x = 0 then (-1000002) else if inI pd (nI 0) (nI 60) = true then nI (So (turnN x pd.toNatClampNeg)) else (-1000001)
def aheadR (x : Sg) (pw pd ph : Int32) : Int32 := if (inW pw (Sn x) && inI pd (nI 0) (nI 60) && inI ph (nI 0) (nI 1)) = true then (if ph = 0 then nI (SG (turnN x pd.toNatClampNeg) pw.toNatClampNeg) else nI (SS (turnN x pd.toNatClampNeg) pw.toNatClampNeg)) else (-1000001)
def spotsR (x : Sg) (pw pd : Int32) : Int32 := if (inW pw (Sn x) && inI pd (nI 0) (nI 9)) = true then idxI 61 (fstN 61 (seenP x pw.toNatClampNeg pd.toNatClampNeg)) else (-1000001)
set_option maxRecDepth 100000 in
set_option maxHeartbeats 4000000 in
theorem c_X7_found (l : Launch) (D : va_G) (cA : Nat → ClassId) (tt : Nat → Nat) (o orw otp oft oac oim olf : Nat) (a : Nat → Nat) (lf fi : Nat) (k : Nat)  (sz : Nat) : Ci l D cA tt yX7_found wsX7_found ({ frames := 0, cells := 0, slots := 0, locals := 0 } : Room) [.ref (o), .int (nI (k))] sz [(o, .inr (7, [.ref (orw), .ref (otp), .ref (a 0), .ref (oft), .ref (oac), .ref (oim), .ref (olf), .int (nI (lf)), .int (nI (fi))]))] [(o, .inr (7, [.ref (orw), .ref (otp), .ref (a 0), .ref (oft), .ref (oac), .ref (oim), .ref (olf), .int (nI (lf)), .int (nI (k))]))] ((-1000010) - nI k) := by
  refine Ci.mk (cc := cX7_found) (maxL := 2) (ty := .int) (by decide) rfl rfl (Nat.le_of_ble_eq_true rfl) ?_
  intro p e s m below meth c A Q ls hB hl hend
  obtain ⟨⟨hx, hb, hml, hown, hts⟩, hP, hK, hD, hS, hA, hE⟩ := hB
  have hown : s.vm.findClass RX7 = some m.cls := hown
  have hwsX70 : ∀ w9 ∈ wsX70, w9.before ([.ref (o), .int (nI (k))] : List Value).toArray s = true := fun w9 h => hts w9 (List.mem_cons_of_mem _ (List.mem_append_right _ h))
  have hl : lv_has ls 2 [(0, .ref (o)), (1, .int (nI (k)))] := hl
  refine lv_aload_n hx hb dX7_found_0 rfl (lv_at hl 0 rfl) ?_
  refine lv_iload_n hx hb dX7_found_1 rfl (lv_at hl 1 rfl) ?_
  refine va_put (v := .int (nI (k))) (ty := .int) (Ts := wsX70) (C := RX7) (T := TX7) (N := 9) hx hb hwsX70 (fun _ h => h) tyX7 tyX7_ok nmX7 hown hK hP hD hS 0 rfl rfl 8 (by decide) (hts (.fieldLink RX7 303 "AdventStreets" "latestFinding" "I") (List.mem_of_getElem? (i := 1) rfl)) (fun _ h9 => h9) rfl (tyX7_ok 8 (by decide)) rfl rfl (Nat.le_of_ble_eq_true rfl) dX7_found_2 (fun H locs hP hD hS => ?_)
  have hP : va_P D vwCl [(o, .inr (7, [.ref (orw), .ref (otp), .ref (a 0), .ref (oft), .ref (oac), .ref (oim), .ref (olf), .int (nI (lf)), .int (nI (k))]))] _ := hP
  have hD : va_D A [(o, .inr (7, [.ref (orw), .ref (otp), .ref (a 0), .ref (oft), .ref (oac), .ref (oim), .ref (olf), .int (nI (lf)), .int (nI (k))]))] := hD
  refine lv_ldcw (v := (-1000010)) hx hb hown (hts (.constant RX7 306 (-1000010)) (List.mem_of_getElem? (i := 2) rfl)) dX7_found_5 ?_
  refine lv_iload_n hx hb dX7_found_8 rfl (lv_at hl 1 rfl) ?_
  refine lv_isub hx hb dX7_found_9 ?_
  exact hend _ _ _ _ _ hP hD hS (rfl) dX7_found_10
set_option maxRecDepth 100000 in
set_option maxHeartbeats 4000000 in
theorem c_X7_unfound (l : Launch) (D : va_G) (cA : Nat → ClassId) (tt : Nat → Nat) (o orw otp oft oac oim olf : Nat) (a : Nat → Nat) (lf fi : Nat) (v : Int32)  (sz : Nat) : Ci l D cA tt yX7_unfound wsX7_unfound ({ frames := 0, cells := 0, slots := 0, locals := 0 } : Room) [.ref (o), .int (v)] sz [(o, .inr (7, [.ref (orw), .ref (otp), .ref (a 0), .ref (oft), .ref (oac), .ref (oim), .ref (olf), .int (nI (lf)), .int (nI (fi))]))] [(o, .inr (7, [.ref (orw), .ref (otp), .ref (a 0), .ref (oft), .ref (oac), .ref (oim), .ref (olf), .int (nI (lf)), .int (nI (0))]))] (v) := by
  refine Ci.mk (cc := cX7_unfound) (maxL := 2) (ty := .int) (by decide) rfl rfl (Nat.le_of_ble_eq_true rfl) ?_
  intro p e s m below meth c A Q ls hB hl hend
  obtain ⟨⟨hx, hb, hml, hown, hts⟩, hP, hK, hD, hS, hA, hE⟩ := hB
  have hown : s.vm.findClass RX7 = some m.cls := hown
  have hwsX70 : ∀ w9 ∈ wsX70, w9.before ([.ref (o), .int (v)] : List Value).toArray s = true := fun w9 h => hts w9 (List.mem_cons_of_mem _ (List.mem_append_right _ h))
  have hl : lv_has ls 2 [(0, .ref (o)), (1, .int (v))] := hl
  refine lv_aload_n hx hb dX7_unfound_0 rfl (lv_at hl 0 rfl) ?_
  refine lv_iconst (v := nI (0)) hx hb dX7_unfound_1 (by decide) ?_
  refine va_put (v := .int (nI (0))) (ty := .int) (Ts := wsX70) (C := RX7) (T := TX7) (N := 9) hx hb hwsX70 (fun _ h => h) tyX7 tyX7_ok nmX7 hown hK hP hD hS 0 rfl rfl 8 (by decide) (hts (.fieldLink RX7 303 "AdventStreets" "latestFinding" "I") (List.mem_of_getElem? (i := 1) rfl)) (fun _ h9 => h9) rfl (tyX7_ok 8 (by decide)) rfl rfl (Nat.le_of_ble_eq_true rfl) dX7_unfound_2 (fun H locs hP hD hS => ?_)
  have hP : va_P D vwCl [(o, .inr (7, [.ref (orw), .ref (otp), .ref (a 0), .ref (oft), .ref (oac), .ref (oim), .ref (olf), .int (nI (lf)), .int (nI (0))]))] _ := hP
  have hD : va_D A [(o, .inr (7, [.ref (orw), .ref (otp), .ref (a 0), .ref (oft), .ref (oac), .ref (oim), .ref (olf), .int (nI (lf)), .int (nI (0))]))] := hD
  refine lv_iload_n hx hb dX7_unfound_5 rfl (lv_at hl 1 rfl) ?_
  exact hend _ _ _ _ _ hP hD hS (rfl) dX7_unfound_6
set_option maxRecDepth 100000 in
set_option maxHeartbeats 4000000 in
theorem c_X7_isStreetless (l : Launch) (D : va_G) (cA : Nat → ClassId) (tt : Nat → Nat) (o orw otp oft oac oim olf : Nat) (a : Nat → Nat) (lf fi : Nat) (x : Sg) (hg : Wk x) (sz : Nat) : Ci l D cA tt yX7_isStreetless wsX7_isStreetless ({ frames := 0, cells := 0, slots := 0, locals := 0 } : Room) [.ref (o)] sz ([(o, .inr (7, [.ref (orw), .ref (otp), .ref (a 0), .ref (oft), .ref (oac), .ref (oim), .ref (olf), .int (nI (lf)), .int (nI (fi))]))] ++ stW cA a x) ([(o, .inr (7, [.ref (orw), .ref (otp), .ref (a 0), .ref (oft), .ref (oac), .ref (oim), .ref (olf), .int (nI (lf)), .int (nI (fi))]))] ++ stW cA a x) (bI (decide (Sn x = 0))) := by
  obtain ⟨gn, ge, gv, go, ga⟩ := id hg
  refine Ci.mk (cc := cX7_isStreetless) (maxL := 1) (ty := .boolean) (by decide) rfl (bI_n _) (Nat.le_of_ble_eq_true rfl) ?_
  intro p e s m below meth c A Q ls hB hl hend
  obtain ⟨⟨hx, hb, hml, hown, hts⟩, hP, hK, hD, hS, hA, hE⟩ := hB
  have hown : s.vm.findClass RX7 = some m.cls := hown
  have hwsX70 : ∀ w9 ∈ wsX70, w9.before ([.ref (o)] : List Value).toArray s = true := fun w9 h => hts w9 (List.mem_cons_of_mem _ (List.mem_append_left _ (List.mem_append_right _ h)))
  have hwsX40 : ∀ w9 ∈ wsX40, w9.before ([.ref (o)] : List Value).toArray s = true := fun w9 h => hts w9 (List.mem_cons_of_mem _ (List.mem_append_right _ h))
  have hl : lv_has ls 1 [(0, .ref (o))] := hl
  refine lv_aload_n hx hb dX7_isStreetless_0 rfl (lv_at hl 0 rfl) ?_
  refine va_get (v := .ref (a 0)) (Ts := wsX70) (C := RX7) (T := TX7) (N := 9) hx hb hwsX70 (fun _ h => h) hown hK hP 0 rfl rfl 2 (by decide) (hts (.fieldLink RX7 26 "AdventStreets" "now" "LAdventStreets$Street;") (List.mem_of_getElem? (i := 1) rfl)) (fun _ h9 => h9) rfl dX7_isStreetless_1 ?_
  refine va_getN (v := .int (nI (Sn x))) (Ts := wsX40) (C := RX4) (T := TX4) (N := 10) hx hb hwsX40 (fun _ h => h) hown hK hP 1 rfl rfl 5 (by decide) (hE.1.f (q := ("AdventStreets", 140, "AdventStreets$Street", "windows", "I")) 18 rfl) (fun _ h9 => h9) rfl dX7_isStreetless_4 ?_
  refine lv_if_ne (tgt := 14) hx hb dX7_isStreetless_7 (by decide) (fun c1 => ?_) (fun c1 => ?_)
  · skip
    rw [n_z (by omega)] at c1
    refine lv_iconst (v := nI (0)) hx hb dX7_isStreetless_14 (by decide) ?_
    exact hend _ _ _ _ _ hP hD hS (zero_bI (decide_eq_false c1)) dX7_isStreetless_15
  · skip
    rw [n_z (by omega)] at c1
    refine lv_iconst (v := nI (1)) hx hb dX7_isStreetless_10 (by decide) ?_
    refine lv_goto (tgt := 15) hx hb dX7_isStreetless_11 (by decide) ?_
    exact hend _ _ _ _ _ hP hD hS (one_bI (decide_eq_true c1)) dX7_isStreetless_15
set_option maxRecDepth 100000 in
set_option maxHeartbeats 4000000 in
theorem c_X7_isWindow (l : Launch) (D : va_G) (cA : Nat → ClassId) (tt : Nat → Nat) (o orw otp oft oac oim olf : Nat) (a : Nat → Nat) (lf fi : Nat) (x : Sg) (pw : Int32) (hg : Wk x) (sz : Nat) : Ci l D cA tt yX7_isWindow wsX7_isWindow ({ frames := 0, cells := 0, slots := 0, locals := 0 } : Room) [.ref (o), .int (pw)] sz ([(o, .inr (7, [.ref (orw), .ref (otp), .ref (a 0), .ref (oft), .ref (oac), .ref (oim), .ref (olf), .int (nI (lf)), .int (nI (fi))]))] ++ stW cA a x) ([(o, .inr (7, [.ref (orw), .ref (otp), .ref (a 0), .ref (oft), .ref (oac), .ref (oim), .ref (olf), .int (nI (lf)), .int (nI (fi))]))] ++ stW cA a x) (bI (inW pw (Sn x))) := by
  obtain ⟨gn, ge, gv, go, ga⟩ := id hg
  refine Ci.mk (cc := cX7_isWindow) (maxL := 2) (ty := .boolean) (by decide) rfl (bI_n _) (Nat.le_of_ble_eq_true rfl) ?_
  intro p e s m below meth c A Q ls hB hl hend
  obtain ⟨⟨hx, hb, hml, hown, hts⟩, hP, hK, hD, hS, hA, hE⟩ := hB
  have hown : s.vm.findClass RX7 = some m.cls := hown
  have hwsX70 : ∀ w9 ∈ wsX70, w9.before ([.ref (o), .int (pw)] : List Value).toArray s = true := fun w9 h => hts w9 (List.mem_cons_of_mem _ (List.mem_append_left _ (List.mem_append_right _ h)))
  have hwsX40 : ∀ w9 ∈ wsX40, w9.before ([.ref (o), .int (pw)] : List Value).toArray s = true := fun w9 h => hts w9 (List.mem_cons_of_mem _ (List.mem_append_right _ h))
  have hl : lv_has ls 2 [(0, .ref (o)), (1, .int (pw))] := hl
  refine lv_iload_n hx hb dX7_isWindow_0 rfl (lv_at hl 1 rfl) ?_
  refine lv_if_lt (tgt := 19) hx hb dX7_isWindow_1 (by decide) (fun c1 => ?_) (fun c1 => ?_)
  · skip
    refine lv_iconst (v := nI (0)) hx hb dX7_isWindow_19 (by decide) ?_
    exact hend _ _ _ _ _ hP hD hS (zero_bI (inW_lo c1)) dX7_isWindow_20
  · skip
    refine lv_iload_n hx hb dX7_isWindow_4 rfl (lv_at hl 1 rfl) ?_
    refine lv_aload_n hx hb dX7_isWindow_5 rfl (lv_at hl 0 rfl) ?_
    refine va_get (v := .ref (a 0)) (Ts := wsX70) (C := RX7) (T := TX7) (N := 9) hx hb hwsX70 (fun _ h => h) hown hK hP 0 rfl rfl 2 (by decide) (hts (.fieldLink RX7 26 "AdventStreets" "now" "LAdventStreets$Street;") (List.mem_of_getElem? (i := 1) rfl)) (fun _ h9 => h9) rfl dX7_isWindow_6 ?_
    refine va_getN (v := .int (nI (Sn x))) (Ts := wsX40) (C := RX4) (T := TX4) (N := 10) hx hb hwsX40 (fun _ h => h) hown hK hP 1 rfl rfl 5 (by decide) (hE.1.f (q := ("AdventStreets", 140, "AdventStreets$Street", "windows", "I")) 18 rfl) (fun _ h9 => h9) rfl dX7_isWindow_9 ?_
    refine lv_icmp_ge (tgt := 19) hx hb dX7_isWindow_12 (by decide) (fun c2 => ?_) (fun c2 => ?_)
    · skip
      refine lv_iconst (v := nI (0)) hx hb dX7_isWindow_19 (by decide) ?_
      exact hend _ _ _ _ _ hP hD hS (zero_bI (inW_hi c2)) dX7_isWindow_20
    · skip
      refine lv_iconst (v := nI (1)) hx hb dX7_isWindow_15 (by decide) ?_
      refine lv_goto (tgt := 20) hx hb dX7_isWindow_16 (by decide) ?_
      exact hend _ _ _ _ _ hP hD hS (one_bI (inW_ok c1 c2)) dX7_isWindow_20
set_option maxRecDepth 100000 in
set_option maxHeartbeats 4000000 in
theorem c_X7_fault (l : Launch) (D : va_G) (cA : Nat → ClassId) (tt : Nat → Nat) (o orw otp oft oac oim olf : Nat) (a : Nat → Nat) (lf fi : Nat)  (sz : Nat) : Ci l D cA tt yX7_fault wsX7_fault ({ frames := 0, cells := 0, slots := 0, locals := 0 } : Room) [.ref (o)] sz [(o, .inr (7, [.ref (orw), .ref (otp), .ref (a 0), .ref (oft), .ref (oac), .ref (oim), .ref (olf), .int (nI (lf)), .int (nI (fi))]))] [(o, .inr (7, [.ref (orw), .ref (otp), .ref (a 0), .ref (oft), .ref (oac), .ref (oim), .ref (olf), .int (nI (lf)), .int (nI (fi))]))] (nI (lf)) := by
  refine Ci.mk (cc := cX7_fault) (maxL := 1) (ty := .int) (by decide) rfl rfl (Nat.le_of_ble_eq_true rfl) ?_
  intro p e s m below meth c A Q ls hB hl hend
  obtain ⟨⟨hx, hb, hml, hown, hts⟩, hP, hK, hD, hS, hA, hE⟩ := hB
  have hown : s.vm.findClass RX7 = some m.cls := hown
  have hwsX70 : ∀ w9 ∈ wsX70, w9.before ([.ref (o)] : List Value).toArray s = true := fun w9 h => hts w9 (List.mem_cons_of_mem _ (List.mem_append_right _ h))
  have hl : lv_has ls 1 [(0, .ref (o))] := hl
  refine lv_aload_n hx hb dX7_fault_0 rfl (lv_at hl 0 rfl) ?_
  refine va_get (v := .int (nI (lf))) (Ts := wsX70) (C := RX7) (T := TX7) (N := 9) hx hb hwsX70 (fun _ h => h) hown hK hP 0 rfl rfl 7 (by decide) (hts (.fieldLink RX7 126 "AdventStreets" "latestFault" "I") (List.mem_of_getElem? (i := 1) rfl)) (fun _ h9 => h9) rfl dX7_fault_1 ?_
  exact hend _ _ _ _ _ hP hD hS (rfl) dX7_fault_4
set_option maxRecDepth 100000 in
set_option maxHeartbeats 4000000 in
theorem c_X7_status (l : Launch) (D : va_G) (cA : Nat → ClassId) (tt : Nat → Nat) (o orw otp oft oac oim olf : Nat) (a : Nat → Nat) (lf fi : Nat)  (sz : Nat) : Ci l D cA tt yX7_status wsX7_status ({ frames := 0, cells := 0, slots := 0, locals := 0 } : Room) [.ref (o)] sz [(o, .inr (7, [.ref (orw), .ref (otp), .ref (a 0), .ref (oft), .ref (oac), .ref (oim), .ref (olf), .int (nI (lf)), .int (nI (fi))]))] [(o, .inr (7, [.ref (orw), .ref (otp), .ref (a 0), .ref (oft), .ref (oac), .ref (oim), .ref (olf), .int (nI (lf)), .int (nI (fi))]))] (nI (fi)) := by
  refine Ci.mk (cc := cX7_status) (maxL := 1) (ty := .int) (by decide) rfl rfl (Nat.le_of_ble_eq_true rfl) ?_
  intro p e s m below meth c A Q ls hB hl hend
  obtain ⟨⟨hx, hb, hml, hown, hts⟩, hP, hK, hD, hS, hA, hE⟩ := hB
  have hown : s.vm.findClass RX7 = some m.cls := hown
  have hwsX70 : ∀ w9 ∈ wsX70, w9.before ([.ref (o)] : List Value).toArray s = true := fun w9 h => hts w9 (List.mem_cons_of_mem _ (List.mem_append_right _ h))
  have hl : lv_has ls 1 [(0, .ref (o))] := hl
  refine lv_aload_n hx hb dX7_status_0 rfl (lv_at hl 0 rfl) ?_
  refine va_get (v := .int (nI (fi))) (Ts := wsX70) (C := RX7) (T := TX7) (N := 9) hx hb hwsX70 (fun _ h => h) hown hK hP 0 rfl rfl 8 (by decide) (hts (.fieldLink RX7 303 "AdventStreets" "latestFinding" "I") (List.mem_of_getElem? (i := 1) rfl)) (fun _ h9 => h9) rfl dX7_status_1 ?_
  exact hend _ _ _ _ _ hP hD hS (rfl) dX7_status_4
set_option maxRecDepth 100000 in
set_option maxHeartbeats 4000000 in
theorem c_X7_kind (l : Launch) (D : va_G) (cA : Nat → ClassId) (tt : Nat → Nat) (o orw otp oft oac oim olf : Nat) (a : Nat → Nat) (lf fi : Nat) (x : Sg) (pw : Int32) (hg : Wk x) (sz : Nat) : Ci l D cA tt yX7_kind wsX7_kind ({ frames := 1, cells := 0, slots := 0, locals := 21 } : Room) [.ref (o), .int (pw)] sz ([(o, .inr (7, [.ref (orw), .ref (otp), .ref (a 0), .ref (oft), .ref (oac), .ref (oim), .ref (olf), .int (nI (lf)), .int (nI (fi))]))] ++ stW cA a x) ([(o, .inr (7, [.ref (orw), .ref (otp), .ref (a 0), .ref (oft), .ref (oac), .ref (oim), .ref (olf), .int (nI (lf)), .int (nI (fi))]))] ++ stW cA a x) (kindR x pw) := by
  obtain ⟨gn, ge, gv, go, ga⟩ := id hg
  refine Ci.mk (cc := cX7_kind) (maxL := 2) (ty := .int) (by decide) rfl rfl (Nat.le_of_ble_eq_true rfl) ?_
  intro p e s m below meth c A Q ls hB hl hend
  obtain ⟨⟨hx, hb, hml, hown, hts⟩, hP, hK, hD, hS, hA, hE⟩ := hB
  have hown : s.vm.findClass RX7 = some m.cls := hown
  have hwsX70 : ∀ w9 ∈ wsX70, w9.before ([.ref (o), .int (pw)] : List Value).toArray s = true := fun w9 h => hts w9 (List.mem_cons_of_mem _ (List.mem_append_left _ (List.mem_append_right _ h)))
  have hwsX40 : ∀ w9 ∈ wsX40, w9.before ([.ref (o), .int (pw)] : List Value).toArray s = true := fun w9 h => hts w9 (List.mem_cons_of_mem _ (List.mem_append_right _ h))
  have hl : lv_has ls 2 [(0, .ref (o)), (1, .int (pw))] := hl
  refine lv_aload_n hx hb dX7_kind_0 rfl (lv_at hl 0 rfl) ?_
  refine lv_iload_n hx hb dX7_kind_1 rfl (lv_at hl 1 rfl) ?_
  refine cVi (n := 1) (As := [.int (pw)]) (rest := []) (C := RX7) (ci := 7) (q0 := 0) (X := ([(o, .inr (7, [.ref (orw), .ref (otp), .ref (a 0), .ref (oft), .ref (oac), .ref (oim), .ref (olf), .int (nI (lf)), .int (nI (fi))]))] ++ stW cA a x)) (pl := []) (wc := ([(o, .inr (7, [.ref (orw), .ref (otp), .ref (a 0), .ref (oft), .ref (oac), .ref (oim), .ref (olf), .int (nI (lf)), .int (nI (fi))]))] ++ stW cA a x)) (wr := ([] : va_W)) (w1 := ([(o, .inr (7, [.ref (orw), .ref (otp), .ref (a 0), .ref (oft), .ref (oac), .ref (oim), .ref (olf), .int (nI (lf)), .int (nI (fi))]))] ++ stW cA a x)) (wn := ([(o, .inr (7, [.ref (orw), .ref (otp), .ref (a 0), .ref (oft), .ref (oac), .ref (oim), .ref (olf), .int (nI (lf)), .int (nI (fi))]))] ++ stW cA a x)) (isC := [0, 1, 2, 3, 4, 5, 6]) (isR := []) (isN := [0, 1, 2, 3, 4, 5, 6]) ⟨hx, hb, hml, hown, hts⟩ (c_X7_isWindow l D cA tt o orw otp oft oac oim olf a lf fi x pw (hg) _) gX7_kind_X7_isWindow rfl (by decide +kernel) rfl rfl ⟨rfl, rfl⟩ ⟨Nat.le_of_ble_eq_true rfl, Nat.le_of_ble_eq_true rfl⟩ ⟨Nat.zero_le _, Nat.zero_le _⟩ hK hE hA hP hD hS ⟨⟨rfl, by decide⟩, ⟨rfl, by decide, by decide⟩, rfl, by decide⟩ rfl hl.1 rfl (Nat.le_of_ble_eq_true rfl) dX7_kind_2 (fun H locs hP hD hS => ?_)
  have hP : va_P D vwCl ([(o, .inr (7, [.ref (orw), .ref (otp), .ref (a 0), .ref (oft), .ref (oac), .ref (oim), .ref (olf), .int (nI (lf)), .int (nI (fi))]))] ++ stW cA a x) _ := hP
  have hD : va_D A ([(o, .inr (7, [.ref (orw), .ref (otp), .ref (a 0), .ref (oft), .ref (oac), .ref (oim), .ref (olf), .int (nI (lf)), .int (nI (fi))]))] ++ stW cA a x) := hD
  refine lv_if_eq (tgt := 20) hx hb dX7_kind_5 (by decide) (fun c1 => ?_) (fun c1 => ?_)
  · skip
    rw [bI_z] at c1
    refine lv_ldc (v := (-1000001)) hx hb hown (hts (.constant RX7 63 (-1000001)) (List.mem_of_getElem? (i := 2) rfl)) dX7_kind_20 ?_
    exact hend _ _ _ _ _ hP hD hS (by unfold kindR; rw [if_neg (by simp [c1])]) dX7_kind_22
  · skip
    rw [bI_nz] at c1
    obtain ⟨w, e_w, l_w⟩ := inW_t (by omega) c1
    rw [e_w] at hl
    refine lv_aload_n hx hb dX7_kind_8 rfl (lv_at hl 0 rfl) ?_
    refine va_get (v := .ref (a 0)) (Ts := wsX70) (C := RX7) (T := TX7) (N := 9) hx hb hwsX70 (fun _ h => h) hown hK hP 0 rfl rfl 2 (by decide) (hts (.fieldLink RX7 26 "AdventStreets" "now" "LAdventStreets$Street;") (List.mem_of_getElem? (i := 1) rfl)) (fun _ h9 => h9) rfl dX7_kind_9 ?_
    refine va_getN (v := .ref (a 1)) (Ts := wsX40) (C := RX4) (T := TX4) (N := 10) hx hb hwsX40 (fun _ h => h) hown hK hP 1 rfl rfl 0 (by decide) (hE.1.f (q := ("AdventStreets", 280, "AdventStreets$Street", "kinds", "[I")) 9 rfl) (fun _ h9 => h9) rfl dX7_kind_12 ?_
    refine lv_iload_n hx hb dX7_kind_15 rfl (lv_at hl 1 rfl) ?_
    refine r_ald (f := SK x) hx hb hK hP 2 rfl (i := w) (by omega) (Nat.lt_of_lt_of_le (by omega : 10 < 1073741824) (by decide)) dX7_kind_16 ?_
    refine lv_goto (tgt := 22) hx hb dX7_kind_17 (by decide) ?_
    exact hend _ _ _ _ _ hP hD hS (by unfold kindR; rw [if_pos c1, e_w, nI_clamp (n := w) (by omega)]) dX7_kind_22
set_option maxRecDepth 100000 in
set_option maxHeartbeats 4000000 in
theorem c_X7_window (l : Launch) (D : va_G) (cA : Nat → ClassId) (tt : Nat → Nat) (o orw otp oft oac oim olf : Nat) (a : Nat → Nat) (lf fi : Nat) (x : Sg) (pw ph : Int32) (hg : Wk x) (ht : St x + 61 < 1073741824) (sz : Nat) : Ci l D cA tt yX7_window wsX7_window ({ frames := 1, cells := 0, slots := 0, locals := 24 } : Room) [.ref (o), .int (pw), .int (ph)] sz ([(o, .inr (7, [.ref (orw), .ref (otp), .ref (a 0), .ref (oft), .ref (oac), .ref (oim), .ref (olf), .int (nI (lf)), .int (nI (fi))]))] ++ stW cA a x) ([(o, .inr (7, [.ref (orw), .ref (otp), .ref (a 0), .ref (oft), .ref (oac), .ref (oim), .ref (olf), .int (nI (lf)), .int (nI (fi))]))] ++ stW cA a x) (windowR x pw ph) := by
  obtain ⟨gn, ge, gv, go, ga⟩ := id hg
  refine Ci.mk (cc := cX7_window) (maxL := 3) (ty := .int) (by decide) rfl rfl (Nat.le_of_ble_eq_true rfl) ?_
  intro p e s m below meth c A Q ls hB hl hend
  obtain ⟨⟨hx, hb, hml, hown, hts⟩, hP, hK, hD, hS, hA, hE⟩ := hB
  have hown : s.vm.findClass RX7 = some m.cls := hown
  have hwsX70 : ∀ w9 ∈ wsX70, w9.before ([.ref (o), .int (pw), .int (ph)] : List Value).toArray s = true := fun w9 h => hts w9 (List.mem_cons_of_mem _ (List.mem_append_left _ (List.mem_append_right _ h)))
  have hwsX40 : ∀ w9 ∈ wsX40, w9.before ([.ref (o), .int (pw), .int (ph)] : List Value).toArray s = true := fun w9 h => hts w9 (List.mem_cons_of_mem _ (List.mem_append_right _ h))
  have hl : lv_has ls 3 [(0, .ref (o)), (1, .int (pw)), (2, .int (ph))] := hl
  refine lv_aload_n hx hb dX7_window_0 rfl (lv_at hl 0 rfl) ?_
  refine lv_iload_n hx hb dX7_window_1 rfl (lv_at hl 1 rfl) ?_
  refine cVi (n := 1) (As := [.int (pw)]) (rest := []) (C := RX7) (ci := 7) (q0 := 0) (X := ([(o, .inr (7, [.ref (orw), .ref (otp), .ref (a 0), .ref (oft), .ref (oac), .ref (oim), .ref (olf), .int (nI (lf)), .int (nI (fi))]))] ++ stW cA a x)) (pl := []) (wc := ([(o, .inr (7, [.ref (orw), .ref (otp), .ref (a 0), .ref (oft), .ref (oac), .ref (oim), .ref (olf), .int (nI (lf)), .int (nI (fi))]))] ++ stW cA a x)) (wr := ([] : va_W)) (w1 := ([(o, .inr (7, [.ref (orw), .ref (otp), .ref (a 0), .ref (oft), .ref (oac), .ref (oim), .ref (olf), .int (nI (lf)), .int (nI (fi))]))] ++ stW cA a x)) (wn := ([(o, .inr (7, [.ref (orw), .ref (otp), .ref (a 0), .ref (oft), .ref (oac), .ref (oim), .ref (olf), .int (nI (lf)), .int (nI (fi))]))] ++ stW cA a x)) (isC := [0, 1, 2, 3, 4, 5, 6]) (isR := []) (isN := [0, 1, 2, 3, 4, 5, 6]) ⟨hx, hb, hml, hown, hts⟩ (c_X7_isWindow l D cA tt o orw otp oft oac oim olf a lf fi x pw (hg) _) gX7_window_X7_isWindow rfl (by decide +kernel) rfl rfl ⟨rfl, rfl⟩ ⟨Nat.le_of_ble_eq_true rfl, Nat.le_of_ble_eq_true rfl⟩ ⟨Nat.zero_le _, Nat.zero_le _⟩ hK hE hA hP hD hS ⟨⟨rfl, by decide⟩, ⟨rfl, by decide, by decide⟩, rfl, by decide⟩ rfl hl.1 rfl (Nat.le_of_ble_eq_true rfl) dX7_window_2 (fun H locs hP hD hS => ?_)
  have hP : va_P D vwCl ([(o, .inr (7, [.ref (orw), .ref (otp), .ref (a 0), .ref (oft), .ref (oac), .ref (oim), .ref (olf), .int (nI (lf)), .int (nI (fi))]))] ++ stW cA a x) _ := hP
  have hD : va_D A ([(o, .inr (7, [.ref (orw), .ref (otp), .ref (a 0), .ref (oft), .ref (oac), .ref (oim), .ref (olf), .int (nI (lf)), .int (nI (fi))]))] ++ stW cA a x) := hD
  refine lv_if_ne (tgt := 11) hx hb dX7_window_5 (by decide) (fun c1 => ?_) (fun c1 => ?_)
  · skip
    rw [bI_nz] at c1
    obtain ⟨w, e_w, l_w⟩ := inW_t (by omega) c1
    rw [e_w] at hl
    refine lv_iload_n hx hb dX7_window_11 rfl (lv_at hl 2 rfl) ?_
    by_cases c2 : ph = (0 : Int32)
    · skip
      have ti12 : (ph).toInt = 0 := by rw [c2]; rfl
      refine lv_tableIn (off := 40) (tgt := 52) hx hb dX7_window_12 (by rw [ti12]; decide) (by rw [ti12]; decide) (by rw [ti12]; rfl) (by decide) ?_
      refine lv_aload_n hx hb dX7_window_52 rfl (lv_at hl 0 rfl) ?_
      refine va_get (v := .ref (a 0)) (Ts := wsX70) (C := RX7) (T := TX7) (N := 9) hx hb hwsX70 (fun _ h => h) hown hK hP 0 rfl rfl 2 (by decide) (hts (.fieldLink RX7 26 "AdventStreets" "now" "LAdventStreets$Street;") (List.mem_of_getElem? (i := 2) rfl)) (fun _ h9 => h9) rfl dX7_window_53 ?_
      refine va_getN (v := .ref (a 2)) (Ts := wsX40) (C := RX4) (T := TX4) (N := 10) hx hb hwsX40 (fun _ h => h) hown hK hP 1 rfl rfl 1 (by decide) (hE.1.f (q := ("AdventStreets", 182, "AdventStreets$Street", "days", "[I")) 11 rfl) (fun _ h9 => h9) rfl dX7_window_56 ?_
      refine lv_iload_n hx hb dX7_window_59 rfl (lv_at hl 1 rfl) ?_
      refine r_ald (f := SD x) hx hb hK hP 3 rfl (i := w) (by omega) (Nat.lt_of_lt_of_le (by omega : 10 < 1073741824) (by decide)) dX7_window_60 ?_
      exact hend _ _ _ _ _ hP hD hS (by unfold windowR; rw [if_pos c1, e_w, nI_clamp (n := w) (by omega)]; simp [c2, show ¬ (0 : Int32) = 1 by decide, show ¬ (0 : Int32) = 2 by decide, show ¬ (0 : Int32) = 3 by decide, show ¬ (0 : Int32) = 4 by decide, show ¬ (0 : Int32) = 5 by decide]) dX7_window_61
    by_cases c3 : ph = (1 : Int32)
    · skip
      have ti12 : (ph).toInt = 1 := by rw [c3]; rfl
      refine lv_tableIn (off := 50) (tgt := 62) hx hb dX7_window_12 (by rw [ti12]; decide) (by rw [ti12]; decide) (by rw [ti12]; rfl) (by decide) ?_
      refine lv_aload_n hx hb dX7_window_62 rfl (lv_at hl 0 rfl) ?_
      refine va_get (v := .ref (a 0)) (Ts := wsX70) (C := RX7) (T := TX7) (N := 9) hx hb hwsX70 (fun _ h => h) hown hK hP 0 rfl rfl 2 (by decide) (hts (.fieldLink RX7 26 "AdventStreets" "now" "LAdventStreets$Street;") (List.mem_of_getElem? (i := 2) rfl)) (fun _ h9 => h9) rfl dX7_window_63 ?_
      refine va_getN (v := .ref (a 3)) (Ts := wsX40) (C := RX4) (T := TX4) (N := 10) hx hb hwsX40 (fun _ h => h) hown hK hP 1 rfl rfl 2 (by decide) (hE.1.f (q := ("AdventStreets", 166, "AdventStreets$Street", "pictures", "[I")) 12 rfl) (fun _ h9 => h9) rfl dX7_window_66 ?_
      refine lv_iload_n hx hb dX7_window_69 rfl (lv_at hl 1 rfl) ?_
      refine r_ald (f := SP x) hx hb hK hP 4 rfl (i := w) (by omega) (Nat.lt_of_lt_of_le (by omega : 10 < 1073741824) (by decide)) dX7_window_70 ?_
      exact hend _ _ _ _ _ hP hD hS (by unfold windowR; rw [if_pos c1, e_w, nI_clamp (n := w) (by omega)]; simp [c2, c3, show ¬ (1 : Int32) = 0 by decide, show ¬ (1 : Int32) = 2 by decide, show ¬ (1 : Int32) = 3 by decide, show ¬ (1 : Int32) = 4 by decide, show ¬ (1 : Int32) = 5 by decide]) dX7_window_71
    by_cases c4 : ph = (2 : Int32)
    · skip
      have ti12 : (ph).toInt = 2 := by rw [c4]; rfl
      refine lv_tableIn (off := 60) (tgt := 72) hx hb dX7_window_12 (by rw [ti12]; decide) (by rw [ti12]; decide) (by rw [ti12]; rfl) (by decide) ?_
      refine lv_aload_n hx hb dX7_window_72 rfl (lv_at hl 0 rfl) ?_
      refine va_get (v := .ref (a 0)) (Ts := wsX70) (C := RX7) (T := TX7) (N := 9) hx hb hwsX70 (fun _ h => h) hown hK hP 0 rfl rfl 2 (by decide) (hts (.fieldLink RX7 26 "AdventStreets" "now" "LAdventStreets$Street;") (List.mem_of_getElem? (i := 2) rfl)) (fun _ h9 => h9) rfl dX7_window_73 ?_
      refine va_getN (v := .ref (a 4)) (Ts := wsX40) (C := RX4) (T := TX4) (N := 10) hx hb hwsX40 (fun _ h => h) hown hK hP 1 rfl rfl 3 (by decide) (hE.1.f (q := ("AdventStreets", 169, "AdventStreets$Street", "glues", "[I")) 14 rfl) (fun _ h9 => h9) rfl dX7_window_76 ?_
      refine lv_iload_n hx hb dX7_window_79 rfl (lv_at hl 1 rfl) ?_
      refine r_ald (f := SG x) hx hb hK hP 5 rfl (i := w) (by omega) (Nat.lt_of_lt_of_le (by omega : 10 < 1073741824) (by decide)) dX7_window_80 ?_
      exact hend _ _ _ _ _ hP hD hS (by unfold windowR; rw [if_pos c1, e_w, nI_clamp (n := w) (by omega)]; simp [c2, c3, c4, show ¬ (2 : Int32) = 0 by decide, show ¬ (2 : Int32) = 1 by decide, show ¬ (2 : Int32) = 3 by decide, show ¬ (2 : Int32) = 4 by decide, show ¬ (2 : Int32) = 5 by decide]) dX7_window_81
    by_cases c5 : ph = (3 : Int32)
    · skip
      have ti12 : (ph).toInt = 3 := by rw [c5]; rfl
      refine lv_tableIn (off := 70) (tgt := 82) hx hb dX7_window_12 (by rw [ti12]; decide) (by rw [ti12]; decide) (by rw [ti12]; rfl) (by decide) ?_
      refine lv_aload_n hx hb dX7_window_82 rfl (lv_at hl 0 rfl) ?_
      refine va_get (v := .ref (a 0)) (Ts := wsX70) (C := RX7) (T := TX7) (N := 9) hx hb hwsX70 (fun _ h => h) hown hK hP 0 rfl rfl 2 (by decide) (hts (.fieldLink RX7 26 "AdventStreets" "now" "LAdventStreets$Street;") (List.mem_of_getElem? (i := 2) rfl)) (fun _ h9 => h9) rfl dX7_window_83 ?_
      refine lv_iload_n hx hb dX7_window_86 rfl (lv_at hl 1 rfl) ?_
      refine cVi (n := 1) (As := [.int (nI (w))]) (rest := []) (C := RX4) (ci := 4) (q0 := 0) (X := ([(o, .inr (7, [.ref (orw), .ref (otp), .ref (a 0), .ref (oft), .ref (oac), .ref (oim), .ref (olf), .int (nI (lf)), .int (nI (fi))]))] ++ stW cA a x)) (pl := []) (wc := (stW cA a x)) (wr := [(o, .inr (7, [.ref (orw), .ref (otp), .ref (a 0), .ref (oft), .ref (oac), .ref (oim), .ref (olf), .int (nI (lf)), .int (nI (fi))]))]) (w1 := (stW cA a x)) (wn := ([(o, .inr (7, [.ref (orw), .ref (otp), .ref (a 0), .ref (oft), .ref (oac), .ref (oim), .ref (olf), .int (nI (lf)), .int (nI (fi))]))] ++ stW cA a x)) (isC := [1, 2, 3, 4, 5, 6]) (isR := [0]) (isN := [0, 1, 2, 3, 4, 5, 6]) ⟨hx, hb, hml, hown, hts⟩ (c_X4_isOpen l D cA tt a x w (hg) (by omega) _) gX7_window_X4_isOpen rfl (by decide +kernel) rfl rfl ⟨rfl, rfl⟩ ⟨Nat.le_of_ble_eq_true rfl, Nat.le_of_ble_eq_true rfl⟩ ⟨Nat.zero_le _, Nat.zero_le _⟩ hK hE hA hP hD hS ⟨⟨rfl, by decide⟩, ⟨rfl, by decide, by decide⟩, rfl, by decide⟩ rfl hl.1 rfl (Nat.le_of_ble_eq_true rfl) dX7_window_87 (fun H locs hP hD hS => ?_)
      have hP : va_P D vwCl ([(o, .inr (7, [.ref (orw), .ref (otp), .ref (a 0), .ref (oft), .ref (oac), .ref (oim), .ref (olf), .int (nI (lf)), .int (nI (fi))]))] ++ stW cA a x) _ := hP
      have hD : va_D A ([(o, .inr (7, [.ref (orw), .ref (otp), .ref (a 0), .ref (oft), .ref (oac), .ref (oim), .ref (olf), .int (nI (lf)), .int (nI (fi))]))] ++ stW cA a x) := hD
      refine lv_if_eq (tgt := 97) hx hb dX7_window_90 (by decide) (fun c6 => ?_) (fun c6 => ?_)
      · skip
        rw [bI_z] at c6
        refine lv_iconst (v := nI (0)) hx hb dX7_window_97 (by decide) ?_
        exact hend _ _ _ _ _ hP hD hS (by unfold windowR; rw [if_pos c1, e_w, nI_clamp (n := w) (by omega)]; simp [c2, c3, c4, c5, c6]; rfl) dX7_window_98
      · skip
        rw [bI_nz] at c6
        refine lv_iconst (v := nI (1)) hx hb dX7_window_93 (by decide) ?_
        refine lv_goto (tgt := 98) hx hb dX7_window_94 (by decide) ?_
        exact hend _ _ _ _ _ hP hD hS (by unfold windowR; rw [if_pos c1, e_w, nI_clamp (n := w) (by omega)]; simp [c2, c3, c4, c5, c6]; rfl) dX7_window_98
    by_cases c7 : ph = (4 : Int32)
    · skip
      have ti12 : (ph).toInt = 4 := by rw [c7]; rfl
      refine lv_tableIn (off := 87) (tgt := 99) hx hb dX7_window_12 (by rw [ti12]; decide) (by rw [ti12]; decide) (by rw [ti12]; rfl) (by decide) ?_
      refine lv_aload_n hx hb dX7_window_99 rfl (lv_at hl 0 rfl) ?_
      refine va_get (v := .ref (a 0)) (Ts := wsX70) (C := RX7) (T := TX7) (N := 9) hx hb hwsX70 (fun _ h => h) hown hK hP 0 rfl rfl 2 (by decide) (hts (.fieldLink RX7 26 "AdventStreets" "now" "LAdventStreets$Street;") (List.mem_of_getElem? (i := 2) rfl)) (fun _ h9 => h9) rfl dX7_window_100 ?_
      refine va_getN (v := .ref (a 5)) (Ts := wsX40) (C := RX4) (T := TX4) (N := 10) hx hb hwsX40 (fun _ h => h) hown hK hP 1 rfl rfl 4 (by decide) (hE.1.f (q := ("AdventStreets", 195, "AdventStreets$Street", "seen", "[I")) 16 rfl) (fun _ h9 => h9) rfl dX7_window_103 ?_
      refine lv_iload_n hx hb dX7_window_106 rfl (lv_at hl 1 rfl) ?_
      refine r_ald (f := SS x) hx hb hK hP 6 rfl (i := w) (by omega) (Nat.lt_of_lt_of_le (by omega : 10 < 1073741824) (by decide)) dX7_window_107 ?_
      exact hend _ _ _ _ _ hP hD hS (by unfold windowR; rw [if_pos c1, e_w, nI_clamp (n := w) (by omega)]; simp [c2, c3, c4, c5, c7, show ¬ (4 : Int32) = 0 by decide, show ¬ (4 : Int32) = 1 by decide, show ¬ (4 : Int32) = 2 by decide, show ¬ (4 : Int32) = 3 by decide, show ¬ (4 : Int32) = 5 by decide]) dX7_window_108
    by_cases c8 : ph = (5 : Int32)
    · skip
      have ti12 : (ph).toInt = 5 := by rw [c8]; rfl
      refine lv_tableIn (off := 97) (tgt := 109) hx hb dX7_window_12 (by rw [ti12]; decide) (by rw [ti12]; decide) (by rw [ti12]; rfl) (by decide) ?_
      refine lv_aload_n hx hb dX7_window_109 rfl (lv_at hl 0 rfl) ?_
      refine va_get (v := .ref (a 0)) (Ts := wsX70) (C := RX7) (T := TX7) (N := 9) hx hb hwsX70 (fun _ h => h) hown hK hP 0 rfl rfl 2 (by decide) (hts (.fieldLink RX7 26 "AdventStreets" "now" "LAdventStreets$Street;") (List.mem_of_getElem? (i := 2) rfl)) (fun _ h9 => h9) rfl dX7_window_110 ?_
      refine lv_iload_n hx hb dX7_window_113 rfl (lv_at hl 1 rfl) ?_
      refine lv_aload_n hx hb dX7_window_114 rfl (lv_at hl 0 rfl) ?_
      refine va_get (v := .ref (a 0)) (Ts := wsX70) (C := RX7) (T := TX7) (N := 9) hx hb hwsX70 (fun _ h => h) hown hK hP 0 rfl rfl 2 (by decide) (hts (.fieldLink RX7 26 "AdventStreets" "now" "LAdventStreets$Street;") (List.mem_of_getElem? (i := 2) rfl)) (fun _ h9 => h9) rfl dX7_window_115 ?_
      refine cVi (n := 0) (As := []) (rest := [.int (nI (w)), .ref (a 0)]) (C := RX4) (ci := 4) (q0 := 0) (X := ([(o, .inr (7, [.ref (orw), .ref (otp), .ref (a 0), .ref (oft), .ref (oac), .ref (oim), .ref (olf), .int (nI (lf)), .int (nI (fi))]))] ++ stW cA a x)) (pl := []) (wc := (stW cA a x)) (wr := [(o, .inr (7, [.ref (orw), .ref (otp), .ref (a 0), .ref (oft), .ref (oac), .ref (oim), .ref (olf), .int (nI (lf)), .int (nI (fi))]))]) (w1 := (stW cA a x)) (wn := ([(o, .inr (7, [.ref (orw), .ref (otp), .ref (a 0), .ref (oft), .ref (oac), .ref (oim), .ref (olf), .int (nI (lf)), .int (nI (fi))]))] ++ stW cA a x)) (isC := [1, 2, 3, 4, 5, 6]) (isR := [0]) (isN := [0, 1, 2, 3, 4, 5, 6]) ⟨hx, hb, hml, hown, hts⟩ (c_X4_date l D cA tt a x (hg) (by omega) _) gX7_window_X4_date rfl (by decide +kernel) rfl rfl ⟨rfl, rfl⟩ ⟨Nat.le_of_ble_eq_true rfl, Nat.le_of_ble_eq_true rfl⟩ ⟨Nat.zero_le _, Nat.zero_le _⟩ hK hE hA hP hD hS ⟨⟨rfl, by decide⟩, ⟨rfl, by decide, by decide⟩, rfl, by decide⟩ rfl hl.1 rfl (Nat.le_of_ble_eq_true rfl) dX7_window_118 (fun H locs hP hD hS => ?_)
      have hP : va_P D vwCl ([(o, .inr (7, [.ref (orw), .ref (otp), .ref (a 0), .ref (oft), .ref (oac), .ref (oim), .ref (olf), .int (nI (lf)), .int (nI (fi))]))] ++ stW cA a x) _ := hP
      have hD : va_D A ([(o, .inr (7, [.ref (orw), .ref (otp), .ref (a 0), .ref (oft), .ref (oac), .ref (oim), .ref (olf), .int (nI (lf)), .int (nI (fi))]))] ++ stW cA a x) := hD
      refine cVi (n := 2) (As := [.int (nI (w)), .int (nI (dateF x))]) (rest := []) (C := RX4) (ci := 4) (q0 := 0) (X := ([(o, .inr (7, [.ref (orw), .ref (otp), .ref (a 0), .ref (oft), .ref (oac), .ref (oim), .ref (olf), .int (nI (lf)), .int (nI (fi))]))] ++ stW cA a x)) (pl := []) (wc := (stW cA a x)) (wr := [(o, .inr (7, [.ref (orw), .ref (otp), .ref (a 0), .ref (oft), .ref (oac), .ref (oim), .ref (olf), .int (nI (lf)), .int (nI (fi))]))]) (w1 := (stW cA a x)) (wn := ([(o, .inr (7, [.ref (orw), .ref (otp), .ref (a 0), .ref (oft), .ref (oac), .ref (oim), .ref (olf), .int (nI (lf)), .int (nI (fi))]))] ++ stW cA a x)) (isC := [1, 2, 3, 4, 5, 6]) (isR := [0]) (isN := [0, 1, 2, 3, 4, 5, 6]) ⟨hx, hb, hml, hown, hts⟩ (c_X4_wouldOpen l D cA tt a x w (dateF x) (hg) (by omega) (Nat.lt_trans (dateK_lt hg) (by decide)) _) gX7_window_X4_wouldOpen rfl (by decide +kernel) rfl rfl ⟨rfl, rfl⟩ ⟨Nat.le_of_ble_eq_true rfl, Nat.le_of_ble_eq_true rfl⟩ ⟨Nat.zero_le _, Nat.zero_le _⟩ hK hE hA hP hD hS ⟨⟨rfl, by decide⟩, ⟨rfl, by decide, by decide⟩, rfl, by decide⟩ rfl hl.1 rfl (Nat.le_of_ble_eq_true rfl) dX7_window_121 (fun H locs hP hD hS => ?_)
      have hP : va_P D vwCl ([(o, .inr (7, [.ref (orw), .ref (otp), .ref (a 0), .ref (oft), .ref (oac), .ref (oim), .ref (olf), .int (nI (lf)), .int (nI (fi))]))] ++ stW cA a x) _ := hP
      have hD : va_D A ([(o, .inr (7, [.ref (orw), .ref (otp), .ref (a 0), .ref (oft), .ref (oac), .ref (oim), .ref (olf), .int (nI (lf)), .int (nI (fi))]))] ++ stW cA a x) := hD
      refine lv_if_eq (tgt := 131) hx hb dX7_window_124 (by decide) (fun c9 => ?_) (fun c9 => ?_)
      · skip
        rw [bI_z] at c9
        refine lv_iconst (v := nI (0)) hx hb dX7_window_131 (by decide) ?_
        exact hend _ _ _ _ _ hP hD hS (by unfold windowR; rw [if_pos c1, e_w, nI_clamp (n := w) (by omega)]; simp [c2, c3, c4, c5, c7, c8, c9]; rfl) dX7_window_132
      · skip
        rw [bI_nz] at c9
        refine lv_iconst (v := nI (1)) hx hb dX7_window_127 (by decide) ?_
        refine lv_goto (tgt := 132) hx hb dX7_window_128 (by decide) ?_
        exact hend _ _ _ _ _ hP hD hS (by unfold windowR; rw [if_pos c1, e_w, nI_clamp (n := w) (by omega)]; simp [c2, c3, c4, c5, c7, c8, c9]; rfl) dX7_window_132
    have to12 : (ph).toInt < 0 ∨ 5 < (ph).toInt := by
      have e90 := lv_neT c2 (a := 0) (by decide +kernel)
      have e91 := lv_neT c3 (a := 1) (by decide +kernel)
      have e92 := lv_neT c4 (a := 2) (by decide +kernel)
      have e93 := lv_neT c5 (a := 3) (by decide +kernel)
      have e94 := lv_neT c7 (a := 4) (by decide +kernel)
      have e95 := lv_neT c8 (a := 5) (by decide +kernel)
      omega
    refine lv_tableOut (tgt := 133) hx hb dX7_window_12 to12 (by decide) ?_
    refine lv_ldc (v := (-1000001)) hx hb hown (hts (.constant RX7 63 (-1000001)) (List.mem_of_getElem? (i := 1) rfl)) dX7_window_133 ?_
    exact hend _ _ _ _ _ hP hD hS (by unfold windowR; rw [if_pos c1, e_w, nI_clamp (n := w) (by omega)]; simp [c2, c3, c4, c5, c7, c8]) dX7_window_135
  · skip
    rw [bI_z] at c1
    refine lv_ldc (v := (-1000001)) hx hb hown (hts (.constant RX7 63 (-1000001)) (List.mem_of_getElem? (i := 1) rfl)) dX7_window_8 ?_
    exact hend _ _ _ _ _ hP hD hS (by unfold windowR; rw [if_neg (by simp [c1])]) dX7_window_10
set_option maxRecDepth 100000 in
set_option maxHeartbeats 4000000 in
theorem c_X7_guess (l : Launch) (D : va_G) (cA : Nat → ClassId) (tt : Nat → Nat) (o orw otp oft oac oim olf : Nat) (a : Nat → Nat) (lf fi : Nat) (x : Sg) (pw : Int32) (hg : Wk x) (sz : Nat) : Ci l D cA tt yX7_guess wsX7_guess ({ frames := 1, cells := 0, slots := 0, locals := 23 } : Room) [.ref (o), .int (pw)] sz ([(o, .inr (7, [.ref (orw), .ref (otp), .ref (a 0), .ref (oft), .ref (oac), .ref (oim), .ref (olf), .int (nI (lf)), .int (nI (fi))]))] ++ stW cA a x) ([(o, .inr (7, [.ref (orw), .ref (otp), .ref (a 0), .ref (oft), .ref (oac), .ref (oim), .ref (olf), .int (nI (lf)), .int (nI (fi))]))] ++ stW cA a x) (guessR x pw) := by
  obtain ⟨gn, ge, gv, go, ga⟩ := id hg
  refine Ci.mk (cc := cX7_guess) (maxL := 2) (ty := .int) (by decide) rfl rfl (Nat.le_of_ble_eq_true rfl) ?_
  intro p e s m below meth c A Q ls hB hl hend
  obtain ⟨⟨hx, hb, hml, hown, hts⟩, hP, hK, hD, hS, hA, hE⟩ := hB
  have hown : s.vm.findClass RX7 = some m.cls := hown
  have hwsX70 : ∀ w9 ∈ wsX70, w9.before ([.ref (o), .int (pw)] : List Value).toArray s = true := fun w9 h => hts w9 (List.mem_cons_of_mem _ (List.mem_append_left _ (List.mem_append_right _ h)))
  have hwsX40 : ∀ w9 ∈ wsX40, w9.before ([.ref (o), .int (pw)] : List Value).toArray s = true := fun w9 h => hts w9 (List.mem_cons_of_mem _ (List.mem_append_right _ h))
  have hl : lv_has ls 2 [(0, .ref (o)), (1, .int (pw))] := hl
  refine lv_aload_n hx hb dX7_guess_0 rfl (lv_at hl 0 rfl) ?_
  refine lv_iload_n hx hb dX7_guess_1 rfl (lv_at hl 1 rfl) ?_
  refine cVi (n := 1) (As := [.int (pw)]) (rest := []) (C := RX7) (ci := 7) (q0 := 0) (X := ([(o, .inr (7, [.ref (orw), .ref (otp), .ref (a 0), .ref (oft), .ref (oac), .ref (oim), .ref (olf), .int (nI (lf)), .int (nI (fi))]))] ++ stW cA a x)) (pl := []) (wc := ([(o, .inr (7, [.ref (orw), .ref (otp), .ref (a 0), .ref (oft), .ref (oac), .ref (oim), .ref (olf), .int (nI (lf)), .int (nI (fi))]))] ++ stW cA a x)) (wr := ([] : va_W)) (w1 := ([(o, .inr (7, [.ref (orw), .ref (otp), .ref (a 0), .ref (oft), .ref (oac), .ref (oim), .ref (olf), .int (nI (lf)), .int (nI (fi))]))] ++ stW cA a x)) (wn := ([(o, .inr (7, [.ref (orw), .ref (otp), .ref (a 0), .ref (oft), .ref (oac), .ref (oim), .ref (olf), .int (nI (lf)), .int (nI (fi))]))] ++ stW cA a x)) (isC := [0, 1, 2, 3, 4, 5, 6]) (isR := []) (isN := [0, 1, 2, 3, 4, 5, 6]) ⟨hx, hb, hml, hown, hts⟩ (c_X7_isWindow l D cA tt o orw otp oft oac oim olf a lf fi x pw (hg) _) gX7_guess_X7_isWindow rfl (by decide +kernel) rfl rfl ⟨rfl, rfl⟩ ⟨Nat.le_of_ble_eq_true rfl, Nat.le_of_ble_eq_true rfl⟩ ⟨Nat.zero_le _, Nat.zero_le _⟩ hK hE hA hP hD hS ⟨⟨rfl, by decide⟩, ⟨rfl, by decide, by decide⟩, rfl, by decide⟩ rfl hl.1 rfl (Nat.le_of_ble_eq_true rfl) dX7_guess_2 (fun H locs hP hD hS => ?_)
  have hP : va_P D vwCl ([(o, .inr (7, [.ref (orw), .ref (otp), .ref (a 0), .ref (oft), .ref (oac), .ref (oim), .ref (olf), .int (nI (lf)), .int (nI (fi))]))] ++ stW cA a x) _ := hP
  have hD : va_D A ([(o, .inr (7, [.ref (orw), .ref (otp), .ref (a 0), .ref (oft), .ref (oac), .ref (oim), .ref (olf), .int (nI (lf)), .int (nI (fi))]))] ++ stW cA a x) := hD
  refine lv_if_ne (tgt := 11) hx hb dX7_guess_5 (by decide) (fun c1 => ?_) (fun c1 => ?_)
  · skip
    rw [bI_nz] at c1
    obtain ⟨w, e_w, l_w⟩ := inW_t (by omega) c1
    rw [e_w] at hl
    refine lv_aload_n hx hb dX7_guess_11 rfl (lv_at hl 0 rfl) ?_
    refine va_get (v := .ref (a 0)) (Ts := wsX70) (C := RX7) (T := TX7) (N := 9) hx hb hwsX70 (fun _ h => h) hown hK hP 0 rfl rfl 2 (by decide) (hts (.fieldLink RX7 26 "AdventStreets" "now" "LAdventStreets$Street;") (List.mem_of_getElem? (i := 2) rfl)) (fun _ h9 => h9) rfl dX7_guess_12 ?_
    refine lv_aload_n hx hb dX7_guess_15 rfl (lv_at hl 0 rfl) ?_
    refine va_get (v := .ref (a 0)) (Ts := wsX70) (C := RX7) (T := TX7) (N := 9) hx hb hwsX70 (fun _ h => h) hown hK hP 0 rfl rfl 2 (by decide) (hts (.fieldLink RX7 26 "AdventStreets" "now" "LAdventStreets$Street;") (List.mem_of_getElem? (i := 2) rfl)) (fun _ h9 => h9) rfl dX7_guess_16 ?_
    refine cVi (n := 0) (As := []) (rest := [.ref (a 0)]) (C := RX4) (ci := 4) (q0 := 0) (X := ([(o, .inr (7, [.ref (orw), .ref (otp), .ref (a 0), .ref (oft), .ref (oac), .ref (oim), .ref (olf), .int (nI (lf)), .int (nI (fi))]))] ++ stW cA a x)) (pl := []) (wc := (stW cA a x)) (wr := [(o, .inr (7, [.ref (orw), .ref (otp), .ref (a 0), .ref (oft), .ref (oac), .ref (oim), .ref (olf), .int (nI (lf)), .int (nI (fi))]))]) (w1 := (stW cA a x)) (wn := ([(o, .inr (7, [.ref (orw), .ref (otp), .ref (a 0), .ref (oft), .ref (oac), .ref (oim), .ref (olf), .int (nI (lf)), .int (nI (fi))]))] ++ stW cA a x)) (isC := [1, 2, 3, 4, 5, 6]) (isR := [0]) (isN := [0, 1, 2, 3, 4, 5, 6]) ⟨hx, hb, hml, hown, hts⟩ (c_X4_all l D cA tt a x (hg) _) gX7_guess_X4_all rfl (by decide +kernel) rfl rfl ⟨rfl, rfl⟩ ⟨Nat.le_of_ble_eq_true rfl, Nat.le_of_ble_eq_true rfl⟩ ⟨Nat.zero_le _, Nat.zero_le _⟩ hK hE hA hP hD hS ⟨⟨rfl, by decide⟩, ⟨rfl, by decide, by decide⟩, rfl, by decide⟩ rfl hl.1 rfl (Nat.le_of_ble_eq_true rfl) dX7_guess_19 (fun H locs hP hD hS => ?_)
    have hP : va_P D vwCl ([(o, .inr (7, [.ref (orw), .ref (otp), .ref (a 0), .ref (oft), .ref (oac), .ref (oim), .ref (olf), .int (nI (lf)), .int (nI (fi))]))] ++ stW cA a x) _ := hP
    have hD : va_D A ([(o, .inr (7, [.ref (orw), .ref (otp), .ref (a 0), .ref (oft), .ref (oac), .ref (oim), .ref (olf), .int (nI (lf)), .int (nI (fi))]))] ++ stW cA a x) := hD
    refine cVi (n := 1) (As := [.int (nI (allF x))]) (rest := []) (C := RX4) (ci := 4) (q0 := 0) (X := ([(o, .inr (7, [.ref (orw), .ref (otp), .ref (a 0), .ref (oft), .ref (oac), .ref (oim), .ref (olf), .int (nI (lf)), .int (nI (fi))]))] ++ stW cA a x)) (pl := []) (wc := (stW cA a x)) (wr := [(o, .inr (7, [.ref (orw), .ref (otp), .ref (a 0), .ref (oft), .ref (oac), .ref (oim), .ref (olf), .int (nI (lf)), .int (nI (fi))]))]) (w1 := (stW cA a x)) (wn := ([(o, .inr (7, [.ref (orw), .ref (otp), .ref (a 0), .ref (oft), .ref (oac), .ref (oim), .ref (olf), .int (nI (lf)), .int (nI (fi))]))] ++ stW cA a x)) (isC := [1, 2, 3, 4, 5, 6]) (isR := [0]) (isN := [0, 1, 2, 3, 4, 5, 6]) ⟨hx, hb, hml, hown, hts⟩ (c_X4_picturesOf l D cA tt a x (allF x) (hg) (Nat.lt_trans (all_lt gn) (by decide)) _) gX7_guess_X4_picturesOf rfl (by decide +kernel) rfl rfl ⟨rfl, rfl⟩ ⟨Nat.le_of_ble_eq_true rfl, Nat.le_of_ble_eq_true rfl⟩ ⟨Nat.zero_le _, Nat.zero_le _⟩ hK hE hA hP hD hS ⟨⟨rfl, by decide⟩, ⟨rfl, by decide, by decide⟩, rfl, by decide⟩ rfl hl.1 rfl (Nat.le_of_ble_eq_true rfl) dX7_guess_22 (fun H locs hP hD hS => ?_)
    have hP : va_P D vwCl ([(o, .inr (7, [.ref (orw), .ref (otp), .ref (a 0), .ref (oft), .ref (oac), .ref (oim), .ref (olf), .int (nI (lf)), .int (nI (fi))]))] ++ stW cA a x) _ := hP
    have hD : va_D A ([(o, .inr (7, [.ref (orw), .ref (otp), .ref (a 0), .ref (oft), .ref (oac), .ref (oim), .ref (olf), .int (nI (lf)), .int (nI (fi))]))] ++ stW cA a x) := hD
    refine lv_aload_n hx hb dX7_guess_25 rfl (lv_at hl 0 rfl) ?_
    refine va_get (v := .ref (a 0)) (Ts := wsX70) (C := RX7) (T := TX7) (N := 9) hx hb hwsX70 (fun _ h => h) hown hK hP 0 rfl rfl 2 (by decide) (hts (.fieldLink RX7 26 "AdventStreets" "now" "LAdventStreets$Street;") (List.mem_of_getElem? (i := 2) rfl)) (fun _ h9 => h9) rfl dX7_guess_26 ?_
    refine va_getN (v := .ref (a 5)) (Ts := wsX40) (C := RX4) (T := TX4) (N := 10) hx hb hwsX40 (fun _ h => h) hown hK hP 1 rfl rfl 4 (by decide) (hE.1.f (q := ("AdventStreets", 195, "AdventStreets$Street", "seen", "[I")) 16 rfl) (fun _ h9 => h9) rfl dX7_guess_29 ?_
    refine lv_iload_n hx hb dX7_guess_32 rfl (lv_at hl 1 rfl) ?_
    refine r_ald (f := SS x) hx hb hK hP 6 rfl (i := w) (by omega) (Nat.lt_of_lt_of_le (by omega : 10 < 1073741824) (by decide)) dX7_guess_33 ?_
    refine lv_iconst (v := (-1)) hx hb dX7_guess_34 (by decide) ?_
    refine lv_ixor hx hb dX7_guess_35 ?_
    refine lv_iand hx hb dX7_guess_36 ?_
    refine vn_i (v := nI (andn (picsF x (allF x)) (SS x w))) (n_andn) ?_
    exact hend _ _ _ _ _ hP hD hS (by unfold guessR; rw [if_pos c1, e_w, nI_clamp (n := w) (by omega)]) dX7_guess_37
  · skip
    rw [bI_z] at c1
    refine lv_ldc (v := (-1000001)) hx hb hown (hts (.constant RX7 63 (-1000001)) (List.mem_of_getElem? (i := 1) rfl)) dX7_guess_8 ?_
    exact hend _ _ _ _ _ hP hD hS (by unfold guessR; rw [if_neg (by simp [c1])]) dX7_guess_10
set_option maxRecDepth 100000 in
set_option maxHeartbeats 4000000 in
theorem c_X7_opens (l : Launch) (D : va_G) (cA : Nat → ClassId) (tt : Nat → Nat) (ms : Int32) (o orw otp oft oac oim olf : Nat) (a : Nat → Nat) (lf fi : Nat) (b : Nat → Nat) (x y : Sg) (pd : Int32) (hg : Wk x) (ht : St x + 61 < 1073741824) (sz : Nat) : CiE l D cA tt yX7_opens wsX7_opens ({ frames := 6, cells := 0, slots := 0, locals := 130 } : Room) [.ref (o), .int (pd)] sz ([(o, .inr (7, [.ref (orw), .ref (otp), .ref (a 0), .ref (oft), .ref (oac), .ref (oim), .ref (olf), .int (nI (lf)), .int (nI (fi))])), (oft, .inr (1, [.ref (b 0), .int (ms)]))] ++ stW cA b y ++ stW cA a x) (fun zz : Sg => ([(o, .inr (7, [.ref (orw), .ref (otp), .ref (a 0), .ref (oft), .ref (oac), .ref (oim), .ref (olf), .int (nI (lf)), .int (nI (fi))])), (oft, .inr (1, [.ref (b 0), .int (ms)]))] ++ stW cA b zz ++ stW cA a x)) (opensR x pd) := by
  obtain ⟨gn, ge, gv, go, ga⟩ := id hg
  refine CiE.mk (cc := cX7_opens) (maxL := 2) (ty := .int) (by decide) rfl rfl (Nat.le_of_ble_eq_true rfl) ?_
  intro p e s m below meth c A Q ls hB hl hend
  obtain ⟨⟨hx, hb, hml, hown, hts⟩, hP, hK, hD, hS, hA, hE⟩ := hB
  have hown : s.vm.findClass RX7 = some m.cls := hown
  have hwsX70 : ∀ w9 ∈ wsX70, w9.before ([.ref (o), .int (pd)] : List Value).toArray s = true := fun w9 h => hts w9 (List.mem_cons_of_mem _ (List.mem_append_left _ (List.mem_append_left _ (List.mem_append_right _ h))))
  have hwsX40 : ∀ w9 ∈ wsX40, w9.before ([.ref (o), .int (pd)] : List Value).toArray s = true := fun w9 h => hts w9 (List.mem_cons_of_mem _ (List.mem_append_left _ (List.mem_append_right _ h)))
  have hwsX10 : ∀ w9 ∈ wsX10, w9.before ([.ref (o), .int (pd)] : List Value).toArray s = true := fun w9 h => hts w9 (List.mem_cons_of_mem _ (List.mem_append_right _ h))
  have hl : lv_has ls 2 [(0, .ref (o)), (1, .int (pd))] := hl
  refine lv_aload_n hx hb dX7_opens_0 rfl (lv_at hl 0 rfl) ?_
  refine cVi (n := 0) (As := []) (rest := []) (C := RX7) (ci := 7) (q0 := 0) (X := ([(o, .inr (7, [.ref (orw), .ref (otp), .ref (a 0), .ref (oft), .ref (oac), .ref (oim), .ref (olf), .int (nI (lf)), .int (nI (fi))])), (oft, .inr (1, [.ref (b 0), .int (ms)]))] ++ stW cA b y ++ stW cA a x)) (pl := []) (wc := ([(o, .inr (7, [.ref (orw), .ref (otp), .ref (a 0), .ref (oft), .ref (oac), .ref (oim), .ref (olf), .int (nI (lf)), .int (nI (fi))]))] ++ stW cA a x)) (wr := ([(oft, .inr (1, [.ref (b 0), .int (ms)]))] ++ stW cA b y)) (w1 := ([(o, .inr (7, [.ref (orw), .ref (otp), .ref (a 0), .ref (oft), .ref (oac), .ref (oim), .ref (olf), .int (nI (lf)), .int (nI (fi))]))] ++ stW cA a x)) (wn := ([(o, .inr (7, [.ref (orw), .ref (otp), .ref (a 0), .ref (oft), .ref (oac), .ref (oim), .ref (olf), .int (nI (lf)), .int (nI (fi))])), (oft, .inr (1, [.ref (b 0), .int (ms)]))] ++ stW cA b y ++ stW cA a x)) (isC := [0, 8, 9, 10, 11, 12, 13]) (isR := [1, 2, 3, 4, 5, 6, 7]) (isN := [7, 0, 1, 2, 3, 4, 5, 6, 8, 9, 10, 11, 12, 13]) ⟨hx, hb, hml, hown, hts⟩ (c_X7_isStreetless l D cA tt o orw otp oft oac oim olf a lf fi x (hg) _) gX7_opens_X7_isStreetless rfl (by decide +kernel) rfl rfl ⟨rfl, rfl⟩ ⟨Nat.le_of_ble_eq_true rfl, Nat.le_of_ble_eq_true rfl⟩ ⟨Nat.zero_le _, Nat.zero_le _⟩ hK hE hA hP hD hS ⟨⟨rfl, by decide⟩, ⟨rfl, by decide, by decide⟩, rfl, by decide⟩ rfl hl.1 rfl (Nat.le_of_ble_eq_true rfl) dX7_opens_1 (fun H locs hP hD hS => ?_)
  have hP : va_P D vwCl ([(o, .inr (7, [.ref (orw), .ref (otp), .ref (a 0), .ref (oft), .ref (oac), .ref (oim), .ref (olf), .int (nI (lf)), .int (nI (fi))])), (oft, .inr (1, [.ref (b 0), .int (ms)]))] ++ stW cA b y ++ stW cA a x) _ := hP
  have hD : va_D A ([(o, .inr (7, [.ref (orw), .ref (otp), .ref (a 0), .ref (oft), .ref (oac), .ref (oim), .ref (olf), .int (nI (lf)), .int (nI (fi))])), (oft, .inr (1, [.ref (b 0), .int (ms)]))] ++ stW cA b y ++ stW cA a x) := hD
  refine lv_if_eq (tgt := 10) hx hb dX7_opens_4 (by decide) (fun c1 => ?_) (fun c1 => ?_)
  · skip
    rw [bI_z] at c1
    refine lv_iload_n hx hb dX7_opens_10 rfl (lv_at hl 1 rfl) ?_
    refine lv_iconst (v := nI (0)) hx hb dX7_opens_11 (by decide) ?_
    refine lv_bipush (v := nI (60)) hx hb dX7_opens_12 (by decide) ?_
    refine cSi (n := 3) (As := [.int (pd), .int (nI (0)), .int (nI (60))]) (rest := []) (X := ([(o, .inr (7, [.ref (orw), .ref (otp), .ref (a 0), .ref (oft), .ref (oac), .ref (oim), .ref (olf), .int (nI (lf)), .int (nI (fi))])), (oft, .inr (1, [.ref (b 0), .int (ms)]))] ++ stW cA b y ++ stW cA a x)) (pl := []) (wc := ([] : va_W)) (wr := ([(o, .inr (7, [.ref (orw), .ref (otp), .ref (a 0), .ref (oft), .ref (oac), .ref (oim), .ref (olf), .int (nI (lf)), .int (nI (fi))])), (oft, .inr (1, [.ref (b 0), .int (ms)]))] ++ stW cA b y ++ stW cA a x)) (w1 := ([] : va_W)) (wn := ([(o, .inr (7, [.ref (orw), .ref (otp), .ref (a 0), .ref (oft), .ref (oac), .ref (oim), .ref (olf), .int (nI (lf)), .int (nI (fi))])), (oft, .inr (1, [.ref (b 0), .int (ms)]))] ++ stW cA b y ++ stW cA a x)) (isC := []) (isR := [0, 1, 2, 3, 4, 5, 6, 7, 8, 9, 10, 11, 12, 13]) (isN := [0, 1, 2, 3, 4, 5, 6, 7, 8, 9, 10, 11, 12, 13]) ⟨hx, hb, hml, hown, hts⟩ (c_X7_isWithin l D cA tt pd (nI (0)) (nI (60))  _) gX7_opens_X7_isWithin rfl (by decide +kernel) ⟨rfl, rfl⟩ ⟨Nat.le_of_ble_eq_true rfl, Nat.le_of_ble_eq_true rfl⟩ ⟨Nat.zero_le _, Nat.zero_le _⟩ hK hE hA hP hD hS ⟨⟨rfl, by decide⟩, ⟨rfl, by decide, by decide⟩, rfl, by decide⟩ rfl hl.1 rfl (Nat.le_of_ble_eq_true rfl) dX7_opens_14 (fun H locs hP hD hS => ?_)
    have hP : va_P D vwCl ([(o, .inr (7, [.ref (orw), .ref (otp), .ref (a 0), .ref (oft), .ref (oac), .ref (oim), .ref (olf), .int (nI (lf)), .int (nI (fi))])), (oft, .inr (1, [.ref (b 0), .int (ms)]))] ++ stW cA b y ++ stW cA a x) _ := hP
    have hD : va_D A ([(o, .inr (7, [.ref (orw), .ref (otp), .ref (a 0), .ref (oft), .ref (oac), .ref (oim), .ref (olf), .int (nI (lf)), .int (nI (fi))])), (oft, .inr (1, [.ref (b 0), .int (ms)]))] ++ stW cA b y ++ stW cA a x) := hD
    refine lv_if_ne (tgt := 23) hx hb dX7_opens_17 (by decide) (fun c2 => ?_) (fun c2 => ?_)
    · skip
      rw [bI_nz] at c2
      obtain ⟨d, e_d, a_d, l_d⟩ := inI_t (by decide) c2 (by decide)
      rw [e_d] at hl
      refine lv_aload_n hx hb dX7_opens_23 rfl (lv_at hl 0 rfl) ?_
      refine va_get (v := .ref (oft)) (Ts := wsX70) (C := RX7) (T := TX7) (N := 9) hx hb hwsX70 (fun _ h => h) hown hK hP 0 rfl rfl 3 (by decide) (hts (.fieldLink RX7 33 "AdventStreets" "foretold" "LAdventStreets$Foretold;") (List.mem_of_getElem? (i := 3) rfl)) (fun _ h9 => h9) rfl dX7_opens_24 ?_
      refine lv_aload_n hx hb dX7_opens_27 rfl (lv_at hl 0 rfl) ?_
      refine va_get (v := .ref (a 0)) (Ts := wsX70) (C := RX7) (T := TX7) (N := 9) hx hb hwsX70 (fun _ h => h) hown hK hP 0 rfl rfl 2 (by decide) (hts (.fieldLink RX7 26 "AdventStreets" "now" "LAdventStreets$Street;") (List.mem_of_getElem? (i := 4) rfl)) (fun _ h9 => h9) rfl dX7_opens_28 ?_
      refine lv_iload_n hx hb dX7_opens_31 rfl (lv_at hl 1 rfl) ?_
      refine cVr (n := 2) (As := [.ref (a 0), .int (nI (d))]) (rest := []) (C := RX1) (ci := 1) (q0 := 0) (X := ([(o, .inr (7, [.ref (orw), .ref (otp), .ref (a 0), .ref (oft), .ref (oac), .ref (oim), .ref (olf), .int (nI (lf)), .int (nI (fi))])), (oft, .inr (1, [.ref (b 0), .int (ms)]))] ++ stW cA b y ++ stW cA a x)) (pl := []) (wc := ([(oft, .inr (1, [.ref (b 0), .int (ms)]))] ++ stW cA b y ++ stW cA a x)) (wr := [(o, .inr (7, [.ref (orw), .ref (otp), .ref (a 0), .ref (oft), .ref (oac), .ref (oim), .ref (olf), .int (nI (lf)), .int (nI (fi))]))]) (w1 := ([(oft, .inr (1, [.ref (b 0), .int (ms)]))] ++ stW cA b (turnN x d) ++ stW cA a x)) (wn := ([(o, .inr (7, [.ref (orw), .ref (otp), .ref (a 0), .ref (oft), .ref (oac), .ref (oim), .ref (olf), .int (nI (lf)), .int (nI (fi))])), (oft, .inr (1, [.ref (b 0), .int (ms)]))] ++ stW cA b (turnN x d) ++ stW cA a x)) (isC := [1, 2, 3, 4, 5, 6, 7, 8, 9, 10, 11, 12, 13]) (isR := [0]) (isN := [0, 1, 2, 3, 4, 5, 6, 7, 8, 9, 10, 11, 12, 13]) ⟨hx, hb, hml, hown, hts⟩ (c_X1_behind l D cA tt ms oft a b x y d (hg) (by omega) (by omega) _) gX7_opens_X1_behind rfl (by decide +kernel) rfl rfl ⟨rfl, rfl⟩ ⟨Nat.le_of_ble_eq_true rfl, Nat.le_of_ble_eq_true rfl⟩ ⟨Nat.zero_le _, Nat.zero_le _⟩ hK hE hA hP hD hS ⟨⟨rfl, by decide⟩, ⟨rfl, by decide, by decide⟩, rfl, by decide⟩ rfl hl.1 rfl (Nat.le_of_ble_eq_true rfl) dX7_opens_32 (fun H locs hP hD hS => ?_)
      have hP : va_P D vwCl ([(o, .inr (7, [.ref (orw), .ref (otp), .ref (a 0), .ref (oft), .ref (oac), .ref (oim), .ref (olf), .int (nI (lf)), .int (nI (fi))])), (oft, .inr (1, [.ref (b 0), .int (ms)]))] ++ stW cA b (turnN x d) ++ stW cA a x) _ := hP
      have hD : va_D A ([(o, .inr (7, [.ref (orw), .ref (otp), .ref (a 0), .ref (oft), .ref (oac), .ref (oim), .ref (olf), .int (nI (lf)), .int (nI (fi))])), (oft, .inr (1, [.ref (b 0), .int (ms)]))] ++ stW cA b (turnN x d) ++ stW cA a x) := hD
      refine va_getN (v := .int (nI (So (turnN x d)))) (Ts := wsX40) (C := RX4) (T := TX4) (N := 10) hx hb hwsX40 (fun _ h => h) hown hK hP 2 rfl rfl 9 (by decide) (hE.1.f (q := ("AdventStreets", 157, "AdventStreets$Street", "opened", "I")) 24 rfl) (fun _ h9 => h9) rfl dX7_opens_35 ?_
      exact hend _ _ _ _ _ (turnN x d) hP hD hS (by unfold opensR; rw [if_neg (of_decide_eq_false c1), if_pos c2, e_d, nI_clamp (n := d) (by omega)]) dX7_opens_38
    · skip
      rw [bI_z] at c2
      refine lv_ldc (v := (-1000001)) hx hb hown (hts (.constant RX7 63 (-1000001)) (List.mem_of_getElem? (i := 2) rfl)) dX7_opens_20 ?_
      exact hend _ _ _ _ _ y hP hD hS (by unfold opensR; rw [if_neg (of_decide_eq_false c1), if_neg (by simp [c2])]) dX7_opens_22
  · skip
    rw [bI_nz] at c1
    refine lv_ldc (v := (-1000002)) hx hb hown (hts (.constant RX7 147 (-1000002)) (List.mem_of_getElem? (i := 1) rfl)) dX7_opens_7 ?_
    exact hend _ _ _ _ _ y hP hD hS (by unfold opensR; rw [if_pos (of_decide_eq_true c1)]) dX7_opens_9
set_option maxRecDepth 100000 in
set_option maxHeartbeats 4000000 in
theorem c_X7_ahead (l : Launch) (D : va_G) (cA : Nat → ClassId) (tt : Nat → Nat) (ms : Int32) (o orw otp oft oac oim olf : Nat) (a : Nat → Nat) (lf fi : Nat) (b : Nat → Nat) (x y : Sg) (pw pd ph : Int32) (hg : Wk x) (ht : St x + 61 < 1073741824) (sz : Nat) : CiE l D cA tt yX7_ahead wsX7_ahead ({ frames := 6, cells := 0, slots := 0, locals := 130 } : Room) [.ref (o), .int (pw), .int (pd), .int (ph)] sz ([(o, .inr (7, [.ref (orw), .ref (otp), .ref (a 0), .ref (oft), .ref (oac), .ref (oim), .ref (olf), .int (nI (lf)), .int (nI (fi))])), (oft, .inr (1, [.ref (b 0), .int (ms)]))] ++ stW cA b y ++ stW cA a x) (fun zz : Sg => ([(o, .inr (7, [.ref (orw), .ref (otp), .ref (a 0), .ref (oft), .ref (oac), .ref (oim), .ref (olf), .int (nI (lf)), .int (nI (fi))])), (oft, .inr (1, [.ref (b 0), .int (ms)]))] ++ stW cA b zz ++ stW cA a x)) (aheadR x pw pd ph) := by
  obtain ⟨gn, ge, gv, go, ga⟩ := id hg
  refine CiE.mk (cc := cX7_ahead) (maxL := 5) (ty := .int) (by decide) rfl rfl (Nat.le_of_ble_eq_true rfl) ?_
  intro p e s m below meth c A Q ls hB hl hend
  obtain ⟨⟨hx, hb, hml, hown, hts⟩, hP, hK, hD, hS, hA, hE⟩ := hB
  have hown : s.vm.findClass RX7 = some m.cls := hown
  have hwsX70 : ∀ w9 ∈ wsX70, w9.before ([.ref (o), .int (pw), .int (pd), .int (ph)] : List Value).toArray s = true := fun w9 h => hts w9 (List.mem_cons_of_mem _ (List.mem_append_left _ (List.mem_append_left _ (List.mem_append_right _ h))))
  have hwsX40 : ∀ w9 ∈ wsX40, w9.before ([.ref (o), .int (pw), .int (pd), .int (ph)] : List Value).toArray s = true := fun w9 h => hts w9 (List.mem_cons_of_mem _ (List.mem_append_left _ (List.mem_append_right _ h)))
  have hwsX10 : ∀ w9 ∈ wsX10, w9.before ([.ref (o), .int (pw), .int (pd), .int (ph)] : List Value).toArray s = true := fun w9 h => hts w9 (List.mem_cons_of_mem _ (List.mem_append_right _ h))
  have hl : lv_has ls 5 [(0, .ref (o)), (1, .int (pw)), (2, .int (pd)), (3, .int (ph))] := hl
  refine lv_aload_n hx hb dX7_ahead_0 rfl (lv_at hl 0 rfl) ?_
  refine lv_iload_n hx hb dX7_ahead_1 rfl (lv_at hl 1 rfl) ?_
  refine cVi (n := 1) (As := [.int (pw)]) (rest := []) (C := RX7) (ci := 7) (q0 := 0) (X := ([(o, .inr (7, [.ref (orw), .ref (otp), .ref (a 0), .ref (oft), .ref (oac), .ref (oim), .ref (olf), .int (nI (lf)), .int (nI (fi))])), (oft, .inr (1, [.ref (b 0), .int (ms)]))] ++ stW cA b y ++ stW cA a x)) (pl := []) (wc := ([(o, .inr (7, [.ref (orw), .ref (otp), .ref (a 0), .ref (oft), .ref (oac), .ref (oim), .ref (olf), .int (nI (lf)), .int (nI (fi))]))] ++ stW cA a x)) (wr := ([(oft, .inr (1, [.ref (b 0), .int (ms)]))] ++ stW cA b y)) (w1 := ([(o, .inr (7, [.ref (orw), .ref (otp), .ref (a 0), .ref (oft), .ref (oac), .ref (oim), .ref (olf), .int (nI (lf)), .int (nI (fi))]))] ++ stW cA a x)) (wn := ([(o, .inr (7, [.ref (orw), .ref (otp), .ref (a 0), .ref (oft), .ref (oac), .ref (oim), .ref (olf), .int (nI (lf)), .int (nI (fi))])), (oft, .inr (1, [.ref (b 0), .int (ms)]))] ++ stW cA b y ++ stW cA a x)) (isC := [0, 8, 9, 10, 11, 12, 13]) (isR := [1, 2, 3, 4, 5, 6, 7]) (isN := [7, 0, 1, 2, 3, 4, 5, 6, 8, 9, 10, 11, 12, 13]) ⟨hx, hb, hml, hown, hts⟩ (c_X7_isWindow l D cA tt o orw otp oft oac oim olf a lf fi x pw (hg) _) gX7_ahead_X7_isWindow rfl (by decide +kernel) rfl rfl ⟨rfl, rfl⟩ ⟨Nat.le_of_ble_eq_true rfl, Nat.le_of_ble_eq_true rfl⟩ ⟨Nat.zero_le _, Nat.zero_le _⟩ hK hE hA hP hD hS ⟨⟨rfl, by decide⟩, ⟨rfl, by decide, by decide⟩, rfl, by decide⟩ rfl hl.1 rfl (Nat.le_of_ble_eq_true rfl) dX7_ahead_2 (fun H locs hP hD hS => ?_)
  have hP : va_P D vwCl ([(o, .inr (7, [.ref (orw), .ref (otp), .ref (a 0), .ref (oft), .ref (oac), .ref (oim), .ref (olf), .int (nI (lf)), .int (nI (fi))])), (oft, .inr (1, [.ref (b 0), .int (ms)]))] ++ stW cA b y ++ stW cA a x) _ := hP
  have hD : va_D A ([(o, .inr (7, [.ref (orw), .ref (otp), .ref (a 0), .ref (oft), .ref (oac), .ref (oim), .ref (olf), .int (nI (lf)), .int (nI (fi))])), (oft, .inr (1, [.ref (b 0), .int (ms)]))] ++ stW cA b y ++ stW cA a x) := hD
  refine lv_if_eq (tgt := 25) hx hb dX7_ahead_5 (by decide) (fun c1 => ?_) (fun c1 => ?_)
  · skip
    rw [bI_z] at c1
    refine lv_ldc (v := (-1000001)) hx hb hown (hts (.constant RX7 63 (-1000001)) (List.mem_of_getElem? (i := 1) rfl)) dX7_ahead_25 ?_
    exact hend _ _ _ _ _ y hP hD hS (by unfold aheadR; rw [if_neg (by simp [c1])]) dX7_ahead_27
  · skip
    rw [bI_nz] at c1
    obtain ⟨w, e_w, l_w⟩ := inW_t (by omega) c1
    rw [e_w] at hl
    refine lv_iload_n hx hb dX7_ahead_8 rfl (lv_at hl 2 rfl) ?_
    refine lv_iconst (v := nI (0)) hx hb dX7_ahead_9 (by decide) ?_
    refine lv_bipush (v := nI (60)) hx hb dX7_ahead_10 (by decide) ?_
    refine cSi (n := 3) (As := [.int (pd), .int (nI (0)), .int (nI (60))]) (rest := []) (X := ([(o, .inr (7, [.ref (orw), .ref (otp), .ref (a 0), .ref (oft), .ref (oac), .ref (oim), .ref (olf), .int (nI (lf)), .int (nI (fi))])), (oft, .inr (1, [.ref (b 0), .int (ms)]))] ++ stW cA b y ++ stW cA a x)) (pl := []) (wc := ([] : va_W)) (wr := ([(o, .inr (7, [.ref (orw), .ref (otp), .ref (a 0), .ref (oft), .ref (oac), .ref (oim), .ref (olf), .int (nI (lf)), .int (nI (fi))])), (oft, .inr (1, [.ref (b 0), .int (ms)]))] ++ stW cA b y ++ stW cA a x)) (w1 := ([] : va_W)) (wn := ([(o, .inr (7, [.ref (orw), .ref (otp), .ref (a 0), .ref (oft), .ref (oac), .ref (oim), .ref (olf), .int (nI (lf)), .int (nI (fi))])), (oft, .inr (1, [.ref (b 0), .int (ms)]))] ++ stW cA b y ++ stW cA a x)) (isC := []) (isR := [0, 1, 2, 3, 4, 5, 6, 7, 8, 9, 10, 11, 12, 13]) (isN := [0, 1, 2, 3, 4, 5, 6, 7, 8, 9, 10, 11, 12, 13]) ⟨hx, hb, hml, hown, hts⟩ (c_X7_isWithin l D cA tt pd (nI (0)) (nI (60))  _) gX7_ahead_X7_isWithin rfl (by decide +kernel) ⟨rfl, rfl⟩ ⟨Nat.le_of_ble_eq_true rfl, Nat.le_of_ble_eq_true rfl⟩ ⟨Nat.zero_le _, Nat.zero_le _⟩ hK hE hA hP hD hS ⟨⟨rfl, by decide⟩, ⟨rfl, by decide, by decide⟩, rfl, by decide⟩ rfl hl.1 rfl (Nat.le_of_ble_eq_true rfl) dX7_ahead_12 (fun H locs hP hD hS => ?_)
    have hP : va_P D vwCl ([(o, .inr (7, [.ref (orw), .ref (otp), .ref (a 0), .ref (oft), .ref (oac), .ref (oim), .ref (olf), .int (nI (lf)), .int (nI (fi))])), (oft, .inr (1, [.ref (b 0), .int (ms)]))] ++ stW cA b y ++ stW cA a x) _ := hP
    have hD : va_D A ([(o, .inr (7, [.ref (orw), .ref (otp), .ref (a 0), .ref (oft), .ref (oac), .ref (oim), .ref (olf), .int (nI (lf)), .int (nI (fi))])), (oft, .inr (1, [.ref (b 0), .int (ms)]))] ++ stW cA b y ++ stW cA a x) := hD
    refine lv_if_eq (tgt := 25) hx hb dX7_ahead_15 (by decide) (fun c2 => ?_) (fun c2 => ?_)
    · skip
      rw [bI_z] at c2
      refine lv_ldc (v := (-1000001)) hx hb hown (hts (.constant RX7 63 (-1000001)) (List.mem_of_getElem? (i := 1) rfl)) dX7_ahead_25 ?_
      exact hend _ _ _ _ _ y hP hD hS (by unfold aheadR; rw [if_neg (by simp [c1, c2])]) dX7_ahead_27
    · skip
      rw [bI_nz] at c2
      obtain ⟨d, e_d, a_d, l_d⟩ := inI_t (by decide) c2 (by decide)
      rw [e_d] at hl
      refine lv_iload_n hx hb dX7_ahead_18 rfl (lv_at hl 3 rfl) ?_
      refine cSi (n := 1) (As := [.int (ph)]) (rest := []) (X := ([(o, .inr (7, [.ref (orw), .ref (otp), .ref (a 0), .ref (oft), .ref (oac), .ref (oim), .ref (olf), .int (nI (lf)), .int (nI (fi))])), (oft, .inr (1, [.ref (b 0), .int (ms)]))] ++ stW cA b y ++ stW cA a x)) (pl := []) (wc := ([] : va_W)) (wr := ([(o, .inr (7, [.ref (orw), .ref (otp), .ref (a 0), .ref (oft), .ref (oac), .ref (oim), .ref (olf), .int (nI (lf)), .int (nI (fi))])), (oft, .inr (1, [.ref (b 0), .int (ms)]))] ++ stW cA b y ++ stW cA a x)) (w1 := ([] : va_W)) (wn := ([(o, .inr (7, [.ref (orw), .ref (otp), .ref (a 0), .ref (oft), .ref (oac), .ref (oim), .ref (olf), .int (nI (lf)), .int (nI (fi))])), (oft, .inr (1, [.ref (b 0), .int (ms)]))] ++ stW cA b y ++ stW cA a x)) (isC := []) (isR := [0, 1, 2, 3, 4, 5, 6, 7, 8, 9, 10, 11, 12, 13]) (isN := [0, 1, 2, 3, 4, 5, 6, 7, 8, 9, 10, 11, 12, 13]) ⟨hx, hb, hml, hown, hts⟩ (c_X7_isEither l D cA tt ph  _) gX7_ahead_X7_isEither rfl (by decide +kernel) ⟨rfl, rfl⟩ ⟨Nat.le_of_ble_eq_true rfl, Nat.le_of_ble_eq_true rfl⟩ ⟨Nat.zero_le _, Nat.zero_le _⟩ hK hE hA hP hD hS ⟨⟨rfl, by decide⟩, ⟨rfl, by decide, by decide⟩, rfl, by decide⟩ rfl hl.1 rfl (Nat.le_of_ble_eq_true rfl) dX7_ahead_19 (fun H locs hP hD hS => ?_)
      have hP : va_P D vwCl ([(o, .inr (7, [.ref (orw), .ref (otp), .ref (a 0), .ref (oft), .ref (oac), .ref (oim), .ref (olf), .int (nI (lf)), .int (nI (fi))])), (oft, .inr (1, [.ref (b 0), .int (ms)]))] ++ stW cA b y ++ stW cA a x) _ := hP
      have hD : va_D A ([(o, .inr (7, [.ref (orw), .ref (otp), .ref (a 0), .ref (oft), .ref (oac), .ref (oim), .ref (olf), .int (nI (lf)), .int (nI (fi))])), (oft, .inr (1, [.ref (b 0), .int (ms)]))] ++ stW cA b y ++ stW cA a x) := hD
      refine lv_if_ne (tgt := 28) hx hb dX7_ahead_22 (by decide) (fun c3 => ?_) (fun c3 => ?_)
      · skip
        rw [bI_nz] at c3
        obtain ⟨h, e_h, a_h, l_h⟩ := inI_t (by decide) c3 (by decide)
        rw [e_h] at hl
        refine lv_aload_n hx hb dX7_ahead_28 rfl (lv_at hl 0 rfl) ?_
        refine va_get (v := .ref (oft)) (Ts := wsX70) (C := RX7) (T := TX7) (N := 9) hx hb hwsX70 (fun _ h => h) hown hK hP 0 rfl rfl 3 (by decide) (hts (.fieldLink RX7 33 "AdventStreets" "foretold" "LAdventStreets$Foretold;") (List.mem_of_getElem? (i := 2) rfl)) (fun _ h9 => h9) rfl dX7_ahead_29 ?_
        refine lv_aload_n hx hb dX7_ahead_32 rfl (lv_at hl 0 rfl) ?_
        refine va_get (v := .ref (a 0)) (Ts := wsX70) (C := RX7) (T := TX7) (N := 9) hx hb hwsX70 (fun _ h => h) hown hK hP 0 rfl rfl 2 (by decide) (hts (.fieldLink RX7 26 "AdventStreets" "now" "LAdventStreets$Street;") (List.mem_of_getElem? (i := 3) rfl)) (fun _ h9 => h9) rfl dX7_ahead_33 ?_
        refine lv_iload_n hx hb dX7_ahead_36 rfl (lv_at hl 2 rfl) ?_
        refine cVr (n := 2) (As := [.ref (a 0), .int (nI (d))]) (rest := []) (C := RX1) (ci := 1) (q0 := 0) (X := ([(o, .inr (7, [.ref (orw), .ref (otp), .ref (a 0), .ref (oft), .ref (oac), .ref (oim), .ref (olf), .int (nI (lf)), .int (nI (fi))])), (oft, .inr (1, [.ref (b 0), .int (ms)]))] ++ stW cA b y ++ stW cA a x)) (pl := []) (wc := ([(oft, .inr (1, [.ref (b 0), .int (ms)]))] ++ stW cA b y ++ stW cA a x)) (wr := [(o, .inr (7, [.ref (orw), .ref (otp), .ref (a 0), .ref (oft), .ref (oac), .ref (oim), .ref (olf), .int (nI (lf)), .int (nI (fi))]))]) (w1 := ([(oft, .inr (1, [.ref (b 0), .int (ms)]))] ++ stW cA b (turnN x d) ++ stW cA a x)) (wn := ([(o, .inr (7, [.ref (orw), .ref (otp), .ref (a 0), .ref (oft), .ref (oac), .ref (oim), .ref (olf), .int (nI (lf)), .int (nI (fi))])), (oft, .inr (1, [.ref (b 0), .int (ms)]))] ++ stW cA b (turnN x d) ++ stW cA a x)) (isC := [1, 2, 3, 4, 5, 6, 7, 8, 9, 10, 11, 12, 13]) (isR := [0]) (isN := [0, 1, 2, 3, 4, 5, 6, 7, 8, 9, 10, 11, 12, 13]) ⟨hx, hb, hml, hown, hts⟩ (c_X1_behind l D cA tt ms oft a b x y d (hg) (by omega) (by omega) _) gX7_ahead_X1_behind rfl (by decide +kernel) rfl rfl ⟨rfl, rfl⟩ ⟨Nat.le_of_ble_eq_true rfl, Nat.le_of_ble_eq_true rfl⟩ ⟨Nat.zero_le _, Nat.zero_le _⟩ hK hE hA hP hD hS ⟨⟨rfl, by decide⟩, ⟨rfl, by decide, by decide⟩, rfl, by decide⟩ rfl hl.1 rfl (Nat.le_of_ble_eq_true rfl) dX7_ahead_37 (fun H locs hP hD hS => ?_)
        have hP : va_P D vwCl ([(o, .inr (7, [.ref (orw), .ref (otp), .ref (a 0), .ref (oft), .ref (oac), .ref (oim), .ref (olf), .int (nI (lf)), .int (nI (fi))])), (oft, .inr (1, [.ref (b 0), .int (ms)]))] ++ stW cA b (turnN x d) ++ stW cA a x) _ := hP
        have hD : va_D A ([(o, .inr (7, [.ref (orw), .ref (otp), .ref (a 0), .ref (oft), .ref (oac), .ref (oim), .ref (olf), .int (nI (lf)), .int (nI (fi))])), (oft, .inr (1, [.ref (b 0), .int (ms)]))] ++ stW cA b (turnN x d) ++ stW cA a x) := hD
        refine lv_astore (lv' := [(4, .ref (b 0)), (0, .ref (o)), (1, .int (nI (w))), (2, .int (nI (d))), (3, .int (nI (h)))]) hx hb dX7_ahead_40 hl (by decide) rfl (fun ls hl => ?_)
        refine lv_iload_n hx hb dX7_ahead_42 rfl (lv_at hl 4 rfl) ?_
        refine lv_if_ne (tgt := 56) hx hb dX7_ahead_43 (by decide) (fun c4 => ?_) (fun c4 => ?_)
        · skip
          rw [n_z (by omega)] at c4
          refine lv_aload hx hb dX7_ahead_56 (lv_at hl 0 rfl) ?_
          refine va_getN (v := .ref (b 5)) (Ts := wsX40) (C := RX4) (T := TX4) (N := 10) hx hb hwsX40 (fun _ h => h) hown hK hP 2 rfl rfl 4 (by decide) (hE.1.f (q := ("AdventStreets", 195, "AdventStreets$Street", "seen", "[I")) 16 rfl) (fun _ h9 => h9) rfl dX7_ahead_58 ?_
          refine lv_iload_n hx hb dX7_ahead_61 rfl (lv_at hl 2 rfl) ?_
          refine r_ald (f := SS (turnN x d)) hx hb hK hP 7 rfl (i := w) (by omega) (Nat.lt_of_lt_of_le (by omega : 10 < 1073741824) (by decide)) dX7_ahead_62 ?_
          exact hend _ _ _ _ _ (turnN x d) hP hD hS (by unfold aheadR; rw [if_pos (by simp [c1, c2, c3]), e_w, e_d, e_h, nI_clamp (n := w) (by omega), nI_clamp (n := d) (by omega), if_neg (fun q => c4 ((n_z (a := h) (by omega)).mp q))]) dX7_ahead_63
        · skip
          rw [n_z (by omega)] at c4
          refine lv_aload hx hb dX7_ahead_46 (lv_at hl 0 rfl) ?_
          refine va_getN (v := .ref (b 4)) (Ts := wsX40) (C := RX4) (T := TX4) (N := 10) hx hb hwsX40 (fun _ h => h) hown hK hP 2 rfl rfl 3 (by decide) (hE.1.f (q := ("AdventStreets", 169, "AdventStreets$Street", "glues", "[I")) 14 rfl) (fun _ h9 => h9) rfl dX7_ahead_48 ?_
          refine lv_iload_n hx hb dX7_ahead_51 rfl (lv_at hl 2 rfl) ?_
          refine r_ald (f := SG (turnN x d)) hx hb hK hP 6 rfl (i := w) (by omega) (Nat.lt_of_lt_of_le (by omega : 10 < 1073741824) (by decide)) dX7_ahead_52 ?_
          refine lv_goto (tgt := 63) hx hb dX7_ahead_53 (by decide) ?_
          exact hend _ _ _ _ _ (turnN x d) hP hD hS (by unfold aheadR; rw [if_pos (by simp [c1, c2, c3]), e_w, e_d, e_h, nI_clamp (n := w) (by omega), nI_clamp (n := d) (by omega), if_pos ((n_z (a := h) (by omega)).mpr c4)]) dX7_ahead_63
      · skip
        rw [bI_z] at c3
        refine lv_ldc (v := (-1000001)) hx hb hown (hts (.constant RX7 63 (-1000001)) (List.mem_of_getElem? (i := 1) rfl)) dX7_ahead_25 ?_
        exact hend _ _ _ _ _ y hP hD hS (by unfold aheadR; rw [if_neg (by simp [c1, c2, c3])]) dX7_ahead_27
set_option maxRecDepth 100000 in
set_option maxHeartbeats 4000000 in
theorem c_X7_spots (l : Launch) (D : va_G) (cA : Nat → ClassId) (tt : Nat → Nat) (ms : Int32) (o orw otp oft oac oim olf : Nat) (a : Nat → Nat) (lf fi : Nat) (b : Nat → Nat) (x y : Sg) (pw pd : Int32) (hg : Wk x) (ht : St x + 61 < 1073741824) (sz : Nat) : CiE l D cA tt yX7_spots wsX7_spots ({ frames := 5, cells := 0, slots := 0, locals := 110 } : Room) [.ref (o), .int (pw), .int (pd)] sz ([(o, .inr (7, [.ref (orw), .ref (otp), .ref (a 0), .ref (oft), .ref (oac), .ref (oim), .ref (olf), .int (nI (lf)), .int (nI (fi))])), (oft, .inr (1, [.ref (b 0), .int (ms)]))] ++ stW cA b y ++ stW cA a x) (fun zz : Sg => ([(o, .inr (7, [.ref (orw), .ref (otp), .ref (a 0), .ref (oft), .ref (oac), .ref (oim), .ref (olf), .int (nI (lf)), .int (nI (fi))])), (oft, .inr (1, [.ref (b 0), .int (ms)]))] ++ stW cA b zz ++ stW cA a x)) (spotsR x pw pd) := by
  obtain ⟨gn, ge, gv, go, ga⟩ := id hg
  refine CiE.mk (cc := cX7_spots) (maxL := 3) (ty := .int) (by decide) rfl rfl (Nat.le_of_ble_eq_true rfl) ?_
  intro p e s m below meth c A Q ls hB hl hend
  obtain ⟨⟨hx, hb, hml, hown, hts⟩, hP, hK, hD, hS, hA, hE⟩ := hB
  have hown : s.vm.findClass RX7 = some m.cls := hown
  have hwsX70 : ∀ w9 ∈ wsX70, w9.before ([.ref (o), .int (pw), .int (pd)] : List Value).toArray s = true := fun w9 h => hts w9 (List.mem_cons_of_mem _ (List.mem_append_left _ (List.mem_append_left _ (List.mem_append_right _ h))))
  have hwsX40 : ∀ w9 ∈ wsX40, w9.before ([.ref (o), .int (pw), .int (pd)] : List Value).toArray s = true := fun w9 h => hts w9 (List.mem_cons_of_mem _ (List.mem_append_left _ (List.mem_append_right _ h)))
  have hwsX10 : ∀ w9 ∈ wsX10, w9.before ([.ref (o), .int (pw), .int (pd)] : List Value).toArray s = true := fun w9 h => hts w9 (List.mem_cons_of_mem _ (List.mem_append_right _ h))
  have hl : lv_has ls 3 [(0, .ref (o)), (1, .int (pw)), (2, .int (pd))] := hl
  refine lv_aload_n hx hb dX7_spots_0 rfl (lv_at hl 0 rfl) ?_
  refine lv_iload_n hx hb dX7_spots_1 rfl (lv_at hl 1 rfl) ?_
  refine cVi (n := 1) (As := [.int (pw)]) (rest := []) (C := RX7) (ci := 7) (q0 := 0) (X := ([(o, .inr (7, [.ref (orw), .ref (otp), .ref (a 0), .ref (oft), .ref (oac), .ref (oim), .ref (olf), .int (nI (lf)), .int (nI (fi))])), (oft, .inr (1, [.ref (b 0), .int (ms)]))] ++ stW cA b y ++ stW cA a x)) (pl := []) (wc := ([(o, .inr (7, [.ref (orw), .ref (otp), .ref (a 0), .ref (oft), .ref (oac), .ref (oim), .ref (olf), .int (nI (lf)), .int (nI (fi))]))] ++ stW cA a x)) (wr := ([(oft, .inr (1, [.ref (b 0), .int (ms)]))] ++ stW cA b y)) (w1 := ([(o, .inr (7, [.ref (orw), .ref (otp), .ref (a 0), .ref (oft), .ref (oac), .ref (oim), .ref (olf), .int (nI (lf)), .int (nI (fi))]))] ++ stW cA a x)) (wn := ([(o, .inr (7, [.ref (orw), .ref (otp), .ref (a 0), .ref (oft), .ref (oac), .ref (oim), .ref (olf), .int (nI (lf)), .int (nI (fi))])), (oft, .inr (1, [.ref (b 0), .int (ms)]))] ++ stW cA b y ++ stW cA a x)) (isC := [0, 8, 9, 10, 11, 12, 13]) (isR := [1, 2, 3, 4, 5, 6, 7]) (isN := [7, 0, 1, 2, 3, 4, 5, 6, 8, 9, 10, 11, 12, 13]) ⟨hx, hb, hml, hown, hts⟩ (c_X7_isWindow l D cA tt o orw otp oft oac oim olf a lf fi x pw (hg) _) gX7_spots_X7_isWindow rfl (by decide +kernel) rfl rfl ⟨rfl, rfl⟩ ⟨Nat.le_of_ble_eq_true rfl, Nat.le_of_ble_eq_true rfl⟩ ⟨Nat.zero_le _, Nat.zero_le _⟩ hK hE hA hP hD hS ⟨⟨rfl, by decide⟩, ⟨rfl, by decide, by decide⟩, rfl, by decide⟩ rfl hl.1 rfl (Nat.le_of_ble_eq_true rfl) dX7_spots_2 (fun H locs hP hD hS => ?_)
  have hP : va_P D vwCl ([(o, .inr (7, [.ref (orw), .ref (otp), .ref (a 0), .ref (oft), .ref (oac), .ref (oim), .ref (olf), .int (nI (lf)), .int (nI (fi))])), (oft, .inr (1, [.ref (b 0), .int (ms)]))] ++ stW cA b y ++ stW cA a x) _ := hP
  have hD : va_D A ([(o, .inr (7, [.ref (orw), .ref (otp), .ref (a 0), .ref (oft), .ref (oac), .ref (oim), .ref (olf), .int (nI (lf)), .int (nI (fi))])), (oft, .inr (1, [.ref (b 0), .int (ms)]))] ++ stW cA b y ++ stW cA a x) := hD
  refine lv_if_eq (tgt := 18) hx hb dX7_spots_5 (by decide) (fun c1 => ?_) (fun c1 => ?_)
  · skip
    rw [bI_z] at c1
    refine lv_ldc (v := (-1000001)) hx hb hown (hts (.constant RX7 63 (-1000001)) (List.mem_of_getElem? (i := 1) rfl)) dX7_spots_18 ?_
    exact hend _ _ _ _ _ y hP hD hS (by unfold spotsR; rw [if_neg (by simp [c1])]) dX7_spots_20
  · skip
    rw [bI_nz] at c1
    obtain ⟨w, e_w, l_w⟩ := inW_t (by omega) c1
    rw [e_w] at hl
    refine lv_iload_n hx hb dX7_spots_8 rfl (lv_at hl 2 rfl) ?_
    refine lv_iconst (v := nI (0)) hx hb dX7_spots_9 (by decide) ?_
    refine lv_bipush (v := nI (9)) hx hb dX7_spots_10 (by decide) ?_
    refine cSi (n := 3) (As := [.int (pd), .int (nI (0)), .int (nI (9))]) (rest := []) (X := ([(o, .inr (7, [.ref (orw), .ref (otp), .ref (a 0), .ref (oft), .ref (oac), .ref (oim), .ref (olf), .int (nI (lf)), .int (nI (fi))])), (oft, .inr (1, [.ref (b 0), .int (ms)]))] ++ stW cA b y ++ stW cA a x)) (pl := []) (wc := ([] : va_W)) (wr := ([(o, .inr (7, [.ref (orw), .ref (otp), .ref (a 0), .ref (oft), .ref (oac), .ref (oim), .ref (olf), .int (nI (lf)), .int (nI (fi))])), (oft, .inr (1, [.ref (b 0), .int (ms)]))] ++ stW cA b y ++ stW cA a x)) (w1 := ([] : va_W)) (wn := ([(o, .inr (7, [.ref (orw), .ref (otp), .ref (a 0), .ref (oft), .ref (oac), .ref (oim), .ref (olf), .int (nI (lf)), .int (nI (fi))])), (oft, .inr (1, [.ref (b 0), .int (ms)]))] ++ stW cA b y ++ stW cA a x)) (isC := []) (isR := [0, 1, 2, 3, 4, 5, 6, 7, 8, 9, 10, 11, 12, 13]) (isN := [0, 1, 2, 3, 4, 5, 6, 7, 8, 9, 10, 11, 12, 13]) ⟨hx, hb, hml, hown, hts⟩ (c_X7_isWithin l D cA tt pd (nI (0)) (nI (9))  _) gX7_spots_X7_isWithin rfl (by decide +kernel) ⟨rfl, rfl⟩ ⟨Nat.le_of_ble_eq_true rfl, Nat.le_of_ble_eq_true rfl⟩ ⟨Nat.zero_le _, Nat.zero_le _⟩ hK hE hA hP hD hS ⟨⟨rfl, by decide⟩, ⟨rfl, by decide, by decide⟩, rfl, by decide⟩ rfl hl.1 rfl (Nat.le_of_ble_eq_true rfl) dX7_spots_12 (fun H locs hP hD hS => ?_)
    have hP : va_P D vwCl ([(o, .inr (7, [.ref (orw), .ref (otp), .ref (a 0), .ref (oft), .ref (oac), .ref (oim), .ref (olf), .int (nI (lf)), .int (nI (fi))])), (oft, .inr (1, [.ref (b 0), .int (ms)]))] ++ stW cA b y ++ stW cA a x) _ := hP
    have hD : va_D A ([(o, .inr (7, [.ref (orw), .ref (otp), .ref (a 0), .ref (oft), .ref (oac), .ref (oim), .ref (olf), .int (nI (lf)), .int (nI (fi))])), (oft, .inr (1, [.ref (b 0), .int (ms)]))] ++ stW cA b y ++ stW cA a x) := hD
    refine lv_if_ne (tgt := 21) hx hb dX7_spots_15 (by decide) (fun c2 => ?_) (fun c2 => ?_)
    · skip
      rw [bI_nz] at c2
      obtain ⟨d, e_d, a_d, l_d⟩ := inI_t (by decide) c2 (by decide)
      rw [e_d] at hl
      refine lv_aload_n hx hb dX7_spots_21 rfl (lv_at hl 0 rfl) ?_
      refine va_get (v := .ref (oft)) (Ts := wsX70) (C := RX7) (T := TX7) (N := 9) hx hb hwsX70 (fun _ h => h) hown hK hP 0 rfl rfl 3 (by decide) (hts (.fieldLink RX7 33 "AdventStreets" "foretold" "LAdventStreets$Foretold;") (List.mem_of_getElem? (i := 2) rfl)) (fun _ h9 => h9) rfl dX7_spots_22 ?_
      refine lv_aload_n hx hb dX7_spots_25 rfl (lv_at hl 0 rfl) ?_
      refine va_get (v := .ref (a 0)) (Ts := wsX70) (C := RX7) (T := TX7) (N := 9) hx hb hwsX70 (fun _ h => h) hown hK hP 0 rfl rfl 2 (by decide) (hts (.fieldLink RX7 26 "AdventStreets" "now" "LAdventStreets$Street;") (List.mem_of_getElem? (i := 3) rfl)) (fun _ h9 => h9) rfl dX7_spots_26 ?_
      refine lv_iload_n hx hb dX7_spots_29 rfl (lv_at hl 1 rfl) ?_
      refine lv_iload_n hx hb dX7_spots_30 rfl (lv_at hl 2 rfl) ?_
      refine cVie (n := 3) (As := [.ref (a 0), .int (nI (w)), .int (nI (d))]) (rest := []) (C := RX1) (ci := 1) (q0 := 0) (X := ([(o, .inr (7, [.ref (orw), .ref (otp), .ref (a 0), .ref (oft), .ref (oac), .ref (oim), .ref (olf), .int (nI (lf)), .int (nI (fi))])), (oft, .inr (1, [.ref (b 0), .int (ms)]))] ++ stW cA b y ++ stW cA a x)) (pl := []) (wc := ([(oft, .inr (1, [.ref (b 0), .int (ms)]))] ++ stW cA b y ++ stW cA a x)) (wr := [(o, .inr (7, [.ref (orw), .ref (otp), .ref (a 0), .ref (oft), .ref (oac), .ref (oim), .ref (olf), .int (nI (lf)), .int (nI (fi))]))]) (w1 := (fun z3 : Sg => ([(oft, .inr (1, [.ref (b 0), .int (ms)]))] ++ stW cA b z3 ++ stW cA a x))) (wn := (fun z3 : Sg => ([(o, .inr (7, [.ref (orw), .ref (otp), .ref (a 0), .ref (oft), .ref (oac), .ref (oim), .ref (olf), .int (nI (lf)), .int (nI (fi))])), (oft, .inr (1, [.ref (b 0), .int (ms)]))] ++ stW cA b z3 ++ stW cA a x))) (isC := [1, 2, 3, 4, 5, 6, 7, 8, 9, 10, 11, 12, 13]) (isR := [0]) (isN := [0, 1, 2, 3, 4, 5, 6, 7, 8, 9, 10, 11, 12, 13]) ⟨hx, hb, hml, hown, hts⟩ (c_X1_turnsTillSeen l D cA tt ms oft a b x y w d (hg) (ht) (by omega) (by omega) _) gX7_spots_X1_turnsTillSeen rfl (by decide +kernel) rfl rfl ⟨rfl, rfl⟩ ⟨Nat.le_of_ble_eq_true rfl, Nat.le_of_ble_eq_true rfl⟩ ⟨Nat.zero_le _, Nat.zero_le _⟩ hK hE hA hP hD hS (fun z3 => ⟨⟨rfl, by decide⟩, ⟨rfl, by decide, by decide⟩, rfl, by decide⟩) rfl hl.1 rfl (Nat.le_of_ble_eq_true rfl) dX7_spots_31 (fun z3 H locs hP hD hS => ?_)
      have hP : va_P D vwCl ([(o, .inr (7, [.ref (orw), .ref (otp), .ref (a 0), .ref (oft), .ref (oac), .ref (oim), .ref (olf), .int (nI (lf)), .int (nI (fi))])), (oft, .inr (1, [.ref (b 0), .int (ms)]))] ++ stW cA b z3 ++ stW cA a x) _ := hP
      have hD : va_D A ([(o, .inr (7, [.ref (orw), .ref (otp), .ref (a 0), .ref (oft), .ref (oac), .ref (oim), .ref (olf), .int (nI (lf)), .int (nI (fi))])), (oft, .inr (1, [.ref (b 0), .int (ms)]))] ++ stW cA b z3 ++ stW cA a x) := hD
      exact hend _ _ _ _ _ z3 hP hD hS (by unfold spotsR; rw [if_pos (by simp [c1, c2]), e_w, e_d, nI_clamp (n := w) (by omega), nI_clamp (n := d) (by omega)]) dX7_spots_34
    · skip
      rw [bI_z] at c2
      refine lv_ldc (v := (-1000001)) hx hb hown (hts (.constant RX7 63 (-1000001)) (List.mem_of_getElem? (i := 1) rfl)) dX7_spots_18 ?_
      exact hend _ _ _ _ _ y hP hD hS (by unfold spotsR; rw [if_neg (by simp [c1, c2])]) dX7_spots_20
