/-! ===== Acts, Rows ===== -/
def tbN (nx kp : Nat) : Nat := if kp = 0 then nx else (nx + 24 - 1) % 24
def tbX (rs : Nat → Sg) (nx kp : Nat) (x : Sg) : Sg := if kp = 0 then x else rs ((nx + 24 - 1) % 24)
def reB (L i n : Int32) : Bool := !decide (i < 0) && !decide (n < 0) && !decide (L < n) && !decide (L - n < i)
theorem reB_1 {L i n : Int32} (h : i < 0) : reB L i n = false := by simp [reB, h]
theorem reB_2 {L i n : Int32} (h : n < 0) : reB L i n = false := by simp [reB, h]
theorem reB_3 {L i n : Int32} (h : L < n) : reB L i n = false := by simp [reB, h]
theorem reB_4 {L i n : Int32} (h : L - n < i) : reB L i n = false := by simp [reB, h]
theorem reB_t {L i n : Int32} (h1 : ¬ i < 0) (h2 : ¬ n < 0) (h3 : ¬ L < n) (h4 : ¬ L - n < i) : reB L i n = true := by unfold reB; rw [decide_eq_false h1, decide_eq_false h2, decide_eq_false h3, decide_eq_false h4]; rfl
def presL (lf : Nat → Int32) : Nat → Nat
  | 0 => 0
  | k + 1 => presL lf k + (if lf k = -1 then 0 else 1)
def narr (lane v : Int32) : Int32 := if lane = 0 then v.toInt8.toInt32 else if lane = nI 1 then v.toInt16.toInt32 else v
set_option maxRecDepth 100000 in
set_option maxHeartbeats 4000000 in
theorem c_X0_keep (l : Launch) (D : va_G) (cA : Nat → ClassId) (tt : Nat → Nat) (q qr : Nat) (a : Nat → Nat) (ra : Nat → Nat → Nat) (rs : Nat → Sg) (x : Sg) (nx kp : Nat) (hnx : nx < 24) (hkp : kp ≤ 24) (sz : Nat) : Cv l D cA tt yX0_keep wsX0_keep ({ frames := 2, cells := 0, slots := 0, locals := 81 } : Room) [.ref (q), .ref (a 0)] sz (([(q, .inr (0, [.ref (qr), .int (nI (nx)), .int (nI (kp))])), (qr, .inl (cA 1, 24, .inr (.inr (.inr (.inr (fun i => some (ra i 0)))))))] ++ stW cA a x) ++ ringW cA ra rs) (([(q, .inr (0, [.ref (qr), .int (nI ((nx + 1) % 24)), .int (nI (min 24 (kp + 1)))])), (qr, .inl (cA 1, 24, .inr (.inr (.inr (.inr (fun i => some (ra i 0)))))))] ++ stW cA a x) ++ ringW cA ra (upS rs nx x)) := by
  refine Cv.mk (cc := cX0_keep) (maxL := 2) (by decide) rfl (Nat.le_of_ble_eq_true rfl) ?_
  intro p e s m below meth c A Q ls hB hl hend
  obtain ⟨⟨hx, hb, hml, hown, hts⟩, hP, hK, hD, hS, hA, hE⟩ := hB
  have hown : s.vm.findClass RX0 = some m.cls := hown
  have hwsX00 : ∀ w9 ∈ wsX00, w9.before ([.ref (q), .ref (a 0)] : List Value).toArray s = true := fun w9 h => hts w9 (List.mem_cons_of_mem _ (List.mem_append_left _ (List.mem_append_right _ h)))
  have hwsX40 : ∀ w9 ∈ wsX40, w9.before ([.ref (q), .ref (a 0)] : List Value).toArray s = true := fun w9 h => hts w9 (List.mem_cons_of_mem _ (List.mem_append_right _ h))
  have hl : lv_has ls 2 [(0, .ref (q)), (1, .ref (a 0))] := hl
  refine lv_aload_n hx hb dX0_keep_0 rfl (lv_at hl 0 rfl) ?_
  refine va_get (v := .ref (qr)) (Ts := wsX00) (C := RX0) (T := TX0) (N := 3) hx hb hwsX00 (fun _ h => h) hown hK hP 0 rfl rfl 0 (by decide) (hts (.fieldLink RX0 11 "AdventStreets$Acts" "ring" "[LAdventStreets$Street;") (List.mem_of_getElem? (i := 1) rfl)) (fun _ h9 => h9) rfl dX0_keep_1 ?_
  refine lv_aload_n hx hb dX0_keep_4 rfl (lv_at hl 0 rfl) ?_
  refine va_get (v := .int (nI (nx))) (Ts := wsX00) (C := RX0) (T := TX0) (N := 3) hx hb hwsX00 (fun _ h => h) hown hK hP 0 rfl rfl 1 (by decide) (hts (.fieldLink RX0 18 "AdventStreets$Acts" "next" "I") (List.mem_of_getElem? (i := 2) rfl)) (fun _ h9 => h9) rfl dX0_keep_5 ?_
  refine r_aldq (x := ra nx 0) hx hb hK hP 1 1 rfl rfl rfl (i := nx) (by omega) (by decide) (rfl) dX0_keep_8 ?_
  refine lv_aload_n hx hb dX0_keep_9 rfl (lv_at hl 1 rfl) ?_
  have hP := hP.perm (ring_out (X := ([(q, .inr (0, [.ref (qr), .int (nI (nx)), .int (nI (kp))])), (qr, .inl (cA 1, 24, .inr (.inr (.inr (.inr (fun i => some (ra i 0)))))))] ++ stW cA a x)) (r := nx) hnx)
  have hD := hD.perm (ring_out (X := ([(q, .inr (0, [.ref (qr), .int (nI (nx)), .int (nI (kp))])), (qr, .inl (cA 1, 24, .inr (.inr (.inr (.inr (fun i => some (ra i 0)))))))] ++ stW cA a x)) (r := nx) hnx)
  have hP : va_P D vwCl (([(q, .inr (0, [.ref (qr), .int (nI (nx)), .int (nI (kp))])), (qr, .inl (cA 1, 24, .inr (.inr (.inr (.inr (fun i => some (ra i 0)))))))] ++ stW cA a x ++ stW cA (ra nx) (rs nx)) ++ ringR cA ra rs nx) _ := hP
  have hD : va_D A (([(q, .inr (0, [.ref (qr), .int (nI (nx)), .int (nI (kp))])), (qr, .inl (cA 1, 24, .inr (.inr (.inr (.inr (fun i => some (ra i 0)))))))] ++ stW cA a x ++ stW cA (ra nx) (rs nx)) ++ ringR cA ra rs nx) := hD
  refine cVv (n := 1) (As := [.ref (a 0)]) (rest := []) (C := RX4) (ci := 4) (q0 := 0) (X := ([(q, .inr (0, [.ref (qr), .int (nI (nx)), .int (nI (kp))])), (qr, .inl (cA 1, 24, .inr (.inr (.inr (.inr (fun i => some (ra i 0)))))))] ++ stW cA a x ++ stW cA (ra nx) (rs nx))) (pl := ringR cA ra rs nx) (wc := (stW cA (ra nx) (rs nx) ++ stW cA a x)) (wr := [(q, .inr (0, [.ref (qr), .int (nI (nx)), .int (nI (kp))])), (qr, .inl (cA 1, 24, .inr (.inr (.inr (.inr (fun i => some (ra i 0)))))))]) (w1 := (stW cA (ra nx) x ++ stW cA a x)) (wn := ([(q, .inr (0, [.ref (qr), .int (nI (nx)), .int (nI (kp))])), (qr, .inl (cA 1, 24, .inr (.inr (.inr (.inr (fun i => some (ra i 0)))))))] ++ stW cA a x ++ stW cA (ra nx) x)) (isC := [8, 9, 10, 11, 12, 13, 2, 3, 4, 5, 6, 7]) (isR := [0, 1]) (isN := [0, 1, 8, 9, 10, 11, 12, 13, 2, 3, 4, 5, 6, 7]) ⟨hx, hb, hml, hown, hts⟩ (c_X4_take l D cA tt (ra nx) a (rs nx) x  _) gX0_keep_X4_take rfl (by decide +kernel) rfl rfl ⟨rfl, rfl⟩ ⟨Nat.le_of_ble_eq_true rfl, Nat.le_of_ble_eq_true rfl⟩ ⟨Nat.zero_le _, Nat.zero_le _⟩ hK hE hA hP hD hS ⟨⟨rfl, by decide⟩, ⟨rfl, by decide, by decide⟩, rfl, by decide⟩ rfl hl.1 rfl (Nat.le_of_ble_eq_true rfl) dX0_keep_10 (fun H locs hP hD hS => ?_)
  have hP : va_P D vwCl (([(q, .inr (0, [.ref (qr), .int (nI (nx)), .int (nI (kp))])), (qr, .inl (cA 1, 24, .inr (.inr (.inr (.inr (fun i => some (ra i 0)))))))] ++ stW cA a x ++ stW cA (ra nx) x) ++ ringR cA ra rs nx) _ := hP
  have hD : va_D A (([(q, .inr (0, [.ref (qr), .int (nI (nx)), .int (nI (kp))])), (qr, .inl (cA 1, 24, .inr (.inr (.inr (.inr (fun i => some (ra i 0)))))))] ++ stW cA a x ++ stW cA (ra nx) x) ++ ringR cA ra rs nx) := hD
  have hP := hP.perm (ring_in (X := ([(q, .inr (0, [.ref (qr), .int (nI (nx)), .int (nI (kp))])), (qr, .inl (cA 1, 24, .inr (.inr (.inr (.inr (fun i => some (ra i 0)))))))] ++ stW cA a x)) (r := nx) (x := x) hnx)
  have hD := hD.perm (ring_in (X := ([(q, .inr (0, [.ref (qr), .int (nI (nx)), .int (nI (kp))])), (qr, .inl (cA 1, 24, .inr (.inr (.inr (.inr (fun i => some (ra i 0)))))))] ++ stW cA a x)) (r := nx) (x := x) hnx)
  have hP : va_P D vwCl (([(q, .inr (0, [.ref (qr), .int (nI (nx)), .int (nI (kp))])), (qr, .inl (cA 1, 24, .inr (.inr (.inr (.inr (fun i => some (ra i 0)))))))] ++ stW cA a x) ++ ringW cA ra (upS rs nx x)) _ := hP
  have hD : va_D A (([(q, .inr (0, [.ref (qr), .int (nI (nx)), .int (nI (kp))])), (qr, .inl (cA 1, 24, .inr (.inr (.inr (.inr (fun i => some (ra i 0)))))))] ++ stW cA a x) ++ ringW cA ra (upS rs nx x)) := hD
  refine lv_aload_n hx hb dX0_keep_13 rfl (lv_at hl 0 rfl) ?_
  refine lv_aload_n hx hb dX0_keep_14 rfl (lv_at hl 0 rfl) ?_
  refine va_get (v := .int (nI (nx))) (Ts := wsX00) (C := RX0) (T := TX0) (N := 3) hx hb hwsX00 (fun _ h => h) hown hK hP 0 rfl rfl 1 (by decide) (hts (.fieldLink RX0 18 "AdventStreets$Acts" "next" "I") (List.mem_of_getElem? (i := 2) rfl)) (fun _ h9 => h9) rfl dX0_keep_15 ?_
  refine lv_iconst (v := nI (1)) hx hb dX0_keep_18 (by decide) ?_
  refine lv_iadd hx hb dX0_keep_19 ?_
  refine vn_i (v := nI (nx + 1)) (nI_add _ _) ?_
  refine lv_bipush (v := nI (24)) hx hb dX0_keep_20 (by decide) ?_
  refine lv_irem hx hb dX0_keep_22 (by rw [n_z (by omega)]; omega) ?_
  refine vn_i (v := nI ((nx + 1) % 24)) (pk_rem (by omega) (by omega) (by omega)) ?_
  refine va_put (v := .int (nI ((nx + 1) % 24))) (ty := .int) (Ts := wsX00) (C := RX0) (T := TX0) (N := 3) hx hb hwsX00 (fun _ h => h) tyX0 tyX0_ok nmX0 hown hK hP hD hS 0 rfl rfl 1 (by decide) (hts (.fieldLink RX0 18 "AdventStreets$Acts" "next" "I") (List.mem_of_getElem? (i := 2) rfl)) (fun _ h9 => h9) rfl (tyX0_ok 1 (by decide)) rfl rfl (Nat.le_of_ble_eq_true rfl) dX0_keep_23 (fun H locs hP hD hS => ?_)
  have hP : va_P D vwCl (([(q, .inr (0, [.ref (qr), .int (nI ((nx + 1) % 24)), .int (nI (kp))])), (qr, .inl (cA 1, 24, .inr (.inr (.inr (.inr (fun i => some (ra i 0)))))))] ++ stW cA a x) ++ ringW cA ra (upS rs nx x)) _ := hP
  have hD : va_D A (([(q, .inr (0, [.ref (qr), .int (nI ((nx + 1) % 24)), .int (nI (kp))])), (qr, .inl (cA 1, 24, .inr (.inr (.inr (.inr (fun i => some (ra i 0)))))))] ++ stW cA a x) ++ ringW cA ra (upS rs nx x)) := hD
  refine lv_aload_n hx hb dX0_keep_26 rfl (lv_at hl 0 rfl) ?_
  refine lv_bipush (v := nI (24)) hx hb dX0_keep_27 (by decide) ?_
  refine lv_aload_n hx hb dX0_keep_29 rfl (lv_at hl 0 rfl) ?_
  refine va_get (v := .int (nI (kp))) (Ts := wsX00) (C := RX0) (T := TX0) (N := 3) hx hb hwsX00 (fun _ h => h) hown hK hP 0 rfl rfl 2 (by decide) (hts (.fieldLink RX0 26 "AdventStreets$Acts" "kept" "I") (List.mem_of_getElem? (i := 3) rfl)) (fun _ h9 => h9) rfl dX0_keep_30 ?_
  refine lv_iconst (v := nI (1)) hx hb dX0_keep_33 (by decide) ?_
  refine lv_iadd hx hb dX0_keep_34 ?_
  refine vn_i (v := nI (kp + 1)) (nI_add _ _) ?_
  refine va_mmin hx hb (hml.trans hl.1.symm) hown (hts (.methodLink RX0 29 Lib.Math.min.name) (List.mem_of_getElem? (i := 4) rfl)) (hts (.static Lib.Math.min.name) (List.mem_of_getElem? (i := 5) rfl)) (hts (.initialized "java/lang/Math") (List.mem_of_getElem? (i := 6) rfl)) (hts (.code Lib.Math.min.name Lib.Math.min.code 2 (some .int)) (List.mem_of_getElem? (i := 7) rfl)) (Nat.le_of_ble_eq_true rfl) (Nat.le_of_ble_eq_true rfl) (Nat.zero_le _) (Nat.zero_le _) dX0_keep_35 ?_
  refine vn_i (v := nI (min 24 (kp + 1))) (n_min (by omega) (by omega)) ?_
  refine va_put (v := .int (nI (min 24 (kp + 1)))) (ty := .int) (Ts := wsX00) (C := RX0) (T := TX0) (N := 3) hx hb hwsX00 (fun _ h => h) tyX0 tyX0_ok nmX0 hown hK hP hD hS 0 rfl rfl 2 (by decide) (hts (.fieldLink RX0 26 "AdventStreets$Acts" "kept" "I") (List.mem_of_getElem? (i := 3) rfl)) (fun _ h9 => h9) rfl (tyX0_ok 2 (by decide)) rfl rfl (Nat.le_of_ble_eq_true rfl) dX0_keep_38 (fun H locs hP hD hS => ?_)
  have hP : va_P D vwCl (([(q, .inr (0, [.ref (qr), .int (nI ((nx + 1) % 24)), .int (nI (min 24 (kp + 1)))])), (qr, .inl (cA 1, 24, .inr (.inr (.inr (.inr (fun i => some (ra i 0)))))))] ++ stW cA a x) ++ ringW cA ra (upS rs nx x)) _ := hP
  have hD : va_D A (([(q, .inr (0, [.ref (qr), .int (nI ((nx + 1) % 24)), .int (nI (min 24 (kp + 1)))])), (qr, .inl (cA 1, 24, .inr (.inr (.inr (.inr (fun i => some (ra i 0)))))))] ++ stW cA a x) ++ ringW cA ra (upS rs nx x)) := hD
  exact hend _ _ _ _ hP hD hS dX0_keep_41
set_option maxRecDepth 100000 in
set_option maxHeartbeats 4000000 in
theorem c_X0_takeBack (l : Launch) (D : va_G) (cA : Nat → ClassId) (tt : Nat → Nat) (q qr : Nat) (a : Nat → Nat) (ra : Nat → Nat → Nat) (rs : Nat → Sg) (x : Sg) (nx kp : Nat) (hnx : nx < 24) (hkp : kp ≤ 24) (sz : Nat) : Ci l D cA tt yX0_takeBack wsX0_takeBack ({ frames := 2, cells := 0, slots := 0, locals := 81 } : Room) [.ref (q), .ref (a 0)] sz (([(q, .inr (0, [.ref (qr), .int (nI (nx)), .int (nI (kp))])), (qr, .inl (cA 1, 24, .inr (.inr (.inr (.inr (fun i => some (ra i 0)))))))] ++ stW cA a x) ++ ringW cA ra rs) (([(q, .inr (0, [.ref (qr), .int (nI (tbN nx kp)), .int (nI (kp - 1))])), (qr, .inl (cA 1, 24, .inr (.inr (.inr (.inr (fun i => some (ra i 0)))))))] ++ stW cA a (tbX rs nx kp x)) ++ ringW cA ra rs) (bI (decide (0 < kp))) := by
  have hpv : ((nx + 24 - 1) % 24) < 24 := Nat.mod_lt _ (by decide)
  refine Ci.mk (cc := cX0_takeBack) (maxL := 2) (ty := .boolean) (by decide) rfl (bI_n _) (Nat.le_of_ble_eq_true rfl) ?_
  intro p e s m below meth c A Q ls hB hl hend
  obtain ⟨⟨hx, hb, hml, hown, hts⟩, hP, hK, hD, hS, hA, hE⟩ := hB
  have hown : s.vm.findClass RX0 = some m.cls := hown
  have hwsX00 : ∀ w9 ∈ wsX00, w9.before ([.ref (q), .ref (a 0)] : List Value).toArray s = true := fun w9 h => hts w9 (List.mem_cons_of_mem _ (List.mem_append_left _ (List.mem_append_right _ h)))
  have hwsX40 : ∀ w9 ∈ wsX40, w9.before ([.ref (q), .ref (a 0)] : List Value).toArray s = true := fun w9 h => hts w9 (List.mem_cons_of_mem _ (List.mem_append_right _ h))
  have hl : lv_has ls 2 [(0, .ref (q)), (1, .ref (a 0))] := hl
  refine lv_aload_n hx hb dX0_takeBack_0 rfl (lv_at hl 0 rfl) ?_
  refine va_get (v := .int (nI (kp))) (Ts := wsX00) (C := RX0) (T := TX0) (N := 3) hx hb hwsX00 (fun _ h => h) hown hK hP 0 rfl rfl 2 (by decide) (hts (.fieldLink RX0 26 "AdventStreets$Acts" "kept" "I") (List.mem_of_getElem? (i := 1) rfl)) (fun _ h9 => h9) rfl dX0_takeBack_1 ?_
  refine lv_if_ne (tgt := 9) hx hb dX0_takeBack_4 (by decide) (fun c1 => ?_) (fun c1 => ?_)
  · skip
    rw [n_z (by omega)] at c1
    refine lv_aload_n hx hb dX0_takeBack_9 rfl (lv_at hl 0 rfl) ?_
    refine lv_aload_n hx hb dX0_takeBack_10 rfl (lv_at hl 0 rfl) ?_
    refine va_get (v := .int (nI (nx))) (Ts := wsX00) (C := RX0) (T := TX0) (N := 3) hx hb hwsX00 (fun _ h => h) hown hK hP 0 rfl rfl 1 (by decide) (hts (.fieldLink RX0 18 "AdventStreets$Acts" "next" "I") (List.mem_of_getElem? (i := 2) rfl)) (fun _ h9 => h9) rfl dX0_takeBack_11 ?_
    refine lv_bipush (v := nI (24)) hx hb dX0_takeBack_14 (by decide) ?_
    refine lv_iadd hx hb dX0_takeBack_16 ?_
    refine vn_i (v := nI (nx + 24)) (nI_add _ _) ?_
    refine lv_iconst (v := nI (1)) hx hb dX0_takeBack_17 (by decide) ?_
    refine lv_isub hx hb dX0_takeBack_18 ?_
    refine vn_i (v := nI ((nx + 24) - 1)) (pk_sub (by omega)) ?_
    refine lv_bipush (v := nI (24)) hx hb dX0_takeBack_19 (by decide) ?_
    refine lv_irem hx hb dX0_takeBack_21 (by rw [n_z (by omega)]; omega) ?_
    refine vn_i (v := nI (((nx + 24) - 1) % 24)) (pk_rem (by omega) (by omega) (by omega)) ?_
    refine va_put (v := .int (nI (((nx + 24) - 1) % 24))) (ty := .int) (Ts := wsX00) (C := RX0) (T := TX0) (N := 3) hx hb hwsX00 (fun _ h => h) tyX0 tyX0_ok nmX0 hown hK hP hD hS 0 rfl rfl 1 (by decide) (hts (.fieldLink RX0 18 "AdventStreets$Acts" "next" "I") (List.mem_of_getElem? (i := 2) rfl)) (fun _ h9 => h9) rfl (tyX0_ok 1 (by decide)) rfl rfl (Nat.le_of_ble_eq_true rfl) dX0_takeBack_22 (fun H locs hP hD hS => ?_)
    have hP : va_P D vwCl (([(q, .inr (0, [.ref (qr), .int (nI (((nx + 24) - 1) % 24)), .int (nI (kp))])), (qr, .inl (cA 1, 24, .inr (.inr (.inr (.inr (fun i => some (ra i 0)))))))] ++ stW cA a x) ++ ringW cA ra rs) _ := hP
    have hD : va_D A (([(q, .inr (0, [.ref (qr), .int (nI (((nx + 24) - 1) % 24)), .int (nI (kp))])), (qr, .inl (cA 1, 24, .inr (.inr (.inr (.inr (fun i => some (ra i 0)))))))] ++ stW cA a x) ++ ringW cA ra rs) := hD
    refine lv_aload_n hx hb dX0_takeBack_25 rfl (lv_at hl 0 rfl) ?_
    refine lv_dup hx hb dX0_takeBack_26 rfl ?_
    refine va_get (v := .int (nI (kp))) (Ts := wsX00) (C := RX0) (T := TX0) (N := 3) hx hb hwsX00 (fun _ h => h) hown hK hP 0 rfl rfl 2 (by decide) (hts (.fieldLink RX0 26 "AdventStreets$Acts" "kept" "I") (List.mem_of_getElem? (i := 1) rfl)) (fun _ h9 => h9) rfl dX0_takeBack_27 ?_
    refine lv_iconst (v := nI (1)) hx hb dX0_takeBack_30 (by decide) ?_
    refine lv_isub hx hb dX0_takeBack_31 ?_
    refine vn_i (v := nI (kp - 1)) (pk_sub (by omega)) ?_
    refine va_put (v := .int (nI (kp - 1))) (ty := .int) (Ts := wsX00) (C := RX0) (T := TX0) (N := 3) hx hb hwsX00 (fun _ h => h) tyX0 tyX0_ok nmX0 hown hK hP hD hS 0 rfl rfl 2 (by decide) (hts (.fieldLink RX0 26 "AdventStreets$Acts" "kept" "I") (List.mem_of_getElem? (i := 1) rfl)) (fun _ h9 => h9) rfl (tyX0_ok 2 (by decide)) rfl rfl (Nat.le_of_ble_eq_true rfl) dX0_takeBack_32 (fun H locs hP hD hS => ?_)
    have hP : va_P D vwCl (([(q, .inr (0, [.ref (qr), .int (nI (((nx + 24) - 1) % 24)), .int (nI (kp - 1))])), (qr, .inl (cA 1, 24, .inr (.inr (.inr (.inr (fun i => some (ra i 0)))))))] ++ stW cA a x) ++ ringW cA ra rs) _ := hP
    have hD : va_D A (([(q, .inr (0, [.ref (qr), .int (nI (((nx + 24) - 1) % 24)), .int (nI (kp - 1))])), (qr, .inl (cA 1, 24, .inr (.inr (.inr (.inr (fun i => some (ra i 0)))))))] ++ stW cA a x) ++ ringW cA ra rs) := hD
    refine lv_aload_n hx hb dX0_takeBack_35 rfl (lv_at hl 1 rfl) ?_
    refine lv_aload_n hx hb dX0_takeBack_36 rfl (lv_at hl 0 rfl) ?_
    refine va_get (v := .ref (qr)) (Ts := wsX00) (C := RX0) (T := TX0) (N := 3) hx hb hwsX00 (fun _ h => h) hown hK hP 0 rfl rfl 0 (by decide) (hts (.fieldLink RX0 11 "AdventStreets$Acts" "ring" "[LAdventStreets$Street;") (List.mem_of_getElem? (i := 3) rfl)) (fun _ h9 => h9) rfl dX0_takeBack_37 ?_
    refine lv_aload_n hx hb dX0_takeBack_40 rfl (lv_at hl 0 rfl) ?_
    refine va_get (v := .int (nI (((nx + 24) - 1) % 24))) (Ts := wsX00) (C := RX0) (T := TX0) (N := 3) hx hb hwsX00 (fun _ h => h) hown hK hP 0 rfl rfl 1 (by decide) (hts (.fieldLink RX0 18 "AdventStreets$Acts" "next" "I") (List.mem_of_getElem? (i := 2) rfl)) (fun _ h9 => h9) rfl dX0_takeBack_41 ?_
    refine r_aldq (x := ra ((nx + 24 - 1) % 24) 0) hx hb hK hP 1 1 rfl rfl rfl (i := ((nx + 24) - 1) % 24) (by omega) (by decide) (rfl) dX0_takeBack_44 ?_
    have hP := hP.perm (ring_out (X := ([(q, .inr (0, [.ref (qr), .int (nI (((nx + 24) - 1) % 24)), .int (nI (kp - 1))])), (qr, .inl (cA 1, 24, .inr (.inr (.inr (.inr (fun i => some (ra i 0)))))))] ++ stW cA a x)) (r := ((nx + 24 - 1) % 24)) hpv)
    have hD := hD.perm (ring_out (X := ([(q, .inr (0, [.ref (qr), .int (nI (((nx + 24) - 1) % 24)), .int (nI (kp - 1))])), (qr, .inl (cA 1, 24, .inr (.inr (.inr (.inr (fun i => some (ra i 0)))))))] ++ stW cA a x)) (r := ((nx + 24 - 1) % 24)) hpv)
    have hP : va_P D vwCl (([(q, .inr (0, [.ref (qr), .int (nI (((nx + 24) - 1) % 24)), .int (nI (kp - 1))])), (qr, .inl (cA 1, 24, .inr (.inr (.inr (.inr (fun i => some (ra i 0)))))))] ++ stW cA a x ++ stW cA (ra ((nx + 24 - 1) % 24)) (rs ((nx + 24 - 1) % 24))) ++ ringR cA ra rs ((nx + 24 - 1) % 24)) _ := hP
    have hD : va_D A (([(q, .inr (0, [.ref (qr), .int (nI (((nx + 24) - 1) % 24)), .int (nI (kp - 1))])), (qr, .inl (cA 1, 24, .inr (.inr (.inr (.inr (fun i => some (ra i 0)))))))] ++ stW cA a x ++ stW cA (ra ((nx + 24 - 1) % 24)) (rs ((nx + 24 - 1) % 24))) ++ ringR cA ra rs ((nx + 24 - 1) % 24)) := hD
    refine cVv (n := 1) (As := [.ref (ra ((nx + 24 - 1) % 24) 0)]) (rest := []) (C := RX4) (ci := 4) (q0 := 0) (X := ([(q, .inr (0, [.ref (qr), .int (nI (((nx + 24) - 1) % 24)), .int (nI (kp - 1))])), (qr, .inl (cA 1, 24, .inr (.inr (.inr (.inr (fun i => some (ra i 0)))))))] ++ stW cA a x ++ stW cA (ra ((nx + 24 - 1) % 24)) (rs ((nx + 24 - 1) % 24)))) (pl := ringR cA ra rs ((nx + 24 - 1) % 24)) (wc := (stW cA a x ++ stW cA (ra ((nx + 24 - 1) % 24)) (rs ((nx + 24 - 1) % 24)))) (wr := [(q, .inr (0, [.ref (qr), .int (nI (((nx + 24) - 1) % 24)), .int (nI (kp - 1))])), (qr, .inl (cA 1, 24, .inr (.inr (.inr (.inr (fun i => some (ra i 0)))))))]) (w1 := (stW cA a (rs ((nx + 24 - 1) % 24)) ++ stW cA (ra ((nx + 24 - 1) % 24)) (rs ((nx + 24 - 1) % 24)))) (wn := ([(q, .inr (0, [.ref (qr), .int (nI (((nx + 24) - 1) % 24)), .int (nI (kp - 1))])), (qr, .inl (cA 1, 24, .inr (.inr (.inr (.inr (fun i => some (ra i 0)))))))] ++ stW cA a (rs ((nx + 24 - 1) % 24)) ++ stW cA (ra ((nx + 24 - 1) % 24)) (rs ((nx + 24 - 1) % 24)))) (isC := [2, 3, 4, 5, 6, 7, 8, 9, 10, 11, 12, 13]) (isR := [0, 1]) (isN := [0, 1, 2, 3, 4, 5, 6, 7, 8, 9, 10, 11, 12, 13]) ⟨hx, hb, hml, hown, hts⟩ (c_X4_take l D cA tt a (ra ((nx + 24 - 1) % 24)) x (rs ((nx + 24 - 1) % 24))  _) gX0_takeBack_X4_take rfl (by decide +kernel) rfl rfl ⟨rfl, rfl⟩ ⟨Nat.le_of_ble_eq_true rfl, Nat.le_of_ble_eq_true rfl⟩ ⟨Nat.zero_le _, Nat.zero_le _⟩ hK hE hA hP hD hS ⟨⟨rfl, by decide⟩, ⟨rfl, by decide, by decide⟩, rfl, by decide⟩ rfl hl.1 rfl (Nat.le_of_ble_eq_true rfl) dX0_takeBack_45 (fun H locs hP hD hS => ?_)
    have hP : va_P D vwCl (([(q, .inr (0, [.ref (qr), .int (nI (((nx + 24) - 1) % 24)), .int (nI (kp - 1))])), (qr, .inl (cA 1, 24, .inr (.inr (.inr (.inr (fun i => some (ra i 0)))))))] ++ stW cA a (rs ((nx + 24 - 1) % 24)) ++ stW cA (ra ((nx + 24 - 1) % 24)) (rs ((nx + 24 - 1) % 24))) ++ ringR cA ra rs ((nx + 24 - 1) % 24)) _ := hP
    have hD : va_D A (([(q, .inr (0, [.ref (qr), .int (nI (((nx + 24) - 1) % 24)), .int (nI (kp - 1))])), (qr, .inl (cA 1, 24, .inr (.inr (.inr (.inr (fun i => some (ra i 0)))))))] ++ stW cA a (rs ((nx + 24 - 1) % 24)) ++ stW cA (ra ((nx + 24 - 1) % 24)) (rs ((nx + 24 - 1) % 24))) ++ ringR cA ra rs ((nx + 24 - 1) % 24)) := hD
    have hP := hP.perm (ring_out (X := ([(q, .inr (0, [.ref (qr), .int (nI (((nx + 24) - 1) % 24)), .int (nI (kp - 1))])), (qr, .inl (cA 1, 24, .inr (.inr (.inr (.inr (fun i => some (ra i 0)))))))] ++ stW cA a (rs ((nx + 24 - 1) % 24)))) (r := ((nx + 24 - 1) % 24)) hpv).symm
    have hD := hD.perm (ring_out (X := ([(q, .inr (0, [.ref (qr), .int (nI (((nx + 24) - 1) % 24)), .int (nI (kp - 1))])), (qr, .inl (cA 1, 24, .inr (.inr (.inr (.inr (fun i => some (ra i 0)))))))] ++ stW cA a (rs ((nx + 24 - 1) % 24)))) (r := ((nx + 24 - 1) % 24)) hpv).symm
    have hP : va_P D vwCl (([(q, .inr (0, [.ref (qr), .int (nI (((nx + 24) - 1) % 24)), .int (nI (kp - 1))])), (qr, .inl (cA 1, 24, .inr (.inr (.inr (.inr (fun i => some (ra i 0)))))))] ++ stW cA a (rs ((nx + 24 - 1) % 24))) ++ ringW cA ra rs) _ := hP
    have hD : va_D A (([(q, .inr (0, [.ref (qr), .int (nI (((nx + 24) - 1) % 24)), .int (nI (kp - 1))])), (qr, .inl (cA 1, 24, .inr (.inr (.inr (.inr (fun i => some (ra i 0)))))))] ++ stW cA a (rs ((nx + 24 - 1) % 24))) ++ ringW cA ra rs) := hD
    refine lv_iconst (v := nI (1)) hx hb dX0_takeBack_48 (by decide) ?_
    have ef2 : ((([(q, .inr (0, [.ref (qr), .int (nI (((nx + 24) - 1) % 24)), .int (nI (kp - 1))])), (qr, .inl (cA 1, 24, .inr (.inr (.inr (.inr (fun i => some (ra i 0)))))))] ++ stW cA a (rs ((nx + 24 - 1) % 24))) ++ ringW cA ra rs) : va_W) = (([(q, .inr (0, [.ref (qr), .int (nI (tbN nx kp)), .int (nI (kp - 1))])), (qr, .inl (cA 1, 24, .inr (.inr (.inr (.inr (fun i => some (ra i 0)))))))] ++ stW cA a (tbX rs nx kp x)) ++ ringW cA ra rs) := by
      rw [show tbN nx kp = ((nx + 24 - 1) % 24) from if_neg (by omega), show tbX rs nx kp x = rs ((nx + 24 - 1) % 24) from if_neg (by omega)]
    have hP : va_P D vwCl (([(q, .inr (0, [.ref (qr), .int (nI (tbN nx kp)), .int (nI (kp - 1))])), (qr, .inl (cA 1, 24, .inr (.inr (.inr (.inr (fun i => some (ra i 0)))))))] ++ stW cA a (tbX rs nx kp x)) ++ ringW cA ra rs) _ := Eq.mp (congrArg (fun z9 => va_P D vwCl z9 _) ef2) hP
    have hD : va_D A (([(q, .inr (0, [.ref (qr), .int (nI (tbN nx kp)), .int (nI (kp - 1))])), (qr, .inl (cA 1, 24, .inr (.inr (.inr (.inr (fun i => some (ra i 0)))))))] ++ stW cA a (tbX rs nx kp x)) ++ ringW cA ra rs) := Eq.mp (congrArg (fun z9 => va_D A z9) ef2) hD
    exact hend _ _ _ _ _ hP hD hS (one_bI (decide_eq_true (by omega))) dX0_takeBack_49
  · skip
    rw [n_z (by omega)] at c1
    refine lv_iconst (v := nI (0)) hx hb dX0_takeBack_7 (by decide) ?_
    have ef3 : ((([(q, .inr (0, [.ref (qr), .int (nI (nx)), .int (nI (kp))])), (qr, .inl (cA 1, 24, .inr (.inr (.inr (.inr (fun i => some (ra i 0)))))))] ++ stW cA a x) ++ ringW cA ra rs) : va_W) = (([(q, .inr (0, [.ref (qr), .int (nI (tbN nx kp)), .int (nI (kp - 1))])), (qr, .inl (cA 1, 24, .inr (.inr (.inr (.inr (fun i => some (ra i 0)))))))] ++ stW cA a (tbX rs nx kp x)) ++ ringW cA ra rs) := by
      rw [show tbN nx kp = nx from if_pos (by omega), show tbX rs nx kp x = x from if_pos (by omega), show kp - 1 = kp by omega]
    have hP : va_P D vwCl (([(q, .inr (0, [.ref (qr), .int (nI (tbN nx kp)), .int (nI (kp - 1))])), (qr, .inl (cA 1, 24, .inr (.inr (.inr (.inr (fun i => some (ra i 0)))))))] ++ stW cA a (tbX rs nx kp x)) ++ ringW cA ra rs) _ := Eq.mp (congrArg (fun z9 => va_P D vwCl z9 _) ef3) hP
    have hD : va_D A (([(q, .inr (0, [.ref (qr), .int (nI (tbN nx kp)), .int (nI (kp - 1))])), (qr, .inl (cA 1, 24, .inr (.inr (.inr (.inr (fun i => some (ra i 0)))))))] ++ stW cA a (tbX rs nx kp x)) ++ ringW cA ra rs) := Eq.mp (congrArg (fun z9 => va_D A z9) ef3) hD
    exact hend _ _ _ _ _ hP hD hS (zero_bI (decide_eq_false (by omega))) dX0_takeBack_8
set_option maxRecDepth 100000 in
set_option maxHeartbeats 4000000 in
theorem c_X0_forget (l : Launch) (D : va_G) (cA : Nat → ClassId) (tt : Nat → Nat) (q qr nx kp : Nat)  (sz : Nat) : Cv l D cA tt yX0_forget wsX0_forget ({ frames := 0, cells := 0, slots := 0, locals := 0 } : Room) [.ref (q)] sz [(q, .inr (0, [.ref (qr), .int (nI (nx)), .int (nI (kp))]))] [(q, .inr (0, [.ref (qr), .int (nI (nx)), .int (nI (0))]))] := by
  refine Cv.mk (cc := cX0_forget) (maxL := 1) (by decide) rfl (Nat.le_of_ble_eq_true rfl) ?_
  intro p e s m below meth c A Q ls hB hl hend
  obtain ⟨⟨hx, hb, hml, hown, hts⟩, hP, hK, hD, hS, hA, hE⟩ := hB
  have hown : s.vm.findClass RX0 = some m.cls := hown
  have hwsX00 : ∀ w9 ∈ wsX00, w9.before ([.ref (q)] : List Value).toArray s = true := fun w9 h => hts w9 (List.mem_cons_of_mem _ (List.mem_append_right _ h))
  have hl : lv_has ls 1 [(0, .ref (q))] := hl
  refine lv_aload_n hx hb dX0_forget_0 rfl (lv_at hl 0 rfl) ?_
  refine lv_iconst (v := nI (0)) hx hb dX0_forget_1 (by decide) ?_
  refine va_put (v := .int (nI (0))) (ty := .int) (Ts := wsX00) (C := RX0) (T := TX0) (N := 3) hx hb hwsX00 (fun _ h => h) tyX0 tyX0_ok nmX0 hown hK hP hD hS 0 rfl rfl 2 (by decide) (hts (.fieldLink RX0 26 "AdventStreets$Acts" "kept" "I") (List.mem_of_getElem? (i := 1) rfl)) (fun _ h9 => h9) rfl (tyX0_ok 2 (by decide)) rfl rfl (Nat.le_of_ble_eq_true rfl) dX0_forget_2 (fun H locs hP hD hS => ?_)
  have hP : va_P D vwCl [(q, .inr (0, [.ref (qr), .int (nI (nx)), .int (nI (0))]))] _ := hP
  have hD : va_D A [(q, .inr (0, [.ref (qr), .int (nI (nx)), .int (nI (0))]))] := hD
  exact hend _ _ _ _ hP hD hS dX0_forget_5
set_option maxRecDepth 100000 in
set_option maxHeartbeats 4000000 in
theorem c_X3_isMissing (l : Launch) (D : va_G) (cA : Nat → ClassId) (tt : Nat → Nat) (q ql qn qi : Nat) (lf : Nat → Int32) (r : Nat) (hr : r < 8) (sz : Nat) : Ci l D cA tt yX3_isMissing wsX3_isMissing ({ frames := 0, cells := 0, slots := 0, locals := 0 } : Room) [.ref (q), .int (nI (r))] sz [(q, .inr (3, [.ref (ql), .ref (qn), .ref (qi)])), (ql, .inl (cA 0, 8, .inl lf))] [(q, .inr (3, [.ref (ql), .ref (qn), .ref (qi)])), (ql, .inl (cA 0, 8, .inl lf))] (bI (decide (lf r = -1))) := by
  refine Ci.mk (cc := cX3_isMissing) (maxL := 2) (ty := .boolean) (by decide) rfl (bI_n _) (Nat.le_of_ble_eq_true rfl) ?_
  intro p e s m below meth c A Q ls hB hl hend
  obtain ⟨⟨hx, hb, hml, hown, hts⟩, hP, hK, hD, hS, hA, hE⟩ := hB
  have hown : s.vm.findClass RX3 = some m.cls := hown
  have hwsX30 : ∀ w9 ∈ wsX30, w9.before ([.ref (q), .int (nI (r))] : List Value).toArray s = true := fun w9 h => hts w9 (List.mem_cons_of_mem _ (List.mem_append_right _ h))
  have hl : lv_has ls 2 [(0, .ref (q)), (1, .int (nI (r)))] := hl
  refine lv_aload_n hx hb dX3_isMissing_0 rfl (lv_at hl 0 rfl) ?_
  refine va_get (v := .ref (ql)) (Ts := wsX30) (C := RX3) (T := TX3) (N := 3) hx hb hwsX30 (fun _ h => h) hown hK hP 0 rfl rfl 0 (by decide) (hts (.fieldLink RX3 9 "AdventStreets$Rows" "lanes" "[I") (List.mem_of_getElem? (i := 1) rfl)) (fun _ h9 => h9) rfl dX3_isMissing_1 ?_
  refine lv_iload_n hx hb dX3_isMissing_4 rfl (lv_at hl 1 rfl) ?_
  refine r_aldI (f := lf) hx hb hK hP 1 rfl (i := r) (by omega) (Nat.lt_of_lt_of_le (by omega : 8 < 1073741824) (by decide)) dX3_isMissing_5 ?_
  refine lv_iconst (v := (-1)) hx hb dX3_isMissing_6 (by decide) ?_
  refine lv_icmp_ne (tgt := 14) hx hb dX3_isMissing_7 (by decide) (fun c1 => ?_) (fun c1 => ?_)
  · skip
    refine lv_iconst (v := nI (0)) hx hb dX3_isMissing_14 (by decide) ?_
    exact hend _ _ _ _ _ hP hD hS (zero_bI (decide_eq_false c1)) dX3_isMissing_15
  · skip
    refine lv_iconst (v := nI (1)) hx hb dX3_isMissing_10 (by decide) ?_
    refine lv_goto (tgt := 15) hx hb dX3_isMissing_11 (by decide) ?_
    exact hend _ _ _ _ _ hP hD hS (one_bI (decide_eq_true c1)) dX3_isMissing_15
set_option maxRecDepth 100000 in
set_option maxHeartbeats 4000000 in
theorem c_X3_reaches (l : Launch) (D : va_G) (cA : Nat → ClassId) (tt : Nat → Nat) (q ql qn qi : Nat) (nf : Nat → Nat) (r : Nat) (i n : Int32) (hr : r < 8) (sz : Nat) : Ci l D cA tt yX3_reaches wsX3_reaches ({ frames := 0, cells := 0, slots := 0, locals := 0 } : Room) [.ref (q), .int (nI (r)), .int (i), .int (n)] sz [(q, .inr (3, [.ref (ql), .ref (qn), .ref (qi)])), (qn, .inl (cA 0, 8, arN nf))] [(q, .inr (3, [.ref (ql), .ref (qn), .ref (qi)])), (qn, .inl (cA 0, 8, arN nf))] (bI (reB (nI (nf r)) i n)) := by
  refine Ci.mk (cc := cX3_reaches) (maxL := 4) (ty := .boolean) (by decide) rfl (bI_n _) (Nat.le_of_ble_eq_true rfl) ?_
  intro p e s m below meth c A Q ls hB hl hend
  obtain ⟨⟨hx, hb, hml, hown, hts⟩, hP, hK, hD, hS, hA, hE⟩ := hB
  have hown : s.vm.findClass RX3 = some m.cls := hown
  have hwsX30 : ∀ w9 ∈ wsX30, w9.before ([.ref (q), .int (nI (r)), .int (i), .int (n)] : List Value).toArray s = true := fun w9 h => hts w9 (List.mem_cons_of_mem _ (List.mem_append_right _ h))
  have hl : lv_has ls 4 [(0, .ref (q)), (1, .int (nI (r))), (2, .int (i)), (3, .int (n))] := hl
  refine lv_iload_n hx hb dX3_reaches_0 rfl (lv_at hl 2 rfl) ?_
  refine lv_if_lt (tgt := 34) hx hb dX3_reaches_1 (by decide) (fun c1 => ?_) (fun c1 => ?_)
  · skip
    refine lv_iconst (v := nI (0)) hx hb dX3_reaches_34 (by decide) ?_
    exact hend _ _ _ _ _ hP hD hS (zero_bI (reB_1 c1)) dX3_reaches_35
  · skip
    refine lv_iload_n hx hb dX3_reaches_4 rfl (lv_at hl 3 rfl) ?_
    refine lv_if_lt (tgt := 34) hx hb dX3_reaches_5 (by decide) (fun c2 => ?_) (fun c2 => ?_)
    · skip
      refine lv_iconst (v := nI (0)) hx hb dX3_reaches_34 (by decide) ?_
      exact hend _ _ _ _ _ hP hD hS (zero_bI (reB_2 c2)) dX3_reaches_35
    · skip
      refine lv_iload_n hx hb dX3_reaches_8 rfl (lv_at hl 3 rfl) ?_
      refine lv_aload_n hx hb dX3_reaches_9 rfl (lv_at hl 0 rfl) ?_
      refine va_get (v := .ref (qn)) (Ts := wsX30) (C := RX3) (T := TX3) (N := 3) hx hb hwsX30 (fun _ h => h) hown hK hP 0 rfl rfl 1 (by decide) (hts (.fieldLink RX3 15 "AdventStreets$Rows" "lengths" "[I") (List.mem_of_getElem? (i := 1) rfl)) (fun _ h9 => h9) rfl dX3_reaches_10 ?_
      refine lv_iload_n hx hb dX3_reaches_13 rfl (lv_at hl 1 rfl) ?_
      refine r_ald (f := nf) hx hb hK hP 1 rfl (i := r) (by omega) (Nat.lt_of_lt_of_le (by omega : 8 < 1073741824) (by decide)) dX3_reaches_14 ?_
      refine lv_icmp_gt (tgt := 34) hx hb dX3_reaches_15 (by decide) (fun c3 => ?_) (fun c3 => ?_)
      · skip
        refine lv_iconst (v := nI (0)) hx hb dX3_reaches_34 (by decide) ?_
        exact hend _ _ _ _ _ hP hD hS (zero_bI (reB_3 c3)) dX3_reaches_35
      · skip
        refine lv_iload_n hx hb dX3_reaches_18 rfl (lv_at hl 2 rfl) ?_
        refine lv_aload_n hx hb dX3_reaches_19 rfl (lv_at hl 0 rfl) ?_
        refine va_get (v := .ref (qn)) (Ts := wsX30) (C := RX3) (T := TX3) (N := 3) hx hb hwsX30 (fun _ h => h) hown hK hP 0 rfl rfl 1 (by decide) (hts (.fieldLink RX3 15 "AdventStreets$Rows" "lengths" "[I") (List.mem_of_getElem? (i := 1) rfl)) (fun _ h9 => h9) rfl dX3_reaches_20 ?_
        refine lv_iload_n hx hb dX3_reaches_23 rfl (lv_at hl 1 rfl) ?_
        refine r_ald (f := nf) hx hb hK hP 1 rfl (i := r) (by omega) (Nat.lt_of_lt_of_le (by omega : 8 < 1073741824) (by decide)) dX3_reaches_24 ?_
        refine lv_iload_n hx hb dX3_reaches_25 rfl (lv_at hl 3 rfl) ?_
        refine lv_isub hx hb dX3_reaches_26 ?_
        refine lv_icmp_gt (tgt := 34) hx hb dX3_reaches_27 (by decide) (fun c4 => ?_) (fun c4 => ?_)
        · skip
          refine lv_iconst (v := nI (0)) hx hb dX3_reaches_34 (by decide) ?_
          exact hend _ _ _ _ _ hP hD hS (zero_bI (reB_4 c4)) dX3_reaches_35
        · skip
          refine lv_iconst (v := nI (1)) hx hb dX3_reaches_30 (by decide) ?_
          refine lv_goto (tgt := 35) hx hb dX3_reaches_31 (by decide) ?_
          exact hend _ _ _ _ _ hP hD hS (one_bI (reB_t c1 c2 c3 c4)) dX3_reaches_35
set_option maxRecDepth 100000 in
set_option maxHeartbeats 4000000 in
theorem c_X3_present (l : Launch) (D : va_G) (cA : Nat → ClassId) (tt : Nat → Nat) (q ql qn qi : Nat) (lf : Nat → Int32)  (sz : Nat) : Ci l D cA tt yX3_present wsX3_present ({ frames := 1, cells := 0, slots := 0, locals := 21 } : Room) [.ref (q)] sz [(q, .inr (3, [.ref (ql), .ref (qn), .ref (qi)])), (ql, .inl (cA 0, 8, .inl lf))] [(q, .inr (3, [.ref (ql), .ref (qn), .ref (qi)])), (ql, .inl (cA 0, 8, .inl lf))] (nI (presL lf 8)) := by
  refine Ci.mk (cc := cX3_present) (maxL := 3) (ty := .int) (by decide) rfl rfl (Nat.le_of_ble_eq_true rfl) ?_
  intro p e s m below meth c A Q ls hB hl hend
  obtain ⟨⟨hx, hb, hml, hown, hts⟩, hP, hK, hD, hS, hA, hE⟩ := hB
  have hown : s.vm.findClass RX3 = some m.cls := hown
  have hwsX30 : ∀ w9 ∈ wsX30, w9.before ([.ref (q)] : List Value).toArray s = true := fun w9 h => hts w9 (List.mem_cons_of_mem _ (List.mem_append_right _ h))
  have hl : lv_has ls 3 [(0, .ref (q))] := hl
  refine lv_iconst (v := nI (0)) hx hb dX3_present_0 (by decide) ?_
  refine lv_istore_n (lv' := [(1, .int (nI (0))), (0, .ref (q))]) hx hb dX3_present_1 rfl hl (by decide) rfl (fun ls hl => ?_)
  refine lv_iconst (v := nI (0)) hx hb dX3_present_2 (by decide) ?_
  refine lv_istore_n (lv' := [(2, .int (nI (0))), (1, .int (nI (0))), (0, .ref (q))]) hx hb dX3_present_3 rfl hl (by decide) rfl (fun ls hl => ?_)
  have loop4 : ∀ (N4 : Nat) (i : Nat), (i ≤ 8) → (8 - i) < N4 → ∀ (H : Heap) (locs : List Loc) (ls : Array Slot), va_P D vwCl [(q, .inr (3, [.ref (ql), .ref (qn), .ref (qi)])), (ql, .inl (cA 0, 8, .inl lf))] H → va_D A [(q, .inr (3, [.ref (ql), .ref (qn), .ref (qi)])), (ql, .inl (cA 0, 8, .inl lf))] → va_S A s.heap H locs → lv_has ls 3 [(2, .int (nI (i))), (1, .int (nI (presL lf i))), (0, .ref (q))] → W p l e ({ frames := 1, cells := 0, slots := 0, locals := 21 } : Room) s m ([.ref (q)] : List Value).toArray below meth c H locs 0 0 Q (F0 m 4 ls []) := by
    intro N4
    induction N4 with
    | zero => intro i iv4_0 hN; exact absurd hN (Nat.not_lt_zero _)
    | succ N4 ih4 =>
      intro i iv4_0 hN4 H locs ls hP hD hS hl
      refine lv_iload_n hx hb dX3_present_4 rfl (lv_at hl 0 rfl) ?_
      refine lv_bipush (v := nI (8)) hx hb dX3_present_5 (by decide) ?_
      refine lv_icmp_ge (tgt := 32) hx hb dX3_present_7 (by decide) (fun c2 => ?_) (fun c2 => ?_)
      · skip
        rw [nI_leI (by omega) (by omega)] at c2
        refine lv_iload_n hx hb dX3_present_32 rfl (lv_at hl 1 rfl) ?_
        exact hend _ _ _ _ _ hP hD hS (by rw [show i = 8 by omega]) dX3_present_33
      · skip
        rw [nI_leI (by omega) (by omega)] at c2
        refine lv_iload_n hx hb dX3_present_10 rfl (lv_at hl 1 rfl) ?_
        refine lv_aload_n hx hb dX3_present_11 rfl (lv_at hl 2 rfl) ?_
        refine lv_iload_n hx hb dX3_present_12 rfl (lv_at hl 0 rfl) ?_
        refine cVi (n := 1) (As := [.int (nI (i))]) (rest := [.int (nI (presL lf i))]) (C := RX3) (ci := 3) (q0 := 0) (X := [(q, .inr (3, [.ref (ql), .ref (qn), .ref (qi)])), (ql, .inl (cA 0, 8, .inl lf))]) (pl := []) (wc := [(q, .inr (3, [.ref (ql), .ref (qn), .ref (qi)])), (ql, .inl (cA 0, 8, .inl lf))]) (wr := ([] : va_W)) (w1 := [(q, .inr (3, [.ref (ql), .ref (qn), .ref (qi)])), (ql, .inl (cA 0, 8, .inl lf))]) (wn := [(q, .inr (3, [.ref (ql), .ref (qn), .ref (qi)])), (ql, .inl (cA 0, 8, .inl lf))]) (isC := [0, 1]) (isR := []) (isN := [0, 1]) ⟨hx, hb, hml, hown, hts⟩ (c_X3_isMissing l D cA tt q ql qn qi lf i (by omega) _) gX3_present_X3_isMissing rfl (by decide +kernel) rfl rfl ⟨rfl, rfl⟩ ⟨Nat.le_of_ble_eq_true rfl, Nat.le_of_ble_eq_true rfl⟩ ⟨Nat.zero_le _, Nat.zero_le _⟩ hK hE hA hP hD hS ⟨⟨rfl, by decide⟩, ⟨rfl, by decide, by decide⟩, rfl, by decide⟩ rfl hl.1 rfl (Nat.le_of_ble_eq_true rfl) dX3_present_13 (fun H locs hP hD hS => ?_)
        have hP : va_P D vwCl [(q, .inr (3, [.ref (ql), .ref (qn), .ref (qi)])), (ql, .inl (cA 0, 8, .inl lf))] _ := hP
        have hD : va_D A [(q, .inr (3, [.ref (ql), .ref (qn), .ref (qi)])), (ql, .inl (cA 0, 8, .inl lf))] := hD
        refine lv_if_eq (tgt := 23) hx hb dX3_present_16 (by decide) (fun c3 => ?_) (fun c3 => ?_)
        · skip
          rw [bI_z] at c3
          refine lv_iconst (v := nI (1)) hx hb dX3_present_23 (by decide) ?_
          refine lv_iadd hx hb dX3_present_24 ?_
          refine vn_i (v := nI (presL lf i + 1)) (nI_add _ _) ?_
          refine lv_istore_n (lv' := [(1, .int (nI (presL lf i + 1))), (2, .int (nI (i))), (0, .ref (q))]) hx hb dX3_present_25 rfl hl (by decide) rfl (fun ls hl => ?_)
          refine lv_iinc (v := nI (i + 1)) (lv' := [(2, .int (nI (i + 1))), (1, .int (nI (presL lf i + 1))), (0, .ref (q))]) hx hb dX3_present_26 hl (k := 1) rfl (nI_add _ _) (by decide) rfl (fun ls hl => ?_)
          refine lv_goto (tgt := 4) hx hb dX3_present_29 (by decide) ?_
          have hl9 := lv_sub (l' := [(2, .int (nI (i + 1))), (1, .int (nI (presL lf i + 1))), (0, .ref (q))]) hl [0, 1, 2] rfl
          have el4 : (.int (nI (presL lf i + 1)) : Value) = .int (nI (presL lf (i + 1))) := by
            have q9 := of_decide_eq_false c3
            simp [presL, q9]
          have hl9 : lv_has ls 3 [(2, .int (nI (i + 1))), (1, .int (nI (presL lf (i + 1)))), (0, .ref (q))] := Eq.mp (congrArg (fun z9 => lv_has ls 3 [(2, .int (nI (i + 1))), (1, z9), (0, .ref (q))]) el4) hl9
          exact ih4 (i + 1) (by omega) (by omega) _ _ _ hP hD hS hl9
        · skip
          rw [bI_nz] at c3
          refine lv_iconst (v := nI (0)) hx hb dX3_present_19 (by decide) ?_
          refine lv_goto (tgt := 24) hx hb dX3_present_20 (by decide) ?_
          refine lv_iadd hx hb dX3_present_24 ?_
          refine vn_i (v := nI (presL lf i + 0)) (nI_add _ _) ?_
          refine lv_istore_n (lv' := [(1, .int (nI (presL lf i + 0))), (2, .int (nI (i))), (0, .ref (q))]) hx hb dX3_present_25 rfl hl (by decide) rfl (fun ls hl => ?_)
          refine lv_iinc (v := nI (i + 1)) (lv' := [(2, .int (nI (i + 1))), (1, .int (nI (presL lf i + 0))), (0, .ref (q))]) hx hb dX3_present_26 hl (k := 1) rfl (nI_add _ _) (by decide) rfl (fun ls hl => ?_)
          refine lv_goto (tgt := 4) hx hb dX3_present_29 (by decide) ?_
          have hl9 := lv_sub (l' := [(2, .int (nI (i + 1))), (1, .int (nI (presL lf i + 0))), (0, .ref (q))]) hl [0, 1, 2] rfl
          have el5 : (.int (nI (presL lf i + 0)) : Value) = .int (nI (presL lf (i + 1))) := by
            have q9 := of_decide_eq_true c3
            simp [presL, q9]
          have hl9 : lv_has ls 3 [(2, .int (nI (i + 1))), (1, .int (nI (presL lf (i + 1)))), (0, .ref (q))] := Eq.mp (congrArg (fun z9 => lv_has ls 3 [(2, .int (nI (i + 1))), (1, z9), (0, .ref (q))]) el5) hl9
          exact ih4 (i + 1) (by omega) (by omega) _ _ _ hP hD hS hl9
  have hl9 := lv_sub (l' := [(2, .int (nI (0))), (1, .int (nI (0))), (0, .ref (q))]) hl [0, 1, 2] rfl
  have el6 : (.int (nI (0)) : Value) = .int (nI (presL lf 0)) := by
    rfl
  have hl9 : lv_has ls 3 [(2, .int (nI (0))), (1, .int (nI (presL lf 0))), (0, .ref (q))] := Eq.mp (congrArg (fun z9 => lv_has ls 3 [(2, .int (nI (0))), (1, z9), (0, .ref (q))]) el6) hl9
  exact loop4 _ 0 (by omega) (Nat.lt_succ_self _) _ _ _ hP hD hS hl9
set_option maxRecDepth 100000 in
set_option maxHeartbeats 4000000 in
theorem c_X3_make (l : Launch) (D : va_G) (cA : Nat → ClassId) (tt : Nat → Nat) (q ql qn qi : Nat) (ga : Nat → Nat) (lf : Nat → Int32) (nf : Nat → Nat) (gf : Nat → Nat → Int32) (r la n : Nat) (hr : r < 8) (sz : Nat) : Cv l D cA tt yX3_make wsX3_make ({ frames := 1, cells := 0, slots := 0, locals := 23 } : Room) [.ref (q), .int (nI (r)), .int (nI (la)), .int (nI (n))] sz ([(q, .inr (3, [.ref (ql), .ref (qn), .ref (qi)])), (ql, .inl (cA 0, 8, .inl lf)), (qn, .inl (cA 0, 8, arN nf)), (qi, .inl (cA 2, 8, .inr (.inr (.inr (.inr (fun i => some (ga i)))))))] ++ gridW cA ga gf) ([(q, .inr (3, [.ref (ql), .ref (qn), .ref (qi)])), (ql, .inl (cA 0, 8, .inl (upd lf r (nI la)))), (qn, .inl (cA 0, 8, arN (upN nf r n))), (qi, .inl (cA 2, 8, .inr (.inr (.inr (.inr (fun i => some (ga i)))))))] ++ gridW cA ga (upI gf r (fun _ => nI 0))) := by
  refine Cv.mk (cc := cX3_make) (maxL := 4) (by decide) rfl (Nat.le_of_ble_eq_true rfl) ?_
  intro p e s m below meth c A Q ls hB hl hend
  obtain ⟨⟨hx, hb, hml, hown, hts⟩, hP, hK, hD, hS, hA, hE⟩ := hB
  have hown : s.vm.findClass RX3 = some m.cls := hown
  have hwsX30 : ∀ w9 ∈ wsX30, w9.before ([.ref (q), .int (nI (r)), .int (nI (la)), .int (nI (n))] : List Value).toArray s = true := fun w9 h => hts w9 (List.mem_cons_of_mem _ (List.mem_append_right _ h))
  have hl : lv_has ls 4 [(0, .ref (q)), (1, .int (nI (r))), (2, .int (nI (la))), (3, .int (nI (n)))] := hl
  refine lv_aload_n hx hb dX3_make_0 rfl (lv_at hl 0 rfl) ?_
  refine va_get (v := .ref (ql)) (Ts := wsX30) (C := RX3) (T := TX3) (N := 3) hx hb hwsX30 (fun _ h => h) hown hK hP 0 rfl rfl 0 (by decide) (hts (.fieldLink RX3 9 "AdventStreets$Rows" "lanes" "[I") (List.mem_of_getElem? (i := 1) rfl)) (fun _ h9 => h9) rfl dX3_make_1 ?_
  refine lv_iload_n hx hb dX3_make_4 rfl (lv_at hl 1 rfl) ?_
  refine lv_iload_n hx hb dX3_make_5 rfl (lv_at hl 2 rfl) ?_
  refine r_astI (f := lf) hx hb hK hP hD hS 1 rfl (i := r) (x := nI (la)) (by omega) (Nat.lt_of_lt_of_le (by omega : 8 < 1073741824) (by decide)) dX3_make_6 (fun H locs hP hD hS => ?_)
  have hP : va_P D vwCl ([(q, .inr (3, [.ref (ql), .ref (qn), .ref (qi)])), (ql, .inl (cA 0, 8, .inl (upd lf r (nI (la))))), (qn, .inl (cA 0, 8, arN nf)), (qi, .inl (cA 2, 8, .inr (.inr (.inr (.inr (fun i => some (ga i)))))))] ++ gridW cA ga gf) _ := hP
  have hD : va_D A ([(q, .inr (3, [.ref (ql), .ref (qn), .ref (qi)])), (ql, .inl (cA 0, 8, .inl (upd lf r (nI (la))))), (qn, .inl (cA 0, 8, arN nf)), (qi, .inl (cA 2, 8, .inr (.inr (.inr (.inr (fun i => some (ga i)))))))] ++ gridW cA ga gf) := hD
  refine lv_aload_n hx hb dX3_make_7 rfl (lv_at hl 0 rfl) ?_
  refine va_get (v := .ref (qn)) (Ts := wsX30) (C := RX3) (T := TX3) (N := 3) hx hb hwsX30 (fun _ h => h) hown hK hP 0 rfl rfl 1 (by decide) (hts (.fieldLink RX3 15 "AdventStreets$Rows" "lengths" "[I") (List.mem_of_getElem? (i := 2) rfl)) (fun _ h9 => h9) rfl dX3_make_8 ?_
  refine lv_iload_n hx hb dX3_make_11 rfl (lv_at hl 1 rfl) ?_
  refine lv_iload_n hx hb dX3_make_12 rfl (lv_at hl 3 rfl) ?_
  refine r_ast (f := nf) hx hb hK hP hD hS 2 rfl (i := r) (by omega) (Nat.lt_of_lt_of_le (by omega : 8 < 1073741824) (by decide)) dX3_make_13 (fun H locs hP hD hS => ?_)
  have hP : va_P D vwCl ([(q, .inr (3, [.ref (ql), .ref (qn), .ref (qi)])), (ql, .inl (cA 0, 8, .inl (upd lf r (nI (la))))), (qn, .inl (cA 0, 8, arN (upN nf r n))), (qi, .inl (cA 2, 8, .inr (.inr (.inr (.inr (fun i => some (ga i)))))))] ++ gridW cA ga gf) _ := hP
  have hD : va_D A ([(q, .inr (3, [.ref (ql), .ref (qn), .ref (qi)])), (ql, .inl (cA 0, 8, .inl (upd lf r (nI (la))))), (qn, .inl (cA 0, 8, arN (upN nf r n))), (qi, .inl (cA 2, 8, .inr (.inr (.inr (.inr (fun i => some (ga i)))))))] ++ gridW cA ga gf) := hD
  refine lv_aload_n hx hb dX3_make_14 rfl (lv_at hl 0 rfl) ?_
  refine va_get (v := .ref (qi)) (Ts := wsX30) (C := RX3) (T := TX3) (N := 3) hx hb hwsX30 (fun _ h => h) hown hK hP 0 rfl rfl 2 (by decide) (hts (.fieldLink RX3 20 "AdventStreets$Rows" "items" "[[I") (List.mem_of_getElem? (i := 3) rfl)) (fun _ h9 => h9) rfl dX3_make_15 ?_
  refine lv_iload_n hx hb dX3_make_18 rfl (lv_at hl 1 rfl) ?_
  refine r_aldq (x := ga r) hx hb hK hP 3 2 rfl rfl rfl (i := r) (by omega) (by decide) (rfl) dX3_make_19 ?_
  refine lv_iconst (v := nI (0)) hx hb dX3_make_20 (by decide) ?_
  have hP := hP.perm (grid_out (X := [(q, .inr (3, [.ref (ql), .ref (qn), .ref (qi)])), (ql, .inl (cA 0, 8, .inl (upd lf r (nI (la))))), (qn, .inl (cA 0, 8, arN (upN nf r n))), (qi, .inl (cA 2, 8, .inr (.inr (.inr (.inr (fun i => some (ga i)))))))]) (r := r) hr)
  have hD := hD.perm (grid_out (X := [(q, .inr (3, [.ref (ql), .ref (qn), .ref (qi)])), (ql, .inl (cA 0, 8, .inl (upd lf r (nI (la))))), (qn, .inl (cA 0, 8, arN (upN nf r n))), (qi, .inl (cA 2, 8, .inr (.inr (.inr (.inr (fun i => some (ga i)))))))]) (r := r) hr)
  have hP : va_P D vwCl ([(q, .inr (3, [.ref (ql), .ref (qn), .ref (qi)])), (ql, .inl (cA 0, 8, .inl (upd lf r (nI (la))))), (qn, .inl (cA 0, 8, arN (upN nf r n))), (qi, .inl (cA 2, 8, .inr (.inr (.inr (.inr (fun i => some (ga i))))))), (ga r, .inl (cA 0, 40, .inl (gf r)))] ++ gridR cA ga gf r) _ := hP
  have hD : va_D A ([(q, .inr (3, [.ref (ql), .ref (qn), .ref (qi)])), (ql, .inl (cA 0, 8, .inl (upd lf r (nI (la))))), (qn, .inl (cA 0, 8, arN (upN nf r n))), (qi, .inl (cA 2, 8, .inr (.inr (.inr (.inr (fun i => some (ga i))))))), (ga r, .inl (cA 0, 40, .inl (gf r)))] ++ gridR cA ga gf r) := hD
  refine cSv (n := 2) (As := [.ref (ga r), .int (nI (0))]) (rest := []) (X := [(q, .inr (3, [.ref (ql), .ref (qn), .ref (qi)])), (ql, .inl (cA 0, 8, .inl (upd lf r (nI (la))))), (qn, .inl (cA 0, 8, arN (upN nf r n))), (qi, .inl (cA 2, 8, .inr (.inr (.inr (.inr (fun i => some (ga i))))))), (ga r, .inl (cA 0, 40, .inl (gf r)))]) (pl := gridR cA ga gf r) (wc := [(ga r, .inl (cA 0, 40, .inl (gf r)))]) (wr := [(q, .inr (3, [.ref (ql), .ref (qn), .ref (qi)])), (ql, .inl (cA 0, 8, .inl (upd lf r (nI (la))))), (qn, .inl (cA 0, 8, arN (upN nf r n))), (qi, .inl (cA 2, 8, .inr (.inr (.inr (.inr (fun i => some (ga i)))))))]) (w1 := [(ga r, .inl (cA 0, 40, .inl (fun _ => (nI (0)))))]) (wn := [(q, .inr (3, [.ref (ql), .ref (qn), .ref (qi)])), (ql, .inl (cA 0, 8, .inl (upd lf r (nI (la))))), (qn, .inl (cA 0, 8, arN (upN nf r n))), (qi, .inl (cA 2, 8, .inr (.inr (.inr (.inr (fun i => some (ga i))))))), (ga r, .inl (cA 0, 40, .inl (fun _ => (nI (0)))))]) (isC := [4]) (isR := [0, 1, 2, 3]) (isN := [0, 1, 2, 3, 4]) ⟨hx, hb, hml, hown, hts⟩ (c_J7_fill_53178 l D cA tt (ga r) 40 (gf r) (nI (0)) (by omega) _) gX3_make_J7_fill_53178 rfl (by decide +kernel) ⟨rfl, rfl⟩ ⟨Nat.le_of_ble_eq_true rfl, Nat.le_of_ble_eq_true rfl⟩ ⟨Nat.zero_le _, Nat.zero_le _⟩ hK hE hA hP hD hS ⟨⟨rfl, by decide⟩, ⟨rfl, by decide, by decide⟩, rfl, by decide⟩ rfl hl.1 rfl (Nat.le_of_ble_eq_true rfl) dX3_make_21 (fun H locs hP hD hS => ?_)
  have hP : va_P D vwCl ([(q, .inr (3, [.ref (ql), .ref (qn), .ref (qi)])), (ql, .inl (cA 0, 8, .inl (upd lf r (nI (la))))), (qn, .inl (cA 0, 8, arN (upN nf r n))), (qi, .inl (cA 2, 8, .inr (.inr (.inr (.inr (fun i => some (ga i))))))), (ga r, .inl (cA 0, 40, .inl (fun _ => (nI (0)))))] ++ gridR cA ga gf r) _ := hP
  have hD : va_D A ([(q, .inr (3, [.ref (ql), .ref (qn), .ref (qi)])), (ql, .inl (cA 0, 8, .inl (upd lf r (nI (la))))), (qn, .inl (cA 0, 8, arN (upN nf r n))), (qi, .inl (cA 2, 8, .inr (.inr (.inr (.inr (fun i => some (ga i))))))), (ga r, .inl (cA 0, 40, .inl (fun _ => (nI (0)))))] ++ gridR cA ga gf r) := hD
  have hP : va_P D vwCl (([(q, .inr (3, [.ref (ql), .ref (qn), .ref (qi)])), (ql, .inl (cA 0, 8, .inl (upd lf r (nI (la))))), (qn, .inl (cA 0, 8, arN (upN nf r n))), (qi, .inl (cA 2, 8, .inr (.inr (.inr (.inr (fun i => some (ga i)))))))] ++ ([(ga r, .inl (cA 0, 40, .inl (fun _ => (nI (0)))))] : va_W)) ++ gridR cA ga gf r) _ := hP
  have hP := hP.perm (grid_in (X := [(q, .inr (3, [.ref (ql), .ref (qn), .ref (qi)])), (ql, .inl (cA 0, 8, .inl (upd lf r (nI (la))))), (qn, .inl (cA 0, 8, arN (upN nf r n))), (qi, .inl (cA 2, 8, .inr (.inr (.inr (.inr (fun i => some (ga i)))))))]) (r := r) (x := fun _ => (nI (0))) hr)
  have hD : va_D A (([(q, .inr (3, [.ref (ql), .ref (qn), .ref (qi)])), (ql, .inl (cA 0, 8, .inl (upd lf r (nI (la))))), (qn, .inl (cA 0, 8, arN (upN nf r n))), (qi, .inl (cA 2, 8, .inr (.inr (.inr (.inr (fun i => some (ga i)))))))] ++ ([(ga r, .inl (cA 0, 40, .inl (fun _ => (nI (0)))))] : va_W)) ++ gridR cA ga gf r)  := hD
  have hD := hD.perm (grid_in (X := [(q, .inr (3, [.ref (ql), .ref (qn), .ref (qi)])), (ql, .inl (cA 0, 8, .inl (upd lf r (nI (la))))), (qn, .inl (cA 0, 8, arN (upN nf r n))), (qi, .inl (cA 2, 8, .inr (.inr (.inr (.inr (fun i => some (ga i)))))))]) (r := r) (x := fun _ => (nI (0))) hr)
  have hP : va_P D vwCl ([(q, .inr (3, [.ref (ql), .ref (qn), .ref (qi)])), (ql, .inl (cA 0, 8, .inl (upd lf r (nI (la))))), (qn, .inl (cA 0, 8, arN (upN nf r n))), (qi, .inl (cA 2, 8, .inr (.inr (.inr (.inr (fun i => some (ga i)))))))] ++ gridW cA ga (upI gf r (fun _ => (nI (0))))) _ := hP
  have hD : va_D A ([(q, .inr (3, [.ref (ql), .ref (qn), .ref (qi)])), (ql, .inl (cA 0, 8, .inl (upd lf r (nI (la))))), (qn, .inl (cA 0, 8, arN (upN nf r n))), (qi, .inl (cA 2, 8, .inr (.inr (.inr (.inr (fun i => some (ga i)))))))] ++ gridW cA ga (upI gf r (fun _ => (nI (0))))) := hD
  exact hend _ _ _ _ hP hD hS dX3_make_24
set_option maxRecDepth 100000 in
set_option maxHeartbeats 4000000 in
theorem c_X3_put (l : Launch) (D : va_G) (cA : Nat → ClassId) (tt : Nat → Nat) (q ql qn qi : Nat) (ga : Nat → Nat) (lf : Nat → Int32) (gf : Nat → Nat → Int32) (r i : Nat) (v : Int32) (hr : r < 8) (hi : i < 40) (sz : Nat) : Ci l D cA tt yX3_put wsX3_put ({ frames := 0, cells := 0, slots := 0, locals := 0 } : Room) [.ref (q), .int (nI (r)), .int (nI (i)), .int (v)] sz ([(q, .inr (3, [.ref (ql), .ref (qn), .ref (qi)])), (ql, .inl (cA 0, 8, .inl lf)), (qi, .inl (cA 2, 8, .inr (.inr (.inr (.inr (fun i => some (ga i)))))))] ++ gridW cA ga gf) ([(q, .inr (3, [.ref (ql), .ref (qn), .ref (qi)])), (ql, .inl (cA 0, 8, .inl lf)), (qi, .inl (cA 2, 8, .inr (.inr (.inr (.inr (fun i => some (ga i)))))))] ++ gridW cA ga (upI gf r (upd (gf r) i (narr (lf r) v)))) (narr (lf r) v) := by
  refine Ci.mk (cc := cX3_put) (maxL := 5) (ty := .int) (by decide) rfl rfl (Nat.le_of_ble_eq_true rfl) ?_
  intro p e s m below meth c A Q ls hB hl hend
  obtain ⟨⟨hx, hb, hml, hown, hts⟩, hP, hK, hD, hS, hA, hE⟩ := hB
  have hown : s.vm.findClass RX3 = some m.cls := hown
  have hwsX30 : ∀ w9 ∈ wsX30, w9.before ([.ref (q), .int (nI (r)), .int (nI (i)), .int (v)] : List Value).toArray s = true := fun w9 h => hts w9 (List.mem_cons_of_mem _ (List.mem_append_right _ h))
  have hl : lv_has ls 5 [(0, .ref (q)), (1, .int (nI (r))), (2, .int (nI (i))), (3, .int (v))] := hl
  refine lv_aload_n hx hb dX3_put_0 rfl (lv_at hl 0 rfl) ?_
  refine va_get (v := .ref (ql)) (Ts := wsX30) (C := RX3) (T := TX3) (N := 3) hx hb hwsX30 (fun _ h => h) hown hK hP 0 rfl rfl 0 (by decide) (hts (.fieldLink RX3 9 "AdventStreets$Rows" "lanes" "[I") (List.mem_of_getElem? (i := 1) rfl)) (fun _ h9 => h9) rfl dX3_put_1 ?_
  refine lv_iload_n hx hb dX3_put_4 rfl (lv_at hl 1 rfl) ?_
  refine r_aldI (f := lf) hx hb hK hP 1 rfl (i := r) (by omega) (Nat.lt_of_lt_of_le (by omega : 8 < 1073741824) (by decide)) dX3_put_5 ?_
  refine lv_istore (lv' := [(4, .int (lf r)), (0, .ref (q)), (1, .int (nI (r))), (2, .int (nI (i))), (3, .int (v))]) hx hb dX3_put_6 hl (by decide) rfl (fun ls hl => ?_)
  refine lv_aload_n hx hb dX3_put_8 rfl (lv_at hl 1 rfl) ?_
  refine va_get (v := .ref (qi)) (Ts := wsX30) (C := RX3) (T := TX3) (N := 3) hx hb hwsX30 (fun _ h => h) hown hK hP 0 rfl rfl 2 (by decide) (hts (.fieldLink RX3 20 "AdventStreets$Rows" "items" "[[I") (List.mem_of_getElem? (i := 2) rfl)) (fun _ h9 => h9) rfl dX3_put_9 ?_
  refine lv_iload_n hx hb dX3_put_12 rfl (lv_at hl 2 rfl) ?_
  refine r_aldq (x := ga r) hx hb hK hP 2 2 rfl rfl rfl (i := r) (by omega) (by decide) (rfl) dX3_put_13 ?_
  have hP := hP.perm (grid_out (X := [(q, .inr (3, [.ref (ql), .ref (qn), .ref (qi)])), (ql, .inl (cA 0, 8, .inl lf)), (qi, .inl (cA 2, 8, .inr (.inr (.inr (.inr (fun i => some (ga i)))))))]) (r := r) hr)
  have hD := hD.perm (grid_out (X := [(q, .inr (3, [.ref (ql), .ref (qn), .ref (qi)])), (ql, .inl (cA 0, 8, .inl lf)), (qi, .inl (cA 2, 8, .inr (.inr (.inr (.inr (fun i => some (ga i)))))))]) (r := r) hr)
  have hP : va_P D vwCl ([(q, .inr (3, [.ref (ql), .ref (qn), .ref (qi)])), (ql, .inl (cA 0, 8, .inl lf)), (qi, .inl (cA 2, 8, .inr (.inr (.inr (.inr (fun i => some (ga i))))))), (ga r, .inl (cA 0, 40, .inl (gf r)))] ++ gridR cA ga gf r) _ := hP
  have hD : va_D A ([(q, .inr (3, [.ref (ql), .ref (qn), .ref (qi)])), (ql, .inl (cA 0, 8, .inl lf)), (qi, .inl (cA 2, 8, .inr (.inr (.inr (.inr (fun i => some (ga i))))))), (ga r, .inl (cA 0, 40, .inl (gf r)))] ++ gridR cA ga gf r) := hD
  refine lv_iload_n hx hb dX3_put_14 rfl (lv_at hl 3 rfl) ?_
  refine lv_iload hx hb dX3_put_15 (lv_at hl 0 rfl) ?_
  refine lv_if_ne (tgt := 25) hx hb dX3_put_17 (by decide) (fun c1 => ?_) (fun c1 => ?_)
  · skip
    refine lv_iload hx hb dX3_put_25 (lv_at hl 0 rfl) ?_
    refine lv_iconst (v := nI (1)) hx hb dX3_put_27 (by decide) ?_
    refine lv_icmp_ne (tgt := 36) hx hb dX3_put_28 (by decide) (fun c2 => ?_) (fun c2 => ?_)
    · skip
      refine lv_iload_n hx hb dX3_put_36 rfl (lv_at hl 4 rfl) ?_
      refine r_astI (f := gf r) hx hb hK hP hD hS 3 rfl (i := i) (x := v) (by omega) (Nat.lt_of_lt_of_le (by omega : 40 < 1073741824) (by decide)) dX3_put_37 (fun H locs hP hD hS => ?_)
      have hP : va_P D vwCl ([(q, .inr (3, [.ref (ql), .ref (qn), .ref (qi)])), (ql, .inl (cA 0, 8, .inl lf)), (qi, .inl (cA 2, 8, .inr (.inr (.inr (.inr (fun i => some (ga i))))))), (ga r, .inl (cA 0, 40, .inl (upd (gf r) i v)))] ++ gridR cA ga gf r) _ := hP
      have hD : va_D A ([(q, .inr (3, [.ref (ql), .ref (qn), .ref (qi)])), (ql, .inl (cA 0, 8, .inl lf)), (qi, .inl (cA 2, 8, .inr (.inr (.inr (.inr (fun i => some (ga i))))))), (ga r, .inl (cA 0, 40, .inl (upd (gf r) i v)))] ++ gridR cA ga gf r) := hD
      refine lv_aload_n hx hb dX3_put_38 rfl (lv_at hl 1 rfl) ?_
      refine va_get (v := .ref (qi)) (Ts := wsX30) (C := RX3) (T := TX3) (N := 3) hx hb hwsX30 (fun _ h => h) hown hK hP 0 rfl rfl 2 (by decide) (hts (.fieldLink RX3 20 "AdventStreets$Rows" "items" "[[I") (List.mem_of_getElem? (i := 2) rfl)) (fun _ h9 => h9) rfl dX3_put_39 ?_
      refine lv_iload_n hx hb dX3_put_42 rfl (lv_at hl 2 rfl) ?_
      refine r_aldq (x := ga r) hx hb hK hP 2 2 rfl rfl rfl (i := r) (by omega) (by decide) (rfl) dX3_put_43 ?_
      refine lv_iload_n hx hb dX3_put_44 rfl (lv_at hl 3 rfl) ?_
      refine r_aldI (f := upd (gf r) i v) hx hb hK hP 3 rfl (i := i) (by omega) (Nat.lt_of_lt_of_le (by omega : 40 < 1073741824) (by decide)) dX3_put_45 ?_
      have hP : va_P D vwCl (([(q, .inr (3, [.ref (ql), .ref (qn), .ref (qi)])), (ql, .inl (cA 0, 8, .inl lf)), (qi, .inl (cA 2, 8, .inr (.inr (.inr (.inr (fun i => some (ga i)))))))] ++ ([(ga r, .inl (cA 0, 40, .inl (upd (gf r) i v)))] : va_W)) ++ gridR cA ga gf r) _ := hP
      have hP := hP.perm (grid_in (X := [(q, .inr (3, [.ref (ql), .ref (qn), .ref (qi)])), (ql, .inl (cA 0, 8, .inl lf)), (qi, .inl (cA 2, 8, .inr (.inr (.inr (.inr (fun i => some (ga i)))))))]) (r := r) (x := upd (gf r) i v) hr)
      have hD : va_D A (([(q, .inr (3, [.ref (ql), .ref (qn), .ref (qi)])), (ql, .inl (cA 0, 8, .inl lf)), (qi, .inl (cA 2, 8, .inr (.inr (.inr (.inr (fun i => some (ga i)))))))] ++ ([(ga r, .inl (cA 0, 40, .inl (upd (gf r) i v)))] : va_W)) ++ gridR cA ga gf r)  := hD
      have hD := hD.perm (grid_in (X := [(q, .inr (3, [.ref (ql), .ref (qn), .ref (qi)])), (ql, .inl (cA 0, 8, .inl lf)), (qi, .inl (cA 2, 8, .inr (.inr (.inr (.inr (fun i => some (ga i)))))))]) (r := r) (x := upd (gf r) i v) hr)
      have hP : va_P D vwCl ([(q, .inr (3, [.ref (ql), .ref (qn), .ref (qi)])), (ql, .inl (cA 0, 8, .inl lf)), (qi, .inl (cA 2, 8, .inr (.inr (.inr (.inr (fun i => some (ga i)))))))] ++ gridW cA ga (upI gf r (upd (gf r) i v))) _ := hP
      have hD : va_D A ([(q, .inr (3, [.ref (ql), .ref (qn), .ref (qi)])), (ql, .inl (cA 0, 8, .inl lf)), (qi, .inl (cA 2, 8, .inr (.inr (.inr (.inr (fun i => some (ga i)))))))] ++ gridW cA ga (upI gf r (upd (gf r) i v))) := hD
      have ef3 : (([(q, .inr (3, [.ref (ql), .ref (qn), .ref (qi)])), (ql, .inl (cA 0, 8, .inl lf)), (qi, .inl (cA 2, 8, .inr (.inr (.inr (.inr (fun i => some (ga i)))))))] ++ gridW cA ga (upI gf r (upd (gf r) i v))) : va_W) = ([(q, .inr (3, [.ref (ql), .ref (qn), .ref (qi)])), (ql, .inl (cA 0, 8, .inl lf)), (qi, .inl (cA 2, 8, .inr (.inr (.inr (.inr (fun i => some (ga i)))))))] ++ gridW cA ga (upI gf r (upd (gf r) i (narr (lf r) v)))) := by
        simp [narr, show ¬ nI 1 = 0 by decide, c1, c2]
      have hP : va_P D vwCl ([(q, .inr (3, [.ref (ql), .ref (qn), .ref (qi)])), (ql, .inl (cA 0, 8, .inl lf)), (qi, .inl (cA 2, 8, .inr (.inr (.inr (.inr (fun i => some (ga i)))))))] ++ gridW cA ga (upI gf r (upd (gf r) i (narr (lf r) v)))) _ := Eq.mp (congrArg (fun z9 => va_P D vwCl z9 _) ef3) hP
      have hD : va_D A ([(q, .inr (3, [.ref (ql), .ref (qn), .ref (qi)])), (ql, .inl (cA 0, 8, .inl lf)), (qi, .inl (cA 2, 8, .inr (.inr (.inr (.inr (fun i => some (ga i)))))))] ++ gridW cA ga (upI gf r (upd (gf r) i (narr (lf r) v)))) := Eq.mp (congrArg (fun z9 => va_D A z9) ef3) hD
      exact hend _ _ _ _ _ hP hD hS (by rw [pk_us]; simp [narr, show ¬ nI 1 = 0 by decide, c1, c2]) dX3_put_46
    · skip
      refine lv_iload_n hx hb dX3_put_31 rfl (lv_at hl 4 rfl) ?_
      refine lv_i2s (v := (v).toInt16.toInt32) hx hb dX3_put_32 rfl ?_
      refine lv_goto (tgt := 37) hx hb dX3_put_33 (by decide) ?_
      refine r_astI (f := gf r) hx hb hK hP hD hS 3 rfl (i := i) (x := (v).toInt16.toInt32) (by omega) (Nat.lt_of_lt_of_le (by omega : 40 < 1073741824) (by decide)) dX3_put_37 (fun H locs hP hD hS => ?_)
      have hP : va_P D vwCl ([(q, .inr (3, [.ref (ql), .ref (qn), .ref (qi)])), (ql, .inl (cA 0, 8, .inl lf)), (qi, .inl (cA 2, 8, .inr (.inr (.inr (.inr (fun i => some (ga i))))))), (ga r, .inl (cA 0, 40, .inl (upd (gf r) i ((v).toInt16.toInt32))))] ++ gridR cA ga gf r) _ := hP
      have hD : va_D A ([(q, .inr (3, [.ref (ql), .ref (qn), .ref (qi)])), (ql, .inl (cA 0, 8, .inl lf)), (qi, .inl (cA 2, 8, .inr (.inr (.inr (.inr (fun i => some (ga i))))))), (ga r, .inl (cA 0, 40, .inl (upd (gf r) i ((v).toInt16.toInt32))))] ++ gridR cA ga gf r) := hD
      refine lv_aload_n hx hb dX3_put_38 rfl (lv_at hl 1 rfl) ?_
      refine va_get (v := .ref (qi)) (Ts := wsX30) (C := RX3) (T := TX3) (N := 3) hx hb hwsX30 (fun _ h => h) hown hK hP 0 rfl rfl 2 (by decide) (hts (.fieldLink RX3 20 "AdventStreets$Rows" "items" "[[I") (List.mem_of_getElem? (i := 2) rfl)) (fun _ h9 => h9) rfl dX3_put_39 ?_
      refine lv_iload_n hx hb dX3_put_42 rfl (lv_at hl 2 rfl) ?_
      refine r_aldq (x := ga r) hx hb hK hP 2 2 rfl rfl rfl (i := r) (by omega) (by decide) (rfl) dX3_put_43 ?_
      refine lv_iload_n hx hb dX3_put_44 rfl (lv_at hl 3 rfl) ?_
      refine r_aldI (f := upd (gf r) i ((v).toInt16.toInt32)) hx hb hK hP 3 rfl (i := i) (by omega) (Nat.lt_of_lt_of_le (by omega : 40 < 1073741824) (by decide)) dX3_put_45 ?_
      have hP : va_P D vwCl (([(q, .inr (3, [.ref (ql), .ref (qn), .ref (qi)])), (ql, .inl (cA 0, 8, .inl lf)), (qi, .inl (cA 2, 8, .inr (.inr (.inr (.inr (fun i => some (ga i)))))))] ++ ([(ga r, .inl (cA 0, 40, .inl (upd (gf r) i ((v).toInt16.toInt32))))] : va_W)) ++ gridR cA ga gf r) _ := hP
      have hP := hP.perm (grid_in (X := [(q, .inr (3, [.ref (ql), .ref (qn), .ref (qi)])), (ql, .inl (cA 0, 8, .inl lf)), (qi, .inl (cA 2, 8, .inr (.inr (.inr (.inr (fun i => some (ga i)))))))]) (r := r) (x := upd (gf r) i ((v).toInt16.toInt32)) hr)
      have hD : va_D A (([(q, .inr (3, [.ref (ql), .ref (qn), .ref (qi)])), (ql, .inl (cA 0, 8, .inl lf)), (qi, .inl (cA 2, 8, .inr (.inr (.inr (.inr (fun i => some (ga i)))))))] ++ ([(ga r, .inl (cA 0, 40, .inl (upd (gf r) i ((v).toInt16.toInt32))))] : va_W)) ++ gridR cA ga gf r)  := hD
      have hD := hD.perm (grid_in (X := [(q, .inr (3, [.ref (ql), .ref (qn), .ref (qi)])), (ql, .inl (cA 0, 8, .inl lf)), (qi, .inl (cA 2, 8, .inr (.inr (.inr (.inr (fun i => some (ga i)))))))]) (r := r) (x := upd (gf r) i ((v).toInt16.toInt32)) hr)
      have hP : va_P D vwCl ([(q, .inr (3, [.ref (ql), .ref (qn), .ref (qi)])), (ql, .inl (cA 0, 8, .inl lf)), (qi, .inl (cA 2, 8, .inr (.inr (.inr (.inr (fun i => some (ga i)))))))] ++ gridW cA ga (upI gf r (upd (gf r) i ((v).toInt16.toInt32)))) _ := hP
      have hD : va_D A ([(q, .inr (3, [.ref (ql), .ref (qn), .ref (qi)])), (ql, .inl (cA 0, 8, .inl lf)), (qi, .inl (cA 2, 8, .inr (.inr (.inr (.inr (fun i => some (ga i)))))))] ++ gridW cA ga (upI gf r (upd (gf r) i ((v).toInt16.toInt32)))) := hD
      have ef4 : (([(q, .inr (3, [.ref (ql), .ref (qn), .ref (qi)])), (ql, .inl (cA 0, 8, .inl lf)), (qi, .inl (cA 2, 8, .inr (.inr (.inr (.inr (fun i => some (ga i)))))))] ++ gridW cA ga (upI gf r (upd (gf r) i ((v).toInt16.toInt32)))) : va_W) = ([(q, .inr (3, [.ref (ql), .ref (qn), .ref (qi)])), (ql, .inl (cA 0, 8, .inl lf)), (qi, .inl (cA 2, 8, .inr (.inr (.inr (.inr (fun i => some (ga i)))))))] ++ gridW cA ga (upI gf r (upd (gf r) i (narr (lf r) v)))) := by
        simp [narr, show ¬ nI 1 = 0 by decide, c1, c2]
      have hP : va_P D vwCl ([(q, .inr (3, [.ref (ql), .ref (qn), .ref (qi)])), (ql, .inl (cA 0, 8, .inl lf)), (qi, .inl (cA 2, 8, .inr (.inr (.inr (.inr (fun i => some (ga i)))))))] ++ gridW cA ga (upI gf r (upd (gf r) i (narr (lf r) v)))) _ := Eq.mp (congrArg (fun z9 => va_P D vwCl z9 _) ef4) hP
      have hD : va_D A ([(q, .inr (3, [.ref (ql), .ref (qn), .ref (qi)])), (ql, .inl (cA 0, 8, .inl lf)), (qi, .inl (cA 2, 8, .inr (.inr (.inr (.inr (fun i => some (ga i)))))))] ++ gridW cA ga (upI gf r (upd (gf r) i (narr (lf r) v)))) := Eq.mp (congrArg (fun z9 => va_D A z9) ef4) hD
      exact hend _ _ _ _ _ hP hD hS (by rw [pk_us]; simp [narr, show ¬ nI 1 = 0 by decide, c1, c2]) dX3_put_46
  · skip
    refine lv_iload_n hx hb dX3_put_20 rfl (lv_at hl 4 rfl) ?_
    refine lv_i2b (v := (v).toInt8.toInt32) hx hb dX3_put_21 rfl ?_
    refine lv_goto (tgt := 37) hx hb dX3_put_22 (by decide) ?_
    refine r_astI (f := gf r) hx hb hK hP hD hS 3 rfl (i := i) (x := (v).toInt8.toInt32) (by omega) (Nat.lt_of_lt_of_le (by omega : 40 < 1073741824) (by decide)) dX3_put_37 (fun H locs hP hD hS => ?_)
    have hP : va_P D vwCl ([(q, .inr (3, [.ref (ql), .ref (qn), .ref (qi)])), (ql, .inl (cA 0, 8, .inl lf)), (qi, .inl (cA 2, 8, .inr (.inr (.inr (.inr (fun i => some (ga i))))))), (ga r, .inl (cA 0, 40, .inl (upd (gf r) i ((v).toInt8.toInt32))))] ++ gridR cA ga gf r) _ := hP
    have hD : va_D A ([(q, .inr (3, [.ref (ql), .ref (qn), .ref (qi)])), (ql, .inl (cA 0, 8, .inl lf)), (qi, .inl (cA 2, 8, .inr (.inr (.inr (.inr (fun i => some (ga i))))))), (ga r, .inl (cA 0, 40, .inl (upd (gf r) i ((v).toInt8.toInt32))))] ++ gridR cA ga gf r) := hD
    refine lv_aload_n hx hb dX3_put_38 rfl (lv_at hl 1 rfl) ?_
    refine va_get (v := .ref (qi)) (Ts := wsX30) (C := RX3) (T := TX3) (N := 3) hx hb hwsX30 (fun _ h => h) hown hK hP 0 rfl rfl 2 (by decide) (hts (.fieldLink RX3 20 "AdventStreets$Rows" "items" "[[I") (List.mem_of_getElem? (i := 2) rfl)) (fun _ h9 => h9) rfl dX3_put_39 ?_
    refine lv_iload_n hx hb dX3_put_42 rfl (lv_at hl 2 rfl) ?_
    refine r_aldq (x := ga r) hx hb hK hP 2 2 rfl rfl rfl (i := r) (by omega) (by decide) (rfl) dX3_put_43 ?_
    refine lv_iload_n hx hb dX3_put_44 rfl (lv_at hl 3 rfl) ?_
    refine r_aldI (f := upd (gf r) i ((v).toInt8.toInt32)) hx hb hK hP 3 rfl (i := i) (by omega) (Nat.lt_of_lt_of_le (by omega : 40 < 1073741824) (by decide)) dX3_put_45 ?_
    have hP : va_P D vwCl (([(q, .inr (3, [.ref (ql), .ref (qn), .ref (qi)])), (ql, .inl (cA 0, 8, .inl lf)), (qi, .inl (cA 2, 8, .inr (.inr (.inr (.inr (fun i => some (ga i)))))))] ++ ([(ga r, .inl (cA 0, 40, .inl (upd (gf r) i ((v).toInt8.toInt32))))] : va_W)) ++ gridR cA ga gf r) _ := hP
    have hP := hP.perm (grid_in (X := [(q, .inr (3, [.ref (ql), .ref (qn), .ref (qi)])), (ql, .inl (cA 0, 8, .inl lf)), (qi, .inl (cA 2, 8, .inr (.inr (.inr (.inr (fun i => some (ga i)))))))]) (r := r) (x := upd (gf r) i ((v).toInt8.toInt32)) hr)
    have hD : va_D A (([(q, .inr (3, [.ref (ql), .ref (qn), .ref (qi)])), (ql, .inl (cA 0, 8, .inl lf)), (qi, .inl (cA 2, 8, .inr (.inr (.inr (.inr (fun i => some (ga i)))))))] ++ ([(ga r, .inl (cA 0, 40, .inl (upd (gf r) i ((v).toInt8.toInt32))))] : va_W)) ++ gridR cA ga gf r)  := hD
    have hD := hD.perm (grid_in (X := [(q, .inr (3, [.ref (ql), .ref (qn), .ref (qi)])), (ql, .inl (cA 0, 8, .inl lf)), (qi, .inl (cA 2, 8, .inr (.inr (.inr (.inr (fun i => some (ga i)))))))]) (r := r) (x := upd (gf r) i ((v).toInt8.toInt32)) hr)
    have hP : va_P D vwCl ([(q, .inr (3, [.ref (ql), .ref (qn), .ref (qi)])), (ql, .inl (cA 0, 8, .inl lf)), (qi, .inl (cA 2, 8, .inr (.inr (.inr (.inr (fun i => some (ga i)))))))] ++ gridW cA ga (upI gf r (upd (gf r) i ((v).toInt8.toInt32)))) _ := hP
    have hD : va_D A ([(q, .inr (3, [.ref (ql), .ref (qn), .ref (qi)])), (ql, .inl (cA 0, 8, .inl lf)), (qi, .inl (cA 2, 8, .inr (.inr (.inr (.inr (fun i => some (ga i)))))))] ++ gridW cA ga (upI gf r (upd (gf r) i ((v).toInt8.toInt32)))) := hD
    have ef5 : (([(q, .inr (3, [.ref (ql), .ref (qn), .ref (qi)])), (ql, .inl (cA 0, 8, .inl lf)), (qi, .inl (cA 2, 8, .inr (.inr (.inr (.inr (fun i => some (ga i)))))))] ++ gridW cA ga (upI gf r (upd (gf r) i ((v).toInt8.toInt32)))) : va_W) = ([(q, .inr (3, [.ref (ql), .ref (qn), .ref (qi)])), (ql, .inl (cA 0, 8, .inl lf)), (qi, .inl (cA 2, 8, .inr (.inr (.inr (.inr (fun i => some (ga i)))))))] ++ gridW cA ga (upI gf r (upd (gf r) i (narr (lf r) v)))) := by
      simp [narr, show ¬ nI 1 = 0 by decide, c1]
    have hP : va_P D vwCl ([(q, .inr (3, [.ref (ql), .ref (qn), .ref (qi)])), (ql, .inl (cA 0, 8, .inl lf)), (qi, .inl (cA 2, 8, .inr (.inr (.inr (.inr (fun i => some (ga i)))))))] ++ gridW cA ga (upI gf r (upd (gf r) i (narr (lf r) v)))) _ := Eq.mp (congrArg (fun z9 => va_P D vwCl z9 _) ef5) hP
    have hD : va_D A ([(q, .inr (3, [.ref (ql), .ref (qn), .ref (qi)])), (ql, .inl (cA 0, 8, .inl lf)), (qi, .inl (cA 2, 8, .inr (.inr (.inr (.inr (fun i => some (ga i)))))))] ++ gridW cA ga (upI gf r (upd (gf r) i (narr (lf r) v)))) := Eq.mp (congrArg (fun z9 => va_D A z9) ef5) hD
    exact hend _ _ _ _ _ hP hD hS (by rw [pk_us]; simp [narr, show ¬ nI 1 = 0 by decide, c1]) dX3_put_46
