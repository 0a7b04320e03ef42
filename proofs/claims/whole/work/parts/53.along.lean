/-! ===== AdventStreets: along, alike ===== -/
def knwL (x : Sg) (w : Nat) : Nat → Nat
  | 0 => 2 ^ w
  | i + 1 => knwL x w i ||| andn (nearF x (knwL x w i)) (So x)
def stillP (x : Sg) (w i : Nat) : Bool := decide (knwL x w (i + 1) = knwL x w i)
def alongS (x : Sg) (w : Nat) : Nat := fstN (Sn x) (stillP x w)
theorem knw_lt {x : Sg} (h : Sn x ≤ 10) {w : Nat} (hw : w < 10) : ∀ i, knwL x w i < 1024 := by
  intro i
  induction i with
  | zero => exact Nat.lt_of_lt_of_le (Nat.pow_lt_pow_right (by decide) hw) (Nat.le_refl _)
  | succ i ih =>
    rw [knwL]
    exact Nat.or_lt_two_pow (n := 10) ih (Nat.lt_of_le_of_lt (andn_le _ _) (nearF_lt _ h))
def alongR (x : Sg) (pw ph : Int32) : Int32 := if (inW pw (Sn x) && inI ph (nI 0) (nI 1)) = true then
    (if ph = 0 then nI (alongS x pw.toNatClampNeg) else nI (onesN (knwL x pw.toNatClampNeg (alongS x pw.toNatClampNeg)))) else (-1000001)
def alU (p : Nat × Int32) (same : Prop) [Decidable same] (ab : Nat) : Nat × Int32 := if same then (p.1 + 1, if p.2 = -1000000 then nI ab else p.2) else p
def alI (x : Sg) (a : Nat) (p : Nat × Int32) : Nat → Nat × Int32
  | 0 => p
  | k + 1 => alU (alI x a p k) (SP x a = SP x (a + 1 + k)) (10 * a + (a + 1 + k))
def alO (x : Sg) : Nat → Nat × Int32
  | 0 => (0, -1000000)
  | a + 1 => alI x a (alO x a) (Sn x - (a + 1))
def alikeR (x : Sg) (ph : Int32) : Int32 := if Sn x = 0 then (-1000002) else if inI ph (nI 0) (nI 1) = true then (if ph = 0 then nI (alO x (Sn x)).1 else (alO x (Sn x)).2) else (-1000001)
set_option maxRecDepth 100000 in
set_option maxHeartbeats 4000000 in
theorem c_X7_along (l : Launch) (D : va_G) (cA : Nat → ClassId) (tt : Nat → Nat) (o orw otp oft oac oim olf : Nat) (a : Nat → Nat) (lf fi : Nat) (x : Sg) (pw ph : Int32) (hg : Wk x) (sz : Nat) : Ci l D cA tt yX7_along wsX7_along ({ frames := 2, cells := 0, slots := 0, locals := 43 } : Room) [.ref (o), .int (pw), .int (ph)] sz ([(o, .inr (7, [.ref (orw), .ref (otp), .ref (a 0), .ref (oft), .ref (oac), .ref (oim), .ref (olf), .int (nI (lf)), .int (nI (fi))]))] ++ stW cA a x) ([(o, .inr (7, [.ref (orw), .ref (otp), .ref (a 0), .ref (oft), .ref (oac), .ref (oim), .ref (olf), .int (nI (lf)), .int (nI (fi))]))] ++ stW cA a x) (alongR x pw ph) := by
  obtain ⟨gn, ge, gv, go, ga⟩ := id hg
  refine Ci.mk (cc := cX7_along) (maxL := 7) (ty := .int) (by decide) rfl rfl (Nat.le_of_ble_eq_true rfl) ?_
  intro p e s m below meth c A Q ls hB hl hend
  obtain ⟨⟨hx, hb, hml, hown, hts⟩, hP, hK, hD, hS, hA, hE⟩ := hB
  have hown : s.vm.findClass RX7 = some m.cls := hown
  have hwsX70 : ∀ w9 ∈ wsX70, w9.before ([.ref (o), .int (pw), .int (ph)] : List Value).toArray s = true := fun w9 h => hts w9 (List.mem_cons_of_mem _ (List.mem_append_left _ (List.mem_append_right _ h)))
  have hwsX40 : ∀ w9 ∈ wsX40, w9.before ([.ref (o), .int (pw), .int (ph)] : List Value).toArray s = true := fun w9 h => hts w9 (List.mem_cons_of_mem _ (List.mem_append_right _ h))
  have hl : lv_has ls 7 [(0, .ref (o)), (1, .int (pw)), (2, .int (ph))] := hl
  refine lv_aload_n hx hb dX7_along_0 rfl (lv_at hl 0 rfl) ?_
  refine lv_iload_n hx hb dX7_along_1 rfl (lv_at hl 1 rfl) ?_
  refine cVi (n := 1) (As := [.int (pw)]) (rest := []) (C := RX7) (ci := 7) (q0 := 0) (X := ([(o, .inr (7, [.ref (orw), .ref (otp), .ref (a 0), .ref (oft), .ref (oac), .ref (oim), .ref (olf), .int (nI (lf)), .int (nI (fi))]))] ++ stW cA a x)) (pl := []) (wc := ([(o, .inr (7, [.ref (orw), .ref (otp), .ref (a 0), .ref (oft), .ref (oac), .ref (oim), .ref (olf), .int (nI (lf)), .int (nI (fi))]))] ++ stW cA a x)) (wr := ([] : va_W)) (w1 := ([(o, .inr (7, [.ref (orw), .ref (otp), .ref (a 0), .ref (oft), .ref (oac), .ref (oim), .ref (olf), .int (nI (lf)), .int (nI (fi))]))] ++ stW cA a x)) (wn := ([(o, .inr (7, [.ref (orw), .ref (otp), .ref (a 0), .ref (oft), .ref (oac), .ref (oim), .ref (olf), .int (nI (lf)), .int (nI (fi))]))] ++ stW cA a x)) (isC := [0, 1, 2, 3, 4, 5, 6]) (isR := []) (isN := [0, 1, 2, 3, 4, 5, 6]) ⟨hx, hb, hml, hown, hts⟩ (c_X7_isWindow l D cA tt o orw otp oft oac oim olf a lf fi x pw (hg) _) gX7_along_X7_isWindow rfl (by decide +kernel) rfl rfl ⟨rfl, rfl⟩ ⟨Nat.le_of_ble_eq_true rfl, Nat.le_of_ble_eq_true rfl⟩ ⟨Nat.zero_le _, Nat.zero_le _⟩ hK hE hA hP hD hS ⟨⟨rfl, by decide⟩, ⟨rfl, by decide, by decide⟩, rfl, by decide⟩ rfl hl.1 rfl (Nat.le_of_ble_eq_true rfl) dX7_along_2 (fun H locs hP hD hS => ?_)
  have hP : va_P D vwCl ([(o, .inr (7, [.ref (orw), .ref (otp), .ref (a 0), .ref (oft), .ref (oac), .ref (oim), .ref (olf), .int (nI (lf)), .int (nI (fi))]))] ++ stW cA a x) _ := hP
  have hD : va_D A ([(o, .inr (7, [.ref (orw), .ref (otp), .ref (a 0), .ref (oft), .ref (oac), .ref (oim), .ref (olf), .int (nI (lf)), .int (nI (fi))]))] ++ stW cA a x) := hD
  refine lv_if_eq (tgt := 15) hx hb dX7_along_5 (by decide) (fun c1 => ?_) (fun c1 => ?_)
  · skip
    rw [bI_z] at c1
    refine lv_ldc (v := (-1000001)) hx hb hown (hts (.constant RX7 63 (-1000001)) (List.mem_of_getElem? (i := 1) rfl)) dX7_along_15 ?_
    exact hend _ _ _ _ _ hP hD hS (by unfold alongR; rw [if_neg (by simp [c1])]) dX7_along_17
  · skip
    rw [bI_nz] at c1
    obtain ⟨w, e_w, l_w⟩ := inW_t (by omega) c1
    rw [e_w] at hl
    refine lv_iload_n hx hb dX7_along_8 rfl (lv_at hl 2 rfl) ?_
    refine cSi (n := 1) (As := [.int (ph)]) (rest := []) (X := ([(o, .inr (7, [.ref (orw), .ref (otp), .ref (a 0), .ref (oft), .ref (oac), .ref (oim), .ref (olf), .int (nI (lf)), .int (nI (fi))]))] ++ stW cA a x)) (pl := []) (wc := ([] : va_W)) (wr := ([(o, .inr (7, [.ref (orw), .ref (otp), .ref (a 0), .ref (oft), .ref (oac), .ref (oim), .ref (olf), .int (nI (lf)), .int (nI (fi))]))] ++ stW cA a x)) (w1 := ([] : va_W)) (wn := ([(o, .inr (7, [.ref (orw), .ref (otp), .ref (a 0), .ref (oft), .ref (oac), .ref (oim), .ref (olf), .int (nI (lf)), .int (nI (fi))]))] ++ stW cA a x)) (isC := []) (isR := [0, 1, 2, 3, 4, 5, 6]) (isN := [0, 1, 2, 3, 4, 5, 6]) ⟨hx, hb, hml, hown, hts⟩ (c_X7_isEither l D cA tt ph  _) gX7_along_X7_isEither rfl (by decide +kernel) ⟨rfl, rfl⟩ ⟨Nat.le_of_ble_eq_true rfl, Nat.le_of_ble_eq_true rfl⟩ ⟨Nat.zero_le _, Nat.zero_le _⟩ hK hE hA hP hD hS ⟨⟨rfl, by decide⟩, ⟨rfl, by decide, by decide⟩, rfl, by decide⟩ rfl hl.1 rfl (Nat.le_of_ble_eq_true rfl) dX7_along_9 (fun H locs hP hD hS => ?_)
    have hP : va_P D vwCl ([(o, .inr (7, [.ref (orw), .ref (otp), .ref (a 0), .ref (oft), .ref (oac), .ref (oim), .ref (olf), .int (nI (lf)), .int (nI (fi))]))] ++ stW cA a x) _ := hP
    have hD : va_D A ([(o, .inr (7, [.ref (orw), .ref (otp), .ref (a 0), .ref (oft), .ref (oac), .ref (oim), .ref (olf), .int (nI (lf)), .int (nI (fi))]))] ++ stW cA a x) := hD
    refine lv_if_ne (tgt := 18) hx hb dX7_along_12 (by decide) (fun c2 => ?_) (fun c2 => ?_)
    · skip
      rw [bI_nz] at c2
      obtain ⟨h, e_h, a_h, l_h⟩ := inI_t (by decide) c2 (by decide)
      rw [e_h] at hl
      refine lv_iconst (v := nI (1)) hx hb dX7_along_18 (by decide) ?_
      refine lv_iload_n hx hb dX7_along_19 rfl (lv_at hl 1 rfl) ?_
      refine lv_ishl hx hb dX7_along_20 ?_
      refine vn_i (v := nI (2 ^ w)) (n_shl1 (by omega)) ?_
      refine lv_istore_n (lv' := [(3, .int (nI (2 ^ w))), (0, .ref (o)), (1, .int (nI (w))), (2, .int (nI (h)))]) hx hb dX7_along_21 rfl hl (by decide) rfl (fun ls hl => ?_)
      refine lv_iconst (v := nI (0)) hx hb dX7_along_22 (by decide) ?_
      refine lv_istore (lv' := [(4, .int (nI (0))), (3, .int (nI (2 ^ w))), (0, .ref (o)), (1, .int (nI (w))), (2, .int (nI (h)))]) hx hb dX7_along_23 hl (by decide) rfl (fun ls hl => ?_)
      refine lv_iconst (v := nI (1)) hx hb dX7_along_25 (by decide) ?_
      refine lv_istore (lv' := [(5, .int (nI (1))), (4, .int (nI (0))), (3, .int (nI (2 ^ w))), (0, .ref (o)), (1, .int (nI (w))), (2, .int (nI (h)))]) hx hb dX7_along_26 hl (by decide) rfl (fun ls hl => ?_)
      have loop28 : ∀ (N28 : Nat) (i : Nat), (i ≤ Sn x) → (∀ j, j < i → stillP x w j = false) → (Sn x - i) < N28 → ∀ (H : Heap) (locs : List Loc) (ls : Array Slot), va_P D vwCl ([(o, .inr (7, [.ref (orw), .ref (otp), .ref (a 0), .ref (oft), .ref (oac), .ref (oim), .ref (olf), .int (nI (lf)), .int (nI (fi))]))] ++ stW cA a x) H → va_D A ([(o, .inr (7, [.ref (orw), .ref (otp), .ref (a 0), .ref (oft), .ref (oac), .ref (oim), .ref (olf), .int (nI (lf)), .int (nI (fi))]))] ++ stW cA a x) → va_S A s.heap H locs → lv_has ls 7 [(5, .int (nI (i + 1))), (4, .int (nI (i))), (3, .int (nI (knwL x w i))), (0, .ref (o)), (1, .int (nI (w))), (2, .int (nI (h)))] → W p l e ({ frames := 2, cells := 0, slots := 0, locals := 43 } : Room) s m ([.ref (o), .int (pw), .int (ph)] : List Value).toArray below meth c H locs 0 0 Q (F0 m 28 ls []) := by
        intro N28
        induction N28 with
        | zero => intro i iv28_0 iv28_1 hN; exact absurd hN (Nat.not_lt_zero _)
        | succ N28 ih28 =>
          intro i iv28_0 iv28_1 hN28 H locs ls hP hD hS hl
          have hkw := knw_lt gn (w := w) (by omega) i
          have hk2 : knwL x w i ||| andn (nearF x (knwL x w i)) (So x) < 1024 := knw_lt gn (w := w) (by omega) (i + 1)
          refine lv_iload hx hb dX7_along_28 (lv_at hl 0 rfl) ?_
          refine lv_aload_n hx hb dX7_along_30 rfl (lv_at hl 3 rfl) ?_
          refine va_get (v := .ref (a 0)) (Ts := wsX70) (C := RX7) (T := TX7) (N := 9) hx hb hwsX70 (fun _ h => h) hown hK hP 0 rfl rfl 2 (by decide) (hts (.fieldLink RX7 26 "AdventStreets" "now" "LAdventStreets$Street;") (List.mem_of_getElem? (i := 2) rfl)) (fun _ h9 => h9) rfl dX7_along_31 ?_
          refine va_getN (v := .int (nI (Sn x))) (Ts := wsX40) (C := RX4) (T := TX4) (N := 10) hx hb hwsX40 (fun _ h => h) hown hK hP 1 rfl rfl 5 (by decide) (hE.1.f (q := ("AdventStreets", 140, "AdventStreets$Street", "windows", "I")) 18 rfl) (fun _ h9 => h9) rfl dX7_along_34 ?_
          refine lv_icmp_gt (tgt := 82) hx hb dX7_along_37 (by decide) (fun c4 => ?_) (fun c4 => ?_)
          · skip
            rw [nI_ltI (by omega) (by omega)] at c4
            refine lv_iload_n hx hb dX7_along_82 rfl (lv_at hl 5 rfl) ?_
            refine lv_if_ne (tgt := 91) hx hb dX7_along_83 (by decide) (fun c5 => ?_) (fun c5 => ?_)
            · skip
              rw [n_z (by omega)] at c5
              refine lv_iload_n hx hb dX7_along_91 rfl (lv_at hl 2 rfl) ?_
              refine cSi (n := 1) (As := [.int (nI (knwL x w i))]) (rest := []) (X := ([(o, .inr (7, [.ref (orw), .ref (otp), .ref (a 0), .ref (oft), .ref (oac), .ref (oim), .ref (olf), .int (nI (lf)), .int (nI (fi))]))] ++ stW cA a x)) (pl := []) (wc := ([] : va_W)) (wr := ([(o, .inr (7, [.ref (orw), .ref (otp), .ref (a 0), .ref (oft), .ref (oac), .ref (oim), .ref (olf), .int (nI (lf)), .int (nI (fi))]))] ++ stW cA a x)) (w1 := ([] : va_W)) (wn := ([(o, .inr (7, [.ref (orw), .ref (otp), .ref (a 0), .ref (oft), .ref (oac), .ref (oim), .ref (olf), .int (nI (lf)), .int (nI (fi))]))] ++ stW cA a x)) (isC := []) (isR := [0, 1, 2, 3, 4, 5, 6]) (isN := [0, 1, 2, 3, 4, 5, 6]) ⟨hx, hb, hml, hown, hts⟩ (c_J6_bitCount_0f7a4 l D cA tt (knwL x w i) (hkw) _) gX7_along_J6_bitCount_0f7a4 rfl (by decide +kernel) ⟨rfl, rfl⟩ ⟨Nat.le_of_ble_eq_true rfl, Nat.le_of_ble_eq_true rfl⟩ ⟨Nat.zero_le _, Nat.zero_le _⟩ hK hE hA hP hD hS ⟨⟨rfl, by decide⟩, ⟨rfl, by decide, by decide⟩, rfl, by decide⟩ rfl hl.1 rfl (Nat.le_of_ble_eq_true rfl) dX7_along_92 (fun H locs hP hD hS => ?_)
              have hP : va_P D vwCl ([(o, .inr (7, [.ref (orw), .ref (otp), .ref (a 0), .ref (oft), .ref (oac), .ref (oim), .ref (olf), .int (nI (lf)), .int (nI (fi))]))] ++ stW cA a x) _ := hP
              have hD : va_D A ([(o, .inr (7, [.ref (orw), .ref (otp), .ref (a 0), .ref (oft), .ref (oac), .ref (oim), .ref (olf), .int (nI (lf)), .int (nI (fi))]))] ++ stW cA a x) := hD
              exact hend _ _ _ _ _ hP hD hS (by unfold alongR; rw [if_pos (by simp [c1, c2]), e_w, e_h, nI_clamp (n := w) (by omega), if_neg (fun q => c5 ((n_z (a := h) (by omega)).mp q)), show alongS x w = i from fstN_of (by omega) iv28_1 (Or.inl (by omega))]) dX7_along_95
            · skip
              rw [n_z (by omega)] at c5
              refine lv_iload hx hb dX7_along_86 (lv_at hl 1 rfl) ?_
              refine lv_goto (tgt := 95) hx hb dX7_along_88 (by decide) ?_
              exact hend _ _ _ _ _ hP hD hS (by unfold alongR; rw [if_pos (by simp [c1, c2]), e_w, e_h, nI_clamp (n := w) (by omega), if_pos ((n_z (a := h) (by omega)).mpr c5), show alongS x w = i from fstN_of (by omega) iv28_1 (Or.inl (by omega))]) dX7_along_95
          · skip
            rw [nI_ltI (by omega) (by omega)] at c4
            refine lv_iload_n hx hb dX7_along_40 rfl (lv_at hl 2 rfl) ?_
            refine lv_aload_n hx hb dX7_along_41 rfl (lv_at hl 3 rfl) ?_
            refine va_get (v := .ref (a 0)) (Ts := wsX70) (C := RX7) (T := TX7) (N := 9) hx hb hwsX70 (fun _ h => h) hown hK hP 0 rfl rfl 2 (by decide) (hts (.fieldLink RX7 26 "AdventStreets" "now" "LAdventStreets$Street;") (List.mem_of_getElem? (i := 2) rfl)) (fun _ h9 => h9) rfl dX7_along_42 ?_
            refine lv_iload_n hx hb dX7_along_45 rfl (lv_at hl 2 rfl) ?_
            refine cVi (n := 1) (As := [.int (nI (knwL x w i))]) (rest := [.int (nI (knwL x w i))]) (C := RX4) (ci := 4) (q0 := 0) (X := ([(o, .inr (7, [.ref (orw), .ref (otp), .ref (a 0), .ref (oft), .ref (oac), .ref (oim), .ref (olf), .int (nI (lf)), .int (nI (fi))]))] ++ stW cA a x)) (pl := []) (wc := (stW cA a x)) (wr := [(o, .inr (7, [.ref (orw), .ref (otp), .ref (a 0), .ref (oft), .ref (oac), .ref (oim), .ref (olf), .int (nI (lf)), .int (nI (fi))]))]) (w1 := (stW cA a x)) (wn := ([(o, .inr (7, [.ref (orw), .ref (otp), .ref (a 0), .ref (oft), .ref (oac), .ref (oim), .ref (olf), .int (nI (lf)), .int (nI (fi))]))] ++ stW cA a x)) (isC := [1, 2, 3, 4, 5, 6]) (isR := [0]) (isN := [0, 1, 2, 3, 4, 5, 6]) ⟨hx, hb, hml, hown, hts⟩ (c_X4_near l D cA tt a x (knwL x w i) (hg) (Nat.lt_trans hkw (by decide)) _) gX7_along_X4_near rfl (by decide +kernel) rfl rfl ⟨rfl, rfl⟩ ⟨Nat.le_of_ble_eq_true rfl, Nat.le_of_ble_eq_true rfl⟩ ⟨Nat.zero_le _, Nat.zero_le _⟩ hK hE hA hP hD hS ⟨⟨rfl, by decide⟩, ⟨rfl, by decide, by decide⟩, rfl, by decide⟩ rfl hl.1 rfl (Nat.le_of_ble_eq_true rfl) dX7_along_46 (fun H locs hP hD hS => ?_)
            have hP : va_P D vwCl ([(o, .inr (7, [.ref (orw), .ref (otp), .ref (a 0), .ref (oft), .ref (oac), .ref (oim), .ref (olf), .int (nI (lf)), .int (nI (fi))]))] ++ stW cA a x) _ := hP
            have hD : va_D A ([(o, .inr (7, [.ref (orw), .ref (otp), .ref (a 0), .ref (oft), .ref (oac), .ref (oim), .ref (olf), .int (nI (lf)), .int (nI (fi))]))] ++ stW cA a x) := hD
            refine lv_aload_n hx hb dX7_along_49 rfl (lv_at hl 3 rfl) ?_
            refine va_get (v := .ref (a 0)) (Ts := wsX70) (C := RX7) (T := TX7) (N := 9) hx hb hwsX70 (fun _ h => h) hown hK hP 0 rfl rfl 2 (by decide) (hts (.fieldLink RX7 26 "AdventStreets" "now" "LAdventStreets$Street;") (List.mem_of_getElem? (i := 2) rfl)) (fun _ h9 => h9) rfl dX7_along_50 ?_
            refine cVi (n := 0) (As := []) (rest := [.int (nI (nearL (knwL x w i) (Sv x))), .int (nI (knwL x w i))]) (C := RX4) (ci := 4) (q0 := 0) (X := ([(o, .inr (7, [.ref (orw), .ref (otp), .ref (a 0), .ref (oft), .ref (oac), .ref (oim), .ref (olf), .int (nI (lf)), .int (nI (fi))]))] ++ stW cA a x)) (pl := []) (wc := (stW cA a x)) (wr := [(o, .inr (7, [.ref (orw), .ref (otp), .ref (a 0), .ref (oft), .ref (oac), .ref (oim), .ref (olf), .int (nI (lf)), .int (nI (fi))]))]) (w1 := (stW cA a x)) (wn := ([(o, .inr (7, [.ref (orw), .ref (otp), .ref (a 0), .ref (oft), .ref (oac), .ref (oim), .ref (olf), .int (nI (lf)), .int (nI (fi))]))] ++ stW cA a x)) (isC := [1, 2, 3, 4, 5, 6]) (isR := [0]) (isN := [0, 1, 2, 3, 4, 5, 6]) ⟨hx, hb, hml, hown, hts⟩ (c_X4_shutOnes l D cA tt a x (hg) _) gX7_along_X4_shutOnes rfl (by decide +kernel) rfl rfl ⟨rfl, rfl⟩ ⟨Nat.le_of_ble_eq_true rfl, Nat.le_of_ble_eq_true rfl⟩ ⟨Nat.zero_le _, Nat.zero_le _⟩ hK hE hA hP hD hS ⟨⟨rfl, by decide⟩, ⟨rfl, by decide, by decide⟩, rfl, by decide⟩ rfl hl.1 rfl (Nat.le_of_ble_eq_true rfl) dX7_along_53 (fun H locs hP hD hS => ?_)
            have hP : va_P D vwCl ([(o, .inr (7, [.ref (orw), .ref (otp), .ref (a 0), .ref (oft), .ref (oac), .ref (oim), .ref (olf), .int (nI (lf)), .int (nI (fi))]))] ++ stW cA a x) _ := hP
            have hD : va_D A ([(o, .inr (7, [.ref (orw), .ref (otp), .ref (a 0), .ref (oft), .ref (oac), .ref (oim), .ref (olf), .int (nI (lf)), .int (nI (fi))]))] ++ stW cA a x) := hD
            refine lv_iand hx hb dX7_along_56 ?_
            refine vn_i (v := nI (andn (nearF x (knwL x w i)) (So x))) (by rw [n_and, shut_near]) ?_
            refine lv_ior hx hb dX7_along_57 ?_
            refine vn_i (v := nI ((knwL x w i) ||| (andn (nearF x (knwL x w i)) (So x)))) (n_or _ _) ?_
            refine lv_istore (lv' := [(6, .int (nI ((knwL x w i) ||| (andn (nearF x (knwL x w i)) (So x))))), (5, .int (nI (i + 1))), (4, .int (nI (i))), (3, .int (nI (knwL x w i))), (0, .ref (o)), (1, .int (nI (w))), (2, .int (nI (h)))]) hx hb dX7_along_58 hl (by decide) rfl (fun ls hl => ?_)
            refine lv_iload hx hb dX7_along_60 (lv_at hl 0 rfl) ?_
            refine lv_iload_n hx hb dX7_along_62 rfl (lv_at hl 3 rfl) ?_
            refine lv_icmp_ne (tgt := 69) hx hb dX7_along_63 (by decide) (fun c6 => ?_) (fun c6 => ?_)
            · skip
              rw [nI_eq (by omega) (by omega)] at c6
              refine lv_iload hx hb dX7_along_69 (lv_at hl 0 rfl) ?_
              refine lv_istore_n (lv' := [(3, .int (nI ((knwL x w i) ||| (andn (nearF x (knwL x w i)) (So x))))), (6, .int (nI ((knwL x w i) ||| (andn (nearF x (knwL x w i)) (So x))))), (5, .int (nI (i + 1))), (4, .int (nI (i))), (0, .ref (o)), (1, .int (nI (w))), (2, .int (nI (h)))]) hx hb dX7_along_71 rfl hl (by decide) rfl (fun ls hl => ?_)
              refine lv_iload hx hb dX7_along_72 (lv_at hl 2 rfl) ?_
              refine lv_istore (lv' := [(4, .int (nI (i + 1))), (3, .int (nI ((knwL x w i) ||| (andn (nearF x (knwL x w i)) (So x))))), (6, .int (nI ((knwL x w i) ||| (andn (nearF x (knwL x w i)) (So x))))), (5, .int (nI (i + 1))), (0, .ref (o)), (1, .int (nI (w))), (2, .int (nI (h)))]) hx hb dX7_along_74 hl (by decide) rfl (fun ls hl => ?_)
              refine lv_iinc (v := nI (i + 1 + 1)) (lv' := [(5, .int (nI (i + 1 + 1))), (4, .int (nI (i + 1))), (3, .int (nI ((knwL x w i) ||| (andn (nearF x (knwL x w i)) (So x))))), (6, .int (nI ((knwL x w i) ||| (andn (nearF x (knwL x w i)) (So x))))), (0, .ref (o)), (1, .int (nI (w))), (2, .int (nI (h)))]) hx hb dX7_along_76 hl (k := 3) rfl (nI_add _ _) (by decide) rfl (fun ls hl => ?_)
              refine lv_goto (tgt := 28) hx hb dX7_along_79 (by decide) ?_
              have hl9 := lv_sub (l' := [(5, .int (nI (i + 1 + 1))), (4, .int (nI (i + 1))), (3, .int (nI ((knwL x w i) ||| (andn (nearF x (knwL x w i)) (So x))))), (0, .ref (o)), (1, .int (nI (w))), (2, .int (nI (h)))]) hl [0, 1, 2, 4, 5, 6] rfl
              have el7 : (.int (nI (i + 1 + 1)) : Value) = .int (nI ((i + 1) + 1)) := by
                rfl
              have hl9 : lv_has ls 7 [(5, .int (nI ((i + 1) + 1))), (4, .int (nI (i + 1))), (3, .int (nI ((knwL x w i) ||| (andn (nearF x (knwL x w i)) (So x))))), (0, .ref (o)), (1, .int (nI (w))), (2, .int (nI (h)))] := Eq.mp (congrArg (fun z9 => lv_has ls 7 [(5, z9), (4, .int (nI (i + 1))), (3, .int (nI ((knwL x w i) ||| (andn (nearF x (knwL x w i)) (So x))))), (0, .ref (o)), (1, .int (nI (w))), (2, .int (nI (h)))]) el7) hl9
              have el8 : (.int (nI ((knwL x w i) ||| (andn (nearF x (knwL x w i)) (So x)))) : Value) = .int (nI (knwL x w (i + 1))) := by
                rfl
              have hl9 : lv_has ls 7 [(5, .int (nI ((i + 1) + 1))), (4, .int (nI (i + 1))), (3, .int (nI (knwL x w (i + 1)))), (0, .ref (o)), (1, .int (nI (w))), (2, .int (nI (h)))] := Eq.mp (congrArg (fun z9 => lv_has ls 7 [(5, .int (nI ((i + 1) + 1))), (4, .int (nI (i + 1))), (3, z9), (0, .ref (o)), (1, .int (nI (w))), (2, .int (nI (h)))]) el8) hl9
              exact ih28 (i + 1) (by omega) (lt_s (p := fun j => stillP x w j = false) iv28_1 (by unfold stillP; exact decide_eq_false c6)) (by omega) _ _ _ hP hD hS hl9
            · skip
              rw [nI_eq (by omega) (by omega)] at c6
              refine lv_goto (tgt := 82) hx hb dX7_along_66 (by decide) ?_
              refine lv_iload_n hx hb dX7_along_82 rfl (lv_at hl 6 rfl) ?_
              refine lv_if_ne (tgt := 91) hx hb dX7_along_83 (by decide) (fun c9 => ?_) (fun c9 => ?_)
              · skip
                rw [n_z (by omega)] at c9
                refine lv_iload_n hx hb dX7_along_91 rfl (lv_at hl 3 rfl) ?_
                refine cSi (n := 1) (As := [.int (nI (knwL x w i))]) (rest := []) (X := ([(o, .inr (7, [.ref (orw), .ref (otp), .ref (a 0), .ref (oft), .ref (oac), .ref (oim), .ref (olf), .int (nI (lf)), .int (nI (fi))]))] ++ stW cA a x)) (pl := []) (wc := ([] : va_W)) (wr := ([(o, .inr (7, [.ref (orw), .ref (otp), .ref (a 0), .ref (oft), .ref (oac), .ref (oim), .ref (olf), .int (nI (lf)), .int (nI (fi))]))] ++ stW cA a x)) (w1 := ([] : va_W)) (wn := ([(o, .inr (7, [.ref (orw), .ref (otp), .ref (a 0), .ref (oft), .ref (oac), .ref (oim), .ref (olf), .int (nI (lf)), .int (nI (fi))]))] ++ stW cA a x)) (isC := []) (isR := [0, 1, 2, 3, 4, 5, 6]) (isN := [0, 1, 2, 3, 4, 5, 6]) ⟨hx, hb, hml, hown, hts⟩ (c_J6_bitCount_0f7a4 l D cA tt (knwL x w i) (hkw) _) gX7_along_J6_bitCount_0f7a4 rfl (by decide +kernel) ⟨rfl, rfl⟩ ⟨Nat.le_of_ble_eq_true rfl, Nat.le_of_ble_eq_true rfl⟩ ⟨Nat.zero_le _, Nat.zero_le _⟩ hK hE hA hP hD hS ⟨⟨rfl, by decide⟩, ⟨rfl, by decide, by decide⟩, rfl, by decide⟩ rfl hl.1 rfl (Nat.le_of_ble_eq_true rfl) dX7_along_92 (fun H locs hP hD hS => ?_)
                have hP : va_P D vwCl ([(o, .inr (7, [.ref (orw), .ref (otp), .ref (a 0), .ref (oft), .ref (oac), .ref (oim), .ref (olf), .int (nI (lf)), .int (nI (fi))]))] ++ stW cA a x) _ := hP
                have hD : va_D A ([(o, .inr (7, [.ref (orw), .ref (otp), .ref (a 0), .ref (oft), .ref (oac), .ref (oim), .ref (olf), .int (nI (lf)), .int (nI (fi))]))] ++ stW cA a x) := hD
                exact hend _ _ _ _ _ hP hD hS (by unfold alongR; rw [if_pos (by simp [c1, c2]), e_w, e_h, nI_clamp (n := w) (by omega), if_neg (fun q => c9 ((n_z (a := h) (by omega)).mp q)), show alongS x w = i from fstN_of (by omega) iv28_1 (Or.inr (by unfold stillP; exact decide_eq_true c6))]) dX7_along_95
              · skip
                rw [n_z (by omega)] at c9
                refine lv_iload hx hb dX7_along_86 (lv_at hl 2 rfl) ?_
                refine lv_goto (tgt := 95) hx hb dX7_along_88 (by decide) ?_
                exact hend _ _ _ _ _ hP hD hS (by unfold alongR; rw [if_pos (by simp [c1, c2]), e_w, e_h, nI_clamp (n := w) (by omega), if_pos ((n_z (a := h) (by omega)).mpr c9), show alongS x w = i from fstN_of (by omega) iv28_1 (Or.inr (by unfold stillP; exact decide_eq_true c6))]) dX7_along_95
      have hl9 := lv_sub (l' := [(5, .int (nI (1))), (4, .int (nI (0))), (3, .int (nI (2 ^ w))), (0, .ref (o)), (1, .int (nI (w))), (2, .int (nI (h)))]) hl [0, 1, 2, 3, 4, 5] rfl
      have el10 : (.int (nI (1)) : Value) = .int (nI (0 + 1)) := by
        rfl
      have hl9 : lv_has ls 7 [(5, .int (nI (0 + 1))), (4, .int (nI (0))), (3, .int (nI (2 ^ w))), (0, .ref (o)), (1, .int (nI (w))), (2, .int (nI (h)))] := Eq.mp (congrArg (fun z9 => lv_has ls 7 [(5, z9), (4, .int (nI (0))), (3, .int (nI (2 ^ w))), (0, .ref (o)), (1, .int (nI (w))), (2, .int (nI (h)))]) el10) hl9
      have el11 : (.int (nI (2 ^ w)) : Value) = .int (nI (knwL x w 0)) := by
        rfl
      have hl9 : lv_has ls 7 [(5, .int (nI (0 + 1))), (4, .int (nI (0))), (3, .int (nI (knwL x w 0))), (0, .ref (o)), (1, .int (nI (w))), (2, .int (nI (h)))] := Eq.mp (congrArg (fun z9 => lv_has ls 7 [(5, .int (nI (0 + 1))), (4, .int (nI (0))), (3, z9), (0, .ref (o)), (1, .int (nI (w))), (2, .int (nI (h)))]) el11) hl9
      exact loop28 _ 0 (by omega) (fun j hj => by omega) (Nat.lt_succ_self _) _ _ _ hP hD hS hl9
    · skip
      rw [bI_z] at c2
      refine lv_ldc (v := (-1000001)) hx hb hown (hts (.constant RX7 63 (-1000001)) (List.mem_of_getElem? (i := 1) rfl)) dX7_along_15 ?_
      exact hend _ _ _ _ _ hP hD hS (by unfold alongR; rw [if_neg (by simp [c1, c2])]) dX7_along_17
set_option maxRecDepth 100000 in
set_option maxHeartbeats 4000000 in
theorem c_X7_alike (l : Launch) (D : va_G) (cA : Nat → ClassId) (tt : Nat → Nat) (o orw otp oft oac oim olf : Nat) (a : Nat → Nat) (lf fi : Nat) (x : Sg) (ph : Int32) (hg : Wk x) (sz : Nat) : Ci l D cA tt yX7_alike wsX7_alike ({ frames := 1, cells := 0, slots := 0, locals := 20 } : Room) [.ref (o), .int (ph)] sz ([(o, .inr (7, [.ref (orw), .ref (otp), .ref (a 0), .ref (oft), .ref (oac), .ref (oim), .ref (olf), .int (nI (lf)), .int (nI (fi))]))] ++ stW cA a x) ([(o, .inr (7, [.ref (orw), .ref (otp), .ref (a 0), .ref (oft), .ref (oac), .ref (oim), .ref (olf), .int (nI (lf)), .int (nI (fi))]))] ++ stW cA a x) (alikeR x ph) := by
  obtain ⟨gn, ge, gv, go, ga⟩ := id hg
  refine Ci.mk (cc := cX7_alike) (maxL := 6) (ty := .int) (by decide) rfl rfl (Nat.le_of_ble_eq_true rfl) ?_
  intro p e s m below meth c A Q ls hB hl hend
  obtain ⟨⟨hx, hb, hml, hown, hts⟩, hP, hK, hD, hS, hA, hE⟩ := hB
  have hown : s.vm.findClass RX7 = some m.cls := hown
  have hwsX70 : ∀ w9 ∈ wsX70, w9.before ([.ref (o), .int (ph)] : List Value).toArray s = true := fun w9 h => hts w9 (List.mem_cons_of_mem _ (List.mem_append_left _ (List.mem_append_right _ h)))
  have hwsX40 : ∀ w9 ∈ wsX40, w9.before ([.ref (o), .int (ph)] : List Value).toArray s = true := fun w9 h => hts w9 (List.mem_cons_of_mem _ (List.mem_append_right _ h))
  have hl : lv_has ls 6 [(0, .ref (o)), (1, .int (ph))] := hl
  refine lv_aload_n hx hb dX7_alike_0 rfl (lv_at hl 0 rfl) ?_
  refine cVi (n := 0) (As := []) (rest := []) (C := RX7) (ci := 7) (q0 := 0) (X := ([(o, .inr (7, [.ref (orw), .ref (otp), .ref (a 0), .ref (oft), .ref (oac), .ref (oim), .ref (olf), .int (nI (lf)), .int (nI (fi))]))] ++ stW cA a x)) (pl := []) (wc := ([(o, .inr (7, [.ref (orw), .ref (otp), .ref (a 0), .ref (oft), .ref (oac), .ref (oim), .ref (olf), .int (nI (lf)), .int (nI (fi))]))] ++ stW cA a x)) (wr := ([] : va_W)) (w1 := ([(o, .inr (7, [.ref (orw), .ref (otp), .ref (a 0), .ref (oft), .ref (oac), .ref (oim), .ref (olf), .int (nI (lf)), .int (nI (fi))]))] ++ stW cA a x)) (wn := ([(o, .inr (7, [.ref (orw), .ref (otp), .ref (a 0), .ref (oft), .ref (oac), .ref (oim), .ref (olf), .int (nI (lf)), .int (nI (fi))]))] ++ stW cA a x)) (isC := [0, 1, 2, 3, 4, 5, 6]) (isR := []) (isN := [0, 1, 2, 3, 4, 5, 6]) ⟨hx, hb, hml, hown, hts⟩ (c_X7_isStreetless l D cA tt o orw otp oft oac oim olf a lf fi x (hg) _) gX7_alike_X7_isStreetless rfl (by decide +kernel) rfl rfl ⟨rfl, rfl⟩ ⟨Nat.le_of_ble_eq_true rfl, Nat.le_of_ble_eq_true rfl⟩ ⟨Nat.zero_le _, Nat.zero_le _⟩ hK hE hA hP hD hS ⟨⟨rfl, by decide⟩, ⟨rfl, by decide, by decide⟩, rfl, by decide⟩ rfl hl.1 rfl (Nat.le_of_ble_eq_true rfl) dX7_alike_1 (fun H locs hP hD hS => ?_)
  have hP : va_P D vwCl ([(o, .inr (7, [.ref (orw), .ref (otp), .ref (a 0), .ref (oft), .ref (oac), .ref (oim), .ref (olf), .int (nI (lf)), .int (nI (fi))]))] ++ stW cA a x) _ := hP
  have hD : va_D A ([(o, .inr (7, [.ref (orw), .ref (otp), .ref (a 0), .ref (oft), .ref (oac), .ref (oim), .ref (olf), .int (nI (lf)), .int (nI (fi))]))] ++ stW cA a x) := hD
  refine lv_if_eq (tgt := 10) hx hb dX7_alike_4 (by decide) (fun c1 => ?_) (fun c1 => ?_)
  · skip
    rw [bI_z] at c1
    refine lv_iload_n hx hb dX7_alike_10 rfl (lv_at hl 1 rfl) ?_
    refine cSi (n := 1) (As := [.int (ph)]) (rest := []) (X := ([(o, .inr (7, [.ref (orw), .ref (otp), .ref (a 0), .ref (oft), .ref (oac), .ref (oim), .ref (olf), .int (nI (lf)), .int (nI (fi))]))] ++ stW cA a x)) (pl := []) (wc := ([] : va_W)) (wr := ([(o, .inr (7, [.ref (orw), .ref (otp), .ref (a 0), .ref (oft), .ref (oac), .ref (oim), .ref (olf), .int (nI (lf)), .int (nI (fi))]))] ++ stW cA a x)) (w1 := ([] : va_W)) (wn := ([(o, .inr (7, [.ref (orw), .ref (otp), .ref (a 0), .ref (oft), .ref (oac), .ref (oim), .ref (olf), .int (nI (lf)), .int (nI (fi))]))] ++ stW cA a x)) (isC := []) (isR := [0, 1, 2, 3, 4, 5, 6]) (isN := [0, 1, 2, 3, 4, 5, 6]) ⟨hx, hb, hml, hown, hts⟩ (c_X7_isEither l D cA tt ph  _) gX7_alike_X7_isEither rfl (by decide +kernel) ⟨rfl, rfl⟩ ⟨Nat.le_of_ble_eq_true rfl, Nat.le_of_ble_eq_true rfl⟩ ⟨Nat.zero_le _, Nat.zero_le _⟩ hK hE hA hP hD hS ⟨⟨rfl, by decide⟩, ⟨rfl, by decide, by decide⟩, rfl, by decide⟩ rfl hl.1 rfl (Nat.le_of_ble_eq_true rfl) dX7_alike_11 (fun H locs hP hD hS => ?_)
    have hP : va_P D vwCl ([(o, .inr (7, [.ref (orw), .ref (otp), .ref (a 0), .ref (oft), .ref (oac), .ref (oim), .ref (olf), .int (nI (lf)), .int (nI (fi))]))] ++ stW cA a x) _ := hP
    have hD : va_D A ([(o, .inr (7, [.ref (orw), .ref (otp), .ref (a 0), .ref (oft), .ref (oac), .ref (oim), .ref (olf), .int (nI (lf)), .int (nI (fi))]))] ++ stW cA a x) := hD
    refine lv_if_ne (tgt := 20) hx hb dX7_alike_14 (by decide) (fun c2 => ?_) (fun c2 => ?_)
    · skip
      rw [bI_nz] at c2
      obtain ⟨h, e_h, a_h, l_h⟩ := inI_t (by decide) c2 (by decide)
      rw [e_h] at hl
      refine lv_iconst (v := nI (0)) hx hb dX7_alike_20 (by decide) ?_
      refine lv_istore_n (lv' := [(2, .int (nI (0))), (0, .ref (o)), (1, .int (nI (h)))]) hx hb dX7_alike_21 rfl hl (by decide) rfl (fun ls hl => ?_)
      refine lv_ldc (v := (-1000000)) hx hb hown (hts (.constant RX7 227 (-1000000)) (List.mem_of_getElem? (i := 3) rfl)) dX7_alike_22 ?_
      refine lv_istore_n (lv' := [(3, .int ((-1000000))), (2, .int (nI (0))), (0, .ref (o)), (1, .int (nI (h)))]) hx hb dX7_alike_24 rfl hl (by decide) rfl (fun ls hl => ?_)
      refine lv_iconst (v := nI (0)) hx hb dX7_alike_25 (by decide) ?_
      refine lv_istore (lv' := [(4, .int (nI (0))), (3, .int ((-1000000))), (2, .int (nI (0))), (0, .ref (o)), (1, .int (nI (h)))]) hx hb dX7_alike_26 hl (by decide) rfl (fun ls hl => ?_)
      have loop28 : ∀ (N28 : Nat) (i : Nat) (u1 : Nat) (f1 : Int32), (i ≤ Sn x) → (alO x i = (u1, f1)) → (u1 ≤ i * 10) → (Sn x - i) < N28 → ∀ (H : Heap) (locs : List Loc) (ls : Array Slot), va_P D vwCl ([(o, .inr (7, [.ref (orw), .ref (otp), .ref (a 0), .ref (oft), .ref (oac), .ref (oim), .ref (olf), .int (nI (lf)), .int (nI (fi))]))] ++ stW cA a x) H → va_D A ([(o, .inr (7, [.ref (orw), .ref (otp), .ref (a 0), .ref (oft), .ref (oac), .ref (oim), .ref (olf), .int (nI (lf)), .int (nI (fi))]))] ++ stW cA a x) → va_S A s.heap H locs → lv_has ls 6 [(4, .int (nI (i))), (3, .int (f1)), (2, .int (nI (u1))), (0, .ref (o)), (1, .int (nI (h)))] → W p l e ({ frames := 1, cells := 0, slots := 0, locals := 20 } : Room) s m ([.ref (o), .int (ph)] : List Value).toArray below meth c H locs 0 0 Q (F0 m 28 ls []) := by
        intro N28
        induction N28 with
        | zero => intro i u1 f1 iv28_0 iv28_1 iv28_2 hN; exact absurd hN (Nat.not_lt_zero _)
        | succ N28 ih28 =>
          intro i u1 f1 iv28_0 iv28_1 iv28_2 hN28 H locs ls hP hD hS hl
          refine lv_iload hx hb dX7_alike_28 (lv_at hl 0 rfl) ?_
          refine lv_aload_n hx hb dX7_alike_30 rfl (lv_at hl 3 rfl) ?_
          refine va_get (v := .ref (a 0)) (Ts := wsX70) (C := RX7) (T := TX7) (N := 9) hx hb hwsX70 (fun _ h => h) hown hK hP 0 rfl rfl 2 (by decide) (hts (.fieldLink RX7 26 "AdventStreets" "now" "LAdventStreets$Street;") (List.mem_of_getElem? (i := 4) rfl)) (fun _ h9 => h9) rfl dX7_alike_31 ?_
          refine va_getN (v := .int (nI (Sn x))) (Ts := wsX40) (C := RX4) (T := TX4) (N := 10) hx hb hwsX40 (fun _ h => h) hown hK hP 1 rfl rfl 5 (by decide) (hE.1.f (q := ("AdventStreets", 140, "AdventStreets$Street", "windows", "I")) 18 rfl) (fun _ h9 => h9) rfl dX7_alike_34 ?_
          refine lv_icmp_ge (tgt := 115) hx hb dX7_alike_37 (by decide) (fun c4 => ?_) (fun c4 => ?_)
          · skip
            rw [nI_leI (by omega) (by omega)] at c4
            refine lv_iload_n hx hb dX7_alike_115 rfl (lv_at hl 4 rfl) ?_
            refine lv_if_ne (tgt := 123) hx hb dX7_alike_116 (by decide) (fun c5 => ?_) (fun c5 => ?_)
            · skip
              rw [n_z (by omega)] at c5
              refine lv_iload_n hx hb dX7_alike_123 rfl (lv_at hl 1 rfl) ?_
              exact hend _ _ _ _ _ hP hD hS (by unfold alikeR; rw [if_neg (of_decide_eq_false c1), if_pos (by simp [c2]), e_h, if_neg (fun q => c5 ((n_z (a := h) (by omega)).mp q)), show Sn x = i by omega, iv28_1]) dX7_alike_124
            · skip
              rw [n_z (by omega)] at c5
              refine lv_iload_n hx hb dX7_alike_119 rfl (lv_at hl 2 rfl) ?_
              refine lv_goto (tgt := 124) hx hb dX7_alike_120 (by decide) ?_
              exact hend _ _ _ _ _ hP hD hS (by unfold alikeR; rw [if_neg (of_decide_eq_false c1), if_pos (by simp [c2]), e_h, if_pos ((n_z (a := h) (by omega)).mpr c5), show Sn x = i by omega, iv28_1]) dX7_alike_124
          · skip
            rw [nI_leI (by omega) (by omega)] at c4
            refine lv_iload hx hb dX7_alike_40 (lv_at hl 0 rfl) ?_
            refine lv_iconst (v := nI (1)) hx hb dX7_alike_42 (by decide) ?_
            refine lv_iadd hx hb dX7_alike_43 ?_
            refine vn_i (v := nI (i + 1)) (nI_add _ _) ?_
            refine lv_istore (lv' := [(5, .int (nI (i + 1))), (4, .int (nI (i))), (3, .int (f1)), (2, .int (nI (u1))), (0, .ref (o)), (1, .int (nI (h)))]) hx hb dX7_alike_44 hl (by decide) rfl (fun ls hl => ?_)
            have loop46 : ∀ (N46 : Nat) (k : Nat) (u2 : Nat) (f2 : Int32), (i + 1 + k ≤ Sn x) → (alI x i (u1, f1) k = (u2, f2)) → (u2 ≤ i * 10 + k) → (Sn x - (i + 1 + k)) < N46 → ∀ (H : Heap) (locs : List Loc) (ls : Array Slot), va_P D vwCl ([(o, .inr (7, [.ref (orw), .ref (otp), .ref (a 0), .ref (oft), .ref (oac), .ref (oim), .ref (olf), .int (nI (lf)), .int (nI (fi))]))] ++ stW cA a x) H → va_D A ([(o, .inr (7, [.ref (orw), .ref (otp), .ref (a 0), .ref (oft), .ref (oac), .ref (oim), .ref (olf), .int (nI (lf)), .int (nI (fi))]))] ++ stW cA a x) → va_S A s.heap H locs → lv_has ls 6 [(5, .int (nI (i + 1 + k))), (4, .int (nI (i))), (3, .int (f2)), (2, .int (nI (u2))), (0, .ref (o)), (1, .int (nI (h)))] → W p l e ({ frames := 1, cells := 0, slots := 0, locals := 20 } : Room) s m ([.ref (o), .int (ph)] : List Value).toArray below meth c H locs 0 0 Q (F0 m 46 ls []) := by
              intro N46
              induction N46 with
              | zero => intro k u2 f2 iv46_0 iv46_1 iv46_2 hN; exact absurd hN (Nat.not_lt_zero _)
              | succ N46 ih46 =>
                intro k u2 f2 iv46_0 iv46_1 iv46_2 hN46 H locs ls hP hD hS hl
                refine lv_iload hx hb dX7_alike_46 (lv_at hl 0 rfl) ?_
                refine lv_aload_n hx hb dX7_alike_48 rfl (lv_at hl 4 rfl) ?_
                refine va_get (v := .ref (a 0)) (Ts := wsX70) (C := RX7) (T := TX7) (N := 9) hx hb hwsX70 (fun _ h => h) hown hK hP 0 rfl rfl 2 (by decide) (hts (.fieldLink RX7 26 "AdventStreets" "now" "LAdventStreets$Street;") (List.mem_of_getElem? (i := 4) rfl)) (fun _ h9 => h9) rfl dX7_alike_49 ?_
                refine va_getN (v := .int (nI (Sn x))) (Ts := wsX40) (C := RX4) (T := TX4) (N := 10) hx hb hwsX40 (fun _ h => h) hown hK hP 1 rfl rfl 5 (by decide) (hE.1.f (q := ("AdventStreets", 140, "AdventStreets$Street", "windows", "I")) 18 rfl) (fun _ h9 => h9) rfl dX7_alike_52 ?_
                refine lv_icmp_ge (tgt := 109) hx hb dX7_alike_55 (by decide) (fun c7 => ?_) (fun c7 => ?_)
                · skip
                  rw [nI_leI (by omega) (by omega)] at c7
                  refine lv_iinc (v := nI (i + 1)) (lv' := [(4, .int (nI (i + 1))), (5, .int (nI (i + 1 + k))), (3, .int (f2)), (2, .int (nI (u2))), (0, .ref (o)), (1, .int (nI (h)))]) hx hb dX7_alike_109 hl (k := 1) rfl (nI_add _ _) (by decide) rfl (fun ls hl => ?_)
                  refine lv_goto (tgt := 28) hx hb dX7_alike_112 (by decide) ?_
                  have hl9 := lv_sub (l' := [(4, .int (nI (i + 1))), (3, .int (f2)), (2, .int (nI (u2))), (0, .ref (o)), (1, .int (nI (h)))]) hl [0, 2, 3, 4, 5] rfl
                  exact ih28 (i + 1) u2 f2 (by omega) (by rw [alO, iv28_1, show Sn x - (i + 1) = k by omega]; exact iv46_1) (by omega) (by omega) _ _ _ hP hD hS hl9
                · skip
                  rw [nI_leI (by omega) (by omega)] at c7
                  have gp1 := (ga i (by omega)).2.1
                  have gp2 := (ga (i + 1 + k) (by omega)).2.1
                  refine lv_aload_n hx hb dX7_alike_58 rfl (lv_at hl 4 rfl) ?_
                  refine va_get (v := .ref (a 0)) (Ts := wsX70) (C := RX7) (T := TX7) (N := 9) hx hb hwsX70 (fun _ h => h) hown hK hP 0 rfl rfl 2 (by decide) (hts (.fieldLink RX7 26 "AdventStreets" "now" "LAdventStreets$Street;") (List.mem_of_getElem? (i := 4) rfl)) (fun _ h9 => h9) rfl dX7_alike_59 ?_
                  refine va_getN (v := .ref (a 3)) (Ts := wsX40) (C := RX4) (T := TX4) (N := 10) hx hb hwsX40 (fun _ h => h) hown hK hP 1 rfl rfl 2 (by decide) (hE.1.f (q := ("AdventStreets", 166, "AdventStreets$Street", "pictures", "[I")) 12 rfl) (fun _ h9 => h9) rfl dX7_alike_62 ?_
                  refine lv_iload hx hb dX7_alike_65 (lv_at hl 1 rfl) ?_
                  refine r_ald (f := SP x) hx hb hK hP 4 rfl (i := i) (by omega) (Nat.lt_of_lt_of_le (by omega : 10 < 1073741824) (by decide)) dX7_alike_67 ?_
                  refine lv_aload_n hx hb dX7_alike_68 rfl (lv_at hl 4 rfl) ?_
                  refine va_get (v := .ref (a 0)) (Ts := wsX70) (C := RX7) (T := TX7) (N := 9) hx hb hwsX70 (fun _ h => h) hown hK hP 0 rfl rfl 2 (by decide) (hts (.fieldLink RX7 26 "AdventStreets" "now" "LAdventStreets$Street;") (List.mem_of_getElem? (i := 4) rfl)) (fun _ h9 => h9) rfl dX7_alike_69 ?_
                  refine va_getN (v := .ref (a 3)) (Ts := wsX40) (C := RX4) (T := TX4) (N := 10) hx hb hwsX40 (fun _ h => h) hown hK hP 1 rfl rfl 2 (by decide) (hE.1.f (q := ("AdventStreets", 166, "AdventStreets$Street", "pictures", "[I")) 12 rfl) (fun _ h9 => h9) rfl dX7_alike_72 ?_
                  refine lv_iload hx hb dX7_alike_75 (lv_at hl 0 rfl) ?_
                  refine r_ald (f := SP x) hx hb hK hP 4 rfl (i := i + 1 + k) (by omega) (Nat.lt_of_lt_of_le (by omega : 10 < 1073741824) (by decide)) dX7_alike_77 ?_
                  refine lv_icmp_ne (tgt := 103) hx hb dX7_alike_78 (by decide) (fun c8 => ?_) (fun c8 => ?_)
                  · skip
                    rw [nI_eq (by omega) (by omega)] at c8
                    refine lv_iinc (v := nI (i + 1 + k + 1)) (lv' := [(5, .int (nI (i + 1 + k + 1))), (4, .int (nI (i))), (3, .int (f2)), (2, .int (nI (u2))), (0, .ref (o)), (1, .int (nI (h)))]) hx hb dX7_alike_103 hl (k := 0) rfl (nI_add _ _) (by decide) rfl (fun ls hl => ?_)
                    refine lv_goto (tgt := 46) hx hb dX7_alike_106 (by decide) ?_
                    have hl9 := lv_sub (l' := [(5, .int (nI (i + 1 + k + 1))), (4, .int (nI (i))), (3, .int (f2)), (2, .int (nI (u2))), (0, .ref (o)), (1, .int (nI (h)))]) hl [0, 1, 2, 3, 4, 5] rfl
                    have el9 : (.int (nI (i + 1 + k + 1)) : Value) = .int (nI (i + 1 + (k + 1))) := by
                      rfl
                    have hl9 : lv_has ls 6 [(5, .int (nI (i + 1 + (k + 1)))), (4, .int (nI (i))), (3, .int (f2)), (2, .int (nI (u2))), (0, .ref (o)), (1, .int (nI (h)))] := Eq.mp (congrArg (fun z9 => lv_has ls 6 [(5, z9), (4, .int (nI (i))), (3, .int (f2)), (2, .int (nI (u2))), (0, .ref (o)), (1, .int (nI (h)))]) el9) hl9
                    exact ih46 (k + 1) u2 f2 (by omega) (by rw [alI, iv46_1]; unfold alU; rw [if_neg c8]) (by omega) (by omega) _ _ _ hP hD hS hl9
                  · skip
                    rw [nI_eq (by omega) (by omega)] at c8
                    refine lv_iinc (v := nI (u2 + 1)) (lv' := [(2, .int (nI (u2 + 1))), (5, .int (nI (i + 1 + k))), (4, .int (nI (i))), (3, .int (f2)), (0, .ref (o)), (1, .int (nI (h)))]) hx hb dX7_alike_81 hl (k := 3) rfl (nI_add _ _) (by decide) rfl (fun ls hl => ?_)
                    refine lv_iload_n hx hb dX7_alike_84 rfl (lv_at hl 3 rfl) ?_
                    refine lv_ldc (v := (-1000000)) hx hb hown (hts (.constant RX7 227 (-1000000)) (List.mem_of_getElem? (i := 3) rfl)) dX7_alike_85 ?_
                    refine lv_icmp_ne (tgt := 101) hx hb dX7_alike_87 (by decide) (fun c10 => ?_) (fun c10 => ?_)
                    · skip
                      refine lv_iload_n hx hb dX7_alike_101 rfl (lv_at hl 3 rfl) ?_
                      refine lv_istore_n (lv' := [(3, .int (f2)), (2, .int (nI (u2 + 1))), (5, .int (nI (i + 1 + k))), (4, .int (nI (i))), (0, .ref (o)), (1, .int (nI (h)))]) hx hb dX7_alike_102 rfl hl (by decide) rfl (fun ls hl => ?_)
                      refine lv_iinc (v := nI (i + 1 + k + 1)) (lv' := [(5, .int (nI (i + 1 + k + 1))), (3, .int (f2)), (2, .int (nI (u2 + 1))), (4, .int (nI (i))), (0, .ref (o)), (1, .int (nI (h)))]) hx hb dX7_alike_103 hl (k := 2) rfl (nI_add _ _) (by decide) rfl (fun ls hl => ?_)
                      refine lv_goto (tgt := 46) hx hb dX7_alike_106 (by decide) ?_
                      have hl9 := lv_sub (l' := [(5, .int (nI (i + 1 + k + 1))), (4, .int (nI (i))), (3, .int (f2)), (2, .int (nI (u2 + 1))), (0, .ref (o)), (1, .int (nI (h)))]) hl [0, 3, 1, 2, 4, 5] rfl
                      have el11 : (.int (nI (i + 1 + k + 1)) : Value) = .int (nI (i + 1 + (k + 1))) := by
                        rfl
                      have hl9 : lv_has ls 6 [(5, .int (nI (i + 1 + (k + 1)))), (4, .int (nI (i))), (3, .int (f2)), (2, .int (nI (u2 + 1))), (0, .ref (o)), (1, .int (nI (h)))] := Eq.mp (congrArg (fun z9 => lv_has ls 6 [(5, z9), (4, .int (nI (i))), (3, .int (f2)), (2, .int (nI (u2 + 1))), (0, .ref (o)), (1, .int (nI (h)))]) el11) hl9
                      exact ih46 (k + 1) (u2 + 1) f2 (by omega) (by rw [alI, iv46_1]; unfold alU; rw [if_pos c8, if_neg c10]) (by omega) (by omega) _ _ _ hP hD hS hl9
                    · skip
                      refine lv_bipush (v := nI (10)) hx hb dX7_alike_90 (by decide) ?_
                      refine lv_iload hx hb dX7_alike_92 (lv_at hl 2 rfl) ?_
                      refine lv_imul hx hb dX7_alike_94 ?_
                      refine vn_i (v := nI (10 * i)) (pk_mul _ _) ?_
                      refine lv_iload hx hb dX7_alike_95 (lv_at hl 1 rfl) ?_
                      refine lv_iadd hx hb dX7_alike_97 ?_
                      refine vn_i (v := nI (10 * i + (i + 1 + k))) (nI_add _ _) ?_
                      refine lv_goto (tgt := 102) hx hb dX7_alike_98 (by decide) ?_
                      refine lv_istore_n (lv' := [(3, .int (nI (10 * i + (i + 1 + k)))), (2, .int (nI (u2 + 1))), (5, .int (nI (i + 1 + k))), (4, .int (nI (i))), (0, .ref (o)), (1, .int (nI (h)))]) hx hb dX7_alike_102 rfl hl (by decide) rfl (fun ls hl => ?_)
                      refine lv_iinc (v := nI (i + 1 + k + 1)) (lv' := [(5, .int (nI (i + 1 + k + 1))), (3, .int (nI (10 * i + (i + 1 + k)))), (2, .int (nI (u2 + 1))), (4, .int (nI (i))), (0, .ref (o)), (1, .int (nI (h)))]) hx hb dX7_alike_103 hl (k := 2) rfl (nI_add _ _) (by decide) rfl (fun ls hl => ?_)
                      refine lv_goto (tgt := 46) hx hb dX7_alike_106 (by decide) ?_
                      have hl9 := lv_sub (l' := [(5, .int (nI (i + 1 + k + 1))), (4, .int (nI (i))), (3, .int (nI (10 * i + (i + 1 + k)))), (2, .int (nI (u2 + 1))), (0, .ref (o)), (1, .int (nI (h)))]) hl [0, 3, 1, 2, 4, 5] rfl
                      have el12 : (.int (nI (i + 1 + k + 1)) : Value) = .int (nI (i + 1 + (k + 1))) := by
                        rfl
                      have hl9 : lv_has ls 6 [(5, .int (nI (i + 1 + (k + 1)))), (4, .int (nI (i))), (3, .int (nI (10 * i + (i + 1 + k)))), (2, .int (nI (u2 + 1))), (0, .ref (o)), (1, .int (nI (h)))] := Eq.mp (congrArg (fun z9 => lv_has ls 6 [(5, z9), (4, .int (nI (i))), (3, .int (nI (10 * i + (i + 1 + k)))), (2, .int (nI (u2 + 1))), (0, .ref (o)), (1, .int (nI (h)))]) el12) hl9
                      exact ih46 (k + 1) (u2 + 1) (nI (10 * i + (i + 1 + k))) (by omega) (by rw [alI, iv46_1]; unfold alU; rw [if_pos c8, if_pos c10]) (by omega) (by omega) _ _ _ hP hD hS hl9
            have hl9 := lv_sub (l' := [(5, .int (nI (i + 1))), (4, .int (nI (i))), (3, .int (f1)), (2, .int (nI (u1))), (0, .ref (o)), (1, .int (nI (h)))]) hl [0, 1, 2, 3, 4, 5] rfl
            have el13 : (.int (nI (i + 1)) : Value) = .int (nI (i + 1 + 0)) := by
              rfl
            have hl9 : lv_has ls 6 [(5, .int (nI (i + 1 + 0))), (4, .int (nI (i))), (3, .int (f1)), (2, .int (nI (u1))), (0, .ref (o)), (1, .int (nI (h)))] := Eq.mp (congrArg (fun z9 => lv_has ls 6 [(5, z9), (4, .int (nI (i))), (3, .int (f1)), (2, .int (nI (u1))), (0, .ref (o)), (1, .int (nI (h)))]) el13) hl9
            exact loop46 _ 0 u1 f1 (by omega) (rfl) (by omega) (Nat.lt_succ_self _) _ _ _ hP hD hS hl9
      have hl9 := lv_sub (l' := [(4, .int (nI (0))), (3, .int ((-1000000))), (2, .int (nI (0))), (0, .ref (o)), (1, .int (nI (h)))]) hl [0, 1, 2, 3, 4] rfl
      exact loop28 _ 0 0 (-1000000) (Nat.zero_le _) (rfl) (by omega) (Nat.lt_succ_self _) _ _ _ hP hD hS hl9
    · skip
      rw [bI_z] at c2
      refine lv_ldc (v := (-1000001)) hx hb hown (hts (.constant RX7 63 (-1000001)) (List.mem_of_getElem? (i := 2) rfl)) dX7_alike_17 ?_
      exact hend _ _ _ _ _ hP hD hS (by unfold alikeR; rw [if_neg (of_decide_eq_false c1), if_neg (by simp [c2])]) dX7_alike_19
  · skip
    rw [bI_nz] at c1
    refine lv_ldc (v := (-1000002)) hx hb hown (hts (.constant RX7 147 (-1000002)) (List.mem_of_getElem? (i := 1) rfl)) dX7_alike_7 ?_
    exact hend _ _ _ _ _ hP hD hS (by unfold alikeR; rw [if_pos (of_decide_eq_true c1)]) dX7_alike_9
