/-! ===== the reference: wind ===== -/
def dnM (o : Nat) : Nat → Nat
  | 0 => 1
  | j + 1 => dnM o j * (if o.testBit j = true then 1 else 10)
def wyM (o v c : Nat) : Nat → Nat
  | 0 => 1
  | j + 1 => wyM o v c j * (if o.testBit j = true then 1 else if v.testBit j = true then c else 10 - c)
theorem wyM_le (o v : Nat) {c : Nat} (hc : c ≤ 10) (j : Nat) : wyM o v c j ≤ 10 ^ j := by
  induction j with
  | zero => exact Nat.le_refl _
  | succ j ih =>
    rw [wyM, Nat.pow_succ]
    refine Nat.mul_le_mul ih ?_
    split
    · decide
    · split <;> omega
theorem wyM_b (o v : Nat) {c : Nat} (hc : c ≤ 10) {j : Nat} (hj : j ≤ 10) : wyM o v c j ≤ 10000000000 := Nat.le_trans (wyM_le o v hc j) (Nat.pow_le_pow_right (n := 10) (by decide) hj)
theorem dnM_le (o j : Nat) : 0 < dnM o j ∧ dnM o j ≤ 10 ^ j := by
  induction j with
  | zero => exact ⟨Nat.zero_lt_one, Nat.le_refl _⟩
  | succ j ih =>
    rw [dnM, Nat.pow_succ]
    split
    · exact ⟨by omega, Nat.mul_le_mul ih.2 (by decide)⟩
    · exact ⟨by omega, Nat.mul_le_mul ih.2 (by decide)⟩
def wdP (Z : Nat → Nat) (k n v : Nat) : Bool := (goW (upN (cpW Z 0 55) 59 (cpW Z 0 55 59 ||| v)) n 59).testBit k
def wdT (Z : Nat → Nat) (k n c v : Nat) : Nat := if v &&& Z 4 = 0 ∧ 0 < wyM (Z 4) v c (Z 0) ∧ wdP Z k n v = true then wyM (Z 4) v c (Z 0) else 0
def wdL (Z : Nat → Nat) (k n c : Nat) : Nat → Nat
  | 0 => 0
  | v + 1 => wdL Z k n c v + wdT Z k n c v
theorem wdL_le (Z : Nat → Nat) (k n c v : Nat) (hc : c ≤ 10) (hn : Z 0 ≤ 10) : wdL Z k n c v ≤ v * 10000000000 := by
  induction v with
  | zero => exact Nat.zero_le _
  | succ v ih =>
    rw [wdL]
    have : wdT Z k n c v ≤ 10000000000 := by
      unfold wdT
      split
      · exact wyM_b _ _ hc hn
      · exact Nat.zero_le _
    omega
def windM (Z : Nat → Nat) (pk pn pc ph : Int32) : Int64 := if (inW pk (Sn (sg Z 0)) && inI pn (nI 0) (nI 24) && inI pc (nI 0) (nI 10) && inI ph (nI 0) (nI 1)) = true then
    (if ph = 0 then lN (wdL Z pk.toNatClampNeg pn.toNatClampNeg pc.toNatClampNeg (2 ^ Z 0) / Nat.gcd (wdL Z pk.toNatClampNeg pn.toNatClampNeg pc.toNatClampNeg (2 ^ Z 0)) (dnM (Z 4) (Z 0)))
     else lN (dnM (Z 4) (Z 0) / Nat.gcd (wdL Z pk.toNatClampNeg pn.toNatClampNeg pc.toNatClampNeg (2 ^ Z 0)) (dnM (Z 4) (Z 0)))) else (-1000001)
set_option maxRecDepth 100000 in
set_option maxHeartbeats 4000000 in
theorem c_X8_wind (l : Launch) (D : va_G) (cA : Nat → ClassId) (tt : Nat → Nat) (om mw mt mm ml mi mh mr ud td fy su cu sa nb tn : Nat) (Z : Nat → Nat) (pk pn pc ph : Int32) (hg : Wf (sg Z 0)) (he : 0 < Z 0 → 0 < Z 1) (ht : Z 3 < 1073740000) (sz : Nat) : ClE l D cA tt yX8_wind wsX8_wind ({ frames := 5, cells := 0, slots := 0, locals := 112 } : Room) [.ref (om), .int (pk), .int (pn), .int (pc), .int (ph)] sz [(om, .inr (8, [.ref (mw), .int (nI (ud)), .ref (mt), .int (nI (td)), .int (nI (fy)), .int (nI (su)), .ref (mm), .ref (ml), .ref (mi), .ref (mh), .int (nI (cu)), .int (nI (sa)), .int (nI (nb)), .ref (mr), .int (nI (tn))])), (mw, .inl (cA 0, 1595, arN Z))] (fun zz : Sg => [(om, .inr (8, [.ref (mw), .int (nI (ud)), .ref (mt), .int (nI (td)), .int (nI (fy)), .int (nI (su)), .ref (mm), .ref (ml), .ref (mi), .ref (mh), .int (nI (cu)), .int (nI (sa)), .int (nI (nb)), .ref (mr), .int (nI (tn))])), (mw, .inl (cA 0, 1595, arN (mx Z (SK zz))))]) (windM Z pk pn pc ph) := by
  obtain ⟨gn, ge, gv, go, ga⟩ := wfZ hg
  refine ClE.mk (cc := cX8_wind) (maxL := 15) (by decide) rfl (Nat.le_of_ble_eq_true rfl) ?_
  intro p e s m below meth c A Q ls hB hl hend
  obtain ⟨⟨hx, hb, hml, hown, hts⟩, hP, hK, hD, hS, hA, hE⟩ := hB
  have hown : s.vm.findClass RX8 = some m.cls := hown
  have hwsX80 : ∀ w9 ∈ wsX80, w9.before ([.ref (om), .int (pk), .int (pn), .int (pc), .int (ph)] : List Value).toArray s = true := fun w9 h => hts w9 (List.mem_cons_of_mem _ (List.mem_append_right _ h))
  have hl : lv_has ls 15 [(0, .ref (om)), (1, .int (pk)), (2, .int (pn)), (3, .int (pc)), (4, .int (ph))] := hl
  refine lv_aload_n hx hb dX8_wind_0 rfl (lv_at hl 0 rfl) ?_
  refine lv_iload_n hx hb dX8_wind_1 rfl (lv_at hl 1 rfl) ?_
  refine cVi (n := 1) (As := [.int (pk)]) (rest := []) (C := RX8) (ci := 8) (q0 := 0) (X := [(om, .inr (8, [.ref (mw), .int (nI (ud)), .ref (mt), .int (nI (td)), .int (nI (fy)), .int (nI (su)), .ref (mm), .ref (ml), .ref (mi), .ref (mh), .int (nI (cu)), .int (nI (sa)), .int (nI (nb)), .ref (mr), .int (nI (tn))])), (mw, .inl (cA 0, 1595, arN Z))]) (pl := []) (wc := [(om, .inr (8, [.ref (mw), .int (nI (ud)), .ref (mt), .int (nI (td)), .int (nI (fy)), .int (nI (su)), .ref (mm), .ref (ml), .ref (mi), .ref (mh), .int (nI (cu)), .int (nI (sa)), .int (nI (nb)), .ref (mr), .int (nI (tn))])), (mw, .inl (cA 0, 1595, arN Z))]) (wr := ([] : va_W)) (w1 := [(om, .inr (8, [.ref (mw), .int (nI (ud)), .ref (mt), .int (nI (td)), .int (nI (fy)), .int (nI (su)), .ref (mm), .ref (ml), .ref (mi), .ref (mh), .int (nI (cu)), .int (nI (sa)), .int (nI (nb)), .ref (mr), .int (nI (tn))])), (mw, .inl (cA 0, 1595, arN Z))]) (wn := [(om, .inr (8, [.ref (mw), .int (nI (ud)), .ref (mt), .int (nI (td)), .int (nI (fy)), .int (nI (su)), .ref (mm), .ref (ml), .ref (mi), .ref (mh), .int (nI (cu)), .int (nI (sa)), .int (nI (nb)), .ref (mr), .int (nI (tn))])), (mw, .inl (cA 0, 1595, arN Z))]) (isC := [0, 1]) (isR := []) (isN := [0, 1]) ⟨hx, hb, hml, hown, hts⟩ (c_X8_isWindow l D cA tt om mw mt mm ml mi mh mr ud td fy su cu sa nb tn Z pk (hg) _) gX8_wind_X8_isWindow rfl (by decide +kernel) rfl rfl ⟨rfl, rfl⟩ ⟨Nat.le_of_ble_eq_true rfl, Nat.le_of_ble_eq_true rfl⟩ ⟨Nat.zero_le _, Nat.zero_le _⟩ hK hE hA hP hD hS ⟨⟨rfl, by decide⟩, ⟨rfl, by decide, by decide⟩, rfl, by decide⟩ rfl hl.1 rfl (Nat.le_of_ble_eq_true rfl) dX8_wind_2 (fun H locs hP hD hS => ?_)
  have hP : va_P D vwCl [(om, .inr (8, [.ref (mw), .int (nI (ud)), .ref (mt), .int (nI (td)), .int (nI (fy)), .int (nI (su)), .ref (mm), .ref (ml), .ref (mi), .ref (mh), .int (nI (cu)), .int (nI (sa)), .int (nI (nb)), .ref (mr), .int (nI (tn))])), (mw, .inl (cA 0, 1595, arN Z))] _ := hP
  have hD : va_D A [(om, .inr (8, [.ref (mw), .int (nI (ud)), .ref (mt), .int (nI (td)), .int (nI (fy)), .int (nI (su)), .ref (mm), .ref (ml), .ref (mi), .ref (mh), .int (nI (cu)), .int (nI (sa)), .int (nI (nb)), .ref (mr), .int (nI (tn))])), (mw, .inl (cA 0, 1595, arN Z))] := hD
  refine lv_if_eq (tgt := 43) hx hb dX8_wind_5 (by decide) (fun c1 => ?_) (fun c1 => ?_)
  · skip
    rw [bI_z] at c1
    refine lv_ldc2 (v := (-1000001)) hx hb hown (hts (.constantLong RX8 184 (-1000001)) (List.mem_of_getElem? (i := 3) rfl)) dX8_wind_43 ?_
    have ef2 : ([(om, .inr (8, [.ref (mw), .int (nI (ud)), .ref (mt), .int (nI (td)), .int (nI (fy)), .int (nI (su)), .ref (mm), .ref (ml), .ref (mi), .ref (mh), .int (nI (cu)), .int (nI (sa)), .int (nI (nb)), .ref (mr), .int (nI (tn))])), (mw, .inl (cA 0, 1595, arN Z))] : va_W) = [(om, .inr (8, [.ref (mw), .int (nI (ud)), .ref (mt), .int (nI (td)), .int (nI (fy)), .int (nI (su)), .ref (mm), .ref (ml), .ref (mi), .ref (mh), .int (nI (cu)), .int (nI (sa)), .int (nI (nb)), .ref (mr), .int (nI (tn))])), (mw, .inl (cA 0, 1595, arN (mx Z (SK (0, 0, 0, 0, 0, Z, SP (sg Z 0), SD (sg Z 0), SG (sg Z 0), SS (sg Z 0))))))] := by
      rw [show mx Z (SK (0, 0, 0, 0, 0, Z, SP (sg Z 0), SD (sg Z 0), SG (sg Z 0), SS (sg Z 0))) = Z from mx_of (fun j hj => rfl)]
    have hP : va_P D vwCl [(om, .inr (8, [.ref (mw), .int (nI (ud)), .ref (mt), .int (nI (td)), .int (nI (fy)), .int (nI (su)), .ref (mm), .ref (ml), .ref (mi), .ref (mh), .int (nI (cu)), .int (nI (sa)), .int (nI (nb)), .ref (mr), .int (nI (tn))])), (mw, .inl (cA 0, 1595, arN (mx Z (SK (0, 0, 0, 0, 0, Z, SP (sg Z 0), SD (sg Z 0), SG (sg Z 0), SS (sg Z 0))))))] _ := Eq.mp (congrArg (fun z9 => va_P D vwCl z9 _) ef2) hP
    have hD : va_D A [(om, .inr (8, [.ref (mw), .int (nI (ud)), .ref (mt), .int (nI (td)), .int (nI (fy)), .int (nI (su)), .ref (mm), .ref (ml), .ref (mi), .ref (mh), .int (nI (cu)), .int (nI (sa)), .int (nI (nb)), .ref (mr), .int (nI (tn))])), (mw, .inl (cA 0, 1595, arN (mx Z (SK (0, 0, 0, 0, 0, Z, SP (sg Z 0), SD (sg Z 0), SG (sg Z 0), SS (sg Z 0))))))] := Eq.mp (congrArg (fun z9 => va_D A z9) ef2) hD
    exact hend _ _ _ _ _ (0, 0, 0, 0, 0, Z, SP (sg Z 0), SD (sg Z 0), SG (sg Z 0), SS (sg Z 0)) hP hD hS (by unfold windM; rw [if_neg (by simp [c1])]) dX8_wind_46
  · skip
    rw [bI_nz] at c1
    obtain ⟨k, e_k, l_k⟩ := inW_t (by omega) c1
    rw [e_k] at hl
    refine lv_iload_n hx hb dX8_wind_8 rfl (lv_at hl 2 rfl) ?_
    refine lv_i2l (v := (pn).toInt64) hx hb dX8_wind_9 (rfl) ?_
    refine lv_lconst (v := lN 0) hx hb dX8_wind_10 rfl ?_
    refine lv_ldc2 (v := (24)) hx hb hown (hts (.constantLong RX8 141 (24)) (List.mem_of_getElem? (i := 1) rfl)) dX8_wind_11 ?_
    refine vn_l (v := lN 24) (by decide) ?_
    refine cSi (n := 3) (As := [.long ((pn).toInt64), .long (lN (0)), .long (lN (24))]) (rest := []) (X := [(om, .inr (8, [.ref (mw), .int (nI (ud)), .ref (mt), .int (nI (td)), .int (nI (fy)), .int (nI (su)), .ref (mm), .ref (ml), .ref (mi), .ref (mh), .int (nI (cu)), .int (nI (sa)), .int (nI (nb)), .ref (mr), .int (nI (tn))])), (mw, .inl (cA 0, 1595, arN Z))]) (pl := []) (wc := ([] : va_W)) (wr := [(om, .inr (8, [.ref (mw), .int (nI (ud)), .ref (mt), .int (nI (td)), .int (nI (fy)), .int (nI (su)), .ref (mm), .ref (ml), .ref (mi), .ref (mh), .int (nI (cu)), .int (nI (sa)), .int (nI (nb)), .ref (mr), .int (nI (tn))])), (mw, .inl (cA 0, 1595, arN Z))]) (w1 := ([] : va_W)) (wn := [(om, .inr (8, [.ref (mw), .int (nI (ud)), .ref (mt), .int (nI (td)), .int (nI (fy)), .int (nI (su)), .ref (mm), .ref (ml), .ref (mi), .ref (mh), .int (nI (cu)), .int (nI (sa)), .int (nI (nb)), .ref (mr), .int (nI (tn))])), (mw, .inl (cA 0, 1595, arN Z))]) (isC := []) (isR := [0, 1]) (isN := [0, 1]) ⟨hx, hb, hml, hown, hts⟩ (c_X8_in_I l D cA tt pn 0 24 (by omega) (by omega) _) gX8_wind_X8_in rfl (by decide +kernel) ⟨rfl, rfl⟩ ⟨Nat.le_of_ble_eq_true rfl, Nat.le_of_ble_eq_true rfl⟩ ⟨Nat.zero_le _, Nat.zero_le _⟩ hK hE hA hP hD hS ⟨⟨rfl, by decide⟩, ⟨rfl, by decide, by decide⟩, rfl, by decide⟩ rfl hl.1 rfl (Nat.le_of_ble_eq_true rfl) dX8_wind_14 (fun H locs hP hD hS => ?_)
    have hP : va_P D vwCl [(om, .inr (8, [.ref (mw), .int (nI (ud)), .ref (mt), .int (nI (td)), .int (nI (fy)), .int (nI (su)), .ref (mm), .ref (ml), .ref (mi), .ref (mh), .int (nI (cu)), .int (nI (sa)), .int (nI (nb)), .ref (mr), .int (nI (tn))])), (mw, .inl (cA 0, 1595, arN Z))] _ := hP
    have hD : va_D A [(om, .inr (8, [.ref (mw), .int (nI (ud)), .ref (mt), .int (nI (td)), .int (nI (fy)), .int (nI (su)), .ref (mm), .ref (ml), .ref (mi), .ref (mh), .int (nI (cu)), .int (nI (sa)), .int (nI (nb)), .ref (mr), .int (nI (tn))])), (mw, .inl (cA 0, 1595, arN Z))] := hD
    refine lv_if_eq (tgt := 43) hx hb dX8_wind_17 (by decide) (fun c3 => ?_) (fun c3 => ?_)
    · skip
      rw [bI_z] at c3
      refine lv_ldc2 (v := (-1000001)) hx hb hown (hts (.constantLong RX8 184 (-1000001)) (List.mem_of_getElem? (i := 3) rfl)) dX8_wind_43 ?_
      have ef4 : ([(om, .inr (8, [.ref (mw), .int (nI (ud)), .ref (mt), .int (nI (td)), .int (nI (fy)), .int (nI (su)), .ref (mm), .ref (ml), .ref (mi), .ref (mh), .int (nI (cu)), .int (nI (sa)), .int (nI (nb)), .ref (mr), .int (nI (tn))])), (mw, .inl (cA 0, 1595, arN Z))] : va_W) = [(om, .inr (8, [.ref (mw), .int (nI (ud)), .ref (mt), .int (nI (td)), .int (nI (fy)), .int (nI (su)), .ref (mm), .ref (ml), .ref (mi), .ref (mh), .int (nI (cu)), .int (nI (sa)), .int (nI (nb)), .ref (mr), .int (nI (tn))])), (mw, .inl (cA 0, 1595, arN (mx Z (SK (0, 0, 0, 0, 0, Z, SP (sg Z 0), SD (sg Z 0), SG (sg Z 0), SS (sg Z 0))))))] := by
        rw [show mx Z (SK (0, 0, 0, 0, 0, Z, SP (sg Z 0), SD (sg Z 0), SG (sg Z 0), SS (sg Z 0))) = Z from mx_of (fun j hj => rfl)]
      have hP : va_P D vwCl [(om, .inr (8, [.ref (mw), .int (nI (ud)), .ref (mt), .int (nI (td)), .int (nI (fy)), .int (nI (su)), .ref (mm), .ref (ml), .ref (mi), .ref (mh), .int (nI (cu)), .int (nI (sa)), .int (nI (nb)), .ref (mr), .int (nI (tn))])), (mw, .inl (cA 0, 1595, arN (mx Z (SK (0, 0, 0, 0, 0, Z, SP (sg Z 0), SD (sg Z 0), SG (sg Z 0), SS (sg Z 0))))))] _ := Eq.mp (congrArg (fun z9 => va_P D vwCl z9 _) ef4) hP
      have hD : va_D A [(om, .inr (8, [.ref (mw), .int (nI (ud)), .ref (mt), .int (nI (td)), .int (nI (fy)), .int (nI (su)), .ref (mm), .ref (ml), .ref (mi), .ref (mh), .int (nI (cu)), .int (nI (sa)), .int (nI (nb)), .ref (mr), .int (nI (tn))])), (mw, .inl (cA 0, 1595, arN (mx Z (SK (0, 0, 0, 0, 0, Z, SP (sg Z 0), SD (sg Z 0), SG (sg Z 0), SS (sg Z 0))))))] := Eq.mp (congrArg (fun z9 => va_D A z9) ef4) hD
      exact hend _ _ _ _ _ (0, 0, 0, 0, 0, Z, SP (sg Z 0), SD (sg Z 0), SG (sg Z 0), SS (sg Z 0)) hP hD hS (by unfold windM; rw [if_neg (by simp [c1, c3])]) dX8_wind_46
    · skip
      rw [bI_nz] at c3
      obtain ⟨n, e_n, a_n, l_n⟩ := inI_t (by decide) c3 (by decide)
      rw [e_n] at hl
      refine lv_iload_n hx hb dX8_wind_20 rfl (lv_at hl 3 rfl) ?_
      refine lv_i2l (v := (pc).toInt64) hx hb dX8_wind_21 (rfl) ?_
      refine lv_lconst (v := lN 0) hx hb dX8_wind_22 rfl ?_
      refine lv_ldc2 (v := (10)) hx hb hown (hts (.constantLong RX8 182 (10)) (List.mem_of_getElem? (i := 2) rfl)) dX8_wind_23 ?_
      refine vn_l (v := lN 10) (by decide) ?_
      refine cSi (n := 3) (As := [.long ((pc).toInt64), .long (lN (0)), .long (lN (10))]) (rest := []) (X := [(om, .inr (8, [.ref (mw), .int (nI (ud)), .ref (mt), .int (nI (td)), .int (nI (fy)), .int (nI (su)), .ref (mm), .ref (ml), .ref (mi), .ref (mh), .int (nI (cu)), .int (nI (sa)), .int (nI (nb)), .ref (mr), .int (nI (tn))])), (mw, .inl (cA 0, 1595, arN Z))]) (pl := []) (wc := ([] : va_W)) (wr := [(om, .inr (8, [.ref (mw), .int (nI (ud)), .ref (mt), .int (nI (td)), .int (nI (fy)), .int (nI (su)), .ref (mm), .ref (ml), .ref (mi), .ref (mh), .int (nI (cu)), .int (nI (sa)), .int (nI (nb)), .ref (mr), .int (nI (tn))])), (mw, .inl (cA 0, 1595, arN Z))]) (w1 := ([] : va_W)) (wn := [(om, .inr (8, [.ref (mw), .int (nI (ud)), .ref (mt), .int (nI (td)), .int (nI (fy)), .int (nI (su)), .ref (mm), .ref (ml), .ref (mi), .ref (mh), .int (nI (cu)), .int (nI (sa)), .int (nI (nb)), .ref (mr), .int (nI (tn))])), (mw, .inl (cA 0, 1595, arN Z))]) (isC := []) (isR := [0, 1]) (isN := [0, 1]) ⟨hx, hb, hml, hown, hts⟩ (c_X8_in_I l D cA tt pc 0 10 (by omega) (by omega) _) gX8_wind_X8_in rfl (by decide +kernel) ⟨rfl, rfl⟩ ⟨Nat.le_of_ble_eq_true rfl, Nat.le_of_ble_eq_true rfl⟩ ⟨Nat.zero_le _, Nat.zero_le _⟩ hK hE hA hP hD hS ⟨⟨rfl, by decide⟩, ⟨rfl, by decide, by decide⟩, rfl, by decide⟩ rfl hl.1 rfl (Nat.le_of_ble_eq_true rfl) dX8_wind_26 (fun H locs hP hD hS => ?_)
      have hP : va_P D vwCl [(om, .inr (8, [.ref (mw), .int (nI (ud)), .ref (mt), .int (nI (td)), .int (nI (fy)), .int (nI (su)), .ref (mm), .ref (ml), .ref (mi), .ref (mh), .int (nI (cu)), .int (nI (sa)), .int (nI (nb)), .ref (mr), .int (nI (tn))])), (mw, .inl (cA 0, 1595, arN Z))] _ := hP
      have hD : va_D A [(om, .inr (8, [.ref (mw), .int (nI (ud)), .ref (mt), .int (nI (td)), .int (nI (fy)), .int (nI (su)), .ref (mm), .ref (ml), .ref (mi), .ref (mh), .int (nI (cu)), .int (nI (sa)), .int (nI (nb)), .ref (mr), .int (nI (tn))])), (mw, .inl (cA 0, 1595, arN Z))] := hD
      refine lv_if_eq (tgt := 43) hx hb dX8_wind_29 (by decide) (fun c5 => ?_) (fun c5 => ?_)
      · skip
        rw [bI_z] at c5
        refine lv_ldc2 (v := (-1000001)) hx hb hown (hts (.constantLong RX8 184 (-1000001)) (List.mem_of_getElem? (i := 3) rfl)) dX8_wind_43 ?_
        have ef6 : ([(om, .inr (8, [.ref (mw), .int (nI (ud)), .ref (mt), .int (nI (td)), .int (nI (fy)), .int (nI (su)), .ref (mm), .ref (ml), .ref (mi), .ref (mh), .int (nI (cu)), .int (nI (sa)), .int (nI (nb)), .ref (mr), .int (nI (tn))])), (mw, .inl (cA 0, 1595, arN Z))] : va_W) = [(om, .inr (8, [.ref (mw), .int (nI (ud)), .ref (mt), .int (nI (td)), .int (nI (fy)), .int (nI (su)), .ref (mm), .ref (ml), .ref (mi), .ref (mh), .int (nI (cu)), .int (nI (sa)), .int (nI (nb)), .ref (mr), .int (nI (tn))])), (mw, .inl (cA 0, 1595, arN (mx Z (SK (0, 0, 0, 0, 0, Z, SP (sg Z 0), SD (sg Z 0), SG (sg Z 0), SS (sg Z 0))))))] := by
          rw [show mx Z (SK (0, 0, 0, 0, 0, Z, SP (sg Z 0), SD (sg Z 0), SG (sg Z 0), SS (sg Z 0))) = Z from mx_of (fun j hj => rfl)]
        have hP : va_P D vwCl [(om, .inr (8, [.ref (mw), .int (nI (ud)), .ref (mt), .int (nI (td)), .int (nI (fy)), .int (nI (su)), .ref (mm), .ref (ml), .ref (mi), .ref (mh), .int (nI (cu)), .int (nI (sa)), .int (nI (nb)), .ref (mr), .int (nI (tn))])), (mw, .inl (cA 0, 1595, arN (mx Z (SK (0, 0, 0, 0, 0, Z, SP (sg Z 0), SD (sg Z 0), SG (sg Z 0), SS (sg Z 0))))))] _ := Eq.mp (congrArg (fun z9 => va_P D vwCl z9 _) ef6) hP
        have hD : va_D A [(om, .inr (8, [.ref (mw), .int (nI (ud)), .ref (mt), .int (nI (td)), .int (nI (fy)), .int (nI (su)), .ref (mm), .ref (ml), .ref (mi), .ref (mh), .int (nI (cu)), .int (nI (sa)), .int (nI (nb)), .ref (mr), .int (nI (tn))])), (mw, .inl (cA 0, 1595, arN (mx Z (SK (0, 0, 0, 0, 0, Z, SP (sg Z 0), SD (sg Z 0), SG (sg Z 0), SS (sg Z 0))))))] := Eq.mp (congrArg (fun z9 => va_D A z9) ef6) hD
        exact hend _ _ _ _ _ (0, 0, 0, 0, 0, Z, SP (sg Z 0), SD (sg Z 0), SG (sg Z 0), SS (sg Z 0)) hP hD hS (by unfold windM; rw [if_neg (by simp [c1, c3, c5])]) dX8_wind_46
      · skip
        rw [bI_nz] at c5
        obtain ⟨g, e_g, a_g, l_g⟩ := inI_t (by decide) c5 (by decide)
        rw [e_g] at hl
        refine lv_iload hx hb dX8_wind_32 (lv_at hl 4 rfl) ?_
        refine lv_i2l (v := (ph).toInt64) hx hb dX8_wind_34 (rfl) ?_
        refine lv_lconst (v := lN 0) hx hb dX8_wind_35 rfl ?_
        refine lv_lconst (v := lN 1) hx hb dX8_wind_36 rfl ?_
        refine cSi (n := 3) (As := [.long ((ph).toInt64), .long (lN (0)), .long (lN (1))]) (rest := []) (X := [(om, .inr (8, [.ref (mw), .int (nI (ud)), .ref (mt), .int (nI (td)), .int (nI (fy)), .int (nI (su)), .ref (mm), .ref (ml), .ref (mi), .ref (mh), .int (nI (cu)), .int (nI (sa)), .int (nI (nb)), .ref (mr), .int (nI (tn))])), (mw, .inl (cA 0, 1595, arN Z))]) (pl := []) (wc := ([] : va_W)) (wr := [(om, .inr (8, [.ref (mw), .int (nI (ud)), .ref (mt), .int (nI (td)), .int (nI (fy)), .int (nI (su)), .ref (mm), .ref (ml), .ref (mi), .ref (mh), .int (nI (cu)), .int (nI (sa)), .int (nI (nb)), .ref (mr), .int (nI (tn))])), (mw, .inl (cA 0, 1595, arN Z))]) (w1 := ([] : va_W)) (wn := [(om, .inr (8, [.ref (mw), .int (nI (ud)), .ref (mt), .int (nI (td)), .int (nI (fy)), .int (nI (su)), .ref (mm), .ref (ml), .ref (mi), .ref (mh), .int (nI (cu)), .int (nI (sa)), .int (nI (nb)), .ref (mr), .int (nI (tn))])), (mw, .inl (cA 0, 1595, arN Z))]) (isC := []) (isR := [0, 1]) (isN := [0, 1]) ⟨hx, hb, hml, hown, hts⟩ (c_X8_in_I l D cA tt ph 0 1 (by omega) (by omega) _) gX8_wind_X8_in rfl (by decide +kernel) ⟨rfl, rfl⟩ ⟨Nat.le_of_ble_eq_true rfl, Nat.le_of_ble_eq_true rfl⟩ ⟨Nat.zero_le _, Nat.zero_le _⟩ hK hE hA hP hD hS ⟨⟨rfl, by decide⟩, ⟨rfl, by decide, by decide⟩, rfl, by decide⟩ rfl hl.1 rfl (Nat.le_of_ble_eq_true rfl) dX8_wind_37 (fun H locs hP hD hS => ?_)
        have hP : va_P D vwCl [(om, .inr (8, [.ref (mw), .int (nI (ud)), .ref (mt), .int (nI (td)), .int (nI (fy)), .int (nI (su)), .ref (mm), .ref (ml), .ref (mi), .ref (mh), .int (nI (cu)), .int (nI (sa)), .int (nI (nb)), .ref (mr), .int (nI (tn))])), (mw, .inl (cA 0, 1595, arN Z))] _ := hP
        have hD : va_D A [(om, .inr (8, [.ref (mw), .int (nI (ud)), .ref (mt), .int (nI (td)), .int (nI (fy)), .int (nI (su)), .ref (mm), .ref (ml), .ref (mi), .ref (mh), .int (nI (cu)), .int (nI (sa)), .int (nI (nb)), .ref (mr), .int (nI (tn))])), (mw, .inl (cA 0, 1595, arN Z))] := hD
        refine lv_if_ne (tgt := 47) hx hb dX8_wind_40 (by decide) (fun c7 => ?_) (fun c7 => ?_)
        · skip
          rw [bI_nz] at c7
          obtain ⟨h, e_h, a_h, l_h⟩ := inI_t (by decide) c7 (by decide)
          rw [e_h] at hl
          refine lv_lconst (v := lN 0) hx hb dX8_wind_47 rfl ?_
          refine lv_lstore (lv' := [(5, .long (lN (0))), (0, .ref (om)), (1, .int (nI (k))), (2, .int (nI (n))), (3, .int (nI (g))), (4, .int (nI (h)))]) hx hb dX8_wind_48 hl (by decide) rfl (fun ls hl => ?_)
          refine lv_lconst (v := lN 1) hx hb dX8_wind_50 rfl ?_
          refine lv_lstore (lv' := [(7, .long (lN (1))), (5, .long (lN (0))), (0, .ref (om)), (1, .int (nI (k))), (2, .int (nI (n))), (3, .int (nI (g))), (4, .int (nI (h)))]) hx hb dX8_wind_51 hl (by decide) rfl (fun ls hl => ?_)
          refine lv_iconst (v := nI (0)) hx hb dX8_wind_53 (by decide) ?_
          refine lv_istore (lv' := [(9, .int (nI (0))), (7, .long (lN (1))), (5, .long (lN (0))), (0, .ref (om)), (1, .int (nI (k))), (2, .int (nI (n))), (3, .int (nI (g))), (4, .int (nI (h)))]) hx hb dX8_wind_54 hl (by decide) rfl (fun ls hl => ?_)
          have loop56 : ∀ (N56 : Nat) (j : Nat), (j ≤ Z 0) → (Z 0 - j) < N56 → ∀ (H : Heap) (locs : List Loc) (ls : Array Slot), va_P D vwCl [(om, .inr (8, [.ref (mw), .int (nI (ud)), .ref (mt), .int (nI (td)), .int (nI (fy)), .int (nI (su)), .ref (mm), .ref (ml), .ref (mi), .ref (mh), .int (nI (cu)), .int (nI (sa)), .int (nI (nb)), .ref (mr), .int (nI (tn))])), (mw, .inl (cA 0, 1595, arN Z))] H → va_D A [(om, .inr (8, [.ref (mw), .int (nI (ud)), .ref (mt), .int (nI (td)), .int (nI (fy)), .int (nI (su)), .ref (mm), .ref (ml), .ref (mi), .ref (mh), .int (nI (cu)), .int (nI (sa)), .int (nI (nb)), .ref (mr), .int (nI (tn))])), (mw, .inl (cA 0, 1595, arN Z))] → va_S A s.heap H locs → lv_has ls 15 [(9, .int (nI (j))), (7, .long (lN (dnM (Z 4) j))), (5, .long (lN (0))), (0, .ref (om)), (1, .int (nI (k))), (2, .int (nI (n))), (3, .int (nI (g))), (4, .int (nI (h)))] → W p l e ({ frames := 5, cells := 0, slots := 0, locals := 112 } : Room) s m ([.ref (om), .int (pk), .int (pn), .int (pc), .int (ph)] : List Value).toArray below meth c H locs 0 0 Q (F0 m 56 ls []) := by
            intro N56
            induction N56 with
            | zero => intro j iv56_0 hN; exact absurd hN (Nat.not_lt_zero _)
            | succ N56 ih56 =>
              intro j iv56_0 hN56 H locs ls hP hD hS hl
              refine lv_iload hx hb dX8_wind_56 (lv_at hl 0 rfl) ?_
              refine lv_aload_n hx hb dX8_wind_58 rfl (lv_at hl 3 rfl) ?_
              refine va_get (v := .ref (mw)) (Ts := wsX80) (C := RX8) (T := TX8) (N := 15) hx hb hwsX80 (fun _ h => h) hown hK hP 0 rfl rfl 0 (by decide) (hts (.fieldLink RX8 7 "AdventStreetsModel" "w" "[I") (List.mem_of_getElem? (i := 4) rfl)) (fun _ h9 => h9) rfl dX8_wind_59 ?_
              refine lv_iconst (v := nI (0)) hx hb dX8_wind_62 (by decide) ?_
              refine r_ald (f := Z) hx hb hK hP 1 rfl (i := 0) (by omega) (Nat.lt_of_lt_of_le (by omega : 1595 < 1073741824) (by decide)) dX8_wind_63 ?_
              refine lv_icmp_ge (tgt := 99) hx hb dX8_wind_64 (by decide) (fun c9 => ?_) (fun c9 => ?_)
              · skip
                rw [nI_leI (by omega) (by omega)] at c9
                refine lv_iconst (v := nI (0)) hx hb dX8_wind_99 (by decide) ?_
                refine lv_istore (lv' := [(9, .int (nI (0))), (7, .long (lN (dnM (Z 4) j))), (5, .long (lN (0))), (0, .ref (om)), (1, .int (nI (k))), (2, .int (nI (n))), (3, .int (nI (g))), (4, .int (nI (h)))]) hx hb dX8_wind_100 hl (by decide) rfl (fun ls hl => ?_)
                have loop102 : ∀ (N102 : Nat) (v : Nat) (u1 : Nat) (V : Nat → Nat), (v ≤ 2 ^ Z 0) → (u1 = wdL Z k n g v) → (off5 V Z) → (2 ^ Z 0 - v) < N102 → ∀ (H : Heap) (locs : List Loc) (ls : Array Slot), va_P D vwCl [(om, .inr (8, [.ref (mw), .int (nI (ud)), .ref (mt), .int (nI (td)), .int (nI (fy)), .int (nI (su)), .ref (mm), .ref (ml), .ref (mi), .ref (mh), .int (nI (cu)), .int (nI (sa)), .int (nI (nb)), .ref (mr), .int (nI (tn))])), (mw, .inl (cA 0, 1595, arN V))] H → va_D A [(om, .inr (8, [.ref (mw), .int (nI (ud)), .ref (mt), .int (nI (td)), .int (nI (fy)), .int (nI (su)), .ref (mm), .ref (ml), .ref (mi), .ref (mh), .int (nI (cu)), .int (nI (sa)), .int (nI (nb)), .ref (mr), .int (nI (tn))])), (mw, .inl (cA 0, 1595, arN V))] → va_S A s.heap H locs → lv_has ls 15 [(9, .int (nI (v))), (7, .long (lN (dnM (Z 4) j))), (5, .long (lN (u1))), (0, .ref (om)), (1, .int (nI (k))), (2, .int (nI (n))), (3, .int (nI (g))), (4, .int (nI (h)))] → W p l e ({ frames := 5, cells := 0, slots := 0, locals := 112 } : Room) s m ([.ref (om), .int (pk), .int (pn), .int (pc), .int (ph)] : List Value).toArray below meth c H locs 0 0 Q (F0 m 102 ls []) := by
                  intro N102
                  induction N102 with
                  | zero => intro v u1 V iv102_0 iv102_1 iv102_2 hN; exact absurd hN (Nat.not_lt_zero _)
                  | succ N102 ih102 =>
                    intro v u1 V iv102_0 iv102_1 iv102_2 hN102 H locs ls hP hD hS hl
                    have hV : off5 V Z := iv102_2
                    have hva : v &&& Z 4 ≤ v := Nat.and_le_left
                    have hp9 : 2 ^ Z 0 ≤ 1024 := Nat.pow_le_pow_right (n := 2) (by decide) gn
                    obtain ⟨hy1, hy2, hy3, hy4⟩ := try_ok (off_wf hV hg)
                    have hy5 : cpW V 0 55 59 < 1024 := (wfW hy1).2.2.2.1
                    have hub := wdL_le Z k n g v (by omega) gn
                    have hdb := dnM_le (Z 4) (Z 0)
                    have hdb2 : dnM (Z 4) (Z 0) ≤ 10000000000 := Nat.le_trans hdb.2 (Nat.pow_le_pow_right (n := 10) (by decide) gn)
                    have hdj : dnM (Z 4) j = dnM (Z 4) (Z 0) := by rw [show j = Z 0 by omega]
                    refine lv_iload hx hb dX8_wind_102 (lv_at hl 0 rfl) ?_
                    refine lv_iconst (v := nI (1)) hx hb dX8_wind_104 (by decide) ?_
                    refine lv_aload_n hx hb dX8_wind_105 rfl (lv_at hl 3 rfl) ?_
                    refine va_get (v := .ref (mw)) (Ts := wsX80) (C := RX8) (T := TX8) (N := 15) hx hb hwsX80 (fun _ h => h) hown hK hP 0 rfl rfl 0 (by decide) (hts (.fieldLink RX8 7 "AdventStreetsModel" "w" "[I") (List.mem_of_getElem? (i := 4) rfl)) (fun _ h9 => h9) rfl dX8_wind_106 ?_
                    refine lv_iconst (v := nI (0)) hx hb dX8_wind_109 (by decide) ?_
                    refine r_ald (f := V) hx hb hK hP 1 rfl (i := 0) (by omega) (Nat.lt_of_lt_of_le (by omega : 1595 < 1073741824) (by decide)) dX8_wind_110 ?_
                    refine vn_i (v := nI (Z 0)) (congrArg nI (hV 0 (by omega))) ?_
                    refine lv_ishl hx hb dX8_wind_111 ?_
                    refine vn_i (v := nI (2 ^ (Z 0))) (n_shl1 (by omega)) ?_
                    refine lv_icmp_ge (tgt := 252) hx hb dX8_wind_112 (by decide) (fun c11 => ?_) (fun c11 => ?_)
                    · skip
                      rw [nI_leI (by omega) (by omega)] at c11
                      refine lv_lload hx hb dX8_wind_252 (lv_at hl 2 rfl) ?_
                      refine lv_lstore (lv' := [(9, .long (lN (u1))), (7, .long (lN (dnM (Z 4) j))), (5, .long (lN (u1))), (0, .ref (om)), (1, .int (nI (k))), (2, .int (nI (n))), (3, .int (nI (g))), (4, .int (nI (h)))]) hx hb dX8_wind_254 hl (by decide) rfl (fun ls hl => ?_)
                      refine lv_lload hx hb dX8_wind_256 (lv_at hl 1 rfl) ?_
                      refine lv_lstore (lv' := [(11, .long (lN (dnM (Z 4) j))), (9, .long (lN (u1))), (7, .long (lN (dnM (Z 4) j))), (5, .long (lN (u1))), (0, .ref (om)), (1, .int (nI (k))), (2, .int (nI (n))), (3, .int (nI (g))), (4, .int (nI (h)))]) hx hb dX8_wind_258 hl (by decide) rfl (fun ls hl => ?_)
                      have loop260 : ∀ (N260 : Nat) (x9 : Nat) (y9 : Nat), (x9 < 2 ^ 45) → (y9 < 2 ^ 45) → (Nat.gcd x9 y9 = Nat.gcd (wdL Z k n g v) (dnM (Z 4) (Z 0))) → (y9) < N260 → ∀ (H : Heap) (locs : List Loc) (ls : Array Slot), va_P D vwCl [(om, .inr (8, [.ref (mw), .int (nI (ud)), .ref (mt), .int (nI (td)), .int (nI (fy)), .int (nI (su)), .ref (mm), .ref (ml), .ref (mi), .ref (mh), .int (nI (cu)), .int (nI (sa)), .int (nI (nb)), .ref (mr), .int (nI (tn))])), (mw, .inl (cA 0, 1595, arN V))] H → va_D A [(om, .inr (8, [.ref (mw), .int (nI (ud)), .ref (mt), .int (nI (td)), .int (nI (fy)), .int (nI (su)), .ref (mm), .ref (ml), .ref (mi), .ref (mh), .int (nI (cu)), .int (nI (sa)), .int (nI (nb)), .ref (mr), .int (nI (tn))])), (mw, .inl (cA 0, 1595, arN V))] → va_S A s.heap H locs → lv_has ls 15 [(11, .long (lN (y9))), (9, .long (lN (x9))), (7, .long (lN (dnM (Z 4) j))), (5, .long (lN (u1))), (0, .ref (om)), (1, .int (nI (k))), (2, .int (nI (n))), (3, .int (nI (g))), (4, .int (nI (h)))] → W p l e ({ frames := 5, cells := 0, slots := 0, locals := 112 } : Room) s m ([.ref (om), .int (pk), .int (pn), .int (pc), .int (ph)] : List Value).toArray below meth c H locs 0 0 Q (F0 m 260 ls []) := by
                        intro N260
                        induction N260 with
                        | zero => intro x9 y9 iv260_0 iv260_1 iv260_2 hN; exact absurd hN (Nat.not_lt_zero _)
                        | succ N260 ih260 =>
                          intro x9 y9 iv260_0 iv260_1 iv260_2 hN260 H locs ls hP hD hS hl
                          have hgp : 0 < Nat.gcd x9 y9 := by rw [iv260_2]; exact Nat.gcd_pos_of_pos_right _ hdb.1
                          refine lv_lload hx hb dX8_wind_260 (lv_at hl 0 rfl) ?_
                          refine lv_lconst (v := lN 0) hx hb dX8_wind_262 rfl ?_
                          refine W.lcmp hx hb dX8_wind_263 ?_
                          refine lv_if_eq (tgt := 285) hx hb dX8_wind_264 (by decide) (fun c13 => ?_) (fun c13 => ?_)
                          · skip
                            rw [lg_cmp_eq] at c13
                            rw [pk_lEQ (by omega) (by omega)] at c13
                            have hy0 : y9 = 0 := by omega
                            have hx0 : 0 < x9 := by rw [hy0, Nat.gcd_zero_right] at hgp; exact hgp
                            refine lv_iload hx hb dX8_wind_285 (lv_at hl 8 rfl) ?_
                            refine lv_if_ne (tgt := 298) hx hb dX8_wind_287 (by decide) (fun c14 => ?_) (fun c14 => ?_)
                            · skip
                              rw [n_z (by omega)] at c14
                              refine lv_lload hx hb dX8_wind_298 (lv_at hl 2 rfl) ?_
                              refine lv_lload hx hb dX8_wind_300 (lv_at hl 1 rfl) ?_
                              refine lv_ldiv hx hb dX8_wind_302 (lN_ne0 (by omega) (by omega)) ?_
                              refine vn_l (v := lN ((dnM (Z 4) j) / x9)) (pk_lDiv (by omega) (by omega) (by omega)) ?_
                              have ef15 : ([(om, .inr (8, [.ref (mw), .int (nI (ud)), .ref (mt), .int (nI (td)), .int (nI (fy)), .int (nI (su)), .ref (mm), .ref (ml), .ref (mi), .ref (mh), .int (nI (cu)), .int (nI (sa)), .int (nI (nb)), .ref (mr), .int (nI (tn))])), (mw, .inl (cA 0, 1595, arN V))] : va_W) = [(om, .inr (8, [.ref (mw), .int (nI (ud)), .ref (mt), .int (nI (td)), .int (nI (fy)), .int (nI (su)), .ref (mm), .ref (ml), .ref (mi), .ref (mh), .int (nI (cu)), .int (nI (sa)), .int (nI (nb)), .ref (mr), .int (nI (tn))])), (mw, .inl (cA 0, 1595, arN (mx Z (SK (0, 0, 0, 0, 0, V, SP (sg Z 0), SD (sg Z 0), SG (sg Z 0), SS (sg Z 0))))))] := by
                                rw [show mx Z (SK (0, 0, 0, 0, 0, V, SP (sg Z 0), SD (sg Z 0), SG (sg Z 0), SS (sg Z 0))) = V from mx_of hV]
                              have hP : va_P D vwCl [(om, .inr (8, [.ref (mw), .int (nI (ud)), .ref (mt), .int (nI (td)), .int (nI (fy)), .int (nI (su)), .ref (mm), .ref (ml), .ref (mi), .ref (mh), .int (nI (cu)), .int (nI (sa)), .int (nI (nb)), .ref (mr), .int (nI (tn))])), (mw, .inl (cA 0, 1595, arN (mx Z (SK (0, 0, 0, 0, 0, V, SP (sg Z 0), SD (sg Z 0), SG (sg Z 0), SS (sg Z 0))))))] _ := Eq.mp (congrArg (fun z9 => va_P D vwCl z9 _) ef15) hP
                              have hD : va_D A [(om, .inr (8, [.ref (mw), .int (nI (ud)), .ref (mt), .int (nI (td)), .int (nI (fy)), .int (nI (su)), .ref (mm), .ref (ml), .ref (mi), .ref (mh), .int (nI (cu)), .int (nI (sa)), .int (nI (nb)), .ref (mr), .int (nI (tn))])), (mw, .inl (cA 0, 1595, arN (mx Z (SK (0, 0, 0, 0, 0, V, SP (sg Z 0), SD (sg Z 0), SG (sg Z 0), SS (sg Z 0))))))] := Eq.mp (congrArg (fun z9 => va_D A z9) ef15) hD
                              exact hend _ _ _ _ _ (0, 0, 0, 0, 0, V, SP (sg Z 0), SD (sg Z 0), SG (sg Z 0), SS (sg Z 0)) hP hD hS (by unfold windM; rw [if_pos (by simp [c1, c3, c5, c7]), e_k, e_n, e_g, e_h, nI_clamp (n := k) (by omega), nI_clamp (n := n) (by omega), nI_clamp (n := g) (by omega), if_neg (fun q => c14 ((n_z (a := h) (by omega)).mp q)), show 2 ^ Z 0 = v by omega, ← iv260_2, show y9 = 0 by omega, Nat.gcd_zero_right, show Z 0 = j by omega]) dX8_wind_303
                            · skip
                              rw [n_z (by omega)] at c14
                              refine lv_lload hx hb dX8_wind_290 (lv_at hl 3 rfl) ?_
                              refine lv_lload hx hb dX8_wind_292 (lv_at hl 1 rfl) ?_
                              refine lv_ldiv hx hb dX8_wind_294 (lN_ne0 (by omega) (by omega)) ?_
                              refine vn_l (v := lN (u1 / x9)) (pk_lDiv (by omega) (by omega) (by omega)) ?_
                              refine lv_goto (tgt := 303) hx hb dX8_wind_295 (by decide) ?_
                              have ef16 : ([(om, .inr (8, [.ref (mw), .int (nI (ud)), .ref (mt), .int (nI (td)), .int (nI (fy)), .int (nI (su)), .ref (mm), .ref (ml), .ref (mi), .ref (mh), .int (nI (cu)), .int (nI (sa)), .int (nI (nb)), .ref (mr), .int (nI (tn))])), (mw, .inl (cA 0, 1595, arN V))] : va_W) = [(om, .inr (8, [.ref (mw), .int (nI (ud)), .ref (mt), .int (nI (td)), .int (nI (fy)), .int (nI (su)), .ref (mm), .ref (ml), .ref (mi), .ref (mh), .int (nI (cu)), .int (nI (sa)), .int (nI (nb)), .ref (mr), .int (nI (tn))])), (mw, .inl (cA 0, 1595, arN (mx Z (SK (0, 0, 0, 0, 0, V, SP (sg Z 0), SD (sg Z 0), SG (sg Z 0), SS (sg Z 0))))))] := by
                                rw [show mx Z (SK (0, 0, 0, 0, 0, V, SP (sg Z 0), SD (sg Z 0), SG (sg Z 0), SS (sg Z 0))) = V from mx_of hV]
                              have hP : va_P D vwCl [(om, .inr (8, [.ref (mw), .int (nI (ud)), .ref (mt), .int (nI (td)), .int (nI (fy)), .int (nI (su)), .ref (mm), .ref (ml), .ref (mi), .ref (mh), .int (nI (cu)), .int (nI (sa)), .int (nI (nb)), .ref (mr), .int (nI (tn))])), (mw, .inl (cA 0, 1595, arN (mx Z (SK (0, 0, 0, 0, 0, V, SP (sg Z 0), SD (sg Z 0), SG (sg Z 0), SS (sg Z 0))))))] _ := Eq.mp (congrArg (fun z9 => va_P D vwCl z9 _) ef16) hP
                              have hD : va_D A [(om, .inr (8, [.ref (mw), .int (nI (ud)), .ref (mt), .int (nI (td)), .int (nI (fy)), .int (nI (su)), .ref (mm), .ref (ml), .ref (mi), .ref (mh), .int (nI (cu)), .int (nI (sa)), .int (nI (nb)), .ref (mr), .int (nI (tn))])), (mw, .inl (cA 0, 1595, arN (mx Z (SK (0, 0, 0, 0, 0, V, SP (sg Z 0), SD (sg Z 0), SG (sg Z 0), SS (sg Z 0))))))] := Eq.mp (congrArg (fun z9 => va_D A z9) ef16) hD
                              exact hend _ _ _ _ _ (0, 0, 0, 0, 0, V, SP (sg Z 0), SD (sg Z 0), SG (sg Z 0), SS (sg Z 0)) hP hD hS (by unfold windM; rw [if_pos (by simp [c1, c3, c5, c7]), e_k, e_n, e_g, e_h, nI_clamp (n := k) (by omega), nI_clamp (n := n) (by omega), nI_clamp (n := g) (by omega), if_pos ((n_z (a := h) (by omega)).mpr c14), show 2 ^ Z 0 = v by omega, ← iv260_2, show y9 = 0 by omega, Nat.gcd_zero_right, ← iv102_1]) dX8_wind_303
                          · skip
                            rw [lg_cmp_eq] at c13
                            rw [pk_lEQ (by omega) (by omega)] at c13
                            have hml : x9 % y9 < y9 := Nat.mod_lt _ (by omega)
                            refine lv_lload hx hb dX8_wind_267 (lv_at hl 1 rfl) ?_
                            refine lv_lload hx hb dX8_wind_269 (lv_at hl 0 rfl) ?_
                            refine lv_lrem hx hb dX8_wind_271 (lN_ne0 (by omega) (by omega)) ?_
                            refine vn_l (v := lN (x9 % y9)) (pk_lRem (by omega) (by omega) (by omega)) ?_
                            refine lv_lstore (lv' := [(13, .long (lN (x9 % y9))), (11, .long (lN (y9))), (9, .long (lN (x9))), (7, .long (lN (dnM (Z 4) j))), (5, .long (lN (u1))), (0, .ref (om)), (1, .int (nI (k))), (2, .int (nI (n))), (3, .int (nI (g))), (4, .int (nI (h)))]) hx hb dX8_wind_272 hl (by decide) rfl (fun ls hl => ?_)
                            refine lv_lload hx hb dX8_wind_274 (lv_at hl 1 rfl) ?_
                            refine lv_lstore (lv' := [(9, .long (lN (y9))), (13, .long (lN (x9 % y9))), (11, .long (lN (y9))), (7, .long (lN (dnM (Z 4) j))), (5, .long (lN (u1))), (0, .ref (om)), (1, .int (nI (k))), (2, .int (nI (n))), (3, .int (nI (g))), (4, .int (nI (h)))]) hx hb dX8_wind_276 hl (by decide) rfl (fun ls hl => ?_)
                            refine lv_lload hx hb dX8_wind_278 (lv_at hl 1 rfl) ?_
                            refine lv_lstore (lv' := [(11, .long (lN (x9 % y9))), (9, .long (lN (y9))), (13, .long (lN (x9 % y9))), (7, .long (lN (dnM (Z 4) j))), (5, .long (lN (u1))), (0, .ref (om)), (1, .int (nI (k))), (2, .int (nI (n))), (3, .int (nI (g))), (4, .int (nI (h)))]) hx hb dX8_wind_280 hl (by decide) rfl (fun ls hl => ?_)
                            refine lv_goto (tgt := 260) hx hb dX8_wind_282 (by decide) ?_
                            have hl9 := lv_sub (l' := [(11, .long (lN (x9 % y9))), (9, .long (lN (y9))), (7, .long (lN (dnM (Z 4) j))), (5, .long (lN (u1))), (0, .ref (om)), (1, .int (nI (k))), (2, .int (nI (n))), (3, .int (nI (g))), (4, .int (nI (h)))]) hl [0, 1, 3, 4, 5, 6, 7, 8, 9] rfl
                            exact ih260 y9 (x9 % y9) (iv260_1) (Nat.lt_trans (Nat.mod_lt _ (by omega)) iv260_1) (by rw [← iv260_2, Nat.gcd_comm y9, ← Nat.gcd_rec, Nat.gcd_comm]) (by omega) _ _ _ hP hD hS hl9
                      have hl9 := lv_sub (l' := [(11, .long (lN (dnM (Z 4) j))), (9, .long (lN (u1))), (7, .long (lN (dnM (Z 4) j))), (5, .long (lN (u1))), (0, .ref (om)), (1, .int (nI (k))), (2, .int (nI (n))), (3, .int (nI (g))), (4, .int (nI (h)))]) hl [0, 1, 2, 3, 4, 5, 6, 7, 8] rfl
                      exact loop260 _ u1 (dnM (Z 4) j) (by rw [iv102_1]; omega) (by rw [show j = Z 0 by omega]; omega) (by rw [iv102_1, show j = Z 0 by omega]) (Nat.lt_succ_self _) _ _ _ hP hD hS hl9
                    · skip
                      rw [nI_leI (by omega) (by omega)] at c11
                      refine lv_iload hx hb dX8_wind_115 (lv_at hl 0 rfl) ?_
                      refine lv_aload_n hx hb dX8_wind_117 rfl (lv_at hl 3 rfl) ?_
                      refine va_get (v := .ref (mw)) (Ts := wsX80) (C := RX8) (T := TX8) (N := 15) hx hb hwsX80 (fun _ h => h) hown hK hP 0 rfl rfl 0 (by decide) (hts (.fieldLink RX8 7 "AdventStreetsModel" "w" "[I") (List.mem_of_getElem? (i := 4) rfl)) (fun _ h9 => h9) rfl dX8_wind_118 ?_
                      refine lv_iconst (v := nI (4)) hx hb dX8_wind_121 (by decide) ?_
                      refine r_ald (f := V) hx hb hK hP 1 rfl (i := 4) (by omega) (Nat.lt_of_lt_of_le (by omega : 1595 < 1073741824) (by decide)) dX8_wind_122 ?_
                      refine vn_i (v := nI (Z 4)) (congrArg nI (hV 4 (by omega))) ?_
                      refine lv_iand hx hb dX8_wind_123 ?_
                      refine vn_i (v := nI (v &&& (Z 4))) (n_and _ _) ?_
                      refine lv_if_ne (tgt := 246) hx hb dX8_wind_124 (by decide) (fun c17 => ?_) (fun c17 => ?_)
                      · skip
                        rw [n_z (by omega)] at c17
                        refine lv_iinc (v := nI (v + 1)) (lv' := [(9, .int (nI (v + 1))), (7, .long (lN (dnM (Z 4) j))), (5, .long (lN (u1))), (0, .ref (om)), (1, .int (nI (k))), (2, .int (nI (n))), (3, .int (nI (g))), (4, .int (nI (h)))]) hx hb dX8_wind_246 hl (k := 0) rfl (nI_add _ _) (by decide) rfl (fun ls hl => ?_)
                        refine lv_goto (tgt := 102) hx hb dX8_wind_249 (by decide) ?_
                        have hl9 := lv_sub (l' := [(9, .int (nI (v + 1))), (7, .long (lN (dnM (Z 4) j))), (5, .long (lN (u1))), (0, .ref (om)), (1, .int (nI (k))), (2, .int (nI (n))), (3, .int (nI (g))), (4, .int (nI (h)))]) hl [0, 1, 2, 3, 4, 5, 6, 7] rfl
                        exact ih102 (v + 1) u1 V (by omega) (by rw [wdL, ← iv102_1]; unfold wdT; rw [if_neg (fun h9 => c17 h9.1)]; rfl) (hV) (by omega) _ _ _ hP hD hS hl9
                      · skip
                        rw [n_z (by omega)] at c17
                        refine lv_lconst (v := lN 1) hx hb dX8_wind_127 rfl ?_
                        refine lv_lstore (lv' := [(10, .long (lN (1))), (9, .int (nI (v))), (7, .long (lN (dnM (Z 4) j))), (5, .long (lN (u1))), (0, .ref (om)), (1, .int (nI (k))), (2, .int (nI (n))), (3, .int (nI (g))), (4, .int (nI (h)))]) hx hb dX8_wind_128 hl (by decide) rfl (fun ls hl => ?_)
                        refine lv_iconst (v := nI (0)) hx hb dX8_wind_130 (by decide) ?_
                        refine lv_istore (lv' := [(12, .int (nI (0))), (10, .long (lN (1))), (9, .int (nI (v))), (7, .long (lN (dnM (Z 4) j))), (5, .long (lN (u1))), (0, .ref (om)), (1, .int (nI (k))), (2, .int (nI (n))), (3, .int (nI (g))), (4, .int (nI (h)))]) hx hb dX8_wind_131 hl (by decide) rfl (fun ls hl => ?_)
                        have loop133 : ∀ (N133 : Nat) (y : Nat), (y ≤ Z 0) → (Z 0 - y) < N133 → ∀ (H : Heap) (locs : List Loc) (ls : Array Slot), va_P D vwCl [(om, .inr (8, [.ref (mw), .int (nI (ud)), .ref (mt), .int (nI (td)), .int (nI (fy)), .int (nI (su)), .ref (mm), .ref (ml), .ref (mi), .ref (mh), .int (nI (cu)), .int (nI (sa)), .int (nI (nb)), .ref (mr), .int (nI (tn))])), (mw, .inl (cA 0, 1595, arN V))] H → va_D A [(om, .inr (8, [.ref (mw), .int (nI (ud)), .ref (mt), .int (nI (td)), .int (nI (fy)), .int (nI (su)), .ref (mm), .ref (ml), .ref (mi), .ref (mh), .int (nI (cu)), .int (nI (sa)), .int (nI (nb)), .ref (mr), .int (nI (tn))])), (mw, .inl (cA 0, 1595, arN V))] → va_S A s.heap H locs → lv_has ls 15 [(12, .int (nI (y))), (10, .long (lN (wyM (Z 4) v g y))), (9, .int (nI (v))), (7, .long (lN (dnM (Z 4) j))), (5, .long (lN (u1))), (0, .ref (om)), (1, .int (nI (k))), (2, .int (nI (n))), (3, .int (nI (g))), (4, .int (nI (h)))] → W p l e ({ frames := 5, cells := 0, slots := 0, locals := 112 } : Room) s m ([.ref (om), .int (pk), .int (pn), .int (pc), .int (ph)] : List Value).toArray below meth c H locs 0 0 Q (F0 m 133 ls []) := by
                          intro N133
                          induction N133 with
                          | zero => intro y iv133_0 hN; exact absurd hN (Nat.not_lt_zero _)
                          | succ N133 ih133 =>
                            intro y iv133_0 hN133 H locs ls hP hD hS hl
                            have hyb := wyM_b (Z 4) v (c := g) (by omega) (j := y) (by omega)
                            refine lv_iload hx hb dX8_wind_133 (lv_at hl 0 rfl) ?_
                            refine lv_aload_n hx hb dX8_wind_135 rfl (lv_at hl 5 rfl) ?_
                            refine va_get (v := .ref (mw)) (Ts := wsX80) (C := RX8) (T := TX8) (N := 15) hx hb hwsX80 (fun _ h => h) hown hK hP 0 rfl rfl 0 (by decide) (hts (.fieldLink RX8 7 "AdventStreetsModel" "w" "[I") (List.mem_of_getElem? (i := 4) rfl)) (fun _ h9 => h9) rfl dX8_wind_136 ?_
                            refine lv_iconst (v := nI (0)) hx hb dX8_wind_139 (by decide) ?_
                            refine r_ald (f := V) hx hb hK hP 1 rfl (i := 0) (by omega) (Nat.lt_of_lt_of_le (by omega : 1595 < 1073741824) (by decide)) dX8_wind_140 ?_
                            refine vn_i (v := nI (Z 0)) (congrArg nI (hV 0 (by omega))) ?_
                            refine lv_icmp_ge (tgt := 193) hx hb dX8_wind_141 (by decide) (fun c19 => ?_) (fun c19 => ?_)
                            · skip
                              rw [nI_leI (by omega) (by omega)] at c19
                              refine lv_lload hx hb dX8_wind_193 (lv_at hl 1 rfl) ?_
                              refine lv_lconst (v := lN 0) hx hb dX8_wind_195 rfl ?_
                              refine W.lcmp hx hb dX8_wind_196 ?_
                              refine lv_if_le (tgt := 246) hx hb dX8_wind_197 (by decide) (fun c20 => ?_) (fun c20 => ?_)
                              · skip
                                rw [lg_cmp_le] at c20
                                rw [pk_lLE (by omega) (by omega)] at c20
                                refine lv_iinc (v := nI (v + 1)) (lv' := [(9, .int (nI (v + 1))), (12, .int (nI (y))), (10, .long (lN (wyM (Z 4) v g y))), (7, .long (lN (dnM (Z 4) j))), (5, .long (lN (u1))), (0, .ref (om)), (1, .int (nI (k))), (2, .int (nI (n))), (3, .int (nI (g))), (4, .int (nI (h)))]) hx hb dX8_wind_246 hl (k := 2) rfl (nI_add _ _) (by decide) rfl (fun ls hl => ?_)
                                refine lv_goto (tgt := 102) hx hb dX8_wind_249 (by decide) ?_
                                have hl9 := lv_sub (l' := [(9, .int (nI (v + 1))), (7, .long (lN (dnM (Z 4) j))), (5, .long (lN (u1))), (0, .ref (om)), (1, .int (nI (k))), (2, .int (nI (n))), (3, .int (nI (g))), (4, .int (nI (h)))]) hl [0, 3, 4, 5, 6, 7, 8, 9] rfl
                                exact ih102 (v + 1) u1 V (by omega) (by rw [wdL, ← iv102_1]; unfold wdT; rw [if_neg (fun h9 => by have h8 := h9.2.1; rw [show Z 0 = y by omega] at h8; omega)]; rfl) (hV) (by omega) _ _ _ hP hD hS hl9
                              · skip
                                rw [lg_cmp_le] at c20
                                rw [pk_lLE (by omega) (by omega)] at c20
                                refine lv_aload_n hx hb dX8_wind_200 rfl (lv_at hl 5 rfl) ?_
                                refine cVv (n := 0) (As := []) (rest := []) (C := RX8) (ci := 8) (q0 := 0) (X := [(om, .inr (8, [.ref (mw), .int (nI (ud)), .ref (mt), .int (nI (td)), .int (nI (fy)), .int (nI (su)), .ref (mm), .ref (ml), .ref (mi), .ref (mh), .int (nI (cu)), .int (nI (sa)), .int (nI (nb)), .ref (mr), .int (nI (tn))])), (mw, .inl (cA 0, 1595, arN V))]) (pl := []) (wc := [(om, .inr (8, [.ref (mw), .int (nI (ud)), .ref (mt), .int (nI (td)), .int (nI (fy)), .int (nI (su)), .ref (mm), .ref (ml), .ref (mi), .ref (mh), .int (nI (cu)), .int (nI (sa)), .int (nI (nb)), .ref (mr), .int (nI (tn))])), (mw, .inl (cA 0, 1595, arN V))]) (wr := ([] : va_W)) (w1 := [(om, .inr (8, [.ref (mw), .int (nI (ud)), .ref (mt), .int (nI (td)), .int (nI (fy)), .int (nI (su)), .ref (mm), .ref (ml), .ref (mi), .ref (mh), .int (nI (cu)), .int (nI (sa)), .int (nI (nb)), .ref (mr), .int (nI (tn))])), (mw, .inl (cA 0, 1595, arN (cpW V 0 55)))]) (wn := [(om, .inr (8, [.ref (mw), .int (nI (ud)), .ref (mt), .int (nI (td)), .int (nI (fy)), .int (nI (su)), .ref (mm), .ref (ml), .ref (mi), .ref (mh), .int (nI (cu)), .int (nI (sa)), .int (nI (nb)), .ref (mr), .int (nI (tn))])), (mw, .inl (cA 0, 1595, arN (cpW V 0 55)))]) (isC := [0, 1]) (isR := []) (isN := [0, 1]) ⟨hx, hb, hml, hown, hts⟩ (c_X8_tries l D cA tt om mw mt mm ml mi mh mr ud td fy su cu sa nb tn V  _) gX8_wind_X8_tries rfl (by decide +kernel) rfl rfl ⟨rfl, rfl⟩ ⟨Nat.le_of_ble_eq_true rfl, Nat.le_of_ble_eq_true rfl⟩ ⟨Nat.zero_le _, Nat.zero_le _⟩ hK hE hA hP hD hS ⟨⟨rfl, by decide⟩, ⟨rfl, by decide, by decide⟩, rfl, by decide⟩ rfl hl.1 rfl (Nat.le_of_ble_eq_true rfl) dX8_wind_201 (fun H locs hP hD hS => ?_)
                                have hP : va_P D vwCl [(om, .inr (8, [.ref (mw), .int (nI (ud)), .ref (mt), .int (nI (td)), .int (nI (fy)), .int (nI (su)), .ref (mm), .ref (ml), .ref (mi), .ref (mh), .int (nI (cu)), .int (nI (sa)), .int (nI (nb)), .ref (mr), .int (nI (tn))])), (mw, .inl (cA 0, 1595, arN (cpW V 0 55)))] _ := hP
                                have hD : va_D A [(om, .inr (8, [.ref (mw), .int (nI (ud)), .ref (mt), .int (nI (td)), .int (nI (fy)), .int (nI (su)), .ref (mm), .ref (ml), .ref (mi), .ref (mh), .int (nI (cu)), .int (nI (sa)), .int (nI (nb)), .ref (mr), .int (nI (tn))])), (mw, .inl (cA 0, 1595, arN (cpW V 0 55)))] := hD
                                have hw9 : Wf (sg (upN (cpW V 0 55) 59 (cpW V 0 55 59 ||| v)) 55) := wf_o (r := 55) hy1 (or10 hy5 (by omega))
                                refine lv_aload_n hx hb dX8_wind_204 rfl (lv_at hl 5 rfl) ?_
                                refine va_get (v := .ref (mw)) (Ts := wsX80) (C := RX8) (T := TX8) (N := 15) hx hb hwsX80 (fun _ h => h) hown hK hP 0 rfl rfl 0 (by decide) (hts (.fieldLink RX8 7 "AdventStreetsModel" "w" "[I") (List.mem_of_getElem? (i := 4) rfl)) (fun _ h9 => h9) rfl dX8_wind_205 ?_
                                refine lv_bipush (v := nI (59)) hx hb dX8_wind_208 (by decide) ?_
                                refine lv_dup2_11 hx hb dX8_wind_210 rfl rfl ?_
                                refine r_ald (f := (cpW V 0 55)) hx hb hK hP 1 rfl (i := 59) (by omega) (Nat.lt_of_lt_of_le (by omega : 1595 < 1073741824) (by decide)) dX8_wind_211 ?_
                                refine lv_iload hx hb dX8_wind_212 (lv_at hl 2 rfl) ?_
                                refine lv_ior hx hb dX8_wind_214 ?_
                                refine vn_i (v := nI (((cpW V 0 55) 59) ||| v)) (n_or _ _) ?_
                                refine r_ast (f := (cpW V 0 55)) hx hb hK hP hD hS 1 rfl (i := 59) (by omega) (Nat.lt_of_lt_of_le (by omega : 1595 < 1073741824) (by decide)) dX8_wind_215 (fun H locs hP hD hS => ?_)
                                have hP : va_P D vwCl [(om, .inr (8, [.ref (mw), .int (nI (ud)), .ref (mt), .int (nI (td)), .int (nI (fy)), .int (nI (su)), .ref (mm), .ref (ml), .ref (mi), .ref (mh), .int (nI (cu)), .int (nI (sa)), .int (nI (nb)), .ref (mr), .int (nI (tn))])), (mw, .inl (cA 0, 1595, arN (upN (cpW V 0 55) 59 (((cpW V 0 55) 59) ||| v))))] _ := hP
                                have hD : va_D A [(om, .inr (8, [.ref (mw), .int (nI (ud)), .ref (mt), .int (nI (td)), .int (nI (fy)), .int (nI (su)), .ref (mm), .ref (ml), .ref (mi), .ref (mh), .int (nI (cu)), .int (nI (sa)), .int (nI (nb)), .ref (mr), .int (nI (tn))])), (mw, .inl (cA 0, 1595, arN (upN (cpW V 0 55) 59 (((cpW V 0 55) 59) ||| v))))] := hD
                                refine lv_aload_n hx hb dX8_wind_216 rfl (lv_at hl 5 rfl) ?_
                                refine lv_iload_n hx hb dX8_wind_217 rfl (lv_at hl 7 rfl) ?_
                                refine cVv (n := 1) (As := [.int (nI (n))]) (rest := []) (C := RX8) (ci := 8) (q0 := 0) (X := [(om, .inr (8, [.ref (mw), .int (nI (ud)), .ref (mt), .int (nI (td)), .int (nI (fy)), .int (nI (su)), .ref (mm), .ref (ml), .ref (mi), .ref (mh), .int (nI (cu)), .int (nI (sa)), .int (nI (nb)), .ref (mr), .int (nI (tn))])), (mw, .inl (cA 0, 1595, arN (upN (cpW V 0 55) 59 (((cpW V 0 55) 59) ||| v))))]) (pl := []) (wc := [(om, .inr (8, [.ref (mw), .int (nI (ud)), .ref (mt), .int (nI (td)), .int (nI (fy)), .int (nI (su)), .ref (mm), .ref (ml), .ref (mi), .ref (mh), .int (nI (cu)), .int (nI (sa)), .int (nI (nb)), .ref (mr), .int (nI (tn))])), (mw, .inl (cA 0, 1595, arN (upN (cpW V 0 55) 59 (((cpW V 0 55) 59) ||| v))))]) (wr := ([] : va_W)) (w1 := [(om, .inr (8, [.ref (mw), .int (nI (ud)), .ref (mt), .int (nI (td)), .int (nI (fy)), .int (nI (su)), .ref (mm), .ref (ml), .ref (mi), .ref (mh), .int (nI (cu)), .int (nI (sa)), .int (nI (nb)), .ref (mr), .int (nI (tn))])), (mw, .inl (cA 0, 1595, arN (goW (upN (cpW V 0 55) 59 (((cpW V 0 55) 59) ||| v)) n)))]) (wn := [(om, .inr (8, [.ref (mw), .int (nI (ud)), .ref (mt), .int (nI (td)), .int (nI (fy)), .int (nI (su)), .ref (mm), .ref (ml), .ref (mi), .ref (mh), .int (nI (cu)), .int (nI (sa)), .int (nI (nb)), .ref (mr), .int (nI (tn))])), (mw, .inl (cA 0, 1595, arN (goW (upN (cpW V 0 55) 59 (((cpW V 0 55) 59) ||| v)) n)))]) (isC := [0, 1]) (isR := []) (isN := [0, 1]) ⟨hx, hb, hml, hown, hts⟩ (c_X8_goesOn l D cA tt om mw mt mm ml mi mh mr ud td fy su cu sa nb tn (upN (cpW V 0 55) 59 (((cpW V 0 55) 59) ||| v)) n (hw9) (by rw [upN_n (by decide), hy3, hV 1 (by omega)]; exact he (by omega)) (by rw [upN_n (by decide), hy4, hV 3 (by omega)]; omega) (by omega) _) gX8_wind_X8_goesOn rfl (by decide +kernel) rfl rfl ⟨rfl, rfl⟩ ⟨Nat.le_of_ble_eq_true rfl, Nat.le_of_ble_eq_true rfl⟩ ⟨Nat.zero_le _, Nat.zero_le _⟩ hK hE hA hP hD hS ⟨⟨rfl, by decide⟩, ⟨rfl, by decide, by decide⟩, rfl, by decide⟩ rfl hl.1 rfl (Nat.le_of_ble_eq_true rfl) dX8_wind_218 (fun H locs hP hD hS => ?_)
                                have hP : va_P D vwCl [(om, .inr (8, [.ref (mw), .int (nI (ud)), .ref (mt), .int (nI (td)), .int (nI (fy)), .int (nI (su)), .ref (mm), .ref (ml), .ref (mi), .ref (mh), .int (nI (cu)), .int (nI (sa)), .int (nI (nb)), .ref (mr), .int (nI (tn))])), (mw, .inl (cA 0, 1595, arN (goW (upN (cpW V 0 55) 59 (((cpW V 0 55) 59) ||| v)) n)))] _ := hP
                                have hD : va_D A [(om, .inr (8, [.ref (mw), .int (nI (ud)), .ref (mt), .int (nI (td)), .int (nI (fy)), .int (nI (su)), .ref (mm), .ref (ml), .ref (mi), .ref (mh), .int (nI (cu)), .int (nI (sa)), .int (nI (nb)), .ref (mr), .int (nI (tn))])), (mw, .inl (cA 0, 1595, arN (goW (upN (cpW V 0 55) 59 (((cpW V 0 55) 59) ||| v)) n)))] := hD
                                obtain ⟨w1, w2, w3, w4⟩ := goW_ok hw9 n
                                have w7 : goW (upN (cpW V 0 55) 59 (cpW V 0 55 59 ||| v)) n 59 < 1024 := (wfW w1).2.2.2.1
                                refine lv_lload hx hb dX8_wind_221 (lv_at hl 4 rfl) ?_
                                refine lv_aload_n hx hb dX8_wind_223 rfl (lv_at hl 5 rfl) ?_
                                refine va_get (v := .ref (mw)) (Ts := wsX80) (C := RX8) (T := TX8) (N := 15) hx hb hwsX80 (fun _ h => h) hown hK hP 0 rfl rfl 0 (by decide) (hts (.fieldLink RX8 7 "AdventStreetsModel" "w" "[I") (List.mem_of_getElem? (i := 4) rfl)) (fun _ h9 => h9) rfl dX8_wind_224 ?_
                                refine lv_bipush (v := nI (59)) hx hb dX8_wind_227 (by decide) ?_
                                refine r_ald (f := (goW (upN (cpW V 0 55) 59 (((cpW V 0 55) 59) ||| v)) n)) hx hb hK hP 1 rfl (i := 59) (by omega) (Nat.lt_of_lt_of_le (by omega : 1595 < 1073741824) (by decide)) dX8_wind_229 ?_
                                refine lv_iload_n hx hb dX8_wind_230 rfl (lv_at hl 6 rfl) ?_
                                refine cSi (n := 2) (As := [.int (nI ((goW (upN (cpW V 0 55) 59 (((cpW V 0 55) 59) ||| v)) n) 59)), .int (nI (k))]) (rest := [.long (lN (u1))]) (X := [(om, .inr (8, [.ref (mw), .int (nI (ud)), .ref (mt), .int (nI (td)), .int (nI (fy)), .int (nI (su)), .ref (mm), .ref (ml), .ref (mi), .ref (mh), .int (nI (cu)), .int (nI (sa)), .int (nI (nb)), .ref (mr), .int (nI (tn))])), (mw, .inl (cA 0, 1595, arN (goW (upN (cpW V 0 55) 59 (((cpW V 0 55) 59) ||| v)) n)))]) (pl := []) (wc := ([] : va_W)) (wr := [(om, .inr (8, [.ref (mw), .int (nI (ud)), .ref (mt), .int (nI (td)), .int (nI (fy)), .int (nI (su)), .ref (mm), .ref (ml), .ref (mi), .ref (mh), .int (nI (cu)), .int (nI (sa)), .int (nI (nb)), .ref (mr), .int (nI (tn))])), (mw, .inl (cA 0, 1595, arN (goW (upN (cpW V 0 55) 59 (((cpW V 0 55) 59) ||| v)) n)))]) (w1 := ([] : va_W)) (wn := [(om, .inr (8, [.ref (mw), .int (nI (ud)), .ref (mt), .int (nI (td)), .int (nI (fy)), .int (nI (su)), .ref (mm), .ref (ml), .ref (mi), .ref (mh), .int (nI (cu)), .int (nI (sa)), .int (nI (nb)), .ref (mr), .int (nI (tn))])), (mw, .inl (cA 0, 1595, arN (goW (upN (cpW V 0 55) 59 (((cpW V 0 55) 59) ||| v)) n)))]) (isC := []) (isR := [0, 1]) (isN := [0, 1]) ⟨hx, hb, hml, hown, hts⟩ (c_X8_has l D cA tt ((goW (upN (cpW V 0 55) 59 (((cpW V 0 55) 59) ||| v)) n) 59) k (by omega) (by omega) _) gX8_wind_X8_has rfl (by decide +kernel) ⟨rfl, rfl⟩ ⟨Nat.le_of_ble_eq_true rfl, Nat.le_of_ble_eq_true rfl⟩ ⟨Nat.zero_le _, Nat.zero_le _⟩ hK hE hA hP hD hS ⟨⟨rfl, by decide⟩, ⟨rfl, by decide, by decide⟩, rfl, by decide⟩ rfl hl.1 rfl (Nat.le_of_ble_eq_true rfl) dX8_wind_231 (fun H locs hP hD hS => ?_)
                                have hP : va_P D vwCl [(om, .inr (8, [.ref (mw), .int (nI (ud)), .ref (mt), .int (nI (td)), .int (nI (fy)), .int (nI (su)), .ref (mm), .ref (ml), .ref (mi), .ref (mh), .int (nI (cu)), .int (nI (sa)), .int (nI (nb)), .ref (mr), .int (nI (tn))])), (mw, .inl (cA 0, 1595, arN (goW (upN (cpW V 0 55) 59 (((cpW V 0 55) 59) ||| v)) n)))] _ := hP
                                have hD : va_D A [(om, .inr (8, [.ref (mw), .int (nI (ud)), .ref (mt), .int (nI (td)), .int (nI (fy)), .int (nI (su)), .ref (mm), .ref (ml), .ref (mi), .ref (mh), .int (nI (cu)), .int (nI (sa)), .int (nI (nb)), .ref (mr), .int (nI (tn))])), (mw, .inl (cA 0, 1595, arN (goW (upN (cpW V 0 55) 59 (((cpW V 0 55) 59) ||| v)) n)))] := hD
                                refine lv_if_eq (tgt := 242) hx hb dX8_wind_234 (by decide) (fun c21 => ?_) (fun c21 => ?_)
                                · skip
                                  rw [bI_z] at c21
                                  refine lv_lconst (v := lN 0) hx hb dX8_wind_242 rfl ?_
                                  refine lv_ladd hx hb dX8_wind_243 ?_
                                  refine vn_l (v := lN (u1 + 0)) (lN_add _ _) ?_
                                  refine lv_lstore (lv' := [(5, .long (lN (u1 + 0))), (12, .int (nI (y))), (10, .long (lN (wyM (Z 4) v g y))), (9, .int (nI (v))), (7, .long (lN (dnM (Z 4) j))), (0, .ref (om)), (1, .int (nI (k))), (2, .int (nI (n))), (3, .int (nI (g))), (4, .int (nI (h)))]) hx hb dX8_wind_244 hl (by decide) rfl (fun ls hl => ?_)
                                  refine lv_iinc (v := nI (v + 1)) (lv' := [(9, .int (nI (v + 1))), (5, .long (lN (u1 + 0))), (12, .int (nI (y))), (10, .long (lN (wyM (Z 4) v g y))), (7, .long (lN (dnM (Z 4) j))), (0, .ref (om)), (1, .int (nI (k))), (2, .int (nI (n))), (3, .int (nI (g))), (4, .int (nI (h)))]) hx hb dX8_wind_246 hl (k := 3) rfl (nI_add _ _) (by decide) rfl (fun ls hl => ?_)
                                  refine lv_goto (tgt := 102) hx hb dX8_wind_249 (by decide) ?_
                                  have hl9 := lv_sub (l' := [(9, .int (nI (v + 1))), (7, .long (lN (dnM (Z 4) j))), (5, .long (lN (u1 + 0))), (0, .ref (om)), (1, .int (nI (k))), (2, .int (nI (n))), (3, .int (nI (g))), (4, .int (nI (h)))]) hl [0, 4, 1, 5, 6, 7, 8, 9] rfl
                                  exact ih102 (v + 1) (u1 + 0) (goW (upN (cpW V 0 55) 59 (((cpW V 0 55) 59) ||| v)) n) (by omega) (by rw [wdL, ← iv102_1]; unfold wdT wdP; rw [← cp5 hV, if_neg (fun h9 => by have h8 := h9.2.2; rw [c21] at h8; cases h8)]) (off_go hw9 (off_up (off_cp hV) (by decide)) _) (by omega) _ _ _ hP hD hS hl9
                                · skip
                                  rw [bI_nz] at c21
                                  refine lv_lload hx hb dX8_wind_237 (lv_at hl 1 rfl) ?_
                                  refine lv_goto (tgt := 243) hx hb dX8_wind_239 (by decide) ?_
                                  refine lv_ladd hx hb dX8_wind_243 ?_
                                  refine vn_l (v := lN (u1 + (wyM (Z 4) v g y))) (lN_add _ _) ?_
                                  refine lv_lstore (lv' := [(5, .long (lN (u1 + (wyM (Z 4) v g y)))), (12, .int (nI (y))), (10, .long (lN (wyM (Z 4) v g y))), (9, .int (nI (v))), (7, .long (lN (dnM (Z 4) j))), (0, .ref (om)), (1, .int (nI (k))), (2, .int (nI (n))), (3, .int (nI (g))), (4, .int (nI (h)))]) hx hb dX8_wind_244 hl (by decide) rfl (fun ls hl => ?_)
                                  refine lv_iinc (v := nI (v + 1)) (lv' := [(9, .int (nI (v + 1))), (5, .long (lN (u1 + (wyM (Z 4) v g y)))), (12, .int (nI (y))), (10, .long (lN (wyM (Z 4) v g y))), (7, .long (lN (dnM (Z 4) j))), (0, .ref (om)), (1, .int (nI (k))), (2, .int (nI (n))), (3, .int (nI (g))), (4, .int (nI (h)))]) hx hb dX8_wind_246 hl (k := 3) rfl (nI_add _ _) (by decide) rfl (fun ls hl => ?_)
                                  refine lv_goto (tgt := 102) hx hb dX8_wind_249 (by decide) ?_
                                  have hl9 := lv_sub (l' := [(9, .int (nI (v + 1))), (7, .long (lN (dnM (Z 4) j))), (5, .long (lN (u1 + (wyM (Z 4) v g y)))), (0, .ref (om)), (1, .int (nI (k))), (2, .int (nI (n))), (3, .int (nI (g))), (4, .int (nI (h)))]) hl [0, 4, 1, 5, 6, 7, 8, 9] rfl
                                  exact ih102 (v + 1) (u1 + (wyM (Z 4) v g y)) (goW (upN (cpW V 0 55) 59 (((cpW V 0 55) 59) ||| v)) n) (by omega) (by rw [wdL, ← iv102_1]; unfold wdT wdP; rw [← cp5 hV, if_pos ⟨c17, (by rw [show Z 0 = y by omega]; omega), c21⟩, show Z 0 = y by omega]) (off_go hw9 (off_up (off_cp hV) (by decide)) _) (by omega) _ _ _ hP hD hS hl9
                            · skip
                              rw [nI_leI (by omega) (by omega)] at c19
                              refine lv_lload hx hb dX8_wind_144 (lv_at hl 1 rfl) ?_
                              refine lv_aload_n hx hb dX8_wind_146 rfl (lv_at hl 5 rfl) ?_
                              refine va_get (v := .ref (mw)) (Ts := wsX80) (C := RX8) (T := TX8) (N := 15) hx hb hwsX80 (fun _ h => h) hown hK hP 0 rfl rfl 0 (by decide) (hts (.fieldLink RX8 7 "AdventStreetsModel" "w" "[I") (List.mem_of_getElem? (i := 4) rfl)) (fun _ h9 => h9) rfl dX8_wind_147 ?_
                              refine lv_iconst (v := nI (4)) hx hb dX8_wind_150 (by decide) ?_
                              refine r_ald (f := V) hx hb hK hP 1 rfl (i := 4) (by omega) (Nat.lt_of_lt_of_le (by omega : 1595 < 1073741824) (by decide)) dX8_wind_151 ?_
                              refine vn_i (v := nI (Z 4)) (congrArg nI (hV 4 (by omega))) ?_
                              refine lv_iload hx hb dX8_wind_152 (lv_at hl 0 rfl) ?_
                              refine cSi (n := 2) (As := [.int (nI (Z 4)), .int (nI (y))]) (rest := [.long (lN (wyM (Z 4) v g y))]) (X := [(om, .inr (8, [.ref (mw), .int (nI (ud)), .ref (mt), .int (nI (td)), .int (nI (fy)), .int (nI (su)), .ref (mm), .ref (ml), .ref (mi), .ref (mh), .int (nI (cu)), .int (nI (sa)), .int (nI (nb)), .ref (mr), .int (nI (tn))])), (mw, .inl (cA 0, 1595, arN V))]) (pl := []) (wc := ([] : va_W)) (wr := [(om, .inr (8, [.ref (mw), .int (nI (ud)), .ref (mt), .int (nI (td)), .int (nI (fy)), .int (nI (su)), .ref (mm), .ref (ml), .ref (mi), .ref (mh), .int (nI (cu)), .int (nI (sa)), .int (nI (nb)), .ref (mr), .int (nI (tn))])), (mw, .inl (cA 0, 1595, arN V))]) (w1 := ([] : va_W)) (wn := [(om, .inr (8, [.ref (mw), .int (nI (ud)), .ref (mt), .int (nI (td)), .int (nI (fy)), .int (nI (su)), .ref (mm), .ref (ml), .ref (mi), .ref (mh), .int (nI (cu)), .int (nI (sa)), .int (nI (nb)), .ref (mr), .int (nI (tn))])), (mw, .inl (cA 0, 1595, arN V))]) (isC := []) (isR := [0, 1]) (isN := [0, 1]) ⟨hx, hb, hml, hown, hts⟩ (c_X8_has l D cA tt (Z 4) y (by omega) (by omega) _) gX8_wind_X8_has rfl (by decide +kernel) ⟨rfl, rfl⟩ ⟨Nat.le_of_ble_eq_true rfl, Nat.le_of_ble_eq_true rfl⟩ ⟨Nat.zero_le _, Nat.zero_le _⟩ hK hE hA hP hD hS ⟨⟨rfl, by decide⟩, ⟨rfl, by decide, by decide⟩, rfl, by decide⟩ rfl hl.1 rfl (Nat.le_of_ble_eq_true rfl) dX8_wind_154 (fun H locs hP hD hS => ?_)
                              have hP : va_P D vwCl [(om, .inr (8, [.ref (mw), .int (nI (ud)), .ref (mt), .int (nI (td)), .int (nI (fy)), .int (nI (su)), .ref (mm), .ref (ml), .ref (mi), .ref (mh), .int (nI (cu)), .int (nI (sa)), .int (nI (nb)), .ref (mr), .int (nI (tn))])), (mw, .inl (cA 0, 1595, arN V))] _ := hP
                              have hD : va_D A [(om, .inr (8, [.ref (mw), .int (nI (ud)), .ref (mt), .int (nI (td)), .int (nI (fy)), .int (nI (su)), .ref (mm), .ref (ml), .ref (mi), .ref (mh), .int (nI (cu)), .int (nI (sa)), .int (nI (nb)), .ref (mr), .int (nI (tn))])), (mw, .inl (cA 0, 1595, arN V))] := hD
                              refine lv_if_eq (tgt := 164) hx hb dX8_wind_157 (by decide) (fun c22 => ?_) (fun c22 => ?_)
                              · skip
                                rw [bI_z] at c22
                                refine lv_iload hx hb dX8_wind_164 (lv_at hl 2 rfl) ?_
                                refine lv_iload hx hb dX8_wind_166 (lv_at hl 0 rfl) ?_
                                refine cSi (n := 2) (As := [.int (nI (v)), .int (nI (y))]) (rest := [.long (lN (wyM (Z 4) v g y))]) (X := [(om, .inr (8, [.ref (mw), .int (nI (ud)), .ref (mt), .int (nI (td)), .int (nI (fy)), .int (nI (su)), .ref (mm), .ref (ml), .ref (mi), .ref (mh), .int (nI (cu)), .int (nI (sa)), .int (nI (nb)), .ref (mr), .int (nI (tn))])), (mw, .inl (cA 0, 1595, arN V))]) (pl := []) (wc := ([] : va_W)) (wr := [(om, .inr (8, [.ref (mw), .int (nI (ud)), .ref (mt), .int (nI (td)), .int (nI (fy)), .int (nI (su)), .ref (mm), .ref (ml), .ref (mi), .ref (mh), .int (nI (cu)), .int (nI (sa)), .int (nI (nb)), .ref (mr), .int (nI (tn))])), (mw, .inl (cA 0, 1595, arN V))]) (w1 := ([] : va_W)) (wn := [(om, .inr (8, [.ref (mw), .int (nI (ud)), .ref (mt), .int (nI (td)), .int (nI (fy)), .int (nI (su)), .ref (mm), .ref (ml), .ref (mi), .ref (mh), .int (nI (cu)), .int (nI (sa)), .int (nI (nb)), .ref (mr), .int (nI (tn))])), (mw, .inl (cA 0, 1595, arN V))]) (isC := []) (isR := [0, 1]) (isN := [0, 1]) ⟨hx, hb, hml, hown, hts⟩ (c_X8_has l D cA tt v y (by omega) (by omega) _) gX8_wind_X8_has rfl (by decide +kernel) ⟨rfl, rfl⟩ ⟨Nat.le_of_ble_eq_true rfl, Nat.le_of_ble_eq_true rfl⟩ ⟨Nat.zero_le _, Nat.zero_le _⟩ hK hE hA hP hD hS ⟨⟨rfl, by decide⟩, ⟨rfl, by decide, by decide⟩, rfl, by decide⟩ rfl hl.1 rfl (Nat.le_of_ble_eq_true rfl) dX8_wind_168 (fun H locs hP hD hS => ?_)
                                have hP : va_P D vwCl [(om, .inr (8, [.ref (mw), .int (nI (ud)), .ref (mt), .int (nI (td)), .int (nI (fy)), .int (nI (su)), .ref (mm), .ref (ml), .ref (mi), .ref (mh), .int (nI (cu)), .int (nI (sa)), .int (nI (nb)), .ref (mr), .int (nI (tn))])), (mw, .inl (cA 0, 1595, arN V))] _ := hP
                                have hD : va_D A [(om, .inr (8, [.ref (mw), .int (nI (ud)), .ref (mt), .int (nI (td)), .int (nI (fy)), .int (nI (su)), .ref (mm), .ref (ml), .ref (mi), .ref (mh), .int (nI (cu)), .int (nI (sa)), .int (nI (nb)), .ref (mr), .int (nI (tn))])), (mw, .inl (cA 0, 1595, arN V))] := hD
                                refine lv_if_eq (tgt := 179) hx hb dX8_wind_171 (by decide) (fun c23 => ?_) (fun c23 => ?_)
                                · skip
                                  rw [bI_z] at c23
                                  refine lv_bipush (v := nI (10)) hx hb dX8_wind_179 (by decide) ?_
                                  refine lv_iload_n hx hb dX8_wind_181 rfl (lv_at hl 8 rfl) ?_
                                  refine lv_isub hx hb dX8_wind_182 ?_
                                  refine vn_i (v := nI (10 - g)) (pk_sub (by omega)) ?_
                                  refine lv_i2l (v := lN (10 - g)) hx hb dX8_wind_183 (nI_l (by omega)) ?_
                                  refine lv_lmul hx hb dX8_wind_184 ?_
                                  refine vn_l (v := lN ((wyM (Z 4) v g y) * (10 - g))) (lN_mul _ _) ?_
                                  refine lv_lstore (lv' := [(10, .long (lN ((wyM (Z 4) v g y) * (10 - g)))), (12, .int (nI (y))), (9, .int (nI (v))), (7, .long (lN (dnM (Z 4) j))), (5, .long (lN (u1))), (0, .ref (om)), (1, .int (nI (k))), (2, .int (nI (n))), (3, .int (nI (g))), (4, .int (nI (h)))]) hx hb dX8_wind_185 hl (by decide) rfl (fun ls hl => ?_)
                                  refine lv_iinc (v := nI (y + 1)) (lv' := [(12, .int (nI (y + 1))), (10, .long (lN ((wyM (Z 4) v g y) * (10 - g)))), (9, .int (nI (v))), (7, .long (lN (dnM (Z 4) j))), (5, .long (lN (u1))), (0, .ref (om)), (1, .int (nI (k))), (2, .int (nI (n))), (3, .int (nI (g))), (4, .int (nI (h)))]) hx hb dX8_wind_187 hl (k := 1) rfl (nI_add _ _) (by decide) rfl (fun ls hl => ?_)
                                  refine lv_goto (tgt := 133) hx hb dX8_wind_190 (by decide) ?_
                                  have hl9 := lv_sub (l' := [(12, .int (nI (y + 1))), (10, .long (lN ((wyM (Z 4) v g y) * (10 - g)))), (9, .int (nI (v))), (7, .long (lN (dnM (Z 4) j))), (5, .long (lN (u1))), (0, .ref (om)), (1, .int (nI (k))), (2, .int (nI (n))), (3, .int (nI (g))), (4, .int (nI (h)))]) hl [0, 1, 2, 3, 4, 5, 6, 7, 8, 9] rfl
                                  have el24 : (.long (lN ((wyM (Z 4) v g y) * (10 - g))) : Value) = .long (lN (wyM (Z 4) v g (y + 1))) := by
                                    rw [wyM, if_neg (by rw [c22]; simp), if_neg (by rw [c23]; simp)]
                                  have hl9 : lv_has ls 15 [(12, .int (nI (y + 1))), (10, .long (lN (wyM (Z 4) v g (y + 1)))), (9, .int (nI (v))), (7, .long (lN (dnM (Z 4) j))), (5, .long (lN (u1))), (0, .ref (om)), (1, .int (nI (k))), (2, .int (nI (n))), (3, .int (nI (g))), (4, .int (nI (h)))] := Eq.mp (congrArg (fun z9 => lv_has ls 15 [(12, .int (nI (y + 1))), (10, z9), (9, .int (nI (v))), (7, .long (lN (dnM (Z 4) j))), (5, .long (lN (u1))), (0, .ref (om)), (1, .int (nI (k))), (2, .int (nI (n))), (3, .int (nI (g))), (4, .int (nI (h)))]) el24) hl9
                                  exact ih133 (y + 1) (by omega) (by omega) _ _ _ hP hD hS hl9
                                · skip
                                  rw [bI_nz] at c23
                                  refine lv_iload_n hx hb dX8_wind_174 rfl (lv_at hl 8 rfl) ?_
                                  refine lv_i2l (v := lN (g)) hx hb dX8_wind_175 (nI_l (by omega)) ?_
                                  refine lv_goto (tgt := 184) hx hb dX8_wind_176 (by decide) ?_
                                  refine lv_lmul hx hb dX8_wind_184 ?_
                                  refine vn_l (v := lN ((wyM (Z 4) v g y) * g)) (lN_mul _ _) ?_
                                  refine lv_lstore (lv' := [(10, .long (lN ((wyM (Z 4) v g y) * g))), (12, .int (nI (y))), (9, .int (nI (v))), (7, .long (lN (dnM (Z 4) j))), (5, .long (lN (u1))), (0, .ref (om)), (1, .int (nI (k))), (2, .int (nI (n))), (3, .int (nI (g))), (4, .int (nI (h)))]) hx hb dX8_wind_185 hl (by decide) rfl (fun ls hl => ?_)
                                  refine lv_iinc (v := nI (y + 1)) (lv' := [(12, .int (nI (y + 1))), (10, .long (lN ((wyM (Z 4) v g y) * g))), (9, .int (nI (v))), (7, .long (lN (dnM (Z 4) j))), (5, .long (lN (u1))), (0, .ref (om)), (1, .int (nI (k))), (2, .int (nI (n))), (3, .int (nI (g))), (4, .int (nI (h)))]) hx hb dX8_wind_187 hl (k := 1) rfl (nI_add _ _) (by decide) rfl (fun ls hl => ?_)
                                  refine lv_goto (tgt := 133) hx hb dX8_wind_190 (by decide) ?_
                                  have hl9 := lv_sub (l' := [(12, .int (nI (y + 1))), (10, .long (lN ((wyM (Z 4) v g y) * g))), (9, .int (nI (v))), (7, .long (lN (dnM (Z 4) j))), (5, .long (lN (u1))), (0, .ref (om)), (1, .int (nI (k))), (2, .int (nI (n))), (3, .int (nI (g))), (4, .int (nI (h)))]) hl [0, 1, 2, 3, 4, 5, 6, 7, 8, 9] rfl
                                  have el25 : (.long (lN ((wyM (Z 4) v g y) * g)) : Value) = .long (lN (wyM (Z 4) v g (y + 1))) := by
                                    rw [wyM, if_neg (by rw [c22]; simp), if_pos c23]
                                  have hl9 : lv_has ls 15 [(12, .int (nI (y + 1))), (10, .long (lN (wyM (Z 4) v g (y + 1)))), (9, .int (nI (v))), (7, .long (lN (dnM (Z 4) j))), (5, .long (lN (u1))), (0, .ref (om)), (1, .int (nI (k))), (2, .int (nI (n))), (3, .int (nI (g))), (4, .int (nI (h)))] := Eq.mp (congrArg (fun z9 => lv_has ls 15 [(12, .int (nI (y + 1))), (10, z9), (9, .int (nI (v))), (7, .long (lN (dnM (Z 4) j))), (5, .long (lN (u1))), (0, .ref (om)), (1, .int (nI (k))), (2, .int (nI (n))), (3, .int (nI (g))), (4, .int (nI (h)))]) el25) hl9
                                  exact ih133 (y + 1) (by omega) (by omega) _ _ _ hP hD hS hl9
                              · skip
                                rw [bI_nz] at c22
                                refine lv_lconst (v := lN 1) hx hb dX8_wind_160 rfl ?_
                                refine lv_goto (tgt := 184) hx hb dX8_wind_161 (by decide) ?_
                                refine lv_lmul hx hb dX8_wind_184 ?_
                                refine vn_l (v := lN ((wyM (Z 4) v g y) * 1)) (lN_mul _ _) ?_
                                refine lv_lstore (lv' := [(10, .long (lN ((wyM (Z 4) v g y) * 1))), (12, .int (nI (y))), (9, .int (nI (v))), (7, .long (lN (dnM (Z 4) j))), (5, .long (lN (u1))), (0, .ref (om)), (1, .int (nI (k))), (2, .int (nI (n))), (3, .int (nI (g))), (4, .int (nI (h)))]) hx hb dX8_wind_185 hl (by decide) rfl (fun ls hl => ?_)
                                refine lv_iinc (v := nI (y + 1)) (lv' := [(12, .int (nI (y + 1))), (10, .long (lN ((wyM (Z 4) v g y) * 1))), (9, .int (nI (v))), (7, .long (lN (dnM (Z 4) j))), (5, .long (lN (u1))), (0, .ref (om)), (1, .int (nI (k))), (2, .int (nI (n))), (3, .int (nI (g))), (4, .int (nI (h)))]) hx hb dX8_wind_187 hl (k := 1) rfl (nI_add _ _) (by decide) rfl (fun ls hl => ?_)
                                refine lv_goto (tgt := 133) hx hb dX8_wind_190 (by decide) ?_
                                have hl9 := lv_sub (l' := [(12, .int (nI (y + 1))), (10, .long (lN ((wyM (Z 4) v g y) * 1))), (9, .int (nI (v))), (7, .long (lN (dnM (Z 4) j))), (5, .long (lN (u1))), (0, .ref (om)), (1, .int (nI (k))), (2, .int (nI (n))), (3, .int (nI (g))), (4, .int (nI (h)))]) hl [0, 1, 2, 3, 4, 5, 6, 7, 8, 9] rfl
                                have el26 : (.long (lN ((wyM (Z 4) v g y) * 1)) : Value) = .long (lN (wyM (Z 4) v g (y + 1))) := by
                                  rw [wyM, if_pos c22]
                                have hl9 : lv_has ls 15 [(12, .int (nI (y + 1))), (10, .long (lN (wyM (Z 4) v g (y + 1)))), (9, .int (nI (v))), (7, .long (lN (dnM (Z 4) j))), (5, .long (lN (u1))), (0, .ref (om)), (1, .int (nI (k))), (2, .int (nI (n))), (3, .int (nI (g))), (4, .int (nI (h)))] := Eq.mp (congrArg (fun z9 => lv_has ls 15 [(12, .int (nI (y + 1))), (10, z9), (9, .int (nI (v))), (7, .long (lN (dnM (Z 4) j))), (5, .long (lN (u1))), (0, .ref (om)), (1, .int (nI (k))), (2, .int (nI (n))), (3, .int (nI (g))), (4, .int (nI (h)))]) el26) hl9
                                exact ih133 (y + 1) (by omega) (by omega) _ _ _ hP hD hS hl9
                        have hl9 := lv_sub (l' := [(12, .int (nI (0))), (10, .long (lN (1))), (9, .int (nI (v))), (7, .long (lN (dnM (Z 4) j))), (5, .long (lN (u1))), (0, .ref (om)), (1, .int (nI (k))), (2, .int (nI (n))), (3, .int (nI (g))), (4, .int (nI (h)))]) hl [0, 1, 2, 3, 4, 5, 6, 7, 8, 9] rfl
                        have el27 : (.long (lN (1)) : Value) = .long (lN (wyM (Z 4) v g 0)) := by
                          rfl
                        have hl9 : lv_has ls 15 [(12, .int (nI (0))), (10, .long (lN (wyM (Z 4) v g 0))), (9, .int (nI (v))), (7, .long (lN (dnM (Z 4) j))), (5, .long (lN (u1))), (0, .ref (om)), (1, .int (nI (k))), (2, .int (nI (n))), (3, .int (nI (g))), (4, .int (nI (h)))] := Eq.mp (congrArg (fun z9 => lv_has ls 15 [(12, .int (nI (0))), (10, z9), (9, .int (nI (v))), (7, .long (lN (dnM (Z 4) j))), (5, .long (lN (u1))), (0, .ref (om)), (1, .int (nI (k))), (2, .int (nI (n))), (3, .int (nI (g))), (4, .int (nI (h)))]) el27) hl9
                        exact loop133 _ 0 (by omega) (Nat.lt_succ_self _) _ _ _ hP hD hS hl9
                have hl9 := lv_sub (l' := [(9, .int (nI (0))), (7, .long (lN (dnM (Z 4) j))), (5, .long (lN (0))), (0, .ref (om)), (1, .int (nI (k))), (2, .int (nI (n))), (3, .int (nI (g))), (4, .int (nI (h)))]) hl [0, 1, 2, 3, 4, 5, 6, 7] rfl
                exact loop102 _ 0 0 Z (Nat.zero_le _) (rfl) (fun j hj => rfl) (Nat.lt_succ_self _) _ _ _ hP hD hS hl9
              · skip
                rw [nI_leI (by omega) (by omega)] at c9
                refine lv_lload hx hb dX8_wind_67 (lv_at hl 1 rfl) ?_
                refine lv_aload_n hx hb dX8_wind_69 rfl (lv_at hl 3 rfl) ?_
                refine va_get (v := .ref (mw)) (Ts := wsX80) (C := RX8) (T := TX8) (N := 15) hx hb hwsX80 (fun _ h => h) hown hK hP 0 rfl rfl 0 (by decide) (hts (.fieldLink RX8 7 "AdventStreetsModel" "w" "[I") (List.mem_of_getElem? (i := 4) rfl)) (fun _ h9 => h9) rfl dX8_wind_70 ?_
                refine lv_iconst (v := nI (4)) hx hb dX8_wind_73 (by decide) ?_
                refine r_ald (f := Z) hx hb hK hP 1 rfl (i := 4) (by omega) (Nat.lt_of_lt_of_le (by omega : 1595 < 1073741824) (by decide)) dX8_wind_74 ?_
                refine lv_iload hx hb dX8_wind_75 (lv_at hl 0 rfl) ?_
                refine cSi (n := 2) (As := [.int (nI (Z 4)), .int (nI (j))]) (rest := [.long (lN (dnM (Z 4) j))]) (X := [(om, .inr (8, [.ref (mw), .int (nI (ud)), .ref (mt), .int (nI (td)), .int (nI (fy)), .int (nI (su)), .ref (mm), .ref (ml), .ref (mi), .ref (mh), .int (nI (cu)), .int (nI (sa)), .int (nI (nb)), .ref (mr), .int (nI (tn))])), (mw, .inl (cA 0, 1595, arN Z))]) (pl := []) (wc := ([] : va_W)) (wr := [(om, .inr (8, [.ref (mw), .int (nI (ud)), .ref (mt), .int (nI (td)), .int (nI (fy)), .int (nI (su)), .ref (mm), .ref (ml), .ref (mi), .ref (mh), .int (nI (cu)), .int (nI (sa)), .int (nI (nb)), .ref (mr), .int (nI (tn))])), (mw, .inl (cA 0, 1595, arN Z))]) (w1 := ([] : va_W)) (wn := [(om, .inr (8, [.ref (mw), .int (nI (ud)), .ref (mt), .int (nI (td)), .int (nI (fy)), .int (nI (su)), .ref (mm), .ref (ml), .ref (mi), .ref (mh), .int (nI (cu)), .int (nI (sa)), .int (nI (nb)), .ref (mr), .int (nI (tn))])), (mw, .inl (cA 0, 1595, arN Z))]) (isC := []) (isR := [0, 1]) (isN := [0, 1]) ⟨hx, hb, hml, hown, hts⟩ (c_X8_has l D cA tt (Z 4) j (by omega) (by omega) _) gX8_wind_X8_has rfl (by decide +kernel) ⟨rfl, rfl⟩ ⟨Nat.le_of_ble_eq_true rfl, Nat.le_of_ble_eq_true rfl⟩ ⟨Nat.zero_le _, Nat.zero_le _⟩ hK hE hA hP hD hS ⟨⟨rfl, by decide⟩, ⟨rfl, by decide, by decide⟩, rfl, by decide⟩ rfl hl.1 rfl (Nat.le_of_ble_eq_true rfl) dX8_wind_77 (fun H locs hP hD hS => ?_)
                have hP : va_P D vwCl [(om, .inr (8, [.ref (mw), .int (nI (ud)), .ref (mt), .int (nI (td)), .int (nI (fy)), .int (nI (su)), .ref (mm), .ref (ml), .ref (mi), .ref (mh), .int (nI (cu)), .int (nI (sa)), .int (nI (nb)), .ref (mr), .int (nI (tn))])), (mw, .inl (cA 0, 1595, arN Z))] _ := hP
                have hD : va_D A [(om, .inr (8, [.ref (mw), .int (nI (ud)), .ref (mt), .int (nI (td)), .int (nI (fy)), .int (nI (su)), .ref (mm), .ref (ml), .ref (mi), .ref (mh), .int (nI (cu)), .int (nI (sa)), .int (nI (nb)), .ref (mr), .int (nI (tn))])), (mw, .inl (cA 0, 1595, arN Z))] := hD
                refine lv_if_eq (tgt := 87) hx hb dX8_wind_80 (by decide) (fun c28 => ?_) (fun c28 => ?_)
                · skip
                  rw [bI_z] at c28
                  refine lv_ldc2 (v := (10)) hx hb hown (hts (.constantLong RX8 182 (10)) (List.mem_of_getElem? (i := 2) rfl)) dX8_wind_87 ?_
                  refine vn_l (v := lN 10) (by decide) ?_
                  refine lv_lmul hx hb dX8_wind_90 ?_
                  refine vn_l (v := lN ((dnM (Z 4) j) * 10)) (lN_mul _ _) ?_
                  refine lv_lstore (lv' := [(7, .long (lN ((dnM (Z 4) j) * 10))), (9, .int (nI (j))), (5, .long (lN (0))), (0, .ref (om)), (1, .int (nI (k))), (2, .int (nI (n))), (3, .int (nI (g))), (4, .int (nI (h)))]) hx hb dX8_wind_91 hl (by decide) rfl (fun ls hl => ?_)
                  refine lv_iinc (v := nI (j + 1)) (lv' := [(9, .int (nI (j + 1))), (7, .long (lN ((dnM (Z 4) j) * 10))), (5, .long (lN (0))), (0, .ref (om)), (1, .int (nI (k))), (2, .int (nI (n))), (3, .int (nI (g))), (4, .int (nI (h)))]) hx hb dX8_wind_93 hl (k := 1) rfl (nI_add _ _) (by decide) rfl (fun ls hl => ?_)
                  refine lv_goto (tgt := 56) hx hb dX8_wind_96 (by decide) ?_
                  have hl9 := lv_sub (l' := [(9, .int (nI (j + 1))), (7, .long (lN ((dnM (Z 4) j) * 10))), (5, .long (lN (0))), (0, .ref (om)), (1, .int (nI (k))), (2, .int (nI (n))), (3, .int (nI (g))), (4, .int (nI (h)))]) hl [0, 1, 2, 3, 4, 5, 6, 7] rfl
                  have el29 : (.long (lN ((dnM (Z 4) j) * 10)) : Value) = .long (lN (dnM (Z 4) (j + 1))) := by
                    rw [dnM, if_neg (by rw [c28]; simp)]
                  have hl9 : lv_has ls 15 [(9, .int (nI (j + 1))), (7, .long (lN (dnM (Z 4) (j + 1)))), (5, .long (lN (0))), (0, .ref (om)), (1, .int (nI (k))), (2, .int (nI (n))), (3, .int (nI (g))), (4, .int (nI (h)))] := Eq.mp (congrArg (fun z9 => lv_has ls 15 [(9, .int (nI (j + 1))), (7, z9), (5, .long (lN (0))), (0, .ref (om)), (1, .int (nI (k))), (2, .int (nI (n))), (3, .int (nI (g))), (4, .int (nI (h)))]) el29) hl9
                  exact ih56 (j + 1) (by omega) (by omega) _ _ _ hP hD hS hl9
                · skip
                  rw [bI_nz] at c28
                  refine lv_lconst (v := lN 1) hx hb dX8_wind_83 rfl ?_
                  refine lv_goto (tgt := 90) hx hb dX8_wind_84 (by decide) ?_
                  refine lv_lmul hx hb dX8_wind_90 ?_
                  refine vn_l (v := lN ((dnM (Z 4) j) * 1)) (lN_mul _ _) ?_
                  refine lv_lstore (lv' := [(7, .long (lN ((dnM (Z 4) j) * 1))), (9, .int (nI (j))), (5, .long (lN (0))), (0, .ref (om)), (1, .int (nI (k))), (2, .int (nI (n))), (3, .int (nI (g))), (4, .int (nI (h)))]) hx hb dX8_wind_91 hl (by decide) rfl (fun ls hl => ?_)
                  refine lv_iinc (v := nI (j + 1)) (lv' := [(9, .int (nI (j + 1))), (7, .long (lN ((dnM (Z 4) j) * 1))), (5, .long (lN (0))), (0, .ref (om)), (1, .int (nI (k))), (2, .int (nI (n))), (3, .int (nI (g))), (4, .int (nI (h)))]) hx hb dX8_wind_93 hl (k := 1) rfl (nI_add _ _) (by decide) rfl (fun ls hl => ?_)
                  refine lv_goto (tgt := 56) hx hb dX8_wind_96 (by decide) ?_
                  have hl9 := lv_sub (l' := [(9, .int (nI (j + 1))), (7, .long (lN ((dnM (Z 4) j) * 1))), (5, .long (lN (0))), (0, .ref (om)), (1, .int (nI (k))), (2, .int (nI (n))), (3, .int (nI (g))), (4, .int (nI (h)))]) hl [0, 1, 2, 3, 4, 5, 6, 7] rfl
                  have el30 : (.long (lN ((dnM (Z 4) j) * 1)) : Value) = .long (lN (dnM (Z 4) (j + 1))) := by
                    rw [dnM, if_pos c28]
                  have hl9 : lv_has ls 15 [(9, .int (nI (j + 1))), (7, .long (lN (dnM (Z 4) (j + 1)))), (5, .long (lN (0))), (0, .ref (om)), (1, .int (nI (k))), (2, .int (nI (n))), (3, .int (nI (g))), (4, .int (nI (h)))] := Eq.mp (congrArg (fun z9 => lv_has ls 15 [(9, .int (nI (j + 1))), (7, z9), (5, .long (lN (0))), (0, .ref (om)), (1, .int (nI (k))), (2, .int (nI (n))), (3, .int (nI (g))), (4, .int (nI (h)))]) el30) hl9
                  exact ih56 (j + 1) (by omega) (by omega) _ _ _ hP hD hS hl9
          have hl9 := lv_sub (l' := [(9, .int (nI (0))), (7, .long (lN (1))), (5, .long (lN (0))), (0, .ref (om)), (1, .int (nI (k))), (2, .int (nI (n))), (3, .int (nI (g))), (4, .int (nI (h)))]) hl [0, 1, 2, 3, 4, 5, 6, 7] rfl
          have el31 : (.long (lN (1)) : Value) = .long (lN (dnM (Z 4) 0)) := by
            rfl
          have hl9 : lv_has ls 15 [(9, .int (nI (0))), (7, .long (lN (dnM (Z 4) 0))), (5, .long (lN (0))), (0, .ref (om)), (1, .int (nI (k))), (2, .int (nI (n))), (3, .int (nI (g))), (4, .int (nI (h)))] := Eq.mp (congrArg (fun z9 => lv_has ls 15 [(9, .int (nI (0))), (7, z9), (5, .long (lN (0))), (0, .ref (om)), (1, .int (nI (k))), (2, .int (nI (n))), (3, .int (nI (g))), (4, .int (nI (h)))]) el31) hl9
          exact loop56 _ 0 (by omega) (Nat.lt_succ_self _) _ _ _ hP hD hS hl9
        · skip
          rw [bI_z] at c7
          refine lv_ldc2 (v := (-1000001)) hx hb hown (hts (.constantLong RX8 184 (-1000001)) (List.mem_of_getElem? (i := 3) rfl)) dX8_wind_43 ?_
          have ef32 : ([(om, .inr (8, [.ref (mw), .int (nI (ud)), .ref (mt), .int (nI (td)), .int (nI (fy)), .int (nI (su)), .ref (mm), .ref (ml), .ref (mi), .ref (mh), .int (nI (cu)), .int (nI (sa)), .int (nI (nb)), .ref (mr), .int (nI (tn))])), (mw, .inl (cA 0, 1595, arN Z))] : va_W) = [(om, .inr (8, [.ref (mw), .int (nI (ud)), .ref (mt), .int (nI (td)), .int (nI (fy)), .int (nI (su)), .ref (mm), .ref (ml), .ref (mi), .ref (mh), .int (nI (cu)), .int (nI (sa)), .int (nI (nb)), .ref (mr), .int (nI (tn))])), (mw, .inl (cA 0, 1595, arN (mx Z (SK (0, 0, 0, 0, 0, Z, SP (sg Z 0), SD (sg Z 0), SG (sg Z 0), SS (sg Z 0))))))] := by
            rw [show mx Z (SK (0, 0, 0, 0, 0, Z, SP (sg Z 0), SD (sg Z 0), SG (sg Z 0), SS (sg Z 0))) = Z from mx_of (fun j hj => rfl)]
          have hP : va_P D vwCl [(om, .inr (8, [.ref (mw), .int (nI (ud)), .ref (mt), .int (nI (td)), .int (nI (fy)), .int (nI (su)), .ref (mm), .ref (ml), .ref (mi), .ref (mh), .int (nI (cu)), .int (nI (sa)), .int (nI (nb)), .ref (mr), .int (nI (tn))])), (mw, .inl (cA 0, 1595, arN (mx Z (SK (0, 0, 0, 0, 0, Z, SP (sg Z 0), SD (sg Z 0), SG (sg Z 0), SS (sg Z 0))))))] _ := Eq.mp (congrArg (fun z9 => va_P D vwCl z9 _) ef32) hP
          have hD : va_D A [(om, .inr (8, [.ref (mw), .int (nI (ud)), .ref (mt), .int (nI (td)), .int (nI (fy)), .int (nI (su)), .ref (mm), .ref (ml), .ref (mi), .ref (mh), .int (nI (cu)), .int (nI (sa)), .int (nI (nb)), .ref (mr), .int (nI (tn))])), (mw, .inl (cA 0, 1595, arN (mx Z (SK (0, 0, 0, 0, 0, Z, SP (sg Z 0), SD (sg Z 0), SG (sg Z 0), SS (sg Z 0))))))] := Eq.mp (congrArg (fun z9 => va_D A z9) ef32) hD
          exact hend _ _ _ _ _ (0, 0, 0, 0, 0, Z, SP (sg Z 0), SD (sg Z 0), SG (sg Z 0), SS (sg Z 0)) hP hD hS (by unfold windM; rw [if_neg (by simp [c1, c3, c5, c7])]) dX8_wind_46
