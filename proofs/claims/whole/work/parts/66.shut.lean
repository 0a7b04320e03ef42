/-! ===== the reference: shut, trades ===== -/
def shL (Z : Nat → Nat) (k n : Nat) : Nat → Int32 × Nat
  | 0 => (-1000000, 100000000)
  | v + 1 => if onesN v < (shL Z k n v).2 ∧ ssB Z k n v = true then (nI v, onesN v) else shL Z k n v
def shutM (Z : Nat → Nat) (pk pn ph : Int32) : Int32 := if (inW pk (Sn (sg Z 0)) && inI pn (nI 1) (nI 24) && inI ph (nI 0) (nI 1)) = true then
    (if (So (sg Z 0)).testBit pk.toNatClampNeg = true then (-1000000) else if (shL Z pk.toNatClampNeg pn.toNatClampNeg (2 ^ Z 0)).1 = -1000000 then (-1000000) else if ph = 0 then nI (shL Z pk.toNatClampNeg pn.toNatClampNeg (2 ^ Z 0)).2 else (shL Z pk.toNatClampNeg pn.toNatClampNeg (2 ^ Z 0)).1) else (-1000001)
theorem gf_off {V Z : Nat → Nat} {v : Nat} (h : off5 V Z) (hn : Z 0 ≤ 10) : gfW V v = gfW Z v := by
  unfold gfW
  rw [cp5 h, h 0 (by decide)]
  funext j
  unfold rg
  by_cases q : 90 ≤ j ∧ j < 90 + Z 0
  · rw [if_pos q, if_pos q]
    show (if v.testBit (j - 90) = true then 9 else V (35 + (j - 90))) = if v.testBit (j - 90) = true then 9 else Z (35 + (j - 90))
    rw [h (35 + (j - 90)) (by omega)]
  · rw [if_neg q, if_neg q]
theorem off_gf {V Z : Nat → Nat} {v : Nat} (h : off5 V Z) (hn : V 0 ≤ 10) : off5 (gfW V v) Z := fun j hj => by
  unfold gfW
  rw [rg_out (by omega), cpW_o (by omega)]
  exact h j hj
theorem ss_off {V Z : Nat → Nat} {k n v : Nat} (h : off5 V Z) (hn : Z 0 ≤ 10) : ssB V k n v = ssB Z k n v := by
  unfold ssB ssP
  rw [gf_off h hn]
def mtV (Z : Nat → Nat) (k n a b : Nat) : Nat := onesN (goW (swW (cpW Z 0 55) 55 a b) n (100 + k))
def mtU (p : Int32 × Int32) (its ab : Nat) : Int32 × Int32 := if nI its ≤ p.2 then p else (nI ab, nI its)
def mtI (Z : Nat → Nat) (k n a : Nat) (p : Int32 × Int32) : Nat → Int32 × Int32
  | 0 => p
  | z + 1 => mtU (mtI Z k n a p z) (mtV Z k n a (a + 1 + z)) (10 * a + (a + 1 + z))
def mtO (Z : Nat → Nat) (k n : Nat) : Nat → Int32 × Int32
  | 0 => (-1000000, -1)
  | a + 1 => mtI Z k n a (mtO Z k n a) (Z 0 - (a + 1))
def tradesM (Z : Nat → Nat) (pk pn ph : Int32) : Int32 := if (inW pk (Sn (sg Z 0)) && inI pn (nI 1) (nI 24) && inI ph (nI 0) (nI 1)) = true then
    (if ph = 0 then (mtO Z pk.toNatClampNeg pn.toNatClampNeg (Z 0)).1 else (mtO Z pk.toNatClampNeg pn.toNatClampNeg (Z 0)).2) else (-1000001)
theorem sw_o {V : Nat → Nat} {r i j q : Nat} (h : q < r + 25 ∨ r + 35 ≤ q) (hi : i < 10) (hj : j < 10) : swW V r i j q = V q := by
  unfold swW
  rw [upN_n (by omega), upN_n (by omega)]
theorem sw_wf {V : Nat → Nat} {r i j : Nat} (h : Wf (sg V r)) (hi : i < 10) (hj : j < 10) : Wf (sg (swW V r i j) r) := by
  obtain ⟨a, b, d, f, g⟩ := wfW h
  refine wf_mk (by rw [sw_o (by omega) hi hj]; exact a) (by rw [sw_o (by omega) hi hj]; exact b) (by rw [sw_o (by omega) hi hj]; exact d) (by rw [sw_o (by omega) hi hj]; exact f) (fun k hk => ?_)
  obtain ⟨q1, q2, q3, q4, q5⟩ := g k hk
  rw [sw_o (q := r + 5 + k) (by omega) hi hj, sw_o (q := r + 15 + k) (by omega) hi hj, sw_o (q := r + 35 + k) (by omega) hi hj, sw_o (q := r + 45 + k) (by omega) hi hj]
  refine ⟨q1, q2, ?_, q4, q5⟩
  unfold swW upN
  split
  · exact (g i hi).2.2.1
  · split
    · exact (g j hj).2.2.1
    · exact q3
set_option maxRecDepth 100000 in
set_option maxHeartbeats 4000000 in
theorem c_X8_shut (l : Launch) (D : va_G) (cA : Nat → ClassId) (tt : Nat → Nat) (om mw mt mm ml mi mh mr ud td fy su cu sa nb tn : Nat) (Z : Nat → Nat) (pk pn ph : Int32) (hg : Wf (sg Z 0)) (he : 0 < Z 0 → 0 < Z 1) (ht : Z 3 < 1073740000) (sz : Nat) : CiE l D cA tt yX8_shut wsX8_shut ({ frames := 5, cells := 0, slots := 0, locals := 115 } : Room) [.ref (om), .int (pk), .int (pn), .int (ph)] sz [(om, .inr (8, [.ref (mw), .int (nI (ud)), .ref (mt), .int (nI (td)), .int (nI (fy)), .int (nI (su)), .ref (mm), .ref (ml), .ref (mi), .ref (mh), .int (nI (cu)), .int (nI (sa)), .int (nI (nb)), .ref (mr), .int (nI (tn))])), (mw, .inl (cA 0, 1595, arN Z))] (fun zz : Sg => [(om, .inr (8, [.ref (mw), .int (nI (ud)), .ref (mt), .int (nI (td)), .int (nI (fy)), .int (nI (su)), .ref (mm), .ref (ml), .ref (mi), .ref (mh), .int (nI (cu)), .int (nI (sa)), .int (nI (nb)), .ref (mr), .int (nI (tn))])), (mw, .inl (cA 0, 1595, arN (mx Z (SK zz))))]) (shutM Z pk pn ph) := by
  obtain ⟨gn, ge, gv, go, ga⟩ := wfZ hg
  refine CiE.mk (cc := cX8_shut) (maxL := 7) (ty := .int) (by decide) rfl rfl (Nat.le_of_ble_eq_true rfl) ?_
  intro p e s m below meth c A Q ls hB hl hend
  obtain ⟨⟨hx, hb, hml, hown, hts⟩, hP, hK, hD, hS, hA, hE⟩ := hB
  have hown : s.vm.findClass RX8 = some m.cls := hown
  have hwsX80 : ∀ w9 ∈ wsX80, w9.before ([.ref (om), .int (pk), .int (pn), .int (ph)] : List Value).toArray s = true := fun w9 h => hts w9 (List.mem_cons_of_mem _ (List.mem_append_right _ h))
  have hl : lv_has ls 7 [(0, .ref (om)), (1, .int (pk)), (2, .int (pn)), (3, .int (ph))] := hl
  refine lv_aload_n hx hb dX8_shut_0 rfl (lv_at hl 0 rfl) ?_
  refine lv_iload_n hx hb dX8_shut_1 rfl (lv_at hl 1 rfl) ?_
  refine cVi (n := 1) (As := [.int (pk)]) (rest := []) (C := RX8) (ci := 8) (q0 := 0) (X := [(om, .inr (8, [.ref (mw), .int (nI (ud)), .ref (mt), .int (nI (td)), .int (nI (fy)), .int (nI (su)), .ref (mm), .ref (ml), .ref (mi), .ref (mh), .int (nI (cu)), .int (nI (sa)), .int (nI (nb)), .ref (mr), .int (nI (tn))])), (mw, .inl (cA 0, 1595, arN Z))]) (pl := []) (wc := [(om, .inr (8, [.ref (mw), .int (nI (ud)), .ref (mt), .int (nI (td)), .int (nI (fy)), .int (nI (su)), .ref (mm), .ref (ml), .ref (mi), .ref (mh), .int (nI (cu)), .int (nI (sa)), .int (nI (nb)), .ref (mr), .int (nI (tn))])), (mw, .inl (cA 0, 1595, arN Z))]) (wr := ([] : va_W)) (w1 := [(om, .inr (8, [.ref (mw), .int (nI (ud)), .ref (mt), .int (nI (td)), .int (nI (fy)), .int (nI (su)), .ref (mm), .ref (ml), .ref (mi), .ref (mh), .int (nI (cu)), .int (nI (sa)), .int (nI (nb)), .ref (mr), .int (nI (tn))])), (mw, .inl (cA 0, 1595, arN Z))]) (wn := [(om, .inr (8, [.ref (mw), .int (nI (ud)), .ref (mt), .int (nI (td)), .int (nI (fy)), .int (nI (su)), .ref (mm), .ref (ml), .ref (mi), .ref (mh), .int (nI (cu)), .int (nI (sa)), .int (nI (nb)), .ref (mr), .int (nI (tn))])), (mw, .inl (cA 0, 1595, arN Z))]) (isC := [0, 1]) (isR := []) (isN := [0, 1]) ⟨hx, hb, hml, hown, hts⟩ (c_X8_isWindow l D cA tt om mw mt mm ml mi mh mr ud td fy su cu sa nb tn Z pk (hg) _) gX8_shut_X8_isWindow rfl (by decide +kernel) rfl rfl ⟨rfl, rfl⟩ ⟨Nat.le_of_ble_eq_true rfl, Nat.le_of_ble_eq_true rfl⟩ ⟨Nat.zero_le _, Nat.zero_le _⟩ hK hE hA hP hD hS ⟨⟨rfl, by decide⟩, ⟨rfl, by decide, by decide⟩, rfl, by decide⟩ rfl hl.1 rfl (Nat.le_of_ble_eq_true rfl) dX8_shut_2 (fun H locs hP hD hS => ?_)
  have hP : va_P D vwCl [(om, .inr (8, [.ref (mw), .int (nI (ud)), .ref (mt), .int (nI (td)), .int (nI (fy)), .int (nI (su)), .ref (mm), .ref (ml), .ref (mi), .ref (mh), .int (nI (cu)), .int (nI (sa)), .int (nI (nb)), .ref (mr), .int (nI (tn))])), (mw, .inl (cA 0, 1595, arN Z))] _ := hP
  have hD : va_D A [(om, .inr (8, [.ref (mw), .int (nI (ud)), .ref (mt), .int (nI (td)), .int (nI (fy)), .int (nI (su)), .ref (mm), .ref (ml), .ref (mi), .ref (mh), .int (nI (cu)), .int (nI (sa)), .int (nI (nb)), .ref (mr), .int (nI (tn))])), (mw, .inl (cA 0, 1595, arN Z))] := hD
  refine lv_if_eq (tgt := 30) hx hb dX8_shut_5 (by decide) (fun c1 => ?_) (fun c1 => ?_)
  · skip
    rw [bI_z] at c1
    refine lv_ldc (v := (-1000001)) hx hb hown (hts (.constant RX8 48 (-1000001)) (List.mem_of_getElem? (i := 2) rfl)) dX8_shut_30 ?_
    have ef2 : ([(om, .inr (8, [.ref (mw), .int (nI (ud)), .ref (mt), .int (nI (td)), .int (nI (fy)), .int (nI (su)), .ref (mm), .ref (ml), .ref (mi), .ref (mh), .int (nI (cu)), .int (nI (sa)), .int (nI (nb)), .ref (mr), .int (nI (tn))])), (mw, .inl (cA 0, 1595, arN Z))] : va_W) = [(om, .inr (8, [.ref (mw), .int (nI (ud)), .ref (mt), .int (nI (td)), .int (nI (fy)), .int (nI (su)), .ref (mm), .ref (ml), .ref (mi), .ref (mh), .int (nI (cu)), .int (nI (sa)), .int (nI (nb)), .ref (mr), .int (nI (tn))])), (mw, .inl (cA 0, 1595, arN (mx Z (SK (0, 0, 0, 0, 0, Z, SP (sg Z 0), SD (sg Z 0), SG (sg Z 0), SS (sg Z 0))))))] := by
      rw [show mx Z (SK (0, 0, 0, 0, 0, Z, SP (sg Z 0), SD (sg Z 0), SG (sg Z 0), SS (sg Z 0))) = Z from mx_of (fun j hj => rfl)]
    have hP : va_P D vwCl [(om, .inr (8, [.ref (mw), .int (nI (ud)), .ref (mt), .int (nI (td)), .int (nI (fy)), .int (nI (su)), .ref (mm), .ref (ml), .ref (mi), .ref (mh), .int (nI (cu)), .int (nI (sa)), .int (nI (nb)), .ref (mr), .int (nI (tn))])), (mw, .inl (cA 0, 1595, arN (mx Z (SK (0, 0, 0, 0, 0, Z, SP (sg Z 0), SD (sg Z 0), SG (sg Z 0), SS (sg Z 0))))))] _ := Eq.mp (congrArg (fun z9 => va_P D vwCl z9 _) ef2) hP
    have hD : va_D A [(om, .inr (8, [.ref (mw), .int (nI (ud)), .ref (mt), .int (nI (td)), .int (nI (fy)), .int (nI (su)), .ref (mm), .ref (ml), .ref (mi), .ref (mh), .int (nI (cu)), .int (nI (sa)), .int (nI (nb)), .ref (mr), .int (nI (tn))])), (mw, .inl (cA 0, 1595, arN (mx Z (SK (0, 0, 0, 0, 0, Z, SP (sg Z 0), SD (sg Z 0), SG (sg Z 0), SS (sg Z 0))))))] := Eq.mp (congrArg (fun z9 => va_D A z9) ef2) hD
    exact hend _ _ _ _ _ (0, 0, 0, 0, 0, Z, SP (sg Z 0), SD (sg Z 0), SG (sg Z 0), SS (sg Z 0)) hP hD hS (by unfold shutM; rw [if_neg (by simp [c1])]) dX8_shut_32
  · skip
    rw [bI_nz] at c1
    obtain ⟨k, e_k, l_k⟩ := inW_t (by omega) c1
    rw [e_k] at hl
    refine lv_iload_n hx hb dX8_shut_8 rfl (lv_at hl 2 rfl) ?_
    refine lv_i2l (v := (pn).toInt64) hx hb dX8_shut_9 (rfl) ?_
    refine lv_lconst (v := lN 1) hx hb dX8_shut_10 rfl ?_
    refine lv_ldc2 (v := (24)) hx hb hown (hts (.constantLong RX8 141 (24)) (List.mem_of_getElem? (i := 1) rfl)) dX8_shut_11 ?_
    refine vn_l (v := lN 24) (by decide) ?_
    refine cSi (n := 3) (As := [.long ((pn).toInt64), .long (lN (1)), .long (lN (24))]) (rest := []) (X := [(om, .inr (8, [.ref (mw), .int (nI (ud)), .ref (mt), .int (nI (td)), .int (nI (fy)), .int (nI (su)), .ref (mm), .ref (ml), .ref (mi), .ref (mh), .int (nI (cu)), .int (nI (sa)), .int (nI (nb)), .ref (mr), .int (nI (tn))])), (mw, .inl (cA 0, 1595, arN Z))]) (pl := []) (wc := ([] : va_W)) (wr := [(om, .inr (8, [.ref (mw), .int (nI (ud)), .ref (mt), .int (nI (td)), .int (nI (fy)), .int (nI (su)), .ref (mm), .ref (ml), .ref (mi), .ref (mh), .int (nI (cu)), .int (nI (sa)), .int (nI (nb)), .ref (mr), .int (nI (tn))])), (mw, .inl (cA 0, 1595, arN Z))]) (w1 := ([] : va_W)) (wn := [(om, .inr (8, [.ref (mw), .int (nI (ud)), .ref (mt), .int (nI (td)), .int (nI (fy)), .int (nI (su)), .ref (mm), .ref (ml), .ref (mi), .ref (mh), .int (nI (cu)), .int (nI (sa)), .int (nI (nb)), .ref (mr), .int (nI (tn))])), (mw, .inl (cA 0, 1595, arN Z))]) (isC := []) (isR := [0, 1]) (isN := [0, 1]) ⟨hx, hb, hml, hown, hts⟩ (c_X8_in_I l D cA tt pn 1 24 (by omega) (by omega) _) gX8_shut_X8_in rfl (by decide +kernel) ⟨rfl, rfl⟩ ⟨Nat.le_of_ble_eq_true rfl, Nat.le_of_ble_eq_true rfl⟩ ⟨Nat.zero_le _, Nat.zero_le _⟩ hK hE hA hP hD hS ⟨⟨rfl, by decide⟩, ⟨rfl, by decide, by decide⟩, rfl, by decide⟩ rfl hl.1 rfl (Nat.le_of_ble_eq_true rfl) dX8_shut_14 (fun H locs hP hD hS => ?_)
    have hP : va_P D vwCl [(om, .inr (8, [.ref (mw), .int (nI (ud)), .ref (mt), .int (nI (td)), .int (nI (fy)), .int (nI (su)), .ref (mm), .ref (ml), .ref (mi), .ref (mh), .int (nI (cu)), .int (nI (sa)), .int (nI (nb)), .ref (mr), .int (nI (tn))])), (mw, .inl (cA 0, 1595, arN Z))] _ := hP
    have hD : va_D A [(om, .inr (8, [.ref (mw), .int (nI (ud)), .ref (mt), .int (nI (td)), .int (nI (fy)), .int (nI (su)), .ref (mm), .ref (ml), .ref (mi), .ref (mh), .int (nI (cu)), .int (nI (sa)), .int (nI (nb)), .ref (mr), .int (nI (tn))])), (mw, .inl (cA 0, 1595, arN Z))] := hD
    refine lv_if_eq (tgt := 30) hx hb dX8_shut_17 (by decide) (fun c3 => ?_) (fun c3 => ?_)
    · skip
      rw [bI_z] at c3
      refine lv_ldc (v := (-1000001)) hx hb hown (hts (.constant RX8 48 (-1000001)) (List.mem_of_getElem? (i := 2) rfl)) dX8_shut_30 ?_
      have ef4 : ([(om, .inr (8, [.ref (mw), .int (nI (ud)), .ref (mt), .int (nI (td)), .int (nI (fy)), .int (nI (su)), .ref (mm), .ref (ml), .ref (mi), .ref (mh), .int (nI (cu)), .int (nI (sa)), .int (nI (nb)), .ref (mr), .int (nI (tn))])), (mw, .inl (cA 0, 1595, arN Z))] : va_W) = [(om, .inr (8, [.ref (mw), .int (nI (ud)), .ref (mt), .int (nI (td)), .int (nI (fy)), .int (nI (su)), .ref (mm), .ref (ml), .ref (mi), .ref (mh), .int (nI (cu)), .int (nI (sa)), .int (nI (nb)), .ref (mr), .int (nI (tn))])), (mw, .inl (cA 0, 1595, arN (mx Z (SK (0, 0, 0, 0, 0, Z, SP (sg Z 0), SD (sg Z 0), SG (sg Z 0), SS (sg Z 0))))))] := by
        rw [show mx Z (SK (0, 0, 0, 0, 0, Z, SP (sg Z 0), SD (sg Z 0), SG (sg Z 0), SS (sg Z 0))) = Z from mx_of (fun j hj => rfl)]
      have hP : va_P D vwCl [(om, .inr (8, [.ref (mw), .int (nI (ud)), .ref (mt), .int (nI (td)), .int (nI (fy)), .int (nI (su)), .ref (mm), .ref (ml), .ref (mi), .ref (mh), .int (nI (cu)), .int (nI (sa)), .int (nI (nb)), .ref (mr), .int (nI (tn))])), (mw, .inl (cA 0, 1595, arN (mx Z (SK (0, 0, 0, 0, 0, Z, SP (sg Z 0), SD (sg Z 0), SG (sg Z 0), SS (sg Z 0))))))] _ := Eq.mp (congrArg (fun z9 => va_P D vwCl z9 _) ef4) hP
      have hD : va_D A [(om, .inr (8, [.ref (mw), .int (nI (ud)), .ref (mt), .int (nI (td)), .int (nI (fy)), .int (nI (su)), .ref (mm), .ref (ml), .ref (mi), .ref (mh), .int (nI (cu)), .int (nI (sa)), .int (nI (nb)), .ref (mr), .int (nI (tn))])), (mw, .inl (cA 0, 1595, arN (mx Z (SK (0, 0, 0, 0, 0, Z, SP (sg Z 0), SD (sg Z 0), SG (sg Z 0), SS (sg Z 0))))))] := Eq.mp (congrArg (fun z9 => va_D A z9) ef4) hD
      exact hend _ _ _ _ _ (0, 0, 0, 0, 0, Z, SP (sg Z 0), SD (sg Z 0), SG (sg Z 0), SS (sg Z 0)) hP hD hS (by unfold shutM; rw [if_neg (by simp [c1, c3])]) dX8_shut_32
    · skip
      rw [bI_nz] at c3
      obtain ⟨n, e_n, a_n, l_n⟩ := inI_t (by decide) c3 (by decide)
      rw [e_n] at hl
      refine lv_iload_n hx hb dX8_shut_20 rfl (lv_at hl 3 rfl) ?_
      refine lv_i2l (v := (ph).toInt64) hx hb dX8_shut_21 (rfl) ?_
      refine lv_lconst (v := lN 0) hx hb dX8_shut_22 rfl ?_
      refine lv_lconst (v := lN 1) hx hb dX8_shut_23 rfl ?_
      refine cSi (n := 3) (As := [.long ((ph).toInt64), .long (lN (0)), .long (lN (1))]) (rest := []) (X := [(om, .inr (8, [.ref (mw), .int (nI (ud)), .ref (mt), .int (nI (td)), .int (nI (fy)), .int (nI (su)), .ref (mm), .ref (ml), .ref (mi), .ref (mh), .int (nI (cu)), .int (nI (sa)), .int (nI (nb)), .ref (mr), .int (nI (tn))])), (mw, .inl (cA 0, 1595, arN Z))]) (pl := []) (wc := ([] : va_W)) (wr := [(om, .inr (8, [.ref (mw), .int (nI (ud)), .ref (mt), .int (nI (td)), .int (nI (fy)), .int (nI (su)), .ref (mm), .ref (ml), .ref (mi), .ref (mh), .int (nI (cu)), .int (nI (sa)), .int (nI (nb)), .ref (mr), .int (nI (tn))])), (mw, .inl (cA 0, 1595, arN Z))]) (w1 := ([] : va_W)) (wn := [(om, .inr (8, [.ref (mw), .int (nI (ud)), .ref (mt), .int (nI (td)), .int (nI (fy)), .int (nI (su)), .ref (mm), .ref (ml), .ref (mi), .ref (mh), .int (nI (cu)), .int (nI (sa)), .int (nI (nb)), .ref (mr), .int (nI (tn))])), (mw, .inl (cA 0, 1595, arN Z))]) (isC := []) (isR := [0, 1]) (isN := [0, 1]) ⟨hx, hb, hml, hown, hts⟩ (c_X8_in_I l D cA tt ph 0 1 (by omega) (by omega) _) gX8_shut_X8_in rfl (by decide +kernel) ⟨rfl, rfl⟩ ⟨Nat.le_of_ble_eq_true rfl, Nat.le_of_ble_eq_true rfl⟩ ⟨Nat.zero_le _, Nat.zero_le _⟩ hK hE hA hP hD hS ⟨⟨rfl, by decide⟩, ⟨rfl, by decide, by decide⟩, rfl, by decide⟩ rfl hl.1 rfl (Nat.le_of_ble_eq_true rfl) dX8_shut_24 (fun H locs hP hD hS => ?_)
      have hP : va_P D vwCl [(om, .inr (8, [.ref (mw), .int (nI (ud)), .ref (mt), .int (nI (td)), .int (nI (fy)), .int (nI (su)), .ref (mm), .ref (ml), .ref (mi), .ref (mh), .int (nI (cu)), .int (nI (sa)), .int (nI (nb)), .ref (mr), .int (nI (tn))])), (mw, .inl (cA 0, 1595, arN Z))] _ := hP
      have hD : va_D A [(om, .inr (8, [.ref (mw), .int (nI (ud)), .ref (mt), .int (nI (td)), .int (nI (fy)), .int (nI (su)), .ref (mm), .ref (ml), .ref (mi), .ref (mh), .int (nI (cu)), .int (nI (sa)), .int (nI (nb)), .ref (mr), .int (nI (tn))])), (mw, .inl (cA 0, 1595, arN Z))] := hD
      refine lv_if_ne (tgt := 33) hx hb dX8_shut_27 (by decide) (fun c5 => ?_) (fun c5 => ?_)
      · skip
        rw [bI_nz] at c5
        obtain ⟨h, e_h, a_h, l_h⟩ := inI_t (by decide) c5 (by decide)
        rw [e_h] at hl
        refine lv_aload_n hx hb dX8_shut_33 rfl (lv_at hl 0 rfl) ?_
        refine va_get (v := .ref (mw)) (Ts := wsX80) (C := RX8) (T := TX8) (N := 15) hx hb hwsX80 (fun _ h => h) hown hK hP 0 rfl rfl 0 (by decide) (hts (.fieldLink RX8 7 "AdventStreetsModel" "w" "[I") (List.mem_of_getElem? (i := 3) rfl)) (fun _ h9 => h9) rfl dX8_shut_34 ?_
        refine lv_iconst (v := nI (4)) hx hb dX8_shut_37 (by decide) ?_
        refine r_ald (f := Z) hx hb hK hP 1 rfl (i := 4) (by omega) (Nat.lt_of_lt_of_le (by omega : 1595 < 1073741824) (by decide)) dX8_shut_38 ?_
        refine lv_iload_n hx hb dX8_shut_39 rfl (lv_at hl 1 rfl) ?_
        refine cSi (n := 2) (As := [.int (nI (Z 4)), .int (nI (k))]) (rest := []) (X := [(om, .inr (8, [.ref (mw), .int (nI (ud)), .ref (mt), .int (nI (td)), .int (nI (fy)), .int (nI (su)), .ref (mm), .ref (ml), .ref (mi), .ref (mh), .int (nI (cu)), .int (nI (sa)), .int (nI (nb)), .ref (mr), .int (nI (tn))])), (mw, .inl (cA 0, 1595, arN Z))]) (pl := []) (wc := ([] : va_W)) (wr := [(om, .inr (8, [.ref (mw), .int (nI (ud)), .ref (mt), .int (nI (td)), .int (nI (fy)), .int (nI (su)), .ref (mm), .ref (ml), .ref (mi), .ref (mh), .int (nI (cu)), .int (nI (sa)), .int (nI (nb)), .ref (mr), .int (nI (tn))])), (mw, .inl (cA 0, 1595, arN Z))]) (w1 := ([] : va_W)) (wn := [(om, .inr (8, [.ref (mw), .int (nI (ud)), .ref (mt), .int (nI (td)), .int (nI (fy)), .int (nI (su)), .ref (mm), .ref (ml), .ref (mi), .ref (mh), .int (nI (cu)), .int (nI (sa)), .int (nI (nb)), .ref (mr), .int (nI (tn))])), (mw, .inl (cA 0, 1595, arN Z))]) (isC := []) (isR := [0, 1]) (isN := [0, 1]) ⟨hx, hb, hml, hown, hts⟩ (c_X8_has l D cA tt (Z 4) k (by omega) (by omega) _) gX8_shut_X8_has rfl (by decide +kernel) ⟨rfl, rfl⟩ ⟨Nat.le_of_ble_eq_true rfl, Nat.le_of_ble_eq_true rfl⟩ ⟨Nat.zero_le _, Nat.zero_le _⟩ hK hE hA hP hD hS ⟨⟨rfl, by decide⟩, ⟨rfl, by decide, by decide⟩, rfl, by decide⟩ rfl hl.1 rfl (Nat.le_of_ble_eq_true rfl) dX8_shut_40 (fun H locs hP hD hS => ?_)
        have hP : va_P D vwCl [(om, .inr (8, [.ref (mw), .int (nI (ud)), .ref (mt), .int (nI (td)), .int (nI (fy)), .int (nI (su)), .ref (mm), .ref (ml), .ref (mi), .ref (mh), .int (nI (cu)), .int (nI (sa)), .int (nI (nb)), .ref (mr), .int (nI (tn))])), (mw, .inl (cA 0, 1595, arN Z))] _ := hP
        have hD : va_D A [(om, .inr (8, [.ref (mw), .int (nI (ud)), .ref (mt), .int (nI (td)), .int (nI (fy)), .int (nI (su)), .ref (mm), .ref (ml), .ref (mi), .ref (mh), .int (nI (cu)), .int (nI (sa)), .int (nI (nb)), .ref (mr), .int (nI (tn))])), (mw, .inl (cA 0, 1595, arN Z))] := hD
        refine lv_if_eq (tgt := 49) hx hb dX8_shut_43 (by decide) (fun c6 => ?_) (fun c6 => ?_)
        · skip
          rw [bI_z] at c6
          refine lv_ldc (v := (-1000000)) hx hb hown (hts (.constant RX8 168 (-1000000)) (List.mem_of_getElem? (i := 4) rfl)) dX8_shut_49 ?_
          refine lv_istore (lv' := [(4, .int ((-1000000))), (0, .ref (om)), (1, .int (nI (k))), (2, .int (nI (n))), (3, .int (nI (h)))]) hx hb dX8_shut_51 hl (by decide) rfl (fun ls hl => ?_)
          refine lv_ldc (v := (100000000)) hx hb hown (hts (.constant RX8 169 (100000000)) (List.mem_of_getElem? (i := 5) rfl)) dX8_shut_53 ?_
          refine vn_i (v := nI 100000000) (by decide) ?_
          refine lv_istore (lv' := [(5, .int (nI (100000000))), (4, .int ((-1000000))), (0, .ref (om)), (1, .int (nI (k))), (2, .int (nI (n))), (3, .int (nI (h)))]) hx hb dX8_shut_55 hl (by decide) rfl (fun ls hl => ?_)
          refine lv_iconst (v := nI (0)) hx hb dX8_shut_57 (by decide) ?_
          refine lv_istore (lv' := [(6, .int (nI (0))), (5, .int (nI (100000000))), (4, .int ((-1000000))), (0, .ref (om)), (1, .int (nI (k))), (2, .int (nI (n))), (3, .int (nI (h)))]) hx hb dX8_shut_58 hl (by decide) rfl (fun ls hl => ?_)
          have loop60 : ∀ (N60 : Nat) (v : Nat) (b1 : Int32) (u1 : Nat) (V : Nat → Nat), (v ≤ 2 ^ Z 0) → (shL Z k n v = (b1, u1)) → (off5 V Z) → (u1 ≤ 100000000) → (2 ^ Z 0 - v) < N60 → ∀ (H : Heap) (locs : List Loc) (ls : Array Slot), va_P D vwCl [(om, .inr (8, [.ref (mw), .int (nI (ud)), .ref (mt), .int (nI (td)), .int (nI (fy)), .int (nI (su)), .ref (mm), .ref (ml), .ref (mi), .ref (mh), .int (nI (cu)), .int (nI (sa)), .int (nI (nb)), .ref (mr), .int (nI (tn))])), (mw, .inl (cA 0, 1595, arN V))] H → va_D A [(om, .inr (8, [.ref (mw), .int (nI (ud)), .ref (mt), .int (nI (td)), .int (nI (fy)), .int (nI (su)), .ref (mm), .ref (ml), .ref (mi), .ref (mh), .int (nI (cu)), .int (nI (sa)), .int (nI (nb)), .ref (mr), .int (nI (tn))])), (mw, .inl (cA 0, 1595, arN V))] → va_S A s.heap H locs → lv_has ls 7 [(6, .int (nI (v))), (5, .int (nI (u1))), (4, .int (b1)), (0, .ref (om)), (1, .int (nI (k))), (2, .int (nI (n))), (3, .int (nI (h)))] → W p l e ({ frames := 5, cells := 0, slots := 0, locals := 115 } : Room) s m ([.ref (om), .int (pk), .int (pn), .int (ph)] : List Value).toArray below meth c H locs 0 0 Q (F0 m 60 ls []) := by
            intro N60
            induction N60 with
            | zero => intro v b1 u1 V iv60_0 iv60_1 iv60_2 iv60_3 hN; exact absurd hN (Nat.not_lt_zero _)
            | succ N60 ih60 =>
              intro v b1 u1 V iv60_0 iv60_1 iv60_2 iv60_3 hN60 H locs ls hP hD hS hl
              have hV : off5 V Z := iv60_2
              have hp9 : 2 ^ Z 0 ≤ 1024 := Nat.pow_le_pow_right (n := 2) (by decide) gn
              have ho9 := onesN_le v
              refine lv_iload hx hb dX8_shut_60 (lv_at hl 0 rfl) ?_
              refine lv_iconst (v := nI (1)) hx hb dX8_shut_62 (by decide) ?_
              refine lv_aload_n hx hb dX8_shut_63 rfl (lv_at hl 3 rfl) ?_
              refine va_get (v := .ref (mw)) (Ts := wsX80) (C := RX8) (T := TX8) (N := 15) hx hb hwsX80 (fun _ h => h) hown hK hP 0 rfl rfl 0 (by decide) (hts (.fieldLink RX8 7 "AdventStreetsModel" "w" "[I") (List.mem_of_getElem? (i := 3) rfl)) (fun _ h9 => h9) rfl dX8_shut_64 ?_
              refine lv_iconst (v := nI (0)) hx hb dX8_shut_67 (by decide) ?_
              refine r_ald (f := V) hx hb hK hP 1 rfl (i := 0) (by omega) (Nat.lt_of_lt_of_le (by omega : 1595 < 1073741824) (by decide)) dX8_shut_68 ?_
              refine vn_i (v := nI (Z 0)) (congrArg nI (hV 0 (by omega))) ?_
              refine lv_ishl hx hb dX8_shut_69 ?_
              refine vn_i (v := nI (2 ^ (Z 0))) (n_shl1 (by omega)) ?_
              refine lv_icmp_ge (tgt := 111) hx hb dX8_shut_70 (by decide) (fun c8 => ?_) (fun c8 => ?_)
              · skip
                rw [nI_leI (by omega) (by omega)] at c8
                refine lv_iload hx hb dX8_shut_111 (lv_at hl 2 rfl) ?_
                refine lv_ldc (v := (-1000000)) hx hb hown (hts (.constant RX8 168 (-1000000)) (List.mem_of_getElem? (i := 4) rfl)) dX8_shut_113 ?_
                refine lv_icmp_ne (tgt := 123) hx hb dX8_shut_115 (by decide) (fun c9 => ?_) (fun c9 => ?_)
                · skip
                  refine lv_iload_n hx hb dX8_shut_123 rfl (lv_at hl 6 rfl) ?_
                  refine lv_if_ne (tgt := 132) hx hb dX8_shut_124 (by decide) (fun c10 => ?_) (fun c10 => ?_)
                  · skip
                    rw [n_z (by omega)] at c10
                    refine lv_iload hx hb dX8_shut_132 (lv_at hl 2 rfl) ?_
                    have ef11 : ([(om, .inr (8, [.ref (mw), .int (nI (ud)), .ref (mt), .int (nI (td)), .int (nI (fy)), .int (nI (su)), .ref (mm), .ref (ml), .ref (mi), .ref (mh), .int (nI (cu)), .int (nI (sa)), .int (nI (nb)), .ref (mr), .int (nI (tn))])), (mw, .inl (cA 0, 1595, arN V))] : va_W) = [(om, .inr (8, [.ref (mw), .int (nI (ud)), .ref (mt), .int (nI (td)), .int (nI (fy)), .int (nI (su)), .ref (mm), .ref (ml), .ref (mi), .ref (mh), .int (nI (cu)), .int (nI (sa)), .int (nI (nb)), .ref (mr), .int (nI (tn))])), (mw, .inl (cA 0, 1595, arN (mx Z (SK (0, 0, 0, 0, 0, V, SP (sg Z 0), SD (sg Z 0), SG (sg Z 0), SS (sg Z 0))))))] := by
                      rw [show mx Z (SK (0, 0, 0, 0, 0, V, SP (sg Z 0), SD (sg Z 0), SG (sg Z 0), SS (sg Z 0))) = V from mx_of hV]
                    have hP : va_P D vwCl [(om, .inr (8, [.ref (mw), .int (nI (ud)), .ref (mt), .int (nI (td)), .int (nI (fy)), .int (nI (su)), .ref (mm), .ref (ml), .ref (mi), .ref (mh), .int (nI (cu)), .int (nI (sa)), .int (nI (nb)), .ref (mr), .int (nI (tn))])), (mw, .inl (cA 0, 1595, arN (mx Z (SK (0, 0, 0, 0, 0, V, SP (sg Z 0), SD (sg Z 0), SG (sg Z 0), SS (sg Z 0))))))] _ := Eq.mp (congrArg (fun z9 => va_P D vwCl z9 _) ef11) hP
                    have hD : va_D A [(om, .inr (8, [.ref (mw), .int (nI (ud)), .ref (mt), .int (nI (td)), .int (nI (fy)), .int (nI (su)), .ref (mm), .ref (ml), .ref (mi), .ref (mh), .int (nI (cu)), .int (nI (sa)), .int (nI (nb)), .ref (mr), .int (nI (tn))])), (mw, .inl (cA 0, 1595, arN (mx Z (SK (0, 0, 0, 0, 0, V, SP (sg Z 0), SD (sg Z 0), SG (sg Z 0), SS (sg Z 0))))))] := Eq.mp (congrArg (fun z9 => va_D A z9) ef11) hD
                    exact hend _ _ _ _ _ (0, 0, 0, 0, 0, V, SP (sg Z 0), SD (sg Z 0), SG (sg Z 0), SS (sg Z 0)) hP hD hS (by unfold shutM; rw [if_pos (by simp [c1, c3, c5]), e_k, e_n, e_h, nI_clamp (n := k) (by omega), nI_clamp (n := n) (by omega), if_neg (by rw [show (So (sg Z 0)).testBit k = false from c6]; simp), show 2 ^ Z 0 = v by omega, iv60_1]; simp only [if_neg c9, if_neg (fun q => c10 ((n_z (a := h) (by omega)).mp q))]) dX8_shut_134
                  · skip
                    rw [n_z (by omega)] at c10
                    refine lv_iload hx hb dX8_shut_127 (lv_at hl 1 rfl) ?_
                    refine lv_goto (tgt := 134) hx hb dX8_shut_129 (by decide) ?_
                    have ef12 : ([(om, .inr (8, [.ref (mw), .int (nI (ud)), .ref (mt), .int (nI (td)), .int (nI (fy)), .int (nI (su)), .ref (mm), .ref (ml), .ref (mi), .ref (mh), .int (nI (cu)), .int (nI (sa)), .int (nI (nb)), .ref (mr), .int (nI (tn))])), (mw, .inl (cA 0, 1595, arN V))] : va_W) = [(om, .inr (8, [.ref (mw), .int (nI (ud)), .ref (mt), .int (nI (td)), .int (nI (fy)), .int (nI (su)), .ref (mm), .ref (ml), .ref (mi), .ref (mh), .int (nI (cu)), .int (nI (sa)), .int (nI (nb)), .ref (mr), .int (nI (tn))])), (mw, .inl (cA 0, 1595, arN (mx Z (SK (0, 0, 0, 0, 0, V, SP (sg Z 0), SD (sg Z 0), SG (sg Z 0), SS (sg Z 0))))))] := by
                      rw [show mx Z (SK (0, 0, 0, 0, 0, V, SP (sg Z 0), SD (sg Z 0), SG (sg Z 0), SS (sg Z 0))) = V from mx_of hV]
                    have hP : va_P D vwCl [(om, .inr (8, [.ref (mw), .int (nI (ud)), .ref (mt), .int (nI (td)), .int (nI (fy)), .int (nI (su)), .ref (mm), .ref (ml), .ref (mi), .ref (mh), .int (nI (cu)), .int (nI (sa)), .int (nI (nb)), .ref (mr), .int (nI (tn))])), (mw, .inl (cA 0, 1595, arN (mx Z (SK (0, 0, 0, 0, 0, V, SP (sg Z 0), SD (sg Z 0), SG (sg Z 0), SS (sg Z 0))))))] _ := Eq.mp (congrArg (fun z9 => va_P D vwCl z9 _) ef12) hP
                    have hD : va_D A [(om, .inr (8, [.ref (mw), .int (nI (ud)), .ref (mt), .int (nI (td)), .int (nI (fy)), .int (nI (su)), .ref (mm), .ref (ml), .ref (mi), .ref (mh), .int (nI (cu)), .int (nI (sa)), .int (nI (nb)), .ref (mr), .int (nI (tn))])), (mw, .inl (cA 0, 1595, arN (mx Z (SK (0, 0, 0, 0, 0, V, SP (sg Z 0), SD (sg Z 0), SG (sg Z 0), SS (sg Z 0))))))] := Eq.mp (congrArg (fun z9 => va_D A z9) ef12) hD
                    exact hend _ _ _ _ _ (0, 0, 0, 0, 0, V, SP (sg Z 0), SD (sg Z 0), SG (sg Z 0), SS (sg Z 0)) hP hD hS (by unfold shutM; rw [if_pos (by simp [c1, c3, c5]), e_k, e_n, e_h, nI_clamp (n := k) (by omega), nI_clamp (n := n) (by omega), if_neg (by rw [show (So (sg Z 0)).testBit k = false from c6]; simp), show 2 ^ Z 0 = v by omega, iv60_1]; simp only [if_neg c9, if_pos ((n_z (a := h) (by omega)).mpr c10)]) dX8_shut_134
                · skip
                  refine lv_ldc (v := (-1000000)) hx hb hown (hts (.constant RX8 168 (-1000000)) (List.mem_of_getElem? (i := 4) rfl)) dX8_shut_118 ?_
                  refine lv_goto (tgt := 134) hx hb dX8_shut_120 (by decide) ?_
                  have ef13 : ([(om, .inr (8, [.ref (mw), .int (nI (ud)), .ref (mt), .int (nI (td)), .int (nI (fy)), .int (nI (su)), .ref (mm), .ref (ml), .ref (mi), .ref (mh), .int (nI (cu)), .int (nI (sa)), .int (nI (nb)), .ref (mr), .int (nI (tn))])), (mw, .inl (cA 0, 1595, arN V))] : va_W) = [(om, .inr (8, [.ref (mw), .int (nI (ud)), .ref (mt), .int (nI (td)), .int (nI (fy)), .int (nI (su)), .ref (mm), .ref (ml), .ref (mi), .ref (mh), .int (nI (cu)), .int (nI (sa)), .int (nI (nb)), .ref (mr), .int (nI (tn))])), (mw, .inl (cA 0, 1595, arN (mx Z (SK (0, 0, 0, 0, 0, V, SP (sg Z 0), SD (sg Z 0), SG (sg Z 0), SS (sg Z 0))))))] := by
                    rw [show mx Z (SK (0, 0, 0, 0, 0, V, SP (sg Z 0), SD (sg Z 0), SG (sg Z 0), SS (sg Z 0))) = V from mx_of hV]
                  have hP : va_P D vwCl [(om, .inr (8, [.ref (mw), .int (nI (ud)), .ref (mt), .int (nI (td)), .int (nI (fy)), .int (nI (su)), .ref (mm), .ref (ml), .ref (mi), .ref (mh), .int (nI (cu)), .int (nI (sa)), .int (nI (nb)), .ref (mr), .int (nI (tn))])), (mw, .inl (cA 0, 1595, arN (mx Z (SK (0, 0, 0, 0, 0, V, SP (sg Z 0), SD (sg Z 0), SG (sg Z 0), SS (sg Z 0))))))] _ := Eq.mp (congrArg (fun z9 => va_P D vwCl z9 _) ef13) hP
                  have hD : va_D A [(om, .inr (8, [.ref (mw), .int (nI (ud)), .ref (mt), .int (nI (td)), .int (nI (fy)), .int (nI (su)), .ref (mm), .ref (ml), .ref (mi), .ref (mh), .int (nI (cu)), .int (nI (sa)), .int (nI (nb)), .ref (mr), .int (nI (tn))])), (mw, .inl (cA 0, 1595, arN (mx Z (SK (0, 0, 0, 0, 0, V, SP (sg Z 0), SD (sg Z 0), SG (sg Z 0), SS (sg Z 0))))))] := Eq.mp (congrArg (fun z9 => va_D A z9) ef13) hD
                  exact hend _ _ _ _ _ (0, 0, 0, 0, 0, V, SP (sg Z 0), SD (sg Z 0), SG (sg Z 0), SS (sg Z 0)) hP hD hS (by unfold shutM; rw [if_pos (by simp [c1, c3, c5]), e_k, e_n, e_h, nI_clamp (n := k) (by omega), nI_clamp (n := n) (by omega), if_neg (by rw [show (So (sg Z 0)).testBit k = false from c6]; simp), show 2 ^ Z 0 = v by omega, iv60_1]; simp only [if_pos c9]) dX8_shut_134
              · skip
                rw [nI_leI (by omega) (by omega)] at c8
                refine lv_iload hx hb dX8_shut_73 (lv_at hl 0 rfl) ?_
                refine cSi (n := 1) (As := [.int (nI (v))]) (rest := []) (X := [(om, .inr (8, [.ref (mw), .int (nI (ud)), .ref (mt), .int (nI (td)), .int (nI (fy)), .int (nI (su)), .ref (mm), .ref (ml), .ref (mi), .ref (mh), .int (nI (cu)), .int (nI (sa)), .int (nI (nb)), .ref (mr), .int (nI (tn))])), (mw, .inl (cA 0, 1595, arN V))]) (pl := []) (wc := ([] : va_W)) (wr := [(om, .inr (8, [.ref (mw), .int (nI (ud)), .ref (mt), .int (nI (td)), .int (nI (fy)), .int (nI (su)), .ref (mm), .ref (ml), .ref (mi), .ref (mh), .int (nI (cu)), .int (nI (sa)), .int (nI (nb)), .ref (mr), .int (nI (tn))])), (mw, .inl (cA 0, 1595, arN V))]) (w1 := ([] : va_W)) (wn := [(om, .inr (8, [.ref (mw), .int (nI (ud)), .ref (mt), .int (nI (td)), .int (nI (fy)), .int (nI (su)), .ref (mm), .ref (ml), .ref (mi), .ref (mh), .int (nI (cu)), .int (nI (sa)), .int (nI (nb)), .ref (mr), .int (nI (tn))])), (mw, .inl (cA 0, 1595, arN V))]) (isC := []) (isR := [0, 1]) (isN := [0, 1]) ⟨hx, hb, hml, hown, hts⟩ (c_X8_ones l D cA tt v (by omega) _) gX8_shut_X8_ones rfl (by decide +kernel) ⟨rfl, rfl⟩ ⟨Nat.le_of_ble_eq_true rfl, Nat.le_of_ble_eq_true rfl⟩ ⟨Nat.zero_le _, Nat.zero_le _⟩ hK hE hA hP hD hS ⟨⟨rfl, by decide⟩, ⟨rfl, by decide, by decide⟩, rfl, by decide⟩ rfl hl.1 rfl (Nat.le_of_ble_eq_true rfl) dX8_shut_75 (fun H locs hP hD hS => ?_)
                have hP : va_P D vwCl [(om, .inr (8, [.ref (mw), .int (nI (ud)), .ref (mt), .int (nI (td)), .int (nI (fy)), .int (nI (su)), .ref (mm), .ref (ml), .ref (mi), .ref (mh), .int (nI (cu)), .int (nI (sa)), .int (nI (nb)), .ref (mr), .int (nI (tn))])), (mw, .inl (cA 0, 1595, arN V))] _ := hP
                have hD : va_D A [(om, .inr (8, [.ref (mw), .int (nI (ud)), .ref (mt), .int (nI (td)), .int (nI (fy)), .int (nI (su)), .ref (mm), .ref (ml), .ref (mi), .ref (mh), .int (nI (cu)), .int (nI (sa)), .int (nI (nb)), .ref (mr), .int (nI (tn))])), (mw, .inl (cA 0, 1595, arN V))] := hD
                refine lv_iload hx hb dX8_shut_78 (lv_at hl 1 rfl) ?_
                refine lv_icmp_ge (tgt := 105) hx hb dX8_shut_80 (by decide) (fun c14 => ?_) (fun c14 => ?_)
                · skip
                  rw [nI_leI (by omega) (by omega)] at c14
                  refine lv_iinc (v := nI (v + 1)) (lv' := [(6, .int (nI (v + 1))), (5, .int (nI (u1))), (4, .int (b1)), (0, .ref (om)), (1, .int (nI (k))), (2, .int (nI (n))), (3, .int (nI (h)))]) hx hb dX8_shut_105 hl (k := 0) rfl (nI_add _ _) (by decide) rfl (fun ls hl => ?_)
                  refine lv_goto (tgt := 60) hx hb dX8_shut_108 (by decide) ?_
                  have hl9 := lv_sub (l' := [(6, .int (nI (v + 1))), (5, .int (nI (u1))), (4, .int (b1)), (0, .ref (om)), (1, .int (nI (k))), (2, .int (nI (n))), (3, .int (nI (h)))]) hl [0, 1, 2, 3, 4, 5, 6] rfl
                  exact ih60 (v + 1) b1 u1 V (by omega) (by rw [shL, iv60_1, if_neg (fun h9 => by have h8 : onesN v < u1 := h9.1; omega)]) (hV) (by omega) (by omega) _ _ _ hP hD hS hl9
                · skip
                  rw [nI_leI (by omega) (by omega)] at c14
                  refine lv_aload_n hx hb dX8_shut_83 rfl (lv_at hl 3 rfl) ?_
                  refine lv_iload_n hx hb dX8_shut_84 rfl (lv_at hl 4 rfl) ?_
                  refine lv_iload_n hx hb dX8_shut_85 rfl (lv_at hl 5 rfl) ?_
                  refine lv_iload hx hb dX8_shut_86 (lv_at hl 0 rfl) ?_
                  refine cVi (n := 3) (As := [.int (nI (k)), .int (nI (n)), .int (nI (v))]) (rest := []) (C := RX8) (ci := 8) (q0 := 0) (X := [(om, .inr (8, [.ref (mw), .int (nI (ud)), .ref (mt), .int (nI (td)), .int (nI (fy)), .int (nI (su)), .ref (mm), .ref (ml), .ref (mi), .ref (mh), .int (nI (cu)), .int (nI (sa)), .int (nI (nb)), .ref (mr), .int (nI (tn))])), (mw, .inl (cA 0, 1595, arN V))]) (pl := []) (wc := [(om, .inr (8, [.ref (mw), .int (nI (ud)), .ref (mt), .int (nI (td)), .int (nI (fy)), .int (nI (su)), .ref (mm), .ref (ml), .ref (mi), .ref (mh), .int (nI (cu)), .int (nI (sa)), .int (nI (nb)), .ref (mr), .int (nI (tn))])), (mw, .inl (cA 0, 1595, arN V))]) (wr := ([] : va_W)) (w1 := [(om, .inr (8, [.ref (mw), .int (nI (ud)), .ref (mt), .int (nI (td)), .int (nI (fy)), .int (nI (su)), .ref (mm), .ref (ml), .ref (mi), .ref (mh), .int (nI (cu)), .int (nI (sa)), .int (nI (nb)), .ref (mr), .int (nI (tn))])), (mw, .inl (cA 0, 1595, arN (goW (gfW V v) (ssN V k n v))))]) (wn := [(om, .inr (8, [.ref (mw), .int (nI (ud)), .ref (mt), .int (nI (td)), .int (nI (fy)), .int (nI (su)), .ref (mm), .ref (ml), .ref (mi), .ref (mh), .int (nI (cu)), .int (nI (sa)), .int (nI (nb)), .ref (mr), .int (nI (tn))])), (mw, .inl (cA 0, 1595, arN (goW (gfW V v) (ssN V k n v))))]) (isC := [0, 1]) (isR := []) (isN := [0, 1]) ⟨hx, hb, hml, hown, hts⟩ (c_X8_staysShut l D cA tt om mw mt mm ml mi mh mr ud td fy su cu sa nb tn V k n v (off_wf hV hg) (by rw [hV 1 (by omega)]; exact he (by omega)) (by rw [hV 3 (by omega)]; omega) (by omega) (by omega) (by omega) _) gX8_shut_X8_staysShut rfl (by decide +kernel) rfl rfl ⟨rfl, rfl⟩ ⟨Nat.le_of_ble_eq_true rfl, Nat.le_of_ble_eq_true rfl⟩ ⟨Nat.zero_le _, Nat.zero_le _⟩ hK hE hA hP hD hS ⟨⟨rfl, by decide⟩, ⟨rfl, by decide, by decide⟩, rfl, by decide⟩ rfl hl.1 rfl (Nat.le_of_ble_eq_true rfl) dX8_shut_88 (fun H locs hP hD hS => ?_)
                  have hP : va_P D vwCl [(om, .inr (8, [.ref (mw), .int (nI (ud)), .ref (mt), .int (nI (td)), .int (nI (fy)), .int (nI (su)), .ref (mm), .ref (ml), .ref (mi), .ref (mh), .int (nI (cu)), .int (nI (sa)), .int (nI (nb)), .ref (mr), .int (nI (tn))])), (mw, .inl (cA 0, 1595, arN (goW (gfW V v) (ssN V k n v))))] _ := hP
                  have hD : va_D A [(om, .inr (8, [.ref (mw), .int (nI (ud)), .ref (mt), .int (nI (td)), .int (nI (fy)), .int (nI (su)), .ref (mm), .ref (ml), .ref (mi), .ref (mh), .int (nI (cu)), .int (nI (sa)), .int (nI (nb)), .ref (mr), .int (nI (tn))])), (mw, .inl (cA 0, 1595, arN (goW (gfW V v) (ssN V k n v))))] := hD
                  refine lv_if_eq (tgt := 105) hx hb dX8_shut_91 (by decide) (fun c15 => ?_) (fun c15 => ?_)
                  · skip
                    rw [bI_z] at c15
                    refine lv_iinc (v := nI (v + 1)) (lv' := [(6, .int (nI (v + 1))), (5, .int (nI (u1))), (4, .int (b1)), (0, .ref (om)), (1, .int (nI (k))), (2, .int (nI (n))), (3, .int (nI (h)))]) hx hb dX8_shut_105 hl (k := 0) rfl (nI_add _ _) (by decide) rfl (fun ls hl => ?_)
                    refine lv_goto (tgt := 60) hx hb dX8_shut_108 (by decide) ?_
                    have hl9 := lv_sub (l' := [(6, .int (nI (v + 1))), (5, .int (nI (u1))), (4, .int (b1)), (0, .ref (om)), (1, .int (nI (k))), (2, .int (nI (n))), (3, .int (nI (h)))]) hl [0, 1, 2, 3, 4, 5, 6] rfl
                    exact ih60 (v + 1) b1 u1 (goW (gfW V v) (ssN V k n v)) (by omega) (by rw [shL, iv60_1, if_neg (fun h9 => by have h8 := (ss_off (k := k) (n := n) (v := v) hV gn).trans h9.2; rw [c15] at h8; cases h8)]) (off_go (gf_ok (off_wf hV hg)).1 (off_gf hV (by rw [hV 0 (by decide)]; exact gn)) _) (by omega) (by omega) _ _ _ hP hD hS hl9
                  · skip
                    rw [bI_nz] at c15
                    refine lv_iload hx hb dX8_shut_94 (lv_at hl 0 rfl) ?_
                    refine lv_istore (lv' := [(4, .int (nI (v))), (6, .int (nI (v))), (5, .int (nI (u1))), (0, .ref (om)), (1, .int (nI (k))), (2, .int (nI (n))), (3, .int (nI (h)))]) hx hb dX8_shut_96 hl (by decide) rfl (fun ls hl => ?_)
                    refine lv_iload hx hb dX8_shut_98 (lv_at hl 1 rfl) ?_
                    refine cSi (n := 1) (As := [.int (nI (v))]) (rest := []) (X := [(om, .inr (8, [.ref (mw), .int (nI (ud)), .ref (mt), .int (nI (td)), .int (nI (fy)), .int (nI (su)), .ref (mm), .ref (ml), .ref (mi), .ref (mh), .int (nI (cu)), .int (nI (sa)), .int (nI (nb)), .ref (mr), .int (nI (tn))])), (mw, .inl (cA 0, 1595, arN (goW (gfW V v) (ssN V k n v))))]) (pl := []) (wc := ([] : va_W)) (wr := [(om, .inr (8, [.ref (mw), .int (nI (ud)), .ref (mt), .int (nI (td)), .int (nI (fy)), .int (nI (su)), .ref (mm), .ref (ml), .ref (mi), .ref (mh), .int (nI (cu)), .int (nI (sa)), .int (nI (nb)), .ref (mr), .int (nI (tn))])), (mw, .inl (cA 0, 1595, arN (goW (gfW V v) (ssN V k n v))))]) (w1 := ([] : va_W)) (wn := [(om, .inr (8, [.ref (mw), .int (nI (ud)), .ref (mt), .int (nI (td)), .int (nI (fy)), .int (nI (su)), .ref (mm), .ref (ml), .ref (mi), .ref (mh), .int (nI (cu)), .int (nI (sa)), .int (nI (nb)), .ref (mr), .int (nI (tn))])), (mw, .inl (cA 0, 1595, arN (goW (gfW V v) (ssN V k n v))))]) (isC := []) (isR := [0, 1]) (isN := [0, 1]) ⟨hx, hb, hml, hown, hts⟩ (c_X8_ones l D cA tt v (by omega) _) gX8_shut_X8_ones rfl (by decide +kernel) ⟨rfl, rfl⟩ ⟨Nat.le_of_ble_eq_true rfl, Nat.le_of_ble_eq_true rfl⟩ ⟨Nat.zero_le _, Nat.zero_le _⟩ hK hE hA hP hD hS ⟨⟨rfl, by decide⟩, ⟨rfl, by decide, by decide⟩, rfl, by decide⟩ rfl hl.1 rfl (Nat.le_of_ble_eq_true rfl) dX8_shut_100 (fun H locs hP hD hS => ?_)
                    have hP : va_P D vwCl [(om, .inr (8, [.ref (mw), .int (nI (ud)), .ref (mt), .int (nI (td)), .int (nI (fy)), .int (nI (su)), .ref (mm), .ref (ml), .ref (mi), .ref (mh), .int (nI (cu)), .int (nI (sa)), .int (nI (nb)), .ref (mr), .int (nI (tn))])), (mw, .inl (cA 0, 1595, arN (goW (gfW V v) (ssN V k n v))))] _ := hP
                    have hD : va_D A [(om, .inr (8, [.ref (mw), .int (nI (ud)), .ref (mt), .int (nI (td)), .int (nI (fy)), .int (nI (su)), .ref (mm), .ref (ml), .ref (mi), .ref (mh), .int (nI (cu)), .int (nI (sa)), .int (nI (nb)), .ref (mr), .int (nI (tn))])), (mw, .inl (cA 0, 1595, arN (goW (gfW V v) (ssN V k n v))))] := hD
                    refine lv_istore (lv' := [(5, .int (nI (onesN v))), (4, .int (nI (v))), (6, .int (nI (v))), (0, .ref (om)), (1, .int (nI (k))), (2, .int (nI (n))), (3, .int (nI (h)))]) hx hb dX8_shut_103 hl (by decide) rfl (fun ls hl => ?_)
                    refine lv_iinc (v := nI (v + 1)) (lv' := [(6, .int (nI (v + 1))), (5, .int (nI (onesN v))), (4, .int (nI (v))), (0, .ref (om)), (1, .int (nI (k))), (2, .int (nI (n))), (3, .int (nI (h)))]) hx hb dX8_shut_105 hl (k := 2) rfl (nI_add _ _) (by decide) rfl (fun ls hl => ?_)
                    refine lv_goto (tgt := 60) hx hb dX8_shut_108 (by decide) ?_
                    have hl9 := lv_sub (l' := [(6, .int (nI (v + 1))), (5, .int (nI (onesN v))), (4, .int (nI (v))), (0, .ref (om)), (1, .int (nI (k))), (2, .int (nI (n))), (3, .int (nI (h)))]) hl [0, 1, 2, 3, 4, 5, 6] rfl
                    exact ih60 (v + 1) (nI (v)) (onesN v) (goW (gfW V v) (ssN V k n v)) (by omega) (by rw [shL, iv60_1, if_pos ⟨by omega, (ss_off hV gn).symm.trans c15⟩]) (off_go (gf_ok (off_wf hV hg)).1 (off_gf hV (by rw [hV 0 (by decide)]; exact gn)) _) (by omega) (by omega) _ _ _ hP hD hS hl9
          have hl9 := lv_sub (l' := [(6, .int (nI (0))), (5, .int (nI (100000000))), (4, .int ((-1000000))), (0, .ref (om)), (1, .int (nI (k))), (2, .int (nI (n))), (3, .int (nI (h)))]) hl [0, 1, 2, 3, 4, 5, 6] rfl
          exact loop60 _ 0 (-1000000) 100000000 Z (Nat.zero_le _) (rfl) (fun j hj => rfl) (Nat.le_refl _) (Nat.lt_succ_self _) _ _ _ hP hD hS hl9
        · skip
          rw [bI_nz] at c6
          refine lv_ldc (v := (-1000000)) hx hb hown (hts (.constant RX8 168 (-1000000)) (List.mem_of_getElem? (i := 4) rfl)) dX8_shut_46 ?_
          have ef16 : ([(om, .inr (8, [.ref (mw), .int (nI (ud)), .ref (mt), .int (nI (td)), .int (nI (fy)), .int (nI (su)), .ref (mm), .ref (ml), .ref (mi), .ref (mh), .int (nI (cu)), .int (nI (sa)), .int (nI (nb)), .ref (mr), .int (nI (tn))])), (mw, .inl (cA 0, 1595, arN Z))] : va_W) = [(om, .inr (8, [.ref (mw), .int (nI (ud)), .ref (mt), .int (nI (td)), .int (nI (fy)), .int (nI (su)), .ref (mm), .ref (ml), .ref (mi), .ref (mh), .int (nI (cu)), .int (nI (sa)), .int (nI (nb)), .ref (mr), .int (nI (tn))])), (mw, .inl (cA 0, 1595, arN (mx Z (SK (0, 0, 0, 0, 0, Z, SP (sg Z 0), SD (sg Z 0), SG (sg Z 0), SS (sg Z 0))))))] := by
            rw [show mx Z (SK (0, 0, 0, 0, 0, Z, SP (sg Z 0), SD (sg Z 0), SG (sg Z 0), SS (sg Z 0))) = Z from mx_of (fun j hj => rfl)]
          have hP : va_P D vwCl [(om, .inr (8, [.ref (mw), .int (nI (ud)), .ref (mt), .int (nI (td)), .int (nI (fy)), .int (nI (su)), .ref (mm), .ref (ml), .ref (mi), .ref (mh), .int (nI (cu)), .int (nI (sa)), .int (nI (nb)), .ref (mr), .int (nI (tn))])), (mw, .inl (cA 0, 1595, arN (mx Z (SK (0, 0, 0, 0, 0, Z, SP (sg Z 0), SD (sg Z 0), SG (sg Z 0), SS (sg Z 0))))))] _ := Eq.mp (congrArg (fun z9 => va_P D vwCl z9 _) ef16) hP
          have hD : va_D A [(om, .inr (8, [.ref (mw), .int (nI (ud)), .ref (mt), .int (nI (td)), .int (nI (fy)), .int (nI (su)), .ref (mm), .ref (ml), .ref (mi), .ref (mh), .int (nI (cu)), .int (nI (sa)), .int (nI (nb)), .ref (mr), .int (nI (tn))])), (mw, .inl (cA 0, 1595, arN (mx Z (SK (0, 0, 0, 0, 0, Z, SP (sg Z 0), SD (sg Z 0), SG (sg Z 0), SS (sg Z 0))))))] := Eq.mp (congrArg (fun z9 => va_D A z9) ef16) hD
          exact hend _ _ _ _ _ (0, 0, 0, 0, 0, Z, SP (sg Z 0), SD (sg Z 0), SG (sg Z 0), SS (sg Z 0)) hP hD hS (by unfold shutM; rw [if_pos (by simp [c1, c3, c5]), e_k, nI_clamp (n := k) (by omega), if_pos (show (So (sg Z 0)).testBit k = true from c6)]) dX8_shut_48
      · skip
        rw [bI_z] at c5
        refine lv_ldc (v := (-1000001)) hx hb hown (hts (.constant RX8 48 (-1000001)) (List.mem_of_getElem? (i := 2) rfl)) dX8_shut_30 ?_
        have ef17 : ([(om, .inr (8, [.ref (mw), .int (nI (ud)), .ref (mt), .int (nI (td)), .int (nI (fy)), .int (nI (su)), .ref (mm), .ref (ml), .ref (mi), .ref (mh), .int (nI (cu)), .int (nI (sa)), .int (nI (nb)), .ref (mr), .int (nI (tn))])), (mw, .inl (cA 0, 1595, arN Z))] : va_W) = [(om, .inr (8, [.ref (mw), .int (nI (ud)), .ref (mt), .int (nI (td)), .int (nI (fy)), .int (nI (su)), .ref (mm), .ref (ml), .ref (mi), .ref (mh), .int (nI (cu)), .int (nI (sa)), .int (nI (nb)), .ref (mr), .int (nI (tn))])), (mw, .inl (cA 0, 1595, arN (mx Z (SK (0, 0, 0, 0, 0, Z, SP (sg Z 0), SD (sg Z 0), SG (sg Z 0), SS (sg Z 0))))))] := by
          rw [show mx Z (SK (0, 0, 0, 0, 0, Z, SP (sg Z 0), SD (sg Z 0), SG (sg Z 0), SS (sg Z 0))) = Z from mx_of (fun j hj => rfl)]
        have hP : va_P D vwCl [(om, .inr (8, [.ref (mw), .int (nI (ud)), .ref (mt), .int (nI (td)), .int (nI (fy)), .int (nI (su)), .ref (mm), .ref (ml), .ref (mi), .ref (mh), .int (nI (cu)), .int (nI (sa)), .int (nI (nb)), .ref (mr), .int (nI (tn))])), (mw, .inl (cA 0, 1595, arN (mx Z (SK (0, 0, 0, 0, 0, Z, SP (sg Z 0), SD (sg Z 0), SG (sg Z 0), SS (sg Z 0))))))] _ := Eq.mp (congrArg (fun z9 => va_P D vwCl z9 _) ef17) hP
        have hD : va_D A [(om, .inr (8, [.ref (mw), .int (nI (ud)), .ref (mt), .int (nI (td)), .int (nI (fy)), .int (nI (su)), .ref (mm), .ref (ml), .ref (mi), .ref (mh), .int (nI (cu)), .int (nI (sa)), .int (nI (nb)), .ref (mr), .int (nI (tn))])), (mw, .inl (cA 0, 1595, arN (mx Z (SK (0, 0, 0, 0, 0, Z, SP (sg Z 0), SD (sg Z 0), SG (sg Z 0), SS (sg Z 0))))))] := Eq.mp (congrArg (fun z9 => va_D A z9) ef17) hD
        exact hend _ _ _ _ _ (0, 0, 0, 0, 0, Z, SP (sg Z 0), SD (sg Z 0), SG (sg Z 0), SS (sg Z 0)) hP hD hS (by unfold shutM; rw [if_neg (by simp [c1, c3, c5])]) dX8_shut_32
set_option maxRecDepth 100000 in
set_option maxHeartbeats 4000000 in
theorem c_X8_trades (l : Launch) (D : va_G) (cA : Nat → ClassId) (tt : Nat → Nat) (om mw mt mm ml mi mh mr ud td fy su cu sa nb tn : Nat) (Z : Nat → Nat) (pk pn ph : Int32) (hg : Wf (sg Z 0)) (he : 0 < Z 0 → 0 < Z 1) (ht : Z 3 < 1073740000) (sz : Nat) : CiE l D cA tt yX8_trades wsX8_trades ({ frames := 5, cells := 0, slots := 0, locals := 112 } : Room) [.ref (om), .int (pk), .int (pn), .int (ph)] sz [(om, .inr (8, [.ref (mw), .int (nI (ud)), .ref (mt), .int (nI (td)), .int (nI (fy)), .int (nI (su)), .ref (mm), .ref (ml), .ref (mi), .ref (mh), .int (nI (cu)), .int (nI (sa)), .int (nI (nb)), .ref (mr), .int (nI (tn))])), (mw, .inl (cA 0, 1595, arN Z))] (fun zz : Sg => [(om, .inr (8, [.ref (mw), .int (nI (ud)), .ref (mt), .int (nI (td)), .int (nI (fy)), .int (nI (su)), .ref (mm), .ref (ml), .ref (mi), .ref (mh), .int (nI (cu)), .int (nI (sa)), .int (nI (nb)), .ref (mr), .int (nI (tn))])), (mw, .inl (cA 0, 1595, arN (mx Z (SK zz))))]) (tradesM Z pk pn ph) := by
  obtain ⟨gn, ge, gv, go, ga⟩ := wfZ hg
  refine CiE.mk (cc := cX8_trades) (maxL := 9) (ty := .int) (by decide) rfl rfl (Nat.le_of_ble_eq_true rfl) ?_
  intro p e s m below meth c A Q ls hB hl hend
  obtain ⟨⟨hx, hb, hml, hown, hts⟩, hP, hK, hD, hS, hA, hE⟩ := hB
  have hown : s.vm.findClass RX8 = some m.cls := hown
  have hwsX80 : ∀ w9 ∈ wsX80, w9.before ([.ref (om), .int (pk), .int (pn), .int (ph)] : List Value).toArray s = true := fun w9 h => hts w9 (List.mem_cons_of_mem _ (List.mem_append_right _ h))
  have hl : lv_has ls 9 [(0, .ref (om)), (1, .int (pk)), (2, .int (pn)), (3, .int (ph))] := hl
  refine lv_aload_n hx hb dX8_trades_0 rfl (lv_at hl 0 rfl) ?_
  refine lv_iload_n hx hb dX8_trades_1 rfl (lv_at hl 1 rfl) ?_
  refine cVi (n := 1) (As := [.int (pk)]) (rest := []) (C := RX8) (ci := 8) (q0 := 0) (X := [(om, .inr (8, [.ref (mw), .int (nI (ud)), .ref (mt), .int (nI (td)), .int (nI (fy)), .int (nI (su)), .ref (mm), .ref (ml), .ref (mi), .ref (mh), .int (nI (cu)), .int (nI (sa)), .int (nI (nb)), .ref (mr), .int (nI (tn))])), (mw, .inl (cA 0, 1595, arN Z))]) (pl := []) (wc := [(om, .inr (8, [.ref (mw), .int (nI (ud)), .ref (mt), .int (nI (td)), .int (nI (fy)), .int (nI (su)), .ref (mm), .ref (ml), .ref (mi), .ref (mh), .int (nI (cu)), .int (nI (sa)), .int (nI (nb)), .ref (mr), .int (nI (tn))])), (mw, .inl (cA 0, 1595, arN Z))]) (wr := ([] : va_W)) (w1 := [(om, .inr (8, [.ref (mw), .int (nI (ud)), .ref (mt), .int (nI (td)), .int (nI (fy)), .int (nI (su)), .ref (mm), .ref (ml), .ref (mi), .ref (mh), .int (nI (cu)), .int (nI (sa)), .int (nI (nb)), .ref (mr), .int (nI (tn))])), (mw, .inl (cA 0, 1595, arN Z))]) (wn := [(om, .inr (8, [.ref (mw), .int (nI (ud)), .ref (mt), .int (nI (td)), .int (nI (fy)), .int (nI (su)), .ref (mm), .ref (ml), .ref (mi), .ref (mh), .int (nI (cu)), .int (nI (sa)), .int (nI (nb)), .ref (mr), .int (nI (tn))])), (mw, .inl (cA 0, 1595, arN Z))]) (isC := [0, 1]) (isR := []) (isN := [0, 1]) ⟨hx, hb, hml, hown, hts⟩ (c_X8_isWindow l D cA tt om mw mt mm ml mi mh mr ud td fy su cu sa nb tn Z pk (hg) _) gX8_trades_X8_isWindow rfl (by decide +kernel) rfl rfl ⟨rfl, rfl⟩ ⟨Nat.le_of_ble_eq_true rfl, Nat.le_of_ble_eq_true rfl⟩ ⟨Nat.zero_le _, Nat.zero_le _⟩ hK hE hA hP hD hS ⟨⟨rfl, by decide⟩, ⟨rfl, by decide, by decide⟩, rfl, by decide⟩ rfl hl.1 rfl (Nat.le_of_ble_eq_true rfl) dX8_trades_2 (fun H locs hP hD hS => ?_)
  have hP : va_P D vwCl [(om, .inr (8, [.ref (mw), .int (nI (ud)), .ref (mt), .int (nI (td)), .int (nI (fy)), .int (nI (su)), .ref (mm), .ref (ml), .ref (mi), .ref (mh), .int (nI (cu)), .int (nI (sa)), .int (nI (nb)), .ref (mr), .int (nI (tn))])), (mw, .inl (cA 0, 1595, arN Z))] _ := hP
  have hD : va_D A [(om, .inr (8, [.ref (mw), .int (nI (ud)), .ref (mt), .int (nI (td)), .int (nI (fy)), .int (nI (su)), .ref (mm), .ref (ml), .ref (mi), .ref (mh), .int (nI (cu)), .int (nI (sa)), .int (nI (nb)), .ref (mr), .int (nI (tn))])), (mw, .inl (cA 0, 1595, arN Z))] := hD
  refine lv_if_eq (tgt := 30) hx hb dX8_trades_5 (by decide) (fun c1 => ?_) (fun c1 => ?_)
  · skip
    rw [bI_z] at c1
    refine lv_ldc (v := (-1000001)) hx hb hown (hts (.constant RX8 48 (-1000001)) (List.mem_of_getElem? (i := 2) rfl)) dX8_trades_30 ?_
    have ef2 : ([(om, .inr (8, [.ref (mw), .int (nI (ud)), .ref (mt), .int (nI (td)), .int (nI (fy)), .int (nI (su)), .ref (mm), .ref (ml), .ref (mi), .ref (mh), .int (nI (cu)), .int (nI (sa)), .int (nI (nb)), .ref (mr), .int (nI (tn))])), (mw, .inl (cA 0, 1595, arN Z))] : va_W) = [(om, .inr (8, [.ref (mw), .int (nI (ud)), .ref (mt), .int (nI (td)), .int (nI (fy)), .int (nI (su)), .ref (mm), .ref (ml), .ref (mi), .ref (mh), .int (nI (cu)), .int (nI (sa)), .int (nI (nb)), .ref (mr), .int (nI (tn))])), (mw, .inl (cA 0, 1595, arN (mx Z (SK (0, 0, 0, 0, 0, Z, SP (sg Z 0), SD (sg Z 0), SG (sg Z 0), SS (sg Z 0))))))] := by
      rw [show mx Z (SK (0, 0, 0, 0, 0, Z, SP (sg Z 0), SD (sg Z 0), SG (sg Z 0), SS (sg Z 0))) = Z from mx_of (fun j hj => rfl)]
    have hP : va_P D vwCl [(om, .inr (8, [.ref (mw), .int (nI (ud)), .ref (mt), .int (nI (td)), .int (nI (fy)), .int (nI (su)), .ref (mm), .ref (ml), .ref (mi), .ref (mh), .int (nI (cu)), .int (nI (sa)), .int (nI (nb)), .ref (mr), .int (nI (tn))])), (mw, .inl (cA 0, 1595, arN (mx Z (SK (0, 0, 0, 0, 0, Z, SP (sg Z 0), SD (sg Z 0), SG (sg Z 0), SS (sg Z 0))))))] _ := Eq.mp (congrArg (fun z9 => va_P D vwCl z9 _) ef2) hP
    have hD : va_D A [(om, .inr (8, [.ref (mw), .int (nI (ud)), .ref (mt), .int (nI (td)), .int (nI (fy)), .int (nI (su)), .ref (mm), .ref (ml), .ref (mi), .ref (mh), .int (nI (cu)), .int (nI (sa)), .int (nI (nb)), .ref (mr), .int (nI (tn))])), (mw, .inl (cA 0, 1595, arN (mx Z (SK (0, 0, 0, 0, 0, Z, SP (sg Z 0), SD (sg Z 0), SG (sg Z 0), SS (sg Z 0))))))] := Eq.mp (congrArg (fun z9 => va_D A z9) ef2) hD
    exact hend _ _ _ _ _ (0, 0, 0, 0, 0, Z, SP (sg Z 0), SD (sg Z 0), SG (sg Z 0), SS (sg Z 0)) hP hD hS (by unfold tradesM; rw [if_neg (by simp [c1])]) dX8_trades_32
  · skip
    rw [bI_nz] at c1
    obtain ⟨k, e_k, l_k⟩ := inW_t (by omega) c1
    rw [e_k] at hl
    refine lv_iload_n hx hb dX8_trades_8 rfl (lv_at hl 2 rfl) ?_
    refine lv_i2l (v := (pn).toInt64) hx hb dX8_trades_9 (rfl) ?_
    refine lv_lconst (v := lN 1) hx hb dX8_trades_10 rfl ?_
    refine lv_ldc2 (v := (24)) hx hb hown (hts (.constantLong RX8 141 (24)) (List.mem_of_getElem? (i := 1) rfl)) dX8_trades_11 ?_
    refine vn_l (v := lN 24) (by decide) ?_
    refine cSi (n := 3) (As := [.long ((pn).toInt64), .long (lN (1)), .long (lN (24))]) (rest := []) (X := [(om, .inr (8, [.ref (mw), .int (nI (ud)), .ref (mt), .int (nI (td)), .int (nI (fy)), .int (nI (su)), .ref (mm), .ref (ml), .ref (mi), .ref (mh), .int (nI (cu)), .int (nI (sa)), .int (nI (nb)), .ref (mr), .int (nI (tn))])), (mw, .inl (cA 0, 1595, arN Z))]) (pl := []) (wc := ([] : va_W)) (wr := [(om, .inr (8, [.ref (mw), .int (nI (ud)), .ref (mt), .int (nI (td)), .int (nI (fy)), .int (nI (su)), .ref (mm), .ref (ml), .ref (mi), .ref (mh), .int (nI (cu)), .int (nI (sa)), .int (nI (nb)), .ref (mr), .int (nI (tn))])), (mw, .inl (cA 0, 1595, arN Z))]) (w1 := ([] : va_W)) (wn := [(om, .inr (8, [.ref (mw), .int (nI (ud)), .ref (mt), .int (nI (td)), .int (nI (fy)), .int (nI (su)), .ref (mm), .ref (ml), .ref (mi), .ref (mh), .int (nI (cu)), .int (nI (sa)), .int (nI (nb)), .ref (mr), .int (nI (tn))])), (mw, .inl (cA 0, 1595, arN Z))]) (isC := []) (isR := [0, 1]) (isN := [0, 1]) ⟨hx, hb, hml, hown, hts⟩ (c_X8_in_I l D cA tt pn 1 24 (by omega) (by omega) _) gX8_trades_X8_in rfl (by decide +kernel) ⟨rfl, rfl⟩ ⟨Nat.le_of_ble_eq_true rfl, Nat.le_of_ble_eq_true rfl⟩ ⟨Nat.zero_le _, Nat.zero_le _⟩ hK hE hA hP hD hS ⟨⟨rfl, by decide⟩, ⟨rfl, by decide, by decide⟩, rfl, by decide⟩ rfl hl.1 rfl (Nat.le_of_ble_eq_true rfl) dX8_trades_14 (fun H locs hP hD hS => ?_)
    have hP : va_P D vwCl [(om, .inr (8, [.ref (mw), .int (nI (ud)), .ref (mt), .int (nI (td)), .int (nI (fy)), .int (nI (su)), .ref (mm), .ref (ml), .ref (mi), .ref (mh), .int (nI (cu)), .int (nI (sa)), .int (nI (nb)), .ref (mr), .int (nI (tn))])), (mw, .inl (cA 0, 1595, arN Z))] _ := hP
    have hD : va_D A [(om, .inr (8, [.ref (mw), .int (nI (ud)), .ref (mt), .int (nI (td)), .int (nI (fy)), .int (nI (su)), .ref (mm), .ref (ml), .ref (mi), .ref (mh), .int (nI (cu)), .int (nI (sa)), .int (nI (nb)), .ref (mr), .int (nI (tn))])), (mw, .inl (cA 0, 1595, arN Z))] := hD
    refine lv_if_eq (tgt := 30) hx hb dX8_trades_17 (by decide) (fun c3 => ?_) (fun c3 => ?_)
    · skip
      rw [bI_z] at c3
      refine lv_ldc (v := (-1000001)) hx hb hown (hts (.constant RX8 48 (-1000001)) (List.mem_of_getElem? (i := 2) rfl)) dX8_trades_30 ?_
      have ef4 : ([(om, .inr (8, [.ref (mw), .int (nI (ud)), .ref (mt), .int (nI (td)), .int (nI (fy)), .int (nI (su)), .ref (mm), .ref (ml), .ref (mi), .ref (mh), .int (nI (cu)), .int (nI (sa)), .int (nI (nb)), .ref (mr), .int (nI (tn))])), (mw, .inl (cA 0, 1595, arN Z))] : va_W) = [(om, .inr (8, [.ref (mw), .int (nI (ud)), .ref (mt), .int (nI (td)), .int (nI (fy)), .int (nI (su)), .ref (mm), .ref (ml), .ref (mi), .ref (mh), .int (nI (cu)), .int (nI (sa)), .int (nI (nb)), .ref (mr), .int (nI (tn))])), (mw, .inl (cA 0, 1595, arN (mx Z (SK (0, 0, 0, 0, 0, Z, SP (sg Z 0), SD (sg Z 0), SG (sg Z 0), SS (sg Z 0))))))] := by
        rw [show mx Z (SK (0, 0, 0, 0, 0, Z, SP (sg Z 0), SD (sg Z 0), SG (sg Z 0), SS (sg Z 0))) = Z from mx_of (fun j hj => rfl)]
      have hP : va_P D vwCl [(om, .inr (8, [.ref (mw), .int (nI (ud)), .ref (mt), .int (nI (td)), .int (nI (fy)), .int (nI (su)), .ref (mm), .ref (ml), .ref (mi), .ref (mh), .int (nI (cu)), .int (nI (sa)), .int (nI (nb)), .ref (mr), .int (nI (tn))])), (mw, .inl (cA 0, 1595, arN (mx Z (SK (0, 0, 0, 0, 0, Z, SP (sg Z 0), SD (sg Z 0), SG (sg Z 0), SS (sg Z 0))))))] _ := Eq.mp (congrArg (fun z9 => va_P D vwCl z9 _) ef4) hP
      have hD : va_D A [(om, .inr (8, [.ref (mw), .int (nI (ud)), .ref (mt), .int (nI (td)), .int (nI (fy)), .int (nI (su)), .ref (mm), .ref (ml), .ref (mi), .ref (mh), .int (nI (cu)), .int (nI (sa)), .int (nI (nb)), .ref (mr), .int (nI (tn))])), (mw, .inl (cA 0, 1595, arN (mx Z (SK (0, 0, 0, 0, 0, Z, SP (sg Z 0), SD (sg Z 0), SG (sg Z 0), SS (sg Z 0))))))] := Eq.mp (congrArg (fun z9 => va_D A z9) ef4) hD
      exact hend _ _ _ _ _ (0, 0, 0, 0, 0, Z, SP (sg Z 0), SD (sg Z 0), SG (sg Z 0), SS (sg Z 0)) hP hD hS (by unfold tradesM; rw [if_neg (by simp [c1, c3])]) dX8_trades_32
    · skip
      rw [bI_nz] at c3
      obtain ⟨n, e_n, a_n, l_n⟩ := inI_t (by decide) c3 (by decide)
      rw [e_n] at hl
      refine lv_iload_n hx hb dX8_trades_20 rfl (lv_at hl 3 rfl) ?_
      refine lv_i2l (v := (ph).toInt64) hx hb dX8_trades_21 (rfl) ?_
      refine lv_lconst (v := lN 0) hx hb dX8_trades_22 rfl ?_
      refine lv_lconst (v := lN 1) hx hb dX8_trades_23 rfl ?_
      refine cSi (n := 3) (As := [.long ((ph).toInt64), .long (lN (0)), .long (lN (1))]) (rest := []) (X := [(om, .inr (8, [.ref (mw), .int (nI (ud)), .ref (mt), .int (nI (td)), .int (nI (fy)), .int (nI (su)), .ref (mm), .ref (ml), .ref (mi), .ref (mh), .int (nI (cu)), .int (nI (sa)), .int (nI (nb)), .ref (mr), .int (nI (tn))])), (mw, .inl (cA 0, 1595, arN Z))]) (pl := []) (wc := ([] : va_W)) (wr := [(om, .inr (8, [.ref (mw), .int (nI (ud)), .ref (mt), .int (nI (td)), .int (nI (fy)), .int (nI (su)), .ref (mm), .ref (ml), .ref (mi), .ref (mh), .int (nI (cu)), .int (nI (sa)), .int (nI (nb)), .ref (mr), .int (nI (tn))])), (mw, .inl (cA 0, 1595, arN Z))]) (w1 := ([] : va_W)) (wn := [(om, .inr (8, [.ref (mw), .int (nI (ud)), .ref (mt), .int (nI (td)), .int (nI (fy)), .int (nI (su)), .ref (mm), .ref (ml), .ref (mi), .ref (mh), .int (nI (cu)), .int (nI (sa)), .int (nI (nb)), .ref (mr), .int (nI (tn))])), (mw, .inl (cA 0, 1595, arN Z))]) (isC := []) (isR := [0, 1]) (isN := [0, 1]) ⟨hx, hb, hml, hown, hts⟩ (c_X8_in_I l D cA tt ph 0 1 (by omega) (by omega) _) gX8_trades_X8_in rfl (by decide +kernel) ⟨rfl, rfl⟩ ⟨Nat.le_of_ble_eq_true rfl, Nat.le_of_ble_eq_true rfl⟩ ⟨Nat.zero_le _, Nat.zero_le _⟩ hK hE hA hP hD hS ⟨⟨rfl, by decide⟩, ⟨rfl, by decide, by decide⟩, rfl, by decide⟩ rfl hl.1 rfl (Nat.le_of_ble_eq_true rfl) dX8_trades_24 (fun H locs hP hD hS => ?_)
      have hP : va_P D vwCl [(om, .inr (8, [.ref (mw), .int (nI (ud)), .ref (mt), .int (nI (td)), .int (nI (fy)), .int (nI (su)), .ref (mm), .ref (ml), .ref (mi), .ref (mh), .int (nI (cu)), .int (nI (sa)), .int (nI (nb)), .ref (mr), .int (nI (tn))])), (mw, .inl (cA 0, 1595, arN Z))] _ := hP
      have hD : va_D A [(om, .inr (8, [.ref (mw), .int (nI (ud)), .ref (mt), .int (nI (td)), .int (nI (fy)), .int (nI (su)), .ref (mm), .ref (ml), .ref (mi), .ref (mh), .int (nI (cu)), .int (nI (sa)), .int (nI (nb)), .ref (mr), .int (nI (tn))])), (mw, .inl (cA 0, 1595, arN Z))] := hD
      refine lv_if_ne (tgt := 33) hx hb dX8_trades_27 (by decide) (fun c5 => ?_) (fun c5 => ?_)
      · skip
        rw [bI_nz] at c5
        obtain ⟨h, e_h, a_h, l_h⟩ := inI_t (by decide) c5 (by decide)
        rw [e_h] at hl
        refine lv_ldc (v := (-1000000)) hx hb hown (hts (.constant RX8 168 (-1000000)) (List.mem_of_getElem? (i := 3) rfl)) dX8_trades_33 ?_
        refine lv_istore (lv' := [(4, .int ((-1000000))), (0, .ref (om)), (1, .int (nI (k))), (2, .int (nI (n))), (3, .int (nI (h)))]) hx hb dX8_trades_35 hl (by decide) rfl (fun ls hl => ?_)
        refine lv_iconst (v := (-1)) hx hb dX8_trades_37 (by decide) ?_
        refine lv_istore (lv' := [(5, .int ((-1))), (4, .int ((-1000000))), (0, .ref (om)), (1, .int (nI (k))), (2, .int (nI (n))), (3, .int (nI (h)))]) hx hb dX8_trades_38 hl (by decide) rfl (fun ls hl => ?_)
        refine lv_iconst (v := nI (0)) hx hb dX8_trades_40 (by decide) ?_
        refine lv_istore (lv' := [(6, .int (nI (0))), (5, .int ((-1))), (4, .int ((-1000000))), (0, .ref (om)), (1, .int (nI (k))), (2, .int (nI (n))), (3, .int (nI (h)))]) hx hb dX8_trades_41 hl (by decide) rfl (fun ls hl => ?_)
        have loop43 : ∀ (N43 : Nat) (i : Nat) (b1 : Int32) (m1 : Int32) (V : Nat → Nat), (i ≤ Z 0) → (mtO Z k n i = (b1, m1)) → (off5 V Z) → (Z 0 - i) < N43 → ∀ (H : Heap) (locs : List Loc) (ls : Array Slot), va_P D vwCl [(om, .inr (8, [.ref (mw), .int (nI (ud)), .ref (mt), .int (nI (td)), .int (nI (fy)), .int (nI (su)), .ref (mm), .ref (ml), .ref (mi), .ref (mh), .int (nI (cu)), .int (nI (sa)), .int (nI (nb)), .ref (mr), .int (nI (tn))])), (mw, .inl (cA 0, 1595, arN V))] H → va_D A [(om, .inr (8, [.ref (mw), .int (nI (ud)), .ref (mt), .int (nI (td)), .int (nI (fy)), .int (nI (su)), .ref (mm), .ref (ml), .ref (mi), .ref (mh), .int (nI (cu)), .int (nI (sa)), .int (nI (nb)), .ref (mr), .int (nI (tn))])), (mw, .inl (cA 0, 1595, arN V))] → va_S A s.heap H locs → lv_has ls 9 [(6, .int (nI (i))), (5, .int (m1)), (4, .int (b1)), (0, .ref (om)), (1, .int (nI (k))), (2, .int (nI (n))), (3, .int (nI (h)))] → W p l e ({ frames := 5, cells := 0, slots := 0, locals := 112 } : Room) s m ([.ref (om), .int (pk), .int (pn), .int (ph)] : List Value).toArray below meth c H locs 0 0 Q (F0 m 43 ls []) := by
          intro N43
          induction N43 with
          | zero => intro i b1 m1 V iv43_0 iv43_1 iv43_2 hN; exact absurd hN (Nat.not_lt_zero _)
          | succ N43 ih43 =>
            intro i b1 m1 V iv43_0 iv43_1 iv43_2 hN43 H locs ls hP hD hS hl
            have hV : off5 V Z := iv43_2
            refine lv_iload hx hb dX8_trades_43 (lv_at hl 0 rfl) ?_
            refine lv_aload_n hx hb dX8_trades_45 rfl (lv_at hl 3 rfl) ?_
            refine va_get (v := .ref (mw)) (Ts := wsX80) (C := RX8) (T := TX8) (N := 15) hx hb hwsX80 (fun _ h => h) hown hK hP 0 rfl rfl 0 (by decide) (hts (.fieldLink RX8 7 "AdventStreetsModel" "w" "[I") (List.mem_of_getElem? (i := 4) rfl)) (fun _ h9 => h9) rfl dX8_trades_46 ?_
            refine lv_iconst (v := nI (0)) hx hb dX8_trades_49 (by decide) ?_
            refine r_ald (f := V) hx hb hK hP 1 rfl (i := 0) (by omega) (Nat.lt_of_lt_of_le (by omega : 1595 < 1073741824) (by decide)) dX8_trades_50 ?_
            refine vn_i (v := nI (Z 0)) (congrArg nI (hV 0 (by omega))) ?_
            refine lv_icmp_ge (tgt := 154) hx hb dX8_trades_51 (by decide) (fun c7 => ?_) (fun c7 => ?_)
            · skip
              rw [nI_leI (by omega) (by omega)] at c7
              refine lv_iload_n hx hb dX8_trades_154 rfl (lv_at hl 6 rfl) ?_
              refine lv_if_ne (tgt := 163) hx hb dX8_trades_155 (by decide) (fun c8 => ?_) (fun c8 => ?_)
              · skip
                rw [n_z (by omega)] at c8
                refine lv_iload hx hb dX8_trades_163 (lv_at hl 1 rfl) ?_
                have ef9 : ([(om, .inr (8, [.ref (mw), .int (nI (ud)), .ref (mt), .int (nI (td)), .int (nI (fy)), .int (nI (su)), .ref (mm), .ref (ml), .ref (mi), .ref (mh), .int (nI (cu)), .int (nI (sa)), .int (nI (nb)), .ref (mr), .int (nI (tn))])), (mw, .inl (cA 0, 1595, arN V))] : va_W) = [(om, .inr (8, [.ref (mw), .int (nI (ud)), .ref (mt), .int (nI (td)), .int (nI (fy)), .int (nI (su)), .ref (mm), .ref (ml), .ref (mi), .ref (mh), .int (nI (cu)), .int (nI (sa)), .int (nI (nb)), .ref (mr), .int (nI (tn))])), (mw, .inl (cA 0, 1595, arN (mx Z (SK (0, 0, 0, 0, 0, V, SP (sg Z 0), SD (sg Z 0), SG (sg Z 0), SS (sg Z 0))))))] := by
                  rw [show mx Z (SK (0, 0, 0, 0, 0, V, SP (sg Z 0), SD (sg Z 0), SG (sg Z 0), SS (sg Z 0))) = V from mx_of hV]
                have hP : va_P D vwCl [(om, .inr (8, [.ref (mw), .int (nI (ud)), .ref (mt), .int (nI (td)), .int (nI (fy)), .int (nI (su)), .ref (mm), .ref (ml), .ref (mi), .ref (mh), .int (nI (cu)), .int (nI (sa)), .int (nI (nb)), .ref (mr), .int (nI (tn))])), (mw, .inl (cA 0, 1595, arN (mx Z (SK (0, 0, 0, 0, 0, V, SP (sg Z 0), SD (sg Z 0), SG (sg Z 0), SS (sg Z 0))))))] _ := Eq.mp (congrArg (fun z9 => va_P D vwCl z9 _) ef9) hP
                have hD : va_D A [(om, .inr (8, [.ref (mw), .int (nI (ud)), .ref (mt), .int (nI (td)), .int (nI (fy)), .int (nI (su)), .ref (mm), .ref (ml), .ref (mi), .ref (mh), .int (nI (cu)), .int (nI (sa)), .int (nI (nb)), .ref (mr), .int (nI (tn))])), (mw, .inl (cA 0, 1595, arN (mx Z (SK (0, 0, 0, 0, 0, V, SP (sg Z 0), SD (sg Z 0), SG (sg Z 0), SS (sg Z 0))))))] := Eq.mp (congrArg (fun z9 => va_D A z9) ef9) hD
                exact hend _ _ _ _ _ (0, 0, 0, 0, 0, V, SP (sg Z 0), SD (sg Z 0), SG (sg Z 0), SS (sg Z 0)) hP hD hS (by unfold tradesM; rw [if_pos (by simp [c1, c3, c5]), e_k, e_n, e_h, nI_clamp (n := k) (by omega), nI_clamp (n := n) (by omega), show Z 0 = i by omega, iv43_1, if_neg (fun q => c8 ((n_z (a := h) (by omega)).mp q))]) dX8_trades_165
              · skip
                rw [n_z (by omega)] at c8
                refine lv_iload hx hb dX8_trades_158 (lv_at hl 2 rfl) ?_
                refine lv_goto (tgt := 165) hx hb dX8_trades_160 (by decide) ?_
                have ef10 : ([(om, .inr (8, [.ref (mw), .int (nI (ud)), .ref (mt), .int (nI (td)), .int (nI (fy)), .int (nI (su)), .ref (mm), .ref (ml), .ref (mi), .ref (mh), .int (nI (cu)), .int (nI (sa)), .int (nI (nb)), .ref (mr), .int (nI (tn))])), (mw, .inl (cA 0, 1595, arN V))] : va_W) = [(om, .inr (8, [.ref (mw), .int (nI (ud)), .ref (mt), .int (nI (td)), .int (nI (fy)), .int (nI (su)), .ref (mm), .ref (ml), .ref (mi), .ref (mh), .int (nI (cu)), .int (nI (sa)), .int (nI (nb)), .ref (mr), .int (nI (tn))])), (mw, .inl (cA 0, 1595, arN (mx Z (SK (0, 0, 0, 0, 0, V, SP (sg Z 0), SD (sg Z 0), SG (sg Z 0), SS (sg Z 0))))))] := by
                  rw [show mx Z (SK (0, 0, 0, 0, 0, V, SP (sg Z 0), SD (sg Z 0), SG (sg Z 0), SS (sg Z 0))) = V from mx_of hV]
                have hP : va_P D vwCl [(om, .inr (8, [.ref (mw), .int (nI (ud)), .ref (mt), .int (nI (td)), .int (nI (fy)), .int (nI (su)), .ref (mm), .ref (ml), .ref (mi), .ref (mh), .int (nI (cu)), .int (nI (sa)), .int (nI (nb)), .ref (mr), .int (nI (tn))])), (mw, .inl (cA 0, 1595, arN (mx Z (SK (0, 0, 0, 0, 0, V, SP (sg Z 0), SD (sg Z 0), SG (sg Z 0), SS (sg Z 0))))))] _ := Eq.mp (congrArg (fun z9 => va_P D vwCl z9 _) ef10) hP
                have hD : va_D A [(om, .inr (8, [.ref (mw), .int (nI (ud)), .ref (mt), .int (nI (td)), .int (nI (fy)), .int (nI (su)), .ref (mm), .ref (ml), .ref (mi), .ref (mh), .int (nI (cu)), .int (nI (sa)), .int (nI (nb)), .ref (mr), .int (nI (tn))])), (mw, .inl (cA 0, 1595, arN (mx Z (SK (0, 0, 0, 0, 0, V, SP (sg Z 0), SD (sg Z 0), SG (sg Z 0), SS (sg Z 0))))))] := Eq.mp (congrArg (fun z9 => va_D A z9) ef10) hD
                exact hend _ _ _ _ _ (0, 0, 0, 0, 0, V, SP (sg Z 0), SD (sg Z 0), SG (sg Z 0), SS (sg Z 0)) hP hD hS (by unfold tradesM; rw [if_pos (by simp [c1, c3, c5]), e_k, e_n, e_h, nI_clamp (n := k) (by omega), nI_clamp (n := n) (by omega), show Z 0 = i by omega, iv43_1, if_pos ((n_z (a := h) (by omega)).mpr c8)]) dX8_trades_165
            · skip
              rw [nI_leI (by omega) (by omega)] at c7
              refine lv_iload hx hb dX8_trades_54 (lv_at hl 0 rfl) ?_
              refine lv_iconst (v := nI (1)) hx hb dX8_trades_56 (by decide) ?_
              refine lv_iadd hx hb dX8_trades_57 ?_
              refine vn_i (v := nI (i + 1)) (nI_add _ _) ?_
              refine lv_istore (lv' := [(7, .int (nI (i + 1))), (6, .int (nI (i))), (5, .int (m1)), (4, .int (b1)), (0, .ref (om)), (1, .int (nI (k))), (2, .int (nI (n))), (3, .int (nI (h)))]) hx hb dX8_trades_58 hl (by decide) rfl (fun ls hl => ?_)
              have loop60 : ∀ (N60 : Nat) (z : Nat) (b2 : Int32) (m2 : Int32) (V : Nat → Nat), (i + 1 + z ≤ Z 0) → (mtI Z k n i (b1, m1) z = (b2, m2)) → (off5 V Z) → (Z 0 - (i + 1 + z)) < N60 → ∀ (H : Heap) (locs : List Loc) (ls : Array Slot), va_P D vwCl [(om, .inr (8, [.ref (mw), .int (nI (ud)), .ref (mt), .int (nI (td)), .int (nI (fy)), .int (nI (su)), .ref (mm), .ref (ml), .ref (mi), .ref (mh), .int (nI (cu)), .int (nI (sa)), .int (nI (nb)), .ref (mr), .int (nI (tn))])), (mw, .inl (cA 0, 1595, arN V))] H → va_D A [(om, .inr (8, [.ref (mw), .int (nI (ud)), .ref (mt), .int (nI (td)), .int (nI (fy)), .int (nI (su)), .ref (mm), .ref (ml), .ref (mi), .ref (mh), .int (nI (cu)), .int (nI (sa)), .int (nI (nb)), .ref (mr), .int (nI (tn))])), (mw, .inl (cA 0, 1595, arN V))] → va_S A s.heap H locs → lv_has ls 9 [(7, .int (nI (i + 1 + z))), (6, .int (nI (i))), (5, .int (m2)), (4, .int (b2)), (0, .ref (om)), (1, .int (nI (k))), (2, .int (nI (n))), (3, .int (nI (h)))] → W p l e ({ frames := 5, cells := 0, slots := 0, locals := 112 } : Room) s m ([.ref (om), .int (pk), .int (pn), .int (ph)] : List Value).toArray below meth c H locs 0 0 Q (F0 m 60 ls []) := by
                intro N60
                induction N60 with
                | zero => intro z b2 m2 V iv60_0 iv60_1 iv60_2 hN; exact absurd hN (Nat.not_lt_zero _)
                | succ N60 ih60 =>
                  intro z b2 m2 V iv60_0 iv60_1 iv60_2 hN60 H locs ls hP hD hS hl
                  have hV : off5 V Z := iv60_2
                  obtain ⟨hy1, hy2, hy3, hy4⟩ := try_ok (off_wf hV hg)
                  refine lv_iload hx hb dX8_trades_60 (lv_at hl 0 rfl) ?_
                  refine lv_aload_n hx hb dX8_trades_62 rfl (lv_at hl 4 rfl) ?_
                  refine va_get (v := .ref (mw)) (Ts := wsX80) (C := RX8) (T := TX8) (N := 15) hx hb hwsX80 (fun _ h => h) hown hK hP 0 rfl rfl 0 (by decide) (hts (.fieldLink RX8 7 "AdventStreetsModel" "w" "[I") (List.mem_of_getElem? (i := 4) rfl)) (fun _ h9 => h9) rfl dX8_trades_63 ?_
                  refine lv_iconst (v := nI (0)) hx hb dX8_trades_66 (by decide) ?_
                  refine r_ald (f := V) hx hb hK hP 1 rfl (i := 0) (by omega) (Nat.lt_of_lt_of_le (by omega : 1595 < 1073741824) (by decide)) dX8_trades_67 ?_
                  refine vn_i (v := nI (Z 0)) (congrArg nI (hV 0 (by omega))) ?_
                  refine lv_icmp_ge (tgt := 148) hx hb dX8_trades_68 (by decide) (fun c12 => ?_) (fun c12 => ?_)
                  · skip
                    rw [nI_leI (by omega) (by omega)] at c12
                    refine lv_iinc (v := nI (i + 1)) (lv' := [(6, .int (nI (i + 1))), (7, .int (nI (i + 1 + z))), (5, .int (m2)), (4, .int (b2)), (0, .ref (om)), (1, .int (nI (k))), (2, .int (nI (n))), (3, .int (nI (h)))]) hx hb dX8_trades_148 hl (k := 1) rfl (nI_add _ _) (by decide) rfl (fun ls hl => ?_)
                    refine lv_goto (tgt := 43) hx hb dX8_trades_151 (by decide) ?_
                    have hl9 := lv_sub (l' := [(6, .int (nI (i + 1))), (5, .int (m2)), (4, .int (b2)), (0, .ref (om)), (1, .int (nI (k))), (2, .int (nI (n))), (3, .int (nI (h)))]) hl [0, 2, 3, 4, 5, 6, 7] rfl
                    exact ih43 (i + 1) b2 m2 V (by omega) (by rw [mtO, iv43_1, show Z 0 - (i + 1) = z by omega]; exact iv60_1) (hV) (by omega) _ _ _ hP hD hS hl9
                  · skip
                    rw [nI_leI (by omega) (by omega)] at c12
                    refine lv_aload_n hx hb dX8_trades_71 rfl (lv_at hl 4 rfl) ?_
                    refine cVv (n := 0) (As := []) (rest := []) (C := RX8) (ci := 8) (q0 := 0) (X := [(om, .inr (8, [.ref (mw), .int (nI (ud)), .ref (mt), .int (nI (td)), .int (nI (fy)), .int (nI (su)), .ref (mm), .ref (ml), .ref (mi), .ref (mh), .int (nI (cu)), .int (nI (sa)), .int (nI (nb)), .ref (mr), .int (nI (tn))])), (mw, .inl (cA 0, 1595, arN V))]) (pl := []) (wc := [(om, .inr (8, [.ref (mw), .int (nI (ud)), .ref (mt), .int (nI (td)), .int (nI (fy)), .int (nI (su)), .ref (mm), .ref (ml), .ref (mi), .ref (mh), .int (nI (cu)), .int (nI (sa)), .int (nI (nb)), .ref (mr), .int (nI (tn))])), (mw, .inl (cA 0, 1595, arN V))]) (wr := ([] : va_W)) (w1 := [(om, .inr (8, [.ref (mw), .int (nI (ud)), .ref (mt), .int (nI (td)), .int (nI (fy)), .int (nI (su)), .ref (mm), .ref (ml), .ref (mi), .ref (mh), .int (nI (cu)), .int (nI (sa)), .int (nI (nb)), .ref (mr), .int (nI (tn))])), (mw, .inl (cA 0, 1595, arN (cpW V 0 55)))]) (wn := [(om, .inr (8, [.ref (mw), .int (nI (ud)), .ref (mt), .int (nI (td)), .int (nI (fy)), .int (nI (su)), .ref (mm), .ref (ml), .ref (mi), .ref (mh), .int (nI (cu)), .int (nI (sa)), .int (nI (nb)), .ref (mr), .int (nI (tn))])), (mw, .inl (cA 0, 1595, arN (cpW V 0 55)))]) (isC := [0, 1]) (isR := []) (isN := [0, 1]) ⟨hx, hb, hml, hown, hts⟩ (c_X8_tries l D cA tt om mw mt mm ml mi mh mr ud td fy su cu sa nb tn V  _) gX8_trades_X8_tries rfl (by decide +kernel) rfl rfl ⟨rfl, rfl⟩ ⟨Nat.le_of_ble_eq_true rfl, Nat.le_of_ble_eq_true rfl⟩ ⟨Nat.zero_le _, Nat.zero_le _⟩ hK hE hA hP hD hS ⟨⟨rfl, by decide⟩, ⟨rfl, by decide, by decide⟩, rfl, by decide⟩ rfl hl.1 rfl (Nat.le_of_ble_eq_true rfl) dX8_trades_72 (fun H locs hP hD hS => ?_)
                    have hP : va_P D vwCl [(om, .inr (8, [.ref (mw), .int (nI (ud)), .ref (mt), .int (nI (td)), .int (nI (fy)), .int (nI (su)), .ref (mm), .ref (ml), .ref (mi), .ref (mh), .int (nI (cu)), .int (nI (sa)), .int (nI (nb)), .ref (mr), .int (nI (tn))])), (mw, .inl (cA 0, 1595, arN (cpW V 0 55)))] _ := hP
                    have hD : va_D A [(om, .inr (8, [.ref (mw), .int (nI (ud)), .ref (mt), .int (nI (td)), .int (nI (fy)), .int (nI (su)), .ref (mm), .ref (ml), .ref (mi), .ref (mh), .int (nI (cu)), .int (nI (sa)), .int (nI (nb)), .ref (mr), .int (nI (tn))])), (mw, .inl (cA 0, 1595, arN (cpW V 0 55)))] := hD
                    refine lv_aload_n hx hb dX8_trades_75 rfl (lv_at hl 4 rfl) ?_
                    refine lv_bipush (v := nI (55)) hx hb dX8_trades_76 (by decide) ?_
                    refine lv_iload hx hb dX8_trades_78 (lv_at hl 1 rfl) ?_
                    refine lv_iload hx hb dX8_trades_80 (lv_at hl 0 rfl) ?_
                    refine cVv (n := 3) (As := [.int (nI (55)), .int (nI (i)), .int (nI (i + 1 + z))]) (rest := []) (C := RX8) (ci := 8) (q0 := 0) (X := [(om, .inr (8, [.ref (mw), .int (nI (ud)), .ref (mt), .int (nI (td)), .int (nI (fy)), .int (nI (su)), .ref (mm), .ref (ml), .ref (mi), .ref (mh), .int (nI (cu)), .int (nI (sa)), .int (nI (nb)), .ref (mr), .int (nI (tn))])), (mw, .inl (cA 0, 1595, arN (cpW V 0 55)))]) (pl := []) (wc := [(om, .inr (8, [.ref (mw), .int (nI (ud)), .ref (mt), .int (nI (td)), .int (nI (fy)), .int (nI (su)), .ref (mm), .ref (ml), .ref (mi), .ref (mh), .int (nI (cu)), .int (nI (sa)), .int (nI (nb)), .ref (mr), .int (nI (tn))])), (mw, .inl (cA 0, 1595, arN (cpW V 0 55)))]) (wr := ([] : va_W)) (w1 := [(om, .inr (8, [.ref (mw), .int (nI (ud)), .ref (mt), .int (nI (td)), .int (nI (fy)), .int (nI (su)), .ref (mm), .ref (ml), .ref (mi), .ref (mh), .int (nI (cu)), .int (nI (sa)), .int (nI (nb)), .ref (mr), .int (nI (tn))])), (mw, .inl (cA 0, 1595, arN (swW (cpW V 0 55) 55 i (i + 1 + z))))]) (wn := [(om, .inr (8, [.ref (mw), .int (nI (ud)), .ref (mt), .int (nI (td)), .int (nI (fy)), .int (nI (su)), .ref (mm), .ref (ml), .ref (mi), .ref (mh), .int (nI (cu)), .int (nI (sa)), .int (nI (nb)), .ref (mr), .int (nI (tn))])), (mw, .inl (cA 0, 1595, arN (swW (cpW V 0 55) 55 i (i + 1 + z))))]) (isC := [0, 1]) (isR := []) (isN := [0, 1]) ⟨hx, hb, hml, hown, hts⟩ (c_X8_swaps l D cA tt om mw mt mm ml mi mh mr ud td fy su cu sa nb tn (cpW V 0 55) 55 i (i + 1 + z) (by decide) (by omega) (by omega) _) gX8_trades_X8_swaps rfl (by decide +kernel) rfl rfl ⟨rfl, rfl⟩ ⟨Nat.le_of_ble_eq_true rfl, Nat.le_of_ble_eq_true rfl⟩ ⟨Nat.zero_le _, Nat.zero_le _⟩ hK hE hA hP hD hS ⟨⟨rfl, by decide⟩, ⟨rfl, by decide, by decide⟩, rfl, by decide⟩ rfl hl.1 rfl (Nat.le_of_ble_eq_true rfl) dX8_trades_82 (fun H locs hP hD hS => ?_)
                    have hP : va_P D vwCl [(om, .inr (8, [.ref (mw), .int (nI (ud)), .ref (mt), .int (nI (td)), .int (nI (fy)), .int (nI (su)), .ref (mm), .ref (ml), .ref (mi), .ref (mh), .int (nI (cu)), .int (nI (sa)), .int (nI (nb)), .ref (mr), .int (nI (tn))])), (mw, .inl (cA 0, 1595, arN (swW (cpW V 0 55) 55 i (i + 1 + z))))] _ := hP
                    have hD : va_D A [(om, .inr (8, [.ref (mw), .int (nI (ud)), .ref (mt), .int (nI (td)), .int (nI (fy)), .int (nI (su)), .ref (mm), .ref (ml), .ref (mi), .ref (mh), .int (nI (cu)), .int (nI (sa)), .int (nI (nb)), .ref (mr), .int (nI (tn))])), (mw, .inl (cA 0, 1595, arN (swW (cpW V 0 55) 55 i (i + 1 + z))))] := hD
                    have hsw := sw_wf (i := i) (j := i + 1 + z) hy1 (by omega) (by omega)
                    refine lv_aload_n hx hb dX8_trades_85 rfl (lv_at hl 4 rfl) ?_
                    refine lv_iload_n hx hb dX8_trades_86 rfl (lv_at hl 6 rfl) ?_
                    refine cVv (n := 1) (As := [.int (nI (n))]) (rest := []) (C := RX8) (ci := 8) (q0 := 0) (X := [(om, .inr (8, [.ref (mw), .int (nI (ud)), .ref (mt), .int (nI (td)), .int (nI (fy)), .int (nI (su)), .ref (mm), .ref (ml), .ref (mi), .ref (mh), .int (nI (cu)), .int (nI (sa)), .int (nI (nb)), .ref (mr), .int (nI (tn))])), (mw, .inl (cA 0, 1595, arN (swW (cpW V 0 55) 55 i (i + 1 + z))))]) (pl := []) (wc := [(om, .inr (8, [.ref (mw), .int (nI (ud)), .ref (mt), .int (nI (td)), .int (nI (fy)), .int (nI (su)), .ref (mm), .ref (ml), .ref (mi), .ref (mh), .int (nI (cu)), .int (nI (sa)), .int (nI (nb)), .ref (mr), .int (nI (tn))])), (mw, .inl (cA 0, 1595, arN (swW (cpW V 0 55) 55 i (i + 1 + z))))]) (wr := ([] : va_W)) (w1 := [(om, .inr (8, [.ref (mw), .int (nI (ud)), .ref (mt), .int (nI (td)), .int (nI (fy)), .int (nI (su)), .ref (mm), .ref (ml), .ref (mi), .ref (mh), .int (nI (cu)), .int (nI (sa)), .int (nI (nb)), .ref (mr), .int (nI (tn))])), (mw, .inl (cA 0, 1595, arN (goW (swW (cpW V 0 55) 55 i (i + 1 + z)) n)))]) (wn := [(om, .inr (8, [.ref (mw), .int (nI (ud)), .ref (mt), .int (nI (td)), .int (nI (fy)), .int (nI (su)), .ref (mm), .ref (ml), .ref (mi), .ref (mh), .int (nI (cu)), .int (nI (sa)), .int (nI (nb)), .ref (mr), .int (nI (tn))])), (mw, .inl (cA 0, 1595, arN (goW (swW (cpW V 0 55) 55 i (i + 1 + z)) n)))]) (isC := [0, 1]) (isR := []) (isN := [0, 1]) ⟨hx, hb, hml, hown, hts⟩ (c_X8_goesOn l D cA tt om mw mt mm ml mi mh mr ud td fy su cu sa nb tn (swW (cpW V 0 55) 55 i (i + 1 + z)) n (hsw) (by show 0 < swW (cpW V 0 55) 55 i (i + 1 + z) 56; rw [sw_o (by omega) (by omega) (by omega), hy3, hV 1 (by omega)]; exact he (by omega)) (by show swW (cpW V 0 55) 55 i (i + 1 + z) 58 + n < _; rw [sw_o (by omega) (by omega) (by omega), hy4, hV 3 (by omega)]; omega) (by omega) _) gX8_trades_X8_goesOn rfl (by decide +kernel) rfl rfl ⟨rfl, rfl⟩ ⟨Nat.le_of_ble_eq_true rfl, Nat.le_of_ble_eq_true rfl⟩ ⟨Nat.zero_le _, Nat.zero_le _⟩ hK hE hA hP hD hS ⟨⟨rfl, by decide⟩, ⟨rfl, by decide, by decide⟩, rfl, by decide⟩ rfl hl.1 rfl (Nat.le_of_ble_eq_true rfl) dX8_trades_87 (fun H locs hP hD hS => ?_)
                    have hP : va_P D vwCl [(om, .inr (8, [.ref (mw), .int (nI (ud)), .ref (mt), .int (nI (td)), .int (nI (fy)), .int (nI (su)), .ref (mm), .ref (ml), .ref (mi), .ref (mh), .int (nI (cu)), .int (nI (sa)), .int (nI (nb)), .ref (mr), .int (nI (tn))])), (mw, .inl (cA 0, 1595, arN (goW (swW (cpW V 0 55) 55 i (i + 1 + z)) n)))] _ := hP
                    have hD : va_D A [(om, .inr (8, [.ref (mw), .int (nI (ud)), .ref (mt), .int (nI (td)), .int (nI (fy)), .int (nI (su)), .ref (mm), .ref (ml), .ref (mi), .ref (mh), .int (nI (cu)), .int (nI (sa)), .int (nI (nb)), .ref (mr), .int (nI (tn))])), (mw, .inl (cA 0, 1595, arN (goW (swW (cpW V 0 55) 55 i (i + 1 + z)) n)))] := hD
                    obtain ⟨w1, w2, w3, w4⟩ := goW_ok hsw n
                    obtain ⟨_, _, _, _, w5⟩ := wfW w1
                    have w7 : goW (swW (cpW V 0 55) 55 i (i + 1 + z)) n (100 + k) < 1024 := (w5 k (by omega)).2.2.2.2
                    refine lv_aload_n hx hb dX8_trades_90 rfl (lv_at hl 4 rfl) ?_
                    refine va_get (v := .ref (mw)) (Ts := wsX80) (C := RX8) (T := TX8) (N := 15) hx hb hwsX80 (fun _ h => h) hown hK hP 0 rfl rfl 0 (by decide) (hts (.fieldLink RX8 7 "AdventStreetsModel" "w" "[I") (List.mem_of_getElem? (i := 4) rfl)) (fun _ h9 => h9) rfl dX8_trades_91 ?_
                    refine lv_bipush (v := nI (100)) hx hb dX8_trades_94 (by decide) ?_
                    refine lv_iload_n hx hb dX8_trades_96 rfl (lv_at hl 5 rfl) ?_
                    refine lv_iadd hx hb dX8_trades_97 ?_
                    refine vn_i (v := nI (100 + k)) (nI_add _ _) ?_
                    refine r_ald (f := (goW (swW (cpW V 0 55) 55 i (i + 1 + z)) n)) hx hb hK hP 1 rfl (i := 100 + k) (by omega) (Nat.lt_of_lt_of_le (by omega : 1595 < 1073741824) (by decide)) dX8_trades_98 ?_
                    refine cSi (n := 1) (As := [.int (nI ((goW (swW (cpW V 0 55) 55 i (i + 1 + z)) n) (100 + k)))]) (rest := []) (X := [(om, .inr (8, [.ref (mw), .int (nI (ud)), .ref (mt), .int (nI (td)), .int (nI (fy)), .int (nI (su)), .ref (mm), .ref (ml), .ref (mi), .ref (mh), .int (nI (cu)), .int (nI (sa)), .int (nI (nb)), .ref (mr), .int (nI (tn))])), (mw, .inl (cA 0, 1595, arN (goW (swW (cpW V 0 55) 55 i (i + 1 + z)) n)))]) (pl := []) (wc := ([] : va_W)) (wr := [(om, .inr (8, [.ref (mw), .int (nI (ud)), .ref (mt), .int (nI (td)), .int (nI (fy)), .int (nI (su)), .ref (mm), .ref (ml), .ref (mi), .ref (mh), .int (nI (cu)), .int (nI (sa)), .int (nI (nb)), .ref (mr), .int (nI (tn))])), (mw, .inl (cA 0, 1595, arN (goW (swW (cpW V 0 55) 55 i (i + 1 + z)) n)))]) (w1 := ([] : va_W)) (wn := [(om, .inr (8, [.ref (mw), .int (nI (ud)), .ref (mt), .int (nI (td)), .int (nI (fy)), .int (nI (su)), .ref (mm), .ref (ml), .ref (mi), .ref (mh), .int (nI (cu)), .int (nI (sa)), .int (nI (nb)), .ref (mr), .int (nI (tn))])), (mw, .inl (cA 0, 1595, arN (goW (swW (cpW V 0 55) 55 i (i + 1 + z)) n)))]) (isC := []) (isR := [0, 1]) (isN := [0, 1]) ⟨hx, hb, hml, hown, hts⟩ (c_X8_ones l D cA tt ((goW (swW (cpW V 0 55) 55 i (i + 1 + z)) n) (100 + k)) (by omega) _) gX8_trades_X8_ones rfl (by decide +kernel) ⟨rfl, rfl⟩ ⟨Nat.le_of_ble_eq_true rfl, Nat.le_of_ble_eq_true rfl⟩ ⟨Nat.zero_le _, Nat.zero_le _⟩ hK hE hA hP hD hS ⟨⟨rfl, by decide⟩, ⟨rfl, by decide, by decide⟩, rfl, by decide⟩ rfl hl.1 rfl (Nat.le_of_ble_eq_true rfl) dX8_trades_99 (fun H locs hP hD hS => ?_)
                    have hP : va_P D vwCl [(om, .inr (8, [.ref (mw), .int (nI (ud)), .ref (mt), .int (nI (td)), .int (nI (fy)), .int (nI (su)), .ref (mm), .ref (ml), .ref (mi), .ref (mh), .int (nI (cu)), .int (nI (sa)), .int (nI (nb)), .ref (mr), .int (nI (tn))])), (mw, .inl (cA 0, 1595, arN (goW (swW (cpW V 0 55) 55 i (i + 1 + z)) n)))] _ := hP
                    have hD : va_D A [(om, .inr (8, [.ref (mw), .int (nI (ud)), .ref (mt), .int (nI (td)), .int (nI (fy)), .int (nI (su)), .ref (mm), .ref (ml), .ref (mi), .ref (mh), .int (nI (cu)), .int (nI (sa)), .int (nI (nb)), .ref (mr), .int (nI (tn))])), (mw, .inl (cA 0, 1595, arN (goW (swW (cpW V 0 55) 55 i (i + 1 + z)) n)))] := hD
                    refine lv_istore (lv' := [(8, .int (nI (onesN ((goW (swW (cpW V 0 55) 55 i (i + 1 + z)) n) (100 + k))))), (7, .int (nI (i + 1 + z))), (6, .int (nI (i))), (5, .int (m2)), (4, .int (b2)), (0, .ref (om)), (1, .int (nI (k))), (2, .int (nI (n))), (3, .int (nI (h)))]) hx hb dX8_trades_102 hl (by decide) rfl (fun ls hl => ?_)
                    refine lv_iload hx hb dX8_trades_104 (lv_at hl 0 rfl) ?_
                    refine lv_iload hx hb dX8_trades_106 (lv_at hl 3 rfl) ?_
                    refine lv_icmp_le (tgt := 122) hx hb dX8_trades_108 (by decide) (fun c13 => ?_) (fun c13 => ?_)
                    · skip
                      refine lv_iload hx hb dX8_trades_122 (lv_at hl 4 rfl) ?_
                      refine lv_istore (lv' := [(4, .int (b2)), (8, .int (nI (onesN ((goW (swW (cpW V 0 55) 55 i (i + 1 + z)) n) (100 + k))))), (7, .int (nI (i + 1 + z))), (6, .int (nI (i))), (5, .int (m2)), (0, .ref (om)), (1, .int (nI (k))), (2, .int (nI (n))), (3, .int (nI (h)))]) hx hb dX8_trades_124 hl (by decide) rfl (fun ls hl => ?_)
                      refine lv_iload hx hb dX8_trades_126 (lv_at hl 1 rfl) ?_
                      refine lv_iload hx hb dX8_trades_128 (lv_at hl 4 rfl) ?_
                      refine lv_icmp_le (tgt := 138) hx hb dX8_trades_130 (by decide) (fun c14 => ?_) (fun c14 => ?_)
                      · skip
                        refine lv_iload hx hb dX8_trades_138 (lv_at hl 4 rfl) ?_
                        refine lv_istore (lv' := [(5, .int (m2)), (4, .int (b2)), (8, .int (nI (onesN ((goW (swW (cpW V 0 55) 55 i (i + 1 + z)) n) (100 + k))))), (7, .int (nI (i + 1 + z))), (6, .int (nI (i))), (0, .ref (om)), (1, .int (nI (k))), (2, .int (nI (n))), (3, .int (nI (h)))]) hx hb dX8_trades_140 hl (by decide) rfl (fun ls hl => ?_)
                        refine lv_iinc (v := nI (i + 1 + z + 1)) (lv' := [(7, .int (nI (i + 1 + z + 1))), (5, .int (m2)), (4, .int (b2)), (8, .int (nI (onesN ((goW (swW (cpW V 0 55) 55 i (i + 1 + z)) n) (100 + k))))), (6, .int (nI (i))), (0, .ref (om)), (1, .int (nI (k))), (2, .int (nI (n))), (3, .int (nI (h)))]) hx hb dX8_trades_142 hl (k := 3) rfl (nI_add _ _) (by decide) rfl (fun ls hl => ?_)
                        refine lv_goto (tgt := 60) hx hb dX8_trades_145 (by decide) ?_
                        have hl9 := lv_sub (l' := [(7, .int (nI (i + 1 + z + 1))), (6, .int (nI (i))), (5, .int (m2)), (4, .int (b2)), (0, .ref (om)), (1, .int (nI (k))), (2, .int (nI (n))), (3, .int (nI (h)))]) hl [0, 4, 1, 2, 5, 6, 7, 8] rfl
                        have el15 : (.int (nI (i + 1 + z + 1)) : Value) = .int (nI (i + 1 + (z + 1))) := by
                          rfl
                        have hl9 : lv_has ls 9 [(7, .int (nI (i + 1 + (z + 1)))), (6, .int (nI (i))), (5, .int (m2)), (4, .int (b2)), (0, .ref (om)), (1, .int (nI (k))), (2, .int (nI (n))), (3, .int (nI (h)))] := Eq.mp (congrArg (fun z9 => lv_has ls 9 [(7, z9), (6, .int (nI (i))), (5, .int (m2)), (4, .int (b2)), (0, .ref (om)), (1, .int (nI (k))), (2, .int (nI (n))), (3, .int (nI (h)))]) el15) hl9
                        exact ih60 (z + 1) b2 m2 (goW (swW (cpW V 0 55) 55 i (i + 1 + z)) n) (by omega) (by rw [mtI, iv60_1]; unfold mtU mtV; rw [← cp5 hV, if_pos c14]) (off_go hsw (off_up (off_up (off_cp hV) (by omega)) (by omega)) _) (by omega) _ _ _ hP hD hS hl9
                      · skip
                        refine lv_iload hx hb dX8_trades_133 (lv_at hl 1 rfl) ?_
                        refine lv_goto (tgt := 140) hx hb dX8_trades_135 (by decide) ?_
                        refine lv_istore (lv' := [(5, .int (nI (onesN ((goW (swW (cpW V 0 55) 55 i (i + 1 + z)) n) (100 + k))))), (4, .int (b2)), (8, .int (nI (onesN ((goW (swW (cpW V 0 55) 55 i (i + 1 + z)) n) (100 + k))))), (7, .int (nI (i + 1 + z))), (6, .int (nI (i))), (0, .ref (om)), (1, .int (nI (k))), (2, .int (nI (n))), (3, .int (nI (h)))]) hx hb dX8_trades_140 hl (by decide) rfl (fun ls hl => ?_)
                        refine lv_iinc (v := nI (i + 1 + z + 1)) (lv' := [(7, .int (nI (i + 1 + z + 1))), (5, .int (nI (onesN ((goW (swW (cpW V 0 55) 55 i (i + 1 + z)) n) (100 + k))))), (4, .int (b2)), (8, .int (nI (onesN ((goW (swW (cpW V 0 55) 55 i (i + 1 + z)) n) (100 + k))))), (6, .int (nI (i))), (0, .ref (om)), (1, .int (nI (k))), (2, .int (nI (n))), (3, .int (nI (h)))]) hx hb dX8_trades_142 hl (k := 3) rfl (nI_add _ _) (by decide) rfl (fun ls hl => ?_)
                        refine lv_goto (tgt := 60) hx hb dX8_trades_145 (by decide) ?_
                        have hl9 := lv_sub (l' := [(7, .int (nI (i + 1 + z + 1))), (6, .int (nI (i))), (5, .int (nI (onesN ((goW (swW (cpW V 0 55) 55 i (i + 1 + z)) n) (100 + k))))), (4, .int (b2)), (0, .ref (om)), (1, .int (nI (k))), (2, .int (nI (n))), (3, .int (nI (h)))]) hl [0, 4, 1, 2, 5, 6, 7, 8] rfl
                        have el16 : (.int (nI (i + 1 + z + 1)) : Value) = .int (nI (i + 1 + (z + 1))) := by
                          rfl
                        have hl9 : lv_has ls 9 [(7, .int (nI (i + 1 + (z + 1)))), (6, .int (nI (i))), (5, .int (nI (onesN ((goW (swW (cpW V 0 55) 55 i (i + 1 + z)) n) (100 + k))))), (4, .int (b2)), (0, .ref (om)), (1, .int (nI (k))), (2, .int (nI (n))), (3, .int (nI (h)))] := Eq.mp (congrArg (fun z9 => lv_has ls 9 [(7, z9), (6, .int (nI (i))), (5, .int (nI (onesN ((goW (swW (cpW V 0 55) 55 i (i + 1 + z)) n) (100 + k))))), (4, .int (b2)), (0, .ref (om)), (1, .int (nI (k))), (2, .int (nI (n))), (3, .int (nI (h)))]) el16) hl9
                        exact ih60 (z + 1) b2 (nI (onesN ((goW (swW (cpW V 0 55) 55 i (i + 1 + z)) n) (100 + k)))) (goW (swW (cpW V 0 55) 55 i (i + 1 + z)) n) (by omega) (by exact absurd c13 c14) (off_go hsw (off_up (off_up (off_cp hV) (by omega)) (by omega)) _) (by omega) _ _ _ hP hD hS hl9
                    · skip
                      refine lv_bipush (v := nI (10)) hx hb dX8_trades_111 (by decide) ?_
                      refine lv_iload hx hb dX8_trades_113 (lv_at hl 2 rfl) ?_
                      refine lv_imul hx hb dX8_trades_115 ?_
                      refine vn_i (v := nI (10 * i)) (pk_mul _ _) ?_
                      refine lv_iload hx hb dX8_trades_116 (lv_at hl 1 rfl) ?_
                      refine lv_iadd hx hb dX8_trades_118 ?_
                      refine vn_i (v := nI (10 * i + (i + 1 + z))) (nI_add _ _) ?_
                      refine lv_goto (tgt := 124) hx hb dX8_trades_119 (by decide) ?_
                      refine lv_istore (lv' := [(4, .int (nI (10 * i + (i + 1 + z)))), (8, .int (nI (onesN ((goW (swW (cpW V 0 55) 55 i (i + 1 + z)) n) (100 + k))))), (7, .int (nI (i + 1 + z))), (6, .int (nI (i))), (5, .int (m2)), (0, .ref (om)), (1, .int (nI (k))), (2, .int (nI (n))), (3, .int (nI (h)))]) hx hb dX8_trades_124 hl (by decide) rfl (fun ls hl => ?_)
                      refine lv_iload hx hb dX8_trades_126 (lv_at hl 1 rfl) ?_
                      refine lv_iload hx hb dX8_trades_128 (lv_at hl 4 rfl) ?_
                      refine lv_icmp_le (tgt := 138) hx hb dX8_trades_130 (by decide) (fun c17 => ?_) (fun c17 => ?_)
                      · skip
                        refine lv_iload hx hb dX8_trades_138 (lv_at hl 4 rfl) ?_
                        refine lv_istore (lv' := [(5, .int (m2)), (4, .int (nI (10 * i + (i + 1 + z)))), (8, .int (nI (onesN ((goW (swW (cpW V 0 55) 55 i (i + 1 + z)) n) (100 + k))))), (7, .int (nI (i + 1 + z))), (6, .int (nI (i))), (0, .ref (om)), (1, .int (nI (k))), (2, .int (nI (n))), (3, .int (nI (h)))]) hx hb dX8_trades_140 hl (by decide) rfl (fun ls hl => ?_)
                        refine lv_iinc (v := nI (i + 1 + z + 1)) (lv' := [(7, .int (nI (i + 1 + z + 1))), (5, .int (m2)), (4, .int (nI (10 * i + (i + 1 + z)))), (8, .int (nI (onesN ((goW (swW (cpW V 0 55) 55 i (i + 1 + z)) n) (100 + k))))), (6, .int (nI (i))), (0, .ref (om)), (1, .int (nI (k))), (2, .int (nI (n))), (3, .int (nI (h)))]) hx hb dX8_trades_142 hl (k := 3) rfl (nI_add _ _) (by decide) rfl (fun ls hl => ?_)
                        refine lv_goto (tgt := 60) hx hb dX8_trades_145 (by decide) ?_
                        have hl9 := lv_sub (l' := [(7, .int (nI (i + 1 + z + 1))), (6, .int (nI (i))), (5, .int (m2)), (4, .int (nI (10 * i + (i + 1 + z)))), (0, .ref (om)), (1, .int (nI (k))), (2, .int (nI (n))), (3, .int (nI (h)))]) hl [0, 4, 1, 2, 5, 6, 7, 8] rfl
                        have el18 : (.int (nI (i + 1 + z + 1)) : Value) = .int (nI (i + 1 + (z + 1))) := by
                          rfl
                        have hl9 : lv_has ls 9 [(7, .int (nI (i + 1 + (z + 1)))), (6, .int (nI (i))), (5, .int (m2)), (4, .int (nI (10 * i + (i + 1 + z)))), (0, .ref (om)), (1, .int (nI (k))), (2, .int (nI (n))), (3, .int (nI (h)))] := Eq.mp (congrArg (fun z9 => lv_has ls 9 [(7, z9), (6, .int (nI (i))), (5, .int (m2)), (4, .int (nI (10 * i + (i + 1 + z)))), (0, .ref (om)), (1, .int (nI (k))), (2, .int (nI (n))), (3, .int (nI (h)))]) el18) hl9
                        exact ih60 (z + 1) (nI (10 * i + (i + 1 + z))) m2 (goW (swW (cpW V 0 55) 55 i (i + 1 + z)) n) (by omega) (by exact absurd c17 c13) (off_go hsw (off_up (off_up (off_cp hV) (by omega)) (by omega)) _) (by omega) _ _ _ hP hD hS hl9
                      · skip
                        refine lv_iload hx hb dX8_trades_133 (lv_at hl 1 rfl) ?_
                        refine lv_goto (tgt := 140) hx hb dX8_trades_135 (by decide) ?_
                        refine lv_istore (lv' := [(5, .int (nI (onesN ((goW (swW (cpW V 0 55) 55 i (i + 1 + z)) n) (100 + k))))), (4, .int (nI (10 * i + (i + 1 + z)))), (8, .int (nI (onesN ((goW (swW (cpW V 0 55) 55 i (i + 1 + z)) n) (100 + k))))), (7, .int (nI (i + 1 + z))), (6, .int (nI (i))), (0, .ref (om)), (1, .int (nI (k))), (2, .int (nI (n))), (3, .int (nI (h)))]) hx hb dX8_trades_140 hl (by decide) rfl (fun ls hl => ?_)
                        refine lv_iinc (v := nI (i + 1 + z + 1)) (lv' := [(7, .int (nI (i + 1 + z + 1))), (5, .int (nI (onesN ((goW (swW (cpW V 0 55) 55 i (i + 1 + z)) n) (100 + k))))), (4, .int (nI (10 * i + (i + 1 + z)))), (8, .int (nI (onesN ((goW (swW (cpW V 0 55) 55 i (i + 1 + z)) n) (100 + k))))), (6, .int (nI (i))), (0, .ref (om)), (1, .int (nI (k))), (2, .int (nI (n))), (3, .int (nI (h)))]) hx hb dX8_trades_142 hl (k := 3) rfl (nI_add _ _) (by decide) rfl (fun ls hl => ?_)
                        refine lv_goto (tgt := 60) hx hb dX8_trades_145 (by decide) ?_
                        have hl9 := lv_sub (l' := [(7, .int (nI (i + 1 + z + 1))), (6, .int (nI (i))), (5, .int (nI (onesN ((goW (swW (cpW V 0 55) 55 i (i + 1 + z)) n) (100 + k))))), (4, .int (nI (10 * i + (i + 1 + z)))), (0, .ref (om)), (1, .int (nI (k))), (2, .int (nI (n))), (3, .int (nI (h)))]) hl [0, 4, 1, 2, 5, 6, 7, 8] rfl
                        have el19 : (.int (nI (i + 1 + z + 1)) : Value) = .int (nI (i + 1 + (z + 1))) := by
                          rfl
                        have hl9 : lv_has ls 9 [(7, .int (nI (i + 1 + (z + 1)))), (6, .int (nI (i))), (5, .int (nI (onesN ((goW (swW (cpW V 0 55) 55 i (i + 1 + z)) n) (100 + k))))), (4, .int (nI (10 * i + (i + 1 + z)))), (0, .ref (om)), (1, .int (nI (k))), (2, .int (nI (n))), (3, .int (nI (h)))] := Eq.mp (congrArg (fun z9 => lv_has ls 9 [(7, z9), (6, .int (nI (i))), (5, .int (nI (onesN ((goW (swW (cpW V 0 55) 55 i (i + 1 + z)) n) (100 + k))))), (4, .int (nI (10 * i + (i + 1 + z)))), (0, .ref (om)), (1, .int (nI (k))), (2, .int (nI (n))), (3, .int (nI (h)))]) el19) hl9
                        exact ih60 (z + 1) (nI (10 * i + (i + 1 + z))) (nI (onesN ((goW (swW (cpW V 0 55) 55 i (i + 1 + z)) n) (100 + k)))) (goW (swW (cpW V 0 55) 55 i (i + 1 + z)) n) (by omega) (by rw [mtI, iv60_1]; unfold mtU mtV; rw [← cp5 hV, if_neg c17]) (off_go hsw (off_up (off_up (off_cp hV) (by omega)) (by omega)) _) (by omega) _ _ _ hP hD hS hl9
              have hl9 := lv_sub (l' := [(7, .int (nI (i + 1))), (6, .int (nI (i))), (5, .int (m1)), (4, .int (b1)), (0, .ref (om)), (1, .int (nI (k))), (2, .int (nI (n))), (3, .int (nI (h)))]) hl [0, 1, 2, 3, 4, 5, 6, 7] rfl
              have el20 : (.int (nI (i + 1)) : Value) = .int (nI (i + 1 + 0)) := by
                rfl
              have hl9 : lv_has ls 9 [(7, .int (nI (i + 1 + 0))), (6, .int (nI (i))), (5, .int (m1)), (4, .int (b1)), (0, .ref (om)), (1, .int (nI (k))), (2, .int (nI (n))), (3, .int (nI (h)))] := Eq.mp (congrArg (fun z9 => lv_has ls 9 [(7, z9), (6, .int (nI (i))), (5, .int (m1)), (4, .int (b1)), (0, .ref (om)), (1, .int (nI (k))), (2, .int (nI (n))), (3, .int (nI (h)))]) el20) hl9
              exact loop60 _ 0 b1 m1 V (by omega) (rfl) (hV) (Nat.lt_succ_self _) _ _ _ hP hD hS hl9
        have hl9 := lv_sub (l' := [(6, .int (nI (0))), (5, .int ((-1))), (4, .int ((-1000000))), (0, .ref (om)), (1, .int (nI (k))), (2, .int (nI (n))), (3, .int (nI (h)))]) hl [0, 1, 2, 3, 4, 5, 6] rfl
        exact loop43 _ 0 (-1000000) (-1) Z (Nat.zero_le _) (rfl) (fun j hj => rfl) (Nat.lt_succ_self _) _ _ _ hP hD hS hl9
      · skip
        rw [bI_z] at c5
        refine lv_ldc (v := (-1000001)) hx hb hown (hts (.constant RX8 48 (-1000001)) (List.mem_of_getElem? (i := 2) rfl)) dX8_trades_30 ?_
        have ef21 : ([(om, .inr (8, [.ref (mw), .int (nI (ud)), .ref (mt), .int (nI (td)), .int (nI (fy)), .int (nI (su)), .ref (mm), .ref (ml), .ref (mi), .ref (mh), .int (nI (cu)), .int (nI (sa)), .int (nI (nb)), .ref (mr), .int (nI (tn))])), (mw, .inl (cA 0, 1595, arN Z))] : va_W) = [(om, .inr (8, [.ref (mw), .int (nI (ud)), .ref (mt), .int (nI (td)), .int (nI (fy)), .int (nI (su)), .ref (mm), .ref (ml), .ref (mi), .ref (mh), .int (nI (cu)), .int (nI (sa)), .int (nI (nb)), .ref (mr), .int (nI (tn))])), (mw, .inl (cA 0, 1595, arN (mx Z (SK (0, 0, 0, 0, 0, Z, SP (sg Z 0), SD (sg Z 0), SG (sg Z 0), SS (sg Z 0))))))] := by
          rw [show mx Z (SK (0, 0, 0, 0, 0, Z, SP (sg Z 0), SD (sg Z 0), SG (sg Z 0), SS (sg Z 0))) = Z from mx_of (fun j hj => rfl)]
        have hP : va_P D vwCl [(om, .inr (8, [.ref (mw), .int (nI (ud)), .ref (mt), .int (nI (td)), .int (nI (fy)), .int (nI (su)), .ref (mm), .ref (ml), .ref (mi), .ref (mh), .int (nI (cu)), .int (nI (sa)), .int (nI (nb)), .ref (mr), .int (nI (tn))])), (mw, .inl (cA 0, 1595, arN (mx Z (SK (0, 0, 0, 0, 0, Z, SP (sg Z 0), SD (sg Z 0), SG (sg Z 0), SS (sg Z 0))))))] _ := Eq.mp (congrArg (fun z9 => va_P D vwCl z9 _) ef21) hP
        have hD : va_D A [(om, .inr (8, [.ref (mw), .int (nI (ud)), .ref (mt), .int (nI (td)), .int (nI (fy)), .int (nI (su)), .ref (mm), .ref (ml), .ref (mi), .ref (mh), .int (nI (cu)), .int (nI (sa)), .int (nI (nb)), .ref (mr), .int (nI (tn))])), (mw, .inl (cA 0, 1595, arN (mx Z (SK (0, 0, 0, 0, 0, Z, SP (sg Z 0), SD (sg Z 0), SG (sg Z 0), SS (sg Z 0))))))] := Eq.mp (congrArg (fun z9 => va_D A z9) ef21) hD
        exact hend _ _ _ _ _ (0, 0, 0, 0, 0, Z, SP (sg Z 0), SD (sg Z 0), SG (sg Z 0), SS (sg Z 0)) hP hD hS (by unfold tradesM; rw [if_neg (by simp [c1, c3, c5])]) dX8_trades_32
