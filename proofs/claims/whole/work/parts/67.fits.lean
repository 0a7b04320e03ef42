/-! ===== the reference: fits ===== -/
theorem agN_le (m i n : Int32) : agN m i n ≤ 2 := by
  unfold agN
  split
  · split
    · decide
    · split
      · decide
      · split <;> decide
  · decide
theorem agN_nat {m i : Int32} {n : Nat} (hm : m = -1 ∨ ∃ L, L ≤ 40 ∧ m = nI L) (hn : n ≤ 40) (h : agN m i (nI n) = 0) : ∃ k : Nat, i = nI k ∧ k + n ≤ 40 := by
  unfold agN at h
  by_cases h0 : 0 ≤ m
  · rw [if_pos h0] at h
    by_cases h1 : i < 0
    · rw [if_pos h1] at h; cases h
    · rw [if_neg h1] at h
      by_cases h2 : nI n < 0
      · rw [if_pos h2] at h; cases h
      · rw [if_neg h2] at h
        by_cases h3 : i.toInt64 + (nI n).toInt64 ≤ m.toInt64
        · rcases hm with q | ⟨L, hL, q⟩
          · subst q; exact absurd h0 (by decide)
          · subst q
            have h5 := Int32.not_lt.mp h1
            rw [Int32.le_iff_toInt_le, Int32.toInt_zero] at h5
            have h6 := i.toInt_lt
            rw [Int64.le_iff_toInt_le, Int64.toInt_add, Int32.toInt_toInt64, Int32.toInt_toInt64, Int32.toInt_toInt64, nI_toInt (by omega), nI_toInt (by omega), Int.bmod_eq_of_le (by omega) (by omega)] at h3
            exact ⟨i.toInt.toNat, Int32.toInt_inj.mp (by rw [nI_toInt (by omega)]; omega), by omega⟩
        · rw [if_neg h3] at h; cases h
  · rw [if_neg h0] at h; cases h
def fpl (k h : Nat) : Nat := if h = 0 then 5 + k else if h = 1 then 25 + k else if h = 2 then 35 + k else 1
def ftL (Z : Nat → Nat) (k : Nat) (tf : Nat → Int32) (fr n pl lo : Nat) : Nat → Nat
  | 0 => 0
  | z + 1 => ftL Z k tf fr n pl lo z ||| (if soB (upN (cpW Z 0 55) (55 + pl) (lo + z)) k tf fr n = true then 2 ^ (lo + z) else 0)
def fitsM (Z : Nat → Nat) (mf tf : Nat → Int32) (pk pr pi pn ph : Int32) : Int32 := if (inW pk (Sn (sg Z 0)) && inI pr (nI 0) (nI 7) && inI pn (nI 1) (nI 12) && inI ph (nI 0) (nI 3)) = true then
    (if agN (mf pr.toNatClampNeg) pi pn = 0 then nI (ftL Z pk.toNatClampNeg tf (40 * pr.toNatClampNeg + pi.toNatClampNeg) pn.toNatClampNeg (fpl pk.toNatClampNeg ph.toNatClampNeg) (fitLo ph.toNatClampNeg) (fitHi ph.toNatClampNeg + 1 - fitLo ph.toNatClampNeg)) else (-1000010) - nI (agN (mf pr.toNatClampNeg) pi pn)) else (-1000001)
def fitsS (Z : Nat → Nat) (mf : Nat → Int32) (pk pr pi pn ph : Int32) (su : Nat) : Nat := if (inW pk (Sn (sg Z 0)) && inI pr (nI 0) (nI 7) && inI pn (nI 1) (nI 12) && inI ph (nI 0) (nI 3)) = true then agN (mf pr.toNatClampNeg) pi pn else su
theorem fit_wf {V : Nat → Nat} {pl v : Nat} (h : Wf (sg V 55)) (hp : pl = 1 ∨ (5 ≤ pl ∧ pl < 15) ∨ (25 ≤ pl ∧ pl < 45)) (hv : v < 1024) : Wf (sg (upN V (55 + pl) v) 55) := by
  obtain ⟨a, b, d, f, g⟩ := wfW h
  refine wf_mk (by rw [upN_n (by omega)]; exact a) ?_ (by rw [upN_n (by omega)]; exact d) (by rw [upN_n (by omega)]; exact f) (fun k hk => ?_)
  · unfold upN
    split
    · exact hv
    · exact b
  · obtain ⟨q1, q2, q3, q4, q5⟩ := g k hk
    rw [upN_n (j := 55 + 15 + k) (by omega), upN_n (j := 55 + 45 + k) (by omega)]
    refine ⟨?_, q2, ?_, ?_, q5⟩
    · unfold upN
      split
      · exact hv
      · exact q1
    · unfold upN
      split
      · exact hv
      · exact q3
    · unfold upN
      split
      · exact hv
      · exact q4
set_option maxRecDepth 100000 in
set_option maxHeartbeats 4000000 in
theorem c_X8_fits (l : Launch) (D : va_G) (cA : Nat → ClassId) (tt : Nat → Nat) (om mw mt mm ml mi mh mr ud td fy su cu sa nb tn : Nat) (Z : Nat → Nat) (mf tf : Nat → Int32) (pk pr pi pn ph : Int32) (hg : Wf (sg Z 0)) (he : 0 < Z 0 → 0 < Z 1) (ht : Z 3 < 1073740000) (hmf : ∀ q, q < 8 → mf q = -1 ∨ ∃ L, L ≤ 40 ∧ mf q = nI L) (sz : Nat) : CiE l D cA tt yX8_fits wsX8_fits ({ frames := 5, cells := 0, slots := 0, locals := 115 } : Room) [.ref (om), .int (pk), .int (pr), .int (pi), .int (pn), .int (ph)] sz [(om, .inr (8, [.ref (mw), .int (nI (ud)), .ref (mt), .int (nI (td)), .int (nI (fy)), .int (nI (su)), .ref (mm), .ref (ml), .ref (mi), .ref (mh), .int (nI (cu)), .int (nI (sa)), .int (nI (nb)), .ref (mr), .int (nI (tn))])), (mw, .inl (cA 0, 1595, arN Z)), (mm, .inl (cA 0, 8, .inl mf)), (mi, .inl (cA 0, 320, .inl tf))] (fun zz : Sg => [(om, .inr (8, [.ref (mw), .int (nI (ud)), .ref (mt), .int (nI (td)), .int (nI (fy)), .int (nI ((fitsS Z mf pk pr pi pn ph su))), .ref (mm), .ref (ml), .ref (mi), .ref (mh), .int (nI (cu)), .int (nI (sa)), .int (nI (nb)), .ref (mr), .int (nI (tn))])), (mw, .inl (cA 0, 1595, arN (mx Z (SK zz)))), (mm, .inl (cA 0, 8, .inl mf)), (mi, .inl (cA 0, 320, .inl tf))]) (fitsM Z mf tf pk pr pi pn ph) := by
  obtain ⟨gn, ge, gv, go, ga⟩ := wfZ hg
  refine CiE.mk (cc := cX8_fits) (maxL := 12) (ty := .int) (by decide) rfl rfl (Nat.le_of_ble_eq_true rfl) ?_
  intro p e s m below meth c A Q ls hB hl hend
  obtain ⟨⟨hx, hb, hml, hown, hts⟩, hP, hK, hD, hS, hA, hE⟩ := hB
  have hown : s.vm.findClass RX8 = some m.cls := hown
  have hwsX80 : ∀ w9 ∈ wsX80, w9.before ([.ref (om), .int (pk), .int (pr), .int (pi), .int (pn), .int (ph)] : List Value).toArray s = true := fun w9 h => hts w9 (List.mem_cons_of_mem _ (List.mem_append_right _ h))
  have hl : lv_has ls 12 [(0, .ref (om)), (1, .int (pk)), (2, .int (pr)), (3, .int (pi)), (4, .int (pn)), (5, .int (ph))] := hl
  refine lv_aload_n hx hb dX8_fits_0 rfl (lv_at hl 0 rfl) ?_
  refine lv_iload_n hx hb dX8_fits_1 rfl (lv_at hl 1 rfl) ?_
  refine cVi (n := 1) (As := [.int (pk)]) (rest := []) (C := RX8) (ci := 8) (q0 := 0) (X := [(om, .inr (8, [.ref (mw), .int (nI (ud)), .ref (mt), .int (nI (td)), .int (nI (fy)), .int (nI (su)), .ref (mm), .ref (ml), .ref (mi), .ref (mh), .int (nI (cu)), .int (nI (sa)), .int (nI (nb)), .ref (mr), .int (nI (tn))])), (mw, .inl (cA 0, 1595, arN Z)), (mm, .inl (cA 0, 8, .inl mf)), (mi, .inl (cA 0, 320, .inl tf))]) (pl := []) (wc := [(om, .inr (8, [.ref (mw), .int (nI (ud)), .ref (mt), .int (nI (td)), .int (nI (fy)), .int (nI (su)), .ref (mm), .ref (ml), .ref (mi), .ref (mh), .int (nI (cu)), .int (nI (sa)), .int (nI (nb)), .ref (mr), .int (nI (tn))])), (mw, .inl (cA 0, 1595, arN Z))]) (wr := [(mm, .inl (cA 0, 8, .inl mf)), (mi, .inl (cA 0, 320, .inl tf))]) (w1 := [(om, .inr (8, [.ref (mw), .int (nI (ud)), .ref (mt), .int (nI (td)), .int (nI (fy)), .int (nI (su)), .ref (mm), .ref (ml), .ref (mi), .ref (mh), .int (nI (cu)), .int (nI (sa)), .int (nI (nb)), .ref (mr), .int (nI (tn))])), (mw, .inl (cA 0, 1595, arN Z))]) (wn := [(om, .inr (8, [.ref (mw), .int (nI (ud)), .ref (mt), .int (nI (td)), .int (nI (fy)), .int (nI (su)), .ref (mm), .ref (ml), .ref (mi), .ref (mh), .int (nI (cu)), .int (nI (sa)), .int (nI (nb)), .ref (mr), .int (nI (tn))])), (mw, .inl (cA 0, 1595, arN Z)), (mm, .inl (cA 0, 8, .inl mf)), (mi, .inl (cA 0, 320, .inl tf))]) (isC := [0, 1]) (isR := [2, 3]) (isN := [2, 3, 0, 1]) ⟨hx, hb, hml, hown, hts⟩ (c_X8_isWindow l D cA tt om mw mt mm ml mi mh mr ud td fy su cu sa nb tn Z pk (hg) _) gX8_fits_X8_isWindow rfl (by decide +kernel) rfl rfl ⟨rfl, rfl⟩ ⟨Nat.le_of_ble_eq_true rfl, Nat.le_of_ble_eq_true rfl⟩ ⟨Nat.zero_le _, Nat.zero_le _⟩ hK hE hA hP hD hS ⟨⟨rfl, by decide⟩, ⟨rfl, by decide, by decide⟩, rfl, by decide⟩ rfl hl.1 rfl (Nat.le_of_ble_eq_true rfl) dX8_fits_2 (fun H locs hP hD hS => ?_)
  have hP : va_P D vwCl [(om, .inr (8, [.ref (mw), .int (nI (ud)), .ref (mt), .int (nI (td)), .int (nI (fy)), .int (nI (su)), .ref (mm), .ref (ml), .ref (mi), .ref (mh), .int (nI (cu)), .int (nI (sa)), .int (nI (nb)), .ref (mr), .int (nI (tn))])), (mw, .inl (cA 0, 1595, arN Z)), (mm, .inl (cA 0, 8, .inl mf)), (mi, .inl (cA 0, 320, .inl tf))] _ := hP
  have hD : va_D A [(om, .inr (8, [.ref (mw), .int (nI (ud)), .ref (mt), .int (nI (td)), .int (nI (fy)), .int (nI (su)), .ref (mm), .ref (ml), .ref (mi), .ref (mh), .int (nI (cu)), .int (nI (sa)), .int (nI (nb)), .ref (mr), .int (nI (tn))])), (mw, .inl (cA 0, 1595, arN Z)), (mm, .inl (cA 0, 8, .inl mf)), (mi, .inl (cA 0, 320, .inl tf))] := hD
  refine lv_if_eq (tgt := 41) hx hb dX8_fits_5 (by decide) (fun c1 => ?_) (fun c1 => ?_)
  · skip
    rw [bI_z] at c1
    refine lv_ldc (v := (-1000001)) hx hb hown (hts (.constant RX8 48 (-1000001)) (List.mem_of_getElem? (i := 3) rfl)) dX8_fits_41 ?_
    have ef2 : ([(om, .inr (8, [.ref (mw), .int (nI (ud)), .ref (mt), .int (nI (td)), .int (nI (fy)), .int (nI (su)), .ref (mm), .ref (ml), .ref (mi), .ref (mh), .int (nI (cu)), .int (nI (sa)), .int (nI (nb)), .ref (mr), .int (nI (tn))])), (mw, .inl (cA 0, 1595, arN Z)), (mm, .inl (cA 0, 8, .inl mf)), (mi, .inl (cA 0, 320, .inl tf))] : va_W) = [(om, .inr (8, [.ref (mw), .int (nI (ud)), .ref (mt), .int (nI (td)), .int (nI (fy)), .int (nI ((fitsS Z mf pk pr pi pn ph su))), .ref (mm), .ref (ml), .ref (mi), .ref (mh), .int (nI (cu)), .int (nI (sa)), .int (nI (nb)), .ref (mr), .int (nI (tn))])), (mw, .inl (cA 0, 1595, arN (mx Z (SK (0, 0, 0, 0, 0, Z, SP (sg Z 0), SD (sg Z 0), SG (sg Z 0), SS (sg Z 0)))))), (mm, .inl (cA 0, 8, .inl mf)), (mi, .inl (cA 0, 320, .inl tf))] := by
      rw [show mx Z (SK (0, 0, 0, 0, 0, Z, SP (sg Z 0), SD (sg Z 0), SG (sg Z 0), SS (sg Z 0))) = Z from mx_of (fun j hj => rfl)]
      rw [show fitsS Z mf pk pr pi pn ph su = su from by unfold fitsS; rw [if_neg (by simp [c1])]]
    have hP : va_P D vwCl [(om, .inr (8, [.ref (mw), .int (nI (ud)), .ref (mt), .int (nI (td)), .int (nI (fy)), .int (nI ((fitsS Z mf pk pr pi pn ph su))), .ref (mm), .ref (ml), .ref (mi), .ref (mh), .int (nI (cu)), .int (nI (sa)), .int (nI (nb)), .ref (mr), .int (nI (tn))])), (mw, .inl (cA 0, 1595, arN (mx Z (SK (0, 0, 0, 0, 0, Z, SP (sg Z 0), SD (sg Z 0), SG (sg Z 0), SS (sg Z 0)))))), (mm, .inl (cA 0, 8, .inl mf)), (mi, .inl (cA 0, 320, .inl tf))] _ := Eq.mp (congrArg (fun z9 => va_P D vwCl z9 _) ef2) hP
    have hD : va_D A [(om, .inr (8, [.ref (mw), .int (nI (ud)), .ref (mt), .int (nI (td)), .int (nI (fy)), .int (nI ((fitsS Z mf pk pr pi pn ph su))), .ref (mm), .ref (ml), .ref (mi), .ref (mh), .int (nI (cu)), .int (nI (sa)), .int (nI (nb)), .ref (mr), .int (nI (tn))])), (mw, .inl (cA 0, 1595, arN (mx Z (SK (0, 0, 0, 0, 0, Z, SP (sg Z 0), SD (sg Z 0), SG (sg Z 0), SS (sg Z 0)))))), (mm, .inl (cA 0, 8, .inl mf)), (mi, .inl (cA 0, 320, .inl tf))] := Eq.mp (congrArg (fun z9 => va_D A z9) ef2) hD
    exact hend _ _ _ _ _ (0, 0, 0, 0, 0, Z, SP (sg Z 0), SD (sg Z 0), SG (sg Z 0), SS (sg Z 0)) hP hD hS (by unfold fitsM; rw [if_neg (by simp [c1])]) dX8_fits_43
  · skip
    rw [bI_nz] at c1
    obtain ⟨k, e_k, l_k⟩ := inW_t (by omega) c1
    rw [e_k] at hl
    refine lv_iload_n hx hb dX8_fits_8 rfl (lv_at hl 2 rfl) ?_
    refine cSi (n := 1) (As := [.int (pr)]) (rest := []) (X := [(om, .inr (8, [.ref (mw), .int (nI (ud)), .ref (mt), .int (nI (td)), .int (nI (fy)), .int (nI (su)), .ref (mm), .ref (ml), .ref (mi), .ref (mh), .int (nI (cu)), .int (nI (sa)), .int (nI (nb)), .ref (mr), .int (nI (tn))])), (mw, .inl (cA 0, 1595, arN Z)), (mm, .inl (cA 0, 8, .inl mf)), (mi, .inl (cA 0, 320, .inl tf))]) (pl := []) (wc := ([] : va_W)) (wr := [(om, .inr (8, [.ref (mw), .int (nI (ud)), .ref (mt), .int (nI (td)), .int (nI (fy)), .int (nI (su)), .ref (mm), .ref (ml), .ref (mi), .ref (mh), .int (nI (cu)), .int (nI (sa)), .int (nI (nb)), .ref (mr), .int (nI (tn))])), (mw, .inl (cA 0, 1595, arN Z)), (mm, .inl (cA 0, 8, .inl mf)), (mi, .inl (cA 0, 320, .inl tf))]) (w1 := ([] : va_W)) (wn := [(om, .inr (8, [.ref (mw), .int (nI (ud)), .ref (mt), .int (nI (td)), .int (nI (fy)), .int (nI (su)), .ref (mm), .ref (ml), .ref (mi), .ref (mh), .int (nI (cu)), .int (nI (sa)), .int (nI (nb)), .ref (mr), .int (nI (tn))])), (mw, .inl (cA 0, 1595, arN Z)), (mm, .inl (cA 0, 8, .inl mf)), (mi, .inl (cA 0, 320, .inl tf))]) (isC := []) (isR := [0, 1, 2, 3]) (isN := [0, 1, 2, 3]) ⟨hx, hb, hml, hown, hts⟩ (c_X8_isRow l D cA tt pr  _) gX8_fits_X8_isRow rfl (by decide +kernel) ⟨rfl, rfl⟩ ⟨Nat.le_of_ble_eq_true rfl, Nat.le_of_ble_eq_true rfl⟩ ⟨Nat.zero_le _, Nat.zero_le _⟩ hK hE hA hP hD hS ⟨⟨rfl, by decide⟩, ⟨rfl, by decide, by decide⟩, rfl, by decide⟩ rfl hl.1 rfl (Nat.le_of_ble_eq_true rfl) dX8_fits_9 (fun H locs hP hD hS => ?_)
    have hP : va_P D vwCl [(om, .inr (8, [.ref (mw), .int (nI (ud)), .ref (mt), .int (nI (td)), .int (nI (fy)), .int (nI (su)), .ref (mm), .ref (ml), .ref (mi), .ref (mh), .int (nI (cu)), .int (nI (sa)), .int (nI (nb)), .ref (mr), .int (nI (tn))])), (mw, .inl (cA 0, 1595, arN Z)), (mm, .inl (cA 0, 8, .inl mf)), (mi, .inl (cA 0, 320, .inl tf))] _ := hP
    have hD : va_D A [(om, .inr (8, [.ref (mw), .int (nI (ud)), .ref (mt), .int (nI (td)), .int (nI (fy)), .int (nI (su)), .ref (mm), .ref (ml), .ref (mi), .ref (mh), .int (nI (cu)), .int (nI (sa)), .int (nI (nb)), .ref (mr), .int (nI (tn))])), (mw, .inl (cA 0, 1595, arN Z)), (mm, .inl (cA 0, 8, .inl mf)), (mi, .inl (cA 0, 320, .inl tf))] := hD
    refine lv_if_eq (tgt := 41) hx hb dX8_fits_12 (by decide) (fun c3 => ?_) (fun c3 => ?_)
    · skip
      rw [bI_z] at c3
      refine lv_ldc (v := (-1000001)) hx hb hown (hts (.constant RX8 48 (-1000001)) (List.mem_of_getElem? (i := 3) rfl)) dX8_fits_41 ?_
      have ef4 : ([(om, .inr (8, [.ref (mw), .int (nI (ud)), .ref (mt), .int (nI (td)), .int (nI (fy)), .int (nI (su)), .ref (mm), .ref (ml), .ref (mi), .ref (mh), .int (nI (cu)), .int (nI (sa)), .int (nI (nb)), .ref (mr), .int (nI (tn))])), (mw, .inl (cA 0, 1595, arN Z)), (mm, .inl (cA 0, 8, .inl mf)), (mi, .inl (cA 0, 320, .inl tf))] : va_W) = [(om, .inr (8, [.ref (mw), .int (nI (ud)), .ref (mt), .int (nI (td)), .int (nI (fy)), .int (nI ((fitsS Z mf pk pr pi pn ph su))), .ref (mm), .ref (ml), .ref (mi), .ref (mh), .int (nI (cu)), .int (nI (sa)), .int (nI (nb)), .ref (mr), .int (nI (tn))])), (mw, .inl (cA 0, 1595, arN (mx Z (SK (0, 0, 0, 0, 0, Z, SP (sg Z 0), SD (sg Z 0), SG (sg Z 0), SS (sg Z 0)))))), (mm, .inl (cA 0, 8, .inl mf)), (mi, .inl (cA 0, 320, .inl tf))] := by
        rw [show mx Z (SK (0, 0, 0, 0, 0, Z, SP (sg Z 0), SD (sg Z 0), SG (sg Z 0), SS (sg Z 0))) = Z from mx_of (fun j hj => rfl)]
        rw [show fitsS Z mf pk pr pi pn ph su = su from by unfold fitsS; rw [if_neg (by simp [c1, c3])]]
      have hP : va_P D vwCl [(om, .inr (8, [.ref (mw), .int (nI (ud)), .ref (mt), .int (nI (td)), .int (nI (fy)), .int (nI ((fitsS Z mf pk pr pi pn ph su))), .ref (mm), .ref (ml), .ref (mi), .ref (mh), .int (nI (cu)), .int (nI (sa)), .int (nI (nb)), .ref (mr), .int (nI (tn))])), (mw, .inl (cA 0, 1595, arN (mx Z (SK (0, 0, 0, 0, 0, Z, SP (sg Z 0), SD (sg Z 0), SG (sg Z 0), SS (sg Z 0)))))), (mm, .inl (cA 0, 8, .inl mf)), (mi, .inl (cA 0, 320, .inl tf))] _ := Eq.mp (congrArg (fun z9 => va_P D vwCl z9 _) ef4) hP
      have hD : va_D A [(om, .inr (8, [.ref (mw), .int (nI (ud)), .ref (mt), .int (nI (td)), .int (nI (fy)), .int (nI ((fitsS Z mf pk pr pi pn ph su))), .ref (mm), .ref (ml), .ref (mi), .ref (mh), .int (nI (cu)), .int (nI (sa)), .int (nI (nb)), .ref (mr), .int (nI (tn))])), (mw, .inl (cA 0, 1595, arN (mx Z (SK (0, 0, 0, 0, 0, Z, SP (sg Z 0), SD (sg Z 0), SG (sg Z 0), SS (sg Z 0)))))), (mm, .inl (cA 0, 8, .inl mf)), (mi, .inl (cA 0, 320, .inl tf))] := Eq.mp (congrArg (fun z9 => va_D A z9) ef4) hD
      exact hend _ _ _ _ _ (0, 0, 0, 0, 0, Z, SP (sg Z 0), SD (sg Z 0), SG (sg Z 0), SS (sg Z 0)) hP hD hS (by unfold fitsM; rw [if_neg (by simp [c1, c3])]) dX8_fits_43
    · skip
      rw [bI_nz] at c3
      obtain ⟨r, e_r, a_r, l_r⟩ := inI_t (by decide) c3 (by decide)
      rw [e_r] at hl
      refine lv_iload hx hb dX8_fits_15 (lv_at hl 4 rfl) ?_
      refine lv_i2l (v := (pn).toInt64) hx hb dX8_fits_17 (rfl) ?_
      refine lv_lconst (v := lN 1) hx hb dX8_fits_18 rfl ?_
      refine lv_ldc2 (v := (12)) hx hb hown (hts (.constantLong RX8 177 (12)) (List.mem_of_getElem? (i := 1) rfl)) dX8_fits_19 ?_
      refine vn_l (v := lN 12) (by decide) ?_
      refine cSi (n := 3) (As := [.long ((pn).toInt64), .long (lN (1)), .long (lN (12))]) (rest := []) (X := [(om, .inr (8, [.ref (mw), .int (nI (ud)), .ref (mt), .int (nI (td)), .int (nI (fy)), .int (nI (su)), .ref (mm), .ref (ml), .ref (mi), .ref (mh), .int (nI (cu)), .int (nI (sa)), .int (nI (nb)), .ref (mr), .int (nI (tn))])), (mw, .inl (cA 0, 1595, arN Z)), (mm, .inl (cA 0, 8, .inl mf)), (mi, .inl (cA 0, 320, .inl tf))]) (pl := []) (wc := ([] : va_W)) (wr := [(om, .inr (8, [.ref (mw), .int (nI (ud)), .ref (mt), .int (nI (td)), .int (nI (fy)), .int (nI (su)), .ref (mm), .ref (ml), .ref (mi), .ref (mh), .int (nI (cu)), .int (nI (sa)), .int (nI (nb)), .ref (mr), .int (nI (tn))])), (mw, .inl (cA 0, 1595, arN Z)), (mm, .inl (cA 0, 8, .inl mf)), (mi, .inl (cA 0, 320, .inl tf))]) (w1 := ([] : va_W)) (wn := [(om, .inr (8, [.ref (mw), .int (nI (ud)), .ref (mt), .int (nI (td)), .int (nI (fy)), .int (nI (su)), .ref (mm), .ref (ml), .ref (mi), .ref (mh), .int (nI (cu)), .int (nI (sa)), .int (nI (nb)), .ref (mr), .int (nI (tn))])), (mw, .inl (cA 0, 1595, arN Z)), (mm, .inl (cA 0, 8, .inl mf)), (mi, .inl (cA 0, 320, .inl tf))]) (isC := []) (isR := [0, 1, 2, 3]) (isN := [0, 1, 2, 3]) ⟨hx, hb, hml, hown, hts⟩ (c_X8_in_I l D cA tt pn 1 12 (by omega) (by omega) _) gX8_fits_X8_in rfl (by decide +kernel) ⟨rfl, rfl⟩ ⟨Nat.le_of_ble_eq_true rfl, Nat.le_of_ble_eq_true rfl⟩ ⟨Nat.zero_le _, Nat.zero_le _⟩ hK hE hA hP hD hS ⟨⟨rfl, by decide⟩, ⟨rfl, by decide, by decide⟩, rfl, by decide⟩ rfl hl.1 rfl (Nat.le_of_ble_eq_true rfl) dX8_fits_22 (fun H locs hP hD hS => ?_)
      have hP : va_P D vwCl [(om, .inr (8, [.ref (mw), .int (nI (ud)), .ref (mt), .int (nI (td)), .int (nI (fy)), .int (nI (su)), .ref (mm), .ref (ml), .ref (mi), .ref (mh), .int (nI (cu)), .int (nI (sa)), .int (nI (nb)), .ref (mr), .int (nI (tn))])), (mw, .inl (cA 0, 1595, arN Z)), (mm, .inl (cA 0, 8, .inl mf)), (mi, .inl (cA 0, 320, .inl tf))] _ := hP
      have hD : va_D A [(om, .inr (8, [.ref (mw), .int (nI (ud)), .ref (mt), .int (nI (td)), .int (nI (fy)), .int (nI (su)), .ref (mm), .ref (ml), .ref (mi), .ref (mh), .int (nI (cu)), .int (nI (sa)), .int (nI (nb)), .ref (mr), .int (nI (tn))])), (mw, .inl (cA 0, 1595, arN Z)), (mm, .inl (cA 0, 8, .inl mf)), (mi, .inl (cA 0, 320, .inl tf))] := hD
      refine lv_if_eq (tgt := 41) hx hb dX8_fits_25 (by decide) (fun c5 => ?_) (fun c5 => ?_)
      · skip
        rw [bI_z] at c5
        refine lv_ldc (v := (-1000001)) hx hb hown (hts (.constant RX8 48 (-1000001)) (List.mem_of_getElem? (i := 3) rfl)) dX8_fits_41 ?_
        have ef6 : ([(om, .inr (8, [.ref (mw), .int (nI (ud)), .ref (mt), .int (nI (td)), .int (nI (fy)), .int (nI (su)), .ref (mm), .ref (ml), .ref (mi), .ref (mh), .int (nI (cu)), .int (nI (sa)), .int (nI (nb)), .ref (mr), .int (nI (tn))])), (mw, .inl (cA 0, 1595, arN Z)), (mm, .inl (cA 0, 8, .inl mf)), (mi, .inl (cA 0, 320, .inl tf))] : va_W) = [(om, .inr (8, [.ref (mw), .int (nI (ud)), .ref (mt), .int (nI (td)), .int (nI (fy)), .int (nI ((fitsS Z mf pk pr pi pn ph su))), .ref (mm), .ref (ml), .ref (mi), .ref (mh), .int (nI (cu)), .int (nI (sa)), .int (nI (nb)), .ref (mr), .int (nI (tn))])), (mw, .inl (cA 0, 1595, arN (mx Z (SK (0, 0, 0, 0, 0, Z, SP (sg Z 0), SD (sg Z 0), SG (sg Z 0), SS (sg Z 0)))))), (mm, .inl (cA 0, 8, .inl mf)), (mi, .inl (cA 0, 320, .inl tf))] := by
          rw [show mx Z (SK (0, 0, 0, 0, 0, Z, SP (sg Z 0), SD (sg Z 0), SG (sg Z 0), SS (sg Z 0))) = Z from mx_of (fun j hj => rfl)]
          rw [show fitsS Z mf pk pr pi pn ph su = su from by unfold fitsS; rw [if_neg (by simp [c1, c3, c5])]]
        have hP : va_P D vwCl [(om, .inr (8, [.ref (mw), .int (nI (ud)), .ref (mt), .int (nI (td)), .int (nI (fy)), .int (nI ((fitsS Z mf pk pr pi pn ph su))), .ref (mm), .ref (ml), .ref (mi), .ref (mh), .int (nI (cu)), .int (nI (sa)), .int (nI (nb)), .ref (mr), .int (nI (tn))])), (mw, .inl (cA 0, 1595, arN (mx Z (SK (0, 0, 0, 0, 0, Z, SP (sg Z 0), SD (sg Z 0), SG (sg Z 0), SS (sg Z 0)))))), (mm, .inl (cA 0, 8, .inl mf)), (mi, .inl (cA 0, 320, .inl tf))] _ := Eq.mp (congrArg (fun z9 => va_P D vwCl z9 _) ef6) hP
        have hD : va_D A [(om, .inr (8, [.ref (mw), .int (nI (ud)), .ref (mt), .int (nI (td)), .int (nI (fy)), .int (nI ((fitsS Z mf pk pr pi pn ph su))), .ref (mm), .ref (ml), .ref (mi), .ref (mh), .int (nI (cu)), .int (nI (sa)), .int (nI (nb)), .ref (mr), .int (nI (tn))])), (mw, .inl (cA 0, 1595, arN (mx Z (SK (0, 0, 0, 0, 0, Z, SP (sg Z 0), SD (sg Z 0), SG (sg Z 0), SS (sg Z 0)))))), (mm, .inl (cA 0, 8, .inl mf)), (mi, .inl (cA 0, 320, .inl tf))] := Eq.mp (congrArg (fun z9 => va_D A z9) ef6) hD
        exact hend _ _ _ _ _ (0, 0, 0, 0, 0, Z, SP (sg Z 0), SD (sg Z 0), SG (sg Z 0), SS (sg Z 0)) hP hD hS (by unfold fitsM; rw [if_neg (by simp [c1, c3, c5])]) dX8_fits_43
      · skip
        rw [bI_nz] at c5
        obtain ⟨n, e_n, a_n, l_n⟩ := inI_t (by decide) c5 (by decide)
        rw [e_n] at hl
        refine lv_iload hx hb dX8_fits_28 (lv_at hl 5 rfl) ?_
        refine lv_i2l (v := (ph).toInt64) hx hb dX8_fits_30 (rfl) ?_
        refine lv_lconst (v := lN 0) hx hb dX8_fits_31 rfl ?_
        refine lv_ldc2 (v := (3)) hx hb hown (hts (.constantLong RX8 158 (3)) (List.mem_of_getElem? (i := 2) rfl)) dX8_fits_32 ?_
        refine vn_l (v := lN 3) (by decide) ?_
        refine cSi (n := 3) (As := [.long ((ph).toInt64), .long (lN (0)), .long (lN (3))]) (rest := []) (X := [(om, .inr (8, [.ref (mw), .int (nI (ud)), .ref (mt), .int (nI (td)), .int (nI (fy)), .int (nI (su)), .ref (mm), .ref (ml), .ref (mi), .ref (mh), .int (nI (cu)), .int (nI (sa)), .int (nI (nb)), .ref (mr), .int (nI (tn))])), (mw, .inl (cA 0, 1595, arN Z)), (mm, .inl (cA 0, 8, .inl mf)), (mi, .inl (cA 0, 320, .inl tf))]) (pl := []) (wc := ([] : va_W)) (wr := [(om, .inr (8, [.ref (mw), .int (nI (ud)), .ref (mt), .int (nI (td)), .int (nI (fy)), .int (nI (su)), .ref (mm), .ref (ml), .ref (mi), .ref (mh), .int (nI (cu)), .int (nI (sa)), .int (nI (nb)), .ref (mr), .int (nI (tn))])), (mw, .inl (cA 0, 1595, arN Z)), (mm, .inl (cA 0, 8, .inl mf)), (mi, .inl (cA 0, 320, .inl tf))]) (w1 := ([] : va_W)) (wn := [(om, .inr (8, [.ref (mw), .int (nI (ud)), .ref (mt), .int (nI (td)), .int (nI (fy)), .int (nI (su)), .ref (mm), .ref (ml), .ref (mi), .ref (mh), .int (nI (cu)), .int (nI (sa)), .int (nI (nb)), .ref (mr), .int (nI (tn))])), (mw, .inl (cA 0, 1595, arN Z)), (mm, .inl (cA 0, 8, .inl mf)), (mi, .inl (cA 0, 320, .inl tf))]) (isC := []) (isR := [0, 1, 2, 3]) (isN := [0, 1, 2, 3]) ⟨hx, hb, hml, hown, hts⟩ (c_X8_in_I l D cA tt ph 0 3 (by omega) (by omega) _) gX8_fits_X8_in rfl (by decide +kernel) ⟨rfl, rfl⟩ ⟨Nat.le_of_ble_eq_true rfl, Nat.le_of_ble_eq_true rfl⟩ ⟨Nat.zero_le _, Nat.zero_le _⟩ hK hE hA hP hD hS ⟨⟨rfl, by decide⟩, ⟨rfl, by decide, by decide⟩, rfl, by decide⟩ rfl hl.1 rfl (Nat.le_of_ble_eq_true rfl) dX8_fits_35 (fun H locs hP hD hS => ?_)
        have hP : va_P D vwCl [(om, .inr (8, [.ref (mw), .int (nI (ud)), .ref (mt), .int (nI (td)), .int (nI (fy)), .int (nI (su)), .ref (mm), .ref (ml), .ref (mi), .ref (mh), .int (nI (cu)), .int (nI (sa)), .int (nI (nb)), .ref (mr), .int (nI (tn))])), (mw, .inl (cA 0, 1595, arN Z)), (mm, .inl (cA 0, 8, .inl mf)), (mi, .inl (cA 0, 320, .inl tf))] _ := hP
        have hD : va_D A [(om, .inr (8, [.ref (mw), .int (nI (ud)), .ref (mt), .int (nI (td)), .int (nI (fy)), .int (nI (su)), .ref (mm), .ref (ml), .ref (mi), .ref (mh), .int (nI (cu)), .int (nI (sa)), .int (nI (nb)), .ref (mr), .int (nI (tn))])), (mw, .inl (cA 0, 1595, arN Z)), (mm, .inl (cA 0, 8, .inl mf)), (mi, .inl (cA 0, 320, .inl tf))] := hD
        refine lv_if_ne (tgt := 44) hx hb dX8_fits_38 (by decide) (fun c7 => ?_) (fun c7 => ?_)
        · skip
          rw [bI_nz] at c7
          obtain ⟨h, e_h, a_h, l_h⟩ := inI_t (by decide) c7 (by decide)
          rw [e_h] at hl
          refine lv_aload_n hx hb dX8_fits_44 rfl (lv_at hl 0 rfl) ?_
          refine lv_iload_n hx hb dX8_fits_45 rfl (lv_at hl 2 rfl) ?_
          refine lv_iload_n hx hb dX8_fits_46 rfl (lv_at hl 3 rfl) ?_
          refine lv_iload hx hb dX8_fits_47 (lv_at hl 4 rfl) ?_
          refine cVi (n := 3) (As := [.int (nI (r)), .int (pi), .int (nI (n))]) (rest := []) (C := RX8) (ci := 8) (q0 := 0) (X := [(om, .inr (8, [.ref (mw), .int (nI (ud)), .ref (mt), .int (nI (td)), .int (nI (fy)), .int (nI (su)), .ref (mm), .ref (ml), .ref (mi), .ref (mh), .int (nI (cu)), .int (nI (sa)), .int (nI (nb)), .ref (mr), .int (nI (tn))])), (mw, .inl (cA 0, 1595, arN Z)), (mm, .inl (cA 0, 8, .inl mf)), (mi, .inl (cA 0, 320, .inl tf))]) (pl := []) (wc := [(om, .inr (8, [.ref (mw), .int (nI (ud)), .ref (mt), .int (nI (td)), .int (nI (fy)), .int (nI (su)), .ref (mm), .ref (ml), .ref (mi), .ref (mh), .int (nI (cu)), .int (nI (sa)), .int (nI (nb)), .ref (mr), .int (nI (tn))])), (mm, .inl (cA 0, 8, .inl mf))]) (wr := [(mw, .inl (cA 0, 1595, arN Z)), (mi, .inl (cA 0, 320, .inl tf))]) (w1 := [(om, .inr (8, [.ref (mw), .int (nI (ud)), .ref (mt), .int (nI (td)), .int (nI (fy)), .int (nI (su)), .ref (mm), .ref (ml), .ref (mi), .ref (mh), .int (nI (cu)), .int (nI (sa)), .int (nI (nb)), .ref (mr), .int (nI (tn))])), (mm, .inl (cA 0, 8, .inl mf))]) (wn := [(om, .inr (8, [.ref (mw), .int (nI (ud)), .ref (mt), .int (nI (td)), .int (nI (fy)), .int (nI (su)), .ref (mm), .ref (ml), .ref (mi), .ref (mh), .int (nI (cu)), .int (nI (sa)), .int (nI (nb)), .ref (mr), .int (nI (tn))])), (mw, .inl (cA 0, 1595, arN Z)), (mm, .inl (cA 0, 8, .inl mf)), (mi, .inl (cA 0, 320, .inl tf))]) (isC := [0, 2]) (isR := [1, 3]) (isN := [2, 0, 3, 1]) ⟨hx, hb, hml, hown, hts⟩ (c_X8_against l D cA tt om mw mt mm ml mi mh mr ud td fy su cu sa nb tn mf r pi (nI (n)) (by omega) _) gX8_fits_X8_against rfl (by decide +kernel) rfl rfl ⟨rfl, rfl⟩ ⟨Nat.le_of_ble_eq_true rfl, Nat.le_of_ble_eq_true rfl⟩ ⟨Nat.zero_le _, Nat.zero_le _⟩ hK hE hA hP hD hS ⟨⟨rfl, by decide⟩, ⟨rfl, by decide, by decide⟩, rfl, by decide⟩ rfl hl.1 rfl (Nat.le_of_ble_eq_true rfl) dX8_fits_49 (fun H locs hP hD hS => ?_)
          have hP : va_P D vwCl [(om, .inr (8, [.ref (mw), .int (nI (ud)), .ref (mt), .int (nI (td)), .int (nI (fy)), .int (nI (su)), .ref (mm), .ref (ml), .ref (mi), .ref (mh), .int (nI (cu)), .int (nI (sa)), .int (nI (nb)), .ref (mr), .int (nI (tn))])), (mw, .inl (cA 0, 1595, arN Z)), (mm, .inl (cA 0, 8, .inl mf)), (mi, .inl (cA 0, 320, .inl tf))] _ := hP
          have hD : va_D A [(om, .inr (8, [.ref (mw), .int (nI (ud)), .ref (mt), .int (nI (td)), .int (nI (fy)), .int (nI (su)), .ref (mm), .ref (ml), .ref (mi), .ref (mh), .int (nI (cu)), .int (nI (sa)), .int (nI (nb)), .ref (mr), .int (nI (tn))])), (mw, .inl (cA 0, 1595, arN Z)), (mm, .inl (cA 0, 8, .inl mf)), (mi, .inl (cA 0, 320, .inl tf))] := hD
          have hag := agN_le (mf r) pi (nI n)
          refine lv_istore (lv' := [(6, .int (nI (agN (mf r) pi (nI (n))))), (0, .ref (om)), (1, .int (nI (k))), (2, .int (nI (r))), (3, .int (pi)), (4, .int (nI (n))), (5, .int (nI (h)))]) hx hb dX8_fits_52 hl (by decide) rfl (fun ls hl => ?_)
          refine lv_iload hx hb dX8_fits_54 (lv_at hl 0 rfl) ?_
          refine lv_if_le (tgt := 66) hx hb dX8_fits_56 (by decide) (fun c8 => ?_) (fun c8 => ?_)
          · skip
            rw [n_le0 (by omega)] at c8
            obtain ⟨i, e_i, l_i⟩ := agN_nat (hmf r (by omega)) (by omega) (show agN (mf r) pi (nI n) = 0 by omega)
            rw [e_i] at hl
            have hh4 : h = 0 ∨ h = 1 ∨ h = 2 ∨ h = 3 := by omega
            rcases hh4 with hh4 | hh4 | hh4 | hh4
            · skip
              subst hh4
              refine lv_aload_n hx hb dX8_fits_66 rfl (lv_at hl 1 rfl) ?_
              refine lv_iconst (v := nI (0)) hx hb dX8_fits_67 (by decide) ?_
              refine va_put (v := .int (nI (0))) (ty := .int) (Ts := wsX80) (C := RX8) (T := TX8) (N := 15) hx hb hwsX80 (fun _ h => h) tyX8 tyX8_ok nmX8 hown hK hP hD hS 0 rfl rfl 5 (by decide) (hts (.fieldLink RX8 37 "AdventStreetsModel" "status" "I") (List.mem_of_getElem? (i := 4) rfl)) (fun _ h9 => h9) rfl (tyX8_ok 5 (by decide)) rfl rfl (Nat.le_of_ble_eq_true rfl) dX8_fits_68 (fun H locs hP hD hS => ?_)
              have hP : va_P D vwCl [(om, .inr (8, [.ref (mw), .int (nI (ud)), .ref (mt), .int (nI (td)), .int (nI (fy)), .int (nI (0)), .ref (mm), .ref (ml), .ref (mi), .ref (mh), .int (nI (cu)), .int (nI (sa)), .int (nI (nb)), .ref (mr), .int (nI (tn))])), (mw, .inl (cA 0, 1595, arN Z)), (mm, .inl (cA 0, 8, .inl mf)), (mi, .inl (cA 0, 320, .inl tf))] _ := hP
              have hD : va_D A [(om, .inr (8, [.ref (mw), .int (nI (ud)), .ref (mt), .int (nI (td)), .int (nI (fy)), .int (nI (0)), .ref (mm), .ref (ml), .ref (mi), .ref (mh), .int (nI (cu)), .int (nI (sa)), .int (nI (nb)), .ref (mr), .int (nI (tn))])), (mw, .inl (cA 0, 1595, arN Z)), (mm, .inl (cA 0, 8, .inl mf)), (mi, .inl (cA 0, 320, .inl tf))] := hD
              refine lv_iload hx hb dX8_fits_71 (lv_at hl 6 rfl) ?_
              refine lv_if_ne (tgt := 82) hx hb dX8_fits_73 (by decide) (fun c9 => ?_) (fun c9 => ?_)
              · skip
                rw [n_z (by omega)] at c9
                exact absurd c9 (by decide)
              · skip
                rw [n_z (by omega)] at c9
                refine lv_iconst (v := nI (5)) hx hb dX8_fits_76 (by decide) ?_
                refine lv_iload_n hx hb dX8_fits_77 rfl (lv_at hl 2 rfl) ?_
                refine lv_iadd hx hb dX8_fits_78 ?_
                refine vn_i (v := nI (5 + k)) (nI_add _ _) ?_
                refine lv_goto (tgt := 109) hx hb dX8_fits_79 (by decide) ?_
                refine lv_istore (lv' := [(7, .int (nI (5 + k))), (6, .int (nI (agN (mf r) (nI (i)) (nI (n))))), (0, .ref (om)), (1, .int (nI (k))), (2, .int (nI (r))), (3, .int (nI (i))), (4, .int (nI (n))), (5, .int (nI (0)))]) hx hb dX8_fits_109 hl (by decide) rfl (fun ls hl => ?_)
                refine lv_iload hx hb dX8_fits_111 (lv_at hl 7 rfl) ?_
                refine lv_iconst (v := nI (2)) hx hb dX8_fits_113 (by decide) ?_
                refine lv_icmp_ne (tgt := 121) hx hb dX8_fits_114 (by decide) (fun c10 => ?_) (fun c10 => ?_)
                · skip
                  rw [nI_eq (by omega) (by omega)] at c10
                  refine lv_iload hx hb dX8_fits_121 (lv_at hl 7 rfl) ?_
                  refine lv_iconst (v := nI (3)) hx hb dX8_fits_123 (by decide) ?_
                  refine lv_icmp_ne (tgt := 131) hx hb dX8_fits_124 (by decide) (fun c11 => ?_) (fun c11 => ?_)
                  · skip
                    rw [nI_eq (by omega) (by omega)] at c11
                    refine lv_iconst (v := nI (1)) hx hb dX8_fits_131 (by decide) ?_
                    refine lv_istore (lv' := [(8, .int (nI (1))), (7, .int (nI (5 + k))), (6, .int (nI (agN (mf r) (nI (i)) (nI (n))))), (0, .ref (om)), (1, .int (nI (k))), (2, .int (nI (r))), (3, .int (nI (i))), (4, .int (nI (n))), (5, .int (nI (0)))]) hx hb dX8_fits_132 hl (by decide) rfl (fun ls hl => ?_)
                    refine lv_iload hx hb dX8_fits_134 (lv_at hl 8 rfl) ?_
                    refine lv_if_ne (tgt := 143) hx hb dX8_fits_136 (by decide) (fun c12 => ?_) (fun c12 => ?_)
                    · skip
                      rw [n_z (by omega)] at c12
                      exact absurd c12 (by decide)
                    · skip
                      rw [n_z (by omega)] at c12
                      refine lv_iconst (v := nI (5)) hx hb dX8_fits_139 (by decide) ?_
                      refine lv_goto (tgt := 156) hx hb dX8_fits_140 (by decide) ?_
                      refine lv_istore (lv' := [(9, .int (nI (5))), (8, .int (nI (1))), (7, .int (nI (5 + k))), (6, .int (nI (agN (mf r) (nI (i)) (nI (n))))), (0, .ref (om)), (1, .int (nI (k))), (2, .int (nI (r))), (3, .int (nI (i))), (4, .int (nI (n))), (5, .int (nI (0)))]) hx hb dX8_fits_156 hl (by decide) rfl (fun ls hl => ?_)
                      refine lv_iconst (v := nI (0)) hx hb dX8_fits_158 (by decide) ?_
                      refine lv_istore (lv' := [(10, .int (nI (0))), (9, .int (nI (5))), (8, .int (nI (1))), (7, .int (nI (5 + k))), (6, .int (nI (agN (mf r) (nI (i)) (nI (n))))), (0, .ref (om)), (1, .int (nI (k))), (2, .int (nI (r))), (3, .int (nI (i))), (4, .int (nI (n))), (5, .int (nI (0)))]) hx hb dX8_fits_159 hl (by decide) rfl (fun ls hl => ?_)
                      refine lv_iload hx hb dX8_fits_161 (lv_at hl 2 rfl) ?_
                      refine lv_istore (lv' := [(11, .int (nI (1))), (10, .int (nI (0))), (9, .int (nI (5))), (8, .int (nI (1))), (7, .int (nI (5 + k))), (6, .int (nI (agN (mf r) (nI (i)) (nI (n))))), (0, .ref (om)), (1, .int (nI (k))), (2, .int (nI (r))), (3, .int (nI (i))), (4, .int (nI (n))), (5, .int (nI (0)))]) hx hb dX8_fits_163 hl (by decide) rfl (fun ls hl => ?_)
                      have loop165 : ∀ (N165 : Nat) (z : Nat) (V : Nat → Nat), (1 + z ≤ 6) → (off5 V Z) → (6 - z) < N165 → ∀ (H : Heap) (locs : List Loc) (ls : Array Slot), va_P D vwCl [(om, .inr (8, [.ref (mw), .int (nI (ud)), .ref (mt), .int (nI (td)), .int (nI (fy)), .int (nI (0)), .ref (mm), .ref (ml), .ref (mi), .ref (mh), .int (nI (cu)), .int (nI (sa)), .int (nI (nb)), .ref (mr), .int (nI (tn))])), (mw, .inl (cA 0, 1595, arN V)), (mm, .inl (cA 0, 8, .inl mf)), (mi, .inl (cA 0, 320, .inl tf))] H → va_D A [(om, .inr (8, [.ref (mw), .int (nI (ud)), .ref (mt), .int (nI (td)), .int (nI (fy)), .int (nI (0)), .ref (mm), .ref (ml), .ref (mi), .ref (mh), .int (nI (cu)), .int (nI (sa)), .int (nI (nb)), .ref (mr), .int (nI (tn))])), (mw, .inl (cA 0, 1595, arN V)), (mm, .inl (cA 0, 8, .inl mf)), (mi, .inl (cA 0, 320, .inl tf))] → va_S A s.heap H locs → lv_has ls 12 [(11, .int (nI (1 + z))), (10, .int (nI (ftL Z k tf (40 * r + i) n (5 + k) 1 z))), (9, .int (nI (5))), (8, .int (nI (1))), (7, .int (nI (5 + k))), (6, .int (nI (agN (mf r) (nI (i)) (nI (n))))), (0, .ref (om)), (1, .int (nI (k))), (2, .int (nI (r))), (3, .int (nI (i))), (4, .int (nI (n))), (5, .int (nI (0)))] → W p l e ({ frames := 5, cells := 0, slots := 0, locals := 115 } : Room) s m ([.ref (om), .int (pk), .int (pr), .int (pi), .int (pn), .int (ph)] : List Value).toArray below meth c H locs 0 0 Q (F0 m 165 ls []) := by
                        intro N165
                        induction N165 with
                        | zero => intro z V iv165_0 iv165_1 hN; exact absurd hN (Nat.not_lt_zero _)
                        | succ N165 ih165 =>
                          intro z V iv165_0 iv165_1 hN165 H locs ls hP hD hS hl
                          have hV : off5 V Z := iv165_1
                          obtain ⟨hy1, hy2, hy3, hy4⟩ := try_ok (off_wf hV hg)
                          refine lv_iload hx hb dX8_fits_165 (lv_at hl 0 rfl) ?_
                          refine lv_iload hx hb dX8_fits_167 (lv_at hl 2 rfl) ?_
                          refine lv_icmp_gt (tgt := 223) hx hb dX8_fits_169 (by decide) (fun c14 => ?_) (fun c14 => ?_)
                          · skip
                            rw [nI_ltI (by omega) (by omega)] at c14
                            refine lv_iload hx hb dX8_fits_223 (lv_at hl 1 rfl) ?_
                            have ef15 : ([(om, .inr (8, [.ref (mw), .int (nI (ud)), .ref (mt), .int (nI (td)), .int (nI (fy)), .int (nI (0)), .ref (mm), .ref (ml), .ref (mi), .ref (mh), .int (nI (cu)), .int (nI (sa)), .int (nI (nb)), .ref (mr), .int (nI (tn))])), (mw, .inl (cA 0, 1595, arN V)), (mm, .inl (cA 0, 8, .inl mf)), (mi, .inl (cA 0, 320, .inl tf))] : va_W) = [(om, .inr (8, [.ref (mw), .int (nI (ud)), .ref (mt), .int (nI (td)), .int (nI (fy)), .int (nI ((fitsS Z mf pk pr pi pn ph su))), .ref (mm), .ref (ml), .ref (mi), .ref (mh), .int (nI (cu)), .int (nI (sa)), .int (nI (nb)), .ref (mr), .int (nI (tn))])), (mw, .inl (cA 0, 1595, arN (mx Z (SK (0, 0, 0, 0, 0, V, SP (sg Z 0), SD (sg Z 0), SG (sg Z 0), SS (sg Z 0)))))), (mm, .inl (cA 0, 8, .inl mf)), (mi, .inl (cA 0, 320, .inl tf))] := by
                              rw [show mx Z (SK (0, 0, 0, 0, 0, V, SP (sg Z 0), SD (sg Z 0), SG (sg Z 0), SS (sg Z 0))) = V from mx_of hV]
                              rw [show fitsS Z mf pk pr pi pn ph su = 0 from by unfold fitsS; rw [if_pos (by simp [c1, c3, c5, c7]), e_r, e_n, nI_clamp (n := r) (by omega)]; omega]
                            have hP : va_P D vwCl [(om, .inr (8, [.ref (mw), .int (nI (ud)), .ref (mt), .int (nI (td)), .int (nI (fy)), .int (nI ((fitsS Z mf pk pr pi pn ph su))), .ref (mm), .ref (ml), .ref (mi), .ref (mh), .int (nI (cu)), .int (nI (sa)), .int (nI (nb)), .ref (mr), .int (nI (tn))])), (mw, .inl (cA 0, 1595, arN (mx Z (SK (0, 0, 0, 0, 0, V, SP (sg Z 0), SD (sg Z 0), SG (sg Z 0), SS (sg Z 0)))))), (mm, .inl (cA 0, 8, .inl mf)), (mi, .inl (cA 0, 320, .inl tf))] _ := Eq.mp (congrArg (fun z9 => va_P D vwCl z9 _) ef15) hP
                            have hD : va_D A [(om, .inr (8, [.ref (mw), .int (nI (ud)), .ref (mt), .int (nI (td)), .int (nI (fy)), .int (nI ((fitsS Z mf pk pr pi pn ph su))), .ref (mm), .ref (ml), .ref (mi), .ref (mh), .int (nI (cu)), .int (nI (sa)), .int (nI (nb)), .ref (mr), .int (nI (tn))])), (mw, .inl (cA 0, 1595, arN (mx Z (SK (0, 0, 0, 0, 0, V, SP (sg Z 0), SD (sg Z 0), SG (sg Z 0), SS (sg Z 0)))))), (mm, .inl (cA 0, 8, .inl mf)), (mi, .inl (cA 0, 320, .inl tf))] := Eq.mp (congrArg (fun z9 => va_D A z9) ef15) hD
                            exact hend _ _ _ _ _ (0, 0, 0, 0, 0, V, SP (sg Z 0), SD (sg Z 0), SG (sg Z 0), SS (sg Z 0)) hP hD hS (by unfold fitsM; rw [if_pos (by simp [c1, c3, c5, c7]), e_k, e_r, e_n, e_h, nI_clamp (n := k) (by omega), nI_clamp (n := r) (by omega), nI_clamp (n := n) (by omega), nI_clamp (n := 0) (by omega), if_pos (by omega), e_i, nI_clamp (n := i) (by omega)]; exact congrArg nI (congrArg (ftL Z k tf (40 * r + i) n _ _) (by show z = 5; omega))) dX8_fits_225
                          · skip
                            rw [nI_ltI (by omega) (by omega)] at c14
                            refine lv_aload_n hx hb dX8_fits_172 rfl (lv_at hl 6 rfl) ?_
                            refine cVv (n := 0) (As := []) (rest := []) (C := RX8) (ci := 8) (q0 := 0) (X := [(om, .inr (8, [.ref (mw), .int (nI (ud)), .ref (mt), .int (nI (td)), .int (nI (fy)), .int (nI (0)), .ref (mm), .ref (ml), .ref (mi), .ref (mh), .int (nI (cu)), .int (nI (sa)), .int (nI (nb)), .ref (mr), .int (nI (tn))])), (mw, .inl (cA 0, 1595, arN V)), (mm, .inl (cA 0, 8, .inl mf)), (mi, .inl (cA 0, 320, .inl tf))]) (pl := []) (wc := [(om, .inr (8, [.ref (mw), .int (nI (ud)), .ref (mt), .int (nI (td)), .int (nI (fy)), .int (nI (0)), .ref (mm), .ref (ml), .ref (mi), .ref (mh), .int (nI (cu)), .int (nI (sa)), .int (nI (nb)), .ref (mr), .int (nI (tn))])), (mw, .inl (cA 0, 1595, arN V))]) (wr := [(mm, .inl (cA 0, 8, .inl mf)), (mi, .inl (cA 0, 320, .inl tf))]) (w1 := [(om, .inr (8, [.ref (mw), .int (nI (ud)), .ref (mt), .int (nI (td)), .int (nI (fy)), .int (nI (0)), .ref (mm), .ref (ml), .ref (mi), .ref (mh), .int (nI (cu)), .int (nI (sa)), .int (nI (nb)), .ref (mr), .int (nI (tn))])), (mw, .inl (cA 0, 1595, arN (cpW V 0 55)))]) (wn := [(om, .inr (8, [.ref (mw), .int (nI (ud)), .ref (mt), .int (nI (td)), .int (nI (fy)), .int (nI (0)), .ref (mm), .ref (ml), .ref (mi), .ref (mh), .int (nI (cu)), .int (nI (sa)), .int (nI (nb)), .ref (mr), .int (nI (tn))])), (mw, .inl (cA 0, 1595, arN (cpW V 0 55))), (mm, .inl (cA 0, 8, .inl mf)), (mi, .inl (cA 0, 320, .inl tf))]) (isC := [0, 1]) (isR := [2, 3]) (isN := [2, 3, 0, 1]) ⟨hx, hb, hml, hown, hts⟩ (c_X8_tries l D cA tt om mw mt mm ml mi mh mr ud td fy 0 cu sa nb tn V  _) gX8_fits_X8_tries rfl (by decide +kernel) rfl rfl ⟨rfl, rfl⟩ ⟨Nat.le_of_ble_eq_true rfl, Nat.le_of_ble_eq_true rfl⟩ ⟨Nat.zero_le _, Nat.zero_le _⟩ hK hE hA hP hD hS ⟨⟨rfl, by decide⟩, ⟨rfl, by decide, by decide⟩, rfl, by decide⟩ rfl hl.1 rfl (Nat.le_of_ble_eq_true rfl) dX8_fits_173 (fun H locs hP hD hS => ?_)
                            have hP : va_P D vwCl [(om, .inr (8, [.ref (mw), .int (nI (ud)), .ref (mt), .int (nI (td)), .int (nI (fy)), .int (nI (0)), .ref (mm), .ref (ml), .ref (mi), .ref (mh), .int (nI (cu)), .int (nI (sa)), .int (nI (nb)), .ref (mr), .int (nI (tn))])), (mw, .inl (cA 0, 1595, arN (cpW V 0 55))), (mm, .inl (cA 0, 8, .inl mf)), (mi, .inl (cA 0, 320, .inl tf))] _ := hP
                            have hD : va_D A [(om, .inr (8, [.ref (mw), .int (nI (ud)), .ref (mt), .int (nI (td)), .int (nI (fy)), .int (nI (0)), .ref (mm), .ref (ml), .ref (mi), .ref (mh), .int (nI (cu)), .int (nI (sa)), .int (nI (nb)), .ref (mr), .int (nI (tn))])), (mw, .inl (cA 0, 1595, arN (cpW V 0 55))), (mm, .inl (cA 0, 8, .inl mf)), (mi, .inl (cA 0, 320, .inl tf))] := hD
                            refine lv_aload_n hx hb dX8_fits_176 rfl (lv_at hl 6 rfl) ?_
                            refine va_get (v := .ref (mw)) (Ts := wsX80) (C := RX8) (T := TX8) (N := 15) hx hb hwsX80 (fun _ h => h) hown hK hP 0 rfl rfl 0 (by decide) (hts (.fieldLink RX8 7 "AdventStreetsModel" "w" "[I") (List.mem_of_getElem? (i := 5) rfl)) (fun _ h9 => h9) rfl dX8_fits_177 ?_
                            refine lv_bipush (v := nI (55)) hx hb dX8_fits_180 (by decide) ?_
                            refine lv_iload hx hb dX8_fits_182 (lv_at hl 4 rfl) ?_
                            refine lv_iadd hx hb dX8_fits_184 ?_
                            refine vn_i (v := nI (55 + (5 + k))) (nI_add _ _) ?_
                            refine lv_iload hx hb dX8_fits_185 (lv_at hl 0 rfl) ?_
                            refine r_ast (f := (cpW V 0 55)) hx hb hK hP hD hS 1 rfl (i := 55 + (5 + k)) (by omega) (Nat.lt_of_lt_of_le (by omega : 1595 < 1073741824) (by decide)) dX8_fits_187 (fun H locs hP hD hS => ?_)
                            have hP : va_P D vwCl [(om, .inr (8, [.ref (mw), .int (nI (ud)), .ref (mt), .int (nI (td)), .int (nI (fy)), .int (nI (0)), .ref (mm), .ref (ml), .ref (mi), .ref (mh), .int (nI (cu)), .int (nI (sa)), .int (nI (nb)), .ref (mr), .int (nI (tn))])), (mw, .inl (cA 0, 1595, arN (upN (cpW V 0 55) (55 + (5 + k)) (1 + z)))), (mm, .inl (cA 0, 8, .inl mf)), (mi, .inl (cA 0, 320, .inl tf))] _ := hP
                            have hD : va_D A [(om, .inr (8, [.ref (mw), .int (nI (ud)), .ref (mt), .int (nI (td)), .int (nI (fy)), .int (nI (0)), .ref (mm), .ref (ml), .ref (mi), .ref (mh), .int (nI (cu)), .int (nI (sa)), .int (nI (nb)), .ref (mr), .int (nI (tn))])), (mw, .inl (cA 0, 1595, arN (upN (cpW V 0 55) (55 + (5 + k)) (1 + z)))), (mm, .inl (cA 0, 8, .inl mf)), (mi, .inl (cA 0, 320, .inl tf))] := hD
                            refine lv_iload hx hb dX8_fits_188 (lv_at hl 1 rfl) ?_
                            refine lv_aload_n hx hb dX8_fits_190 rfl (lv_at hl 6 rfl) ?_
                            refine lv_iload_n hx hb dX8_fits_191 rfl (lv_at hl 7 rfl) ?_
                            refine lv_bipush (v := nI (40)) hx hb dX8_fits_192 (by decide) ?_
                            refine lv_iload_n hx hb dX8_fits_194 rfl (lv_at hl 8 rfl) ?_
                            refine lv_imul hx hb dX8_fits_195 ?_
                            refine vn_i (v := nI (40 * r)) (pk_mul _ _) ?_
                            refine lv_iload_n hx hb dX8_fits_196 rfl (lv_at hl 9 rfl) ?_
                            refine lv_iadd hx hb dX8_fits_197 ?_
                            refine vn_i (v := nI (40 * r + i)) (nI_add _ _) ?_
                            refine lv_iload hx hb dX8_fits_198 (lv_at hl 10 rfl) ?_
                            refine cVi (n := 3) (As := [.int (nI (k)), .int (nI (40 * r + i)), .int (nI (n))]) (rest := [.int (nI (ftL Z k tf (40 * r + i) n (5 + k) 1 z))]) (C := RX8) (ci := 8) (q0 := 0) (X := [(om, .inr (8, [.ref (mw), .int (nI (ud)), .ref (mt), .int (nI (td)), .int (nI (fy)), .int (nI (0)), .ref (mm), .ref (ml), .ref (mi), .ref (mh), .int (nI (cu)), .int (nI (sa)), .int (nI (nb)), .ref (mr), .int (nI (tn))])), (mw, .inl (cA 0, 1595, arN (upN (cpW V 0 55) (55 + (5 + k)) (1 + z)))), (mm, .inl (cA 0, 8, .inl mf)), (mi, .inl (cA 0, 320, .inl tf))]) (pl := []) (wc := [(om, .inr (8, [.ref (mw), .int (nI (ud)), .ref (mt), .int (nI (td)), .int (nI (fy)), .int (nI (0)), .ref (mm), .ref (ml), .ref (mi), .ref (mh), .int (nI (cu)), .int (nI (sa)), .int (nI (nb)), .ref (mr), .int (nI (tn))])), (mw, .inl (cA 0, 1595, arN (upN (cpW V 0 55) (55 + (5 + k)) (1 + z)))), (mi, .inl (cA 0, 320, .inl tf))]) (wr := [(mm, .inl (cA 0, 8, .inl mf))]) (w1 := [(om, .inr (8, [.ref (mw), .int (nI (ud)), .ref (mt), .int (nI (td)), .int (nI (fy)), .int (nI (0)), .ref (mm), .ref (ml), .ref (mi), .ref (mh), .int (nI (cu)), .int (nI (sa)), .int (nI (nb)), .ref (mr), .int (nI (tn))])), (mw, .inl (cA 0, 1595, arN (goW (upN (cpW V 0 55) (55 + (5 + k)) (1 + z)) (soN (upN (cpW V 0 55) (55 + (5 + k)) (1 + z)) k tf (40 * r + i) n)))), (mi, .inl (cA 0, 320, .inl tf))]) (wn := [(om, .inr (8, [.ref (mw), .int (nI (ud)), .ref (mt), .int (nI (td)), .int (nI (fy)), .int (nI (0)), .ref (mm), .ref (ml), .ref (mi), .ref (mh), .int (nI (cu)), .int (nI (sa)), .int (nI (nb)), .ref (mr), .int (nI (tn))])), (mw, .inl (cA 0, 1595, arN (goW (upN (cpW V 0 55) (55 + (5 + k)) (1 + z)) (soN (upN (cpW V 0 55) (55 + (5 + k)) (1 + z)) k tf (40 * r + i) n)))), (mm, .inl (cA 0, 8, .inl mf)), (mi, .inl (cA 0, 320, .inl tf))]) (isC := [0, 1, 3]) (isR := [2]) (isN := [1, 2, 0, 3]) ⟨hx, hb, hml, hown, hts⟩ (c_X8_isSo l D cA tt om mw mt mm ml mi mh mr ud td fy 0 cu sa nb tn (upN (cpW V 0 55) (55 + (5 + k)) (1 + z)) tf k (40 * r + i) n (fit_wf hy1 (by omega) (by omega)) (by rw [upN_n (by omega), hy3, hV 1 (by omega)]; exact he (by omega)) (by rw [upN_n (by omega), hy4, hV 3 (by omega)]; omega) (by omega) (by omega) (by omega) _) gX8_fits_X8_isSo rfl (by decide +kernel) rfl rfl ⟨rfl, rfl⟩ ⟨Nat.le_of_ble_eq_true rfl, Nat.le_of_ble_eq_true rfl⟩ ⟨Nat.zero_le _, Nat.zero_le _⟩ hK hE hA hP hD hS ⟨⟨rfl, by decide⟩, ⟨rfl, by decide, by decide⟩, rfl, by decide⟩ rfl hl.1 rfl (Nat.le_of_ble_eq_true rfl) dX8_fits_200 (fun H locs hP hD hS => ?_)
                            have hP : va_P D vwCl [(om, .inr (8, [.ref (mw), .int (nI (ud)), .ref (mt), .int (nI (td)), .int (nI (fy)), .int (nI (0)), .ref (mm), .ref (ml), .ref (mi), .ref (mh), .int (nI (cu)), .int (nI (sa)), .int (nI (nb)), .ref (mr), .int (nI (tn))])), (mw, .inl (cA 0, 1595, arN (goW (upN (cpW V 0 55) (55 + (5 + k)) (1 + z)) (soN (upN (cpW V 0 55) (55 + (5 + k)) (1 + z)) k tf (40 * r + i) n)))), (mm, .inl (cA 0, 8, .inl mf)), (mi, .inl (cA 0, 320, .inl tf))] _ := hP
                            have hD : va_D A [(om, .inr (8, [.ref (mw), .int (nI (ud)), .ref (mt), .int (nI (td)), .int (nI (fy)), .int (nI (0)), .ref (mm), .ref (ml), .ref (mi), .ref (mh), .int (nI (cu)), .int (nI (sa)), .int (nI (nb)), .ref (mr), .int (nI (tn))])), (mw, .inl (cA 0, 1595, arN (goW (upN (cpW V 0 55) (55 + (5 + k)) (1 + z)) (soN (upN (cpW V 0 55) (55 + (5 + k)) (1 + z)) k tf (40 * r + i) n)))), (mm, .inl (cA 0, 8, .inl mf)), (mi, .inl (cA 0, 320, .inl tf))] := hD
                            refine lv_if_eq (tgt := 213) hx hb dX8_fits_203 (by decide) (fun c16 => ?_) (fun c16 => ?_)
                            · skip
                              rw [bI_z] at c16
                              refine lv_iconst (v := nI (0)) hx hb dX8_fits_213 (by decide) ?_
                              refine lv_ior hx hb dX8_fits_214 ?_
                              refine vn_i (v := nI ((ftL Z k tf (40 * r + i) n (5 + k) 1 z) ||| 0)) (n_or _ _) ?_
                              refine lv_istore (lv' := [(10, .int (nI ((ftL Z k tf (40 * r + i) n (5 + k) 1 z) ||| 0))), (11, .int (nI (1 + z))), (9, .int (nI (5))), (8, .int (nI (1))), (7, .int (nI (5 + k))), (6, .int (nI (agN (mf r) (nI (i)) (nI (n))))), (0, .ref (om)), (1, .int (nI (k))), (2, .int (nI (r))), (3, .int (nI (i))), (4, .int (nI (n))), (5, .int (nI (0)))]) hx hb dX8_fits_215 hl (by decide) rfl (fun ls hl => ?_)
                              refine lv_iinc (v := nI (1 + z + 1)) (lv' := [(11, .int (nI (1 + z + 1))), (10, .int (nI ((ftL Z k tf (40 * r + i) n (5 + k) 1 z) ||| 0))), (9, .int (nI (5))), (8, .int (nI (1))), (7, .int (nI (5 + k))), (6, .int (nI (agN (mf r) (nI (i)) (nI (n))))), (0, .ref (om)), (1, .int (nI (k))), (2, .int (nI (r))), (3, .int (nI (i))), (4, .int (nI (n))), (5, .int (nI (0)))]) hx hb dX8_fits_217 hl (k := 1) rfl (nI_add _ _) (by decide) rfl (fun ls hl => ?_)
                              refine lv_goto (tgt := 165) hx hb dX8_fits_220 (by decide) ?_
                              have hl9 := lv_sub (l' := [(11, .int (nI (1 + z + 1))), (10, .int (nI ((ftL Z k tf (40 * r + i) n (5 + k) 1 z) ||| 0))), (9, .int (nI (5))), (8, .int (nI (1))), (7, .int (nI (5 + k))), (6, .int (nI (agN (mf r) (nI (i)) (nI (n))))), (0, .ref (om)), (1, .int (nI (k))), (2, .int (nI (r))), (3, .int (nI (i))), (4, .int (nI (n))), (5, .int (nI (0)))]) hl [0, 1, 2, 3, 4, 5, 6, 7, 8, 9, 10, 11] rfl
                              have el17 : (.int (nI (1 + z + 1)) : Value) = .int (nI (1 + (z + 1))) := by
                                rfl
                              have hl9 : lv_has ls 12 [(11, .int (nI (1 + (z + 1)))), (10, .int (nI ((ftL Z k tf (40 * r + i) n (5 + k) 1 z) ||| 0))), (9, .int (nI (5))), (8, .int (nI (1))), (7, .int (nI (5 + k))), (6, .int (nI (agN (mf r) (nI (i)) (nI (n))))), (0, .ref (om)), (1, .int (nI (k))), (2, .int (nI (r))), (3, .int (nI (i))), (4, .int (nI (n))), (5, .int (nI (0)))] := Eq.mp (congrArg (fun z9 => lv_has ls 12 [(11, z9), (10, .int (nI ((ftL Z k tf (40 * r + i) n (5 + k) 1 z) ||| 0))), (9, .int (nI (5))), (8, .int (nI (1))), (7, .int (nI (5 + k))), (6, .int (nI (agN (mf r) (nI (i)) (nI (n))))), (0, .ref (om)), (1, .int (nI (k))), (2, .int (nI (r))), (3, .int (nI (i))), (4, .int (nI (n))), (5, .int (nI (0)))]) el17) hl9
                              have el18 : (.int (nI ((ftL Z k tf (40 * r + i) n (5 + k) 1 z) ||| 0)) : Value) = .int (nI (ftL Z k tf (40 * r + i) n (5 + k) 1 (z + 1))) := by
                                rw [ftL, ← cp5 hV, show soB (upN (cpW V 0 55) (55 + (5 + k)) (1 + z)) k tf (40 * r + i) n = false from c16]; rfl
                              have hl9 : lv_has ls 12 [(11, .int (nI (1 + (z + 1)))), (10, .int (nI (ftL Z k tf (40 * r + i) n (5 + k) 1 (z + 1)))), (9, .int (nI (5))), (8, .int (nI (1))), (7, .int (nI (5 + k))), (6, .int (nI (agN (mf r) (nI (i)) (nI (n))))), (0, .ref (om)), (1, .int (nI (k))), (2, .int (nI (r))), (3, .int (nI (i))), (4, .int (nI (n))), (5, .int (nI (0)))] := Eq.mp (congrArg (fun z9 => lv_has ls 12 [(11, .int (nI (1 + (z + 1)))), (10, z9), (9, .int (nI (5))), (8, .int (nI (1))), (7, .int (nI (5 + k))), (6, .int (nI (agN (mf r) (nI (i)) (nI (n))))), (0, .ref (om)), (1, .int (nI (k))), (2, .int (nI (r))), (3, .int (nI (i))), (4, .int (nI (n))), (5, .int (nI (0)))]) el18) hl9
                              exact ih165 (z + 1) (goW (upN (cpW V 0 55) (55 + (5 + k)) (1 + z)) (soN (upN (cpW V 0 55) (55 + (5 + k)) (1 + z)) k tf (40 * r + i) n)) (by omega) (off_go (fit_wf hy1 (by omega) (by omega)) (off_up (off_cp hV) (by omega)) _) (by omega) _ _ _ hP hD hS hl9
                            · skip
                              rw [bI_nz] at c16
                              refine lv_iconst (v := nI (1)) hx hb dX8_fits_206 (by decide) ?_
                              refine lv_iload hx hb dX8_fits_207 (lv_at hl 0 rfl) ?_
                              refine lv_ishl hx hb dX8_fits_209 ?_
                              refine vn_i (v := nI (2 ^ (1 + z))) (n_shl1 (by omega)) ?_
                              refine lv_goto (tgt := 214) hx hb dX8_fits_210 (by decide) ?_
                              refine lv_ior hx hb dX8_fits_214 ?_
                              refine vn_i (v := nI ((ftL Z k tf (40 * r + i) n (5 + k) 1 z) ||| (2 ^ (1 + z)))) (n_or _ _) ?_
                              refine lv_istore (lv' := [(10, .int (nI ((ftL Z k tf (40 * r + i) n (5 + k) 1 z) ||| (2 ^ (1 + z))))), (11, .int (nI (1 + z))), (9, .int (nI (5))), (8, .int (nI (1))), (7, .int (nI (5 + k))), (6, .int (nI (agN (mf r) (nI (i)) (nI (n))))), (0, .ref (om)), (1, .int (nI (k))), (2, .int (nI (r))), (3, .int (nI (i))), (4, .int (nI (n))), (5, .int (nI (0)))]) hx hb dX8_fits_215 hl (by decide) rfl (fun ls hl => ?_)
                              refine lv_iinc (v := nI (1 + z + 1)) (lv' := [(11, .int (nI (1 + z + 1))), (10, .int (nI ((ftL Z k tf (40 * r + i) n (5 + k) 1 z) ||| (2 ^ (1 + z))))), (9, .int (nI (5))), (8, .int (nI (1))), (7, .int (nI (5 + k))), (6, .int (nI (agN (mf r) (nI (i)) (nI (n))))), (0, .ref (om)), (1, .int (nI (k))), (2, .int (nI (r))), (3, .int (nI (i))), (4, .int (nI (n))), (5, .int (nI (0)))]) hx hb dX8_fits_217 hl (k := 1) rfl (nI_add _ _) (by decide) rfl (fun ls hl => ?_)
                              refine lv_goto (tgt := 165) hx hb dX8_fits_220 (by decide) ?_
                              have hl9 := lv_sub (l' := [(11, .int (nI (1 + z + 1))), (10, .int (nI ((ftL Z k tf (40 * r + i) n (5 + k) 1 z) ||| (2 ^ (1 + z))))), (9, .int (nI (5))), (8, .int (nI (1))), (7, .int (nI (5 + k))), (6, .int (nI (agN (mf r) (nI (i)) (nI (n))))), (0, .ref (om)), (1, .int (nI (k))), (2, .int (nI (r))), (3, .int (nI (i))), (4, .int (nI (n))), (5, .int (nI (0)))]) hl [0, 1, 2, 3, 4, 5, 6, 7, 8, 9, 10, 11] rfl
                              have el19 : (.int (nI (1 + z + 1)) : Value) = .int (nI (1 + (z + 1))) := by
                                rfl
                              have hl9 : lv_has ls 12 [(11, .int (nI (1 + (z + 1)))), (10, .int (nI ((ftL Z k tf (40 * r + i) n (5 + k) 1 z) ||| (2 ^ (1 + z))))), (9, .int (nI (5))), (8, .int (nI (1))), (7, .int (nI (5 + k))), (6, .int (nI (agN (mf r) (nI (i)) (nI (n))))), (0, .ref (om)), (1, .int (nI (k))), (2, .int (nI (r))), (3, .int (nI (i))), (4, .int (nI (n))), (5, .int (nI (0)))] := Eq.mp (congrArg (fun z9 => lv_has ls 12 [(11, z9), (10, .int (nI ((ftL Z k tf (40 * r + i) n (5 + k) 1 z) ||| (2 ^ (1 + z))))), (9, .int (nI (5))), (8, .int (nI (1))), (7, .int (nI (5 + k))), (6, .int (nI (agN (mf r) (nI (i)) (nI (n))))), (0, .ref (om)), (1, .int (nI (k))), (2, .int (nI (r))), (3, .int (nI (i))), (4, .int (nI (n))), (5, .int (nI (0)))]) el19) hl9
                              have el20 : (.int (nI ((ftL Z k tf (40 * r + i) n (5 + k) 1 z) ||| (2 ^ (1 + z)))) : Value) = .int (nI (ftL Z k tf (40 * r + i) n (5 + k) 1 (z + 1))) := by
                                rw [ftL, ← cp5 hV, show soB (upN (cpW V 0 55) (55 + (5 + k)) (1 + z)) k tf (40 * r + i) n = true from c16]; rfl
                              have hl9 : lv_has ls 12 [(11, .int (nI (1 + (z + 1)))), (10, .int (nI (ftL Z k tf (40 * r + i) n (5 + k) 1 (z + 1)))), (9, .int (nI (5))), (8, .int (nI (1))), (7, .int (nI (5 + k))), (6, .int (nI (agN (mf r) (nI (i)) (nI (n))))), (0, .ref (om)), (1, .int (nI (k))), (2, .int (nI (r))), (3, .int (nI (i))), (4, .int (nI (n))), (5, .int (nI (0)))] := Eq.mp (congrArg (fun z9 => lv_has ls 12 [(11, .int (nI (1 + (z + 1)))), (10, z9), (9, .int (nI (5))), (8, .int (nI (1))), (7, .int (nI (5 + k))), (6, .int (nI (agN (mf r) (nI (i)) (nI (n))))), (0, .ref (om)), (1, .int (nI (k))), (2, .int (nI (r))), (3, .int (nI (i))), (4, .int (nI (n))), (5, .int (nI (0)))]) el20) hl9
                              exact ih165 (z + 1) (goW (upN (cpW V 0 55) (55 + (5 + k)) (1 + z)) (soN (upN (cpW V 0 55) (55 + (5 + k)) (1 + z)) k tf (40 * r + i) n)) (by omega) (off_go (fit_wf hy1 (by omega) (by omega)) (off_up (off_cp hV) (by omega)) _) (by omega) _ _ _ hP hD hS hl9
                      have hl9 := lv_sub (l' := [(11, .int (nI (1))), (10, .int (nI (0))), (9, .int (nI (5))), (8, .int (nI (1))), (7, .int (nI (5 + k))), (6, .int (nI (agN (mf r) (nI (i)) (nI (n))))), (0, .ref (om)), (1, .int (nI (k))), (2, .int (nI (r))), (3, .int (nI (i))), (4, .int (nI (n))), (5, .int (nI (0)))]) hl [0, 1, 2, 3, 4, 5, 6, 7, 8, 9, 10, 11] rfl
                      have el21 : (.int (nI (1)) : Value) = .int (nI (1 + 0)) := by
                        rfl
                      have hl9 : lv_has ls 12 [(11, .int (nI (1 + 0))), (10, .int (nI (0))), (9, .int (nI (5))), (8, .int (nI (1))), (7, .int (nI (5 + k))), (6, .int (nI (agN (mf r) (nI (i)) (nI (n))))), (0, .ref (om)), (1, .int (nI (k))), (2, .int (nI (r))), (3, .int (nI (i))), (4, .int (nI (n))), (5, .int (nI (0)))] := Eq.mp (congrArg (fun z9 => lv_has ls 12 [(11, z9), (10, .int (nI (0))), (9, .int (nI (5))), (8, .int (nI (1))), (7, .int (nI (5 + k))), (6, .int (nI (agN (mf r) (nI (i)) (nI (n))))), (0, .ref (om)), (1, .int (nI (k))), (2, .int (nI (r))), (3, .int (nI (i))), (4, .int (nI (n))), (5, .int (nI (0)))]) el21) hl9
                      have el22 : (.int (nI (0)) : Value) = .int (nI (ftL Z k tf (40 * r + i) n (5 + k) 1 0)) := by
                        rfl
                      have hl9 : lv_has ls 12 [(11, .int (nI (1 + 0))), (10, .int (nI (ftL Z k tf (40 * r + i) n (5 + k) 1 0))), (9, .int (nI (5))), (8, .int (nI (1))), (7, .int (nI (5 + k))), (6, .int (nI (agN (mf r) (nI (i)) (nI (n))))), (0, .ref (om)), (1, .int (nI (k))), (2, .int (nI (r))), (3, .int (nI (i))), (4, .int (nI (n))), (5, .int (nI (0)))] := Eq.mp (congrArg (fun z9 => lv_has ls 12 [(11, .int (nI (1 + 0))), (10, z9), (9, .int (nI (5))), (8, .int (nI (1))), (7, .int (nI (5 + k))), (6, .int (nI (agN (mf r) (nI (i)) (nI (n))))), (0, .ref (om)), (1, .int (nI (k))), (2, .int (nI (r))), (3, .int (nI (i))), (4, .int (nI (n))), (5, .int (nI (0)))]) el22) hl9
                      exact loop165 _ 0 Z (by omega) (fun j hj => rfl) (Nat.lt_succ_self _) _ _ _ hP hD hS hl9
                  · skip
                    rw [nI_eq (by omega) (by omega)] at c11
                    exact absurd c11 (by decide)
                · skip
                  rw [nI_eq (by omega) (by omega)] at c10
                  exact absurd c10 (by decide)
            · skip
              subst hh4
              refine lv_aload_n hx hb dX8_fits_66 rfl (lv_at hl 1 rfl) ?_
              refine lv_iconst (v := nI (0)) hx hb dX8_fits_67 (by decide) ?_
              refine va_put (v := .int (nI (0))) (ty := .int) (Ts := wsX80) (C := RX8) (T := TX8) (N := 15) hx hb hwsX80 (fun _ h => h) tyX8 tyX8_ok nmX8 hown hK hP hD hS 0 rfl rfl 5 (by decide) (hts (.fieldLink RX8 37 "AdventStreetsModel" "status" "I") (List.mem_of_getElem? (i := 4) rfl)) (fun _ h9 => h9) rfl (tyX8_ok 5 (by decide)) rfl rfl (Nat.le_of_ble_eq_true rfl) dX8_fits_68 (fun H locs hP hD hS => ?_)
              have hP : va_P D vwCl [(om, .inr (8, [.ref (mw), .int (nI (ud)), .ref (mt), .int (nI (td)), .int (nI (fy)), .int (nI (0)), .ref (mm), .ref (ml), .ref (mi), .ref (mh), .int (nI (cu)), .int (nI (sa)), .int (nI (nb)), .ref (mr), .int (nI (tn))])), (mw, .inl (cA 0, 1595, arN Z)), (mm, .inl (cA 0, 8, .inl mf)), (mi, .inl (cA 0, 320, .inl tf))] _ := hP
              have hD : va_D A [(om, .inr (8, [.ref (mw), .int (nI (ud)), .ref (mt), .int (nI (td)), .int (nI (fy)), .int (nI (0)), .ref (mm), .ref (ml), .ref (mi), .ref (mh), .int (nI (cu)), .int (nI (sa)), .int (nI (nb)), .ref (mr), .int (nI (tn))])), (mw, .inl (cA 0, 1595, arN Z)), (mm, .inl (cA 0, 8, .inl mf)), (mi, .inl (cA 0, 320, .inl tf))] := hD
              refine lv_iload hx hb dX8_fits_71 (lv_at hl 6 rfl) ?_
              refine lv_if_ne (tgt := 82) hx hb dX8_fits_73 (by decide) (fun c23 => ?_) (fun c23 => ?_)
              · skip
                rw [n_z (by omega)] at c23
                refine lv_iload hx hb dX8_fits_82 (lv_at hl 6 rfl) ?_
                refine lv_iconst (v := nI (1)) hx hb dX8_fits_84 (by decide) ?_
                refine lv_icmp_ne (tgt := 95) hx hb dX8_fits_85 (by decide) (fun c24 => ?_) (fun c24 => ?_)
                · skip
                  rw [nI_eq (by omega) (by omega)] at c24
                  exact absurd c24 (by decide)
                · skip
                  rw [nI_eq (by omega) (by omega)] at c24
                  refine lv_bipush (v := nI (25)) hx hb dX8_fits_88 (by decide) ?_
                  refine lv_iload_n hx hb dX8_fits_90 rfl (lv_at hl 2 rfl) ?_
                  refine lv_iadd hx hb dX8_fits_91 ?_
                  refine vn_i (v := nI (25 + k)) (nI_add _ _) ?_
                  refine lv_goto (tgt := 109) hx hb dX8_fits_92 (by decide) ?_
                  refine lv_istore (lv' := [(7, .int (nI (25 + k))), (6, .int (nI (agN (mf r) (nI (i)) (nI (n))))), (0, .ref (om)), (1, .int (nI (k))), (2, .int (nI (r))), (3, .int (nI (i))), (4, .int (nI (n))), (5, .int (nI (1)))]) hx hb dX8_fits_109 hl (by decide) rfl (fun ls hl => ?_)
                  refine lv_iload hx hb dX8_fits_111 (lv_at hl 7 rfl) ?_
                  refine lv_iconst (v := nI (2)) hx hb dX8_fits_113 (by decide) ?_
                  refine lv_icmp_ne (tgt := 121) hx hb dX8_fits_114 (by decide) (fun c25 => ?_) (fun c25 => ?_)
                  · skip
                    rw [nI_eq (by omega) (by omega)] at c25
                    refine lv_iload hx hb dX8_fits_121 (lv_at hl 7 rfl) ?_
                    refine lv_iconst (v := nI (3)) hx hb dX8_fits_123 (by decide) ?_
                    refine lv_icmp_ne (tgt := 131) hx hb dX8_fits_124 (by decide) (fun c26 => ?_) (fun c26 => ?_)
                    · skip
                      rw [nI_eq (by omega) (by omega)] at c26
                      refine lv_iconst (v := nI (1)) hx hb dX8_fits_131 (by decide) ?_
                      refine lv_istore (lv' := [(8, .int (nI (1))), (7, .int (nI (25 + k))), (6, .int (nI (agN (mf r) (nI (i)) (nI (n))))), (0, .ref (om)), (1, .int (nI (k))), (2, .int (nI (r))), (3, .int (nI (i))), (4, .int (nI (n))), (5, .int (nI (1)))]) hx hb dX8_fits_132 hl (by decide) rfl (fun ls hl => ?_)
                      refine lv_iload hx hb dX8_fits_134 (lv_at hl 8 rfl) ?_
                      refine lv_if_ne (tgt := 143) hx hb dX8_fits_136 (by decide) (fun c27 => ?_) (fun c27 => ?_)
                      · skip
                        rw [n_z (by omega)] at c27
                        refine lv_iload hx hb dX8_fits_143 (lv_at hl 8 rfl) ?_
                        refine lv_iconst (v := nI (2)) hx hb dX8_fits_145 (by decide) ?_
                        refine lv_icmp_ne (tgt := 154) hx hb dX8_fits_146 (by decide) (fun c28 => ?_) (fun c28 => ?_)
                        · skip
                          rw [nI_eq (by omega) (by omega)] at c28
                          refine lv_bipush (v := nI (24)) hx hb dX8_fits_154 (by decide) ?_
                          refine lv_istore (lv' := [(9, .int (nI (24))), (8, .int (nI (1))), (7, .int (nI (25 + k))), (6, .int (nI (agN (mf r) (nI (i)) (nI (n))))), (0, .ref (om)), (1, .int (nI (k))), (2, .int (nI (r))), (3, .int (nI (i))), (4, .int (nI (n))), (5, .int (nI (1)))]) hx hb dX8_fits_156 hl (by decide) rfl (fun ls hl => ?_)
                          refine lv_iconst (v := nI (0)) hx hb dX8_fits_158 (by decide) ?_
                          refine lv_istore (lv' := [(10, .int (nI (0))), (9, .int (nI (24))), (8, .int (nI (1))), (7, .int (nI (25 + k))), (6, .int (nI (agN (mf r) (nI (i)) (nI (n))))), (0, .ref (om)), (1, .int (nI (k))), (2, .int (nI (r))), (3, .int (nI (i))), (4, .int (nI (n))), (5, .int (nI (1)))]) hx hb dX8_fits_159 hl (by decide) rfl (fun ls hl => ?_)
                          refine lv_iload hx hb dX8_fits_161 (lv_at hl 2 rfl) ?_
                          refine lv_istore (lv' := [(11, .int (nI (1))), (10, .int (nI (0))), (9, .int (nI (24))), (8, .int (nI (1))), (7, .int (nI (25 + k))), (6, .int (nI (agN (mf r) (nI (i)) (nI (n))))), (0, .ref (om)), (1, .int (nI (k))), (2, .int (nI (r))), (3, .int (nI (i))), (4, .int (nI (n))), (5, .int (nI (1)))]) hx hb dX8_fits_163 hl (by decide) rfl (fun ls hl => ?_)
                          have loop165 : ∀ (N165 : Nat) (z : Nat) (V : Nat → Nat), (1 + z ≤ 25) → (off5 V Z) → (25 - z) < N165 → ∀ (H : Heap) (locs : List Loc) (ls : Array Slot), va_P D vwCl [(om, .inr (8, [.ref (mw), .int (nI (ud)), .ref (mt), .int (nI (td)), .int (nI (fy)), .int (nI (0)), .ref (mm), .ref (ml), .ref (mi), .ref (mh), .int (nI (cu)), .int (nI (sa)), .int (nI (nb)), .ref (mr), .int (nI (tn))])), (mw, .inl (cA 0, 1595, arN V)), (mm, .inl (cA 0, 8, .inl mf)), (mi, .inl (cA 0, 320, .inl tf))] H → va_D A [(om, .inr (8, [.ref (mw), .int (nI (ud)), .ref (mt), .int (nI (td)), .int (nI (fy)), .int (nI (0)), .ref (mm), .ref (ml), .ref (mi), .ref (mh), .int (nI (cu)), .int (nI (sa)), .int (nI (nb)), .ref (mr), .int (nI (tn))])), (mw, .inl (cA 0, 1595, arN V)), (mm, .inl (cA 0, 8, .inl mf)), (mi, .inl (cA 0, 320, .inl tf))] → va_S A s.heap H locs → lv_has ls 12 [(11, .int (nI (1 + z))), (10, .int (nI (ftL Z k tf (40 * r + i) n (25 + k) 1 z))), (9, .int (nI (24))), (8, .int (nI (1))), (7, .int (nI (25 + k))), (6, .int (nI (agN (mf r) (nI (i)) (nI (n))))), (0, .ref (om)), (1, .int (nI (k))), (2, .int (nI (r))), (3, .int (nI (i))), (4, .int (nI (n))), (5, .int (nI (1)))] → W p l e ({ frames := 5, cells := 0, slots := 0, locals := 115 } : Room) s m ([.ref (om), .int (pk), .int (pr), .int (pi), .int (pn), .int (ph)] : List Value).toArray below meth c H locs 0 0 Q (F0 m 165 ls []) := by
                            intro N165
                            induction N165 with
                            | zero => intro z V iv165_0 iv165_1 hN; exact absurd hN (Nat.not_lt_zero _)
                            | succ N165 ih165 =>
                              intro z V iv165_0 iv165_1 hN165 H locs ls hP hD hS hl
                              have hV : off5 V Z := iv165_1
                              obtain ⟨hy1, hy2, hy3, hy4⟩ := try_ok (off_wf hV hg)
                              refine lv_iload hx hb dX8_fits_165 (lv_at hl 0 rfl) ?_
                              refine lv_iload hx hb dX8_fits_167 (lv_at hl 2 rfl) ?_
                              refine lv_icmp_gt (tgt := 223) hx hb dX8_fits_169 (by decide) (fun c30 => ?_) (fun c30 => ?_)
                              · skip
                                rw [nI_ltI (by omega) (by omega)] at c30
                                refine lv_iload hx hb dX8_fits_223 (lv_at hl 1 rfl) ?_
                                have ef31 : ([(om, .inr (8, [.ref (mw), .int (nI (ud)), .ref (mt), .int (nI (td)), .int (nI (fy)), .int (nI (0)), .ref (mm), .ref (ml), .ref (mi), .ref (mh), .int (nI (cu)), .int (nI (sa)), .int (nI (nb)), .ref (mr), .int (nI (tn))])), (mw, .inl (cA 0, 1595, arN V)), (mm, .inl (cA 0, 8, .inl mf)), (mi, .inl (cA 0, 320, .inl tf))] : va_W) = [(om, .inr (8, [.ref (mw), .int (nI (ud)), .ref (mt), .int (nI (td)), .int (nI (fy)), .int (nI ((fitsS Z mf pk pr pi pn ph su))), .ref (mm), .ref (ml), .ref (mi), .ref (mh), .int (nI (cu)), .int (nI (sa)), .int (nI (nb)), .ref (mr), .int (nI (tn))])), (mw, .inl (cA 0, 1595, arN (mx Z (SK (0, 0, 0, 0, 0, V, SP (sg Z 0), SD (sg Z 0), SG (sg Z 0), SS (sg Z 0)))))), (mm, .inl (cA 0, 8, .inl mf)), (mi, .inl (cA 0, 320, .inl tf))] := by
                                  rw [show mx Z (SK (0, 0, 0, 0, 0, V, SP (sg Z 0), SD (sg Z 0), SG (sg Z 0), SS (sg Z 0))) = V from mx_of hV]
                                  rw [show fitsS Z mf pk pr pi pn ph su = 0 from by unfold fitsS; rw [if_pos (by simp [c1, c3, c5, c7]), e_r, e_n, nI_clamp (n := r) (by omega)]; omega]
                                have hP : va_P D vwCl [(om, .inr (8, [.ref (mw), .int (nI (ud)), .ref (mt), .int (nI (td)), .int (nI (fy)), .int (nI ((fitsS Z mf pk pr pi pn ph su))), .ref (mm), .ref (ml), .ref (mi), .ref (mh), .int (nI (cu)), .int (nI (sa)), .int (nI (nb)), .ref (mr), .int (nI (tn))])), (mw, .inl (cA 0, 1595, arN (mx Z (SK (0, 0, 0, 0, 0, V, SP (sg Z 0), SD (sg Z 0), SG (sg Z 0), SS (sg Z 0)))))), (mm, .inl (cA 0, 8, .inl mf)), (mi, .inl (cA 0, 320, .inl tf))] _ := Eq.mp (congrArg (fun z9 => va_P D vwCl z9 _) ef31) hP
                                have hD : va_D A [(om, .inr (8, [.ref (mw), .int (nI (ud)), .ref (mt), .int (nI (td)), .int (nI (fy)), .int (nI ((fitsS Z mf pk pr pi pn ph su))), .ref (mm), .ref (ml), .ref (mi), .ref (mh), .int (nI (cu)), .int (nI (sa)), .int (nI (nb)), .ref (mr), .int (nI (tn))])), (mw, .inl (cA 0, 1595, arN (mx Z (SK (0, 0, 0, 0, 0, V, SP (sg Z 0), SD (sg Z 0), SG (sg Z 0), SS (sg Z 0)))))), (mm, .inl (cA 0, 8, .inl mf)), (mi, .inl (cA 0, 320, .inl tf))] := Eq.mp (congrArg (fun z9 => va_D A z9) ef31) hD
                                exact hend _ _ _ _ _ (0, 0, 0, 0, 0, V, SP (sg Z 0), SD (sg Z 0), SG (sg Z 0), SS (sg Z 0)) hP hD hS (by unfold fitsM; rw [if_pos (by simp [c1, c3, c5, c7]), e_k, e_r, e_n, e_h, nI_clamp (n := k) (by omega), nI_clamp (n := r) (by omega), nI_clamp (n := n) (by omega), nI_clamp (n := 1) (by omega), if_pos (by omega), e_i, nI_clamp (n := i) (by omega)]; exact congrArg nI (congrArg (ftL Z k tf (40 * r + i) n _ _) (by show z = 24; omega))) dX8_fits_225
                              · skip
                                rw [nI_ltI (by omega) (by omega)] at c30
                                refine lv_aload_n hx hb dX8_fits_172 rfl (lv_at hl 6 rfl) ?_
                                refine cVv (n := 0) (As := []) (rest := []) (C := RX8) (ci := 8) (q0 := 0) (X := [(om, .inr (8, [.ref (mw), .int (nI (ud)), .ref (mt), .int (nI (td)), .int (nI (fy)), .int (nI (0)), .ref (mm), .ref (ml), .ref (mi), .ref (mh), .int (nI (cu)), .int (nI (sa)), .int (nI (nb)), .ref (mr), .int (nI (tn))])), (mw, .inl (cA 0, 1595, arN V)), (mm, .inl (cA 0, 8, .inl mf)), (mi, .inl (cA 0, 320, .inl tf))]) (pl := []) (wc := [(om, .inr (8, [.ref (mw), .int (nI (ud)), .ref (mt), .int (nI (td)), .int (nI (fy)), .int (nI (0)), .ref (mm), .ref (ml), .ref (mi), .ref (mh), .int (nI (cu)), .int (nI (sa)), .int (nI (nb)), .ref (mr), .int (nI (tn))])), (mw, .inl (cA 0, 1595, arN V))]) (wr := [(mm, .inl (cA 0, 8, .inl mf)), (mi, .inl (cA 0, 320, .inl tf))]) (w1 := [(om, .inr (8, [.ref (mw), .int (nI (ud)), .ref (mt), .int (nI (td)), .int (nI (fy)), .int (nI (0)), .ref (mm), .ref (ml), .ref (mi), .ref (mh), .int (nI (cu)), .int (nI (sa)), .int (nI (nb)), .ref (mr), .int (nI (tn))])), (mw, .inl (cA 0, 1595, arN (cpW V 0 55)))]) (wn := [(om, .inr (8, [.ref (mw), .int (nI (ud)), .ref (mt), .int (nI (td)), .int (nI (fy)), .int (nI (0)), .ref (mm), .ref (ml), .ref (mi), .ref (mh), .int (nI (cu)), .int (nI (sa)), .int (nI (nb)), .ref (mr), .int (nI (tn))])), (mw, .inl (cA 0, 1595, arN (cpW V 0 55))), (mm, .inl (cA 0, 8, .inl mf)), (mi, .inl (cA 0, 320, .inl tf))]) (isC := [0, 1]) (isR := [2, 3]) (isN := [2, 3, 0, 1]) ⟨hx, hb, hml, hown, hts⟩ (c_X8_tries l D cA tt om mw mt mm ml mi mh mr ud td fy 0 cu sa nb tn V  _) gX8_fits_X8_tries rfl (by decide +kernel) rfl rfl ⟨rfl, rfl⟩ ⟨Nat.le_of_ble_eq_true rfl, Nat.le_of_ble_eq_true rfl⟩ ⟨Nat.zero_le _, Nat.zero_le _⟩ hK hE hA hP hD hS ⟨⟨rfl, by decide⟩, ⟨rfl, by decide, by decide⟩, rfl, by decide⟩ rfl hl.1 rfl (Nat.le_of_ble_eq_true rfl) dX8_fits_173 (fun H locs hP hD hS => ?_)
                                have hP : va_P D vwCl [(om, .inr (8, [.ref (mw), .int (nI (ud)), .ref (mt), .int (nI (td)), .int (nI (fy)), .int (nI (0)), .ref (mm), .ref (ml), .ref (mi), .ref (mh), .int (nI (cu)), .int (nI (sa)), .int (nI (nb)), .ref (mr), .int (nI (tn))])), (mw, .inl (cA 0, 1595, arN (cpW V 0 55))), (mm, .inl (cA 0, 8, .inl mf)), (mi, .inl (cA 0, 320, .inl tf))] _ := hP
                                have hD : va_D A [(om, .inr (8, [.ref (mw), .int (nI (ud)), .ref (mt), .int (nI (td)), .int (nI (fy)), .int (nI (0)), .ref (mm), .ref (ml), .ref (mi), .ref (mh), .int (nI (cu)), .int (nI (sa)), .int (nI (nb)), .ref (mr), .int (nI (tn))])), (mw, .inl (cA 0, 1595, arN (cpW V 0 55))), (mm, .inl (cA 0, 8, .inl mf)), (mi, .inl (cA 0, 320, .inl tf))] := hD
                                refine lv_aload_n hx hb dX8_fits_176 rfl (lv_at hl 6 rfl) ?_
                                refine va_get (v := .ref (mw)) (Ts := wsX80) (C := RX8) (T := TX8) (N := 15) hx hb hwsX80 (fun _ h => h) hown hK hP 0 rfl rfl 0 (by decide) (hts (.fieldLink RX8 7 "AdventStreetsModel" "w" "[I") (List.mem_of_getElem? (i := 5) rfl)) (fun _ h9 => h9) rfl dX8_fits_177 ?_
                                refine lv_bipush (v := nI (55)) hx hb dX8_fits_180 (by decide) ?_
                                refine lv_iload hx hb dX8_fits_182 (lv_at hl 4 rfl) ?_
                                refine lv_iadd hx hb dX8_fits_184 ?_
                                refine vn_i (v := nI (55 + (25 + k))) (nI_add _ _) ?_
                                refine lv_iload hx hb dX8_fits_185 (lv_at hl 0 rfl) ?_
                                refine r_ast (f := (cpW V 0 55)) hx hb hK hP hD hS 1 rfl (i := 55 + (25 + k)) (by omega) (Nat.lt_of_lt_of_le (by omega : 1595 < 1073741824) (by decide)) dX8_fits_187 (fun H locs hP hD hS => ?_)
                                have hP : va_P D vwCl [(om, .inr (8, [.ref (mw), .int (nI (ud)), .ref (mt), .int (nI (td)), .int (nI (fy)), .int (nI (0)), .ref (mm), .ref (ml), .ref (mi), .ref (mh), .int (nI (cu)), .int (nI (sa)), .int (nI (nb)), .ref (mr), .int (nI (tn))])), (mw, .inl (cA 0, 1595, arN (upN (cpW V 0 55) (55 + (25 + k)) (1 + z)))), (mm, .inl (cA 0, 8, .inl mf)), (mi, .inl (cA 0, 320, .inl tf))] _ := hP
                                have hD : va_D A [(om, .inr (8, [.ref (mw), .int (nI (ud)), .ref (mt), .int (nI (td)), .int (nI (fy)), .int (nI (0)), .ref (mm), .ref (ml), .ref (mi), .ref (mh), .int (nI (cu)), .int (nI (sa)), .int (nI (nb)), .ref (mr), .int (nI (tn))])), (mw, .inl (cA 0, 1595, arN (upN (cpW V 0 55) (55 + (25 + k)) (1 + z)))), (mm, .inl (cA 0, 8, .inl mf)), (mi, .inl (cA 0, 320, .inl tf))] := hD
                                refine lv_iload hx hb dX8_fits_188 (lv_at hl 1 rfl) ?_
                                refine lv_aload_n hx hb dX8_fits_190 rfl (lv_at hl 6 rfl) ?_
                                refine lv_iload_n hx hb dX8_fits_191 rfl (lv_at hl 7 rfl) ?_
                                refine lv_bipush (v := nI (40)) hx hb dX8_fits_192 (by decide) ?_
                                refine lv_iload_n hx hb dX8_fits_194 rfl (lv_at hl 8 rfl) ?_
                                refine lv_imul hx hb dX8_fits_195 ?_
                                refine vn_i (v := nI (40 * r)) (pk_mul _ _) ?_
                                refine lv_iload_n hx hb dX8_fits_196 rfl (lv_at hl 9 rfl) ?_
                                refine lv_iadd hx hb dX8_fits_197 ?_
                                refine vn_i (v := nI (40 * r + i)) (nI_add _ _) ?_
                                refine lv_iload hx hb dX8_fits_198 (lv_at hl 10 rfl) ?_
                                refine cVi (n := 3) (As := [.int (nI (k)), .int (nI (40 * r + i)), .int (nI (n))]) (rest := [.int (nI (ftL Z k tf (40 * r + i) n (25 + k) 1 z))]) (C := RX8) (ci := 8) (q0 := 0) (X := [(om, .inr (8, [.ref (mw), .int (nI (ud)), .ref (mt), .int (nI (td)), .int (nI (fy)), .int (nI (0)), .ref (mm), .ref (ml), .ref (mi), .ref (mh), .int (nI (cu)), .int (nI (sa)), .int (nI (nb)), .ref (mr), .int (nI (tn))])), (mw, .inl (cA 0, 1595, arN (upN (cpW V 0 55) (55 + (25 + k)) (1 + z)))), (mm, .inl (cA 0, 8, .inl mf)), (mi, .inl (cA 0, 320, .inl tf))]) (pl := []) (wc := [(om, .inr (8, [.ref (mw), .int (nI (ud)), .ref (mt), .int (nI (td)), .int (nI (fy)), .int (nI (0)), .ref (mm), .ref (ml), .ref (mi), .ref (mh), .int (nI (cu)), .int (nI (sa)), .int (nI (nb)), .ref (mr), .int (nI (tn))])), (mw, .inl (cA 0, 1595, arN (upN (cpW V 0 55) (55 + (25 + k)) (1 + z)))), (mi, .inl (cA 0, 320, .inl tf))]) (wr := [(mm, .inl (cA 0, 8, .inl mf))]) (w1 := [(om, .inr (8, [.ref (mw), .int (nI (ud)), .ref (mt), .int (nI (td)), .int (nI (fy)), .int (nI (0)), .ref (mm), .ref (ml), .ref (mi), .ref (mh), .int (nI (cu)), .int (nI (sa)), .int (nI (nb)), .ref (mr), .int (nI (tn))])), (mw, .inl (cA 0, 1595, arN (goW (upN (cpW V 0 55) (55 + (25 + k)) (1 + z)) (soN (upN (cpW V 0 55) (55 + (25 + k)) (1 + z)) k tf (40 * r + i) n)))), (mi, .inl (cA 0, 320, .inl tf))]) (wn := [(om, .inr (8, [.ref (mw), .int (nI (ud)), .ref (mt), .int (nI (td)), .int (nI (fy)), .int (nI (0)), .ref (mm), .ref (ml), .ref (mi), .ref (mh), .int (nI (cu)), .int (nI (sa)), .int (nI (nb)), .ref (mr), .int (nI (tn))])), (mw, .inl (cA 0, 1595, arN (goW (upN (cpW V 0 55) (55 + (25 + k)) (1 + z)) (soN (upN (cpW V 0 55) (55 + (25 + k)) (1 + z)) k tf (40 * r + i) n)))), (mm, .inl (cA 0, 8, .inl mf)), (mi, .inl (cA 0, 320, .inl tf))]) (isC := [0, 1, 3]) (isR := [2]) (isN := [1, 2, 0, 3]) ⟨hx, hb, hml, hown, hts⟩ (c_X8_isSo l D cA tt om mw mt mm ml mi mh mr ud td fy 0 cu sa nb tn (upN (cpW V 0 55) (55 + (25 + k)) (1 + z)) tf k (40 * r + i) n (fit_wf hy1 (by omega) (by omega)) (by rw [upN_n (by omega), hy3, hV 1 (by omega)]; exact he (by omega)) (by rw [upN_n (by omega), hy4, hV 3 (by omega)]; omega) (by omega) (by omega) (by omega) _) gX8_fits_X8_isSo rfl (by decide +kernel) rfl rfl ⟨rfl, rfl⟩ ⟨Nat.le_of_ble_eq_true rfl, Nat.le_of_ble_eq_true rfl⟩ ⟨Nat.zero_le _, Nat.zero_le _⟩ hK hE hA hP hD hS ⟨⟨rfl, by decide⟩, ⟨rfl, by decide, by decide⟩, rfl, by decide⟩ rfl hl.1 rfl (Nat.le_of_ble_eq_true rfl) dX8_fits_200 (fun H locs hP hD hS => ?_)
                                have hP : va_P D vwCl [(om, .inr (8, [.ref (mw), .int (nI (ud)), .ref (mt), .int (nI (td)), .int (nI (fy)), .int (nI (0)), .ref (mm), .ref (ml), .ref (mi), .ref (mh), .int (nI (cu)), .int (nI (sa)), .int (nI (nb)), .ref (mr), .int (nI (tn))])), (mw, .inl (cA 0, 1595, arN (goW (upN (cpW V 0 55) (55 + (25 + k)) (1 + z)) (soN (upN (cpW V 0 55) (55 + (25 + k)) (1 + z)) k tf (40 * r + i) n)))), (mm, .inl (cA 0, 8, .inl mf)), (mi, .inl (cA 0, 320, .inl tf))] _ := hP
                                have hD : va_D A [(om, .inr (8, [.ref (mw), .int (nI (ud)), .ref (mt), .int (nI (td)), .int (nI (fy)), .int (nI (0)), .ref (mm), .ref (ml), .ref (mi), .ref (mh), .int (nI (cu)), .int (nI (sa)), .int (nI (nb)), .ref (mr), .int (nI (tn))])), (mw, .inl (cA 0, 1595, arN (goW (upN (cpW V 0 55) (55 + (25 + k)) (1 + z)) (soN (upN (cpW V 0 55) (55 + (25 + k)) (1 + z)) k tf (40 * r + i) n)))), (mm, .inl (cA 0, 8, .inl mf)), (mi, .inl (cA 0, 320, .inl tf))] := hD
                                refine lv_if_eq (tgt := 213) hx hb dX8_fits_203 (by decide) (fun c32 => ?_) (fun c32 => ?_)
                                · skip
                                  rw [bI_z] at c32
                                  refine lv_iconst (v := nI (0)) hx hb dX8_fits_213 (by decide) ?_
                                  refine lv_ior hx hb dX8_fits_214 ?_
                                  refine vn_i (v := nI ((ftL Z k tf (40 * r + i) n (25 + k) 1 z) ||| 0)) (n_or _ _) ?_
                                  refine lv_istore (lv' := [(10, .int (nI ((ftL Z k tf (40 * r + i) n (25 + k) 1 z) ||| 0))), (11, .int (nI (1 + z))), (9, .int (nI (24))), (8, .int (nI (1))), (7, .int (nI (25 + k))), (6, .int (nI (agN (mf r) (nI (i)) (nI (n))))), (0, .ref (om)), (1, .int (nI (k))), (2, .int (nI (r))), (3, .int (nI (i))), (4, .int (nI (n))), (5, .int (nI (1)))]) hx hb dX8_fits_215 hl (by decide) rfl (fun ls hl => ?_)
                                  refine lv_iinc (v := nI (1 + z + 1)) (lv' := [(11, .int (nI (1 + z + 1))), (10, .int (nI ((ftL Z k tf (40 * r + i) n (25 + k) 1 z) ||| 0))), (9, .int (nI (24))), (8, .int (nI (1))), (7, .int (nI (25 + k))), (6, .int (nI (agN (mf r) (nI (i)) (nI (n))))), (0, .ref (om)), (1, .int (nI (k))), (2, .int (nI (r))), (3, .int (nI (i))), (4, .int (nI (n))), (5, .int (nI (1)))]) hx hb dX8_fits_217 hl (k := 1) rfl (nI_add _ _) (by decide) rfl (fun ls hl => ?_)
                                  refine lv_goto (tgt := 165) hx hb dX8_fits_220 (by decide) ?_
                                  have hl9 := lv_sub (l' := [(11, .int (nI (1 + z + 1))), (10, .int (nI ((ftL Z k tf (40 * r + i) n (25 + k) 1 z) ||| 0))), (9, .int (nI (24))), (8, .int (nI (1))), (7, .int (nI (25 + k))), (6, .int (nI (agN (mf r) (nI (i)) (nI (n))))), (0, .ref (om)), (1, .int (nI (k))), (2, .int (nI (r))), (3, .int (nI (i))), (4, .int (nI (n))), (5, .int (nI (1)))]) hl [0, 1, 2, 3, 4, 5, 6, 7, 8, 9, 10, 11] rfl
                                  have el33 : (.int (nI (1 + z + 1)) : Value) = .int (nI (1 + (z + 1))) := by
                                    rfl
                                  have hl9 : lv_has ls 12 [(11, .int (nI (1 + (z + 1)))), (10, .int (nI ((ftL Z k tf (40 * r + i) n (25 + k) 1 z) ||| 0))), (9, .int (nI (24))), (8, .int (nI (1))), (7, .int (nI (25 + k))), (6, .int (nI (agN (mf r) (nI (i)) (nI (n))))), (0, .ref (om)), (1, .int (nI (k))), (2, .int (nI (r))), (3, .int (nI (i))), (4, .int (nI (n))), (5, .int (nI (1)))] := Eq.mp (congrArg (fun z9 => lv_has ls 12 [(11, z9), (10, .int (nI ((ftL Z k tf (40 * r + i) n (25 + k) 1 z) ||| 0))), (9, .int (nI (24))), (8, .int (nI (1))), (7, .int (nI (25 + k))), (6, .int (nI (agN (mf r) (nI (i)) (nI (n))))), (0, .ref (om)), (1, .int (nI (k))), (2, .int (nI (r))), (3, .int (nI (i))), (4, .int (nI (n))), (5, .int (nI (1)))]) el33) hl9
                                  have el34 : (.int (nI ((ftL Z k tf (40 * r + i) n (25 + k) 1 z) ||| 0)) : Value) = .int (nI (ftL Z k tf (40 * r + i) n (25 + k) 1 (z + 1))) := by
                                    rw [ftL, ← cp5 hV, show soB (upN (cpW V 0 55) (55 + (25 + k)) (1 + z)) k tf (40 * r + i) n = false from c32]; rfl
                                  have hl9 : lv_has ls 12 [(11, .int (nI (1 + (z + 1)))), (10, .int (nI (ftL Z k tf (40 * r + i) n (25 + k) 1 (z + 1)))), (9, .int (nI (24))), (8, .int (nI (1))), (7, .int (nI (25 + k))), (6, .int (nI (agN (mf r) (nI (i)) (nI (n))))), (0, .ref (om)), (1, .int (nI (k))), (2, .int (nI (r))), (3, .int (nI (i))), (4, .int (nI (n))), (5, .int (nI (1)))] := Eq.mp (congrArg (fun z9 => lv_has ls 12 [(11, .int (nI (1 + (z + 1)))), (10, z9), (9, .int (nI (24))), (8, .int (nI (1))), (7, .int (nI (25 + k))), (6, .int (nI (agN (mf r) (nI (i)) (nI (n))))), (0, .ref (om)), (1, .int (nI (k))), (2, .int (nI (r))), (3, .int (nI (i))), (4, .int (nI (n))), (5, .int (nI (1)))]) el34) hl9
                                  exact ih165 (z + 1) (goW (upN (cpW V 0 55) (55 + (25 + k)) (1 + z)) (soN (upN (cpW V 0 55) (55 + (25 + k)) (1 + z)) k tf (40 * r + i) n)) (by omega) (off_go (fit_wf hy1 (by omega) (by omega)) (off_up (off_cp hV) (by omega)) _) (by omega) _ _ _ hP hD hS hl9
                                · skip
                                  rw [bI_nz] at c32
                                  refine lv_iconst (v := nI (1)) hx hb dX8_fits_206 (by decide) ?_
                                  refine lv_iload hx hb dX8_fits_207 (lv_at hl 0 rfl) ?_
                                  refine lv_ishl hx hb dX8_fits_209 ?_
                                  refine vn_i (v := nI (2 ^ (1 + z))) (n_shl1 (by omega)) ?_
                                  refine lv_goto (tgt := 214) hx hb dX8_fits_210 (by decide) ?_
                                  refine lv_ior hx hb dX8_fits_214 ?_
                                  refine vn_i (v := nI ((ftL Z k tf (40 * r + i) n (25 + k) 1 z) ||| (2 ^ (1 + z)))) (n_or _ _) ?_
                                  refine lv_istore (lv' := [(10, .int (nI ((ftL Z k tf (40 * r + i) n (25 + k) 1 z) ||| (2 ^ (1 + z))))), (11, .int (nI (1 + z))), (9, .int (nI (24))), (8, .int (nI (1))), (7, .int (nI (25 + k))), (6, .int (nI (agN (mf r) (nI (i)) (nI (n))))), (0, .ref (om)), (1, .int (nI (k))), (2, .int (nI (r))), (3, .int (nI (i))), (4, .int (nI (n))), (5, .int (nI (1)))]) hx hb dX8_fits_215 hl (by decide) rfl (fun ls hl => ?_)
                                  refine lv_iinc (v := nI (1 + z + 1)) (lv' := [(11, .int (nI (1 + z + 1))), (10, .int (nI ((ftL Z k tf (40 * r + i) n (25 + k) 1 z) ||| (2 ^ (1 + z))))), (9, .int (nI (24))), (8, .int (nI (1))), (7, .int (nI (25 + k))), (6, .int (nI (agN (mf r) (nI (i)) (nI (n))))), (0, .ref (om)), (1, .int (nI (k))), (2, .int (nI (r))), (3, .int (nI (i))), (4, .int (nI (n))), (5, .int (nI (1)))]) hx hb dX8_fits_217 hl (k := 1) rfl (nI_add _ _) (by decide) rfl (fun ls hl => ?_)
                                  refine lv_goto (tgt := 165) hx hb dX8_fits_220 (by decide) ?_
                                  have hl9 := lv_sub (l' := [(11, .int (nI (1 + z + 1))), (10, .int (nI ((ftL Z k tf (40 * r + i) n (25 + k) 1 z) ||| (2 ^ (1 + z))))), (9, .int (nI (24))), (8, .int (nI (1))), (7, .int (nI (25 + k))), (6, .int (nI (agN (mf r) (nI (i)) (nI (n))))), (0, .ref (om)), (1, .int (nI (k))), (2, .int (nI (r))), (3, .int (nI (i))), (4, .int (nI (n))), (5, .int (nI (1)))]) hl [0, 1, 2, 3, 4, 5, 6, 7, 8, 9, 10, 11] rfl
                                  have el35 : (.int (nI (1 + z + 1)) : Value) = .int (nI (1 + (z + 1))) := by
                                    rfl
                                  have hl9 : lv_has ls 12 [(11, .int (nI (1 + (z + 1)))), (10, .int (nI ((ftL Z k tf (40 * r + i) n (25 + k) 1 z) ||| (2 ^ (1 + z))))), (9, .int (nI (24))), (8, .int (nI (1))), (7, .int (nI (25 + k))), (6, .int (nI (agN (mf r) (nI (i)) (nI (n))))), (0, .ref (om)), (1, .int (nI (k))), (2, .int (nI (r))), (3, .int (nI (i))), (4, .int (nI (n))), (5, .int (nI (1)))] := Eq.mp (congrArg (fun z9 => lv_has ls 12 [(11, z9), (10, .int (nI ((ftL Z k tf (40 * r + i) n (25 + k) 1 z) ||| (2 ^ (1 + z))))), (9, .int (nI (24))), (8, .int (nI (1))), (7, .int (nI (25 + k))), (6, .int (nI (agN (mf r) (nI (i)) (nI (n))))), (0, .ref (om)), (1, .int (nI (k))), (2, .int (nI (r))), (3, .int (nI (i))), (4, .int (nI (n))), (5, .int (nI (1)))]) el35) hl9
                                  have el36 : (.int (nI ((ftL Z k tf (40 * r + i) n (25 + k) 1 z) ||| (2 ^ (1 + z)))) : Value) = .int (nI (ftL Z k tf (40 * r + i) n (25 + k) 1 (z + 1))) := by
                                    rw [ftL, ← cp5 hV, show soB (upN (cpW V 0 55) (55 + (25 + k)) (1 + z)) k tf (40 * r + i) n = true from c32]; rfl
                                  have hl9 : lv_has ls 12 [(11, .int (nI (1 + (z + 1)))), (10, .int (nI (ftL Z k tf (40 * r + i) n (25 + k) 1 (z + 1)))), (9, .int (nI (24))), (8, .int (nI (1))), (7, .int (nI (25 + k))), (6, .int (nI (agN (mf r) (nI (i)) (nI (n))))), (0, .ref (om)), (1, .int (nI (k))), (2, .int (nI (r))), (3, .int (nI (i))), (4, .int (nI (n))), (5, .int (nI (1)))] := Eq.mp (congrArg (fun z9 => lv_has ls 12 [(11, .int (nI (1 + (z + 1)))), (10, z9), (9, .int (nI (24))), (8, .int (nI (1))), (7, .int (nI (25 + k))), (6, .int (nI (agN (mf r) (nI (i)) (nI (n))))), (0, .ref (om)), (1, .int (nI (k))), (2, .int (nI (r))), (3, .int (nI (i))), (4, .int (nI (n))), (5, .int (nI (1)))]) el36) hl9
                                  exact ih165 (z + 1) (goW (upN (cpW V 0 55) (55 + (25 + k)) (1 + z)) (soN (upN (cpW V 0 55) (55 + (25 + k)) (1 + z)) k tf (40 * r + i) n)) (by omega) (off_go (fit_wf hy1 (by omega) (by omega)) (off_up (off_cp hV) (by omega)) _) (by omega) _ _ _ hP hD hS hl9
                          have hl9 := lv_sub (l' := [(11, .int (nI (1))), (10, .int (nI (0))), (9, .int (nI (24))), (8, .int (nI (1))), (7, .int (nI (25 + k))), (6, .int (nI (agN (mf r) (nI (i)) (nI (n))))), (0, .ref (om)), (1, .int (nI (k))), (2, .int (nI (r))), (3, .int (nI (i))), (4, .int (nI (n))), (5, .int (nI (1)))]) hl [0, 1, 2, 3, 4, 5, 6, 7, 8, 9, 10, 11] rfl
                          have el37 : (.int (nI (1)) : Value) = .int (nI (1 + 0)) := by
                            rfl
                          have hl9 : lv_has ls 12 [(11, .int (nI (1 + 0))), (10, .int (nI (0))), (9, .int (nI (24))), (8, .int (nI (1))), (7, .int (nI (25 + k))), (6, .int (nI (agN (mf r) (nI (i)) (nI (n))))), (0, .ref (om)), (1, .int (nI (k))), (2, .int (nI (r))), (3, .int (nI (i))), (4, .int (nI (n))), (5, .int (nI (1)))] := Eq.mp (congrArg (fun z9 => lv_has ls 12 [(11, z9), (10, .int (nI (0))), (9, .int (nI (24))), (8, .int (nI (1))), (7, .int (nI (25 + k))), (6, .int (nI (agN (mf r) (nI (i)) (nI (n))))), (0, .ref (om)), (1, .int (nI (k))), (2, .int (nI (r))), (3, .int (nI (i))), (4, .int (nI (n))), (5, .int (nI (1)))]) el37) hl9
                          have el38 : (.int (nI (0)) : Value) = .int (nI (ftL Z k tf (40 * r + i) n (25 + k) 1 0)) := by
                            rfl
                          have hl9 : lv_has ls 12 [(11, .int (nI (1 + 0))), (10, .int (nI (ftL Z k tf (40 * r + i) n (25 + k) 1 0))), (9, .int (nI (24))), (8, .int (nI (1))), (7, .int (nI (25 + k))), (6, .int (nI (agN (mf r) (nI (i)) (nI (n))))), (0, .ref (om)), (1, .int (nI (k))), (2, .int (nI (r))), (3, .int (nI (i))), (4, .int (nI (n))), (5, .int (nI (1)))] := Eq.mp (congrArg (fun z9 => lv_has ls 12 [(11, .int (nI (1 + 0))), (10, z9), (9, .int (nI (24))), (8, .int (nI (1))), (7, .int (nI (25 + k))), (6, .int (nI (agN (mf r) (nI (i)) (nI (n))))), (0, .ref (om)), (1, .int (nI (k))), (2, .int (nI (r))), (3, .int (nI (i))), (4, .int (nI (n))), (5, .int (nI (1)))]) el38) hl9
                          exact loop165 _ 0 Z (by omega) (fun j hj => rfl) (Nat.lt_succ_self _) _ _ _ hP hD hS hl9
                        · skip
                          rw [nI_eq (by omega) (by omega)] at c28
                          exact absurd c28 (by decide)
                      · skip
                        rw [n_z (by omega)] at c27
                        exact absurd c27 (by decide)
                    · skip
                      rw [nI_eq (by omega) (by omega)] at c26
                      exact absurd c26 (by decide)
                  · skip
                    rw [nI_eq (by omega) (by omega)] at c25
                    exact absurd c25 (by decide)
              · skip
                rw [n_z (by omega)] at c23
                exact absurd c23 (by decide)
            · skip
              subst hh4
              refine lv_aload_n hx hb dX8_fits_66 rfl (lv_at hl 1 rfl) ?_
              refine lv_iconst (v := nI (0)) hx hb dX8_fits_67 (by decide) ?_
              refine va_put (v := .int (nI (0))) (ty := .int) (Ts := wsX80) (C := RX8) (T := TX8) (N := 15) hx hb hwsX80 (fun _ h => h) tyX8 tyX8_ok nmX8 hown hK hP hD hS 0 rfl rfl 5 (by decide) (hts (.fieldLink RX8 37 "AdventStreetsModel" "status" "I") (List.mem_of_getElem? (i := 4) rfl)) (fun _ h9 => h9) rfl (tyX8_ok 5 (by decide)) rfl rfl (Nat.le_of_ble_eq_true rfl) dX8_fits_68 (fun H locs hP hD hS => ?_)
              have hP : va_P D vwCl [(om, .inr (8, [.ref (mw), .int (nI (ud)), .ref (mt), .int (nI (td)), .int (nI (fy)), .int (nI (0)), .ref (mm), .ref (ml), .ref (mi), .ref (mh), .int (nI (cu)), .int (nI (sa)), .int (nI (nb)), .ref (mr), .int (nI (tn))])), (mw, .inl (cA 0, 1595, arN Z)), (mm, .inl (cA 0, 8, .inl mf)), (mi, .inl (cA 0, 320, .inl tf))] _ := hP
              have hD : va_D A [(om, .inr (8, [.ref (mw), .int (nI (ud)), .ref (mt), .int (nI (td)), .int (nI (fy)), .int (nI (0)), .ref (mm), .ref (ml), .ref (mi), .ref (mh), .int (nI (cu)), .int (nI (sa)), .int (nI (nb)), .ref (mr), .int (nI (tn))])), (mw, .inl (cA 0, 1595, arN Z)), (mm, .inl (cA 0, 8, .inl mf)), (mi, .inl (cA 0, 320, .inl tf))] := hD
              refine lv_iload hx hb dX8_fits_71 (lv_at hl 6 rfl) ?_
              refine lv_if_ne (tgt := 82) hx hb dX8_fits_73 (by decide) (fun c39 => ?_) (fun c39 => ?_)
              · skip
                rw [n_z (by omega)] at c39
                refine lv_iload hx hb dX8_fits_82 (lv_at hl 6 rfl) ?_
                refine lv_iconst (v := nI (1)) hx hb dX8_fits_84 (by decide) ?_
                refine lv_icmp_ne (tgt := 95) hx hb dX8_fits_85 (by decide) (fun c40 => ?_) (fun c40 => ?_)
                · skip
                  rw [nI_eq (by omega) (by omega)] at c40
                  refine lv_iload hx hb dX8_fits_95 (lv_at hl 6 rfl) ?_
                  refine lv_iconst (v := nI (2)) hx hb dX8_fits_97 (by decide) ?_
                  refine lv_icmp_ne (tgt := 108) hx hb dX8_fits_98 (by decide) (fun c41 => ?_) (fun c41 => ?_)
                  · skip
                    rw [nI_eq (by omega) (by omega)] at c41
                    exact absurd c41 (by decide)
                  · skip
                    rw [nI_eq (by omega) (by omega)] at c41
                    refine lv_bipush (v := nI (35)) hx hb dX8_fits_101 (by decide) ?_
                    refine lv_iload_n hx hb dX8_fits_103 rfl (lv_at hl 2 rfl) ?_
                    refine lv_iadd hx hb dX8_fits_104 ?_
                    refine vn_i (v := nI (35 + k)) (nI_add _ _) ?_
                    refine lv_goto (tgt := 109) hx hb dX8_fits_105 (by decide) ?_
                    refine lv_istore (lv' := [(7, .int (nI (35 + k))), (6, .int (nI (agN (mf r) (nI (i)) (nI (n))))), (0, .ref (om)), (1, .int (nI (k))), (2, .int (nI (r))), (3, .int (nI (i))), (4, .int (nI (n))), (5, .int (nI (2)))]) hx hb dX8_fits_109 hl (by decide) rfl (fun ls hl => ?_)
                    refine lv_iload hx hb dX8_fits_111 (lv_at hl 7 rfl) ?_
                    refine lv_iconst (v := nI (2)) hx hb dX8_fits_113 (by decide) ?_
                    refine lv_icmp_ne (tgt := 121) hx hb dX8_fits_114 (by decide) (fun c42 => ?_) (fun c42 => ?_)
                    · skip
                      rw [nI_eq (by omega) (by omega)] at c42
                      exact absurd c42 (by decide)
                    · skip
                      rw [nI_eq (by omega) (by omega)] at c42
                      refine lv_iconst (v := nI (0)) hx hb dX8_fits_117 (by decide) ?_
                      refine lv_goto (tgt := 132) hx hb dX8_fits_118 (by decide) ?_
                      refine lv_istore (lv' := [(8, .int (nI (0))), (7, .int (nI (35 + k))), (6, .int (nI (agN (mf r) (nI (i)) (nI (n))))), (0, .ref (om)), (1, .int (nI (k))), (2, .int (nI (r))), (3, .int (nI (i))), (4, .int (nI (n))), (5, .int (nI (2)))]) hx hb dX8_fits_132 hl (by decide) rfl (fun ls hl => ?_)
                      refine lv_iload hx hb dX8_fits_134 (lv_at hl 8 rfl) ?_
                      refine lv_if_ne (tgt := 143) hx hb dX8_fits_136 (by decide) (fun c43 => ?_) (fun c43 => ?_)
                      · skip
                        rw [n_z (by omega)] at c43
                        refine lv_iload hx hb dX8_fits_143 (lv_at hl 8 rfl) ?_
                        refine lv_iconst (v := nI (2)) hx hb dX8_fits_145 (by decide) ?_
                        refine lv_icmp_ne (tgt := 154) hx hb dX8_fits_146 (by decide) (fun c44 => ?_) (fun c44 => ?_)
                        · skip
                          rw [nI_eq (by omega) (by omega)] at c44
                          exact absurd c44 (by decide)
                        · skip
                          rw [nI_eq (by omega) (by omega)] at c44
                          refine lv_bipush (v := nI (9)) hx hb dX8_fits_149 (by decide) ?_
                          refine lv_goto (tgt := 156) hx hb dX8_fits_151 (by decide) ?_
                          refine lv_istore (lv' := [(9, .int (nI (9))), (8, .int (nI (0))), (7, .int (nI (35 + k))), (6, .int (nI (agN (mf r) (nI (i)) (nI (n))))), (0, .ref (om)), (1, .int (nI (k))), (2, .int (nI (r))), (3, .int (nI (i))), (4, .int (nI (n))), (5, .int (nI (2)))]) hx hb dX8_fits_156 hl (by decide) rfl (fun ls hl => ?_)
                          refine lv_iconst (v := nI (0)) hx hb dX8_fits_158 (by decide) ?_
                          refine lv_istore (lv' := [(10, .int (nI (0))), (9, .int (nI (9))), (8, .int (nI (0))), (7, .int (nI (35 + k))), (6, .int (nI (agN (mf r) (nI (i)) (nI (n))))), (0, .ref (om)), (1, .int (nI (k))), (2, .int (nI (r))), (3, .int (nI (i))), (4, .int (nI (n))), (5, .int (nI (2)))]) hx hb dX8_fits_159 hl (by decide) rfl (fun ls hl => ?_)
                          refine lv_iload hx hb dX8_fits_161 (lv_at hl 2 rfl) ?_
                          refine lv_istore (lv' := [(11, .int (nI (0))), (10, .int (nI (0))), (9, .int (nI (9))), (8, .int (nI (0))), (7, .int (nI (35 + k))), (6, .int (nI (agN (mf r) (nI (i)) (nI (n))))), (0, .ref (om)), (1, .int (nI (k))), (2, .int (nI (r))), (3, .int (nI (i))), (4, .int (nI (n))), (5, .int (nI (2)))]) hx hb dX8_fits_163 hl (by decide) rfl (fun ls hl => ?_)
                          have loop165 : ∀ (N165 : Nat) (z : Nat) (V : Nat → Nat), (0 + z ≤ 10) → (off5 V Z) → (10 - z) < N165 → ∀ (H : Heap) (locs : List Loc) (ls : Array Slot), va_P D vwCl [(om, .inr (8, [.ref (mw), .int (nI (ud)), .ref (mt), .int (nI (td)), .int (nI (fy)), .int (nI (0)), .ref (mm), .ref (ml), .ref (mi), .ref (mh), .int (nI (cu)), .int (nI (sa)), .int (nI (nb)), .ref (mr), .int (nI (tn))])), (mw, .inl (cA 0, 1595, arN V)), (mm, .inl (cA 0, 8, .inl mf)), (mi, .inl (cA 0, 320, .inl tf))] H → va_D A [(om, .inr (8, [.ref (mw), .int (nI (ud)), .ref (mt), .int (nI (td)), .int (nI (fy)), .int (nI (0)), .ref (mm), .ref (ml), .ref (mi), .ref (mh), .int (nI (cu)), .int (nI (sa)), .int (nI (nb)), .ref (mr), .int (nI (tn))])), (mw, .inl (cA 0, 1595, arN V)), (mm, .inl (cA 0, 8, .inl mf)), (mi, .inl (cA 0, 320, .inl tf))] → va_S A s.heap H locs → lv_has ls 12 [(11, .int (nI (0 + z))), (10, .int (nI (ftL Z k tf (40 * r + i) n (35 + k) 0 z))), (9, .int (nI (9))), (8, .int (nI (0))), (7, .int (nI (35 + k))), (6, .int (nI (agN (mf r) (nI (i)) (nI (n))))), (0, .ref (om)), (1, .int (nI (k))), (2, .int (nI (r))), (3, .int (nI (i))), (4, .int (nI (n))), (5, .int (nI (2)))] → W p l e ({ frames := 5, cells := 0, slots := 0, locals := 115 } : Room) s m ([.ref (om), .int (pk), .int (pr), .int (pi), .int (pn), .int (ph)] : List Value).toArray below meth c H locs 0 0 Q (F0 m 165 ls []) := by
                            intro N165
                            induction N165 with
                            | zero => intro z V iv165_0 iv165_1 hN; exact absurd hN (Nat.not_lt_zero _)
                            | succ N165 ih165 =>
                              intro z V iv165_0 iv165_1 hN165 H locs ls hP hD hS hl
                              have hV : off5 V Z := iv165_1
                              obtain ⟨hy1, hy2, hy3, hy4⟩ := try_ok (off_wf hV hg)
                              refine lv_iload hx hb dX8_fits_165 (lv_at hl 0 rfl) ?_
                              refine lv_iload hx hb dX8_fits_167 (lv_at hl 2 rfl) ?_
                              refine lv_icmp_gt (tgt := 223) hx hb dX8_fits_169 (by decide) (fun c46 => ?_) (fun c46 => ?_)
                              · skip
                                rw [nI_ltI (by omega) (by omega)] at c46
                                refine lv_iload hx hb dX8_fits_223 (lv_at hl 1 rfl) ?_
                                have ef47 : ([(om, .inr (8, [.ref (mw), .int (nI (ud)), .ref (mt), .int (nI (td)), .int (nI (fy)), .int (nI (0)), .ref (mm), .ref (ml), .ref (mi), .ref (mh), .int (nI (cu)), .int (nI (sa)), .int (nI (nb)), .ref (mr), .int (nI (tn))])), (mw, .inl (cA 0, 1595, arN V)), (mm, .inl (cA 0, 8, .inl mf)), (mi, .inl (cA 0, 320, .inl tf))] : va_W) = [(om, .inr (8, [.ref (mw), .int (nI (ud)), .ref (mt), .int (nI (td)), .int (nI (fy)), .int (nI ((fitsS Z mf pk pr pi pn ph su))), .ref (mm), .ref (ml), .ref (mi), .ref (mh), .int (nI (cu)), .int (nI (sa)), .int (nI (nb)), .ref (mr), .int (nI (tn))])), (mw, .inl (cA 0, 1595, arN (mx Z (SK (0, 0, 0, 0, 0, V, SP (sg Z 0), SD (sg Z 0), SG (sg Z 0), SS (sg Z 0)))))), (mm, .inl (cA 0, 8, .inl mf)), (mi, .inl (cA 0, 320, .inl tf))] := by
                                  rw [show mx Z (SK (0, 0, 0, 0, 0, V, SP (sg Z 0), SD (sg Z 0), SG (sg Z 0), SS (sg Z 0))) = V from mx_of hV]
                                  rw [show fitsS Z mf pk pr pi pn ph su = 0 from by unfold fitsS; rw [if_pos (by simp [c1, c3, c5, c7]), e_r, e_n, nI_clamp (n := r) (by omega)]; omega]
                                have hP : va_P D vwCl [(om, .inr (8, [.ref (mw), .int (nI (ud)), .ref (mt), .int (nI (td)), .int (nI (fy)), .int (nI ((fitsS Z mf pk pr pi pn ph su))), .ref (mm), .ref (ml), .ref (mi), .ref (mh), .int (nI (cu)), .int (nI (sa)), .int (nI (nb)), .ref (mr), .int (nI (tn))])), (mw, .inl (cA 0, 1595, arN (mx Z (SK (0, 0, 0, 0, 0, V, SP (sg Z 0), SD (sg Z 0), SG (sg Z 0), SS (sg Z 0)))))), (mm, .inl (cA 0, 8, .inl mf)), (mi, .inl (cA 0, 320, .inl tf))] _ := Eq.mp (congrArg (fun z9 => va_P D vwCl z9 _) ef47) hP
                                have hD : va_D A [(om, .inr (8, [.ref (mw), .int (nI (ud)), .ref (mt), .int (nI (td)), .int (nI (fy)), .int (nI ((fitsS Z mf pk pr pi pn ph su))), .ref (mm), .ref (ml), .ref (mi), .ref (mh), .int (nI (cu)), .int (nI (sa)), .int (nI (nb)), .ref (mr), .int (nI (tn))])), (mw, .inl (cA 0, 1595, arN (mx Z (SK (0, 0, 0, 0, 0, V, SP (sg Z 0), SD (sg Z 0), SG (sg Z 0), SS (sg Z 0)))))), (mm, .inl (cA 0, 8, .inl mf)), (mi, .inl (cA 0, 320, .inl tf))] := Eq.mp (congrArg (fun z9 => va_D A z9) ef47) hD
                                exact hend _ _ _ _ _ (0, 0, 0, 0, 0, V, SP (sg Z 0), SD (sg Z 0), SG (sg Z 0), SS (sg Z 0)) hP hD hS (by unfold fitsM; rw [if_pos (by simp [c1, c3, c5, c7]), e_k, e_r, e_n, e_h, nI_clamp (n := k) (by omega), nI_clamp (n := r) (by omega), nI_clamp (n := n) (by omega), nI_clamp (n := 2) (by omega), if_pos (by omega), e_i, nI_clamp (n := i) (by omega)]; exact congrArg nI (congrArg (ftL Z k tf (40 * r + i) n _ _) (by show z = 10; omega))) dX8_fits_225
                              · skip
                                rw [nI_ltI (by omega) (by omega)] at c46
                                refine lv_aload_n hx hb dX8_fits_172 rfl (lv_at hl 6 rfl) ?_
                                refine cVv (n := 0) (As := []) (rest := []) (C := RX8) (ci := 8) (q0 := 0) (X := [(om, .inr (8, [.ref (mw), .int (nI (ud)), .ref (mt), .int (nI (td)), .int (nI (fy)), .int (nI (0)), .ref (mm), .ref (ml), .ref (mi), .ref (mh), .int (nI (cu)), .int (nI (sa)), .int (nI (nb)), .ref (mr), .int (nI (tn))])), (mw, .inl (cA 0, 1595, arN V)), (mm, .inl (cA 0, 8, .inl mf)), (mi, .inl (cA 0, 320, .inl tf))]) (pl := []) (wc := [(om, .inr (8, [.ref (mw), .int (nI (ud)), .ref (mt), .int (nI (td)), .int (nI (fy)), .int (nI (0)), .ref (mm), .ref (ml), .ref (mi), .ref (mh), .int (nI (cu)), .int (nI (sa)), .int (nI (nb)), .ref (mr), .int (nI (tn))])), (mw, .inl (cA 0, 1595, arN V))]) (wr := [(mm, .inl (cA 0, 8, .inl mf)), (mi, .inl (cA 0, 320, .inl tf))]) (w1 := [(om, .inr (8, [.ref (mw), .int (nI (ud)), .ref (mt), .int (nI (td)), .int (nI (fy)), .int (nI (0)), .ref (mm), .ref (ml), .ref (mi), .ref (mh), .int (nI (cu)), .int (nI (sa)), .int (nI (nb)), .ref (mr), .int (nI (tn))])), (mw, .inl (cA 0, 1595, arN (cpW V 0 55)))]) (wn := [(om, .inr (8, [.ref (mw), .int (nI (ud)), .ref (mt), .int (nI (td)), .int (nI (fy)), .int (nI (0)), .ref (mm), .ref (ml), .ref (mi), .ref (mh), .int (nI (cu)), .int (nI (sa)), .int (nI (nb)), .ref (mr), .int (nI (tn))])), (mw, .inl (cA 0, 1595, arN (cpW V 0 55))), (mm, .inl (cA 0, 8, .inl mf)), (mi, .inl (cA 0, 320, .inl tf))]) (isC := [0, 1]) (isR := [2, 3]) (isN := [2, 3, 0, 1]) ⟨hx, hb, hml, hown, hts⟩ (c_X8_tries l D cA tt om mw mt mm ml mi mh mr ud td fy 0 cu sa nb tn V  _) gX8_fits_X8_tries rfl (by decide +kernel) rfl rfl ⟨rfl, rfl⟩ ⟨Nat.le_of_ble_eq_true rfl, Nat.le_of_ble_eq_true rfl⟩ ⟨Nat.zero_le _, Nat.zero_le _⟩ hK hE hA hP hD hS ⟨⟨rfl, by decide⟩, ⟨rfl, by decide, by decide⟩, rfl, by decide⟩ rfl hl.1 rfl (Nat.le_of_ble_eq_true rfl) dX8_fits_173 (fun H locs hP hD hS => ?_)
                                have hP : va_P D vwCl [(om, .inr (8, [.ref (mw), .int (nI (ud)), .ref (mt), .int (nI (td)), .int (nI (fy)), .int (nI (0)), .ref (mm), .ref (ml), .ref (mi), .ref (mh), .int (nI (cu)), .int (nI (sa)), .int (nI (nb)), .ref (mr), .int (nI (tn))])), (mw, .inl (cA 0, 1595, arN (cpW V 0 55))), (mm, .inl (cA 0, 8, .inl mf)), (mi, .inl (cA 0, 320, .inl tf))] _ := hP
                                have hD : va_D A [(om, .inr (8, [.ref (mw), .int (nI (ud)), .ref (mt), .int (nI (td)), .int (nI (fy)), .int (nI (0)), .ref (mm), .ref (ml), .ref (mi), .ref (mh), .int (nI (cu)), .int (nI (sa)), .int (nI (nb)), .ref (mr), .int (nI (tn))])), (mw, .inl (cA 0, 1595, arN (cpW V 0 55))), (mm, .inl (cA 0, 8, .inl mf)), (mi, .inl (cA 0, 320, .inl tf))] := hD
                                refine lv_aload_n hx hb dX8_fits_176 rfl (lv_at hl 6 rfl) ?_
                                refine va_get (v := .ref (mw)) (Ts := wsX80) (C := RX8) (T := TX8) (N := 15) hx hb hwsX80 (fun _ h => h) hown hK hP 0 rfl rfl 0 (by decide) (hts (.fieldLink RX8 7 "AdventStreetsModel" "w" "[I") (List.mem_of_getElem? (i := 5) rfl)) (fun _ h9 => h9) rfl dX8_fits_177 ?_
                                refine lv_bipush (v := nI (55)) hx hb dX8_fits_180 (by decide) ?_
                                refine lv_iload hx hb dX8_fits_182 (lv_at hl 4 rfl) ?_
                                refine lv_iadd hx hb dX8_fits_184 ?_
                                refine vn_i (v := nI (55 + (35 + k))) (nI_add _ _) ?_
                                refine lv_iload hx hb dX8_fits_185 (lv_at hl 0 rfl) ?_
                                refine r_ast (f := (cpW V 0 55)) hx hb hK hP hD hS 1 rfl (i := 55 + (35 + k)) (by omega) (Nat.lt_of_lt_of_le (by omega : 1595 < 1073741824) (by decide)) dX8_fits_187 (fun H locs hP hD hS => ?_)
                                have hP : va_P D vwCl [(om, .inr (8, [.ref (mw), .int (nI (ud)), .ref (mt), .int (nI (td)), .int (nI (fy)), .int (nI (0)), .ref (mm), .ref (ml), .ref (mi), .ref (mh), .int (nI (cu)), .int (nI (sa)), .int (nI (nb)), .ref (mr), .int (nI (tn))])), (mw, .inl (cA 0, 1595, arN (upN (cpW V 0 55) (55 + (35 + k)) (0 + z)))), (mm, .inl (cA 0, 8, .inl mf)), (mi, .inl (cA 0, 320, .inl tf))] _ := hP
                                have hD : va_D A [(om, .inr (8, [.ref (mw), .int (nI (ud)), .ref (mt), .int (nI (td)), .int (nI (fy)), .int (nI (0)), .ref (mm), .ref (ml), .ref (mi), .ref (mh), .int (nI (cu)), .int (nI (sa)), .int (nI (nb)), .ref (mr), .int (nI (tn))])), (mw, .inl (cA 0, 1595, arN (upN (cpW V 0 55) (55 + (35 + k)) (0 + z)))), (mm, .inl (cA 0, 8, .inl mf)), (mi, .inl (cA 0, 320, .inl tf))] := hD
                                refine lv_iload hx hb dX8_fits_188 (lv_at hl 1 rfl) ?_
                                refine lv_aload_n hx hb dX8_fits_190 rfl (lv_at hl 6 rfl) ?_
                                refine lv_iload_n hx hb dX8_fits_191 rfl (lv_at hl 7 rfl) ?_
                                refine lv_bipush (v := nI (40)) hx hb dX8_fits_192 (by decide) ?_
                                refine lv_iload_n hx hb dX8_fits_194 rfl (lv_at hl 8 rfl) ?_
                                refine lv_imul hx hb dX8_fits_195 ?_
                                refine vn_i (v := nI (40 * r)) (pk_mul _ _) ?_
                                refine lv_iload_n hx hb dX8_fits_196 rfl (lv_at hl 9 rfl) ?_
                                refine lv_iadd hx hb dX8_fits_197 ?_
                                refine vn_i (v := nI (40 * r + i)) (nI_add _ _) ?_
                                refine lv_iload hx hb dX8_fits_198 (lv_at hl 10 rfl) ?_
                                refine cVi (n := 3) (As := [.int (nI (k)), .int (nI (40 * r + i)), .int (nI (n))]) (rest := [.int (nI (ftL Z k tf (40 * r + i) n (35 + k) 0 z))]) (C := RX8) (ci := 8) (q0 := 0) (X := [(om, .inr (8, [.ref (mw), .int (nI (ud)), .ref (mt), .int (nI (td)), .int (nI (fy)), .int (nI (0)), .ref (mm), .ref (ml), .ref (mi), .ref (mh), .int (nI (cu)), .int (nI (sa)), .int (nI (nb)), .ref (mr), .int (nI (tn))])), (mw, .inl (cA 0, 1595, arN (upN (cpW V 0 55) (55 + (35 + k)) (0 + z)))), (mm, .inl (cA 0, 8, .inl mf)), (mi, .inl (cA 0, 320, .inl tf))]) (pl := []) (wc := [(om, .inr (8, [.ref (mw), .int (nI (ud)), .ref (mt), .int (nI (td)), .int (nI (fy)), .int (nI (0)), .ref (mm), .ref (ml), .ref (mi), .ref (mh), .int (nI (cu)), .int (nI (sa)), .int (nI (nb)), .ref (mr), .int (nI (tn))])), (mw, .inl (cA 0, 1595, arN (upN (cpW V 0 55) (55 + (35 + k)) (0 + z)))), (mi, .inl (cA 0, 320, .inl tf))]) (wr := [(mm, .inl (cA 0, 8, .inl mf))]) (w1 := [(om, .inr (8, [.ref (mw), .int (nI (ud)), .ref (mt), .int (nI (td)), .int (nI (fy)), .int (nI (0)), .ref (mm), .ref (ml), .ref (mi), .ref (mh), .int (nI (cu)), .int (nI (sa)), .int (nI (nb)), .ref (mr), .int (nI (tn))])), (mw, .inl (cA 0, 1595, arN (goW (upN (cpW V 0 55) (55 + (35 + k)) (0 + z)) (soN (upN (cpW V 0 55) (55 + (35 + k)) (0 + z)) k tf (40 * r + i) n)))), (mi, .inl (cA 0, 320, .inl tf))]) (wn := [(om, .inr (8, [.ref (mw), .int (nI (ud)), .ref (mt), .int (nI (td)), .int (nI (fy)), .int (nI (0)), .ref (mm), .ref (ml), .ref (mi), .ref (mh), .int (nI (cu)), .int (nI (sa)), .int (nI (nb)), .ref (mr), .int (nI (tn))])), (mw, .inl (cA 0, 1595, arN (goW (upN (cpW V 0 55) (55 + (35 + k)) (0 + z)) (soN (upN (cpW V 0 55) (55 + (35 + k)) (0 + z)) k tf (40 * r + i) n)))), (mm, .inl (cA 0, 8, .inl mf)), (mi, .inl (cA 0, 320, .inl tf))]) (isC := [0, 1, 3]) (isR := [2]) (isN := [1, 2, 0, 3]) ⟨hx, hb, hml, hown, hts⟩ (c_X8_isSo l D cA tt om mw mt mm ml mi mh mr ud td fy 0 cu sa nb tn (upN (cpW V 0 55) (55 + (35 + k)) (0 + z)) tf k (40 * r + i) n (fit_wf hy1 (by omega) (by omega)) (by rw [upN_n (by omega), hy3, hV 1 (by omega)]; exact he (by omega)) (by rw [upN_n (by omega), hy4, hV 3 (by omega)]; omega) (by omega) (by omega) (by omega) _) gX8_fits_X8_isSo rfl (by decide +kernel) rfl rfl ⟨rfl, rfl⟩ ⟨Nat.le_of_ble_eq_true rfl, Nat.le_of_ble_eq_true rfl⟩ ⟨Nat.zero_le _, Nat.zero_le _⟩ hK hE hA hP hD hS ⟨⟨rfl, by decide⟩, ⟨rfl, by decide, by decide⟩, rfl, by decide⟩ rfl hl.1 rfl (Nat.le_of_ble_eq_true rfl) dX8_fits_200 (fun H locs hP hD hS => ?_)
                                have hP : va_P D vwCl [(om, .inr (8, [.ref (mw), .int (nI (ud)), .ref (mt), .int (nI (td)), .int (nI (fy)), .int (nI (0)), .ref (mm), .ref (ml), .ref (mi), .ref (mh), .int (nI (cu)), .int (nI (sa)), .int (nI (nb)), .ref (mr), .int (nI (tn))])), (mw, .inl (cA 0, 1595, arN (goW (upN (cpW V 0 55) (55 + (35 + k)) (0 + z)) (soN (upN (cpW V 0 55) (55 + (35 + k)) (0 + z)) k tf (40 * r + i) n)))), (mm, .inl (cA 0, 8, .inl mf)), (mi, .inl (cA 0, 320, .inl tf))] _ := hP
                                have hD : va_D A [(om, .inr (8, [.ref (mw), .int (nI (ud)), .ref (mt), .int (nI (td)), .int (nI (fy)), .int (nI (0)), .ref (mm), .ref (ml), .ref (mi), .ref (mh), .int (nI (cu)), .int (nI (sa)), .int (nI (nb)), .ref (mr), .int (nI (tn))])), (mw, .inl (cA 0, 1595, arN (goW (upN (cpW V 0 55) (55 + (35 + k)) (0 + z)) (soN (upN (cpW V 0 55) (55 + (35 + k)) (0 + z)) k tf (40 * r + i) n)))), (mm, .inl (cA 0, 8, .inl mf)), (mi, .inl (cA 0, 320, .inl tf))] := hD
                                refine lv_if_eq (tgt := 213) hx hb dX8_fits_203 (by decide) (fun c48 => ?_) (fun c48 => ?_)
                                · skip
                                  rw [bI_z] at c48
                                  refine lv_iconst (v := nI (0)) hx hb dX8_fits_213 (by decide) ?_
                                  refine lv_ior hx hb dX8_fits_214 ?_
                                  refine vn_i (v := nI ((ftL Z k tf (40 * r + i) n (35 + k) 0 z) ||| 0)) (n_or _ _) ?_
                                  refine lv_istore (lv' := [(10, .int (nI ((ftL Z k tf (40 * r + i) n (35 + k) 0 z) ||| 0))), (11, .int (nI (0 + z))), (9, .int (nI (9))), (8, .int (nI (0))), (7, .int (nI (35 + k))), (6, .int (nI (agN (mf r) (nI (i)) (nI (n))))), (0, .ref (om)), (1, .int (nI (k))), (2, .int (nI (r))), (3, .int (nI (i))), (4, .int (nI (n))), (5, .int (nI (2)))]) hx hb dX8_fits_215 hl (by decide) rfl (fun ls hl => ?_)
                                  refine lv_iinc (v := nI (0 + z + 1)) (lv' := [(11, .int (nI (0 + z + 1))), (10, .int (nI ((ftL Z k tf (40 * r + i) n (35 + k) 0 z) ||| 0))), (9, .int (nI (9))), (8, .int (nI (0))), (7, .int (nI (35 + k))), (6, .int (nI (agN (mf r) (nI (i)) (nI (n))))), (0, .ref (om)), (1, .int (nI (k))), (2, .int (nI (r))), (3, .int (nI (i))), (4, .int (nI (n))), (5, .int (nI (2)))]) hx hb dX8_fits_217 hl (k := 1) rfl (nI_add _ _) (by decide) rfl (fun ls hl => ?_)
                                  refine lv_goto (tgt := 165) hx hb dX8_fits_220 (by decide) ?_
                                  have hl9 := lv_sub (l' := [(11, .int (nI (0 + z + 1))), (10, .int (nI ((ftL Z k tf (40 * r + i) n (35 + k) 0 z) ||| 0))), (9, .int (nI (9))), (8, .int (nI (0))), (7, .int (nI (35 + k))), (6, .int (nI (agN (mf r) (nI (i)) (nI (n))))), (0, .ref (om)), (1, .int (nI (k))), (2, .int (nI (r))), (3, .int (nI (i))), (4, .int (nI (n))), (5, .int (nI (2)))]) hl [0, 1, 2, 3, 4, 5, 6, 7, 8, 9, 10, 11] rfl
                                  have el49 : (.int (nI (0 + z + 1)) : Value) = .int (nI (0 + (z + 1))) := by
                                    rfl
                                  have hl9 : lv_has ls 12 [(11, .int (nI (0 + (z + 1)))), (10, .int (nI ((ftL Z k tf (40 * r + i) n (35 + k) 0 z) ||| 0))), (9, .int (nI (9))), (8, .int (nI (0))), (7, .int (nI (35 + k))), (6, .int (nI (agN (mf r) (nI (i)) (nI (n))))), (0, .ref (om)), (1, .int (nI (k))), (2, .int (nI (r))), (3, .int (nI (i))), (4, .int (nI (n))), (5, .int (nI (2)))] := Eq.mp (congrArg (fun z9 => lv_has ls 12 [(11, z9), (10, .int (nI ((ftL Z k tf (40 * r + i) n (35 + k) 0 z) ||| 0))), (9, .int (nI (9))), (8, .int (nI (0))), (7, .int (nI (35 + k))), (6, .int (nI (agN (mf r) (nI (i)) (nI (n))))), (0, .ref (om)), (1, .int (nI (k))), (2, .int (nI (r))), (3, .int (nI (i))), (4, .int (nI (n))), (5, .int (nI (2)))]) el49) hl9
                                  have el50 : (.int (nI ((ftL Z k tf (40 * r + i) n (35 + k) 0 z) ||| 0)) : Value) = .int (nI (ftL Z k tf (40 * r + i) n (35 + k) 0 (z + 1))) := by
                                    rw [ftL, ← cp5 hV, show soB (upN (cpW V 0 55) (55 + (35 + k)) (0 + z)) k tf (40 * r + i) n = false from c48]; rfl
                                  have hl9 : lv_has ls 12 [(11, .int (nI (0 + (z + 1)))), (10, .int (nI (ftL Z k tf (40 * r + i) n (35 + k) 0 (z + 1)))), (9, .int (nI (9))), (8, .int (nI (0))), (7, .int (nI (35 + k))), (6, .int (nI (agN (mf r) (nI (i)) (nI (n))))), (0, .ref (om)), (1, .int (nI (k))), (2, .int (nI (r))), (3, .int (nI (i))), (4, .int (nI (n))), (5, .int (nI (2)))] := Eq.mp (congrArg (fun z9 => lv_has ls 12 [(11, .int (nI (0 + (z + 1)))), (10, z9), (9, .int (nI (9))), (8, .int (nI (0))), (7, .int (nI (35 + k))), (6, .int (nI (agN (mf r) (nI (i)) (nI (n))))), (0, .ref (om)), (1, .int (nI (k))), (2, .int (nI (r))), (3, .int (nI (i))), (4, .int (nI (n))), (5, .int (nI (2)))]) el50) hl9
                                  exact ih165 (z + 1) (goW (upN (cpW V 0 55) (55 + (35 + k)) (0 + z)) (soN (upN (cpW V 0 55) (55 + (35 + k)) (0 + z)) k tf (40 * r + i) n)) (by omega) (off_go (fit_wf hy1 (by omega) (by omega)) (off_up (off_cp hV) (by omega)) _) (by omega) _ _ _ hP hD hS hl9
                                · skip
                                  rw [bI_nz] at c48
                                  refine lv_iconst (v := nI (1)) hx hb dX8_fits_206 (by decide) ?_
                                  refine lv_iload hx hb dX8_fits_207 (lv_at hl 0 rfl) ?_
                                  refine lv_ishl hx hb dX8_fits_209 ?_
                                  refine vn_i (v := nI (2 ^ (0 + z))) (n_shl1 (by omega)) ?_
                                  refine lv_goto (tgt := 214) hx hb dX8_fits_210 (by decide) ?_
                                  refine lv_ior hx hb dX8_fits_214 ?_
                                  refine vn_i (v := nI ((ftL Z k tf (40 * r + i) n (35 + k) 0 z) ||| (2 ^ (0 + z)))) (n_or _ _) ?_
                                  refine lv_istore (lv' := [(10, .int (nI ((ftL Z k tf (40 * r + i) n (35 + k) 0 z) ||| (2 ^ (0 + z))))), (11, .int (nI (0 + z))), (9, .int (nI (9))), (8, .int (nI (0))), (7, .int (nI (35 + k))), (6, .int (nI (agN (mf r) (nI (i)) (nI (n))))), (0, .ref (om)), (1, .int (nI (k))), (2, .int (nI (r))), (3, .int (nI (i))), (4, .int (nI (n))), (5, .int (nI (2)))]) hx hb dX8_fits_215 hl (by decide) rfl (fun ls hl => ?_)
                                  refine lv_iinc (v := nI (0 + z + 1)) (lv' := [(11, .int (nI (0 + z + 1))), (10, .int (nI ((ftL Z k tf (40 * r + i) n (35 + k) 0 z) ||| (2 ^ (0 + z))))), (9, .int (nI (9))), (8, .int (nI (0))), (7, .int (nI (35 + k))), (6, .int (nI (agN (mf r) (nI (i)) (nI (n))))), (0, .ref (om)), (1, .int (nI (k))), (2, .int (nI (r))), (3, .int (nI (i))), (4, .int (nI (n))), (5, .int (nI (2)))]) hx hb dX8_fits_217 hl (k := 1) rfl (nI_add _ _) (by decide) rfl (fun ls hl => ?_)
                                  refine lv_goto (tgt := 165) hx hb dX8_fits_220 (by decide) ?_
                                  have hl9 := lv_sub (l' := [(11, .int (nI (0 + z + 1))), (10, .int (nI ((ftL Z k tf (40 * r + i) n (35 + k) 0 z) ||| (2 ^ (0 + z))))), (9, .int (nI (9))), (8, .int (nI (0))), (7, .int (nI (35 + k))), (6, .int (nI (agN (mf r) (nI (i)) (nI (n))))), (0, .ref (om)), (1, .int (nI (k))), (2, .int (nI (r))), (3, .int (nI (i))), (4, .int (nI (n))), (5, .int (nI (2)))]) hl [0, 1, 2, 3, 4, 5, 6, 7, 8, 9, 10, 11] rfl
                                  have el51 : (.int (nI (0 + z + 1)) : Value) = .int (nI (0 + (z + 1))) := by
                                    rfl
                                  have hl9 : lv_has ls 12 [(11, .int (nI (0 + (z + 1)))), (10, .int (nI ((ftL Z k tf (40 * r + i) n (35 + k) 0 z) ||| (2 ^ (0 + z))))), (9, .int (nI (9))), (8, .int (nI (0))), (7, .int (nI (35 + k))), (6, .int (nI (agN (mf r) (nI (i)) (nI (n))))), (0, .ref (om)), (1, .int (nI (k))), (2, .int (nI (r))), (3, .int (nI (i))), (4, .int (nI (n))), (5, .int (nI (2)))] := Eq.mp (congrArg (fun z9 => lv_has ls 12 [(11, z9), (10, .int (nI ((ftL Z k tf (40 * r + i) n (35 + k) 0 z) ||| (2 ^ (0 + z))))), (9, .int (nI (9))), (8, .int (nI (0))), (7, .int (nI (35 + k))), (6, .int (nI (agN (mf r) (nI (i)) (nI (n))))), (0, .ref (om)), (1, .int (nI (k))), (2, .int (nI (r))), (3, .int (nI (i))), (4, .int (nI (n))), (5, .int (nI (2)))]) el51) hl9
                                  have el52 : (.int (nI ((ftL Z k tf (40 * r + i) n (35 + k) 0 z) ||| (2 ^ (0 + z)))) : Value) = .int (nI (ftL Z k tf (40 * r + i) n (35 + k) 0 (z + 1))) := by
                                    rw [ftL, ← cp5 hV, show soB (upN (cpW V 0 55) (55 + (35 + k)) (0 + z)) k tf (40 * r + i) n = true from c48]; rfl
                                  have hl9 : lv_has ls 12 [(11, .int (nI (0 + (z + 1)))), (10, .int (nI (ftL Z k tf (40 * r + i) n (35 + k) 0 (z + 1)))), (9, .int (nI (9))), (8, .int (nI (0))), (7, .int (nI (35 + k))), (6, .int (nI (agN (mf r) (nI (i)) (nI (n))))), (0, .ref (om)), (1, .int (nI (k))), (2, .int (nI (r))), (3, .int (nI (i))), (4, .int (nI (n))), (5, .int (nI (2)))] := Eq.mp (congrArg (fun z9 => lv_has ls 12 [(11, .int (nI (0 + (z + 1)))), (10, z9), (9, .int (nI (9))), (8, .int (nI (0))), (7, .int (nI (35 + k))), (6, .int (nI (agN (mf r) (nI (i)) (nI (n))))), (0, .ref (om)), (1, .int (nI (k))), (2, .int (nI (r))), (3, .int (nI (i))), (4, .int (nI (n))), (5, .int (nI (2)))]) el52) hl9
                                  exact ih165 (z + 1) (goW (upN (cpW V 0 55) (55 + (35 + k)) (0 + z)) (soN (upN (cpW V 0 55) (55 + (35 + k)) (0 + z)) k tf (40 * r + i) n)) (by omega) (off_go (fit_wf hy1 (by omega) (by omega)) (off_up (off_cp hV) (by omega)) _) (by omega) _ _ _ hP hD hS hl9
                          have hl9 := lv_sub (l' := [(11, .int (nI (0))), (10, .int (nI (0))), (9, .int (nI (9))), (8, .int (nI (0))), (7, .int (nI (35 + k))), (6, .int (nI (agN (mf r) (nI (i)) (nI (n))))), (0, .ref (om)), (1, .int (nI (k))), (2, .int (nI (r))), (3, .int (nI (i))), (4, .int (nI (n))), (5, .int (nI (2)))]) hl [0, 1, 2, 3, 4, 5, 6, 7, 8, 9, 10, 11] rfl
                          have el53 : (.int (nI (0)) : Value) = .int (nI (0 + 0)) := by
                            rfl
                          have hl9 : lv_has ls 12 [(11, .int (nI (0 + 0))), (10, .int (nI (0))), (9, .int (nI (9))), (8, .int (nI (0))), (7, .int (nI (35 + k))), (6, .int (nI (agN (mf r) (nI (i)) (nI (n))))), (0, .ref (om)), (1, .int (nI (k))), (2, .int (nI (r))), (3, .int (nI (i))), (4, .int (nI (n))), (5, .int (nI (2)))] := Eq.mp (congrArg (fun z9 => lv_has ls 12 [(11, z9), (10, .int (nI (0))), (9, .int (nI (9))), (8, .int (nI (0))), (7, .int (nI (35 + k))), (6, .int (nI (agN (mf r) (nI (i)) (nI (n))))), (0, .ref (om)), (1, .int (nI (k))), (2, .int (nI (r))), (3, .int (nI (i))), (4, .int (nI (n))), (5, .int (nI (2)))]) el53) hl9
                          have el54 : (.int (nI (0)) : Value) = .int (nI (ftL Z k tf (40 * r + i) n (35 + k) 0 0)) := by
                            rfl
                          have hl9 : lv_has ls 12 [(11, .int (nI (0 + 0))), (10, .int (nI (ftL Z k tf (40 * r + i) n (35 + k) 0 0))), (9, .int (nI (9))), (8, .int (nI (0))), (7, .int (nI (35 + k))), (6, .int (nI (agN (mf r) (nI (i)) (nI (n))))), (0, .ref (om)), (1, .int (nI (k))), (2, .int (nI (r))), (3, .int (nI (i))), (4, .int (nI (n))), (5, .int (nI (2)))] := Eq.mp (congrArg (fun z9 => lv_has ls 12 [(11, .int (nI (0 + 0))), (10, z9), (9, .int (nI (9))), (8, .int (nI (0))), (7, .int (nI (35 + k))), (6, .int (nI (agN (mf r) (nI (i)) (nI (n))))), (0, .ref (om)), (1, .int (nI (k))), (2, .int (nI (r))), (3, .int (nI (i))), (4, .int (nI (n))), (5, .int (nI (2)))]) el54) hl9
                          exact loop165 _ 0 Z (by omega) (fun j hj => rfl) (Nat.lt_succ_self _) _ _ _ hP hD hS hl9
                      · skip
                        rw [n_z (by omega)] at c43
                        exact absurd c43 (by decide)
                · skip
                  rw [nI_eq (by omega) (by omega)] at c40
                  exact absurd c40 (by decide)
              · skip
                rw [n_z (by omega)] at c39
                exact absurd c39 (by decide)
            · skip
              subst hh4
              refine lv_aload_n hx hb dX8_fits_66 rfl (lv_at hl 1 rfl) ?_
              refine lv_iconst (v := nI (0)) hx hb dX8_fits_67 (by decide) ?_
              refine va_put (v := .int (nI (0))) (ty := .int) (Ts := wsX80) (C := RX8) (T := TX8) (N := 15) hx hb hwsX80 (fun _ h => h) tyX8 tyX8_ok nmX8 hown hK hP hD hS 0 rfl rfl 5 (by decide) (hts (.fieldLink RX8 37 "AdventStreetsModel" "status" "I") (List.mem_of_getElem? (i := 4) rfl)) (fun _ h9 => h9) rfl (tyX8_ok 5 (by decide)) rfl rfl (Nat.le_of_ble_eq_true rfl) dX8_fits_68 (fun H locs hP hD hS => ?_)
              have hP : va_P D vwCl [(om, .inr (8, [.ref (mw), .int (nI (ud)), .ref (mt), .int (nI (td)), .int (nI (fy)), .int (nI (0)), .ref (mm), .ref (ml), .ref (mi), .ref (mh), .int (nI (cu)), .int (nI (sa)), .int (nI (nb)), .ref (mr), .int (nI (tn))])), (mw, .inl (cA 0, 1595, arN Z)), (mm, .inl (cA 0, 8, .inl mf)), (mi, .inl (cA 0, 320, .inl tf))] _ := hP
              have hD : va_D A [(om, .inr (8, [.ref (mw), .int (nI (ud)), .ref (mt), .int (nI (td)), .int (nI (fy)), .int (nI (0)), .ref (mm), .ref (ml), .ref (mi), .ref (mh), .int (nI (cu)), .int (nI (sa)), .int (nI (nb)), .ref (mr), .int (nI (tn))])), (mw, .inl (cA 0, 1595, arN Z)), (mm, .inl (cA 0, 8, .inl mf)), (mi, .inl (cA 0, 320, .inl tf))] := hD
              refine lv_iload hx hb dX8_fits_71 (lv_at hl 6 rfl) ?_
              refine lv_if_ne (tgt := 82) hx hb dX8_fits_73 (by decide) (fun c55 => ?_) (fun c55 => ?_)
              · skip
                rw [n_z (by omega)] at c55
                refine lv_iload hx hb dX8_fits_82 (lv_at hl 6 rfl) ?_
                refine lv_iconst (v := nI (1)) hx hb dX8_fits_84 (by decide) ?_
                refine lv_icmp_ne (tgt := 95) hx hb dX8_fits_85 (by decide) (fun c56 => ?_) (fun c56 => ?_)
                · skip
                  rw [nI_eq (by omega) (by omega)] at c56
                  refine lv_iload hx hb dX8_fits_95 (lv_at hl 6 rfl) ?_
                  refine lv_iconst (v := nI (2)) hx hb dX8_fits_97 (by decide) ?_
                  refine lv_icmp_ne (tgt := 108) hx hb dX8_fits_98 (by decide) (fun c57 => ?_) (fun c57 => ?_)
                  · skip
                    rw [nI_eq (by omega) (by omega)] at c57
                    refine lv_iconst (v := nI (1)) hx hb dX8_fits_108 (by decide) ?_
                    refine lv_istore (lv' := [(7, .int (nI (1))), (6, .int (nI (agN (mf r) (nI (i)) (nI (n))))), (0, .ref (om)), (1, .int (nI (k))), (2, .int (nI (r))), (3, .int (nI (i))), (4, .int (nI (n))), (5, .int (nI (3)))]) hx hb dX8_fits_109 hl (by decide) rfl (fun ls hl => ?_)
                    refine lv_iload hx hb dX8_fits_111 (lv_at hl 7 rfl) ?_
                    refine lv_iconst (v := nI (2)) hx hb dX8_fits_113 (by decide) ?_
                    refine lv_icmp_ne (tgt := 121) hx hb dX8_fits_114 (by decide) (fun c58 => ?_) (fun c58 => ?_)
                    · skip
                      rw [nI_eq (by omega) (by omega)] at c58
                      refine lv_iload hx hb dX8_fits_121 (lv_at hl 7 rfl) ?_
                      refine lv_iconst (v := nI (3)) hx hb dX8_fits_123 (by decide) ?_
                      refine lv_icmp_ne (tgt := 131) hx hb dX8_fits_124 (by decide) (fun c59 => ?_) (fun c59 => ?_)
                      · skip
                        rw [nI_eq (by omega) (by omega)] at c59
                        exact absurd c59 (by decide)
                      · skip
                        rw [nI_eq (by omega) (by omega)] at c59
                        refine lv_iconst (v := nI (2)) hx hb dX8_fits_127 (by decide) ?_
                        refine lv_goto (tgt := 132) hx hb dX8_fits_128 (by decide) ?_
                        refine lv_istore (lv' := [(8, .int (nI (2))), (7, .int (nI (1))), (6, .int (nI (agN (mf r) (nI (i)) (nI (n))))), (0, .ref (om)), (1, .int (nI (k))), (2, .int (nI (r))), (3, .int (nI (i))), (4, .int (nI (n))), (5, .int (nI (3)))]) hx hb dX8_fits_132 hl (by decide) rfl (fun ls hl => ?_)
                        refine lv_iload hx hb dX8_fits_134 (lv_at hl 8 rfl) ?_
                        refine lv_if_ne (tgt := 143) hx hb dX8_fits_136 (by decide) (fun c60 => ?_) (fun c60 => ?_)
                        · skip
                          rw [n_z (by omega)] at c60
                          refine lv_iload hx hb dX8_fits_143 (lv_at hl 8 rfl) ?_
                          refine lv_iconst (v := nI (2)) hx hb dX8_fits_145 (by decide) ?_
                          refine lv_icmp_ne (tgt := 154) hx hb dX8_fits_146 (by decide) (fun c61 => ?_) (fun c61 => ?_)
                          · skip
                            rw [nI_eq (by omega) (by omega)] at c61
                            refine lv_bipush (v := nI (24)) hx hb dX8_fits_154 (by decide) ?_
                            refine lv_istore (lv' := [(9, .int (nI (24))), (8, .int (nI (2))), (7, .int (nI (1))), (6, .int (nI (agN (mf r) (nI (i)) (nI (n))))), (0, .ref (om)), (1, .int (nI (k))), (2, .int (nI (r))), (3, .int (nI (i))), (4, .int (nI (n))), (5, .int (nI (3)))]) hx hb dX8_fits_156 hl (by decide) rfl (fun ls hl => ?_)
                            refine lv_iconst (v := nI (0)) hx hb dX8_fits_158 (by decide) ?_
                            refine lv_istore (lv' := [(10, .int (nI (0))), (9, .int (nI (24))), (8, .int (nI (2))), (7, .int (nI (1))), (6, .int (nI (agN (mf r) (nI (i)) (nI (n))))), (0, .ref (om)), (1, .int (nI (k))), (2, .int (nI (r))), (3, .int (nI (i))), (4, .int (nI (n))), (5, .int (nI (3)))]) hx hb dX8_fits_159 hl (by decide) rfl (fun ls hl => ?_)
                            refine lv_iload hx hb dX8_fits_161 (lv_at hl 2 rfl) ?_
                            refine lv_istore (lv' := [(11, .int (nI (2))), (10, .int (nI (0))), (9, .int (nI (24))), (8, .int (nI (2))), (7, .int (nI (1))), (6, .int (nI (agN (mf r) (nI (i)) (nI (n))))), (0, .ref (om)), (1, .int (nI (k))), (2, .int (nI (r))), (3, .int (nI (i))), (4, .int (nI (n))), (5, .int (nI (3)))]) hx hb dX8_fits_163 hl (by decide) rfl (fun ls hl => ?_)
                            have loop165 : ∀ (N165 : Nat) (z : Nat) (V : Nat → Nat), (2 + z ≤ 25) → (off5 V Z) → (25 - z) < N165 → ∀ (H : Heap) (locs : List Loc) (ls : Array Slot), va_P D vwCl [(om, .inr (8, [.ref (mw), .int (nI (ud)), .ref (mt), .int (nI (td)), .int (nI (fy)), .int (nI (0)), .ref (mm), .ref (ml), .ref (mi), .ref (mh), .int (nI (cu)), .int (nI (sa)), .int (nI (nb)), .ref (mr), .int (nI (tn))])), (mw, .inl (cA 0, 1595, arN V)), (mm, .inl (cA 0, 8, .inl mf)), (mi, .inl (cA 0, 320, .inl tf))] H → va_D A [(om, .inr (8, [.ref (mw), .int (nI (ud)), .ref (mt), .int (nI (td)), .int (nI (fy)), .int (nI (0)), .ref (mm), .ref (ml), .ref (mi), .ref (mh), .int (nI (cu)), .int (nI (sa)), .int (nI (nb)), .ref (mr), .int (nI (tn))])), (mw, .inl (cA 0, 1595, arN V)), (mm, .inl (cA 0, 8, .inl mf)), (mi, .inl (cA 0, 320, .inl tf))] → va_S A s.heap H locs → lv_has ls 12 [(11, .int (nI (2 + z))), (10, .int (nI (ftL Z k tf (40 * r + i) n (1) 2 z))), (9, .int (nI (24))), (8, .int (nI (2))), (7, .int (nI (1))), (6, .int (nI (agN (mf r) (nI (i)) (nI (n))))), (0, .ref (om)), (1, .int (nI (k))), (2, .int (nI (r))), (3, .int (nI (i))), (4, .int (nI (n))), (5, .int (nI (3)))] → W p l e ({ frames := 5, cells := 0, slots := 0, locals := 115 } : Room) s m ([.ref (om), .int (pk), .int (pr), .int (pi), .int (pn), .int (ph)] : List Value).toArray below meth c H locs 0 0 Q (F0 m 165 ls []) := by
                              intro N165
                              induction N165 with
                              | zero => intro z V iv165_0 iv165_1 hN; exact absurd hN (Nat.not_lt_zero _)
                              | succ N165 ih165 =>
                                intro z V iv165_0 iv165_1 hN165 H locs ls hP hD hS hl
                                have hV : off5 V Z := iv165_1
                                obtain ⟨hy1, hy2, hy3, hy4⟩ := try_ok (off_wf hV hg)
                                refine lv_iload hx hb dX8_fits_165 (lv_at hl 0 rfl) ?_
                                refine lv_iload hx hb dX8_fits_167 (lv_at hl 2 rfl) ?_
                                refine lv_icmp_gt (tgt := 223) hx hb dX8_fits_169 (by decide) (fun c63 => ?_) (fun c63 => ?_)
                                · skip
                                  rw [nI_ltI (by omega) (by omega)] at c63
                                  refine lv_iload hx hb dX8_fits_223 (lv_at hl 1 rfl) ?_
                                  have ef64 : ([(om, .inr (8, [.ref (mw), .int (nI (ud)), .ref (mt), .int (nI (td)), .int (nI (fy)), .int (nI (0)), .ref (mm), .ref (ml), .ref (mi), .ref (mh), .int (nI (cu)), .int (nI (sa)), .int (nI (nb)), .ref (mr), .int (nI (tn))])), (mw, .inl (cA 0, 1595, arN V)), (mm, .inl (cA 0, 8, .inl mf)), (mi, .inl (cA 0, 320, .inl tf))] : va_W) = [(om, .inr (8, [.ref (mw), .int (nI (ud)), .ref (mt), .int (nI (td)), .int (nI (fy)), .int (nI ((fitsS Z mf pk pr pi pn ph su))), .ref (mm), .ref (ml), .ref (mi), .ref (mh), .int (nI (cu)), .int (nI (sa)), .int (nI (nb)), .ref (mr), .int (nI (tn))])), (mw, .inl (cA 0, 1595, arN (mx Z (SK (0, 0, 0, 0, 0, V, SP (sg Z 0), SD (sg Z 0), SG (sg Z 0), SS (sg Z 0)))))), (mm, .inl (cA 0, 8, .inl mf)), (mi, .inl (cA 0, 320, .inl tf))] := by
                                    rw [show mx Z (SK (0, 0, 0, 0, 0, V, SP (sg Z 0), SD (sg Z 0), SG (sg Z 0), SS (sg Z 0))) = V from mx_of hV]
                                    rw [show fitsS Z mf pk pr pi pn ph su = 0 from by unfold fitsS; rw [if_pos (by simp [c1, c3, c5, c7]), e_r, e_n, nI_clamp (n := r) (by omega)]; omega]
                                  have hP : va_P D vwCl [(om, .inr (8, [.ref (mw), .int (nI (ud)), .ref (mt), .int (nI (td)), .int (nI (fy)), .int (nI ((fitsS Z mf pk pr pi pn ph su))), .ref (mm), .ref (ml), .ref (mi), .ref (mh), .int (nI (cu)), .int (nI (sa)), .int (nI (nb)), .ref (mr), .int (nI (tn))])), (mw, .inl (cA 0, 1595, arN (mx Z (SK (0, 0, 0, 0, 0, V, SP (sg Z 0), SD (sg Z 0), SG (sg Z 0), SS (sg Z 0)))))), (mm, .inl (cA 0, 8, .inl mf)), (mi, .inl (cA 0, 320, .inl tf))] _ := Eq.mp (congrArg (fun z9 => va_P D vwCl z9 _) ef64) hP
                                  have hD : va_D A [(om, .inr (8, [.ref (mw), .int (nI (ud)), .ref (mt), .int (nI (td)), .int (nI (fy)), .int (nI ((fitsS Z mf pk pr pi pn ph su))), .ref (mm), .ref (ml), .ref (mi), .ref (mh), .int (nI (cu)), .int (nI (sa)), .int (nI (nb)), .ref (mr), .int (nI (tn))])), (mw, .inl (cA 0, 1595, arN (mx Z (SK (0, 0, 0, 0, 0, V, SP (sg Z 0), SD (sg Z 0), SG (sg Z 0), SS (sg Z 0)))))), (mm, .inl (cA 0, 8, .inl mf)), (mi, .inl (cA 0, 320, .inl tf))] := Eq.mp (congrArg (fun z9 => va_D A z9) ef64) hD
                                  exact hend _ _ _ _ _ (0, 0, 0, 0, 0, V, SP (sg Z 0), SD (sg Z 0), SG (sg Z 0), SS (sg Z 0)) hP hD hS (by unfold fitsM; rw [if_pos (by simp [c1, c3, c5, c7]), e_k, e_r, e_n, e_h, nI_clamp (n := k) (by omega), nI_clamp (n := r) (by omega), nI_clamp (n := n) (by omega), nI_clamp (n := 3) (by omega), if_pos (by omega), e_i, nI_clamp (n := i) (by omega)]; exact congrArg nI (congrArg (ftL Z k tf (40 * r + i) n _ _) (by show z = 23; omega))) dX8_fits_225
                                · skip
                                  rw [nI_ltI (by omega) (by omega)] at c63
                                  refine lv_aload_n hx hb dX8_fits_172 rfl (lv_at hl 6 rfl) ?_
                                  refine cVv (n := 0) (As := []) (rest := []) (C := RX8) (ci := 8) (q0 := 0) (X := [(om, .inr (8, [.ref (mw), .int (nI (ud)), .ref (mt), .int (nI (td)), .int (nI (fy)), .int (nI (0)), .ref (mm), .ref (ml), .ref (mi), .ref (mh), .int (nI (cu)), .int (nI (sa)), .int (nI (nb)), .ref (mr), .int (nI (tn))])), (mw, .inl (cA 0, 1595, arN V)), (mm, .inl (cA 0, 8, .inl mf)), (mi, .inl (cA 0, 320, .inl tf))]) (pl := []) (wc := [(om, .inr (8, [.ref (mw), .int (nI (ud)), .ref (mt), .int (nI (td)), .int (nI (fy)), .int (nI (0)), .ref (mm), .ref (ml), .ref (mi), .ref (mh), .int (nI (cu)), .int (nI (sa)), .int (nI (nb)), .ref (mr), .int (nI (tn))])), (mw, .inl (cA 0, 1595, arN V))]) (wr := [(mm, .inl (cA 0, 8, .inl mf)), (mi, .inl (cA 0, 320, .inl tf))]) (w1 := [(om, .inr (8, [.ref (mw), .int (nI (ud)), .ref (mt), .int (nI (td)), .int (nI (fy)), .int (nI (0)), .ref (mm), .ref (ml), .ref (mi), .ref (mh), .int (nI (cu)), .int (nI (sa)), .int (nI (nb)), .ref (mr), .int (nI (tn))])), (mw, .inl (cA 0, 1595, arN (cpW V 0 55)))]) (wn := [(om, .inr (8, [.ref (mw), .int (nI (ud)), .ref (mt), .int (nI (td)), .int (nI (fy)), .int (nI (0)), .ref (mm), .ref (ml), .ref (mi), .ref (mh), .int (nI (cu)), .int (nI (sa)), .int (nI (nb)), .ref (mr), .int (nI (tn))])), (mw, .inl (cA 0, 1595, arN (cpW V 0 55))), (mm, .inl (cA 0, 8, .inl mf)), (mi, .inl (cA 0, 320, .inl tf))]) (isC := [0, 1]) (isR := [2, 3]) (isN := [2, 3, 0, 1]) ⟨hx, hb, hml, hown, hts⟩ (c_X8_tries l D cA tt om mw mt mm ml mi mh mr ud td fy 0 cu sa nb tn V  _) gX8_fits_X8_tries rfl (by decide +kernel) rfl rfl ⟨rfl, rfl⟩ ⟨Nat.le_of_ble_eq_true rfl, Nat.le_of_ble_eq_true rfl⟩ ⟨Nat.zero_le _, Nat.zero_le _⟩ hK hE hA hP hD hS ⟨⟨rfl, by decide⟩, ⟨rfl, by decide, by decide⟩, rfl, by decide⟩ rfl hl.1 rfl (Nat.le_of_ble_eq_true rfl) dX8_fits_173 (fun H locs hP hD hS => ?_)
                                  have hP : va_P D vwCl [(om, .inr (8, [.ref (mw), .int (nI (ud)), .ref (mt), .int (nI (td)), .int (nI (fy)), .int (nI (0)), .ref (mm), .ref (ml), .ref (mi), .ref (mh), .int (nI (cu)), .int (nI (sa)), .int (nI (nb)), .ref (mr), .int (nI (tn))])), (mw, .inl (cA 0, 1595, arN (cpW V 0 55))), (mm, .inl (cA 0, 8, .inl mf)), (mi, .inl (cA 0, 320, .inl tf))] _ := hP
                                  have hD : va_D A [(om, .inr (8, [.ref (mw), .int (nI (ud)), .ref (mt), .int (nI (td)), .int (nI (fy)), .int (nI (0)), .ref (mm), .ref (ml), .ref (mi), .ref (mh), .int (nI (cu)), .int (nI (sa)), .int (nI (nb)), .ref (mr), .int (nI (tn))])), (mw, .inl (cA 0, 1595, arN (cpW V 0 55))), (mm, .inl (cA 0, 8, .inl mf)), (mi, .inl (cA 0, 320, .inl tf))] := hD
                                  refine lv_aload_n hx hb dX8_fits_176 rfl (lv_at hl 6 rfl) ?_
                                  refine va_get (v := .ref (mw)) (Ts := wsX80) (C := RX8) (T := TX8) (N := 15) hx hb hwsX80 (fun _ h => h) hown hK hP 0 rfl rfl 0 (by decide) (hts (.fieldLink RX8 7 "AdventStreetsModel" "w" "[I") (List.mem_of_getElem? (i := 5) rfl)) (fun _ h9 => h9) rfl dX8_fits_177 ?_
                                  refine lv_bipush (v := nI (55)) hx hb dX8_fits_180 (by decide) ?_
                                  refine lv_iload hx hb dX8_fits_182 (lv_at hl 4 rfl) ?_
                                  refine lv_iadd hx hb dX8_fits_184 ?_
                                  refine vn_i (v := nI (55 + 1)) (nI_add _ _) ?_
                                  refine lv_iload hx hb dX8_fits_185 (lv_at hl 0 rfl) ?_
                                  refine r_ast (f := (cpW V 0 55)) hx hb hK hP hD hS 1 rfl (i := 55 + 1) (by omega) (Nat.lt_of_lt_of_le (by omega : 1595 < 1073741824) (by decide)) dX8_fits_187 (fun H locs hP hD hS => ?_)
                                  have hP : va_P D vwCl [(om, .inr (8, [.ref (mw), .int (nI (ud)), .ref (mt), .int (nI (td)), .int (nI (fy)), .int (nI (0)), .ref (mm), .ref (ml), .ref (mi), .ref (mh), .int (nI (cu)), .int (nI (sa)), .int (nI (nb)), .ref (mr), .int (nI (tn))])), (mw, .inl (cA 0, 1595, arN (upN (cpW V 0 55) (55 + 1) (2 + z)))), (mm, .inl (cA 0, 8, .inl mf)), (mi, .inl (cA 0, 320, .inl tf))] _ := hP
                                  have hD : va_D A [(om, .inr (8, [.ref (mw), .int (nI (ud)), .ref (mt), .int (nI (td)), .int (nI (fy)), .int (nI (0)), .ref (mm), .ref (ml), .ref (mi), .ref (mh), .int (nI (cu)), .int (nI (sa)), .int (nI (nb)), .ref (mr), .int (nI (tn))])), (mw, .inl (cA 0, 1595, arN (upN (cpW V 0 55) (55 + 1) (2 + z)))), (mm, .inl (cA 0, 8, .inl mf)), (mi, .inl (cA 0, 320, .inl tf))] := hD
                                  refine lv_iload hx hb dX8_fits_188 (lv_at hl 1 rfl) ?_
                                  refine lv_aload_n hx hb dX8_fits_190 rfl (lv_at hl 6 rfl) ?_
                                  refine lv_iload_n hx hb dX8_fits_191 rfl (lv_at hl 7 rfl) ?_
                                  refine lv_bipush (v := nI (40)) hx hb dX8_fits_192 (by decide) ?_
                                  refine lv_iload_n hx hb dX8_fits_194 rfl (lv_at hl 8 rfl) ?_
                                  refine lv_imul hx hb dX8_fits_195 ?_
                                  refine vn_i (v := nI (40 * r)) (pk_mul _ _) ?_
                                  refine lv_iload_n hx hb dX8_fits_196 rfl (lv_at hl 9 rfl) ?_
                                  refine lv_iadd hx hb dX8_fits_197 ?_
                                  refine vn_i (v := nI (40 * r + i)) (nI_add _ _) ?_
                                  refine lv_iload hx hb dX8_fits_198 (lv_at hl 10 rfl) ?_
                                  refine cVi (n := 3) (As := [.int (nI (k)), .int (nI (40 * r + i)), .int (nI (n))]) (rest := [.int (nI (ftL Z k tf (40 * r + i) n (1) 2 z))]) (C := RX8) (ci := 8) (q0 := 0) (X := [(om, .inr (8, [.ref (mw), .int (nI (ud)), .ref (mt), .int (nI (td)), .int (nI (fy)), .int (nI (0)), .ref (mm), .ref (ml), .ref (mi), .ref (mh), .int (nI (cu)), .int (nI (sa)), .int (nI (nb)), .ref (mr), .int (nI (tn))])), (mw, .inl (cA 0, 1595, arN (upN (cpW V 0 55) (55 + 1) (2 + z)))), (mm, .inl (cA 0, 8, .inl mf)), (mi, .inl (cA 0, 320, .inl tf))]) (pl := []) (wc := [(om, .inr (8, [.ref (mw), .int (nI (ud)), .ref (mt), .int (nI (td)), .int (nI (fy)), .int (nI (0)), .ref (mm), .ref (ml), .ref (mi), .ref (mh), .int (nI (cu)), .int (nI (sa)), .int (nI (nb)), .ref (mr), .int (nI (tn))])), (mw, .inl (cA 0, 1595, arN (upN (cpW V 0 55) (55 + 1) (2 + z)))), (mi, .inl (cA 0, 320, .inl tf))]) (wr := [(mm, .inl (cA 0, 8, .inl mf))]) (w1 := [(om, .inr (8, [.ref (mw), .int (nI (ud)), .ref (mt), .int (nI (td)), .int (nI (fy)), .int (nI (0)), .ref (mm), .ref (ml), .ref (mi), .ref (mh), .int (nI (cu)), .int (nI (sa)), .int (nI (nb)), .ref (mr), .int (nI (tn))])), (mw, .inl (cA 0, 1595, arN (goW (upN (cpW V 0 55) (55 + 1) (2 + z)) (soN (upN (cpW V 0 55) (55 + 1) (2 + z)) k tf (40 * r + i) n)))), (mi, .inl (cA 0, 320, .inl tf))]) (wn := [(om, .inr (8, [.ref (mw), .int (nI (ud)), .ref (mt), .int (nI (td)), .int (nI (fy)), .int (nI (0)), .ref (mm), .ref (ml), .ref (mi), .ref (mh), .int (nI (cu)), .int (nI (sa)), .int (nI (nb)), .ref (mr), .int (nI (tn))])), (mw, .inl (cA 0, 1595, arN (goW (upN (cpW V 0 55) (55 + 1) (2 + z)) (soN (upN (cpW V 0 55) (55 + 1) (2 + z)) k tf (40 * r + i) n)))), (mm, .inl (cA 0, 8, .inl mf)), (mi, .inl (cA 0, 320, .inl tf))]) (isC := [0, 1, 3]) (isR := [2]) (isN := [1, 2, 0, 3]) ⟨hx, hb, hml, hown, hts⟩ (c_X8_isSo l D cA tt om mw mt mm ml mi mh mr ud td fy 0 cu sa nb tn (upN (cpW V 0 55) (55 + 1) (2 + z)) tf k (40 * r + i) n (fit_wf hy1 (by omega) (by omega)) (by rw [upN_s]; omega) (by rw [upN_n (by omega), hy4, hV 3 (by omega)]; omega) (by omega) (by omega) (by omega) _) gX8_fits_X8_isSo rfl (by decide +kernel) rfl rfl ⟨rfl, rfl⟩ ⟨Nat.le_of_ble_eq_true rfl, Nat.le_of_ble_eq_true rfl⟩ ⟨Nat.zero_le _, Nat.zero_le _⟩ hK hE hA hP hD hS ⟨⟨rfl, by decide⟩, ⟨rfl, by decide, by decide⟩, rfl, by decide⟩ rfl hl.1 rfl (Nat.le_of_ble_eq_true rfl) dX8_fits_200 (fun H locs hP hD hS => ?_)
                                  have hP : va_P D vwCl [(om, .inr (8, [.ref (mw), .int (nI (ud)), .ref (mt), .int (nI (td)), .int (nI (fy)), .int (nI (0)), .ref (mm), .ref (ml), .ref (mi), .ref (mh), .int (nI (cu)), .int (nI (sa)), .int (nI (nb)), .ref (mr), .int (nI (tn))])), (mw, .inl (cA 0, 1595, arN (goW (upN (cpW V 0 55) (55 + 1) (2 + z)) (soN (upN (cpW V 0 55) (55 + 1) (2 + z)) k tf (40 * r + i) n)))), (mm, .inl (cA 0, 8, .inl mf)), (mi, .inl (cA 0, 320, .inl tf))] _ := hP
                                  have hD : va_D A [(om, .inr (8, [.ref (mw), .int (nI (ud)), .ref (mt), .int (nI (td)), .int (nI (fy)), .int (nI (0)), .ref (mm), .ref (ml), .ref (mi), .ref (mh), .int (nI (cu)), .int (nI (sa)), .int (nI (nb)), .ref (mr), .int (nI (tn))])), (mw, .inl (cA 0, 1595, arN (goW (upN (cpW V 0 55) (55 + 1) (2 + z)) (soN (upN (cpW V 0 55) (55 + 1) (2 + z)) k tf (40 * r + i) n)))), (mm, .inl (cA 0, 8, .inl mf)), (mi, .inl (cA 0, 320, .inl tf))] := hD
                                  refine lv_if_eq (tgt := 213) hx hb dX8_fits_203 (by decide) (fun c65 => ?_) (fun c65 => ?_)
                                  · skip
                                    rw [bI_z] at c65
                                    refine lv_iconst (v := nI (0)) hx hb dX8_fits_213 (by decide) ?_
                                    refine lv_ior hx hb dX8_fits_214 ?_
                                    refine vn_i (v := nI ((ftL Z k tf (40 * r + i) n (1) 2 z) ||| 0)) (n_or _ _) ?_
                                    refine lv_istore (lv' := [(10, .int (nI ((ftL Z k tf (40 * r + i) n (1) 2 z) ||| 0))), (11, .int (nI (2 + z))), (9, .int (nI (24))), (8, .int (nI (2))), (7, .int (nI (1))), (6, .int (nI (agN (mf r) (nI (i)) (nI (n))))), (0, .ref (om)), (1, .int (nI (k))), (2, .int (nI (r))), (3, .int (nI (i))), (4, .int (nI (n))), (5, .int (nI (3)))]) hx hb dX8_fits_215 hl (by decide) rfl (fun ls hl => ?_)
                                    refine lv_iinc (v := nI (2 + z + 1)) (lv' := [(11, .int (nI (2 + z + 1))), (10, .int (nI ((ftL Z k tf (40 * r + i) n (1) 2 z) ||| 0))), (9, .int (nI (24))), (8, .int (nI (2))), (7, .int (nI (1))), (6, .int (nI (agN (mf r) (nI (i)) (nI (n))))), (0, .ref (om)), (1, .int (nI (k))), (2, .int (nI (r))), (3, .int (nI (i))), (4, .int (nI (n))), (5, .int (nI (3)))]) hx hb dX8_fits_217 hl (k := 1) rfl (nI_add _ _) (by decide) rfl (fun ls hl => ?_)
                                    refine lv_goto (tgt := 165) hx hb dX8_fits_220 (by decide) ?_
                                    have hl9 := lv_sub (l' := [(11, .int (nI (2 + z + 1))), (10, .int (nI ((ftL Z k tf (40 * r + i) n (1) 2 z) ||| 0))), (9, .int (nI (24))), (8, .int (nI (2))), (7, .int (nI (1))), (6, .int (nI (agN (mf r) (nI (i)) (nI (n))))), (0, .ref (om)), (1, .int (nI (k))), (2, .int (nI (r))), (3, .int (nI (i))), (4, .int (nI (n))), (5, .int (nI (3)))]) hl [0, 1, 2, 3, 4, 5, 6, 7, 8, 9, 10, 11] rfl
                                    have el66 : (.int (nI (2 + z + 1)) : Value) = .int (nI (2 + (z + 1))) := by
                                      rfl
                                    have hl9 : lv_has ls 12 [(11, .int (nI (2 + (z + 1)))), (10, .int (nI ((ftL Z k tf (40 * r + i) n (1) 2 z) ||| 0))), (9, .int (nI (24))), (8, .int (nI (2))), (7, .int (nI (1))), (6, .int (nI (agN (mf r) (nI (i)) (nI (n))))), (0, .ref (om)), (1, .int (nI (k))), (2, .int (nI (r))), (3, .int (nI (i))), (4, .int (nI (n))), (5, .int (nI (3)))] := Eq.mp (congrArg (fun z9 => lv_has ls 12 [(11, z9), (10, .int (nI ((ftL Z k tf (40 * r + i) n (1) 2 z) ||| 0))), (9, .int (nI (24))), (8, .int (nI (2))), (7, .int (nI (1))), (6, .int (nI (agN (mf r) (nI (i)) (nI (n))))), (0, .ref (om)), (1, .int (nI (k))), (2, .int (nI (r))), (3, .int (nI (i))), (4, .int (nI (n))), (5, .int (nI (3)))]) el66) hl9
                                    have el67 : (.int (nI ((ftL Z k tf (40 * r + i) n (1) 2 z) ||| 0)) : Value) = .int (nI (ftL Z k tf (40 * r + i) n (1) 2 (z + 1))) := by
                                      rw [ftL, ← cp5 hV, show soB (upN (cpW V 0 55) (55 + (1)) (2 + z)) k tf (40 * r + i) n = false from c65]; rfl
                                    have hl9 : lv_has ls 12 [(11, .int (nI (2 + (z + 1)))), (10, .int (nI (ftL Z k tf (40 * r + i) n (1) 2 (z + 1)))), (9, .int (nI (24))), (8, .int (nI (2))), (7, .int (nI (1))), (6, .int (nI (agN (mf r) (nI (i)) (nI (n))))), (0, .ref (om)), (1, .int (nI (k))), (2, .int (nI (r))), (3, .int (nI (i))), (4, .int (nI (n))), (5, .int (nI (3)))] := Eq.mp (congrArg (fun z9 => lv_has ls 12 [(11, .int (nI (2 + (z + 1)))), (10, z9), (9, .int (nI (24))), (8, .int (nI (2))), (7, .int (nI (1))), (6, .int (nI (agN (mf r) (nI (i)) (nI (n))))), (0, .ref (om)), (1, .int (nI (k))), (2, .int (nI (r))), (3, .int (nI (i))), (4, .int (nI (n))), (5, .int (nI (3)))]) el67) hl9
                                    exact ih165 (z + 1) (goW (upN (cpW V 0 55) (55 + 1) (2 + z)) (soN (upN (cpW V 0 55) (55 + 1) (2 + z)) k tf (40 * r + i) n)) (by omega) (off_go (fit_wf hy1 (by omega) (by omega)) (off_up (off_cp hV) (by omega)) _) (by omega) _ _ _ hP hD hS hl9
                                  · skip
                                    rw [bI_nz] at c65
                                    refine lv_iconst (v := nI (1)) hx hb dX8_fits_206 (by decide) ?_
                                    refine lv_iload hx hb dX8_fits_207 (lv_at hl 0 rfl) ?_
                                    refine lv_ishl hx hb dX8_fits_209 ?_
                                    refine vn_i (v := nI (2 ^ (2 + z))) (n_shl1 (by omega)) ?_
                                    refine lv_goto (tgt := 214) hx hb dX8_fits_210 (by decide) ?_
                                    refine lv_ior hx hb dX8_fits_214 ?_
                                    refine vn_i (v := nI ((ftL Z k tf (40 * r + i) n (1) 2 z) ||| (2 ^ (2 + z)))) (n_or _ _) ?_
                                    refine lv_istore (lv' := [(10, .int (nI ((ftL Z k tf (40 * r + i) n (1) 2 z) ||| (2 ^ (2 + z))))), (11, .int (nI (2 + z))), (9, .int (nI (24))), (8, .int (nI (2))), (7, .int (nI (1))), (6, .int (nI (agN (mf r) (nI (i)) (nI (n))))), (0, .ref (om)), (1, .int (nI (k))), (2, .int (nI (r))), (3, .int (nI (i))), (4, .int (nI (n))), (5, .int (nI (3)))]) hx hb dX8_fits_215 hl (by decide) rfl (fun ls hl => ?_)
                                    refine lv_iinc (v := nI (2 + z + 1)) (lv' := [(11, .int (nI (2 + z + 1))), (10, .int (nI ((ftL Z k tf (40 * r + i) n (1) 2 z) ||| (2 ^ (2 + z))))), (9, .int (nI (24))), (8, .int (nI (2))), (7, .int (nI (1))), (6, .int (nI (agN (mf r) (nI (i)) (nI (n))))), (0, .ref (om)), (1, .int (nI (k))), (2, .int (nI (r))), (3, .int (nI (i))), (4, .int (nI (n))), (5, .int (nI (3)))]) hx hb dX8_fits_217 hl (k := 1) rfl (nI_add _ _) (by decide) rfl (fun ls hl => ?_)
                                    refine lv_goto (tgt := 165) hx hb dX8_fits_220 (by decide) ?_
                                    have hl9 := lv_sub (l' := [(11, .int (nI (2 + z + 1))), (10, .int (nI ((ftL Z k tf (40 * r + i) n (1) 2 z) ||| (2 ^ (2 + z))))), (9, .int (nI (24))), (8, .int (nI (2))), (7, .int (nI (1))), (6, .int (nI (agN (mf r) (nI (i)) (nI (n))))), (0, .ref (om)), (1, .int (nI (k))), (2, .int (nI (r))), (3, .int (nI (i))), (4, .int (nI (n))), (5, .int (nI (3)))]) hl [0, 1, 2, 3, 4, 5, 6, 7, 8, 9, 10, 11] rfl
                                    have el68 : (.int (nI (2 + z + 1)) : Value) = .int (nI (2 + (z + 1))) := by
                                      rfl
                                    have hl9 : lv_has ls 12 [(11, .int (nI (2 + (z + 1)))), (10, .int (nI ((ftL Z k tf (40 * r + i) n (1) 2 z) ||| (2 ^ (2 + z))))), (9, .int (nI (24))), (8, .int (nI (2))), (7, .int (nI (1))), (6, .int (nI (agN (mf r) (nI (i)) (nI (n))))), (0, .ref (om)), (1, .int (nI (k))), (2, .int (nI (r))), (3, .int (nI (i))), (4, .int (nI (n))), (5, .int (nI (3)))] := Eq.mp (congrArg (fun z9 => lv_has ls 12 [(11, z9), (10, .int (nI ((ftL Z k tf (40 * r + i) n (1) 2 z) ||| (2 ^ (2 + z))))), (9, .int (nI (24))), (8, .int (nI (2))), (7, .int (nI (1))), (6, .int (nI (agN (mf r) (nI (i)) (nI (n))))), (0, .ref (om)), (1, .int (nI (k))), (2, .int (nI (r))), (3, .int (nI (i))), (4, .int (nI (n))), (5, .int (nI (3)))]) el68) hl9
                                    have el69 : (.int (nI ((ftL Z k tf (40 * r + i) n (1) 2 z) ||| (2 ^ (2 + z)))) : Value) = .int (nI (ftL Z k tf (40 * r + i) n (1) 2 (z + 1))) := by
                                      rw [ftL, ← cp5 hV, show soB (upN (cpW V 0 55) (55 + (1)) (2 + z)) k tf (40 * r + i) n = true from c65]; rfl
                                    have hl9 : lv_has ls 12 [(11, .int (nI (2 + (z + 1)))), (10, .int (nI (ftL Z k tf (40 * r + i) n (1) 2 (z + 1)))), (9, .int (nI (24))), (8, .int (nI (2))), (7, .int (nI (1))), (6, .int (nI (agN (mf r) (nI (i)) (nI (n))))), (0, .ref (om)), (1, .int (nI (k))), (2, .int (nI (r))), (3, .int (nI (i))), (4, .int (nI (n))), (5, .int (nI (3)))] := Eq.mp (congrArg (fun z9 => lv_has ls 12 [(11, .int (nI (2 + (z + 1)))), (10, z9), (9, .int (nI (24))), (8, .int (nI (2))), (7, .int (nI (1))), (6, .int (nI (agN (mf r) (nI (i)) (nI (n))))), (0, .ref (om)), (1, .int (nI (k))), (2, .int (nI (r))), (3, .int (nI (i))), (4, .int (nI (n))), (5, .int (nI (3)))]) el69) hl9
                                    exact ih165 (z + 1) (goW (upN (cpW V 0 55) (55 + 1) (2 + z)) (soN (upN (cpW V 0 55) (55 + 1) (2 + z)) k tf (40 * r + i) n)) (by omega) (off_go (fit_wf hy1 (by omega) (by omega)) (off_up (off_cp hV) (by omega)) _) (by omega) _ _ _ hP hD hS hl9
                            have hl9 := lv_sub (l' := [(11, .int (nI (2))), (10, .int (nI (0))), (9, .int (nI (24))), (8, .int (nI (2))), (7, .int (nI (1))), (6, .int (nI (agN (mf r) (nI (i)) (nI (n))))), (0, .ref (om)), (1, .int (nI (k))), (2, .int (nI (r))), (3, .int (nI (i))), (4, .int (nI (n))), (5, .int (nI (3)))]) hl [0, 1, 2, 3, 4, 5, 6, 7, 8, 9, 10, 11] rfl
                            have el70 : (.int (nI (2)) : Value) = .int (nI (2 + 0)) := by
                              rfl
                            have hl9 : lv_has ls 12 [(11, .int (nI (2 + 0))), (10, .int (nI (0))), (9, .int (nI (24))), (8, .int (nI (2))), (7, .int (nI (1))), (6, .int (nI (agN (mf r) (nI (i)) (nI (n))))), (0, .ref (om)), (1, .int (nI (k))), (2, .int (nI (r))), (3, .int (nI (i))), (4, .int (nI (n))), (5, .int (nI (3)))] := Eq.mp (congrArg (fun z9 => lv_has ls 12 [(11, z9), (10, .int (nI (0))), (9, .int (nI (24))), (8, .int (nI (2))), (7, .int (nI (1))), (6, .int (nI (agN (mf r) (nI (i)) (nI (n))))), (0, .ref (om)), (1, .int (nI (k))), (2, .int (nI (r))), (3, .int (nI (i))), (4, .int (nI (n))), (5, .int (nI (3)))]) el70) hl9
                            have el71 : (.int (nI (0)) : Value) = .int (nI (ftL Z k tf (40 * r + i) n (1) 2 0)) := by
                              rfl
                            have hl9 : lv_has ls 12 [(11, .int (nI (2 + 0))), (10, .int (nI (ftL Z k tf (40 * r + i) n (1) 2 0))), (9, .int (nI (24))), (8, .int (nI (2))), (7, .int (nI (1))), (6, .int (nI (agN (mf r) (nI (i)) (nI (n))))), (0, .ref (om)), (1, .int (nI (k))), (2, .int (nI (r))), (3, .int (nI (i))), (4, .int (nI (n))), (5, .int (nI (3)))] := Eq.mp (congrArg (fun z9 => lv_has ls 12 [(11, .int (nI (2 + 0))), (10, z9), (9, .int (nI (24))), (8, .int (nI (2))), (7, .int (nI (1))), (6, .int (nI (agN (mf r) (nI (i)) (nI (n))))), (0, .ref (om)), (1, .int (nI (k))), (2, .int (nI (r))), (3, .int (nI (i))), (4, .int (nI (n))), (5, .int (nI (3)))]) el71) hl9
                            exact loop165 _ 0 Z (by omega) (fun j hj => rfl) (Nat.lt_succ_self _) _ _ _ hP hD hS hl9
                          · skip
                            rw [nI_eq (by omega) (by omega)] at c61
                            exact absurd c61 (by decide)
                        · skip
                          rw [n_z (by omega)] at c60
                          exact absurd c60 (by decide)
                    · skip
                      rw [nI_eq (by omega) (by omega)] at c58
                      exact absurd c58 (by decide)
                  · skip
                    rw [nI_eq (by omega) (by omega)] at c57
                    exact absurd c57 (by decide)
                · skip
                  rw [nI_eq (by omega) (by omega)] at c56
                  exact absurd c56 (by decide)
              · skip
                rw [n_z (by omega)] at c55
                exact absurd c55 (by decide)
          · skip
            rw [n_le0 (by omega)] at c8
            refine lv_aload_n hx hb dX8_fits_59 rfl (lv_at hl 1 rfl) ?_
            refine lv_iload hx hb dX8_fits_60 (lv_at hl 0 rfl) ?_
            refine cVi (n := 1) (As := [.int (nI (agN (mf r) pi (nI (n))))]) (rest := []) (C := RX8) (ci := 8) (q0 := 0) (X := [(om, .inr (8, [.ref (mw), .int (nI (ud)), .ref (mt), .int (nI (td)), .int (nI (fy)), .int (nI (su)), .ref (mm), .ref (ml), .ref (mi), .ref (mh), .int (nI (cu)), .int (nI (sa)), .int (nI (nb)), .ref (mr), .int (nI (tn))])), (mw, .inl (cA 0, 1595, arN Z)), (mm, .inl (cA 0, 8, .inl mf)), (mi, .inl (cA 0, 320, .inl tf))]) (pl := []) (wc := [(om, .inr (8, [.ref (mw), .int (nI (ud)), .ref (mt), .int (nI (td)), .int (nI (fy)), .int (nI (su)), .ref (mm), .ref (ml), .ref (mi), .ref (mh), .int (nI (cu)), .int (nI (sa)), .int (nI (nb)), .ref (mr), .int (nI (tn))]))]) (wr := [(mw, .inl (cA 0, 1595, arN Z)), (mm, .inl (cA 0, 8, .inl mf)), (mi, .inl (cA 0, 320, .inl tf))]) (w1 := [(om, .inr (8, [.ref (mw), .int (nI (ud)), .ref (mt), .int (nI (td)), .int (nI (fy)), .int (nI (agN (mf r) pi (nI (n)))), .ref (mm), .ref (ml), .ref (mi), .ref (mh), .int (nI (cu)), .int (nI (sa)), .int (nI (nb)), .ref (mr), .int (nI (tn))]))]) (wn := [(om, .inr (8, [.ref (mw), .int (nI (ud)), .ref (mt), .int (nI (td)), .int (nI (fy)), .int (nI (agN (mf r) pi (nI (n)))), .ref (mm), .ref (ml), .ref (mi), .ref (mh), .int (nI (cu)), .int (nI (sa)), .int (nI (nb)), .ref (mr), .int (nI (tn))])), (mw, .inl (cA 0, 1595, arN Z)), (mm, .inl (cA 0, 8, .inl mf)), (mi, .inl (cA 0, 320, .inl tf))]) (isC := [0]) (isR := [1, 2, 3]) (isN := [3, 0, 1, 2]) ⟨hx, hb, hml, hown, hts⟩ (c_X8_finds l D cA tt om mw mt mm ml mi mh mr ud td fy su cu sa nb tn (agN (mf r) pi (nI (n)))  _) gX8_fits_X8_finds rfl (by decide +kernel) rfl rfl ⟨rfl, rfl⟩ ⟨Nat.le_of_ble_eq_true rfl, Nat.le_of_ble_eq_true rfl⟩ ⟨Nat.zero_le _, Nat.zero_le _⟩ hK hE hA hP hD hS ⟨⟨rfl, by decide⟩, ⟨rfl, by decide, by decide⟩, rfl, by decide⟩ rfl hl.1 rfl (Nat.le_of_ble_eq_true rfl) dX8_fits_62 (fun H locs hP hD hS => ?_)
            have hP : va_P D vwCl [(om, .inr (8, [.ref (mw), .int (nI (ud)), .ref (mt), .int (nI (td)), .int (nI (fy)), .int (nI (agN (mf r) pi (nI (n)))), .ref (mm), .ref (ml), .ref (mi), .ref (mh), .int (nI (cu)), .int (nI (sa)), .int (nI (nb)), .ref (mr), .int (nI (tn))])), (mw, .inl (cA 0, 1595, arN Z)), (mm, .inl (cA 0, 8, .inl mf)), (mi, .inl (cA 0, 320, .inl tf))] _ := hP
            have hD : va_D A [(om, .inr (8, [.ref (mw), .int (nI (ud)), .ref (mt), .int (nI (td)), .int (nI (fy)), .int (nI (agN (mf r) pi (nI (n)))), .ref (mm), .ref (ml), .ref (mi), .ref (mh), .int (nI (cu)), .int (nI (sa)), .int (nI (nb)), .ref (mr), .int (nI (tn))])), (mw, .inl (cA 0, 1595, arN Z)), (mm, .inl (cA 0, 8, .inl mf)), (mi, .inl (cA 0, 320, .inl tf))] := hD
            have ef72 : ([(om, .inr (8, [.ref (mw), .int (nI (ud)), .ref (mt), .int (nI (td)), .int (nI (fy)), .int (nI (agN (mf r) pi (nI (n)))), .ref (mm), .ref (ml), .ref (mi), .ref (mh), .int (nI (cu)), .int (nI (sa)), .int (nI (nb)), .ref (mr), .int (nI (tn))])), (mw, .inl (cA 0, 1595, arN Z)), (mm, .inl (cA 0, 8, .inl mf)), (mi, .inl (cA 0, 320, .inl tf))] : va_W) = [(om, .inr (8, [.ref (mw), .int (nI (ud)), .ref (mt), .int (nI (td)), .int (nI (fy)), .int (nI ((fitsS Z mf pk pr pi pn ph su))), .ref (mm), .ref (ml), .ref (mi), .ref (mh), .int (nI (cu)), .int (nI (sa)), .int (nI (nb)), .ref (mr), .int (nI (tn))])), (mw, .inl (cA 0, 1595, arN (mx Z (SK (0, 0, 0, 0, 0, Z, SP (sg Z 0), SD (sg Z 0), SG (sg Z 0), SS (sg Z 0)))))), (mm, .inl (cA 0, 8, .inl mf)), (mi, .inl (cA 0, 320, .inl tf))] := by
              rw [show mx Z (SK (0, 0, 0, 0, 0, Z, SP (sg Z 0), SD (sg Z 0), SG (sg Z 0), SS (sg Z 0))) = Z from mx_of (fun j hj => rfl)]
              rw [show fitsS Z mf pk pr pi pn ph su = agN (mf r) pi (nI n) from by unfold fitsS; rw [if_pos (by simp [c1, c3, c5, c7]), e_r, e_n, nI_clamp (n := r) (by omega)]]
            have hP : va_P D vwCl [(om, .inr (8, [.ref (mw), .int (nI (ud)), .ref (mt), .int (nI (td)), .int (nI (fy)), .int (nI ((fitsS Z mf pk pr pi pn ph su))), .ref (mm), .ref (ml), .ref (mi), .ref (mh), .int (nI (cu)), .int (nI (sa)), .int (nI (nb)), .ref (mr), .int (nI (tn))])), (mw, .inl (cA 0, 1595, arN (mx Z (SK (0, 0, 0, 0, 0, Z, SP (sg Z 0), SD (sg Z 0), SG (sg Z 0), SS (sg Z 0)))))), (mm, .inl (cA 0, 8, .inl mf)), (mi, .inl (cA 0, 320, .inl tf))] _ := Eq.mp (congrArg (fun z9 => va_P D vwCl z9 _) ef72) hP
            have hD : va_D A [(om, .inr (8, [.ref (mw), .int (nI (ud)), .ref (mt), .int (nI (td)), .int (nI (fy)), .int (nI ((fitsS Z mf pk pr pi pn ph su))), .ref (mm), .ref (ml), .ref (mi), .ref (mh), .int (nI (cu)), .int (nI (sa)), .int (nI (nb)), .ref (mr), .int (nI (tn))])), (mw, .inl (cA 0, 1595, arN (mx Z (SK (0, 0, 0, 0, 0, Z, SP (sg Z 0), SD (sg Z 0), SG (sg Z 0), SS (sg Z 0)))))), (mm, .inl (cA 0, 8, .inl mf)), (mi, .inl (cA 0, 320, .inl tf))] := Eq.mp (congrArg (fun z9 => va_D A z9) ef72) hD
            exact hend _ _ _ _ _ (0, 0, 0, 0, 0, Z, SP (sg Z 0), SD (sg Z 0), SG (sg Z 0), SS (sg Z 0)) hP hD hS (by unfold fitsM; rw [if_pos (by simp [c1, c3, c5, c7]), e_k, e_r, e_n, e_h, nI_clamp (n := k) (by omega), nI_clamp (n := r) (by omega), nI_clamp (n := n) (by omega), nI_clamp (n := h) (by omega), if_neg (by omega)]) dX8_fits_65
        · skip
          rw [bI_z] at c7
          refine lv_ldc (v := (-1000001)) hx hb hown (hts (.constant RX8 48 (-1000001)) (List.mem_of_getElem? (i := 3) rfl)) dX8_fits_41 ?_
          have ef73 : ([(om, .inr (8, [.ref (mw), .int (nI (ud)), .ref (mt), .int (nI (td)), .int (nI (fy)), .int (nI (su)), .ref (mm), .ref (ml), .ref (mi), .ref (mh), .int (nI (cu)), .int (nI (sa)), .int (nI (nb)), .ref (mr), .int (nI (tn))])), (mw, .inl (cA 0, 1595, arN Z)), (mm, .inl (cA 0, 8, .inl mf)), (mi, .inl (cA 0, 320, .inl tf))] : va_W) = [(om, .inr (8, [.ref (mw), .int (nI (ud)), .ref (mt), .int (nI (td)), .int (nI (fy)), .int (nI ((fitsS Z mf pk pr pi pn ph su))), .ref (mm), .ref (ml), .ref (mi), .ref (mh), .int (nI (cu)), .int (nI (sa)), .int (nI (nb)), .ref (mr), .int (nI (tn))])), (mw, .inl (cA 0, 1595, arN (mx Z (SK (0, 0, 0, 0, 0, Z, SP (sg Z 0), SD (sg Z 0), SG (sg Z 0), SS (sg Z 0)))))), (mm, .inl (cA 0, 8, .inl mf)), (mi, .inl (cA 0, 320, .inl tf))] := by
            rw [show mx Z (SK (0, 0, 0, 0, 0, Z, SP (sg Z 0), SD (sg Z 0), SG (sg Z 0), SS (sg Z 0))) = Z from mx_of (fun j hj => rfl)]
            rw [show fitsS Z mf pk pr pi pn ph su = su from by unfold fitsS; rw [if_neg (by simp [c1, c3, c5, c7])]]
          have hP : va_P D vwCl [(om, .inr (8, [.ref (mw), .int (nI (ud)), .ref (mt), .int (nI (td)), .int (nI (fy)), .int (nI ((fitsS Z mf pk pr pi pn ph su))), .ref (mm), .ref (ml), .ref (mi), .ref (mh), .int (nI (cu)), .int (nI (sa)), .int (nI (nb)), .ref (mr), .int (nI (tn))])), (mw, .inl (cA 0, 1595, arN (mx Z (SK (0, 0, 0, 0, 0, Z, SP (sg Z 0), SD (sg Z 0), SG (sg Z 0), SS (sg Z 0)))))), (mm, .inl (cA 0, 8, .inl mf)), (mi, .inl (cA 0, 320, .inl tf))] _ := Eq.mp (congrArg (fun z9 => va_P D vwCl z9 _) ef73) hP
          have hD : va_D A [(om, .inr (8, [.ref (mw), .int (nI (ud)), .ref (mt), .int (nI (td)), .int (nI (fy)), .int (nI ((fitsS Z mf pk pr pi pn ph su))), .ref (mm), .ref (ml), .ref (mi), .ref (mh), .int (nI (cu)), .int (nI (sa)), .int (nI (nb)), .ref (mr), .int (nI (tn))])), (mw, .inl (cA 0, 1595, arN (mx Z (SK (0, 0, 0, 0, 0, Z, SP (sg Z 0), SD (sg Z 0), SG (sg Z 0), SS (sg Z 0)))))), (mm, .inl (cA 0, 8, .inl mf)), (mi, .inl (cA 0, 320, .inl tf))] := Eq.mp (congrArg (fun z9 => va_D A z9) ef73) hD
          exact hend _ _ _ _ _ (0, 0, 0, 0, 0, Z, SP (sg Z 0), SD (sg Z 0), SG (sg Z 0), SS (sg Z 0)) hP hD hS (by unfold fitsM; rw [if_neg (by simp [c1, c3, c5, c7])]) dX8_fits_43
