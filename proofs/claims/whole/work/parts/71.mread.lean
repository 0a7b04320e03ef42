/-! ===== the reference: its reader ===== -/
def herI (td : Nat) (bf : Nat → Nat) (cu : Nat) : Int32 := if cu < td then nI (bf cu) else (-1)
def tkB (td : Nat) (bf : Nat → Nat) (v cu : Nat) : Bool := decide (herI td bf cu = nI v)
def digP (td : Nat) (bf : Nat → Nat) (cu i : Nat) : Bool := inI (herI td bf (cu + i)) (nI 48) (nI 57)
def numM (bf : Nat → Nat) (cu : Nat) : Nat → Nat
  | 0 => 0
  | i + 1 => if i < 2 then 10 * numM bf cu i + bf (cu + i) - 48 else numM bf cu i
def runM (td : Nat) (bf : Nat → Nat) (cu : Nat) : Nat := fstN 131 (fun q => !digP td bf cu q)
def nmB (td : Nat) (bf : Nat → Nat) (lo hi cu : Nat) : Bool := (decide (1 ≤ runM td bf cu) && decide (runM td bf cu ≤ 2)) && (decide (lo ≤ numM bf cu (runM td bf cu)) && decide (numM bf cu (runM td bf cu) ≤ hi))
def nmF (td : Nat) (bf : Nat → Nat) (cu : Nat) : Nat := if (decide (1 ≤ runM td bf cu) && decide (runM td bf cu ≤ 2)) = true then 2 else 1
theorem nI_ne1 {k : Nat} (h : k < 2 ^ 31) : ¬ nI k = -1 := fun q => by
  have := congrArg Int32.toInt q
  rw [nI_toInt h, show (-1 : Int32).toInt = -1 by decide] at this
  omega
theorem tk_lt {td : Nat} {bf : Nat → Nat} {v cu : Nat} (hv : v < 256) (h : tkB td bf v cu = true) : cu < td := by
  have h1 := of_decide_eq_true h
  unfold herI at h1
  by_cases q : cu < td
  · exact q
  · rw [if_neg q] at h1
    exact absurd h1.symm (nI_ne1 (by omega))
theorem dig_t {td : Nat} {bf : Nat → Nat} {cu i : Nat} (hbf : ∀ i, i < 130 → bf i < 256) (htd : td ≤ 130) (h : digP td bf cu i = true) : cu + i < td ∧ herI td bf (cu + i) = nI (bf (cu + i)) ∧ 48 ≤ bf (cu + i) ∧ bf (cu + i) ≤ 57 := by
  unfold digP at h
  by_cases q : cu + i < td
  · have e : herI td bf (cu + i) = nI (bf (cu + i)) := if_pos q
    rw [e] at h
    have hb := hbf (cu + i) (by omega)
    have := inI_tN (by omega) (by decide) (by decide) h
    exact ⟨q, e, this.1, this.2⟩
  · have e : herI td bf (cu + i) = -1 := if_neg q
    rw [e] at h
    exact absurd h (by decide)
theorem numM_le {bf : Nat → Nat} (hbf : ∀ i, i < 130 → bf i < 256) {cu i : Nat} (h : cu + i ≤ 130) : numM bf cu i ≤ 2500 := by
  have a : ∀ j, cu + j ≤ 130 → numM bf cu j ≤ 2500 ∧ (j ≤ 1 → numM bf cu j ≤ 207) := by
    intro j
    induction j with
    | zero => exact fun _ => ⟨Nat.zero_le _, fun _ => Nat.zero_le _⟩
    | succ j ih =>
      intro hj
      obtain ⟨i1, i2⟩ := ih (by omega)
      have hb := hbf (cu + j) (by omega)
      rw [numM]
      by_cases q : j < 2
      · rw [if_pos q]
        have := i2 (by omega)
        refine ⟨by omega, fun q1 => ?_⟩
        have : j = 0 := by omega
        subst this
        have : numM bf cu 0 = 0 := rfl
        omega
      · rw [if_neg q]
        exact ⟨i1, fun q1 => by omega⟩
  exact (a i h).1
theorem run_le {td : Nat} {bf : Nat → Nat} {cu : Nat} (hbf : ∀ i, i < 130 → bf i < 256) (htd : td ≤ 130) (hc : cu ≤ td) : cu + runM td bf cu ≤ td := by
  by_cases q : cu + runM td bf cu ≤ td
  · exact q
  · exfalso
    have h1 : digP td bf cu (td - cu) = true := by
      have := (fstN_spec 131 (fun q => !digP td bf cu q)).2.1 (td - cu) (by show td - cu < runM td bf cu; omega)
      simpa using this
    have := (dig_t hbf htd h1).1
    omega
set_option maxRecDepth 100000 in
set_option maxHeartbeats 4000000 in
theorem c_X8_here (l : Launch) (D : va_G) (cA : Nat → ClassId) (tt : Nat → Nat) (om mw mt mm ml mi mh mr ud td fy su cu sa nb tn : Nat) (bf : Nat → Nat) (hcu : cu ≤ td) (htd : td ≤ 130) (hbf : ∀ i, i < 130 → bf i < 256) (sz : Nat) : Ci l D cA tt yX8_here wsX8_here ({ frames := 0, cells := 0, slots := 0, locals := 0 } : Room) [.ref (om)] sz [(om, .inr (8, [.ref (mw), .int (nI (ud)), .ref (mt), .int (nI (td)), .int (nI (fy)), .int (nI (su)), .ref (mm), .ref (ml), .ref (mi), .ref (mh), .int (nI (cu)), .int (nI (sa)), .int (nI (nb)), .ref (mr), .int (nI (tn))])), (mt, .inl (cA 0, 130, arN bf))] [(om, .inr (8, [.ref (mw), .int (nI (ud)), .ref (mt), .int (nI (td)), .int (nI (fy)), .int (nI (su)), .ref (mm), .ref (ml), .ref (mi), .ref (mh), .int (nI (cu)), .int (nI (sa)), .int (nI (nb)), .ref (mr), .int (nI (tn))])), (mt, .inl (cA 0, 130, arN bf))] (herI td bf cu) := by
  refine Ci.mk (cc := cX8_here) (maxL := 1) (ty := .int) (by decide) rfl rfl (Nat.le_of_ble_eq_true rfl) ?_
  intro p e s m below meth c A Q ls hB hl hend
  obtain ⟨⟨hx, hb, hml, hown, hts⟩, hP, hK, hD, hS, hA, hE⟩ := hB
  have hown : s.vm.findClass RX8 = some m.cls := hown
  have hwsX80 : ∀ w9 ∈ wsX80, w9.before ([.ref (om)] : List Value).toArray s = true := fun w9 h => hts w9 (List.mem_cons_of_mem _ (List.mem_append_right _ h))
  have hl : lv_has ls 1 [(0, .ref (om))] := hl
  refine lv_aload_n hx hb dX8_here_0 rfl (lv_at hl 0 rfl) ?_
  refine va_get (v := .int (nI (cu))) (Ts := wsX80) (C := RX8) (T := TX8) (N := 15) hx hb hwsX80 (fun _ h => h) hown hK hP 0 rfl rfl 10 (by decide) (hts (.fieldLink RX8 63 "AdventStreetsModel" "at" "I") (List.mem_of_getElem? (i := 1) rfl)) (fun _ h9 => h9) rfl dX8_here_1 ?_
  refine lv_aload_n hx hb dX8_here_4 rfl (lv_at hl 0 rfl) ?_
  refine va_get (v := .int (nI (td))) (Ts := wsX80) (C := RX8) (T := TX8) (N := 15) hx hb hwsX80 (fun _ h => h) hown hK hP 0 rfl rfl 3 (by decide) (hts (.fieldLink RX8 59 "AdventStreetsModel" "taped" "I") (List.mem_of_getElem? (i := 2) rfl)) (fun _ h9 => h9) rfl dX8_here_5 ?_
  refine lv_icmp_ge (tgt := 23) hx hb dX8_here_8 (by decide) (fun c1 => ?_) (fun c1 => ?_)
  · skip
    rw [nI_leI (by omega) (by omega)] at c1
    refine lv_iconst (v := (-1)) hx hb dX8_here_23 (by decide) ?_
    exact hend _ _ _ _ _ hP hD hS (by unfold herI; rw [if_neg (by omega)]) dX8_here_24
  · skip
    rw [nI_leI (by omega) (by omega)] at c1
    refine lv_aload_n hx hb dX8_here_11 rfl (lv_at hl 0 rfl) ?_
    refine va_get (v := .ref (mt)) (Ts := wsX80) (C := RX8) (T := TX8) (N := 15) hx hb hwsX80 (fun _ h => h) hown hK hP 0 rfl rfl 2 (by decide) (hts (.fieldLink RX8 13 "AdventStreetsModel" "tape" "[I") (List.mem_of_getElem? (i := 3) rfl)) (fun _ h9 => h9) rfl dX8_here_12 ?_
    refine lv_aload_n hx hb dX8_here_15 rfl (lv_at hl 0 rfl) ?_
    refine va_get (v := .int (nI (cu))) (Ts := wsX80) (C := RX8) (T := TX8) (N := 15) hx hb hwsX80 (fun _ h => h) hown hK hP 0 rfl rfl 10 (by decide) (hts (.fieldLink RX8 63 "AdventStreetsModel" "at" "I") (List.mem_of_getElem? (i := 1) rfl)) (fun _ h9 => h9) rfl dX8_here_16 ?_
    refine r_ald (f := bf) hx hb hK hP 1 rfl (i := cu) (by omega) (Nat.lt_of_lt_of_le (by omega : 130 < 1073741824) (by decide)) dX8_here_19 ?_
    refine lv_goto (tgt := 24) hx hb dX8_here_20 (by decide) ?_
    exact hend _ _ _ _ _ hP hD hS (by unfold herI; rw [if_pos (by omega)]) dX8_here_24
set_option maxRecDepth 100000 in
set_option maxHeartbeats 4000000 in
theorem c_X8_fails (l : Launch) (D : va_G) (cA : Nat → ClassId) (tt : Nat → Nat) (om mw mt mm ml mi mh mr ud td fy su cu sa nb tn : Nat) (v k : Nat)  (sz : Nat) : Ci l D cA tt yX8_fails wsX8_fails ({ frames := 0, cells := 0, slots := 0, locals := 0 } : Room) [.ref (om), .int (nI (v)), .int (nI (k))] sz [(om, .inr (8, [.ref (mw), .int (nI (ud)), .ref (mt), .int (nI (td)), .int (nI (fy)), .int (nI (su)), .ref (mm), .ref (ml), .ref (mi), .ref (mh), .int (nI (cu)), .int (nI (sa)), .int (nI (nb)), .ref (mr), .int (nI (tn))]))] [(om, .inr (8, [.ref (mw), .int (nI (ud)), .ref (mt), .int (nI (td)), .int (nI (v)), .int (nI (su)), .ref (mm), .ref (ml), .ref (mi), .ref (mh), .int (nI (cu)), .int (nI (k)), .int (nI (nb)), .ref (mr), .int (nI (tn))]))] (bI (false)) := by
  refine Ci.mk (cc := cX8_fails) (maxL := 3) (ty := .boolean) (by decide) rfl (bI_n _) (Nat.le_of_ble_eq_true rfl) ?_
  intro p e s m below meth c A Q ls hB hl hend
  obtain ⟨⟨hx, hb, hml, hown, hts⟩, hP, hK, hD, hS, hA, hE⟩ := hB
  have hown : s.vm.findClass RX8 = some m.cls := hown
  have hwsX80 : ∀ w9 ∈ wsX80, w9.before ([.ref (om), .int (nI (v)), .int (nI (k))] : List Value).toArray s = true := fun w9 h => hts w9 (List.mem_cons_of_mem _ (List.mem_append_right _ h))
  have hl : lv_has ls 3 [(0, .ref (om)), (1, .int (nI (v))), (2, .int (nI (k)))] := hl
  refine lv_aload_n hx hb dX8_fails_0 rfl (lv_at hl 0 rfl) ?_
  refine lv_iload_n hx hb dX8_fails_1 rfl (lv_at hl 1 rfl) ?_
  refine va_put (v := .int (nI (v))) (ty := .int) (Ts := wsX80) (C := RX8) (T := TX8) (N := 15) hx hb hwsX80 (fun _ h => h) tyX8 tyX8_ok nmX8 hown hK hP hD hS 0 rfl rfl 4 (by decide) (hts (.fieldLink RX8 66 "AdventStreetsModel" "faulty" "I") (List.mem_of_getElem? (i := 1) rfl)) (fun _ h9 => h9) rfl (tyX8_ok 4 (by decide)) rfl rfl (Nat.le_of_ble_eq_true rfl) dX8_fails_2 (fun H locs hP hD hS => ?_)
  have hP : va_P D vwCl [(om, .inr (8, [.ref (mw), .int (nI (ud)), .ref (mt), .int (nI (td)), .int (nI (v)), .int (nI (su)), .ref (mm), .ref (ml), .ref (mi), .ref (mh), .int (nI (cu)), .int (nI (sa)), .int (nI (nb)), .ref (mr), .int (nI (tn))]))] _ := hP
  have hD : va_D A [(om, .inr (8, [.ref (mw), .int (nI (ud)), .ref (mt), .int (nI (td)), .int (nI (v)), .int (nI (su)), .ref (mm), .ref (ml), .ref (mi), .ref (mh), .int (nI (cu)), .int (nI (sa)), .int (nI (nb)), .ref (mr), .int (nI (tn))]))] := hD
  refine lv_aload_n hx hb dX8_fails_5 rfl (lv_at hl 0 rfl) ?_
  refine lv_iload_n hx hb dX8_fails_6 rfl (lv_at hl 2 rfl) ?_
  refine va_put (v := .int (nI (k))) (ty := .int) (Ts := wsX80) (C := RX8) (T := TX8) (N := 15) hx hb hwsX80 (fun _ h => h) tyX8 tyX8_ok nmX8 hown hK hP hD hS 0 rfl rfl 11 (by decide) (hts (.fieldLink RX8 69 "AdventStreetsModel" "start" "I") (List.mem_of_getElem? (i := 2) rfl)) (fun _ h9 => h9) rfl (tyX8_ok 11 (by decide)) rfl rfl (Nat.le_of_ble_eq_true rfl) dX8_fails_7 (fun H locs hP hD hS => ?_)
  have hP : va_P D vwCl [(om, .inr (8, [.ref (mw), .int (nI (ud)), .ref (mt), .int (nI (td)), .int (nI (v)), .int (nI (su)), .ref (mm), .ref (ml), .ref (mi), .ref (mh), .int (nI (cu)), .int (nI (k)), .int (nI (nb)), .ref (mr), .int (nI (tn))]))] _ := hP
  have hD : va_D A [(om, .inr (8, [.ref (mw), .int (nI (ud)), .ref (mt), .int (nI (td)), .int (nI (v)), .int (nI (su)), .ref (mm), .ref (ml), .ref (mi), .ref (mh), .int (nI (cu)), .int (nI (k)), .int (nI (nb)), .ref (mr), .int (nI (tn))]))] := hD
  refine lv_iconst (v := nI (0)) hx hb dX8_fails_10 (by decide) ?_
  exact hend _ _ _ _ _ hP hD hS (rfl) dX8_fails_11
set_option maxRecDepth 100000 in
set_option maxHeartbeats 4000000 in
theorem c_X8_takes (l : Launch) (D : va_G) (cA : Nat → ClassId) (tt : Nat → Nat) (om mw mt mm ml mi mh mr ud td fy su cu sa nb tn : Nat) (bf : Nat → Nat) (v : Nat) (hcu : cu ≤ td) (htd : td ≤ 130) (hbf : ∀ i, i < 130 → bf i < 256) (hv : v < 256) (sz : Nat) : Ci l D cA tt yX8_takes wsX8_takes ({ frames := 1, cells := 0, slots := 0, locals := 22 } : Room) [.ref (om), .int (nI (v))] sz [(om, .inr (8, [.ref (mw), .int (nI (ud)), .ref (mt), .int (nI (td)), .int (nI (fy)), .int (nI (su)), .ref (mm), .ref (ml), .ref (mi), .ref (mh), .int (nI (cu)), .int (nI (sa)), .int (nI (nb)), .ref (mr), .int (nI (tn))])), (mt, .inl (cA 0, 130, arN bf))] [(om, .inr (8, [.ref (mw), .int (nI (ud)), .ref (mt), .int (nI (td)), .int (nI ((if tkB td bf v cu = true then fy else 1))), .int (nI (su)), .ref (mm), .ref (ml), .ref (mi), .ref (mh), .int (nI ((if tkB td bf v cu = true then cu + 1 else cu))), .int (nI ((if tkB td bf v cu = true then sa else cu))), .int (nI (nb)), .ref (mr), .int (nI (tn))])), (mt, .inl (cA 0, 130, arN bf))] (bI (tkB td bf v cu)) := by
  refine Ci.mk (cc := cX8_takes) (maxL := 2) (ty := .boolean) (by decide) rfl (bI_n _) (Nat.le_of_ble_eq_true rfl) ?_
  intro p e s m below meth c A Q ls hB hl hend
  obtain ⟨⟨hx, hb, hml, hown, hts⟩, hP, hK, hD, hS, hA, hE⟩ := hB
  have hown : s.vm.findClass RX8 = some m.cls := hown
  have hwsX80 : ∀ w9 ∈ wsX80, w9.before ([.ref (om), .int (nI (v))] : List Value).toArray s = true := fun w9 h => hts w9 (List.mem_cons_of_mem _ (List.mem_append_right _ h))
  have hl : lv_has ls 2 [(0, .ref (om)), (1, .int (nI (v)))] := hl
  refine lv_aload_n hx hb dX8_takes_0 rfl (lv_at hl 0 rfl) ?_
  refine cVi (n := 0) (As := []) (rest := []) (C := RX8) (ci := 8) (q0 := 0) (X := [(om, .inr (8, [.ref (mw), .int (nI (ud)), .ref (mt), .int (nI (td)), .int (nI (fy)), .int (nI (su)), .ref (mm), .ref (ml), .ref (mi), .ref (mh), .int (nI (cu)), .int (nI (sa)), .int (nI (nb)), .ref (mr), .int (nI (tn))])), (mt, .inl (cA 0, 130, arN bf))]) (pl := []) (wc := [(om, .inr (8, [.ref (mw), .int (nI (ud)), .ref (mt), .int (nI (td)), .int (nI (fy)), .int (nI (su)), .ref (mm), .ref (ml), .ref (mi), .ref (mh), .int (nI (cu)), .int (nI (sa)), .int (nI (nb)), .ref (mr), .int (nI (tn))])), (mt, .inl (cA 0, 130, arN bf))]) (wr := ([] : va_W)) (w1 := [(om, .inr (8, [.ref (mw), .int (nI (ud)), .ref (mt), .int (nI (td)), .int (nI (fy)), .int (nI (su)), .ref (mm), .ref (ml), .ref (mi), .ref (mh), .int (nI (cu)), .int (nI (sa)), .int (nI (nb)), .ref (mr), .int (nI (tn))])), (mt, .inl (cA 0, 130, arN bf))]) (wn := [(om, .inr (8, [.ref (mw), .int (nI (ud)), .ref (mt), .int (nI (td)), .int (nI (fy)), .int (nI (su)), .ref (mm), .ref (ml), .ref (mi), .ref (mh), .int (nI (cu)), .int (nI (sa)), .int (nI (nb)), .ref (mr), .int (nI (tn))])), (mt, .inl (cA 0, 130, arN bf))]) (isC := [0, 1]) (isR := []) (isN := [0, 1]) ⟨hx, hb, hml, hown, hts⟩ (c_X8_here l D cA tt om mw mt mm ml mi mh mr ud td fy su cu sa nb tn bf (hcu) (htd) (hbf) _) gX8_takes_X8_here rfl (by decide +kernel) rfl rfl ⟨rfl, rfl⟩ ⟨Nat.le_of_ble_eq_true rfl, Nat.le_of_ble_eq_true rfl⟩ ⟨Nat.zero_le _, Nat.zero_le _⟩ hK hE hA hP hD hS ⟨⟨rfl, by decide⟩, ⟨rfl, by decide, by decide⟩, rfl, by decide⟩ rfl hl.1 rfl (Nat.le_of_ble_eq_true rfl) dX8_takes_1 (fun H locs hP hD hS => ?_)
  have hP : va_P D vwCl [(om, .inr (8, [.ref (mw), .int (nI (ud)), .ref (mt), .int (nI (td)), .int (nI (fy)), .int (nI (su)), .ref (mm), .ref (ml), .ref (mi), .ref (mh), .int (nI (cu)), .int (nI (sa)), .int (nI (nb)), .ref (mr), .int (nI (tn))])), (mt, .inl (cA 0, 130, arN bf))] _ := hP
  have hD : va_D A [(om, .inr (8, [.ref (mw), .int (nI (ud)), .ref (mt), .int (nI (td)), .int (nI (fy)), .int (nI (su)), .ref (mm), .ref (ml), .ref (mi), .ref (mh), .int (nI (cu)), .int (nI (sa)), .int (nI (nb)), .ref (mr), .int (nI (tn))])), (mt, .inl (cA 0, 130, arN bf))] := hD
  refine lv_iload_n hx hb dX8_takes_4 rfl (lv_at hl 1 rfl) ?_
  refine lv_icmp_eq (tgt := 18) hx hb dX8_takes_5 (by decide) (fun c1 => ?_) (fun c1 => ?_)
  · skip
    refine lv_aload_n hx hb dX8_takes_18 rfl (lv_at hl 0 rfl) ?_
    refine lv_dup hx hb dX8_takes_19 rfl ?_
    refine va_get (v := .int (nI (cu))) (Ts := wsX80) (C := RX8) (T := TX8) (N := 15) hx hb hwsX80 (fun _ h => h) hown hK hP 0 rfl rfl 10 (by decide) (hts (.fieldLink RX8 63 "AdventStreetsModel" "at" "I") (List.mem_of_getElem? (i := 1) rfl)) (fun _ h9 => h9) rfl dX8_takes_20 ?_
    refine lv_iconst (v := nI (1)) hx hb dX8_takes_23 (by decide) ?_
    refine lv_iadd hx hb dX8_takes_24 ?_
    refine vn_i (v := nI (cu + 1)) (nI_add _ _) ?_
    refine va_put (v := .int (nI (cu + 1))) (ty := .int) (Ts := wsX80) (C := RX8) (T := TX8) (N := 15) hx hb hwsX80 (fun _ h => h) tyX8 tyX8_ok nmX8 hown hK hP hD hS 0 rfl rfl 10 (by decide) (hts (.fieldLink RX8 63 "AdventStreetsModel" "at" "I") (List.mem_of_getElem? (i := 1) rfl)) (fun _ h9 => h9) rfl (tyX8_ok 10 (by decide)) rfl rfl (Nat.le_of_ble_eq_true rfl) dX8_takes_25 (fun H locs hP hD hS => ?_)
    have hP : va_P D vwCl [(om, .inr (8, [.ref (mw), .int (nI (ud)), .ref (mt), .int (nI (td)), .int (nI (fy)), .int (nI (su)), .ref (mm), .ref (ml), .ref (mi), .ref (mh), .int (nI (cu + 1)), .int (nI (sa)), .int (nI (nb)), .ref (mr), .int (nI (tn))])), (mt, .inl (cA 0, 130, arN bf))] _ := hP
    have hD : va_D A [(om, .inr (8, [.ref (mw), .int (nI (ud)), .ref (mt), .int (nI (td)), .int (nI (fy)), .int (nI (su)), .ref (mm), .ref (ml), .ref (mi), .ref (mh), .int (nI (cu + 1)), .int (nI (sa)), .int (nI (nb)), .ref (mr), .int (nI (tn))])), (mt, .inl (cA 0, 130, arN bf))] := hD
    refine lv_iconst (v := nI (1)) hx hb dX8_takes_28 (by decide) ?_
    have ef2 : ([(om, .inr (8, [.ref (mw), .int (nI (ud)), .ref (mt), .int (nI (td)), .int (nI (fy)), .int (nI (su)), .ref (mm), .ref (ml), .ref (mi), .ref (mh), .int (nI (cu + 1)), .int (nI (sa)), .int (nI (nb)), .ref (mr), .int (nI (tn))])), (mt, .inl (cA 0, 130, arN bf))] : va_W) = [(om, .inr (8, [.ref (mw), .int (nI (ud)), .ref (mt), .int (nI (td)), .int (nI ((if tkB td bf v cu = true then fy else 1))), .int (nI (su)), .ref (mm), .ref (ml), .ref (mi), .ref (mh), .int (nI ((if tkB td bf v cu = true then cu + 1 else cu))), .int (nI ((if tkB td bf v cu = true then sa else cu))), .int (nI (nb)), .ref (mr), .int (nI (tn))])), (mt, .inl (cA 0, 130, arN bf))] := by
      rw [show tkB td bf v cu = true from decide_eq_true c1] <;> rfl
    have hP : va_P D vwCl [(om, .inr (8, [.ref (mw), .int (nI (ud)), .ref (mt), .int (nI (td)), .int (nI ((if tkB td bf v cu = true then fy else 1))), .int (nI (su)), .ref (mm), .ref (ml), .ref (mi), .ref (mh), .int (nI ((if tkB td bf v cu = true then cu + 1 else cu))), .int (nI ((if tkB td bf v cu = true then sa else cu))), .int (nI (nb)), .ref (mr), .int (nI (tn))])), (mt, .inl (cA 0, 130, arN bf))] _ := Eq.mp (congrArg (fun z9 => va_P D vwCl z9 _) ef2) hP
    have hD : va_D A [(om, .inr (8, [.ref (mw), .int (nI (ud)), .ref (mt), .int (nI (td)), .int (nI ((if tkB td bf v cu = true then fy else 1))), .int (nI (su)), .ref (mm), .ref (ml), .ref (mi), .ref (mh), .int (nI ((if tkB td bf v cu = true then cu + 1 else cu))), .int (nI ((if tkB td bf v cu = true then sa else cu))), .int (nI (nb)), .ref (mr), .int (nI (tn))])), (mt, .inl (cA 0, 130, arN bf))] := Eq.mp (congrArg (fun z9 => va_D A z9) ef2) hD
    exact hend _ _ _ _ _ hP hD hS (one_bI (decide_eq_true c1)) dX8_takes_29
  · skip
    refine lv_aload_n hx hb dX8_takes_8 rfl (lv_at hl 0 rfl) ?_
    refine lv_iconst (v := nI (1)) hx hb dX8_takes_9 (by decide) ?_
    refine lv_aload_n hx hb dX8_takes_10 rfl (lv_at hl 0 rfl) ?_
    refine va_get (v := .int (nI (cu))) (Ts := wsX80) (C := RX8) (T := TX8) (N := 15) hx hb hwsX80 (fun _ h => h) hown hK hP 0 rfl rfl 10 (by decide) (hts (.fieldLink RX8 63 "AdventStreetsModel" "at" "I") (List.mem_of_getElem? (i := 1) rfl)) (fun _ h9 => h9) rfl dX8_takes_11 ?_
    refine cVi (n := 2) (As := [.int (nI (1)), .int (nI (cu))]) (rest := []) (C := RX8) (ci := 8) (q0 := 0) (X := [(om, .inr (8, [.ref (mw), .int (nI (ud)), .ref (mt), .int (nI (td)), .int (nI (fy)), .int (nI (su)), .ref (mm), .ref (ml), .ref (mi), .ref (mh), .int (nI (cu)), .int (nI (sa)), .int (nI (nb)), .ref (mr), .int (nI (tn))])), (mt, .inl (cA 0, 130, arN bf))]) (pl := []) (wc := [(om, .inr (8, [.ref (mw), .int (nI (ud)), .ref (mt), .int (nI (td)), .int (nI (fy)), .int (nI (su)), .ref (mm), .ref (ml), .ref (mi), .ref (mh), .int (nI (cu)), .int (nI (sa)), .int (nI (nb)), .ref (mr), .int (nI (tn))]))]) (wr := [(mt, .inl (cA 0, 130, arN bf))]) (w1 := [(om, .inr (8, [.ref (mw), .int (nI (ud)), .ref (mt), .int (nI (td)), .int (nI (1)), .int (nI (su)), .ref (mm), .ref (ml), .ref (mi), .ref (mh), .int (nI (cu)), .int (nI (cu)), .int (nI (nb)), .ref (mr), .int (nI (tn))]))]) (wn := [(om, .inr (8, [.ref (mw), .int (nI (ud)), .ref (mt), .int (nI (td)), .int (nI (1)), .int (nI (su)), .ref (mm), .ref (ml), .ref (mi), .ref (mh), .int (nI (cu)), .int (nI (cu)), .int (nI (nb)), .ref (mr), .int (nI (tn))])), (mt, .inl (cA 0, 130, arN bf))]) (isC := [0]) (isR := [1]) (isN := [1, 0]) ⟨hx, hb, hml, hown, hts⟩ (c_X8_fails l D cA tt om mw mt mm ml mi mh mr ud td fy su cu sa nb tn 1 cu  _) gX8_takes_X8_fails rfl (by decide +kernel) rfl rfl ⟨rfl, rfl⟩ ⟨Nat.le_of_ble_eq_true rfl, Nat.le_of_ble_eq_true rfl⟩ ⟨Nat.zero_le _, Nat.zero_le _⟩ hK hE hA hP hD hS ⟨⟨rfl, by decide⟩, ⟨rfl, by decide, by decide⟩, rfl, by decide⟩ rfl hl.1 rfl (Nat.le_of_ble_eq_true rfl) dX8_takes_14 (fun H locs hP hD hS => ?_)
    have hP : va_P D vwCl [(om, .inr (8, [.ref (mw), .int (nI (ud)), .ref (mt), .int (nI (td)), .int (nI (1)), .int (nI (su)), .ref (mm), .ref (ml), .ref (mi), .ref (mh), .int (nI (cu)), .int (nI (cu)), .int (nI (nb)), .ref (mr), .int (nI (tn))])), (mt, .inl (cA 0, 130, arN bf))] _ := hP
    have hD : va_D A [(om, .inr (8, [.ref (mw), .int (nI (ud)), .ref (mt), .int (nI (td)), .int (nI (1)), .int (nI (su)), .ref (mm), .ref (ml), .ref (mi), .ref (mh), .int (nI (cu)), .int (nI (cu)), .int (nI (nb)), .ref (mr), .int (nI (tn))])), (mt, .inl (cA 0, 130, arN bf))] := hD
    have ef3 : ([(om, .inr (8, [.ref (mw), .int (nI (ud)), .ref (mt), .int (nI (td)), .int (nI (1)), .int (nI (su)), .ref (mm), .ref (ml), .ref (mi), .ref (mh), .int (nI (cu)), .int (nI (cu)), .int (nI (nb)), .ref (mr), .int (nI (tn))])), (mt, .inl (cA 0, 130, arN bf))] : va_W) = [(om, .inr (8, [.ref (mw), .int (nI (ud)), .ref (mt), .int (nI (td)), .int (nI ((if tkB td bf v cu = true then fy else 1))), .int (nI (su)), .ref (mm), .ref (ml), .ref (mi), .ref (mh), .int (nI ((if tkB td bf v cu = true then cu + 1 else cu))), .int (nI ((if tkB td bf v cu = true then sa else cu))), .int (nI (nb)), .ref (mr), .int (nI (tn))])), (mt, .inl (cA 0, 130, arN bf))] := by
      rw [show tkB td bf v cu = false from decide_eq_false c1] <;> rfl
    have hP : va_P D vwCl [(om, .inr (8, [.ref (mw), .int (nI (ud)), .ref (mt), .int (nI (td)), .int (nI ((if tkB td bf v cu = true then fy else 1))), .int (nI (su)), .ref (mm), .ref (ml), .ref (mi), .ref (mh), .int (nI ((if tkB td bf v cu = true then cu + 1 else cu))), .int (nI ((if tkB td bf v cu = true then sa else cu))), .int (nI (nb)), .ref (mr), .int (nI (tn))])), (mt, .inl (cA 0, 130, arN bf))] _ := Eq.mp (congrArg (fun z9 => va_P D vwCl z9 _) ef3) hP
    have hD : va_D A [(om, .inr (8, [.ref (mw), .int (nI (ud)), .ref (mt), .int (nI (td)), .int (nI ((if tkB td bf v cu = true then fy else 1))), .int (nI (su)), .ref (mm), .ref (ml), .ref (mi), .ref (mh), .int (nI ((if tkB td bf v cu = true then cu + 1 else cu))), .int (nI ((if tkB td bf v cu = true then sa else cu))), .int (nI (nb)), .ref (mr), .int (nI (tn))])), (mt, .inl (cA 0, 130, arN bf))] := Eq.mp (congrArg (fun z9 => va_D A z9) ef3) hD
    exact hend _ _ _ _ _ hP hD hS (by rw [show tkB td bf v cu = false from decide_eq_false c1]) dX8_takes_17
set_option maxRecDepth 100000 in
set_option maxHeartbeats 4000000 in
theorem c_X8_kindOf (l : Launch) (D : va_G) (cA : Nat → ClassId) (tt : Nat → Nat) (v : Int32)  (sz : Nat) : Ci l D cA tt yX8_kindOf wsX8_kindOf ({ frames := 0, cells := 0, slots := 0, locals := 0 } : Room) [.int (v)] sz ([] : va_W) ([] : va_W) (nI (kindM v)) := by
  refine Ci.mk (cc := cX8_kindOf) (maxL := 1) (ty := .int) (by decide) rfl rfl (Nat.le_of_ble_eq_true rfl) ?_
  intro p e s m below meth c A Q ls hB hl hend
  obtain ⟨⟨hx, hb, hml, hown, hts⟩, hP, hK, hD, hS, hA, hE⟩ := hB
  have hown : s.vm.findClass RX8 = some m.cls := hown
  have hl : lv_has ls 1 [(0, .int (v))] := hl
  refine lv_iload_n hx hb dX8_kindOf_0 rfl (lv_at hl 0 rfl) ?_
  refine lv_bipush (v := nI (102)) hx hb dX8_kindOf_1 (by decide) ?_
  refine lv_icmp_ne (tgt := 10) hx hb dX8_kindOf_3 (by decide) (fun c1 => ?_) (fun c1 => ?_)
  · skip
    refine lv_iload_n hx hb dX8_kindOf_10 rfl (lv_at hl 0 rfl) ?_
    refine lv_bipush (v := nI (100)) hx hb dX8_kindOf_11 (by decide) ?_
    refine lv_icmp_ne (tgt := 20) hx hb dX8_kindOf_13 (by decide) (fun c2 => ?_) (fun c2 => ?_)
    · skip
      refine lv_iload_n hx hb dX8_kindOf_20 rfl (lv_at hl 0 rfl) ?_
      refine lv_bipush (v := nI (99)) hx hb dX8_kindOf_21 (by decide) ?_
      refine lv_icmp_ne (tgt := 30) hx hb dX8_kindOf_23 (by decide) (fun c3 => ?_) (fun c3 => ?_)
      · skip
        refine lv_iload_n hx hb dX8_kindOf_30 rfl (lv_at hl 0 rfl) ?_
        refine lv_bipush (v := nI (116)) hx hb dX8_kindOf_31 (by decide) ?_
        refine lv_icmp_ne (tgt := 40) hx hb dX8_kindOf_33 (by decide) (fun c4 => ?_) (fun c4 => ?_)
        · skip
          refine lv_iload_n hx hb dX8_kindOf_40 rfl (lv_at hl 0 rfl) ?_
          refine lv_bipush (v := nI (114)) hx hb dX8_kindOf_41 (by decide) ?_
          refine lv_icmp_ne (tgt := 50) hx hb dX8_kindOf_43 (by decide) (fun c5 => ?_) (fun c5 => ?_)
          · skip
            refine lv_iconst (v := nI (0)) hx hb dX8_kindOf_50 (by decide) ?_
            exact hend _ _ _ _ _ hP hD hS (by unfold kindM; rw [if_neg (fun h9 => c1 (h9.trans (by decide))), if_neg (fun h9 => c2 (h9.trans (by decide))), if_neg (fun h9 => c3 (h9.trans (by decide))), if_neg (fun h9 => c4 (h9.trans (by decide))), if_neg (fun h9 => c5 (h9.trans (by decide)))]) dX8_kindOf_51
          · skip
            refine lv_iconst (v := nI (5)) hx hb dX8_kindOf_46 (by decide) ?_
            refine lv_goto (tgt := 51) hx hb dX8_kindOf_47 (by decide) ?_
            exact hend _ _ _ _ _ hP hD hS (by unfold kindM; rw [if_neg (fun h9 => c1 (h9.trans (by decide))), if_neg (fun h9 => c2 (h9.trans (by decide))), if_neg (fun h9 => c3 (h9.trans (by decide))), if_neg (fun h9 => c4 (h9.trans (by decide))), if_pos (c5.trans (by decide))]) dX8_kindOf_51
        · skip
          refine lv_iconst (v := nI (4)) hx hb dX8_kindOf_36 (by decide) ?_
          refine lv_goto (tgt := 51) hx hb dX8_kindOf_37 (by decide) ?_
          exact hend _ _ _ _ _ hP hD hS (by unfold kindM; rw [if_neg (fun h9 => c1 (h9.trans (by decide))), if_neg (fun h9 => c2 (h9.trans (by decide))), if_neg (fun h9 => c3 (h9.trans (by decide))), if_pos (c4.trans (by decide))]) dX8_kindOf_51
      · skip
        refine lv_iconst (v := nI (3)) hx hb dX8_kindOf_26 (by decide) ?_
        refine lv_goto (tgt := 51) hx hb dX8_kindOf_27 (by decide) ?_
        exact hend _ _ _ _ _ hP hD hS (by unfold kindM; rw [if_neg (fun h9 => c1 (h9.trans (by decide))), if_neg (fun h9 => c2 (h9.trans (by decide))), if_pos (c3.trans (by decide))]) dX8_kindOf_51
    · skip
      refine lv_iconst (v := nI (2)) hx hb dX8_kindOf_16 (by decide) ?_
      refine lv_goto (tgt := 51) hx hb dX8_kindOf_17 (by decide) ?_
      exact hend _ _ _ _ _ hP hD hS (by unfold kindM; rw [if_neg (fun h9 => c1 (h9.trans (by decide))), if_pos (c2.trans (by decide))]) dX8_kindOf_51
  · skip
    refine lv_iconst (v := nI (1)) hx hb dX8_kindOf_6 (by decide) ?_
    refine lv_goto (tgt := 51) hx hb dX8_kindOf_7 (by decide) ?_
    exact hend _ _ _ _ _ hP hD hS (by unfold kindM; rw [if_pos (c1.trans (by decide))]) dX8_kindOf_51
set_option maxRecDepth 100000 in
set_option maxHeartbeats 4000000 in
theorem c_X8_takesNumber (l : Launch) (D : va_G) (cA : Nat → ClassId) (tt : Nat → Nat) (om mw mt mm ml mi mh mr ud td fy su cu sa nb tn : Nat) (bf : Nat → Nat) (lo hi : Nat) (hcu : cu ≤ td) (htd : td ≤ 130) (hbf : ∀ i, i < 130 → bf i < 256) (hlo : lo < 1024) (hhi : hi < 1024) (sz : Nat) : Ci l D cA tt yX8_takesNumber wsX8_takesNumber ({ frames := 1, cells := 0, slots := 0, locals := 25 } : Room) [.ref (om), .int (nI (lo)), .int (nI (hi))] sz [(om, .inr (8, [.ref (mw), .int (nI (ud)), .ref (mt), .int (nI (td)), .int (nI (fy)), .int (nI (su)), .ref (mm), .ref (ml), .ref (mi), .ref (mh), .int (nI (cu)), .int (nI (sa)), .int (nI (nb)), .ref (mr), .int (nI (tn))])), (mt, .inl (cA 0, 130, arN bf))] [(om, .inr (8, [.ref (mw), .int (nI (ud)), .ref (mt), .int (nI (td)), .int (nI ((if nmB td bf lo hi cu = true then fy else nmF td bf cu))), .int (nI (su)), .ref (mm), .ref (ml), .ref (mi), .ref (mh), .int (nI ((cu + runM td bf cu))), .int (nI ((if nmB td bf lo hi cu = true then sa else cu))), .int (nI ((numM bf cu (runM td bf cu)))), .ref (mr), .int (nI (tn))])), (mt, .inl (cA 0, 130, arN bf))] (bI (nmB td bf lo hi cu)) := by
  refine Ci.mk (cc := cX8_takesNumber) (maxL := 4) (ty := .boolean) (by decide) rfl (bI_n _) (Nat.le_of_ble_eq_true rfl) ?_
  intro p e s m below meth c A Q ls hB hl hend
  obtain ⟨⟨hx, hb, hml, hown, hts⟩, hP, hK, hD, hS, hA, hE⟩ := hB
  have hown : s.vm.findClass RX8 = some m.cls := hown
  have hwsX80 : ∀ w9 ∈ wsX80, w9.before ([.ref (om), .int (nI (lo)), .int (nI (hi))] : List Value).toArray s = true := fun w9 h => hts w9 (List.mem_cons_of_mem _ (List.mem_append_right _ h))
  have hl : lv_has ls 4 [(0, .ref (om)), (1, .int (nI (lo))), (2, .int (nI (hi)))] := hl
  refine lv_aload_n hx hb dX8_takesNumber_0 rfl (lv_at hl 0 rfl) ?_
  refine va_get (v := .int (nI (cu))) (Ts := wsX80) (C := RX8) (T := TX8) (N := 15) hx hb hwsX80 (fun _ h => h) hown hK hP 0 rfl rfl 10 (by decide) (hts (.fieldLink RX8 63 "AdventStreetsModel" "at" "I") (List.mem_of_getElem? (i := 1) rfl)) (fun _ h9 => h9) rfl dX8_takesNumber_1 ?_
  refine lv_istore_n (lv' := [(3, .int (nI (cu))), (0, .ref (om)), (1, .int (nI (lo))), (2, .int (nI (hi)))]) hx hb dX8_takesNumber_4 rfl hl (by decide) rfl (fun ls hl => ?_)
  refine lv_aload_n hx hb dX8_takesNumber_5 rfl (lv_at hl 1 rfl) ?_
  refine lv_iconst (v := nI (0)) hx hb dX8_takesNumber_6 (by decide) ?_
  refine va_put (v := .int (nI (0))) (ty := .int) (Ts := wsX80) (C := RX8) (T := TX8) (N := 15) hx hb hwsX80 (fun _ h => h) tyX8 tyX8_ok nmX8 hown hK hP hD hS 0 rfl rfl 12 (by decide) (hts (.fieldLink RX8 80 "AdventStreetsModel" "number" "I") (List.mem_of_getElem? (i := 2) rfl)) (fun _ h9 => h9) rfl (tyX8_ok 12 (by decide)) rfl rfl (Nat.le_of_ble_eq_true rfl) dX8_takesNumber_7 (fun H locs hP hD hS => ?_)
  have hP : va_P D vwCl [(om, .inr (8, [.ref (mw), .int (nI (ud)), .ref (mt), .int (nI (td)), .int (nI (fy)), .int (nI (su)), .ref (mm), .ref (ml), .ref (mi), .ref (mh), .int (nI (cu)), .int (nI (sa)), .int (nI (0)), .ref (mr), .int (nI (tn))])), (mt, .inl (cA 0, 130, arN bf))] _ := hP
  have hD : va_D A [(om, .inr (8, [.ref (mw), .int (nI (ud)), .ref (mt), .int (nI (td)), .int (nI (fy)), .int (nI (su)), .ref (mm), .ref (ml), .ref (mi), .ref (mh), .int (nI (cu)), .int (nI (sa)), .int (nI (0)), .ref (mr), .int (nI (tn))])), (mt, .inl (cA 0, 130, arN bf))] := hD
  have loop10 : ∀ (N10 : Nat) (i : Nat), (cu + i ≤ td) → (∀ q, q < i → digP td bf cu q = true) → (131 - i) < N10 → ∀ (H : Heap) (locs : List Loc) (ls : Array Slot), va_P D vwCl [(om, .inr (8, [.ref (mw), .int (nI (ud)), .ref (mt), .int (nI (td)), .int (nI (fy)), .int (nI (su)), .ref (mm), .ref (ml), .ref (mi), .ref (mh), .int (nI (cu + i)), .int (nI (sa)), .int (nI (numM bf cu i)), .ref (mr), .int (nI (tn))])), (mt, .inl (cA 0, 130, arN bf))] H → va_D A [(om, .inr (8, [.ref (mw), .int (nI (ud)), .ref (mt), .int (nI (td)), .int (nI (fy)), .int (nI (su)), .ref (mm), .ref (ml), .ref (mi), .ref (mh), .int (nI (cu + i)), .int (nI (sa)), .int (nI (numM bf cu i)), .ref (mr), .int (nI (tn))])), (mt, .inl (cA 0, 130, arN bf))] → va_S A s.heap H locs → lv_has ls 4 [(3, .int (nI (cu))), (0, .ref (om)), (1, .int (nI (lo))), (2, .int (nI (hi)))] → W p l e ({ frames := 1, cells := 0, slots := 0, locals := 25 } : Room) s m ([.ref (om), .int (nI (lo)), .int (nI (hi))] : List Value).toArray below meth c H locs 0 0 Q (F0 m 10 ls []) := by
    intro N10
    induction N10 with
    | zero => intro i iv10_0 iv10_1 hN; exact absurd hN (Nat.not_lt_zero _)
    | succ N10 ih10 =>
      intro i iv10_0 iv10_1 hN10 H locs ls hP hD hS hl
      have hnl := numM_le hbf (cu := cu) (i := i) (by omega)
      refine lv_aload_n hx hb dX8_takesNumber_10 rfl (lv_at hl 1 rfl) ?_
      refine cVi (n := 0) (As := []) (rest := []) (C := RX8) (ci := 8) (q0 := 0) (X := [(om, .inr (8, [.ref (mw), .int (nI (ud)), .ref (mt), .int (nI (td)), .int (nI (fy)), .int (nI (su)), .ref (mm), .ref (ml), .ref (mi), .ref (mh), .int (nI (cu + i)), .int (nI (sa)), .int (nI (numM bf cu i)), .ref (mr), .int (nI (tn))])), (mt, .inl (cA 0, 130, arN bf))]) (pl := []) (wc := [(om, .inr (8, [.ref (mw), .int (nI (ud)), .ref (mt), .int (nI (td)), .int (nI (fy)), .int (nI (su)), .ref (mm), .ref (ml), .ref (mi), .ref (mh), .int (nI (cu + i)), .int (nI (sa)), .int (nI (numM bf cu i)), .ref (mr), .int (nI (tn))])), (mt, .inl (cA 0, 130, arN bf))]) (wr := ([] : va_W)) (w1 := [(om, .inr (8, [.ref (mw), .int (nI (ud)), .ref (mt), .int (nI (td)), .int (nI (fy)), .int (nI (su)), .ref (mm), .ref (ml), .ref (mi), .ref (mh), .int (nI (cu + i)), .int (nI (sa)), .int (nI (numM bf cu i)), .ref (mr), .int (nI (tn))])), (mt, .inl (cA 0, 130, arN bf))]) (wn := [(om, .inr (8, [.ref (mw), .int (nI (ud)), .ref (mt), .int (nI (td)), .int (nI (fy)), .int (nI (su)), .ref (mm), .ref (ml), .ref (mi), .ref (mh), .int (nI (cu + i)), .int (nI (sa)), .int (nI (numM bf cu i)), .ref (mr), .int (nI (tn))])), (mt, .inl (cA 0, 130, arN bf))]) (isC := [0, 1]) (isR := []) (isN := [0, 1]) ⟨hx, hb, hml, hown, hts⟩ (c_X8_here l D cA tt om mw mt mm ml mi mh mr ud td fy su (cu + i) sa (numM bf cu i) tn bf (iv10_0) (htd) (hbf) _) gX8_takesNumber_X8_here rfl (by decide +kernel) rfl rfl ⟨rfl, rfl⟩ ⟨Nat.le_of_ble_eq_true rfl, Nat.le_of_ble_eq_true rfl⟩ ⟨Nat.zero_le _, Nat.zero_le _⟩ hK hE hA hP hD hS ⟨⟨rfl, by decide⟩, ⟨rfl, by decide, by decide⟩, rfl, by decide⟩ rfl hl.1 rfl (Nat.le_of_ble_eq_true rfl) dX8_takesNumber_11 (fun H locs hP hD hS => ?_)
      have hP : va_P D vwCl [(om, .inr (8, [.ref (mw), .int (nI (ud)), .ref (mt), .int (nI (td)), .int (nI (fy)), .int (nI (su)), .ref (mm), .ref (ml), .ref (mi), .ref (mh), .int (nI (cu + i)), .int (nI (sa)), .int (nI (numM bf cu i)), .ref (mr), .int (nI (tn))])), (mt, .inl (cA 0, 130, arN bf))] _ := hP
      have hD : va_D A [(om, .inr (8, [.ref (mw), .int (nI (ud)), .ref (mt), .int (nI (td)), .int (nI (fy)), .int (nI (su)), .ref (mm), .ref (ml), .ref (mi), .ref (mh), .int (nI (cu + i)), .int (nI (sa)), .int (nI (numM bf cu i)), .ref (mr), .int (nI (tn))])), (mt, .inl (cA 0, 130, arN bf))] := hD
      refine lv_i2l (v := (herI td bf (cu + i)).toInt64) hx hb dX8_takesNumber_14 (rfl) ?_
      refine lv_ldc2 (v := (48)) hx hb hown (hts (.constantLong RX8 83 (48)) (List.mem_of_getElem? (i := 3) rfl)) dX8_takesNumber_15 ?_
      refine vn_l (v := lN 48) (by decide) ?_
      refine lv_ldc2 (v := (57)) hx hb hown (hts (.constantLong RX8 85 (57)) (List.mem_of_getElem? (i := 4) rfl)) dX8_takesNumber_18 ?_
      refine vn_l (v := lN 57) (by decide) ?_
      refine cSi (n := 3) (As := [.long ((herI td bf (cu + i)).toInt64), .long (lN (48)), .long (lN (57))]) (rest := []) (X := [(om, .inr (8, [.ref (mw), .int (nI (ud)), .ref (mt), .int (nI (td)), .int (nI (fy)), .int (nI (su)), .ref (mm), .ref (ml), .ref (mi), .ref (mh), .int (nI (cu + i)), .int (nI (sa)), .int (nI (numM bf cu i)), .ref (mr), .int (nI (tn))])), (mt, .inl (cA 0, 130, arN bf))]) (pl := []) (wc := ([] : va_W)) (wr := [(om, .inr (8, [.ref (mw), .int (nI (ud)), .ref (mt), .int (nI (td)), .int (nI (fy)), .int (nI (su)), .ref (mm), .ref (ml), .ref (mi), .ref (mh), .int (nI (cu + i)), .int (nI (sa)), .int (nI (numM bf cu i)), .ref (mr), .int (nI (tn))])), (mt, .inl (cA 0, 130, arN bf))]) (w1 := ([] : va_W)) (wn := [(om, .inr (8, [.ref (mw), .int (nI (ud)), .ref (mt), .int (nI (td)), .int (nI (fy)), .int (nI (su)), .ref (mm), .ref (ml), .ref (mi), .ref (mh), .int (nI (cu + i)), .int (nI (sa)), .int (nI (numM bf cu i)), .ref (mr), .int (nI (tn))])), (mt, .inl (cA 0, 130, arN bf))]) (isC := []) (isR := [0, 1]) (isN := [0, 1]) ⟨hx, hb, hml, hown, hts⟩ (c_X8_in_I l D cA tt (herI td bf (cu + i)) 48 57 (by omega) (by omega) _) gX8_takesNumber_X8_in rfl (by decide +kernel) ⟨rfl, rfl⟩ ⟨Nat.le_of_ble_eq_true rfl, Nat.le_of_ble_eq_true rfl⟩ ⟨Nat.zero_le _, Nat.zero_le _⟩ hK hE hA hP hD hS ⟨⟨rfl, by decide⟩, ⟨rfl, by decide, by decide⟩, rfl, by decide⟩ rfl hl.1 rfl (Nat.le_of_ble_eq_true rfl) dX8_takesNumber_21 (fun H locs hP hD hS => ?_)
      have hP : va_P D vwCl [(om, .inr (8, [.ref (mw), .int (nI (ud)), .ref (mt), .int (nI (td)), .int (nI (fy)), .int (nI (su)), .ref (mm), .ref (ml), .ref (mi), .ref (mh), .int (nI (cu + i)), .int (nI (sa)), .int (nI (numM bf cu i)), .ref (mr), .int (nI (tn))])), (mt, .inl (cA 0, 130, arN bf))] _ := hP
      have hD : va_D A [(om, .inr (8, [.ref (mw), .int (nI (ud)), .ref (mt), .int (nI (td)), .int (nI (fy)), .int (nI (su)), .ref (mm), .ref (ml), .ref (mi), .ref (mh), .int (nI (cu + i)), .int (nI (sa)), .int (nI (numM bf cu i)), .ref (mr), .int (nI (tn))])), (mt, .inl (cA 0, 130, arN bf))] := hD
      refine lv_if_eq (tgt := 76) hx hb dX8_takesNumber_24 (by decide) (fun c2 => ?_) (fun c2 => ?_)
      · skip
        rw [bI_z] at c2
        have hrun : runM td bf cu = i := fstN_of (by omega) (fun q hq => by rw [iv10_1 q hq]; rfl) (Or.inr (by rw [show digP td bf cu i = false from c2]; rfl))
        have hci : cu + i - cu = i := by omega
        refine lv_aload_n hx hb dX8_takesNumber_76 rfl (lv_at hl 1 rfl) ?_
        refine va_get (v := .int (nI (cu + i))) (Ts := wsX80) (C := RX8) (T := TX8) (N := 15) hx hb hwsX80 (fun _ h => h) hown hK hP 0 rfl rfl 10 (by decide) (hts (.fieldLink RX8 63 "AdventStreetsModel" "at" "I") (List.mem_of_getElem? (i := 1) rfl)) (fun _ h9 => h9) rfl dX8_takesNumber_77 ?_
        refine lv_iload_n hx hb dX8_takesNumber_80 rfl (lv_at hl 0 rfl) ?_
        refine lv_isub hx hb dX8_takesNumber_81 ?_
        refine vn_i (v := nI ((cu + i) - cu)) (pk_sub (by omega)) ?_
        refine lv_i2l (v := lN ((cu + i) - cu)) hx hb dX8_takesNumber_82 (nI_l (by omega)) ?_
        refine lv_lconst (v := lN 1) hx hb dX8_takesNumber_83 rfl ?_
        refine lv_ldc2 (v := (2)) hx hb hown (hts (.constantLong RX8 46 (2)) (List.mem_of_getElem? (i := 5) rfl)) dX8_takesNumber_84 ?_
        refine vn_l (v := lN 2) (by decide) ?_
        refine cSi (n := 3) (As := [.long (lN ((cu + i) - cu)), .long (lN (1)), .long (lN (2))]) (rest := []) (X := [(om, .inr (8, [.ref (mw), .int (nI (ud)), .ref (mt), .int (nI (td)), .int (nI (fy)), .int (nI (su)), .ref (mm), .ref (ml), .ref (mi), .ref (mh), .int (nI (cu + i)), .int (nI (sa)), .int (nI (numM bf cu i)), .ref (mr), .int (nI (tn))])), (mt, .inl (cA 0, 130, arN bf))]) (pl := []) (wc := ([] : va_W)) (wr := [(om, .inr (8, [.ref (mw), .int (nI (ud)), .ref (mt), .int (nI (td)), .int (nI (fy)), .int (nI (su)), .ref (mm), .ref (ml), .ref (mi), .ref (mh), .int (nI (cu + i)), .int (nI (sa)), .int (nI (numM bf cu i)), .ref (mr), .int (nI (tn))])), (mt, .inl (cA 0, 130, arN bf))]) (w1 := ([] : va_W)) (wn := [(om, .inr (8, [.ref (mw), .int (nI (ud)), .ref (mt), .int (nI (td)), .int (nI (fy)), .int (nI (su)), .ref (mm), .ref (ml), .ref (mi), .ref (mh), .int (nI (cu + i)), .int (nI (sa)), .int (nI (numM bf cu i)), .ref (mr), .int (nI (tn))])), (mt, .inl (cA 0, 130, arN bf))]) (isC := []) (isR := [0, 1]) (isN := [0, 1]) ⟨hx, hb, hml, hown, hts⟩ (c_X8_in_N l D cA tt ((cu + i) - cu) 1 2 (by omega) (by omega) (by omega) _) gX8_takesNumber_X8_in rfl (by decide +kernel) ⟨rfl, rfl⟩ ⟨Nat.le_of_ble_eq_true rfl, Nat.le_of_ble_eq_true rfl⟩ ⟨Nat.zero_le _, Nat.zero_le _⟩ hK hE hA hP hD hS ⟨⟨rfl, by decide⟩, ⟨rfl, by decide, by decide⟩, rfl, by decide⟩ rfl hl.1 rfl (Nat.le_of_ble_eq_true rfl) dX8_takesNumber_87 (fun H locs hP hD hS => ?_)
        have hP : va_P D vwCl [(om, .inr (8, [.ref (mw), .int (nI (ud)), .ref (mt), .int (nI (td)), .int (nI (fy)), .int (nI (su)), .ref (mm), .ref (ml), .ref (mi), .ref (mh), .int (nI (cu + i)), .int (nI (sa)), .int (nI (numM bf cu i)), .ref (mr), .int (nI (tn))])), (mt, .inl (cA 0, 130, arN bf))] _ := hP
        have hD : va_D A [(om, .inr (8, [.ref (mw), .int (nI (ud)), .ref (mt), .int (nI (td)), .int (nI (fy)), .int (nI (su)), .ref (mm), .ref (ml), .ref (mi), .ref (mh), .int (nI (cu + i)), .int (nI (sa)), .int (nI (numM bf cu i)), .ref (mr), .int (nI (tn))])), (mt, .inl (cA 0, 130, arN bf))] := hD
        refine lv_if_ne (tgt := 100) hx hb dX8_takesNumber_90 (by decide) (fun c3 => ?_) (fun c3 => ?_)
        · skip
          rw [bI_nz] at c3
          refine lv_aload_n hx hb dX8_takesNumber_100 rfl (lv_at hl 1 rfl) ?_
          refine va_get (v := .int (nI (numM bf cu i))) (Ts := wsX80) (C := RX8) (T := TX8) (N := 15) hx hb hwsX80 (fun _ h => h) hown hK hP 0 rfl rfl 12 (by decide) (hts (.fieldLink RX8 80 "AdventStreetsModel" "number" "I") (List.mem_of_getElem? (i := 2) rfl)) (fun _ h9 => h9) rfl dX8_takesNumber_101 ?_
          refine lv_i2l (v := lN (numM bf cu i)) hx hb dX8_takesNumber_104 (nI_l (by omega)) ?_
          refine lv_iload_n hx hb dX8_takesNumber_105 rfl (lv_at hl 2 rfl) ?_
          refine lv_i2l (v := lN (lo)) hx hb dX8_takesNumber_106 (nI_l (by omega)) ?_
          refine lv_iload_n hx hb dX8_takesNumber_107 rfl (lv_at hl 3 rfl) ?_
          refine lv_i2l (v := lN (hi)) hx hb dX8_takesNumber_108 (nI_l (by omega)) ?_
          refine cSi (n := 3) (As := [.long (lN (numM bf cu i)), .long (lN (lo)), .long (lN (hi))]) (rest := []) (X := [(om, .inr (8, [.ref (mw), .int (nI (ud)), .ref (mt), .int (nI (td)), .int (nI (fy)), .int (nI (su)), .ref (mm), .ref (ml), .ref (mi), .ref (mh), .int (nI (cu + i)), .int (nI (sa)), .int (nI (numM bf cu i)), .ref (mr), .int (nI (tn))])), (mt, .inl (cA 0, 130, arN bf))]) (pl := []) (wc := ([] : va_W)) (wr := [(om, .inr (8, [.ref (mw), .int (nI (ud)), .ref (mt), .int (nI (td)), .int (nI (fy)), .int (nI (su)), .ref (mm), .ref (ml), .ref (mi), .ref (mh), .int (nI (cu + i)), .int (nI (sa)), .int (nI (numM bf cu i)), .ref (mr), .int (nI (tn))])), (mt, .inl (cA 0, 130, arN bf))]) (w1 := ([] : va_W)) (wn := [(om, .inr (8, [.ref (mw), .int (nI (ud)), .ref (mt), .int (nI (td)), .int (nI (fy)), .int (nI (su)), .ref (mm), .ref (ml), .ref (mi), .ref (mh), .int (nI (cu + i)), .int (nI (sa)), .int (nI (numM bf cu i)), .ref (mr), .int (nI (tn))])), (mt, .inl (cA 0, 130, arN bf))]) (isC := []) (isR := [0, 1]) (isN := [0, 1]) ⟨hx, hb, hml, hown, hts⟩ (c_X8_in_N l D cA tt (numM bf cu i) lo hi (by omega) (by omega) (by omega) _) gX8_takesNumber_X8_in rfl (by decide +kernel) ⟨rfl, rfl⟩ ⟨Nat.le_of_ble_eq_true rfl, Nat.le_of_ble_eq_true rfl⟩ ⟨Nat.zero_le _, Nat.zero_le _⟩ hK hE hA hP hD hS ⟨⟨rfl, by decide⟩, ⟨rfl, by decide, by decide⟩, rfl, by decide⟩ rfl hl.1 rfl (Nat.le_of_ble_eq_true rfl) dX8_takesNumber_109 (fun H locs hP hD hS => ?_)
          have hP : va_P D vwCl [(om, .inr (8, [.ref (mw), .int (nI (ud)), .ref (mt), .int (nI (td)), .int (nI (fy)), .int (nI (su)), .ref (mm), .ref (ml), .ref (mi), .ref (mh), .int (nI (cu + i)), .int (nI (sa)), .int (nI (numM bf cu i)), .ref (mr), .int (nI (tn))])), (mt, .inl (cA 0, 130, arN bf))] _ := hP
          have hD : va_D A [(om, .inr (8, [.ref (mw), .int (nI (ud)), .ref (mt), .int (nI (td)), .int (nI (fy)), .int (nI (su)), .ref (mm), .ref (ml), .ref (mi), .ref (mh), .int (nI (cu + i)), .int (nI (sa)), .int (nI (numM bf cu i)), .ref (mr), .int (nI (tn))])), (mt, .inl (cA 0, 130, arN bf))] := hD
          refine lv_if_ne (tgt := 122) hx hb dX8_takesNumber_112 (by decide) (fun c4 => ?_) (fun c4 => ?_)
          · skip
            rw [bI_nz] at c4
            refine lv_iconst (v := nI (1)) hx hb dX8_takesNumber_122 (by decide) ?_
            have ef5 : ([(om, .inr (8, [.ref (mw), .int (nI (ud)), .ref (mt), .int (nI (td)), .int (nI (fy)), .int (nI (su)), .ref (mm), .ref (ml), .ref (mi), .ref (mh), .int (nI (cu + i)), .int (nI (sa)), .int (nI (numM bf cu i)), .ref (mr), .int (nI (tn))])), (mt, .inl (cA 0, 130, arN bf))] : va_W) = [(om, .inr (8, [.ref (mw), .int (nI (ud)), .ref (mt), .int (nI (td)), .int (nI ((if nmB td bf lo hi cu = true then fy else nmF td bf cu))), .int (nI (su)), .ref (mm), .ref (ml), .ref (mi), .ref (mh), .int (nI ((cu + runM td bf cu))), .int (nI ((if nmB td bf lo hi cu = true then sa else cu))), .int (nI ((numM bf cu (runM td bf cu)))), .ref (mr), .int (nI (tn))])), (mt, .inl (cA 0, 130, arN bf))] := by
              rw [hrun, show nmB td bf lo hi cu = true from by unfold nmB; rw [hrun, show (decide (1 ≤ i) && decide (i ≤ 2)) = true from by have := c3; rwa [hci] at this, c4]; rfl, show nmF td bf cu = 2 from by unfold nmF; rw [hrun, show (decide (1 ≤ i) && decide (i ≤ 2)) = true from by have := c3; rwa [hci] at this]; rfl] <;> rfl
            have hP : va_P D vwCl [(om, .inr (8, [.ref (mw), .int (nI (ud)), .ref (mt), .int (nI (td)), .int (nI ((if nmB td bf lo hi cu = true then fy else nmF td bf cu))), .int (nI (su)), .ref (mm), .ref (ml), .ref (mi), .ref (mh), .int (nI ((cu + runM td bf cu))), .int (nI ((if nmB td bf lo hi cu = true then sa else cu))), .int (nI ((numM bf cu (runM td bf cu)))), .ref (mr), .int (nI (tn))])), (mt, .inl (cA 0, 130, arN bf))] _ := Eq.mp (congrArg (fun z9 => va_P D vwCl z9 _) ef5) hP
            have hD : va_D A [(om, .inr (8, [.ref (mw), .int (nI (ud)), .ref (mt), .int (nI (td)), .int (nI ((if nmB td bf lo hi cu = true then fy else nmF td bf cu))), .int (nI (su)), .ref (mm), .ref (ml), .ref (mi), .ref (mh), .int (nI ((cu + runM td bf cu))), .int (nI ((if nmB td bf lo hi cu = true then sa else cu))), .int (nI ((numM bf cu (runM td bf cu)))), .ref (mr), .int (nI (tn))])), (mt, .inl (cA 0, 130, arN bf))] := Eq.mp (congrArg (fun z9 => va_D A z9) ef5) hD
            exact hend _ _ _ _ _ hP hD hS (one_bI (by unfold nmB; rw [hrun, show (decide (1 ≤ i) && decide (i ≤ 2)) = true from by have := c3; rwa [hci] at this, c4]; rfl)) dX8_takesNumber_123
          · skip
            rw [bI_z] at c4
            refine lv_aload_n hx hb dX8_takesNumber_115 rfl (lv_at hl 1 rfl) ?_
            refine lv_iconst (v := nI (2)) hx hb dX8_takesNumber_116 (by decide) ?_
            refine lv_iload_n hx hb dX8_takesNumber_117 rfl (lv_at hl 0 rfl) ?_
            refine cVi (n := 2) (As := [.int (nI (2)), .int (nI (cu))]) (rest := []) (C := RX8) (ci := 8) (q0 := 0) (X := [(om, .inr (8, [.ref (mw), .int (nI (ud)), .ref (mt), .int (nI (td)), .int (nI (fy)), .int (nI (su)), .ref (mm), .ref (ml), .ref (mi), .ref (mh), .int (nI (cu + i)), .int (nI (sa)), .int (nI (numM bf cu i)), .ref (mr), .int (nI (tn))])), (mt, .inl (cA 0, 130, arN bf))]) (pl := []) (wc := [(om, .inr (8, [.ref (mw), .int (nI (ud)), .ref (mt), .int (nI (td)), .int (nI (fy)), .int (nI (su)), .ref (mm), .ref (ml), .ref (mi), .ref (mh), .int (nI (cu + i)), .int (nI (sa)), .int (nI (numM bf cu i)), .ref (mr), .int (nI (tn))]))]) (wr := [(mt, .inl (cA 0, 130, arN bf))]) (w1 := [(om, .inr (8, [.ref (mw), .int (nI (ud)), .ref (mt), .int (nI (td)), .int (nI (2)), .int (nI (su)), .ref (mm), .ref (ml), .ref (mi), .ref (mh), .int (nI (cu + i)), .int (nI (cu)), .int (nI (numM bf cu i)), .ref (mr), .int (nI (tn))]))]) (wn := [(om, .inr (8, [.ref (mw), .int (nI (ud)), .ref (mt), .int (nI (td)), .int (nI (2)), .int (nI (su)), .ref (mm), .ref (ml), .ref (mi), .ref (mh), .int (nI (cu + i)), .int (nI (cu)), .int (nI (numM bf cu i)), .ref (mr), .int (nI (tn))])), (mt, .inl (cA 0, 130, arN bf))]) (isC := [0]) (isR := [1]) (isN := [1, 0]) ⟨hx, hb, hml, hown, hts⟩ (c_X8_fails l D cA tt om mw mt mm ml mi mh mr ud td fy su (cu + i) sa (numM bf cu i) tn 2 cu  _) gX8_takesNumber_X8_fails rfl (by decide +kernel) rfl rfl ⟨rfl, rfl⟩ ⟨Nat.le_of_ble_eq_true rfl, Nat.le_of_ble_eq_true rfl⟩ ⟨Nat.zero_le _, Nat.zero_le _⟩ hK hE hA hP hD hS ⟨⟨rfl, by decide⟩, ⟨rfl, by decide, by decide⟩, rfl, by decide⟩ rfl hl.1 rfl (Nat.le_of_ble_eq_true rfl) dX8_takesNumber_118 (fun H locs hP hD hS => ?_)
            have hP : va_P D vwCl [(om, .inr (8, [.ref (mw), .int (nI (ud)), .ref (mt), .int (nI (td)), .int (nI (2)), .int (nI (su)), .ref (mm), .ref (ml), .ref (mi), .ref (mh), .int (nI (cu + i)), .int (nI (cu)), .int (nI (numM bf cu i)), .ref (mr), .int (nI (tn))])), (mt, .inl (cA 0, 130, arN bf))] _ := hP
            have hD : va_D A [(om, .inr (8, [.ref (mw), .int (nI (ud)), .ref (mt), .int (nI (td)), .int (nI (2)), .int (nI (su)), .ref (mm), .ref (ml), .ref (mi), .ref (mh), .int (nI (cu + i)), .int (nI (cu)), .int (nI (numM bf cu i)), .ref (mr), .int (nI (tn))])), (mt, .inl (cA 0, 130, arN bf))] := hD
            have ef6 : ([(om, .inr (8, [.ref (mw), .int (nI (ud)), .ref (mt), .int (nI (td)), .int (nI (2)), .int (nI (su)), .ref (mm), .ref (ml), .ref (mi), .ref (mh), .int (nI (cu + i)), .int (nI (cu)), .int (nI (numM bf cu i)), .ref (mr), .int (nI (tn))])), (mt, .inl (cA 0, 130, arN bf))] : va_W) = [(om, .inr (8, [.ref (mw), .int (nI (ud)), .ref (mt), .int (nI (td)), .int (nI ((if nmB td bf lo hi cu = true then fy else nmF td bf cu))), .int (nI (su)), .ref (mm), .ref (ml), .ref (mi), .ref (mh), .int (nI ((cu + runM td bf cu))), .int (nI ((if nmB td bf lo hi cu = true then sa else cu))), .int (nI ((numM bf cu (runM td bf cu)))), .ref (mr), .int (nI (tn))])), (mt, .inl (cA 0, 130, arN bf))] := by
              rw [hrun, show nmB td bf lo hi cu = false from by unfold nmB; rw [hrun, show (decide (1 ≤ i) && decide (i ≤ 2)) = true from by have := c3; rwa [hci] at this, c4]; rfl, show nmF td bf cu = 2 from by unfold nmF; rw [hrun, show (decide (1 ≤ i) && decide (i ≤ 2)) = true from by have := c3; rwa [hci] at this]; rfl] <;> rfl
            have hP : va_P D vwCl [(om, .inr (8, [.ref (mw), .int (nI (ud)), .ref (mt), .int (nI (td)), .int (nI ((if nmB td bf lo hi cu = true then fy else nmF td bf cu))), .int (nI (su)), .ref (mm), .ref (ml), .ref (mi), .ref (mh), .int (nI ((cu + runM td bf cu))), .int (nI ((if nmB td bf lo hi cu = true then sa else cu))), .int (nI ((numM bf cu (runM td bf cu)))), .ref (mr), .int (nI (tn))])), (mt, .inl (cA 0, 130, arN bf))] _ := Eq.mp (congrArg (fun z9 => va_P D vwCl z9 _) ef6) hP
            have hD : va_D A [(om, .inr (8, [.ref (mw), .int (nI (ud)), .ref (mt), .int (nI (td)), .int (nI ((if nmB td bf lo hi cu = true then fy else nmF td bf cu))), .int (nI (su)), .ref (mm), .ref (ml), .ref (mi), .ref (mh), .int (nI ((cu + runM td bf cu))), .int (nI ((if nmB td bf lo hi cu = true then sa else cu))), .int (nI ((numM bf cu (runM td bf cu)))), .ref (mr), .int (nI (tn))])), (mt, .inl (cA 0, 130, arN bf))] := Eq.mp (congrArg (fun z9 => va_D A z9) ef6) hD
            exact hend _ _ _ _ _ hP hD hS (by unfold nmB; rw [hrun, show (decide (1 ≤ i) && decide (i ≤ 2)) = true from by have := c3; rwa [hci] at this, c4]; rfl) dX8_takesNumber_121
        · skip
          rw [bI_z] at c3
          refine lv_aload_n hx hb dX8_takesNumber_93 rfl (lv_at hl 1 rfl) ?_
          refine lv_iconst (v := nI (1)) hx hb dX8_takesNumber_94 (by decide) ?_
          refine lv_iload_n hx hb dX8_takesNumber_95 rfl (lv_at hl 0 rfl) ?_
          refine cVi (n := 2) (As := [.int (nI (1)), .int (nI (cu))]) (rest := []) (C := RX8) (ci := 8) (q0 := 0) (X := [(om, .inr (8, [.ref (mw), .int (nI (ud)), .ref (mt), .int (nI (td)), .int (nI (fy)), .int (nI (su)), .ref (mm), .ref (ml), .ref (mi), .ref (mh), .int (nI (cu + i)), .int (nI (sa)), .int (nI (numM bf cu i)), .ref (mr), .int (nI (tn))])), (mt, .inl (cA 0, 130, arN bf))]) (pl := []) (wc := [(om, .inr (8, [.ref (mw), .int (nI (ud)), .ref (mt), .int (nI (td)), .int (nI (fy)), .int (nI (su)), .ref (mm), .ref (ml), .ref (mi), .ref (mh), .int (nI (cu + i)), .int (nI (sa)), .int (nI (numM bf cu i)), .ref (mr), .int (nI (tn))]))]) (wr := [(mt, .inl (cA 0, 130, arN bf))]) (w1 := [(om, .inr (8, [.ref (mw), .int (nI (ud)), .ref (mt), .int (nI (td)), .int (nI (1)), .int (nI (su)), .ref (mm), .ref (ml), .ref (mi), .ref (mh), .int (nI (cu + i)), .int (nI (cu)), .int (nI (numM bf cu i)), .ref (mr), .int (nI (tn))]))]) (wn := [(om, .inr (8, [.ref (mw), .int (nI (ud)), .ref (mt), .int (nI (td)), .int (nI (1)), .int (nI (su)), .ref (mm), .ref (ml), .ref (mi), .ref (mh), .int (nI (cu + i)), .int (nI (cu)), .int (nI (numM bf cu i)), .ref (mr), .int (nI (tn))])), (mt, .inl (cA 0, 130, arN bf))]) (isC := [0]) (isR := [1]) (isN := [1, 0]) ⟨hx, hb, hml, hown, hts⟩ (c_X8_fails l D cA tt om mw mt mm ml mi mh mr ud td fy su (cu + i) sa (numM bf cu i) tn 1 cu  _) gX8_takesNumber_X8_fails rfl (by decide +kernel) rfl rfl ⟨rfl, rfl⟩ ⟨Nat.le_of_ble_eq_true rfl, Nat.le_of_ble_eq_true rfl⟩ ⟨Nat.zero_le _, Nat.zero_le _⟩ hK hE hA hP hD hS ⟨⟨rfl, by decide⟩, ⟨rfl, by decide, by decide⟩, rfl, by decide⟩ rfl hl.1 rfl (Nat.le_of_ble_eq_true rfl) dX8_takesNumber_96 (fun H locs hP hD hS => ?_)
          have hP : va_P D vwCl [(om, .inr (8, [.ref (mw), .int (nI (ud)), .ref (mt), .int (nI (td)), .int (nI (1)), .int (nI (su)), .ref (mm), .ref (ml), .ref (mi), .ref (mh), .int (nI (cu + i)), .int (nI (cu)), .int (nI (numM bf cu i)), .ref (mr), .int (nI (tn))])), (mt, .inl (cA 0, 130, arN bf))] _ := hP
          have hD : va_D A [(om, .inr (8, [.ref (mw), .int (nI (ud)), .ref (mt), .int (nI (td)), .int (nI (1)), .int (nI (su)), .ref (mm), .ref (ml), .ref (mi), .ref (mh), .int (nI (cu + i)), .int (nI (cu)), .int (nI (numM bf cu i)), .ref (mr), .int (nI (tn))])), (mt, .inl (cA 0, 130, arN bf))] := hD
          have ef7 : ([(om, .inr (8, [.ref (mw), .int (nI (ud)), .ref (mt), .int (nI (td)), .int (nI (1)), .int (nI (su)), .ref (mm), .ref (ml), .ref (mi), .ref (mh), .int (nI (cu + i)), .int (nI (cu)), .int (nI (numM bf cu i)), .ref (mr), .int (nI (tn))])), (mt, .inl (cA 0, 130, arN bf))] : va_W) = [(om, .inr (8, [.ref (mw), .int (nI (ud)), .ref (mt), .int (nI (td)), .int (nI ((if nmB td bf lo hi cu = true then fy else nmF td bf cu))), .int (nI (su)), .ref (mm), .ref (ml), .ref (mi), .ref (mh), .int (nI ((cu + runM td bf cu))), .int (nI ((if nmB td bf lo hi cu = true then sa else cu))), .int (nI ((numM bf cu (runM td bf cu)))), .ref (mr), .int (nI (tn))])), (mt, .inl (cA 0, 130, arN bf))] := by
            rw [hrun, show nmB td bf lo hi cu = false from by unfold nmB; rw [hrun, show (decide (1 ≤ i) && decide (i ≤ 2)) = false from by have := c3; rwa [hci] at this]; rfl, show nmF td bf cu = 1 from by unfold nmF; rw [hrun, show (decide (1 ≤ i) && decide (i ≤ 2)) = false from by have := c3; rwa [hci] at this]; rfl] <;> rfl
          have hP : va_P D vwCl [(om, .inr (8, [.ref (mw), .int (nI (ud)), .ref (mt), .int (nI (td)), .int (nI ((if nmB td bf lo hi cu = true then fy else nmF td bf cu))), .int (nI (su)), .ref (mm), .ref (ml), .ref (mi), .ref (mh), .int (nI ((cu + runM td bf cu))), .int (nI ((if nmB td bf lo hi cu = true then sa else cu))), .int (nI ((numM bf cu (runM td bf cu)))), .ref (mr), .int (nI (tn))])), (mt, .inl (cA 0, 130, arN bf))] _ := Eq.mp (congrArg (fun z9 => va_P D vwCl z9 _) ef7) hP
          have hD : va_D A [(om, .inr (8, [.ref (mw), .int (nI (ud)), .ref (mt), .int (nI (td)), .int (nI ((if nmB td bf lo hi cu = true then fy else nmF td bf cu))), .int (nI (su)), .ref (mm), .ref (ml), .ref (mi), .ref (mh), .int (nI ((cu + runM td bf cu))), .int (nI ((if nmB td bf lo hi cu = true then sa else cu))), .int (nI ((numM bf cu (runM td bf cu)))), .ref (mr), .int (nI (tn))])), (mt, .inl (cA 0, 130, arN bf))] := Eq.mp (congrArg (fun z9 => va_D A z9) ef7) hD
          exact hend _ _ _ _ _ hP hD hS (by unfold nmB; rw [hrun, show (decide (1 ≤ i) && decide (i ≤ 2)) = false from by rw [← hci]; exact c3]; rfl) dX8_takesNumber_99
      · skip
        rw [bI_nz] at c2
        obtain ⟨d1, d2, d3, d4⟩ := dig_t hbf htd c2
        refine lv_aload_n hx hb dX8_takesNumber_27 rfl (lv_at hl 1 rfl) ?_
        refine lv_aload_n hx hb dX8_takesNumber_28 rfl (lv_at hl 1 rfl) ?_
        refine va_get (v := .int (nI (cu + i))) (Ts := wsX80) (C := RX8) (T := TX8) (N := 15) hx hb hwsX80 (fun _ h => h) hown hK hP 0 rfl rfl 10 (by decide) (hts (.fieldLink RX8 63 "AdventStreetsModel" "at" "I") (List.mem_of_getElem? (i := 1) rfl)) (fun _ h9 => h9) rfl dX8_takesNumber_29 ?_
        refine lv_iload_n hx hb dX8_takesNumber_32 rfl (lv_at hl 0 rfl) ?_
        refine lv_isub hx hb dX8_takesNumber_33 ?_
        refine vn_i (v := nI ((cu + i) - cu)) (pk_sub (by omega)) ?_
        refine lv_iconst (v := nI (2)) hx hb dX8_takesNumber_34 (by decide) ?_
        refine lv_icmp_ge (tgt := 56) hx hb dX8_takesNumber_35 (by decide) (fun c8 => ?_) (fun c8 => ?_)
        · skip
          rw [nI_leI (by omega) (by omega)] at c8
          refine lv_aload_n hx hb dX8_takesNumber_56 rfl (lv_at hl 1 rfl) ?_
          refine va_get (v := .int (nI (numM bf cu i))) (Ts := wsX80) (C := RX8) (T := TX8) (N := 15) hx hb hwsX80 (fun _ h => h) hown hK hP 0 rfl rfl 12 (by decide) (hts (.fieldLink RX8 80 "AdventStreetsModel" "number" "I") (List.mem_of_getElem? (i := 2) rfl)) (fun _ h9 => h9) rfl dX8_takesNumber_57 ?_
          refine va_put (v := .int (nI (numM bf cu i))) (ty := .int) (Ts := wsX80) (C := RX8) (T := TX8) (N := 15) hx hb hwsX80 (fun _ h => h) tyX8 tyX8_ok nmX8 hown hK hP hD hS 0 rfl rfl 12 (by decide) (hts (.fieldLink RX8 80 "AdventStreetsModel" "number" "I") (List.mem_of_getElem? (i := 2) rfl)) (fun _ h9 => h9) rfl (tyX8_ok 12 (by decide)) rfl rfl (Nat.le_of_ble_eq_true rfl) dX8_takesNumber_60 (fun H locs hP hD hS => ?_)
          have hP : va_P D vwCl [(om, .inr (8, [.ref (mw), .int (nI (ud)), .ref (mt), .int (nI (td)), .int (nI (fy)), .int (nI (su)), .ref (mm), .ref (ml), .ref (mi), .ref (mh), .int (nI (cu + i)), .int (nI (sa)), .int (nI (numM bf cu i)), .ref (mr), .int (nI (tn))])), (mt, .inl (cA 0, 130, arN bf))] _ := hP
          have hD : va_D A [(om, .inr (8, [.ref (mw), .int (nI (ud)), .ref (mt), .int (nI (td)), .int (nI (fy)), .int (nI (su)), .ref (mm), .ref (ml), .ref (mi), .ref (mh), .int (nI (cu + i)), .int (nI (sa)), .int (nI (numM bf cu i)), .ref (mr), .int (nI (tn))])), (mt, .inl (cA 0, 130, arN bf))] := hD
          refine lv_aload_n hx hb dX8_takesNumber_63 rfl (lv_at hl 1 rfl) ?_
          refine lv_dup hx hb dX8_takesNumber_64 rfl ?_
          refine va_get (v := .int (nI (cu + i))) (Ts := wsX80) (C := RX8) (T := TX8) (N := 15) hx hb hwsX80 (fun _ h => h) hown hK hP 0 rfl rfl 10 (by decide) (hts (.fieldLink RX8 63 "AdventStreetsModel" "at" "I") (List.mem_of_getElem? (i := 1) rfl)) (fun _ h9 => h9) rfl dX8_takesNumber_65 ?_
          refine lv_iconst (v := nI (1)) hx hb dX8_takesNumber_68 (by decide) ?_
          refine lv_iadd hx hb dX8_takesNumber_69 ?_
          refine vn_i (v := nI (cu + i + 1)) (nI_add _ _) ?_
          refine va_put (v := .int (nI (cu + i + 1))) (ty := .int) (Ts := wsX80) (C := RX8) (T := TX8) (N := 15) hx hb hwsX80 (fun _ h => h) tyX8 tyX8_ok nmX8 hown hK hP hD hS 0 rfl rfl 10 (by decide) (hts (.fieldLink RX8 63 "AdventStreetsModel" "at" "I") (List.mem_of_getElem? (i := 1) rfl)) (fun _ h9 => h9) rfl (tyX8_ok 10 (by decide)) rfl rfl (Nat.le_of_ble_eq_true rfl) dX8_takesNumber_70 (fun H locs hP hD hS => ?_)
          have hP : va_P D vwCl [(om, .inr (8, [.ref (mw), .int (nI (ud)), .ref (mt), .int (nI (td)), .int (nI (fy)), .int (nI (su)), .ref (mm), .ref (ml), .ref (mi), .ref (mh), .int (nI (cu + i + 1)), .int (nI (sa)), .int (nI (numM bf cu i)), .ref (mr), .int (nI (tn))])), (mt, .inl (cA 0, 130, arN bf))] _ := hP
          have hD : va_D A [(om, .inr (8, [.ref (mw), .int (nI (ud)), .ref (mt), .int (nI (td)), .int (nI (fy)), .int (nI (su)), .ref (mm), .ref (ml), .ref (mi), .ref (mh), .int (nI (cu + i + 1)), .int (nI (sa)), .int (nI (numM bf cu i)), .ref (mr), .int (nI (tn))])), (mt, .inl (cA 0, 130, arN bf))] := hD
          refine lv_goto (tgt := 10) hx hb dX8_takesNumber_73 (by decide) ?_
          have ew9 : (.int (nI (cu + i + 1)) : Value) = .int (nI (cu + (i + 1))) := by
            first
            | rfl
            | exact congrArg (fun z8 => Value.int (nI z8)) (by rw [numM, if_pos (show i < 2 by omega)])
            | exact congrArg (fun z8 => Value.int (nI z8)) (by rw [numM, if_neg (show ¬ i < 2 by omega)])
          have hP : va_P D vwCl [(om, .inr (8, [.ref (mw), .int (nI (ud)), .ref (mt), .int (nI (td)), .int (nI (fy)), .int (nI (su)), .ref (mm), .ref (ml), .ref (mi), .ref (mh), .int (nI (cu + (i + 1))), .int (nI (sa)), .int (nI (numM bf cu i)), .ref (mr), .int (nI (tn))])), (mt, .inl (cA 0, 130, arN bf))] _ := Eq.mp (congrArg (fun z9 => va_P D vwCl [(om, .inr (8, [.ref (mw), .int (nI (ud)), .ref (mt), .int (nI (td)), .int (nI (fy)), .int (nI (su)), .ref (mm), .ref (ml), .ref (mi), .ref (mh), z9, .int (nI (sa)), .int (nI (numM bf cu i)), .ref (mr), .int (nI (tn))])), (mt, .inl (cA 0, 130, arN bf))] _) ew9) hP
          have hD : va_D A [(om, .inr (8, [.ref (mw), .int (nI (ud)), .ref (mt), .int (nI (td)), .int (nI (fy)), .int (nI (su)), .ref (mm), .ref (ml), .ref (mi), .ref (mh), .int (nI (cu + (i + 1))), .int (nI (sa)), .int (nI (numM bf cu i)), .ref (mr), .int (nI (tn))])), (mt, .inl (cA 0, 130, arN bf))] := Eq.mp (congrArg (fun z9 => va_D A [(om, .inr (8, [.ref (mw), .int (nI (ud)), .ref (mt), .int (nI (td)), .int (nI (fy)), .int (nI (su)), .ref (mm), .ref (ml), .ref (mi), .ref (mh), z9, .int (nI (sa)), .int (nI (numM bf cu i)), .ref (mr), .int (nI (tn))])), (mt, .inl (cA 0, 130, arN bf))]) ew9) hD
          have ew10 : (.int (nI (numM bf cu i)) : Value) = .int (nI (numM bf cu (i + 1))) := by
            first
            | rfl
            | exact congrArg (fun z8 => Value.int (nI z8)) (by rw [numM, if_pos (show i < 2 by omega)])
            | exact congrArg (fun z8 => Value.int (nI z8)) (by rw [numM, if_neg (show ¬ i < 2 by omega)])
          have hP : va_P D vwCl [(om, .inr (8, [.ref (mw), .int (nI (ud)), .ref (mt), .int (nI (td)), .int (nI (fy)), .int (nI (su)), .ref (mm), .ref (ml), .ref (mi), .ref (mh), .int (nI (cu + (i + 1))), .int (nI (sa)), .int (nI (numM bf cu (i + 1))), .ref (mr), .int (nI (tn))])), (mt, .inl (cA 0, 130, arN bf))] _ := Eq.mp (congrArg (fun z9 => va_P D vwCl [(om, .inr (8, [.ref (mw), .int (nI (ud)), .ref (mt), .int (nI (td)), .int (nI (fy)), .int (nI (su)), .ref (mm), .ref (ml), .ref (mi), .ref (mh), .int (nI (cu + (i + 1))), .int (nI (sa)), z9, .ref (mr), .int (nI (tn))])), (mt, .inl (cA 0, 130, arN bf))] _) ew10) hP
          have hD : va_D A [(om, .inr (8, [.ref (mw), .int (nI (ud)), .ref (mt), .int (nI (td)), .int (nI (fy)), .int (nI (su)), .ref (mm), .ref (ml), .ref (mi), .ref (mh), .int (nI (cu + (i + 1))), .int (nI (sa)), .int (nI (numM bf cu (i + 1))), .ref (mr), .int (nI (tn))])), (mt, .inl (cA 0, 130, arN bf))] := Eq.mp (congrArg (fun z9 => va_D A [(om, .inr (8, [.ref (mw), .int (nI (ud)), .ref (mt), .int (nI (td)), .int (nI (fy)), .int (nI (su)), .ref (mm), .ref (ml), .ref (mi), .ref (mh), .int (nI (cu + (i + 1))), .int (nI (sa)), z9, .ref (mr), .int (nI (tn))])), (mt, .inl (cA 0, 130, arN bf))]) ew10) hD
          have hl9 := lv_sub (l' := [(3, .int (nI (cu))), (0, .ref (om)), (1, .int (nI (lo))), (2, .int (nI (hi)))]) hl [0, 1, 2, 3] rfl
          exact ih10 (i + 1) (by omega) (lt_s (p := fun q => digP td bf cu q = true) iv10_1 c2) (by omega) _ _ _ hP hD hS hl9
        · skip
          rw [nI_leI (by omega) (by omega)] at c8
          refine lv_bipush (v := nI (10)) hx hb dX8_takesNumber_38 (by decide) ?_
          refine lv_aload_n hx hb dX8_takesNumber_40 rfl (lv_at hl 1 rfl) ?_
          refine va_get (v := .int (nI (numM bf cu i))) (Ts := wsX80) (C := RX8) (T := TX8) (N := 15) hx hb hwsX80 (fun _ h => h) hown hK hP 0 rfl rfl 12 (by decide) (hts (.fieldLink RX8 80 "AdventStreetsModel" "number" "I") (List.mem_of_getElem? (i := 2) rfl)) (fun _ h9 => h9) rfl dX8_takesNumber_41 ?_
          refine lv_imul hx hb dX8_takesNumber_44 ?_
          refine vn_i (v := nI (10 * (numM bf cu i))) (pk_mul _ _) ?_
          refine lv_aload_n hx hb dX8_takesNumber_45 rfl (lv_at hl 1 rfl) ?_
          refine cVi (n := 0) (As := []) (rest := [.int (nI (10 * (numM bf cu i))), .ref (om)]) (C := RX8) (ci := 8) (q0 := 0) (X := [(om, .inr (8, [.ref (mw), .int (nI (ud)), .ref (mt), .int (nI (td)), .int (nI (fy)), .int (nI (su)), .ref (mm), .ref (ml), .ref (mi), .ref (mh), .int (nI (cu + i)), .int (nI (sa)), .int (nI (numM bf cu i)), .ref (mr), .int (nI (tn))])), (mt, .inl (cA 0, 130, arN bf))]) (pl := []) (wc := [(om, .inr (8, [.ref (mw), .int (nI (ud)), .ref (mt), .int (nI (td)), .int (nI (fy)), .int (nI (su)), .ref (mm), .ref (ml), .ref (mi), .ref (mh), .int (nI (cu + i)), .int (nI (sa)), .int (nI (numM bf cu i)), .ref (mr), .int (nI (tn))])), (mt, .inl (cA 0, 130, arN bf))]) (wr := ([] : va_W)) (w1 := [(om, .inr (8, [.ref (mw), .int (nI (ud)), .ref (mt), .int (nI (td)), .int (nI (fy)), .int (nI (su)), .ref (mm), .ref (ml), .ref (mi), .ref (mh), .int (nI (cu + i)), .int (nI (sa)), .int (nI (numM bf cu i)), .ref (mr), .int (nI (tn))])), (mt, .inl (cA 0, 130, arN bf))]) (wn := [(om, .inr (8, [.ref (mw), .int (nI (ud)), .ref (mt), .int (nI (td)), .int (nI (fy)), .int (nI (su)), .ref (mm), .ref (ml), .ref (mi), .ref (mh), .int (nI (cu + i)), .int (nI (sa)), .int (nI (numM bf cu i)), .ref (mr), .int (nI (tn))])), (mt, .inl (cA 0, 130, arN bf))]) (isC := [0, 1]) (isR := []) (isN := [0, 1]) ⟨hx, hb, hml, hown, hts⟩ (c_X8_here l D cA tt om mw mt mm ml mi mh mr ud td fy su (cu + i) sa (numM bf cu i) tn bf (iv10_0) (htd) (hbf) _) gX8_takesNumber_X8_here rfl (by decide +kernel) rfl rfl ⟨rfl, rfl⟩ ⟨Nat.le_of_ble_eq_true rfl, Nat.le_of_ble_eq_true rfl⟩ ⟨Nat.zero_le _, Nat.zero_le _⟩ hK hE hA hP hD hS ⟨⟨rfl, by decide⟩, ⟨rfl, by decide, by decide⟩, rfl, by decide⟩ rfl hl.1 rfl (Nat.le_of_ble_eq_true rfl) dX8_takesNumber_46 (fun H locs hP hD hS => ?_)
          have hP : va_P D vwCl [(om, .inr (8, [.ref (mw), .int (nI (ud)), .ref (mt), .int (nI (td)), .int (nI (fy)), .int (nI (su)), .ref (mm), .ref (ml), .ref (mi), .ref (mh), .int (nI (cu + i)), .int (nI (sa)), .int (nI (numM bf cu i)), .ref (mr), .int (nI (tn))])), (mt, .inl (cA 0, 130, arN bf))] _ := hP
          have hD : va_D A [(om, .inr (8, [.ref (mw), .int (nI (ud)), .ref (mt), .int (nI (td)), .int (nI (fy)), .int (nI (su)), .ref (mm), .ref (ml), .ref (mi), .ref (mh), .int (nI (cu + i)), .int (nI (sa)), .int (nI (numM bf cu i)), .ref (mr), .int (nI (tn))])), (mt, .inl (cA 0, 130, arN bf))] := hD
          refine vn_i (v := nI (bf (cu + i))) d2 ?_
          refine lv_iadd hx hb dX8_takesNumber_49 ?_
          refine vn_i (v := nI (10 * (numM bf cu i) + (bf (cu + i)))) (nI_add _ _) ?_
          refine lv_bipush (v := nI (48)) hx hb dX8_takesNumber_50 (by decide) ?_
          refine lv_isub hx hb dX8_takesNumber_52 ?_
          refine vn_i (v := nI ((10 * (numM bf cu i) + (bf (cu + i))) - 48)) (pk_sub (by omega)) ?_
          refine lv_goto (tgt := 60) hx hb dX8_takesNumber_53 (by decide) ?_
          refine va_put (v := .int (nI ((10 * (numM bf cu i) + (bf (cu + i))) - 48))) (ty := .int) (Ts := wsX80) (C := RX8) (T := TX8) (N := 15) hx hb hwsX80 (fun _ h => h) tyX8 tyX8_ok nmX8 hown hK hP hD hS 0 rfl rfl 12 (by decide) (hts (.fieldLink RX8 80 "AdventStreetsModel" "number" "I") (List.mem_of_getElem? (i := 2) rfl)) (fun _ h9 => h9) rfl (tyX8_ok 12 (by decide)) rfl rfl (Nat.le_of_ble_eq_true rfl) dX8_takesNumber_60 (fun H locs hP hD hS => ?_)
          have hP : va_P D vwCl [(om, .inr (8, [.ref (mw), .int (nI (ud)), .ref (mt), .int (nI (td)), .int (nI (fy)), .int (nI (su)), .ref (mm), .ref (ml), .ref (mi), .ref (mh), .int (nI (cu + i)), .int (nI (sa)), .int (nI ((10 * (numM bf cu i) + (bf (cu + i))) - 48)), .ref (mr), .int (nI (tn))])), (mt, .inl (cA 0, 130, arN bf))] _ := hP
          have hD : va_D A [(om, .inr (8, [.ref (mw), .int (nI (ud)), .ref (mt), .int (nI (td)), .int (nI (fy)), .int (nI (su)), .ref (mm), .ref (ml), .ref (mi), .ref (mh), .int (nI (cu + i)), .int (nI (sa)), .int (nI ((10 * (numM bf cu i) + (bf (cu + i))) - 48)), .ref (mr), .int (nI (tn))])), (mt, .inl (cA 0, 130, arN bf))] := hD
          refine lv_aload_n hx hb dX8_takesNumber_63 rfl (lv_at hl 1 rfl) ?_
          refine lv_dup hx hb dX8_takesNumber_64 rfl ?_
          refine va_get (v := .int (nI (cu + i))) (Ts := wsX80) (C := RX8) (T := TX8) (N := 15) hx hb hwsX80 (fun _ h => h) hown hK hP 0 rfl rfl 10 (by decide) (hts (.fieldLink RX8 63 "AdventStreetsModel" "at" "I") (List.mem_of_getElem? (i := 1) rfl)) (fun _ h9 => h9) rfl dX8_takesNumber_65 ?_
          refine lv_iconst (v := nI (1)) hx hb dX8_takesNumber_68 (by decide) ?_
          refine lv_iadd hx hb dX8_takesNumber_69 ?_
          refine vn_i (v := nI (cu + i + 1)) (nI_add _ _) ?_
          refine va_put (v := .int (nI (cu + i + 1))) (ty := .int) (Ts := wsX80) (C := RX8) (T := TX8) (N := 15) hx hb hwsX80 (fun _ h => h) tyX8 tyX8_ok nmX8 hown hK hP hD hS 0 rfl rfl 10 (by decide) (hts (.fieldLink RX8 63 "AdventStreetsModel" "at" "I") (List.mem_of_getElem? (i := 1) rfl)) (fun _ h9 => h9) rfl (tyX8_ok 10 (by decide)) rfl rfl (Nat.le_of_ble_eq_true rfl) dX8_takesNumber_70 (fun H locs hP hD hS => ?_)
          have hP : va_P D vwCl [(om, .inr (8, [.ref (mw), .int (nI (ud)), .ref (mt), .int (nI (td)), .int (nI (fy)), .int (nI (su)), .ref (mm), .ref (ml), .ref (mi), .ref (mh), .int (nI (cu + i + 1)), .int (nI (sa)), .int (nI ((10 * (numM bf cu i) + (bf (cu + i))) - 48)), .ref (mr), .int (nI (tn))])), (mt, .inl (cA 0, 130, arN bf))] _ := hP
          have hD : va_D A [(om, .inr (8, [.ref (mw), .int (nI (ud)), .ref (mt), .int (nI (td)), .int (nI (fy)), .int (nI (su)), .ref (mm), .ref (ml), .ref (mi), .ref (mh), .int (nI (cu + i + 1)), .int (nI (sa)), .int (nI ((10 * (numM bf cu i) + (bf (cu + i))) - 48)), .ref (mr), .int (nI (tn))])), (mt, .inl (cA 0, 130, arN bf))] := hD
          refine lv_goto (tgt := 10) hx hb dX8_takesNumber_73 (by decide) ?_
          have ew11 : (.int (nI (cu + i + 1)) : Value) = .int (nI (cu + (i + 1))) := by
            first
            | rfl
            | exact congrArg (fun z8 => Value.int (nI z8)) (by rw [numM, if_pos (show i < 2 by omega)])
            | exact congrArg (fun z8 => Value.int (nI z8)) (by rw [numM, if_neg (show ¬ i < 2 by omega)])
          have hP : va_P D vwCl [(om, .inr (8, [.ref (mw), .int (nI (ud)), .ref (mt), .int (nI (td)), .int (nI (fy)), .int (nI (su)), .ref (mm), .ref (ml), .ref (mi), .ref (mh), .int (nI (cu + (i + 1))), .int (nI (sa)), .int (nI ((10 * (numM bf cu i) + (bf (cu + i))) - 48)), .ref (mr), .int (nI (tn))])), (mt, .inl (cA 0, 130, arN bf))] _ := Eq.mp (congrArg (fun z9 => va_P D vwCl [(om, .inr (8, [.ref (mw), .int (nI (ud)), .ref (mt), .int (nI (td)), .int (nI (fy)), .int (nI (su)), .ref (mm), .ref (ml), .ref (mi), .ref (mh), z9, .int (nI (sa)), .int (nI ((10 * (numM bf cu i) + (bf (cu + i))) - 48)), .ref (mr), .int (nI (tn))])), (mt, .inl (cA 0, 130, arN bf))] _) ew11) hP
          have hD : va_D A [(om, .inr (8, [.ref (mw), .int (nI (ud)), .ref (mt), .int (nI (td)), .int (nI (fy)), .int (nI (su)), .ref (mm), .ref (ml), .ref (mi), .ref (mh), .int (nI (cu + (i + 1))), .int (nI (sa)), .int (nI ((10 * (numM bf cu i) + (bf (cu + i))) - 48)), .ref (mr), .int (nI (tn))])), (mt, .inl (cA 0, 130, arN bf))] := Eq.mp (congrArg (fun z9 => va_D A [(om, .inr (8, [.ref (mw), .int (nI (ud)), .ref (mt), .int (nI (td)), .int (nI (fy)), .int (nI (su)), .ref (mm), .ref (ml), .ref (mi), .ref (mh), z9, .int (nI (sa)), .int (nI ((10 * (numM bf cu i) + (bf (cu + i))) - 48)), .ref (mr), .int (nI (tn))])), (mt, .inl (cA 0, 130, arN bf))]) ew11) hD
          have ew12 : (.int (nI ((10 * (numM bf cu i) + (bf (cu + i))) - 48)) : Value) = .int (nI (numM bf cu (i + 1))) := by
            first
            | rfl
            | exact congrArg (fun z8 => Value.int (nI z8)) (by rw [numM, if_pos (show i < 2 by omega)])
            | exact congrArg (fun z8 => Value.int (nI z8)) (by rw [numM, if_neg (show ¬ i < 2 by omega)])
          have hP : va_P D vwCl [(om, .inr (8, [.ref (mw), .int (nI (ud)), .ref (mt), .int (nI (td)), .int (nI (fy)), .int (nI (su)), .ref (mm), .ref (ml), .ref (mi), .ref (mh), .int (nI (cu + (i + 1))), .int (nI (sa)), .int (nI (numM bf cu (i + 1))), .ref (mr), .int (nI (tn))])), (mt, .inl (cA 0, 130, arN bf))] _ := Eq.mp (congrArg (fun z9 => va_P D vwCl [(om, .inr (8, [.ref (mw), .int (nI (ud)), .ref (mt), .int (nI (td)), .int (nI (fy)), .int (nI (su)), .ref (mm), .ref (ml), .ref (mi), .ref (mh), .int (nI (cu + (i + 1))), .int (nI (sa)), z9, .ref (mr), .int (nI (tn))])), (mt, .inl (cA 0, 130, arN bf))] _) ew12) hP
          have hD : va_D A [(om, .inr (8, [.ref (mw), .int (nI (ud)), .ref (mt), .int (nI (td)), .int (nI (fy)), .int (nI (su)), .ref (mm), .ref (ml), .ref (mi), .ref (mh), .int (nI (cu + (i + 1))), .int (nI (sa)), .int (nI (numM bf cu (i + 1))), .ref (mr), .int (nI (tn))])), (mt, .inl (cA 0, 130, arN bf))] := Eq.mp (congrArg (fun z9 => va_D A [(om, .inr (8, [.ref (mw), .int (nI (ud)), .ref (mt), .int (nI (td)), .int (nI (fy)), .int (nI (su)), .ref (mm), .ref (ml), .ref (mi), .ref (mh), .int (nI (cu + (i + 1))), .int (nI (sa)), z9, .ref (mr), .int (nI (tn))])), (mt, .inl (cA 0, 130, arN bf))]) ew12) hD
          have hl9 := lv_sub (l' := [(3, .int (nI (cu))), (0, .ref (om)), (1, .int (nI (lo))), (2, .int (nI (hi)))]) hl [0, 1, 2, 3] rfl
          exact ih10 (i + 1) (by omega) (lt_s (p := fun q => digP td bf cu q = true) iv10_1 c2) (by omega) _ _ _ hP hD hS hl9
  have ew13 : (.int (nI (cu)) : Value) = .int (nI (cu + 0)) := by
    rfl
  have hP : va_P D vwCl [(om, .inr (8, [.ref (mw), .int (nI (ud)), .ref (mt), .int (nI (td)), .int (nI (fy)), .int (nI (su)), .ref (mm), .ref (ml), .ref (mi), .ref (mh), .int (nI (cu + 0)), .int (nI (sa)), .int (nI (0)), .ref (mr), .int (nI (tn))])), (mt, .inl (cA 0, 130, arN bf))] _ := Eq.mp (congrArg (fun z9 => va_P D vwCl [(om, .inr (8, [.ref (mw), .int (nI (ud)), .ref (mt), .int (nI (td)), .int (nI (fy)), .int (nI (su)), .ref (mm), .ref (ml), .ref (mi), .ref (mh), z9, .int (nI (sa)), .int (nI (0)), .ref (mr), .int (nI (tn))])), (mt, .inl (cA 0, 130, arN bf))] _) ew13) hP
  have hD : va_D A [(om, .inr (8, [.ref (mw), .int (nI (ud)), .ref (mt), .int (nI (td)), .int (nI (fy)), .int (nI (su)), .ref (mm), .ref (ml), .ref (mi), .ref (mh), .int (nI (cu + 0)), .int (nI (sa)), .int (nI (0)), .ref (mr), .int (nI (tn))])), (mt, .inl (cA 0, 130, arN bf))] := Eq.mp (congrArg (fun z9 => va_D A [(om, .inr (8, [.ref (mw), .int (nI (ud)), .ref (mt), .int (nI (td)), .int (nI (fy)), .int (nI (su)), .ref (mm), .ref (ml), .ref (mi), .ref (mh), z9, .int (nI (sa)), .int (nI (0)), .ref (mr), .int (nI (tn))])), (mt, .inl (cA 0, 130, arN bf))]) ew13) hD
  have ew14 : (.int (nI (0)) : Value) = .int (nI (numM bf cu 0)) := by
    rfl
  have hP : va_P D vwCl [(om, .inr (8, [.ref (mw), .int (nI (ud)), .ref (mt), .int (nI (td)), .int (nI (fy)), .int (nI (su)), .ref (mm), .ref (ml), .ref (mi), .ref (mh), .int (nI (cu + 0)), .int (nI (sa)), .int (nI (numM bf cu 0)), .ref (mr), .int (nI (tn))])), (mt, .inl (cA 0, 130, arN bf))] _ := Eq.mp (congrArg (fun z9 => va_P D vwCl [(om, .inr (8, [.ref (mw), .int (nI (ud)), .ref (mt), .int (nI (td)), .int (nI (fy)), .int (nI (su)), .ref (mm), .ref (ml), .ref (mi), .ref (mh), .int (nI (cu + 0)), .int (nI (sa)), z9, .ref (mr), .int (nI (tn))])), (mt, .inl (cA 0, 130, arN bf))] _) ew14) hP
  have hD : va_D A [(om, .inr (8, [.ref (mw), .int (nI (ud)), .ref (mt), .int (nI (td)), .int (nI (fy)), .int (nI (su)), .ref (mm), .ref (ml), .ref (mi), .ref (mh), .int (nI (cu + 0)), .int (nI (sa)), .int (nI (numM bf cu 0)), .ref (mr), .int (nI (tn))])), (mt, .inl (cA 0, 130, arN bf))] := Eq.mp (congrArg (fun z9 => va_D A [(om, .inr (8, [.ref (mw), .int (nI (ud)), .ref (mt), .int (nI (td)), .int (nI (fy)), .int (nI (su)), .ref (mm), .ref (ml), .ref (mi), .ref (mh), .int (nI (cu + 0)), .int (nI (sa)), z9, .ref (mr), .int (nI (tn))])), (mt, .inl (cA 0, 130, arN bf))]) ew14) hD
  have hl9 := lv_sub (l' := [(3, .int (nI (cu))), (0, .ref (om)), (1, .int (nI (lo))), (2, .int (nI (hi)))]) hl [0, 1, 2, 3] rfl
  exact loop10 _ 0 (by omega) (fun q hq => by omega) (Nat.lt_succ_self _) _ _ _ hP hD hS hl9
