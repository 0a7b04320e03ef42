/-! ===== the reference: what it is asked ===== -/
theorem sgK {Z : Nat → Nat} {k : Nat} : SK (sg Z 0) k = Z (5 + k) := by rw [show SK (sg Z 0) k = Z (0 + 5 + k) from rfl, Nat.zero_add]
theorem sgP {Z : Nat → Nat} {k : Nat} : SP (sg Z 0) k = Z (15 + k) := by rw [show SP (sg Z 0) k = Z (0 + 15 + k) from rfl, Nat.zero_add]
theorem isA9t {k kd : Nat} (hk : 1 ≤ k ∧ k ≤ 5) (hd : kd ≤ 5) (h : kd = 0 ∨ kd = k ∨ (kd = 1 ∧ (k = 2 ∨ k = 3)) ∨ (kd = 4 ∧ k = 5)) : isA k kd = true := by
  have : k = 1 ∨ k = 2 ∨ k = 3 ∨ k = 4 ∨ k = 5 := by omega
  rcases this with q | q | q | q | q <;> subst q <;> (have q2 : kd = 0 ∨ kd = 1 ∨ kd = 2 ∨ kd = 3 ∨ kd = 4 ∨ kd = 5 := by omega) <;> rcases q2 with q | q | q | q | q | q <;> subst q <;> first | rfl | (exfalso; omega)
theorem isA9f {k kd : Nat} (hk : 1 ≤ k ∧ k ≤ 5) (hd : kd ≤ 5) (h : ¬ (kd = 0 ∨ kd = k ∨ (kd = 1 ∧ (k = 2 ∨ k = 3)) ∨ (kd = 4 ∧ k = 5))) : isA k kd = false := by
  have : k = 1 ∨ k = 2 ∨ k = 3 ∨ k = 4 ∨ k = 5 := by omega
  rcases this with q | q | q | q | q <;> subst q <;> (have q2 : kd = 0 ∨ kd = 1 ∨ kd = 2 ∨ kd = 3 ∨ kd = 4 ∨ kd = 5 := by omega) <;> rcases q2 with q | q | q | q | q | q <;> subst q <;> first | rfl | (exfalso; omega)
theorem gs_eq {Z : Nat → Nat} : orN (Z 0) (fun j => 2 ^ Z (15 + j)) = picsF (sg Z 0) (allF (sg Z 0)) := by
  unfold picsF
  refine orN_congr (fun k hk => ?_)
  unfold picT
  rw [if_pos (by unfold allF; rw [Nat.testBit_two_pow_sub_one]; exact decide_eq_true hk), sgP]
theorem nI_neM {k : Nat} (h : k < 2 ^ 31) : ¬ nI k = -1000000 := fun q => by
  have := congrArg Int32.toInt q
  rw [nI_toInt h, show (-1000000 : Int32).toInt = -1000000 by decide +kernel] at this
  omega
def rstM (Z : Nat → Nat) (pk : Int32) : Int32 := if inI pk (nI 0) (nI 1) = true then (if Z (110 + 55 * pk.toNatClampNeg) = 0 then (-1000002) else nI 1) else (-1000001)
set_option maxRecDepth 100000 in
set_option maxHeartbeats 4000000 in
theorem c_X8_kind (l : Launch) (D : va_G) (cA : Nat → ClassId) (tt : Nat → Nat) (om mw mt mm ml mi mh mr ud td fy su cu sa nb tn : Nat) (Z : Nat → Nat) (pk : Int32) (hg : Wf (sg Z 0)) (sz : Nat) : Ci l D cA tt yX8_kind wsX8_kind ({ frames := 2, cells := 0, slots := 0, locals := 46 } : Room) [.ref (om), .int (pk)] sz [(om, .inr (8, [.ref (mw), .int (nI (ud)), .ref (mt), .int (nI (td)), .int (nI (fy)), .int (nI (su)), .ref (mm), .ref (ml), .ref (mi), .ref (mh), .int (nI (cu)), .int (nI (sa)), .int (nI (nb)), .ref (mr), .int (nI (tn))])), (mw, .inl (cA 0, 1595, arN Z))] [(om, .inr (8, [.ref (mw), .int (nI (ud)), .ref (mt), .int (nI (td)), .int (nI (fy)), .int (nI (su)), .ref (mm), .ref (ml), .ref (mi), .ref (mh), .int (nI (cu)), .int (nI (sa)), .int (nI (nb)), .ref (mr), .int (nI (tn))])), (mw, .inl (cA 0, 1595, arN Z))] (kindR (sg Z 0) pk) := by
  obtain ⟨gn, ge, gv, go, ga⟩ := wfZ hg
  refine Ci.mk (cc := cX8_kind) (maxL := 2) (ty := .int) (by decide) rfl rfl (Nat.le_of_ble_eq_true rfl) ?_
  intro p e s m below meth c A Q ls hB hl hend
  obtain ⟨⟨hx, hb, hml, hown, hts⟩, hP, hK, hD, hS, hA, hE⟩ := hB
  have hown : s.vm.findClass RX8 = some m.cls := hown
  have hwsX80 : ∀ w9 ∈ wsX80, w9.before ([.ref (om), .int (pk)] : List Value).toArray s = true := fun w9 h => hts w9 (List.mem_cons_of_mem _ (List.mem_append_right _ h))
  have hl : lv_has ls 2 [(0, .ref (om)), (1, .int (pk))] := hl
  refine lv_aload_n hx hb dX8_kind_0 rfl (lv_at hl 0 rfl) ?_
  refine lv_iload_n hx hb dX8_kind_1 rfl (lv_at hl 1 rfl) ?_
  refine cVi (n := 1) (As := [.int (pk)]) (rest := []) (C := RX8) (ci := 8) (q0 := 0) (X := [(om, .inr (8, [.ref (mw), .int (nI (ud)), .ref (mt), .int (nI (td)), .int (nI (fy)), .int (nI (su)), .ref (mm), .ref (ml), .ref (mi), .ref (mh), .int (nI (cu)), .int (nI (sa)), .int (nI (nb)), .ref (mr), .int (nI (tn))])), (mw, .inl (cA 0, 1595, arN Z))]) (pl := []) (wc := [(om, .inr (8, [.ref (mw), .int (nI (ud)), .ref (mt), .int (nI (td)), .int (nI (fy)), .int (nI (su)), .ref (mm), .ref (ml), .ref (mi), .ref (mh), .int (nI (cu)), .int (nI (sa)), .int (nI (nb)), .ref (mr), .int (nI (tn))])), (mw, .inl (cA 0, 1595, arN Z))]) (wr := ([] : va_W)) (w1 := [(om, .inr (8, [.ref (mw), .int (nI (ud)), .ref (mt), .int (nI (td)), .int (nI (fy)), .int (nI (su)), .ref (mm), .ref (ml), .ref (mi), .ref (mh), .int (nI (cu)), .int (nI (sa)), .int (nI (nb)), .ref (mr), .int (nI (tn))])), (mw, .inl (cA 0, 1595, arN Z))]) (wn := [(om, .inr (8, [.ref (mw), .int (nI (ud)), .ref (mt), .int (nI (td)), .int (nI (fy)), .int (nI (su)), .ref (mm), .ref (ml), .ref (mi), .ref (mh), .int (nI (cu)), .int (nI (sa)), .int (nI (nb)), .ref (mr), .int (nI (tn))])), (mw, .inl (cA 0, 1595, arN Z))]) (isC := [0, 1]) (isR := []) (isN := [0, 1]) ⟨hx, hb, hml, hown, hts⟩ (c_X8_isWindow l D cA tt om mw mt mm ml mi mh mr ud td fy su cu sa nb tn Z pk (hg) _) gX8_kind_X8_isWindow rfl (by decide +kernel) rfl rfl ⟨rfl, rfl⟩ ⟨Nat.le_of_ble_eq_true rfl, Nat.le_of_ble_eq_true rfl⟩ ⟨Nat.zero_le _, Nat.zero_le _⟩ hK hE hA hP hD hS ⟨⟨rfl, by decide⟩, ⟨rfl, by decide, by decide⟩, rfl, by decide⟩ rfl hl.1 rfl (Nat.le_of_ble_eq_true rfl) dX8_kind_2 (fun H locs hP hD hS => ?_)
  have hP : va_P D vwCl [(om, .inr (8, [.ref (mw), .int (nI (ud)), .ref (mt), .int (nI (td)), .int (nI (fy)), .int (nI (su)), .ref (mm), .ref (ml), .ref (mi), .ref (mh), .int (nI (cu)), .int (nI (sa)), .int (nI (nb)), .ref (mr), .int (nI (tn))])), (mw, .inl (cA 0, 1595, arN Z))] _ := hP
  have hD : va_D A [(om, .inr (8, [.ref (mw), .int (nI (ud)), .ref (mt), .int (nI (td)), .int (nI (fy)), .int (nI (su)), .ref (mm), .ref (ml), .ref (mi), .ref (mh), .int (nI (cu)), .int (nI (sa)), .int (nI (nb)), .ref (mr), .int (nI (tn))])), (mw, .inl (cA 0, 1595, arN Z))] := hD
  refine lv_if_eq (tgt := 19) hx hb dX8_kind_5 (by decide) (fun c1 => ?_) (fun c1 => ?_)
  · skip
    rw [bI_z] at c1
    refine lv_ldc (v := (-1000001)) hx hb hown (hts (.constant RX8 48 (-1000001)) (List.mem_of_getElem? (i := 2) rfl)) dX8_kind_19 ?_
    exact hend _ _ _ _ _ hP hD hS (by unfold kindR; rw [if_neg (by simp [c1])]) dX8_kind_21
  · skip
    rw [bI_nz] at c1
    obtain ⟨k, e_k, l_k⟩ := inW_t (by omega) c1
    rw [e_k] at hl
    refine lv_aload_n hx hb dX8_kind_8 rfl (lv_at hl 0 rfl) ?_
    refine va_get (v := .ref (mw)) (Ts := wsX80) (C := RX8) (T := TX8) (N := 15) hx hb hwsX80 (fun _ h => h) hown hK hP 0 rfl rfl 0 (by decide) (hts (.fieldLink RX8 7 "AdventStreetsModel" "w" "[I") (List.mem_of_getElem? (i := 1) rfl)) (fun _ h9 => h9) rfl dX8_kind_9 ?_
    refine lv_iconst (v := nI (5)) hx hb dX8_kind_12 (by decide) ?_
    refine lv_iload_n hx hb dX8_kind_13 rfl (lv_at hl 1 rfl) ?_
    refine lv_iadd hx hb dX8_kind_14 ?_
    refine vn_i (v := nI (5 + k)) (nI_add _ _) ?_
    refine r_ald (f := Z) hx hb hK hP 1 rfl (i := 5 + k) (by omega) (Nat.lt_of_lt_of_le (by omega : 1595 < 1073741824) (by decide)) dX8_kind_15 ?_
    refine lv_goto (tgt := 21) hx hb dX8_kind_16 (by decide) ?_
    exact hend _ _ _ _ _ hP hD hS (by unfold kindR; rw [if_pos c1, e_k, nI_clamp (n := k) (by omega), show SK (sg Z 0) k = Z (5 + k) from by rw [show SK (sg Z 0) k = Z (0 + 5 + k) from rfl, Nat.zero_add]]) dX8_kind_21
set_option maxRecDepth 100000 in
set_option maxHeartbeats 4000000 in
theorem c_X8_isA (l : Launch) (D : va_G) (cA : Nat → ClassId) (tt : Nat → Nat) (k kd : Nat) (hk : 1 ≤ k ∧ k ≤ 5) (hd : kd ≤ 5) (sz : Nat) : Ci l D cA tt yX8_isA wsX8_isA ({ frames := 0, cells := 0, slots := 0, locals := 0 } : Room) [.int (nI (k)), .int (nI (kd))] sz ([] : va_W) ([] : va_W) (bI (isA k kd)) := by
  refine Ci.mk (cc := cX8_isA) (maxL := 2) (ty := .boolean) (by decide) rfl (bI_n _) (Nat.le_of_ble_eq_true rfl) ?_
  intro p e s m below meth c A Q ls hB hl hend
  obtain ⟨⟨hx, hb, hml, hown, hts⟩, hP, hK, hD, hS, hA, hE⟩ := hB
  have hown : s.vm.findClass RX8 = some m.cls := hown
  have hl : lv_has ls 2 [(0, .int (nI (k))), (1, .int (nI (kd)))] := hl
  refine lv_iload_n hx hb dX8_isA_0 rfl (lv_at hl 1 rfl) ?_
  refine lv_if_eq (tgt := 34) hx hb dX8_isA_1 (by decide) (fun c1 => ?_) (fun c1 => ?_)
  · skip
    rw [n_z (by omega)] at c1
    refine lv_iconst (v := nI (1)) hx hb dX8_isA_34 (by decide) ?_
    refine lv_goto (tgt := 39) hx hb dX8_isA_35 (by decide) ?_
    exact hend _ _ _ _ _ hP hD hS (one_bI (isA9t hk hd (by omega))) dX8_isA_39
  · skip
    rw [n_z (by omega)] at c1
    refine lv_iload_n hx hb dX8_isA_4 rfl (lv_at hl 1 rfl) ?_
    refine lv_iload_n hx hb dX8_isA_5 rfl (lv_at hl 0 rfl) ?_
    refine lv_icmp_eq (tgt := 34) hx hb dX8_isA_6 (by decide) (fun c2 => ?_) (fun c2 => ?_)
    · skip
      rw [nI_eq (by omega) (by omega)] at c2
      refine lv_iconst (v := nI (1)) hx hb dX8_isA_34 (by decide) ?_
      refine lv_goto (tgt := 39) hx hb dX8_isA_35 (by decide) ?_
      exact hend _ _ _ _ _ hP hD hS (one_bI (isA9t hk hd (by omega))) dX8_isA_39
    · skip
      rw [nI_eq (by omega) (by omega)] at c2
      refine lv_iload_n hx hb dX8_isA_9 rfl (lv_at hl 1 rfl) ?_
      refine lv_iconst (v := nI (1)) hx hb dX8_isA_10 (by decide) ?_
      refine lv_icmp_ne (tgt := 24) hx hb dX8_isA_11 (by decide) (fun c3 => ?_) (fun c3 => ?_)
      · skip
        rw [nI_eq (by omega) (by omega)] at c3
        refine lv_iload_n hx hb dX8_isA_24 rfl (lv_at hl 1 rfl) ?_
        refine lv_iconst (v := nI (4)) hx hb dX8_isA_25 (by decide) ?_
        refine lv_icmp_ne (tgt := 38) hx hb dX8_isA_26 (by decide) (fun c4 => ?_) (fun c4 => ?_)
        · skip
          rw [nI_eq (by omega) (by omega)] at c4
          refine lv_iconst (v := nI (0)) hx hb dX8_isA_38 (by decide) ?_
          exact hend _ _ _ _ _ hP hD hS (zero_bI (isA9f hk hd (by omega))) dX8_isA_39
        · skip
          rw [nI_eq (by omega) (by omega)] at c4
          refine lv_iload_n hx hb dX8_isA_29 rfl (lv_at hl 0 rfl) ?_
          refine lv_iconst (v := nI (5)) hx hb dX8_isA_30 (by decide) ?_
          refine lv_icmp_ne (tgt := 38) hx hb dX8_isA_31 (by decide) (fun c5 => ?_) (fun c5 => ?_)
          · skip
            rw [nI_eq (by omega) (by omega)] at c5
            refine lv_iconst (v := nI (0)) hx hb dX8_isA_38 (by decide) ?_
            exact hend _ _ _ _ _ hP hD hS (zero_bI (isA9f hk hd (by omega))) dX8_isA_39
          · skip
            rw [nI_eq (by omega) (by omega)] at c5
            refine lv_iconst (v := nI (1)) hx hb dX8_isA_34 (by decide) ?_
            refine lv_goto (tgt := 39) hx hb dX8_isA_35 (by decide) ?_
            exact hend _ _ _ _ _ hP hD hS (one_bI (isA9t hk hd (by omega))) dX8_isA_39
      · skip
        rw [nI_eq (by omega) (by omega)] at c3
        refine lv_iload_n hx hb dX8_isA_14 rfl (lv_at hl 0 rfl) ?_
        refine lv_iconst (v := nI (2)) hx hb dX8_isA_15 (by decide) ?_
        refine lv_icmp_eq (tgt := 34) hx hb dX8_isA_16 (by decide) (fun c6 => ?_) (fun c6 => ?_)
        · skip
          rw [nI_eq (by omega) (by omega)] at c6
          refine lv_iconst (v := nI (1)) hx hb dX8_isA_34 (by decide) ?_
          refine lv_goto (tgt := 39) hx hb dX8_isA_35 (by decide) ?_
          exact hend _ _ _ _ _ hP hD hS (one_bI (isA9t hk hd (by omega))) dX8_isA_39
        · skip
          rw [nI_eq (by omega) (by omega)] at c6
          refine lv_iload_n hx hb dX8_isA_19 rfl (lv_at hl 0 rfl) ?_
          refine lv_iconst (v := nI (3)) hx hb dX8_isA_20 (by decide) ?_
          refine lv_icmp_eq (tgt := 34) hx hb dX8_isA_21 (by decide) (fun c7 => ?_) (fun c7 => ?_)
          · skip
            rw [nI_eq (by omega) (by omega)] at c7
            refine lv_iconst (v := nI (1)) hx hb dX8_isA_34 (by decide) ?_
            refine lv_goto (tgt := 39) hx hb dX8_isA_35 (by decide) ?_
            exact hend _ _ _ _ _ hP hD hS (one_bI (isA9t hk hd (by omega))) dX8_isA_39
          · skip
            rw [nI_eq (by omega) (by omega)] at c7
            refine lv_iload_n hx hb dX8_isA_24 rfl (lv_at hl 1 rfl) ?_
            refine lv_iconst (v := nI (4)) hx hb dX8_isA_25 (by decide) ?_
            refine lv_icmp_ne (tgt := 38) hx hb dX8_isA_26 (by decide) (fun c8 => ?_) (fun c8 => ?_)
            · skip
              rw [nI_eq (by omega) (by omega)] at c8
              refine lv_iconst (v := nI (0)) hx hb dX8_isA_38 (by decide) ?_
              exact hend _ _ _ _ _ hP hD hS (zero_bI (isA9f hk hd (by omega))) dX8_isA_39
            · skip
              rw [nI_eq (by omega) (by omega)] at c8
              refine lv_iload_n hx hb dX8_isA_29 rfl (lv_at hl 0 rfl) ?_
              refine lv_iconst (v := nI (5)) hx hb dX8_isA_30 (by decide) ?_
              refine lv_icmp_ne (tgt := 38) hx hb dX8_isA_31 (by decide) (fun c9 => ?_) (fun c9 => ?_)
              · skip
                rw [nI_eq (by omega) (by omega)] at c9
                refine lv_iconst (v := nI (0)) hx hb dX8_isA_38 (by decide) ?_
                exact hend _ _ _ _ _ hP hD hS (zero_bI (isA9f hk hd (by omega))) dX8_isA_39
              · skip
                rw [nI_eq (by omega) (by omega)] at c9
                refine lv_iconst (v := nI (1)) hx hb dX8_isA_34 (by decide) ?_
                refine lv_goto (tgt := 39) hx hb dX8_isA_35 (by decide) ?_
                exact hend _ _ _ _ _ hP hD hS (one_bI (isA9t hk hd (by omega))) dX8_isA_39
set_option maxRecDepth 100000 in
set_option maxHeartbeats 4000000 in
theorem c_X8_as (l : Launch) (D : va_G) (cA : Nat → ClassId) (tt : Nat → Nat) (om mw mt mm ml mi mh mr ud td fy su cu sa nb tn : Nat) (Z : Nat → Nat) (pk pd : Int32) (hg : Wf (sg Z 0)) (hkk : ∀ k, k < Z 0 → 1 ≤ Z (5 + k) ∧ Z (5 + k) ≤ 5) (sz : Nat) : Ci l D cA tt yX8_as wsX8_as ({ frames := 2, cells := 0, slots := 0, locals := 46 } : Room) [.ref (om), .int (pk), .int (pd)] sz [(om, .inr (8, [.ref (mw), .int (nI (ud)), .ref (mt), .int (nI (td)), .int (nI (fy)), .int (nI (su)), .ref (mm), .ref (ml), .ref (mi), .ref (mh), .int (nI (cu)), .int (nI (sa)), .int (nI (nb)), .ref (mr), .int (nI (tn))])), (mw, .inl (cA 0, 1595, arN Z))] [(om, .inr (8, [.ref (mw), .int (nI (ud)), .ref (mt), .int (nI (td)), .int (nI (fy)), .int (nI ((asI (sg Z 0) pk pd su))), .ref (mm), .ref (ml), .ref (mi), .ref (mh), .int (nI (cu)), .int (nI (sa)), .int (nI (nb)), .ref (mr), .int (nI (tn))])), (mw, .inl (cA 0, 1595, arN Z))] (asR (sg Z 0) pk pd) := by
  obtain ⟨gn, ge, gv, go, ga⟩ := wfZ hg
  refine Ci.mk (cc := cX8_as) (maxL := 3) (ty := .int) (by decide) rfl rfl (Nat.le_of_ble_eq_true rfl) ?_
  intro p e s m below meth c A Q ls hB hl hend
  obtain ⟨⟨hx, hb, hml, hown, hts⟩, hP, hK, hD, hS, hA, hE⟩ := hB
  have hown : s.vm.findClass RX8 = some m.cls := hown
  have hwsX80 : ∀ w9 ∈ wsX80, w9.before ([.ref (om), .int (pk), .int (pd)] : List Value).toArray s = true := fun w9 h => hts w9 (List.mem_cons_of_mem _ (List.mem_append_right _ h))
  have hl : lv_has ls 3 [(0, .ref (om)), (1, .int (pk)), (2, .int (pd))] := hl
  refine lv_aload_n hx hb dX8_as_0 rfl (lv_at hl 0 rfl) ?_
  refine lv_iload_n hx hb dX8_as_1 rfl (lv_at hl 1 rfl) ?_
  refine cVi (n := 1) (As := [.int (pk)]) (rest := []) (C := RX8) (ci := 8) (q0 := 0) (X := [(om, .inr (8, [.ref (mw), .int (nI (ud)), .ref (mt), .int (nI (td)), .int (nI (fy)), .int (nI (su)), .ref (mm), .ref (ml), .ref (mi), .ref (mh), .int (nI (cu)), .int (nI (sa)), .int (nI (nb)), .ref (mr), .int (nI (tn))])), (mw, .inl (cA 0, 1595, arN Z))]) (pl := []) (wc := [(om, .inr (8, [.ref (mw), .int (nI (ud)), .ref (mt), .int (nI (td)), .int (nI (fy)), .int (nI (su)), .ref (mm), .ref (ml), .ref (mi), .ref (mh), .int (nI (cu)), .int (nI (sa)), .int (nI (nb)), .ref (mr), .int (nI (tn))])), (mw, .inl (cA 0, 1595, arN Z))]) (wr := ([] : va_W)) (w1 := [(om, .inr (8, [.ref (mw), .int (nI (ud)), .ref (mt), .int (nI (td)), .int (nI (fy)), .int (nI (su)), .ref (mm), .ref (ml), .ref (mi), .ref (mh), .int (nI (cu)), .int (nI (sa)), .int (nI (nb)), .ref (mr), .int (nI (tn))])), (mw, .inl (cA 0, 1595, arN Z))]) (wn := [(om, .inr (8, [.ref (mw), .int (nI (ud)), .ref (mt), .int (nI (td)), .int (nI (fy)), .int (nI (su)), .ref (mm), .ref (ml), .ref (mi), .ref (mh), .int (nI (cu)), .int (nI (sa)), .int (nI (nb)), .ref (mr), .int (nI (tn))])), (mw, .inl (cA 0, 1595, arN Z))]) (isC := [0, 1]) (isR := []) (isN := [0, 1]) ⟨hx, hb, hml, hown, hts⟩ (c_X8_isWindow l D cA tt om mw mt mm ml mi mh mr ud td fy su cu sa nb tn Z pk (hg) _) gX8_as_X8_isWindow rfl (by decide +kernel) rfl rfl ⟨rfl, rfl⟩ ⟨Nat.le_of_ble_eq_true rfl, Nat.le_of_ble_eq_true rfl⟩ ⟨Nat.zero_le _, Nat.zero_le _⟩ hK hE hA hP hD hS ⟨⟨rfl, by decide⟩, ⟨rfl, by decide, by decide⟩, rfl, by decide⟩ rfl hl.1 rfl (Nat.le_of_ble_eq_true rfl) dX8_as_2 (fun H locs hP hD hS => ?_)
  have hP : va_P D vwCl [(om, .inr (8, [.ref (mw), .int (nI (ud)), .ref (mt), .int (nI (td)), .int (nI (fy)), .int (nI (su)), .ref (mm), .ref (ml), .ref (mi), .ref (mh), .int (nI (cu)), .int (nI (sa)), .int (nI (nb)), .ref (mr), .int (nI (tn))])), (mw, .inl (cA 0, 1595, arN Z))] _ := hP
  have hD : va_D A [(om, .inr (8, [.ref (mw), .int (nI (ud)), .ref (mt), .int (nI (td)), .int (nI (fy)), .int (nI (su)), .ref (mm), .ref (ml), .ref (mi), .ref (mh), .int (nI (cu)), .int (nI (sa)), .int (nI (nb)), .ref (mr), .int (nI (tn))])), (mw, .inl (cA 0, 1595, arN Z))] := hD
  refine lv_if_eq (tgt := 20) hx hb dX8_as_5 (by decide) (fun c1 => ?_) (fun c1 => ?_)
  · skip
    rw [bI_z] at c1
    refine lv_ldc (v := (-1000001)) hx hb hown (hts (.constant RX8 48 (-1000001)) (List.mem_of_getElem? (i := 2) rfl)) dX8_as_20 ?_
    have ef2 : ([(om, .inr (8, [.ref (mw), .int (nI (ud)), .ref (mt), .int (nI (td)), .int (nI (fy)), .int (nI (su)), .ref (mm), .ref (ml), .ref (mi), .ref (mh), .int (nI (cu)), .int (nI (sa)), .int (nI (nb)), .ref (mr), .int (nI (tn))])), (mw, .inl (cA 0, 1595, arN Z))] : va_W) = [(om, .inr (8, [.ref (mw), .int (nI (ud)), .ref (mt), .int (nI (td)), .int (nI (fy)), .int (nI ((asI (sg Z 0) pk pd su))), .ref (mm), .ref (ml), .ref (mi), .ref (mh), .int (nI (cu)), .int (nI (sa)), .int (nI (nb)), .ref (mr), .int (nI (tn))])), (mw, .inl (cA 0, 1595, arN Z))] := by
      rw [show asI (sg Z 0) pk pd su = su from by unfold asI; rw [if_neg (by simp [c1])]]
    have hP : va_P D vwCl [(om, .inr (8, [.ref (mw), .int (nI (ud)), .ref (mt), .int (nI (td)), .int (nI (fy)), .int (nI ((asI (sg Z 0) pk pd su))), .ref (mm), .ref (ml), .ref (mi), .ref (mh), .int (nI (cu)), .int (nI (sa)), .int (nI (nb)), .ref (mr), .int (nI (tn))])), (mw, .inl (cA 0, 1595, arN Z))] _ := Eq.mp (congrArg (fun z9 => va_P D vwCl z9 _) ef2) hP
    have hD : va_D A [(om, .inr (8, [.ref (mw), .int (nI (ud)), .ref (mt), .int (nI (td)), .int (nI (fy)), .int (nI ((asI (sg Z 0) pk pd su))), .ref (mm), .ref (ml), .ref (mi), .ref (mh), .int (nI (cu)), .int (nI (sa)), .int (nI (nb)), .ref (mr), .int (nI (tn))])), (mw, .inl (cA 0, 1595, arN Z))] := Eq.mp (congrArg (fun z9 => va_D A z9) ef2) hD
    exact hend _ _ _ _ _ hP hD hS (by unfold asR; rw [if_neg (by simp [c1])]) dX8_as_22
  · skip
    rw [bI_nz] at c1
    obtain ⟨k, e_k, l_k⟩ := inW_t (by omega) c1
    rw [e_k] at hl
    refine lv_iload_n hx hb dX8_as_8 rfl (lv_at hl 2 rfl) ?_
    refine lv_i2l (v := (pd).toInt64) hx hb dX8_as_9 (rfl) ?_
    refine lv_lconst (v := lN 0) hx hb dX8_as_10 rfl ?_
    refine lv_ldc2 (v := (5)) hx hb hown (hts (.constantLong RX8 192 (5)) (List.mem_of_getElem? (i := 1) rfl)) dX8_as_11 ?_
    refine vn_l (v := lN 5) (by decide) ?_
    refine cSi (n := 3) (As := [.long ((pd).toInt64), .long (lN (0)), .long (lN (5))]) (rest := []) (X := [(om, .inr (8, [.ref (mw), .int (nI (ud)), .ref (mt), .int (nI (td)), .int (nI (fy)), .int (nI (su)), .ref (mm), .ref (ml), .ref (mi), .ref (mh), .int (nI (cu)), .int (nI (sa)), .int (nI (nb)), .ref (mr), .int (nI (tn))])), (mw, .inl (cA 0, 1595, arN Z))]) (pl := []) (wc := ([] : va_W)) (wr := [(om, .inr (8, [.ref (mw), .int (nI (ud)), .ref (mt), .int (nI (td)), .int (nI (fy)), .int (nI (su)), .ref (mm), .ref (ml), .ref (mi), .ref (mh), .int (nI (cu)), .int (nI (sa)), .int (nI (nb)), .ref (mr), .int (nI (tn))])), (mw, .inl (cA 0, 1595, arN Z))]) (w1 := ([] : va_W)) (wn := [(om, .inr (8, [.ref (mw), .int (nI (ud)), .ref (mt), .int (nI (td)), .int (nI (fy)), .int (nI (su)), .ref (mm), .ref (ml), .ref (mi), .ref (mh), .int (nI (cu)), .int (nI (sa)), .int (nI (nb)), .ref (mr), .int (nI (tn))])), (mw, .inl (cA 0, 1595, arN Z))]) (isC := []) (isR := [0, 1]) (isN := [0, 1]) ⟨hx, hb, hml, hown, hts⟩ (c_X8_in_I l D cA tt pd 0 5 (by omega) (by omega) _) gX8_as_X8_in rfl (by decide +kernel) ⟨rfl, rfl⟩ ⟨Nat.le_of_ble_eq_true rfl, Nat.le_of_ble_eq_true rfl⟩ ⟨Nat.zero_le _, Nat.zero_le _⟩ hK hE hA hP hD hS ⟨⟨rfl, by decide⟩, ⟨rfl, by decide, by decide⟩, rfl, by decide⟩ rfl hl.1 rfl (Nat.le_of_ble_eq_true rfl) dX8_as_14 (fun H locs hP hD hS => ?_)
    have hP : va_P D vwCl [(om, .inr (8, [.ref (mw), .int (nI (ud)), .ref (mt), .int (nI (td)), .int (nI (fy)), .int (nI (su)), .ref (mm), .ref (ml), .ref (mi), .ref (mh), .int (nI (cu)), .int (nI (sa)), .int (nI (nb)), .ref (mr), .int (nI (tn))])), (mw, .inl (cA 0, 1595, arN Z))] _ := hP
    have hD : va_D A [(om, .inr (8, [.ref (mw), .int (nI (ud)), .ref (mt), .int (nI (td)), .int (nI (fy)), .int (nI (su)), .ref (mm), .ref (ml), .ref (mi), .ref (mh), .int (nI (cu)), .int (nI (sa)), .int (nI (nb)), .ref (mr), .int (nI (tn))])), (mw, .inl (cA 0, 1595, arN Z))] := hD
    refine lv_if_ne (tgt := 23) hx hb dX8_as_17 (by decide) (fun c3 => ?_) (fun c3 => ?_)
    · skip
      rw [bI_nz] at c3
      obtain ⟨d, e_d, a_d, l_d⟩ := inI_t (by decide) c3 (by decide)
      rw [e_d] at hl
      refine lv_aload_n hx hb dX8_as_23 rfl (lv_at hl 0 rfl) ?_
      refine va_get (v := .ref (mw)) (Ts := wsX80) (C := RX8) (T := TX8) (N := 15) hx hb hwsX80 (fun _ h => h) hown hK hP 0 rfl rfl 0 (by decide) (hts (.fieldLink RX8 7 "AdventStreetsModel" "w" "[I") (List.mem_of_getElem? (i := 3) rfl)) (fun _ h9 => h9) rfl dX8_as_24 ?_
      refine lv_iconst (v := nI (5)) hx hb dX8_as_27 (by decide) ?_
      refine lv_iload_n hx hb dX8_as_28 rfl (lv_at hl 1 rfl) ?_
      refine lv_iadd hx hb dX8_as_29 ?_
      refine vn_i (v := nI (5 + k)) (nI_add _ _) ?_
      refine r_ald (f := Z) hx hb hK hP 1 rfl (i := 5 + k) (by omega) (Nat.lt_of_lt_of_le (by omega : 1595 < 1073741824) (by decide)) dX8_as_30 ?_
      refine lv_iload_n hx hb dX8_as_31 rfl (lv_at hl 2 rfl) ?_
      refine cSi (n := 2) (As := [.int (nI (Z (5 + k))), .int (nI (d))]) (rest := []) (X := [(om, .inr (8, [.ref (mw), .int (nI (ud)), .ref (mt), .int (nI (td)), .int (nI (fy)), .int (nI (su)), .ref (mm), .ref (ml), .ref (mi), .ref (mh), .int (nI (cu)), .int (nI (sa)), .int (nI (nb)), .ref (mr), .int (nI (tn))])), (mw, .inl (cA 0, 1595, arN Z))]) (pl := []) (wc := ([] : va_W)) (wr := [(om, .inr (8, [.ref (mw), .int (nI (ud)), .ref (mt), .int (nI (td)), .int (nI (fy)), .int (nI (su)), .ref (mm), .ref (ml), .ref (mi), .ref (mh), .int (nI (cu)), .int (nI (sa)), .int (nI (nb)), .ref (mr), .int (nI (tn))])), (mw, .inl (cA 0, 1595, arN Z))]) (w1 := ([] : va_W)) (wn := [(om, .inr (8, [.ref (mw), .int (nI (ud)), .ref (mt), .int (nI (td)), .int (nI (fy)), .int (nI (su)), .ref (mm), .ref (ml), .ref (mi), .ref (mh), .int (nI (cu)), .int (nI (sa)), .int (nI (nb)), .ref (mr), .int (nI (tn))])), (mw, .inl (cA 0, 1595, arN Z))]) (isC := []) (isR := [0, 1]) (isN := [0, 1]) ⟨hx, hb, hml, hown, hts⟩ (c_X8_isA l D cA tt (Z (5 + k)) d (hkk k (by omega)) (by omega) _) gX8_as_X8_isA rfl (by decide +kernel) ⟨rfl, rfl⟩ ⟨Nat.le_of_ble_eq_true rfl, Nat.le_of_ble_eq_true rfl⟩ ⟨Nat.zero_le _, Nat.zero_le _⟩ hK hE hA hP hD hS ⟨⟨rfl, by decide⟩, ⟨rfl, by decide, by decide⟩, rfl, by decide⟩ rfl hl.1 rfl (Nat.le_of_ble_eq_true rfl) dX8_as_32 (fun H locs hP hD hS => ?_)
      have hP : va_P D vwCl [(om, .inr (8, [.ref (mw), .int (nI (ud)), .ref (mt), .int (nI (td)), .int (nI (fy)), .int (nI (su)), .ref (mm), .ref (ml), .ref (mi), .ref (mh), .int (nI (cu)), .int (nI (sa)), .int (nI (nb)), .ref (mr), .int (nI (tn))])), (mw, .inl (cA 0, 1595, arN Z))] _ := hP
      have hD : va_D A [(om, .inr (8, [.ref (mw), .int (nI (ud)), .ref (mt), .int (nI (td)), .int (nI (fy)), .int (nI (su)), .ref (mm), .ref (ml), .ref (mi), .ref (mh), .int (nI (cu)), .int (nI (sa)), .int (nI (nb)), .ref (mr), .int (nI (tn))])), (mw, .inl (cA 0, 1595, arN Z))] := hD
      refine lv_if_ne (tgt := 44) hx hb dX8_as_35 (by decide) (fun c4 => ?_) (fun c4 => ?_)
      · skip
        rw [bI_nz] at c4
        refine lv_aload_n hx hb dX8_as_44 rfl (lv_at hl 0 rfl) ?_
        refine lv_iconst (v := nI (0)) hx hb dX8_as_45 (by decide) ?_
        refine va_put (v := .int (nI (0))) (ty := .int) (Ts := wsX80) (C := RX8) (T := TX8) (N := 15) hx hb hwsX80 (fun _ h => h) tyX8 tyX8_ok nmX8 hown hK hP hD hS 0 rfl rfl 5 (by decide) (hts (.fieldLink RX8 37 "AdventStreetsModel" "status" "I") (List.mem_of_getElem? (i := 4) rfl)) (fun _ h9 => h9) rfl (tyX8_ok 5 (by decide)) rfl rfl (Nat.le_of_ble_eq_true rfl) dX8_as_46 (fun H locs hP hD hS => ?_)
        have hP : va_P D vwCl [(om, .inr (8, [.ref (mw), .int (nI (ud)), .ref (mt), .int (nI (td)), .int (nI (fy)), .int (nI (0)), .ref (mm), .ref (ml), .ref (mi), .ref (mh), .int (nI (cu)), .int (nI (sa)), .int (nI (nb)), .ref (mr), .int (nI (tn))])), (mw, .inl (cA 0, 1595, arN Z))] _ := hP
        have hD : va_D A [(om, .inr (8, [.ref (mw), .int (nI (ud)), .ref (mt), .int (nI (td)), .int (nI (fy)), .int (nI (0)), .ref (mm), .ref (ml), .ref (mi), .ref (mh), .int (nI (cu)), .int (nI (sa)), .int (nI (nb)), .ref (mr), .int (nI (tn))])), (mw, .inl (cA 0, 1595, arN Z))] := hD
        refine lv_iload_n hx hb dX8_as_49 rfl (lv_at hl 1 rfl) ?_
        have ef5 : ([(om, .inr (8, [.ref (mw), .int (nI (ud)), .ref (mt), .int (nI (td)), .int (nI (fy)), .int (nI (0)), .ref (mm), .ref (ml), .ref (mi), .ref (mh), .int (nI (cu)), .int (nI (sa)), .int (nI (nb)), .ref (mr), .int (nI (tn))])), (mw, .inl (cA 0, 1595, arN Z))] : va_W) = [(om, .inr (8, [.ref (mw), .int (nI (ud)), .ref (mt), .int (nI (td)), .int (nI (fy)), .int (nI ((asI (sg Z 0) pk pd su))), .ref (mm), .ref (ml), .ref (mi), .ref (mh), .int (nI (cu)), .int (nI (sa)), .int (nI (nb)), .ref (mr), .int (nI (tn))])), (mw, .inl (cA 0, 1595, arN Z))] := by
          rw [show asI (sg Z 0) pk pd su = 0 from by unfold asI; rw [if_pos (by simp [c1, c3]), e_k, e_d, nI_clamp (n := k) (by omega), nI_clamp (n := d) (by omega), if_pos (show isA (SK (sg Z 0) k) d = true from by rw [sgK]; exact c4)]]
        have hP : va_P D vwCl [(om, .inr (8, [.ref (mw), .int (nI (ud)), .ref (mt), .int (nI (td)), .int (nI (fy)), .int (nI ((asI (sg Z 0) pk pd su))), .ref (mm), .ref (ml), .ref (mi), .ref (mh), .int (nI (cu)), .int (nI (sa)), .int (nI (nb)), .ref (mr), .int (nI (tn))])), (mw, .inl (cA 0, 1595, arN Z))] _ := Eq.mp (congrArg (fun z9 => va_P D vwCl z9 _) ef5) hP
        have hD : va_D A [(om, .inr (8, [.ref (mw), .int (nI (ud)), .ref (mt), .int (nI (td)), .int (nI (fy)), .int (nI ((asI (sg Z 0) pk pd su))), .ref (mm), .ref (ml), .ref (mi), .ref (mh), .int (nI (cu)), .int (nI (sa)), .int (nI (nb)), .ref (mr), .int (nI (tn))])), (mw, .inl (cA 0, 1595, arN Z))] := Eq.mp (congrArg (fun z9 => va_D A z9) ef5) hD
        exact hend _ _ _ _ _ hP hD hS (by unfold asR; rw [if_pos (by simp [c1, c3]), e_k, e_d, nI_clamp (n := k) (by omega), nI_clamp (n := d) (by omega), if_pos (show isA (SK (sg Z 0) k) d = true from by rw [sgK]; exact c4)]) dX8_as_50
      · skip
        rw [bI_z] at c4
        refine lv_aload_n hx hb dX8_as_38 rfl (lv_at hl 0 rfl) ?_
        refine lv_iconst (v := nI (3)) hx hb dX8_as_39 (by decide) ?_
        refine cVi (n := 1) (As := [.int (nI (3))]) (rest := []) (C := RX8) (ci := 8) (q0 := 0) (X := [(om, .inr (8, [.ref (mw), .int (nI (ud)), .ref (mt), .int (nI (td)), .int (nI (fy)), .int (nI (su)), .ref (mm), .ref (ml), .ref (mi), .ref (mh), .int (nI (cu)), .int (nI (sa)), .int (nI (nb)), .ref (mr), .int (nI (tn))])), (mw, .inl (cA 0, 1595, arN Z))]) (pl := []) (wc := [(om, .inr (8, [.ref (mw), .int (nI (ud)), .ref (mt), .int (nI (td)), .int (nI (fy)), .int (nI (su)), .ref (mm), .ref (ml), .ref (mi), .ref (mh), .int (nI (cu)), .int (nI (sa)), .int (nI (nb)), .ref (mr), .int (nI (tn))]))]) (wr := [(mw, .inl (cA 0, 1595, arN Z))]) (w1 := [(om, .inr (8, [.ref (mw), .int (nI (ud)), .ref (mt), .int (nI (td)), .int (nI (fy)), .int (nI (3)), .ref (mm), .ref (ml), .ref (mi), .ref (mh), .int (nI (cu)), .int (nI (sa)), .int (nI (nb)), .ref (mr), .int (nI (tn))]))]) (wn := [(om, .inr (8, [.ref (mw), .int (nI (ud)), .ref (mt), .int (nI (td)), .int (nI (fy)), .int (nI (3)), .ref (mm), .ref (ml), .ref (mi), .ref (mh), .int (nI (cu)), .int (nI (sa)), .int (nI (nb)), .ref (mr), .int (nI (tn))])), (mw, .inl (cA 0, 1595, arN Z))]) (isC := [0]) (isR := [1]) (isN := [1, 0]) ⟨hx, hb, hml, hown, hts⟩ (c_X8_finds l D cA tt om mw mt mm ml mi mh mr ud td fy su cu sa nb tn 3  _) gX8_as_X8_finds rfl (by decide +kernel) rfl rfl ⟨rfl, rfl⟩ ⟨Nat.le_of_ble_eq_true rfl, Nat.le_of_ble_eq_true rfl⟩ ⟨Nat.zero_le _, Nat.zero_le _⟩ hK hE hA hP hD hS ⟨⟨rfl, by decide⟩, ⟨rfl, by decide, by decide⟩, rfl, by decide⟩ rfl hl.1 rfl (Nat.le_of_ble_eq_true rfl) dX8_as_40 (fun H locs hP hD hS => ?_)
        have hP : va_P D vwCl [(om, .inr (8, [.ref (mw), .int (nI (ud)), .ref (mt), .int (nI (td)), .int (nI (fy)), .int (nI (3)), .ref (mm), .ref (ml), .ref (mi), .ref (mh), .int (nI (cu)), .int (nI (sa)), .int (nI (nb)), .ref (mr), .int (nI (tn))])), (mw, .inl (cA 0, 1595, arN Z))] _ := hP
        have hD : va_D A [(om, .inr (8, [.ref (mw), .int (nI (ud)), .ref (mt), .int (nI (td)), .int (nI (fy)), .int (nI (3)), .ref (mm), .ref (ml), .ref (mi), .ref (mh), .int (nI (cu)), .int (nI (sa)), .int (nI (nb)), .ref (mr), .int (nI (tn))])), (mw, .inl (cA 0, 1595, arN Z))] := hD
        have ef6 : ([(om, .inr (8, [.ref (mw), .int (nI (ud)), .ref (mt), .int (nI (td)), .int (nI (fy)), .int (nI (3)), .ref (mm), .ref (ml), .ref (mi), .ref (mh), .int (nI (cu)), .int (nI (sa)), .int (nI (nb)), .ref (mr), .int (nI (tn))])), (mw, .inl (cA 0, 1595, arN Z))] : va_W) = [(om, .inr (8, [.ref (mw), .int (nI (ud)), .ref (mt), .int (nI (td)), .int (nI (fy)), .int (nI ((asI (sg Z 0) pk pd su))), .ref (mm), .ref (ml), .ref (mi), .ref (mh), .int (nI (cu)), .int (nI (sa)), .int (nI (nb)), .ref (mr), .int (nI (tn))])), (mw, .inl (cA 0, 1595, arN Z))] := by
          rw [show asI (sg Z 0) pk pd su = 3 from by unfold asI; rw [if_pos (by simp [c1, c3]), e_k, e_d, nI_clamp (n := k) (by omega), nI_clamp (n := d) (by omega), if_neg (by rw [show isA (SK (sg Z 0) k) d = false from by rw [sgK]; exact c4]; simp)]]
        have hP : va_P D vwCl [(om, .inr (8, [.ref (mw), .int (nI (ud)), .ref (mt), .int (nI (td)), .int (nI (fy)), .int (nI ((asI (sg Z 0) pk pd su))), .ref (mm), .ref (ml), .ref (mi), .ref (mh), .int (nI (cu)), .int (nI (sa)), .int (nI (nb)), .ref (mr), .int (nI (tn))])), (mw, .inl (cA 0, 1595, arN Z))] _ := Eq.mp (congrArg (fun z9 => va_P D vwCl z9 _) ef6) hP
        have hD : va_D A [(om, .inr (8, [.ref (mw), .int (nI (ud)), .ref (mt), .int (nI (td)), .int (nI (fy)), .int (nI ((asI (sg Z 0) pk pd su))), .ref (mm), .ref (ml), .ref (mi), .ref (mh), .int (nI (cu)), .int (nI (sa)), .int (nI (nb)), .ref (mr), .int (nI (tn))])), (mw, .inl (cA 0, 1595, arN Z))] := Eq.mp (congrArg (fun z9 => va_D A z9) ef6) hD
        exact hend _ _ _ _ _ hP hD hS (by unfold asR; rw [if_pos (by simp [c1, c3]), e_k, e_d, nI_clamp (n := k) (by omega), nI_clamp (n := d) (by omega), if_neg (by rw [show isA (SK (sg Z 0) k) d = false from by rw [sgK]; exact c4]; simp)]) dX8_as_43
    · skip
      rw [bI_z] at c3
      refine lv_ldc (v := (-1000001)) hx hb hown (hts (.constant RX8 48 (-1000001)) (List.mem_of_getElem? (i := 2) rfl)) dX8_as_20 ?_
      have ef7 : ([(om, .inr (8, [.ref (mw), .int (nI (ud)), .ref (mt), .int (nI (td)), .int (nI (fy)), .int (nI (su)), .ref (mm), .ref (ml), .ref (mi), .ref (mh), .int (nI (cu)), .int (nI (sa)), .int (nI (nb)), .ref (mr), .int (nI (tn))])), (mw, .inl (cA 0, 1595, arN Z))] : va_W) = [(om, .inr (8, [.ref (mw), .int (nI (ud)), .ref (mt), .int (nI (td)), .int (nI (fy)), .int (nI ((asI (sg Z 0) pk pd su))), .ref (mm), .ref (ml), .ref (mi), .ref (mh), .int (nI (cu)), .int (nI (sa)), .int (nI (nb)), .ref (mr), .int (nI (tn))])), (mw, .inl (cA 0, 1595, arN Z))] := by
        rw [show asI (sg Z 0) pk pd su = su from by unfold asI; rw [if_neg (by simp [c1, c3])]]
      have hP : va_P D vwCl [(om, .inr (8, [.ref (mw), .int (nI (ud)), .ref (mt), .int (nI (td)), .int (nI (fy)), .int (nI ((asI (sg Z 0) pk pd su))), .ref (mm), .ref (ml), .ref (mi), .ref (mh), .int (nI (cu)), .int (nI (sa)), .int (nI (nb)), .ref (mr), .int (nI (tn))])), (mw, .inl (cA 0, 1595, arN Z))] _ := Eq.mp (congrArg (fun z9 => va_P D vwCl z9 _) ef7) hP
      have hD : va_D A [(om, .inr (8, [.ref (mw), .int (nI (ud)), .ref (mt), .int (nI (td)), .int (nI (fy)), .int (nI ((asI (sg Z 0) pk pd su))), .ref (mm), .ref (ml), .ref (mi), .ref (mh), .int (nI (cu)), .int (nI (sa)), .int (nI (nb)), .ref (mr), .int (nI (tn))])), (mw, .inl (cA 0, 1595, arN Z))] := Eq.mp (congrArg (fun z9 => va_D A z9) ef7) hD
      exact hend _ _ _ _ _ hP hD hS (by unfold asR; rw [if_neg (by simp [c1, c3])]) dX8_as_22
set_option maxRecDepth 100000 in
set_option maxHeartbeats 4000000 in
theorem c_X8_guess (l : Launch) (D : va_G) (cA : Nat → ClassId) (tt : Nat → Nat) (om mw mt mm ml mi mh mr ud td fy su cu sa nb tn : Nat) (Z : Nat → Nat) (pk : Int32) (hg : Wf (sg Z 0)) (sz : Nat) : Ci l D cA tt yX8_guess wsX8_guess ({ frames := 2, cells := 0, slots := 0, locals := 46 } : Room) [.ref (om), .int (pk)] sz [(om, .inr (8, [.ref (mw), .int (nI (ud)), .ref (mt), .int (nI (td)), .int (nI (fy)), .int (nI (su)), .ref (mm), .ref (ml), .ref (mi), .ref (mh), .int (nI (cu)), .int (nI (sa)), .int (nI (nb)), .ref (mr), .int (nI (tn))])), (mw, .inl (cA 0, 1595, arN Z))] [(om, .inr (8, [.ref (mw), .int (nI (ud)), .ref (mt), .int (nI (td)), .int (nI (fy)), .int (nI (su)), .ref (mm), .ref (ml), .ref (mi), .ref (mh), .int (nI (cu)), .int (nI (sa)), .int (nI (nb)), .ref (mr), .int (nI (tn))])), (mw, .inl (cA 0, 1595, arN Z))] (guessR (sg Z 0) pk) := by
  obtain ⟨gn, ge, gv, go, ga⟩ := wfZ hg
  have gpic : ∀ k, k < 10 → Z (15 + k) < 10 := fun k hk => (ga k hk).2.1
  refine Ci.mk (cc := cX8_guess) (maxL := 4) (ty := .int) (by decide) rfl rfl (Nat.le_of_ble_eq_true rfl) ?_
  intro p e s m below meth c A Q ls hB hl hend
  obtain ⟨⟨hx, hb, hml, hown, hts⟩, hP, hK, hD, hS, hA, hE⟩ := hB
  have hown : s.vm.findClass RX8 = some m.cls := hown
  have hwsX80 : ∀ w9 ∈ wsX80, w9.before ([.ref (om), .int (pk)] : List Value).toArray s = true := fun w9 h => hts w9 (List.mem_cons_of_mem _ (List.mem_append_right _ h))
  have hl : lv_has ls 4 [(0, .ref (om)), (1, .int (pk))] := hl
  refine lv_aload_n hx hb dX8_guess_0 rfl (lv_at hl 0 rfl) ?_
  refine lv_iload_n hx hb dX8_guess_1 rfl (lv_at hl 1 rfl) ?_
  refine cVi (n := 1) (As := [.int (pk)]) (rest := []) (C := RX8) (ci := 8) (q0 := 0) (X := [(om, .inr (8, [.ref (mw), .int (nI (ud)), .ref (mt), .int (nI (td)), .int (nI (fy)), .int (nI (su)), .ref (mm), .ref (ml), .ref (mi), .ref (mh), .int (nI (cu)), .int (nI (sa)), .int (nI (nb)), .ref (mr), .int (nI (tn))])), (mw, .inl (cA 0, 1595, arN Z))]) (pl := []) (wc := [(om, .inr (8, [.ref (mw), .int (nI (ud)), .ref (mt), .int (nI (td)), .int (nI (fy)), .int (nI (su)), .ref (mm), .ref (ml), .ref (mi), .ref (mh), .int (nI (cu)), .int (nI (sa)), .int (nI (nb)), .ref (mr), .int (nI (tn))])), (mw, .inl (cA 0, 1595, arN Z))]) (wr := ([] : va_W)) (w1 := [(om, .inr (8, [.ref (mw), .int (nI (ud)), .ref (mt), .int (nI (td)), .int (nI (fy)), .int (nI (su)), .ref (mm), .ref (ml), .ref (mi), .ref (mh), .int (nI (cu)), .int (nI (sa)), .int (nI (nb)), .ref (mr), .int (nI (tn))])), (mw, .inl (cA 0, 1595, arN Z))]) (wn := [(om, .inr (8, [.ref (mw), .int (nI (ud)), .ref (mt), .int (nI (td)), .int (nI (fy)), .int (nI (su)), .ref (mm), .ref (ml), .ref (mi), .ref (mh), .int (nI (cu)), .int (nI (sa)), .int (nI (nb)), .ref (mr), .int (nI (tn))])), (mw, .inl (cA 0, 1595, arN Z))]) (isC := [0, 1]) (isR := []) (isN := [0, 1]) ⟨hx, hb, hml, hown, hts⟩ (c_X8_isWindow l D cA tt om mw mt mm ml mi mh mr ud td fy su cu sa nb tn Z pk (hg) _) gX8_guess_X8_isWindow rfl (by decide +kernel) rfl rfl ⟨rfl, rfl⟩ ⟨Nat.le_of_ble_eq_true rfl, Nat.le_of_ble_eq_true rfl⟩ ⟨Nat.zero_le _, Nat.zero_le _⟩ hK hE hA hP hD hS ⟨⟨rfl, by decide⟩, ⟨rfl, by decide, by decide⟩, rfl, by decide⟩ rfl hl.1 rfl (Nat.le_of_ble_eq_true rfl) dX8_guess_2 (fun H locs hP hD hS => ?_)
  have hP : va_P D vwCl [(om, .inr (8, [.ref (mw), .int (nI (ud)), .ref (mt), .int (nI (td)), .int (nI (fy)), .int (nI (su)), .ref (mm), .ref (ml), .ref (mi), .ref (mh), .int (nI (cu)), .int (nI (sa)), .int (nI (nb)), .ref (mr), .int (nI (tn))])), (mw, .inl (cA 0, 1595, arN Z))] _ := hP
  have hD : va_D A [(om, .inr (8, [.ref (mw), .int (nI (ud)), .ref (mt), .int (nI (td)), .int (nI (fy)), .int (nI (su)), .ref (mm), .ref (ml), .ref (mi), .ref (mh), .int (nI (cu)), .int (nI (sa)), .int (nI (nb)), .ref (mr), .int (nI (tn))])), (mw, .inl (cA 0, 1595, arN Z))] := hD
  refine lv_if_ne (tgt := 11) hx hb dX8_guess_5 (by decide) (fun c1 => ?_) (fun c1 => ?_)
  · skip
    rw [bI_nz] at c1
    obtain ⟨k, e_k, l_k⟩ := inW_t (by omega) c1
    rw [e_k] at hl
    refine lv_iconst (v := nI (0)) hx hb dX8_guess_11 (by decide) ?_
    refine lv_istore_n (lv' := [(2, .int (nI (0))), (0, .ref (om)), (1, .int (nI (k)))]) hx hb dX8_guess_12 rfl hl (by decide) rfl (fun ls hl => ?_)
    refine lv_iconst (v := nI (0)) hx hb dX8_guess_13 (by decide) ?_
    refine lv_istore_n (lv' := [(3, .int (nI (0))), (2, .int (nI (0))), (0, .ref (om)), (1, .int (nI (k)))]) hx hb dX8_guess_14 rfl hl (by decide) rfl (fun ls hl => ?_)
    have loop15 : ∀ (N15 : Nat) (i : Nat), (i ≤ Z 0) → (Z 0 - i) < N15 → ∀ (H : Heap) (locs : List Loc) (ls : Array Slot), va_P D vwCl [(om, .inr (8, [.ref (mw), .int (nI (ud)), .ref (mt), .int (nI (td)), .int (nI (fy)), .int (nI (su)), .ref (mm), .ref (ml), .ref (mi), .ref (mh), .int (nI (cu)), .int (nI (sa)), .int (nI (nb)), .ref (mr), .int (nI (tn))])), (mw, .inl (cA 0, 1595, arN Z))] H → va_D A [(om, .inr (8, [.ref (mw), .int (nI (ud)), .ref (mt), .int (nI (td)), .int (nI (fy)), .int (nI (su)), .ref (mm), .ref (ml), .ref (mi), .ref (mh), .int (nI (cu)), .int (nI (sa)), .int (nI (nb)), .ref (mr), .int (nI (tn))])), (mw, .inl (cA 0, 1595, arN Z))] → va_S A s.heap H locs → lv_has ls 4 [(3, .int (nI (i))), (2, .int (nI (orN i (fun j => 2 ^ Z (15 + j))))), (0, .ref (om)), (1, .int (nI (k)))] → W p l e ({ frames := 2, cells := 0, slots := 0, locals := 46 } : Room) s m ([.ref (om), .int (pk)] : List Value).toArray below meth c H locs 0 0 Q (F0 m 15 ls []) := by
      intro N15
      induction N15 with
      | zero => intro i iv15_0 hN; exact absurd hN (Nat.not_lt_zero _)
      | succ N15 ih15 =>
        intro i iv15_0 hN15 H locs ls hP hD hS hl
        refine lv_iload_n hx hb dX8_guess_15 rfl (lv_at hl 0 rfl) ?_
        refine lv_aload_n hx hb dX8_guess_16 rfl (lv_at hl 2 rfl) ?_
        refine va_get (v := .ref (mw)) (Ts := wsX80) (C := RX8) (T := TX8) (N := 15) hx hb hwsX80 (fun _ h => h) hown hK hP 0 rfl rfl 0 (by decide) (hts (.fieldLink RX8 7 "AdventStreetsModel" "w" "[I") (List.mem_of_getElem? (i := 2) rfl)) (fun _ h9 => h9) rfl dX8_guess_17 ?_
        refine lv_iconst (v := nI (0)) hx hb dX8_guess_20 (by decide) ?_
        refine r_ald (f := Z) hx hb hK hP 1 rfl (i := 0) (by omega) (Nat.lt_of_lt_of_le (by omega : 1595 < 1073741824) (by decide)) dX8_guess_21 ?_
        refine lv_icmp_ge (tgt := 45) hx hb dX8_guess_22 (by decide) (fun c3 => ?_) (fun c3 => ?_)
        · skip
          rw [nI_leI (by omega) (by omega)] at c3
          refine lv_iload_n hx hb dX8_guess_45 rfl (lv_at hl 1 rfl) ?_
          refine lv_aload_n hx hb dX8_guess_46 rfl (lv_at hl 2 rfl) ?_
          refine va_get (v := .ref (mw)) (Ts := wsX80) (C := RX8) (T := TX8) (N := 15) hx hb hwsX80 (fun _ h => h) hown hK hP 0 rfl rfl 0 (by decide) (hts (.fieldLink RX8 7 "AdventStreetsModel" "w" "[I") (List.mem_of_getElem? (i := 2) rfl)) (fun _ h9 => h9) rfl dX8_guess_47 ?_
          refine lv_bipush (v := nI (45)) hx hb dX8_guess_50 (by decide) ?_
          refine lv_iload_n hx hb dX8_guess_52 rfl (lv_at hl 3 rfl) ?_
          refine lv_iadd hx hb dX8_guess_53 ?_
          refine vn_i (v := nI (45 + k)) (nI_add _ _) ?_
          refine r_ald (f := Z) hx hb hK hP 1 rfl (i := 45 + k) (by omega) (Nat.lt_of_lt_of_le (by omega : 1595 < 1073741824) (by decide)) dX8_guess_54 ?_
          refine lv_iconst (v := (-1)) hx hb dX8_guess_55 (by decide) ?_
          refine lv_ixor hx hb dX8_guess_56 ?_
          refine lv_iand hx hb dX8_guess_57 ?_
          refine vn_i (v := nI (andn (orN i (fun j => 2 ^ Z (15 + j))) (Z (45 + k)))) (n_andn) ?_
          exact hend _ _ _ _ _ hP hD hS (by unfold guessR; rw [if_pos c1, e_k, nI_clamp (n := k) (by omega), ← gs_eq, show SS (sg Z 0) k = Z (45 + k) from by rw [show SS (sg Z 0) k = Z (0 + 45 + k) from rfl, Nat.zero_add], show i = Z 0 by omega]) dX8_guess_58
        · skip
          rw [nI_leI (by omega) (by omega)] at c3
          have gpj := gpic i (by omega)
          refine lv_iload_n hx hb dX8_guess_25 rfl (lv_at hl 1 rfl) ?_
          refine lv_iconst (v := nI (1)) hx hb dX8_guess_26 (by decide) ?_
          refine lv_aload_n hx hb dX8_guess_27 rfl (lv_at hl 2 rfl) ?_
          refine va_get (v := .ref (mw)) (Ts := wsX80) (C := RX8) (T := TX8) (N := 15) hx hb hwsX80 (fun _ h => h) hown hK hP 0 rfl rfl 0 (by decide) (hts (.fieldLink RX8 7 "AdventStreetsModel" "w" "[I") (List.mem_of_getElem? (i := 2) rfl)) (fun _ h9 => h9) rfl dX8_guess_28 ?_
          refine lv_bipush (v := nI (15)) hx hb dX8_guess_31 (by decide) ?_
          refine lv_iload_n hx hb dX8_guess_33 rfl (lv_at hl 0 rfl) ?_
          refine lv_iadd hx hb dX8_guess_34 ?_
          refine vn_i (v := nI (15 + i)) (nI_add _ _) ?_
          refine r_ald (f := Z) hx hb hK hP 1 rfl (i := 15 + i) (by omega) (Nat.lt_of_lt_of_le (by omega : 1595 < 1073741824) (by decide)) dX8_guess_35 ?_
          refine lv_ishl hx hb dX8_guess_36 ?_
          refine vn_i (v := nI (2 ^ (Z (15 + i)))) (n_shl1 (by omega)) ?_
          refine lv_ior hx hb dX8_guess_37 ?_
          refine vn_i (v := nI ((orN i (fun j => 2 ^ Z (15 + j))) ||| (2 ^ (Z (15 + i))))) (n_or _ _) ?_
          refine lv_istore_n (lv' := [(2, .int (nI ((orN i (fun j => 2 ^ Z (15 + j))) ||| (2 ^ (Z (15 + i)))))), (3, .int (nI (i))), (0, .ref (om)), (1, .int (nI (k)))]) hx hb dX8_guess_38 rfl hl (by decide) rfl (fun ls hl => ?_)
          refine lv_iinc (v := nI (i + 1)) (lv' := [(3, .int (nI (i + 1))), (2, .int (nI ((orN i (fun j => 2 ^ Z (15 + j))) ||| (2 ^ (Z (15 + i)))))), (0, .ref (om)), (1, .int (nI (k)))]) hx hb dX8_guess_39 hl (k := 1) rfl (nI_add _ _) (by decide) rfl (fun ls hl => ?_)
          refine lv_goto (tgt := 15) hx hb dX8_guess_42 (by decide) ?_
          have hl9 := lv_sub (l' := [(3, .int (nI (i + 1))), (2, .int (nI ((orN i (fun j => 2 ^ Z (15 + j))) ||| (2 ^ (Z (15 + i)))))), (0, .ref (om)), (1, .int (nI (k)))]) hl [0, 1, 2, 3] rfl
          have el4 : (.int (nI ((orN i (fun j => 2 ^ Z (15 + j))) ||| (2 ^ (Z (15 + i))))) : Value) = .int (nI (orN (i + 1) (fun j => 2 ^ Z (15 + j)))) := by
            rfl
          have hl9 : lv_has ls 4 [(3, .int (nI (i + 1))), (2, .int (nI (orN (i + 1) (fun j => 2 ^ Z (15 + j))))), (0, .ref (om)), (1, .int (nI (k)))] := Eq.mp (congrArg (fun z9 => lv_has ls 4 [(3, .int (nI (i + 1))), (2, z9), (0, .ref (om)), (1, .int (nI (k)))]) el4) hl9
          exact ih15 (i + 1) (by omega) (by omega) _ _ _ hP hD hS hl9
    have hl9 := lv_sub (l' := [(3, .int (nI (0))), (2, .int (nI (0))), (0, .ref (om)), (1, .int (nI (k)))]) hl [0, 1, 2, 3] rfl
    have el5 : (.int (nI (0)) : Value) = .int (nI (orN 0 (fun j => 2 ^ Z (15 + j)))) := by
      rfl
    have hl9 : lv_has ls 4 [(3, .int (nI (0))), (2, .int (nI (orN 0 (fun j => 2 ^ Z (15 + j))))), (0, .ref (om)), (1, .int (nI (k)))] := Eq.mp (congrArg (fun z9 => lv_has ls 4 [(3, .int (nI (0))), (2, z9), (0, .ref (om)), (1, .int (nI (k)))]) el5) hl9
    exact loop15 _ 0 (by omega) (Nat.lt_succ_self _) _ _ _ hP hD hS hl9
  · skip
    rw [bI_z] at c1
    refine lv_ldc (v := (-1000001)) hx hb hown (hts (.constant RX8 48 (-1000001)) (List.mem_of_getElem? (i := 1) rfl)) dX8_guess_8 ?_
    exact hend _ _ _ _ _ hP hD hS (by unfold guessR; rw [if_neg (by simp [c1])]) dX8_guess_10
set_option maxRecDepth 100000 in
set_option maxHeartbeats 4000000 in
theorem c_X8_alike (l : Launch) (D : va_G) (cA : Nat → ClassId) (tt : Nat → Nat) (om mw mt mm ml mi mh mr ud td fy su cu sa nb tn : Nat) (Z : Nat → Nat) (ph : Int32) (hg : Wf (sg Z 0)) (sz : Nat) : Ci l D cA tt yX8_alike wsX8_alike ({ frames := 1, cells := 0, slots := 0, locals := 25 } : Room) [.ref (om), .int (ph)] sz [(om, .inr (8, [.ref (mw), .int (nI (ud)), .ref (mt), .int (nI (td)), .int (nI (fy)), .int (nI (su)), .ref (mm), .ref (ml), .ref (mi), .ref (mh), .int (nI (cu)), .int (nI (sa)), .int (nI (nb)), .ref (mr), .int (nI (tn))])), (mw, .inl (cA 0, 1595, arN Z))] [(om, .inr (8, [.ref (mw), .int (nI (ud)), .ref (mt), .int (nI (td)), .int (nI (fy)), .int (nI (su)), .ref (mm), .ref (ml), .ref (mi), .ref (mh), .int (nI (cu)), .int (nI (sa)), .int (nI (nb)), .ref (mr), .int (nI (tn))])), (mw, .inl (cA 0, 1595, arN Z))] (alikeR (sg Z 0) ph) := by
  obtain ⟨gn, ge, gv, go, ga⟩ := wfZ hg
  refine Ci.mk (cc := cX8_alike) (maxL := 6) (ty := .int) (by decide) rfl rfl (Nat.le_of_ble_eq_true rfl) ?_
  intro p e s m below meth c A Q ls hB hl hend
  obtain ⟨⟨hx, hb, hml, hown, hts⟩, hP, hK, hD, hS, hA, hE⟩ := hB
  have hown : s.vm.findClass RX8 = some m.cls := hown
  have hwsX80 : ∀ w9 ∈ wsX80, w9.before ([.ref (om), .int (ph)] : List Value).toArray s = true := fun w9 h => hts w9 (List.mem_cons_of_mem _ (List.mem_append_right _ h))
  have hl : lv_has ls 6 [(0, .ref (om)), (1, .int (ph))] := hl
  refine lv_aload_n hx hb dX8_alike_0 rfl (lv_at hl 0 rfl) ?_
  refine cVi (n := 0) (As := []) (rest := []) (C := RX8) (ci := 8) (q0 := 0) (X := [(om, .inr (8, [.ref (mw), .int (nI (ud)), .ref (mt), .int (nI (td)), .int (nI (fy)), .int (nI (su)), .ref (mm), .ref (ml), .ref (mi), .ref (mh), .int (nI (cu)), .int (nI (sa)), .int (nI (nb)), .ref (mr), .int (nI (tn))])), (mw, .inl (cA 0, 1595, arN Z))]) (pl := []) (wc := [(om, .inr (8, [.ref (mw), .int (nI (ud)), .ref (mt), .int (nI (td)), .int (nI (fy)), .int (nI (su)), .ref (mm), .ref (ml), .ref (mi), .ref (mh), .int (nI (cu)), .int (nI (sa)), .int (nI (nb)), .ref (mr), .int (nI (tn))])), (mw, .inl (cA 0, 1595, arN Z))]) (wr := ([] : va_W)) (w1 := [(om, .inr (8, [.ref (mw), .int (nI (ud)), .ref (mt), .int (nI (td)), .int (nI (fy)), .int (nI (su)), .ref (mm), .ref (ml), .ref (mi), .ref (mh), .int (nI (cu)), .int (nI (sa)), .int (nI (nb)), .ref (mr), .int (nI (tn))])), (mw, .inl (cA 0, 1595, arN Z))]) (wn := [(om, .inr (8, [.ref (mw), .int (nI (ud)), .ref (mt), .int (nI (td)), .int (nI (fy)), .int (nI (su)), .ref (mm), .ref (ml), .ref (mi), .ref (mh), .int (nI (cu)), .int (nI (sa)), .int (nI (nb)), .ref (mr), .int (nI (tn))])), (mw, .inl (cA 0, 1595, arN Z))]) (isC := [0, 1]) (isR := []) (isN := [0, 1]) ⟨hx, hb, hml, hown, hts⟩ (c_X8_isStreet l D cA tt om mw mt mm ml mi mh mr ud td fy su cu sa nb tn Z (hg) _) gX8_alike_X8_isStreet rfl (by decide +kernel) rfl rfl ⟨rfl, rfl⟩ ⟨Nat.le_of_ble_eq_true rfl, Nat.le_of_ble_eq_true rfl⟩ ⟨Nat.zero_le _, Nat.zero_le _⟩ hK hE hA hP hD hS ⟨⟨rfl, by decide⟩, ⟨rfl, by decide, by decide⟩, rfl, by decide⟩ rfl hl.1 rfl (Nat.le_of_ble_eq_true rfl) dX8_alike_1 (fun H locs hP hD hS => ?_)
  have hP : va_P D vwCl [(om, .inr (8, [.ref (mw), .int (nI (ud)), .ref (mt), .int (nI (td)), .int (nI (fy)), .int (nI (su)), .ref (mm), .ref (ml), .ref (mi), .ref (mh), .int (nI (cu)), .int (nI (sa)), .int (nI (nb)), .ref (mr), .int (nI (tn))])), (mw, .inl (cA 0, 1595, arN Z))] _ := hP
  have hD : va_D A [(om, .inr (8, [.ref (mw), .int (nI (ud)), .ref (mt), .int (nI (td)), .int (nI (fy)), .int (nI (su)), .ref (mm), .ref (ml), .ref (mi), .ref (mh), .int (nI (cu)), .int (nI (sa)), .int (nI (nb)), .ref (mr), .int (nI (tn))])), (mw, .inl (cA 0, 1595, arN Z))] := hD
  refine lv_if_ne (tgt := 10) hx hb dX8_alike_4 (by decide) (fun c1 => ?_) (fun c1 => ?_)
  · skip
    rw [bI_nz] at c1
    refine lv_iload_n hx hb dX8_alike_10 rfl (lv_at hl 1 rfl) ?_
    refine lv_i2l (v := (ph).toInt64) hx hb dX8_alike_11 (rfl) ?_
    refine lv_lconst (v := lN 0) hx hb dX8_alike_12 rfl ?_
    refine lv_lconst (v := lN 1) hx hb dX8_alike_13 rfl ?_
    refine cSi (n := 3) (As := [.long ((ph).toInt64), .long (lN (0)), .long (lN (1))]) (rest := []) (X := [(om, .inr (8, [.ref (mw), .int (nI (ud)), .ref (mt), .int (nI (td)), .int (nI (fy)), .int (nI (su)), .ref (mm), .ref (ml), .ref (mi), .ref (mh), .int (nI (cu)), .int (nI (sa)), .int (nI (nb)), .ref (mr), .int (nI (tn))])), (mw, .inl (cA 0, 1595, arN Z))]) (pl := []) (wc := ([] : va_W)) (wr := [(om, .inr (8, [.ref (mw), .int (nI (ud)), .ref (mt), .int (nI (td)), .int (nI (fy)), .int (nI (su)), .ref (mm), .ref (ml), .ref (mi), .ref (mh), .int (nI (cu)), .int (nI (sa)), .int (nI (nb)), .ref (mr), .int (nI (tn))])), (mw, .inl (cA 0, 1595, arN Z))]) (w1 := ([] : va_W)) (wn := [(om, .inr (8, [.ref (mw), .int (nI (ud)), .ref (mt), .int (nI (td)), .int (nI (fy)), .int (nI (su)), .ref (mm), .ref (ml), .ref (mi), .ref (mh), .int (nI (cu)), .int (nI (sa)), .int (nI (nb)), .ref (mr), .int (nI (tn))])), (mw, .inl (cA 0, 1595, arN Z))]) (isC := []) (isR := [0, 1]) (isN := [0, 1]) ⟨hx, hb, hml, hown, hts⟩ (c_X8_in_I l D cA tt ph 0 1 (by omega) (by omega) _) gX8_alike_X8_in rfl (by decide +kernel) ⟨rfl, rfl⟩ ⟨Nat.le_of_ble_eq_true rfl, Nat.le_of_ble_eq_true rfl⟩ ⟨Nat.zero_le _, Nat.zero_le _⟩ hK hE hA hP hD hS ⟨⟨rfl, by decide⟩, ⟨rfl, by decide, by decide⟩, rfl, by decide⟩ rfl hl.1 rfl (Nat.le_of_ble_eq_true rfl) dX8_alike_14 (fun H locs hP hD hS => ?_)
    have hP : va_P D vwCl [(om, .inr (8, [.ref (mw), .int (nI (ud)), .ref (mt), .int (nI (td)), .int (nI (fy)), .int (nI (su)), .ref (mm), .ref (ml), .ref (mi), .ref (mh), .int (nI (cu)), .int (nI (sa)), .int (nI (nb)), .ref (mr), .int (nI (tn))])), (mw, .inl (cA 0, 1595, arN Z))] _ := hP
    have hD : va_D A [(om, .inr (8, [.ref (mw), .int (nI (ud)), .ref (mt), .int (nI (td)), .int (nI (fy)), .int (nI (su)), .ref (mm), .ref (ml), .ref (mi), .ref (mh), .int (nI (cu)), .int (nI (sa)), .int (nI (nb)), .ref (mr), .int (nI (tn))])), (mw, .inl (cA 0, 1595, arN Z))] := hD
    refine lv_if_ne (tgt := 23) hx hb dX8_alike_17 (by decide) (fun c2 => ?_) (fun c2 => ?_)
    · skip
      rw [bI_nz] at c2
      obtain ⟨h, e_h, a_h, l_h⟩ := inI_t (by decide) c2 (by decide)
      rw [e_h] at hl
      refine lv_iconst (v := nI (0)) hx hb dX8_alike_23 (by decide) ?_
      refine lv_istore_n (lv' := [(2, .int (nI (0))), (0, .ref (om)), (1, .int (nI (h)))]) hx hb dX8_alike_24 rfl hl (by decide) rfl (fun ls hl => ?_)
      refine lv_ldc (v := (-1000000)) hx hb hown (hts (.constant RX8 168 (-1000000)) (List.mem_of_getElem? (i := 3) rfl)) dX8_alike_25 ?_
      refine lv_istore_n (lv' := [(3, .int ((-1000000))), (2, .int (nI (0))), (0, .ref (om)), (1, .int (nI (h)))]) hx hb dX8_alike_27 rfl hl (by decide) rfl (fun ls hl => ?_)
      refine lv_iconst (v := nI (0)) hx hb dX8_alike_28 (by decide) ?_
      refine lv_istore (lv' := [(4, .int (nI (0))), (3, .int ((-1000000))), (2, .int (nI (0))), (0, .ref (om)), (1, .int (nI (h)))]) hx hb dX8_alike_29 hl (by decide) rfl (fun ls hl => ?_)
      have loop31 : ∀ (N31 : Nat) (i : Nat) (u1 : Nat) (f1 : Int32), (i ≤ Z 0) → (alO (sg Z 0) i = (u1, f1)) → (u1 ≤ i * 10) → (u1 = 0 ↔ f1 = -1000000) → (Z 0 - i) < N31 → ∀ (H : Heap) (locs : List Loc) (ls : Array Slot), va_P D vwCl [(om, .inr (8, [.ref (mw), .int (nI (ud)), .ref (mt), .int (nI (td)), .int (nI (fy)), .int (nI (su)), .ref (mm), .ref (ml), .ref (mi), .ref (mh), .int (nI (cu)), .int (nI (sa)), .int (nI (nb)), .ref (mr), .int (nI (tn))])), (mw, .inl (cA 0, 1595, arN Z))] H → va_D A [(om, .inr (8, [.ref (mw), .int (nI (ud)), .ref (mt), .int (nI (td)), .int (nI (fy)), .int (nI (su)), .ref (mm), .ref (ml), .ref (mi), .ref (mh), .int (nI (cu)), .int (nI (sa)), .int (nI (nb)), .ref (mr), .int (nI (tn))])), (mw, .inl (cA 0, 1595, arN Z))] → va_S A s.heap H locs → lv_has ls 6 [(4, .int (nI (i))), (3, .int (f1)), (2, .int (nI (u1))), (0, .ref (om)), (1, .int (nI (h)))] → W p l e ({ frames := 1, cells := 0, slots := 0, locals := 25 } : Room) s m ([.ref (om), .int (ph)] : List Value).toArray below meth c H locs 0 0 Q (F0 m 31 ls []) := by
        intro N31
        induction N31 with
        | zero => intro i u1 f1 iv31_0 iv31_1 iv31_2 iv31_3 hN; exact absurd hN (Nat.not_lt_zero _)
        | succ N31 ih31 =>
          intro i u1 f1 iv31_0 iv31_1 iv31_2 iv31_3 hN31 H locs ls hP hD hS hl
          refine lv_iload hx hb dX8_alike_31 (lv_at hl 0 rfl) ?_
          refine lv_aload_n hx hb dX8_alike_33 rfl (lv_at hl 3 rfl) ?_
          refine va_get (v := .ref (mw)) (Ts := wsX80) (C := RX8) (T := TX8) (N := 15) hx hb hwsX80 (fun _ h => h) hown hK hP 0 rfl rfl 0 (by decide) (hts (.fieldLink RX8 7 "AdventStreetsModel" "w" "[I") (List.mem_of_getElem? (i := 4) rfl)) (fun _ h9 => h9) rfl dX8_alike_34 ?_
          refine lv_iconst (v := nI (0)) hx hb dX8_alike_37 (by decide) ?_
          refine r_ald (f := Z) hx hb hK hP 1 rfl (i := 0) (by omega) (Nat.lt_of_lt_of_le (by omega : 1595 < 1073741824) (by decide)) dX8_alike_38 ?_
          refine lv_icmp_ge (tgt := 114) hx hb dX8_alike_39 (by decide) (fun c4 => ?_) (fun c4 => ?_)
          · skip
            rw [nI_leI (by omega) (by omega)] at c4
            refine lv_iload_n hx hb dX8_alike_114 rfl (lv_at hl 4 rfl) ?_
            refine lv_if_ne (tgt := 122) hx hb dX8_alike_115 (by decide) (fun c5 => ?_) (fun c5 => ?_)
            · skip
              rw [n_z (by omega)] at c5
              refine lv_iload_n hx hb dX8_alike_122 rfl (lv_at hl 1 rfl) ?_
              exact hend _ _ _ _ _ hP hD hS (by unfold alikeR; rw [if_neg (show ¬ Sn (sg Z 0) = 0 from by show ¬ Z 0 = 0; have := of_decide_eq_true c1; omega), if_pos (by simp [c2]), e_h, if_neg (fun q => c5 ((n_z (a := h) (by omega)).mp q)), show Sn (sg Z 0) = i from by show Z 0 = i; omega, iv31_1]) dX8_alike_123
            · skip
              rw [n_z (by omega)] at c5
              refine lv_iload_n hx hb dX8_alike_118 rfl (lv_at hl 2 rfl) ?_
              refine lv_goto (tgt := 123) hx hb dX8_alike_119 (by decide) ?_
              exact hend _ _ _ _ _ hP hD hS (by unfold alikeR; rw [if_neg (show ¬ Sn (sg Z 0) = 0 from by show ¬ Z 0 = 0; have := of_decide_eq_true c1; omega), if_pos (by simp [c2]), e_h, if_pos ((n_z (a := h) (by omega)).mpr c5), show Sn (sg Z 0) = i from by show Z 0 = i; omega, iv31_1]) dX8_alike_123
          · skip
            rw [nI_leI (by omega) (by omega)] at c4
            refine lv_iload hx hb dX8_alike_42 (lv_at hl 0 rfl) ?_
            refine lv_iconst (v := nI (1)) hx hb dX8_alike_44 (by decide) ?_
            refine lv_iadd hx hb dX8_alike_45 ?_
            refine vn_i (v := nI (i + 1)) (nI_add _ _) ?_
            refine lv_istore (lv' := [(5, .int (nI (i + 1))), (4, .int (nI (i))), (3, .int (f1)), (2, .int (nI (u1))), (0, .ref (om)), (1, .int (nI (h)))]) hx hb dX8_alike_46 hl (by decide) rfl (fun ls hl => ?_)
            have loop48 : ∀ (N48 : Nat) (k : Nat) (u2 : Nat) (f2 : Int32), (i + 1 + k ≤ Z 0) → (alI (sg Z 0) i (u1, f1) k = (u2, f2)) → (u2 ≤ i * 10 + k) → (u2 = 0 ↔ f2 = -1000000) → (Z 0 - (i + 1 + k)) < N48 → ∀ (H : Heap) (locs : List Loc) (ls : Array Slot), va_P D vwCl [(om, .inr (8, [.ref (mw), .int (nI (ud)), .ref (mt), .int (nI (td)), .int (nI (fy)), .int (nI (su)), .ref (mm), .ref (ml), .ref (mi), .ref (mh), .int (nI (cu)), .int (nI (sa)), .int (nI (nb)), .ref (mr), .int (nI (tn))])), (mw, .inl (cA 0, 1595, arN Z))] H → va_D A [(om, .inr (8, [.ref (mw), .int (nI (ud)), .ref (mt), .int (nI (td)), .int (nI (fy)), .int (nI (su)), .ref (mm), .ref (ml), .ref (mi), .ref (mh), .int (nI (cu)), .int (nI (sa)), .int (nI (nb)), .ref (mr), .int (nI (tn))])), (mw, .inl (cA 0, 1595, arN Z))] → va_S A s.heap H locs → lv_has ls 6 [(5, .int (nI (i + 1 + k))), (4, .int (nI (i))), (3, .int (f2)), (2, .int (nI (u2))), (0, .ref (om)), (1, .int (nI (h)))] → W p l e ({ frames := 1, cells := 0, slots := 0, locals := 25 } : Room) s m ([.ref (om), .int (ph)] : List Value).toArray below meth c H locs 0 0 Q (F0 m 48 ls []) := by
              intro N48
              induction N48 with
              | zero => intro k u2 f2 iv48_0 iv48_1 iv48_2 iv48_3 hN; exact absurd hN (Nat.not_lt_zero _)
              | succ N48 ih48 =>
                intro k u2 f2 iv48_0 iv48_1 iv48_2 iv48_3 hN48 H locs ls hP hD hS hl
                refine lv_iload hx hb dX8_alike_48 (lv_at hl 0 rfl) ?_
                refine lv_aload_n hx hb dX8_alike_50 rfl (lv_at hl 4 rfl) ?_
                refine va_get (v := .ref (mw)) (Ts := wsX80) (C := RX8) (T := TX8) (N := 15) hx hb hwsX80 (fun _ h => h) hown hK hP 0 rfl rfl 0 (by decide) (hts (.fieldLink RX8 7 "AdventStreetsModel" "w" "[I") (List.mem_of_getElem? (i := 4) rfl)) (fun _ h9 => h9) rfl dX8_alike_51 ?_
                refine lv_iconst (v := nI (0)) hx hb dX8_alike_54 (by decide) ?_
                refine r_ald (f := Z) hx hb hK hP 1 rfl (i := 0) (by omega) (Nat.lt_of_lt_of_le (by omega : 1595 < 1073741824) (by decide)) dX8_alike_55 ?_
                refine lv_icmp_ge (tgt := 108) hx hb dX8_alike_56 (by decide) (fun c7 => ?_) (fun c7 => ?_)
                · skip
                  rw [nI_leI (by omega) (by omega)] at c7
                  refine lv_iinc (v := nI (i + 1)) (lv' := [(4, .int (nI (i + 1))), (5, .int (nI (i + 1 + k))), (3, .int (f2)), (2, .int (nI (u2))), (0, .ref (om)), (1, .int (nI (h)))]) hx hb dX8_alike_108 hl (k := 1) rfl (nI_add _ _) (by decide) rfl (fun ls hl => ?_)
                  refine lv_goto (tgt := 31) hx hb dX8_alike_111 (by decide) ?_
                  have hl9 := lv_sub (l' := [(4, .int (nI (i + 1))), (3, .int (f2)), (2, .int (nI (u2))), (0, .ref (om)), (1, .int (nI (h)))]) hl [0, 2, 3, 4, 5] rfl
                  exact ih31 (i + 1) u2 f2 (by omega) (by rw [alO, iv31_1, show Sn (sg Z 0) - (i + 1) = k by show Z 0 - (i + 1) = k; omega]; exact iv48_1) (by omega) (iv48_3) (by omega) _ _ _ hP hD hS hl9
                · skip
                  rw [nI_leI (by omega) (by omega)] at c7
                  have gp1 := (ga i (by omega)).2.1
                  have gp2 := (ga (i + 1 + k) (by omega)).2.1
                  refine lv_aload_n hx hb dX8_alike_59 rfl (lv_at hl 4 rfl) ?_
                  refine va_get (v := .ref (mw)) (Ts := wsX80) (C := RX8) (T := TX8) (N := 15) hx hb hwsX80 (fun _ h => h) hown hK hP 0 rfl rfl 0 (by decide) (hts (.fieldLink RX8 7 "AdventStreetsModel" "w" "[I") (List.mem_of_getElem? (i := 4) rfl)) (fun _ h9 => h9) rfl dX8_alike_60 ?_
                  refine lv_bipush (v := nI (15)) hx hb dX8_alike_63 (by decide) ?_
                  refine lv_iload hx hb dX8_alike_65 (lv_at hl 1 rfl) ?_
                  refine lv_iadd hx hb dX8_alike_67 ?_
                  refine vn_i (v := nI (15 + i)) (nI_add _ _) ?_
                  refine r_ald (f := Z) hx hb hK hP 1 rfl (i := 15 + i) (by omega) (Nat.lt_of_lt_of_le (by omega : 1595 < 1073741824) (by decide)) dX8_alike_68 ?_
                  refine lv_aload_n hx hb dX8_alike_69 rfl (lv_at hl 4 rfl) ?_
                  refine va_get (v := .ref (mw)) (Ts := wsX80) (C := RX8) (T := TX8) (N := 15) hx hb hwsX80 (fun _ h => h) hown hK hP 0 rfl rfl 0 (by decide) (hts (.fieldLink RX8 7 "AdventStreetsModel" "w" "[I") (List.mem_of_getElem? (i := 4) rfl)) (fun _ h9 => h9) rfl dX8_alike_70 ?_
                  refine lv_bipush (v := nI (15)) hx hb dX8_alike_73 (by decide) ?_
                  refine lv_iload hx hb dX8_alike_75 (lv_at hl 0 rfl) ?_
                  refine lv_iadd hx hb dX8_alike_77 ?_
                  refine vn_i (v := nI (15 + (i + 1 + k))) (nI_add _ _) ?_
                  refine r_ald (f := Z) hx hb hK hP 1 rfl (i := 15 + (i + 1 + k)) (by omega) (Nat.lt_of_lt_of_le (by omega : 1595 < 1073741824) (by decide)) dX8_alike_78 ?_
                  refine lv_icmp_ne (tgt := 102) hx hb dX8_alike_79 (by decide) (fun c8 => ?_) (fun c8 => ?_)
                  · skip
                    rw [nI_eq (by omega) (by omega)] at c8
                    refine lv_iinc (v := nI (i + 1 + k + 1)) (lv' := [(5, .int (nI (i + 1 + k + 1))), (4, .int (nI (i))), (3, .int (f2)), (2, .int (nI (u2))), (0, .ref (om)), (1, .int (nI (h)))]) hx hb dX8_alike_102 hl (k := 0) rfl (nI_add _ _) (by decide) rfl (fun ls hl => ?_)
                    refine lv_goto (tgt := 48) hx hb dX8_alike_105 (by decide) ?_
                    have hl9 := lv_sub (l' := [(5, .int (nI (i + 1 + k + 1))), (4, .int (nI (i))), (3, .int (f2)), (2, .int (nI (u2))), (0, .ref (om)), (1, .int (nI (h)))]) hl [0, 1, 2, 3, 4, 5] rfl
                    have el9 : (.int (nI (i + 1 + k + 1)) : Value) = .int (nI (i + 1 + (k + 1))) := by
                      rfl
                    have hl9 : lv_has ls 6 [(5, .int (nI (i + 1 + (k + 1)))), (4, .int (nI (i))), (3, .int (f2)), (2, .int (nI (u2))), (0, .ref (om)), (1, .int (nI (h)))] := Eq.mp (congrArg (fun z9 => lv_has ls 6 [(5, z9), (4, .int (nI (i))), (3, .int (f2)), (2, .int (nI (u2))), (0, .ref (om)), (1, .int (nI (h)))]) el9) hl9
                    exact ih48 (k + 1) u2 f2 (by omega) (by rw [alI, iv48_1]; unfold alU; rw [if_neg (show ¬ SP (sg Z 0) i = SP (sg Z 0) (i + 1 + k) from by rw [sgP, sgP]; exact c8)]) (by omega) (iv48_3) (by omega) _ _ _ hP hD hS hl9
                  · skip
                    rw [nI_eq (by omega) (by omega)] at c8
                    refine lv_iload_n hx hb dX8_alike_82 rfl (lv_at hl 3 rfl) ?_
                    refine lv_if_ne (tgt := 97) hx hb dX8_alike_83 (by decide) (fun c10 => ?_) (fun c10 => ?_)
                    · skip
                      rw [n_z (by omega)] at c10
                      refine lv_iload_n hx hb dX8_alike_97 rfl (lv_at hl 2 rfl) ?_
                      refine lv_istore_n (lv' := [(3, .int (f2)), (5, .int (nI (i + 1 + k))), (4, .int (nI (i))), (2, .int (nI (u2))), (0, .ref (om)), (1, .int (nI (h)))]) hx hb dX8_alike_98 rfl hl (by decide) rfl (fun ls hl => ?_)
                      refine lv_iinc (v := nI (u2 + 1)) (lv' := [(2, .int (nI (u2 + 1))), (3, .int (f2)), (5, .int (nI (i + 1 + k))), (4, .int (nI (i))), (0, .ref (om)), (1, .int (nI (h)))]) hx hb dX8_alike_99 hl (k := 3) rfl (nI_add _ _) (by decide) rfl (fun ls hl => ?_)
                      refine lv_iinc (v := nI (i + 1 + k + 1)) (lv' := [(5, .int (nI (i + 1 + k + 1))), (2, .int (nI (u2 + 1))), (3, .int (f2)), (4, .int (nI (i))), (0, .ref (om)), (1, .int (nI (h)))]) hx hb dX8_alike_102 hl (k := 2) rfl (nI_add _ _) (by decide) rfl (fun ls hl => ?_)
                      refine lv_goto (tgt := 48) hx hb dX8_alike_105 (by decide) ?_
                      have hl9 := lv_sub (l' := [(5, .int (nI (i + 1 + k + 1))), (4, .int (nI (i))), (3, .int (f2)), (2, .int (nI (u2 + 1))), (0, .ref (om)), (1, .int (nI (h)))]) hl [0, 3, 2, 1, 4, 5] rfl
                      have el11 : (.int (nI (i + 1 + k + 1)) : Value) = .int (nI (i + 1 + (k + 1))) := by
                        rfl
                      have hl9 : lv_has ls 6 [(5, .int (nI (i + 1 + (k + 1)))), (4, .int (nI (i))), (3, .int (f2)), (2, .int (nI (u2 + 1))), (0, .ref (om)), (1, .int (nI (h)))] := Eq.mp (congrArg (fun z9 => lv_has ls 6 [(5, z9), (4, .int (nI (i))), (3, .int (f2)), (2, .int (nI (u2 + 1))), (0, .ref (om)), (1, .int (nI (h)))]) el11) hl9
                      exact ih48 (k + 1) (u2 + 1) f2 (by omega) (by rw [alI, iv48_1]; unfold alU; rw [if_pos (show SP (sg Z 0) i = SP (sg Z 0) (i + 1 + k) from by rw [sgP, sgP]; exact c8), if_neg (fun h9 => c10 (iv48_3.mpr h9))]) (by omega) (⟨fun h9 => by omega, fun h9 => absurd (iv48_3.mpr h9) c10⟩) (by omega) _ _ _ hP hD hS hl9
                    · skip
                      rw [n_z (by omega)] at c10
                      refine lv_bipush (v := nI (10)) hx hb dX8_alike_86 (by decide) ?_
                      refine lv_iload hx hb dX8_alike_88 (lv_at hl 1 rfl) ?_
                      refine lv_imul hx hb dX8_alike_90 ?_
                      refine vn_i (v := nI (10 * i)) (pk_mul _ _) ?_
                      refine lv_iload hx hb dX8_alike_91 (lv_at hl 0 rfl) ?_
                      refine lv_iadd hx hb dX8_alike_93 ?_
                      refine vn_i (v := nI (10 * i + (i + 1 + k))) (nI_add _ _) ?_
                      refine lv_goto (tgt := 98) hx hb dX8_alike_94 (by decide) ?_
                      refine lv_istore_n (lv' := [(3, .int (nI (10 * i + (i + 1 + k)))), (5, .int (nI (i + 1 + k))), (4, .int (nI (i))), (2, .int (nI (u2))), (0, .ref (om)), (1, .int (nI (h)))]) hx hb dX8_alike_98 rfl hl (by decide) rfl (fun ls hl => ?_)
                      refine lv_iinc (v := nI (u2 + 1)) (lv' := [(2, .int (nI (u2 + 1))), (3, .int (nI (10 * i + (i + 1 + k)))), (5, .int (nI (i + 1 + k))), (4, .int (nI (i))), (0, .ref (om)), (1, .int (nI (h)))]) hx hb dX8_alike_99 hl (k := 3) rfl (nI_add _ _) (by decide) rfl (fun ls hl => ?_)
                      refine lv_iinc (v := nI (i + 1 + k + 1)) (lv' := [(5, .int (nI (i + 1 + k + 1))), (2, .int (nI (u2 + 1))), (3, .int (nI (10 * i + (i + 1 + k)))), (4, .int (nI (i))), (0, .ref (om)), (1, .int (nI (h)))]) hx hb dX8_alike_102 hl (k := 2) rfl (nI_add _ _) (by decide) rfl (fun ls hl => ?_)
                      refine lv_goto (tgt := 48) hx hb dX8_alike_105 (by decide) ?_
                      have hl9 := lv_sub (l' := [(5, .int (nI (i + 1 + k + 1))), (4, .int (nI (i))), (3, .int (nI (10 * i + (i + 1 + k)))), (2, .int (nI (u2 + 1))), (0, .ref (om)), (1, .int (nI (h)))]) hl [0, 3, 2, 1, 4, 5] rfl
                      have el12 : (.int (nI (i + 1 + k + 1)) : Value) = .int (nI (i + 1 + (k + 1))) := by
                        rfl
                      have hl9 : lv_has ls 6 [(5, .int (nI (i + 1 + (k + 1)))), (4, .int (nI (i))), (3, .int (nI (10 * i + (i + 1 + k)))), (2, .int (nI (u2 + 1))), (0, .ref (om)), (1, .int (nI (h)))] := Eq.mp (congrArg (fun z9 => lv_has ls 6 [(5, z9), (4, .int (nI (i))), (3, .int (nI (10 * i + (i + 1 + k)))), (2, .int (nI (u2 + 1))), (0, .ref (om)), (1, .int (nI (h)))]) el12) hl9
                      exact ih48 (k + 1) (u2 + 1) (nI (10 * i + (i + 1 + k))) (by omega) (by rw [alI, iv48_1]; unfold alU; rw [if_pos (show SP (sg Z 0) i = SP (sg Z 0) (i + 1 + k) from by rw [sgP, sgP]; exact c8), if_pos (iv48_3.mp c10)]) (by omega) (⟨fun h9 => by omega, fun h9 => absurd h9 (nI_neM (by omega))⟩) (by omega) _ _ _ hP hD hS hl9
            have hl9 := lv_sub (l' := [(5, .int (nI (i + 1))), (4, .int (nI (i))), (3, .int (f1)), (2, .int (nI (u1))), (0, .ref (om)), (1, .int (nI (h)))]) hl [0, 1, 2, 3, 4, 5] rfl
            have el13 : (.int (nI (i + 1)) : Value) = .int (nI (i + 1 + 0)) := by
              rfl
            have hl9 : lv_has ls 6 [(5, .int (nI (i + 1 + 0))), (4, .int (nI (i))), (3, .int (f1)), (2, .int (nI (u1))), (0, .ref (om)), (1, .int (nI (h)))] := Eq.mp (congrArg (fun z9 => lv_has ls 6 [(5, z9), (4, .int (nI (i))), (3, .int (f1)), (2, .int (nI (u1))), (0, .ref (om)), (1, .int (nI (h)))]) el13) hl9
            exact loop48 _ 0 u1 f1 (by omega) (rfl) (by omega) (iv31_3) (Nat.lt_succ_self _) _ _ _ hP hD hS hl9
      have hl9 := lv_sub (l' := [(4, .int (nI (0))), (3, .int ((-1000000))), (2, .int (nI (0))), (0, .ref (om)), (1, .int (nI (h)))]) hl [0, 1, 2, 3, 4] rfl
      exact loop31 _ 0 0 (-1000000) (Nat.zero_le _) (rfl) (by omega) (⟨fun _ => rfl, fun _ => rfl⟩) (Nat.lt_succ_self _) _ _ _ hP hD hS hl9
    · skip
      rw [bI_z] at c2
      refine lv_ldc (v := (-1000001)) hx hb hown (hts (.constant RX8 48 (-1000001)) (List.mem_of_getElem? (i := 2) rfl)) dX8_alike_20 ?_
      exact hend _ _ _ _ _ hP hD hS (by unfold alikeR; rw [if_neg (show ¬ Sn (sg Z 0) = 0 from by show ¬ Z 0 = 0; have := of_decide_eq_true c1; omega), if_neg (by simp [c2])]) dX8_alike_22
  · skip
    rw [bI_z] at c1
    refine lv_ldc (v := (-1000002)) hx hb hown (hts (.constant RX8 140 (-1000002)) (List.mem_of_getElem? (i := 1) rfl)) dX8_alike_7 ?_
    exact hend _ _ _ _ _ hP hD hS (by unfold alikeR; rw [if_pos (show Sn (sg Z 0) = 0 from by show Z 0 = 0; have := of_decide_eq_false c1; omega)]) dX8_alike_9
set_option maxRecDepth 100000 in
set_option maxHeartbeats 4000000 in
theorem c_X8_image (l : Launch) (D : va_G) (cA : Nat → ClassId) (tt : Nat → Nat) (om mw mt mm ml mi mh mr ud td fy su cu sa nb tn : Nat) (Z : Nat → Nat) (pk : Int32) (hg : Wf (sg Z 0)) (sz : Nat) : Ci l D cA tt yX8_image wsX8_image ({ frames := 1, cells := 0, slots := 0, locals := 25 } : Room) [.ref (om), .int (pk)] sz [(om, .inr (8, [.ref (mw), .int (nI (ud)), .ref (mt), .int (nI (td)), .int (nI (fy)), .int (nI (su)), .ref (mm), .ref (ml), .ref (mi), .ref (mh), .int (nI (cu)), .int (nI (sa)), .int (nI (nb)), .ref (mr), .int (nI (tn))])), (mw, .inl (cA 0, 1595, arN Z))] [(om, .inr (8, [.ref (mw), .int (nI (ud)), .ref (mt), .int (nI (td)), .int (nI (fy)), .int (nI (su)), .ref (mm), .ref (ml), .ref (mi), .ref (mh), .int (nI (cu)), .int (nI (sa)), .int (nI (nb)), .ref (mr), .int (nI (tn))])), (mw, .inl (cA 0, 1595, arN (if (inI pk (nI 0) (nI 1) && !decide (Sn (sg Z 0) = 0)) = true then cpW Z 0 (110 + 55 * pk.toNatClampNeg) else Z)))] (imgR (sg Z 0) pk) := by
  obtain ⟨gn, ge, gv, go, ga⟩ := wfZ hg
  refine Ci.mk (cc := cX8_image) (maxL := 2) (ty := .int) (by decide) rfl rfl (Nat.le_of_ble_eq_true rfl) ?_
  intro p e s m below meth c A Q ls hB hl hend
  obtain ⟨⟨hx, hb, hml, hown, hts⟩, hP, hK, hD, hS, hA, hE⟩ := hB
  have hown : s.vm.findClass RX8 = some m.cls := hown
  have hwsX80 : ∀ w9 ∈ wsX80, w9.before ([.ref (om), .int (pk)] : List Value).toArray s = true := fun w9 h => hts w9 (List.mem_cons_of_mem _ (List.mem_append_right _ h))
  have hl : lv_has ls 2 [(0, .ref (om)), (1, .int (pk))] := hl
  refine lv_iload_n hx hb dX8_image_0 rfl (lv_at hl 1 rfl) ?_
  refine lv_i2l (v := (pk).toInt64) hx hb dX8_image_1 (rfl) ?_
  refine lv_lconst (v := lN 0) hx hb dX8_image_2 rfl ?_
  refine lv_lconst (v := lN 1) hx hb dX8_image_3 rfl ?_
  refine cSi (n := 3) (As := [.long ((pk).toInt64), .long (lN (0)), .long (lN (1))]) (rest := []) (X := [(om, .inr (8, [.ref (mw), .int (nI (ud)), .ref (mt), .int (nI (td)), .int (nI (fy)), .int (nI (su)), .ref (mm), .ref (ml), .ref (mi), .ref (mh), .int (nI (cu)), .int (nI (sa)), .int (nI (nb)), .ref (mr), .int (nI (tn))])), (mw, .inl (cA 0, 1595, arN Z))]) (pl := []) (wc := ([] : va_W)) (wr := [(om, .inr (8, [.ref (mw), .int (nI (ud)), .ref (mt), .int (nI (td)), .int (nI (fy)), .int (nI (su)), .ref (mm), .ref (ml), .ref (mi), .ref (mh), .int (nI (cu)), .int (nI (sa)), .int (nI (nb)), .ref (mr), .int (nI (tn))])), (mw, .inl (cA 0, 1595, arN Z))]) (w1 := ([] : va_W)) (wn := [(om, .inr (8, [.ref (mw), .int (nI (ud)), .ref (mt), .int (nI (td)), .int (nI (fy)), .int (nI (su)), .ref (mm), .ref (ml), .ref (mi), .ref (mh), .int (nI (cu)), .int (nI (sa)), .int (nI (nb)), .ref (mr), .int (nI (tn))])), (mw, .inl (cA 0, 1595, arN Z))]) (isC := []) (isR := [0, 1]) (isN := [0, 1]) ⟨hx, hb, hml, hown, hts⟩ (c_X8_in_I l D cA tt pk 0 1 (by omega) (by omega) _) gX8_image_X8_in rfl (by decide +kernel) ⟨rfl, rfl⟩ ⟨Nat.le_of_ble_eq_true rfl, Nat.le_of_ble_eq_true rfl⟩ ⟨Nat.zero_le _, Nat.zero_le _⟩ hK hE hA hP hD hS ⟨⟨rfl, by decide⟩, ⟨rfl, by decide, by decide⟩, rfl, by decide⟩ rfl hl.1 rfl (Nat.le_of_ble_eq_true rfl) dX8_image_4 (fun H locs hP hD hS => ?_)
  have hP : va_P D vwCl [(om, .inr (8, [.ref (mw), .int (nI (ud)), .ref (mt), .int (nI (td)), .int (nI (fy)), .int (nI (su)), .ref (mm), .ref (ml), .ref (mi), .ref (mh), .int (nI (cu)), .int (nI (sa)), .int (nI (nb)), .ref (mr), .int (nI (tn))])), (mw, .inl (cA 0, 1595, arN Z))] _ := hP
  have hD : va_D A [(om, .inr (8, [.ref (mw), .int (nI (ud)), .ref (mt), .int (nI (td)), .int (nI (fy)), .int (nI (su)), .ref (mm), .ref (ml), .ref (mi), .ref (mh), .int (nI (cu)), .int (nI (sa)), .int (nI (nb)), .ref (mr), .int (nI (tn))])), (mw, .inl (cA 0, 1595, arN Z))] := hD
  refine lv_if_ne (tgt := 13) hx hb dX8_image_7 (by decide) (fun c1 => ?_) (fun c1 => ?_)
  · skip
    rw [bI_nz] at c1
    obtain ⟨k, e_k, a_k, l_k⟩ := inI_t (by decide) c1 (by decide)
    rw [e_k] at hl
    refine lv_aload_n hx hb dX8_image_13 rfl (lv_at hl 0 rfl) ?_
    refine cVi (n := 0) (As := []) (rest := []) (C := RX8) (ci := 8) (q0 := 0) (X := [(om, .inr (8, [.ref (mw), .int (nI (ud)), .ref (mt), .int (nI (td)), .int (nI (fy)), .int (nI (su)), .ref (mm), .ref (ml), .ref (mi), .ref (mh), .int (nI (cu)), .int (nI (sa)), .int (nI (nb)), .ref (mr), .int (nI (tn))])), (mw, .inl (cA 0, 1595, arN Z))]) (pl := []) (wc := [(om, .inr (8, [.ref (mw), .int (nI (ud)), .ref (mt), .int (nI (td)), .int (nI (fy)), .int (nI (su)), .ref (mm), .ref (ml), .ref (mi), .ref (mh), .int (nI (cu)), .int (nI (sa)), .int (nI (nb)), .ref (mr), .int (nI (tn))])), (mw, .inl (cA 0, 1595, arN Z))]) (wr := ([] : va_W)) (w1 := [(om, .inr (8, [.ref (mw), .int (nI (ud)), .ref (mt), .int (nI (td)), .int (nI (fy)), .int (nI (su)), .ref (mm), .ref (ml), .ref (mi), .ref (mh), .int (nI (cu)), .int (nI (sa)), .int (nI (nb)), .ref (mr), .int (nI (tn))])), (mw, .inl (cA 0, 1595, arN Z))]) (wn := [(om, .inr (8, [.ref (mw), .int (nI (ud)), .ref (mt), .int (nI (td)), .int (nI (fy)), .int (nI (su)), .ref (mm), .ref (ml), .ref (mi), .ref (mh), .int (nI (cu)), .int (nI (sa)), .int (nI (nb)), .ref (mr), .int (nI (tn))])), (mw, .inl (cA 0, 1595, arN Z))]) (isC := [0, 1]) (isR := []) (isN := [0, 1]) ⟨hx, hb, hml, hown, hts⟩ (c_X8_isStreet l D cA tt om mw mt mm ml mi mh mr ud td fy su cu sa nb tn Z (hg) _) gX8_image_X8_isStreet rfl (by decide +kernel) rfl rfl ⟨rfl, rfl⟩ ⟨Nat.le_of_ble_eq_true rfl, Nat.le_of_ble_eq_true rfl⟩ ⟨Nat.zero_le _, Nat.zero_le _⟩ hK hE hA hP hD hS ⟨⟨rfl, by decide⟩, ⟨rfl, by decide, by decide⟩, rfl, by decide⟩ rfl hl.1 rfl (Nat.le_of_ble_eq_true rfl) dX8_image_14 (fun H locs hP hD hS => ?_)
    have hP : va_P D vwCl [(om, .inr (8, [.ref (mw), .int (nI (ud)), .ref (mt), .int (nI (td)), .int (nI (fy)), .int (nI (su)), .ref (mm), .ref (ml), .ref (mi), .ref (mh), .int (nI (cu)), .int (nI (sa)), .int (nI (nb)), .ref (mr), .int (nI (tn))])), (mw, .inl (cA 0, 1595, arN Z))] _ := hP
    have hD : va_D A [(om, .inr (8, [.ref (mw), .int (nI (ud)), .ref (mt), .int (nI (td)), .int (nI (fy)), .int (nI (su)), .ref (mm), .ref (ml), .ref (mi), .ref (mh), .int (nI (cu)), .int (nI (sa)), .int (nI (nb)), .ref (mr), .int (nI (tn))])), (mw, .inl (cA 0, 1595, arN Z))] := hD
    refine lv_if_ne (tgt := 23) hx hb dX8_image_17 (by decide) (fun c2 => ?_) (fun c2 => ?_)
    · skip
      rw [bI_nz] at c2
      refine lv_aload_n hx hb dX8_image_23 rfl (lv_at hl 0 rfl) ?_
      refine lv_iconst (v := nI (0)) hx hb dX8_image_24 (by decide) ?_
      refine lv_bipush (v := nI (110)) hx hb dX8_image_25 (by decide) ?_
      refine lv_bipush (v := nI (55)) hx hb dX8_image_27 (by decide) ?_
      refine lv_iload_n hx hb dX8_image_29 rfl (lv_at hl 1 rfl) ?_
      refine lv_imul hx hb dX8_image_30 ?_
      refine vn_i (v := nI (55 * k)) (pk_mul _ _) ?_
      refine lv_iadd hx hb dX8_image_31 ?_
      refine vn_i (v := nI (110 + (55 * k))) (nI_add _ _) ?_
      refine cVv (n := 2) (As := [.int (nI (0)), .int (nI (110 + (55 * k)))]) (rest := []) (C := RX8) (ci := 8) (q0 := 0) (X := [(om, .inr (8, [.ref (mw), .int (nI (ud)), .ref (mt), .int (nI (td)), .int (nI (fy)), .int (nI (su)), .ref (mm), .ref (ml), .ref (mi), .ref (mh), .int (nI (cu)), .int (nI (sa)), .int (nI (nb)), .ref (mr), .int (nI (tn))])), (mw, .inl (cA 0, 1595, arN Z))]) (pl := []) (wc := [(om, .inr (8, [.ref (mw), .int (nI (ud)), .ref (mt), .int (nI (td)), .int (nI (fy)), .int (nI (su)), .ref (mm), .ref (ml), .ref (mi), .ref (mh), .int (nI (cu)), .int (nI (sa)), .int (nI (nb)), .ref (mr), .int (nI (tn))])), (mw, .inl (cA 0, 1595, arN Z))]) (wr := ([] : va_W)) (w1 := [(om, .inr (8, [.ref (mw), .int (nI (ud)), .ref (mt), .int (nI (td)), .int (nI (fy)), .int (nI (su)), .ref (mm), .ref (ml), .ref (mi), .ref (mh), .int (nI (cu)), .int (nI (sa)), .int (nI (nb)), .ref (mr), .int (nI (tn))])), (mw, .inl (cA 0, 1595, arN (cpW Z 0 (110 + (55 * k)))))]) (wn := [(om, .inr (8, [.ref (mw), .int (nI (ud)), .ref (mt), .int (nI (td)), .int (nI (fy)), .int (nI (su)), .ref (mm), .ref (ml), .ref (mi), .ref (mh), .int (nI (cu)), .int (nI (sa)), .int (nI (nb)), .ref (mr), .int (nI (tn))])), (mw, .inl (cA 0, 1595, arN (cpW Z 0 (110 + (55 * k)))))]) (isC := [0, 1]) (isR := []) (isN := [0, 1]) ⟨hx, hb, hml, hown, hts⟩ (c_X8_copyOf l D cA tt om mw mt mm ml mi mh mr ud td fy su cu sa nb tn Z 0 (110 + (55 * k)) (by omega) (by omega) (by omega) _) gX8_image_X8_copyOf rfl (by decide +kernel) rfl rfl ⟨rfl, rfl⟩ ⟨Nat.le_of_ble_eq_true rfl, Nat.le_of_ble_eq_true rfl⟩ ⟨Nat.zero_le _, Nat.zero_le _⟩ hK hE hA hP hD hS ⟨⟨rfl, by decide⟩, ⟨rfl, by decide, by decide⟩, rfl, by decide⟩ rfl hl.1 rfl (Nat.le_of_ble_eq_true rfl) dX8_image_32 (fun H locs hP hD hS => ?_)
      have hP : va_P D vwCl [(om, .inr (8, [.ref (mw), .int (nI (ud)), .ref (mt), .int (nI (td)), .int (nI (fy)), .int (nI (su)), .ref (mm), .ref (ml), .ref (mi), .ref (mh), .int (nI (cu)), .int (nI (sa)), .int (nI (nb)), .ref (mr), .int (nI (tn))])), (mw, .inl (cA 0, 1595, arN (cpW Z 0 (110 + (55 * k)))))] _ := hP
      have hD : va_D A [(om, .inr (8, [.ref (mw), .int (nI (ud)), .ref (mt), .int (nI (td)), .int (nI (fy)), .int (nI (su)), .ref (mm), .ref (ml), .ref (mi), .ref (mh), .int (nI (cu)), .int (nI (sa)), .int (nI (nb)), .ref (mr), .int (nI (tn))])), (mw, .inl (cA 0, 1595, arN (cpW Z 0 (110 + (55 * k)))))] := hD
      refine lv_iconst (v := nI (1)) hx hb dX8_image_35 (by decide) ?_
      have ef3 : ([(om, .inr (8, [.ref (mw), .int (nI (ud)), .ref (mt), .int (nI (td)), .int (nI (fy)), .int (nI (su)), .ref (mm), .ref (ml), .ref (mi), .ref (mh), .int (nI (cu)), .int (nI (sa)), .int (nI (nb)), .ref (mr), .int (nI (tn))])), (mw, .inl (cA 0, 1595, arN (cpW Z 0 (110 + (55 * k)))))] : va_W) = [(om, .inr (8, [.ref (mw), .int (nI (ud)), .ref (mt), .int (nI (td)), .int (nI (fy)), .int (nI (su)), .ref (mm), .ref (ml), .ref (mi), .ref (mh), .int (nI (cu)), .int (nI (sa)), .int (nI (nb)), .ref (mr), .int (nI (tn))])), (mw, .inl (cA 0, 1595, arN (if (inI pk (nI 0) (nI 1) && !decide (Sn (sg Z 0) = 0)) = true then cpW Z 0 (110 + 55 * pk.toNatClampNeg) else Z)))] := by
        rw [if_pos (by rw [decide_eq_false (show ¬ Sn (sg Z 0) = 0 from by show ¬ Z 0 = 0; have := of_decide_eq_true c2; omega), show inI pk (nI 0) (nI 1) = true from c1]; rfl), e_k, nI_clamp (n := k) (by omega)]
      have hP : va_P D vwCl [(om, .inr (8, [.ref (mw), .int (nI (ud)), .ref (mt), .int (nI (td)), .int (nI (fy)), .int (nI (su)), .ref (mm), .ref (ml), .ref (mi), .ref (mh), .int (nI (cu)), .int (nI (sa)), .int (nI (nb)), .ref (mr), .int (nI (tn))])), (mw, .inl (cA 0, 1595, arN (if (inI pk (nI 0) (nI 1) && !decide (Sn (sg Z 0) = 0)) = true then cpW Z 0 (110 + 55 * pk.toNatClampNeg) else Z)))] _ := Eq.mp (congrArg (fun z9 => va_P D vwCl z9 _) ef3) hP
      have hD : va_D A [(om, .inr (8, [.ref (mw), .int (nI (ud)), .ref (mt), .int (nI (td)), .int (nI (fy)), .int (nI (su)), .ref (mm), .ref (ml), .ref (mi), .ref (mh), .int (nI (cu)), .int (nI (sa)), .int (nI (nb)), .ref (mr), .int (nI (tn))])), (mw, .inl (cA 0, 1595, arN (if (inI pk (nI 0) (nI 1) && !decide (Sn (sg Z 0) = 0)) = true then cpW Z 0 (110 + 55 * pk.toNatClampNeg) else Z)))] := Eq.mp (congrArg (fun z9 => va_D A z9) ef3) hD
      exact hend _ _ _ _ _ hP hD hS (by unfold imgR; rw [if_pos (by simp [c1]), if_neg (show ¬ Sn (sg Z 0) = 0 from by show ¬ Z 0 = 0; have := of_decide_eq_true c2; omega)]) dX8_image_36
    · skip
      rw [bI_z] at c2
      refine lv_ldc (v := (-1000002)) hx hb hown (hts (.constant RX8 140 (-1000002)) (List.mem_of_getElem? (i := 2) rfl)) dX8_image_20 ?_
      have ef4 : ([(om, .inr (8, [.ref (mw), .int (nI (ud)), .ref (mt), .int (nI (td)), .int (nI (fy)), .int (nI (su)), .ref (mm), .ref (ml), .ref (mi), .ref (mh), .int (nI (cu)), .int (nI (sa)), .int (nI (nb)), .ref (mr), .int (nI (tn))])), (mw, .inl (cA 0, 1595, arN Z))] : va_W) = [(om, .inr (8, [.ref (mw), .int (nI (ud)), .ref (mt), .int (nI (td)), .int (nI (fy)), .int (nI (su)), .ref (mm), .ref (ml), .ref (mi), .ref (mh), .int (nI (cu)), .int (nI (sa)), .int (nI (nb)), .ref (mr), .int (nI (tn))])), (mw, .inl (cA 0, 1595, arN (if (inI pk (nI 0) (nI 1) && !decide (Sn (sg Z 0) = 0)) = true then cpW Z 0 (110 + 55 * pk.toNatClampNeg) else Z)))] := by
        rw [if_neg (by rw [decide_eq_true (show Sn (sg Z 0) = 0 from by show Z 0 = 0; have := of_decide_eq_false c2; omega)]; simp)]
      have hP : va_P D vwCl [(om, .inr (8, [.ref (mw), .int (nI (ud)), .ref (mt), .int (nI (td)), .int (nI (fy)), .int (nI (su)), .ref (mm), .ref (ml), .ref (mi), .ref (mh), .int (nI (cu)), .int (nI (sa)), .int (nI (nb)), .ref (mr), .int (nI (tn))])), (mw, .inl (cA 0, 1595, arN (if (inI pk (nI 0) (nI 1) && !decide (Sn (sg Z 0) = 0)) = true then cpW Z 0 (110 + 55 * pk.toNatClampNeg) else Z)))] _ := Eq.mp (congrArg (fun z9 => va_P D vwCl z9 _) ef4) hP
      have hD : va_D A [(om, .inr (8, [.ref (mw), .int (nI (ud)), .ref (mt), .int (nI (td)), .int (nI (fy)), .int (nI (su)), .ref (mm), .ref (ml), .ref (mi), .ref (mh), .int (nI (cu)), .int (nI (sa)), .int (nI (nb)), .ref (mr), .int (nI (tn))])), (mw, .inl (cA 0, 1595, arN (if (inI pk (nI 0) (nI 1) && !decide (Sn (sg Z 0) = 0)) = true then cpW Z 0 (110 + 55 * pk.toNatClampNeg) else Z)))] := Eq.mp (congrArg (fun z9 => va_D A z9) ef4) hD
      exact hend _ _ _ _ _ hP hD hS (by unfold imgR; rw [if_pos (by simp [c1]), if_pos (show Sn (sg Z 0) = 0 from by show Z 0 = 0; have := of_decide_eq_false c2; omega)]) dX8_image_22
  · skip
    rw [bI_z] at c1
    refine lv_ldc (v := (-1000001)) hx hb hown (hts (.constant RX8 48 (-1000001)) (List.mem_of_getElem? (i := 1) rfl)) dX8_image_10 ?_
    have ef5 : ([(om, .inr (8, [.ref (mw), .int (nI (ud)), .ref (mt), .int (nI (td)), .int (nI (fy)), .int (nI (su)), .ref (mm), .ref (ml), .ref (mi), .ref (mh), .int (nI (cu)), .int (nI (sa)), .int (nI (nb)), .ref (mr), .int (nI (tn))])), (mw, .inl (cA 0, 1595, arN Z))] : va_W) = [(om, .inr (8, [.ref (mw), .int (nI (ud)), .ref (mt), .int (nI (td)), .int (nI (fy)), .int (nI (su)), .ref (mm), .ref (ml), .ref (mi), .ref (mh), .int (nI (cu)), .int (nI (sa)), .int (nI (nb)), .ref (mr), .int (nI (tn))])), (mw, .inl (cA 0, 1595, arN (if (inI pk (nI 0) (nI 1) && !decide (Sn (sg Z 0) = 0)) = true then cpW Z 0 (110 + 55 * pk.toNatClampNeg) else Z)))] := by
      rw [if_neg (by simp [c1])]
    have hP : va_P D vwCl [(om, .inr (8, [.ref (mw), .int (nI (ud)), .ref (mt), .int (nI (td)), .int (nI (fy)), .int (nI (su)), .ref (mm), .ref (ml), .ref (mi), .ref (mh), .int (nI (cu)), .int (nI (sa)), .int (nI (nb)), .ref (mr), .int (nI (tn))])), (mw, .inl (cA 0, 1595, arN (if (inI pk (nI 0) (nI 1) && !decide (Sn (sg Z 0) = 0)) = true then cpW Z 0 (110 + 55 * pk.toNatClampNeg) else Z)))] _ := Eq.mp (congrArg (fun z9 => va_P D vwCl z9 _) ef5) hP
    have hD : va_D A [(om, .inr (8, [.ref (mw), .int (nI (ud)), .ref (mt), .int (nI (td)), .int (nI (fy)), .int (nI (su)), .ref (mm), .ref (ml), .ref (mi), .ref (mh), .int (nI (cu)), .int (nI (sa)), .int (nI (nb)), .ref (mr), .int (nI (tn))])), (mw, .inl (cA 0, 1595, arN (if (inI pk (nI 0) (nI 1) && !decide (Sn (sg Z 0) = 0)) = true then cpW Z 0 (110 + 55 * pk.toNatClampNeg) else Z)))] := Eq.mp (congrArg (fun z9 => va_D A z9) ef5) hD
    exact hend _ _ _ _ _ hP hD hS (by unfold imgR; rw [if_neg (by simp [c1])]) dX8_image_12
set_option maxRecDepth 100000 in
set_option maxHeartbeats 4000000 in
theorem c_X8_restore (l : Launch) (D : va_G) (cA : Nat → ClassId) (tt : Nat → Nat) (om mw mt mm ml mi mh mr ud td fy su cu sa nb tn : Nat) (Z : Nat → Nat) (pk : Int32) (hbb : ∀ k, k < 2 → Z (110 + 55 * k) ≤ 10) (sz : Nat) : Ci l D cA tt yX8_restore wsX8_restore ({ frames := 1, cells := 0, slots := 0, locals := 25 } : Room) [.ref (om), .int (pk)] sz [(om, .inr (8, [.ref (mw), .int (nI (ud)), .ref (mt), .int (nI (td)), .int (nI (fy)), .int (nI (su)), .ref (mm), .ref (ml), .ref (mi), .ref (mh), .int (nI (cu)), .int (nI (sa)), .int (nI (nb)), .ref (mr), .int (nI (tn))])), (mw, .inl (cA 0, 1595, arN Z))] [(om, .inr (8, [.ref (mw), .int (nI ((if (inI pk (nI 0) (nI 1) && !decide (Z (110 + 55 * pk.toNatClampNeg) = 0)) = true then 0 else ud))), .ref (mt), .int (nI (td)), .int (nI (fy)), .int (nI (su)), .ref (mm), .ref (ml), .ref (mi), .ref (mh), .int (nI (cu)), .int (nI (sa)), .int (nI (nb)), .ref (mr), .int (nI (tn))])), (mw, .inl (cA 0, 1595, arN (if (inI pk (nI 0) (nI 1) && !decide (Z (110 + 55 * pk.toNatClampNeg) = 0)) = true then cpW Z (110 + 55 * pk.toNatClampNeg) 0 else Z)))] (rstM Z pk) := by
  refine Ci.mk (cc := cX8_restore) (maxL := 2) (ty := .int) (by decide) rfl rfl (Nat.le_of_ble_eq_true rfl) ?_
  intro p e s m below meth c A Q ls hB hl hend
  obtain ⟨⟨hx, hb, hml, hown, hts⟩, hP, hK, hD, hS, hA, hE⟩ := hB
  have hown : s.vm.findClass RX8 = some m.cls := hown
  have hwsX80 : ∀ w9 ∈ wsX80, w9.before ([.ref (om), .int (pk)] : List Value).toArray s = true := fun w9 h => hts w9 (List.mem_cons_of_mem _ (List.mem_append_right _ h))
  have hl : lv_has ls 2 [(0, .ref (om)), (1, .int (pk))] := hl
  refine lv_iload_n hx hb dX8_restore_0 rfl (lv_at hl 1 rfl) ?_
  refine lv_i2l (v := (pk).toInt64) hx hb dX8_restore_1 (rfl) ?_
  refine lv_lconst (v := lN 0) hx hb dX8_restore_2 rfl ?_
  refine lv_lconst (v := lN 1) hx hb dX8_restore_3 rfl ?_
  refine cSi (n := 3) (As := [.long ((pk).toInt64), .long (lN (0)), .long (lN (1))]) (rest := []) (X := [(om, .inr (8, [.ref (mw), .int (nI (ud)), .ref (mt), .int (nI (td)), .int (nI (fy)), .int (nI (su)), .ref (mm), .ref (ml), .ref (mi), .ref (mh), .int (nI (cu)), .int (nI (sa)), .int (nI (nb)), .ref (mr), .int (nI (tn))])), (mw, .inl (cA 0, 1595, arN Z))]) (pl := []) (wc := ([] : va_W)) (wr := [(om, .inr (8, [.ref (mw), .int (nI (ud)), .ref (mt), .int (nI (td)), .int (nI (fy)), .int (nI (su)), .ref (mm), .ref (ml), .ref (mi), .ref (mh), .int (nI (cu)), .int (nI (sa)), .int (nI (nb)), .ref (mr), .int (nI (tn))])), (mw, .inl (cA 0, 1595, arN Z))]) (w1 := ([] : va_W)) (wn := [(om, .inr (8, [.ref (mw), .int (nI (ud)), .ref (mt), .int (nI (td)), .int (nI (fy)), .int (nI (su)), .ref (mm), .ref (ml), .ref (mi), .ref (mh), .int (nI (cu)), .int (nI (sa)), .int (nI (nb)), .ref (mr), .int (nI (tn))])), (mw, .inl (cA 0, 1595, arN Z))]) (isC := []) (isR := [0, 1]) (isN := [0, 1]) ⟨hx, hb, hml, hown, hts⟩ (c_X8_in_I l D cA tt pk 0 1 (by omega) (by omega) _) gX8_restore_X8_in rfl (by decide +kernel) ⟨rfl, rfl⟩ ⟨Nat.le_of_ble_eq_true rfl, Nat.le_of_ble_eq_true rfl⟩ ⟨Nat.zero_le _, Nat.zero_le _⟩ hK hE hA hP hD hS ⟨⟨rfl, by decide⟩, ⟨rfl, by decide, by decide⟩, rfl, by decide⟩ rfl hl.1 rfl (Nat.le_of_ble_eq_true rfl) dX8_restore_4 (fun H locs hP hD hS => ?_)
  have hP : va_P D vwCl [(om, .inr (8, [.ref (mw), .int (nI (ud)), .ref (mt), .int (nI (td)), .int (nI (fy)), .int (nI (su)), .ref (mm), .ref (ml), .ref (mi), .ref (mh), .int (nI (cu)), .int (nI (sa)), .int (nI (nb)), .ref (mr), .int (nI (tn))])), (mw, .inl (cA 0, 1595, arN Z))] _ := hP
  have hD : va_D A [(om, .inr (8, [.ref (mw), .int (nI (ud)), .ref (mt), .int (nI (td)), .int (nI (fy)), .int (nI (su)), .ref (mm), .ref (ml), .ref (mi), .ref (mh), .int (nI (cu)), .int (nI (sa)), .int (nI (nb)), .ref (mr), .int (nI (tn))])), (mw, .inl (cA 0, 1595, arN Z))] := hD
  refine lv_if_ne (tgt := 13) hx hb dX8_restore_7 (by decide) (fun c1 => ?_) (fun c1 => ?_)
  · skip
    rw [bI_nz] at c1
    obtain ⟨k, e_k, a_k, l_k⟩ := inI_t (by decide) c1 (by decide)
    rw [e_k] at hl
    have hbk := hbb k (by omega)
    refine lv_aload_n hx hb dX8_restore_13 rfl (lv_at hl 0 rfl) ?_
    refine va_get (v := .ref (mw)) (Ts := wsX80) (C := RX8) (T := TX8) (N := 15) hx hb hwsX80 (fun _ h => h) hown hK hP 0 rfl rfl 0 (by decide) (hts (.fieldLink RX8 7 "AdventStreetsModel" "w" "[I") (List.mem_of_getElem? (i := 2) rfl)) (fun _ h9 => h9) rfl dX8_restore_14 ?_
    refine lv_bipush (v := nI (110)) hx hb dX8_restore_17 (by decide) ?_
    refine lv_bipush (v := nI (55)) hx hb dX8_restore_19 (by decide) ?_
    refine lv_iload_n hx hb dX8_restore_21 rfl (lv_at hl 1 rfl) ?_
    refine lv_imul hx hb dX8_restore_22 ?_
    refine vn_i (v := nI (55 * k)) (pk_mul _ _) ?_
    refine lv_iadd hx hb dX8_restore_23 ?_
    refine vn_i (v := nI (110 + (55 * k))) (nI_add _ _) ?_
    refine lv_iconst (v := nI (0)) hx hb dX8_restore_24 (by decide) ?_
    refine lv_iadd hx hb dX8_restore_25 ?_
    refine vn_i (v := nI (110 + (55 * k))) (nI_add _ _) ?_
    refine r_ald (f := Z) hx hb hK hP 1 rfl (i := 110 + (55 * k)) (by omega) (Nat.lt_of_lt_of_le (by omega : 1595 < 1073741824) (by decide)) dX8_restore_26 ?_
    refine lv_if_ne (tgt := 33) hx hb dX8_restore_27 (by decide) (fun c2 => ?_) (fun c2 => ?_)
    · skip
      rw [n_z (by omega)] at c2
      refine lv_aload_n hx hb dX8_restore_33 rfl (lv_at hl 0 rfl) ?_
      refine lv_bipush (v := nI (110)) hx hb dX8_restore_34 (by decide) ?_
      refine lv_bipush (v := nI (55)) hx hb dX8_restore_36 (by decide) ?_
      refine lv_iload_n hx hb dX8_restore_38 rfl (lv_at hl 1 rfl) ?_
      refine lv_imul hx hb dX8_restore_39 ?_
      refine vn_i (v := nI (55 * k)) (pk_mul _ _) ?_
      refine lv_iadd hx hb dX8_restore_40 ?_
      refine vn_i (v := nI (110 + (55 * k))) (nI_add _ _) ?_
      refine lv_iconst (v := nI (0)) hx hb dX8_restore_41 (by decide) ?_
      refine cVv (n := 2) (As := [.int (nI (110 + (55 * k))), .int (nI (0))]) (rest := []) (C := RX8) (ci := 8) (q0 := 0) (X := [(om, .inr (8, [.ref (mw), .int (nI (ud)), .ref (mt), .int (nI (td)), .int (nI (fy)), .int (nI (su)), .ref (mm), .ref (ml), .ref (mi), .ref (mh), .int (nI (cu)), .int (nI (sa)), .int (nI (nb)), .ref (mr), .int (nI (tn))])), (mw, .inl (cA 0, 1595, arN Z))]) (pl := []) (wc := [(om, .inr (8, [.ref (mw), .int (nI (ud)), .ref (mt), .int (nI (td)), .int (nI (fy)), .int (nI (su)), .ref (mm), .ref (ml), .ref (mi), .ref (mh), .int (nI (cu)), .int (nI (sa)), .int (nI (nb)), .ref (mr), .int (nI (tn))])), (mw, .inl (cA 0, 1595, arN Z))]) (wr := ([] : va_W)) (w1 := [(om, .inr (8, [.ref (mw), .int (nI (ud)), .ref (mt), .int (nI (td)), .int (nI (fy)), .int (nI (su)), .ref (mm), .ref (ml), .ref (mi), .ref (mh), .int (nI (cu)), .int (nI (sa)), .int (nI (nb)), .ref (mr), .int (nI (tn))])), (mw, .inl (cA 0, 1595, arN (cpW Z (110 + (55 * k)) 0)))]) (wn := [(om, .inr (8, [.ref (mw), .int (nI (ud)), .ref (mt), .int (nI (td)), .int (nI (fy)), .int (nI (su)), .ref (mm), .ref (ml), .ref (mi), .ref (mh), .int (nI (cu)), .int (nI (sa)), .int (nI (nb)), .ref (mr), .int (nI (tn))])), (mw, .inl (cA 0, 1595, arN (cpW Z (110 + (55 * k)) 0)))]) (isC := [0, 1]) (isR := []) (isN := [0, 1]) ⟨hx, hb, hml, hown, hts⟩ (c_X8_copyOf l D cA tt om mw mt mm ml mi mh mr ud td fy su cu sa nb tn Z (110 + (55 * k)) 0 (by omega) (by omega) (by omega) _) gX8_restore_X8_copyOf rfl (by decide +kernel) rfl rfl ⟨rfl, rfl⟩ ⟨Nat.le_of_ble_eq_true rfl, Nat.le_of_ble_eq_true rfl⟩ ⟨Nat.zero_le _, Nat.zero_le _⟩ hK hE hA hP hD hS ⟨⟨rfl, by decide⟩, ⟨rfl, by decide, by decide⟩, rfl, by decide⟩ rfl hl.1 rfl (Nat.le_of_ble_eq_true rfl) dX8_restore_42 (fun H locs hP hD hS => ?_)
      have hP : va_P D vwCl [(om, .inr (8, [.ref (mw), .int (nI (ud)), .ref (mt), .int (nI (td)), .int (nI (fy)), .int (nI (su)), .ref (mm), .ref (ml), .ref (mi), .ref (mh), .int (nI (cu)), .int (nI (sa)), .int (nI (nb)), .ref (mr), .int (nI (tn))])), (mw, .inl (cA 0, 1595, arN (cpW Z (110 + (55 * k)) 0)))] _ := hP
      have hD : va_D A [(om, .inr (8, [.ref (mw), .int (nI (ud)), .ref (mt), .int (nI (td)), .int (nI (fy)), .int (nI (su)), .ref (mm), .ref (ml), .ref (mi), .ref (mh), .int (nI (cu)), .int (nI (sa)), .int (nI (nb)), .ref (mr), .int (nI (tn))])), (mw, .inl (cA 0, 1595, arN (cpW Z (110 + (55 * k)) 0)))] := hD
      refine lv_aload_n hx hb dX8_restore_45 rfl (lv_at hl 0 rfl) ?_
      refine lv_iconst (v := nI (0)) hx hb dX8_restore_46 (by decide) ?_
      refine va_put (v := .int (nI (0))) (ty := .int) (Ts := wsX80) (C := RX8) (T := TX8) (N := 15) hx hb hwsX80 (fun _ h => h) tyX8 tyX8_ok nmX8 hown hK hP hD hS 0 rfl rfl 1 (by decide) (hts (.fieldLink RX8 111 "AdventStreetsModel" "undoes" "I") (List.mem_of_getElem? (i := 4) rfl)) (fun _ h9 => h9) rfl (tyX8_ok 1 (by decide)) rfl rfl (Nat.le_of_ble_eq_true rfl) dX8_restore_47 (fun H locs hP hD hS => ?_)
      have hP : va_P D vwCl [(om, .inr (8, [.ref (mw), .int (nI (0)), .ref (mt), .int (nI (td)), .int (nI (fy)), .int (nI (su)), .ref (mm), .ref (ml), .ref (mi), .ref (mh), .int (nI (cu)), .int (nI (sa)), .int (nI (nb)), .ref (mr), .int (nI (tn))])), (mw, .inl (cA 0, 1595, arN (cpW Z (110 + (55 * k)) 0)))] _ := hP
      have hD : va_D A [(om, .inr (8, [.ref (mw), .int (nI (0)), .ref (mt), .int (nI (td)), .int (nI (fy)), .int (nI (su)), .ref (mm), .ref (ml), .ref (mi), .ref (mh), .int (nI (cu)), .int (nI (sa)), .int (nI (nb)), .ref (mr), .int (nI (tn))])), (mw, .inl (cA 0, 1595, arN (cpW Z (110 + (55 * k)) 0)))] := hD
      refine lv_iconst (v := nI (1)) hx hb dX8_restore_50 (by decide) ?_
      have ef3 : ([(om, .inr (8, [.ref (mw), .int (nI (0)), .ref (mt), .int (nI (td)), .int (nI (fy)), .int (nI (su)), .ref (mm), .ref (ml), .ref (mi), .ref (mh), .int (nI (cu)), .int (nI (sa)), .int (nI (nb)), .ref (mr), .int (nI (tn))])), (mw, .inl (cA 0, 1595, arN (cpW Z (110 + (55 * k)) 0)))] : va_W) = [(om, .inr (8, [.ref (mw), .int (nI ((if (inI pk (nI 0) (nI 1) && !decide (Z (110 + 55 * pk.toNatClampNeg) = 0)) = true then 0 else ud))), .ref (mt), .int (nI (td)), .int (nI (fy)), .int (nI (su)), .ref (mm), .ref (ml), .ref (mi), .ref (mh), .int (nI (cu)), .int (nI (sa)), .int (nI (nb)), .ref (mr), .int (nI (tn))])), (mw, .inl (cA 0, 1595, arN (if (inI pk (nI 0) (nI 1) && !decide (Z (110 + 55 * pk.toNatClampNeg) = 0)) = true then cpW Z (110 + 55 * pk.toNatClampNeg) 0 else Z)))] := by
        rw [show inI pk (nI 0) (nI 1) = true from c1, e_k, nI_clamp (n := k) (by omega), decide_eq_false c2] <;> rfl
      have hP : va_P D vwCl [(om, .inr (8, [.ref (mw), .int (nI ((if (inI pk (nI 0) (nI 1) && !decide (Z (110 + 55 * pk.toNatClampNeg) = 0)) = true then 0 else ud))), .ref (mt), .int (nI (td)), .int (nI (fy)), .int (nI (su)), .ref (mm), .ref (ml), .ref (mi), .ref (mh), .int (nI (cu)), .int (nI (sa)), .int (nI (nb)), .ref (mr), .int (nI (tn))])), (mw, .inl (cA 0, 1595, arN (if (inI pk (nI 0) (nI 1) && !decide (Z (110 + 55 * pk.toNatClampNeg) = 0)) = true then cpW Z (110 + 55 * pk.toNatClampNeg) 0 else Z)))] _ := Eq.mp (congrArg (fun z9 => va_P D vwCl z9 _) ef3) hP
      have hD : va_D A [(om, .inr (8, [.ref (mw), .int (nI ((if (inI pk (nI 0) (nI 1) && !decide (Z (110 + 55 * pk.toNatClampNeg) = 0)) = true then 0 else ud))), .ref (mt), .int (nI (td)), .int (nI (fy)), .int (nI (su)), .ref (mm), .ref (ml), .ref (mi), .ref (mh), .int (nI (cu)), .int (nI (sa)), .int (nI (nb)), .ref (mr), .int (nI (tn))])), (mw, .inl (cA 0, 1595, arN (if (inI pk (nI 0) (nI 1) && !decide (Z (110 + 55 * pk.toNatClampNeg) = 0)) = true then cpW Z (110 + 55 * pk.toNatClampNeg) 0 else Z)))] := Eq.mp (congrArg (fun z9 => va_D A z9) ef3) hD
      exact hend _ _ _ _ _ hP hD hS (by unfold rstM; rw [if_pos (by simp [c1]), e_k, nI_clamp (n := k) (by omega), if_neg c2]) dX8_restore_51
    · skip
      rw [n_z (by omega)] at c2
      refine lv_ldc (v := (-1000002)) hx hb hown (hts (.constant RX8 140 (-1000002)) (List.mem_of_getElem? (i := 3) rfl)) dX8_restore_30 ?_
      have ef4 : ([(om, .inr (8, [.ref (mw), .int (nI (ud)), .ref (mt), .int (nI (td)), .int (nI (fy)), .int (nI (su)), .ref (mm), .ref (ml), .ref (mi), .ref (mh), .int (nI (cu)), .int (nI (sa)), .int (nI (nb)), .ref (mr), .int (nI (tn))])), (mw, .inl (cA 0, 1595, arN Z))] : va_W) = [(om, .inr (8, [.ref (mw), .int (nI ((if (inI pk (nI 0) (nI 1) && !decide (Z (110 + 55 * pk.toNatClampNeg) = 0)) = true then 0 else ud))), .ref (mt), .int (nI (td)), .int (nI (fy)), .int (nI (su)), .ref (mm), .ref (ml), .ref (mi), .ref (mh), .int (nI (cu)), .int (nI (sa)), .int (nI (nb)), .ref (mr), .int (nI (tn))])), (mw, .inl (cA 0, 1595, arN (if (inI pk (nI 0) (nI 1) && !decide (Z (110 + 55 * pk.toNatClampNeg) = 0)) = true then cpW Z (110 + 55 * pk.toNatClampNeg) 0 else Z)))] := by
        rw [show inI pk (nI 0) (nI 1) = true from c1, e_k, nI_clamp (n := k) (by omega), decide_eq_true c2] <;> rfl
      have hP : va_P D vwCl [(om, .inr (8, [.ref (mw), .int (nI ((if (inI pk (nI 0) (nI 1) && !decide (Z (110 + 55 * pk.toNatClampNeg) = 0)) = true then 0 else ud))), .ref (mt), .int (nI (td)), .int (nI (fy)), .int (nI (su)), .ref (mm), .ref (ml), .ref (mi), .ref (mh), .int (nI (cu)), .int (nI (sa)), .int (nI (nb)), .ref (mr), .int (nI (tn))])), (mw, .inl (cA 0, 1595, arN (if (inI pk (nI 0) (nI 1) && !decide (Z (110 + 55 * pk.toNatClampNeg) = 0)) = true then cpW Z (110 + 55 * pk.toNatClampNeg) 0 else Z)))] _ := Eq.mp (congrArg (fun z9 => va_P D vwCl z9 _) ef4) hP
      have hD : va_D A [(om, .inr (8, [.ref (mw), .int (nI ((if (inI pk (nI 0) (nI 1) && !decide (Z (110 + 55 * pk.toNatClampNeg) = 0)) = true then 0 else ud))), .ref (mt), .int (nI (td)), .int (nI (fy)), .int (nI (su)), .ref (mm), .ref (ml), .ref (mi), .ref (mh), .int (nI (cu)), .int (nI (sa)), .int (nI (nb)), .ref (mr), .int (nI (tn))])), (mw, .inl (cA 0, 1595, arN (if (inI pk (nI 0) (nI 1) && !decide (Z (110 + 55 * pk.toNatClampNeg) = 0)) = true then cpW Z (110 + 55 * pk.toNatClampNeg) 0 else Z)))] := Eq.mp (congrArg (fun z9 => va_D A z9) ef4) hD
      exact hend _ _ _ _ _ hP hD hS (by unfold rstM; rw [if_pos (by simp [c1]), e_k, nI_clamp (n := k) (by omega), if_pos c2]) dX8_restore_32
  · skip
    rw [bI_z] at c1
    refine lv_ldc (v := (-1000001)) hx hb hown (hts (.constant RX8 48 (-1000001)) (List.mem_of_getElem? (i := 1) rfl)) dX8_restore_10 ?_
    have ef5 : ([(om, .inr (8, [.ref (mw), .int (nI (ud)), .ref (mt), .int (nI (td)), .int (nI (fy)), .int (nI (su)), .ref (mm), .ref (ml), .ref (mi), .ref (mh), .int (nI (cu)), .int (nI (sa)), .int (nI (nb)), .ref (mr), .int (nI (tn))])), (mw, .inl (cA 0, 1595, arN Z))] : va_W) = [(om, .inr (8, [.ref (mw), .int (nI ((if (inI pk (nI 0) (nI 1) && !decide (Z (110 + 55 * pk.toNatClampNeg) = 0)) = true then 0 else ud))), .ref (mt), .int (nI (td)), .int (nI (fy)), .int (nI (su)), .ref (mm), .ref (ml), .ref (mi), .ref (mh), .int (nI (cu)), .int (nI (sa)), .int (nI (nb)), .ref (mr), .int (nI (tn))])), (mw, .inl (cA 0, 1595, arN (if (inI pk (nI 0) (nI 1) && !decide (Z (110 + 55 * pk.toNatClampNeg) = 0)) = true then cpW Z (110 + 55 * pk.toNatClampNeg) 0 else Z)))] := by
      rw [show inI pk (nI 0) (nI 1) = false from c1] <;> rfl
    have hP : va_P D vwCl [(om, .inr (8, [.ref (mw), .int (nI ((if (inI pk (nI 0) (nI 1) && !decide (Z (110 + 55 * pk.toNatClampNeg) = 0)) = true then 0 else ud))), .ref (mt), .int (nI (td)), .int (nI (fy)), .int (nI (su)), .ref (mm), .ref (ml), .ref (mi), .ref (mh), .int (nI (cu)), .int (nI (sa)), .int (nI (nb)), .ref (mr), .int (nI (tn))])), (mw, .inl (cA 0, 1595, arN (if (inI pk (nI 0) (nI 1) && !decide (Z (110 + 55 * pk.toNatClampNeg) = 0)) = true then cpW Z (110 + 55 * pk.toNatClampNeg) 0 else Z)))] _ := Eq.mp (congrArg (fun z9 => va_P D vwCl z9 _) ef5) hP
    have hD : va_D A [(om, .inr (8, [.ref (mw), .int (nI ((if (inI pk (nI 0) (nI 1) && !decide (Z (110 + 55 * pk.toNatClampNeg) = 0)) = true then 0 else ud))), .ref (mt), .int (nI (td)), .int (nI (fy)), .int (nI (su)), .ref (mm), .ref (ml), .ref (mi), .ref (mh), .int (nI (cu)), .int (nI (sa)), .int (nI (nb)), .ref (mr), .int (nI (tn))])), (mw, .inl (cA 0, 1595, arN (if (inI pk (nI 0) (nI 1) && !decide (Z (110 + 55 * pk.toNatClampNeg) = 0)) = true then cpW Z (110 + 55 * pk.toNatClampNeg) 0 else Z)))] := Eq.mp (congrArg (fun z9 => va_D A z9) ef5) hD
    exact hend _ _ _ _ _ hP hD hS (by unfold rstM; rw [if_neg (by simp [c1])]) dX8_restore_12
