/-! ===== Street: its methods ===== -/
def seenF (x : Sg) : Nat := orN (Sn x) (SS x)
theorem cpyE {f g : Nat → Nat} {j : Nat} (h : j < 10) : va_cpy f g 0 0 10 j = f j := by
  unfold va_cpy
  rw [if_pos ⟨Nat.zero_le _, by omega⟩, Nat.sub_zero, Nat.zero_add]
theorem pow20 {k : Nat} (h : k < 20) : 2 ^ k < 1048576 := (Nat.pow_lt_pow_right (by decide) h : 2 ^ k < 2 ^ 20)
theorem Wk.lk {x : Sg} (h : Wk x) (i : Nat) : Wk (wS x (don i (lookS x) (SS x))) := h.s (donK_lt (fun k hk => or10 (h.2.2.2.2 k hk).2.2.2.2 (picsK_lt _ h)) (fun k hk => (h.2.2.2.2 k hk).2.2.2.2))
theorem near_pics (x : Sg) (o s : Nat) : picsF x (o &&& nearF x s) = picsF x (o &&& nearL s (Sv x)) := by
  unfold picsF nearF
  refine orN_congr (fun k hk => ?_)
  unfold picT
  simp only [Nat.testBit_and, all_tb, hk, decide_true, Bool.and_true]
theorem shut_near (x : Sg) (s : Nat) : nearL s (Sv x) &&& andn (allF x) (So x) = andn (nearF x s) (So x) := by
  unfold nearF
  refine tb_ext (fun k => ?_)
  rw [Nat.testBit_and, andn_tb, andn_tb, Nat.testBit_and, Bool.and_assoc]
theorem shut_part {x : Sg} {part : Nat} (h : part &&& allF x = part) : part &&& andn (allF x) (So x) = andn part (So x) := by
  refine tb_ext (fun k => ?_)
  rw [Nat.testBit_and, andn_tb, andn_tb, ← Bool.and_assoc, ← Nat.testBit_and, h]
theorem touch_all {x : Sg} {w : Nat} (hw : w < Sn x) (i : Nat) : touchL x w i &&& allF x = touchL x w i := by
  induction i with
  | zero =>
    refine tb_ext (fun k => ?_)
    rw [Nat.testBit_and, all_tb, touchL, Nat.testBit_two_pow]
    by_cases h : w = k
    · subst h; simp [hw]
    · simp [h]
  | succ i ih => rw [touchL, Nat.and_or_distrib_right, ih, Nat.and_assoc, Nat.and_self]
set_option maxRecDepth 100000 in
set_option maxHeartbeats 4000000 in
theorem c_X4_date (l : Launch) (D : va_G) (cA : Nat → ClassId) (tt : Nat → Nat) (a : Nat → Nat) (x : Sg) (hg : Wk x) (ht : St x < 1073741824) (sz : Nat) : Ci l D cA tt yX4_date wsX4_date ({ frames := 0, cells := 0, slots := 0, locals := 0 } : Room) [.ref (a 0)] sz (stW cA a x) (stW cA a x) (nI (dateF x)) := by
  obtain ⟨gn, ge, gv, go, ga⟩ := id hg
  refine Ci.mk (cc := cX4_date) (maxL := 1) (ty := .int) (by decide) rfl rfl (Nat.le_of_ble_eq_true rfl) ?_
  intro p e s m below meth c A Q ls hB hl hend
  obtain ⟨⟨hx, hb, hml, hown, hts⟩, hP, hK, hD, hS, hA, hE⟩ := hB
  have hown : s.vm.findClass RX4 = some m.cls := hown
  have hwsX40 : ∀ w9 ∈ wsX40, w9.before ([.ref (a 0)] : List Value).toArray s = true := fun w9 h => hts w9 (List.mem_cons_of_mem _ (List.mem_append_right _ h))
  have hl : lv_has ls 1 [(0, .ref (a 0))] := hl
  refine lv_aload_n hx hb dX4_date_0 rfl (lv_at hl 0 rfl) ?_
  refine va_get (v := .int (nI (Se x))) (Ts := wsX40) (C := RX4) (T := TX4) (N := 10) hx hb hwsX40 (fun _ h => h) hown hK hP 0 rfl rfl 6 (by decide) (hts (.fieldLink RX4 37 "AdventStreets$Street" "eve" "I") (List.mem_of_getElem? (i := 1) rfl)) (fun _ h9 => h9) rfl dX4_date_1 ?_
  refine lv_if_le (tgt := 21) hx hb dX4_date_4 (by decide) (fun c1 => ?_) (fun c1 => ?_)
  · skip
    rw [n_le0 (by omega)] at c1
    refine lv_iconst (v := nI (0)) hx hb dX4_date_21 (by decide) ?_
    exact hend _ _ _ _ _ hP hD hS (by rw [dateF, if_neg (by omega)]) dX4_date_22
  · skip
    rw [n_le0 (by omega)] at c1
    refine lv_aload_n hx hb dX4_date_7 rfl (lv_at hl 0 rfl) ?_
    refine va_get (v := .int (nI (St x))) (Ts := wsX40) (C := RX4) (T := TX4) (N := 10) hx hb hwsX40 (fun _ h => h) hown hK hP 0 rfl rfl 8 (by decide) (hts (.fieldLink RX4 43 "AdventStreets$Street" "time" "I") (List.mem_of_getElem? (i := 2) rfl)) (fun _ h9 => h9) rfl dX4_date_8 ?_
    refine lv_aload_n hx hb dX4_date_11 rfl (lv_at hl 0 rfl) ?_
    refine va_get (v := .int (nI (Se x))) (Ts := wsX40) (C := RX4) (T := TX4) (N := 10) hx hb hwsX40 (fun _ h => h) hown hK hP 0 rfl rfl 6 (by decide) (hts (.fieldLink RX4 37 "AdventStreets$Street" "eve" "I") (List.mem_of_getElem? (i := 1) rfl)) (fun _ h9 => h9) rfl dX4_date_12 ?_
    refine lv_irem hx hb dX4_date_15 (by rw [n_z (by omega)]; omega) ?_
    refine vn_i (v := nI ((St x) % (Se x))) (pk_rem (by omega) (by omega) (by omega)) ?_
    refine lv_iconst (v := nI (1)) hx hb dX4_date_16 (by decide) ?_
    refine lv_iadd hx hb dX4_date_17 ?_
    refine vn_i (v := nI ((St x) % (Se x) + 1)) (nI_add _ _) ?_
    refine lv_goto (tgt := 22) hx hb dX4_date_18 (by decide) ?_
    exact hend _ _ _ _ _ hP hD hS (by rw [dateF, if_pos (by omega)]) dX4_date_22
set_option maxRecDepth 100000 in
set_option maxHeartbeats 4000000 in
theorem c_X4_all (l : Launch) (D : va_G) (cA : Nat → ClassId) (tt : Nat → Nat) (a : Nat → Nat) (x : Sg) (hg : Wk x) (sz : Nat) : Ci l D cA tt yX4_all wsX4_all ({ frames := 0, cells := 0, slots := 0, locals := 0 } : Room) [.ref (a 0)] sz (stW cA a x) (stW cA a x) (nI (allF x)) := by
  obtain ⟨gn, ge, gv, go, ga⟩ := id hg
  refine Ci.mk (cc := cX4_all) (maxL := 1) (ty := .int) (by decide) rfl rfl (Nat.le_of_ble_eq_true rfl) ?_
  intro p e s m below meth c A Q ls hB hl hend
  obtain ⟨⟨hx, hb, hml, hown, hts⟩, hP, hK, hD, hS, hA, hE⟩ := hB
  have hown : s.vm.findClass RX4 = some m.cls := hown
  have hwsX40 : ∀ w9 ∈ wsX40, w9.before ([.ref (a 0)] : List Value).toArray s = true := fun w9 h => hts w9 (List.mem_cons_of_mem _ (List.mem_append_right _ h))
  have hl : lv_has ls 1 [(0, .ref (a 0))] := hl
  refine lv_iconst (v := nI (1)) hx hb dX4_all_0 (by decide) ?_
  refine lv_aload_n hx hb dX4_all_1 rfl (lv_at hl 0 rfl) ?_
  refine va_get (v := .int (nI (Sn x))) (Ts := wsX40) (C := RX4) (T := TX4) (N := 10) hx hb hwsX40 (fun _ h => h) hown hK hP 0 rfl rfl 5 (by decide) (hts (.fieldLink RX4 33 "AdventStreets$Street" "windows" "I") (List.mem_of_getElem? (i := 1) rfl)) (fun _ h9 => h9) rfl dX4_all_2 ?_
  refine lv_ishl hx hb dX4_all_5 ?_
  refine vn_i (v := nI (2 ^ (Sn x))) (n_shl1 (by omega)) ?_
  refine lv_iconst (v := nI (1)) hx hb dX4_all_6 (by decide) ?_
  refine lv_isub hx hb dX4_all_7 ?_
  refine vn_i (v := nI ((2 ^ (Sn x)) - 1)) (pk_sub (Nat.two_pow_pos _)) ?_
  exact hend _ _ _ _ _ hP hD hS (rfl) dX4_all_8
set_option maxRecDepth 100000 in
set_option maxHeartbeats 4000000 in
theorem c_X4_isOpen (l : Launch) (D : va_G) (cA : Nat → ClassId) (tt : Nat → Nat) (a : Nat → Nat) (x : Sg) (w : Nat) (hg : Wk x) (hw : w < 32) (sz : Nat) : Ci l D cA tt yX4_isOpen wsX4_isOpen ({ frames := 0, cells := 0, slots := 0, locals := 0 } : Room) [.ref (a 0), .int (nI (w))] sz (stW cA a x) (stW cA a x) (bI ((So x).testBit w)) := by
  obtain ⟨gn, ge, gv, go, ga⟩ := id hg
  refine Ci.mk (cc := cX4_isOpen) (maxL := 2) (ty := .boolean) (by decide) rfl (bI_n _) (Nat.le_of_ble_eq_true rfl) ?_
  intro p e s m below meth c A Q ls hB hl hend
  obtain ⟨⟨hx, hb, hml, hown, hts⟩, hP, hK, hD, hS, hA, hE⟩ := hB
  have hown : s.vm.findClass RX4 = some m.cls := hown
  have hwsX40 : ∀ w9 ∈ wsX40, w9.before ([.ref (a 0), .int (nI (w))] : List Value).toArray s = true := fun w9 h => hts w9 (List.mem_cons_of_mem _ (List.mem_append_right _ h))
  have hl : lv_has ls 2 [(0, .ref (a 0)), (1, .int (nI (w)))] := hl
  refine lv_aload_n hx hb dX4_isOpen_0 rfl (lv_at hl 0 rfl) ?_
  refine va_get (v := .int (nI (So x))) (Ts := wsX40) (C := RX4) (T := TX4) (N := 10) hx hb hwsX40 (fun _ h => h) hown hK hP 0 rfl rfl 9 (by decide) (hts (.fieldLink RX4 46 "AdventStreets$Street" "opened" "I") (List.mem_of_getElem? (i := 1) rfl)) (fun _ h9 => h9) rfl dX4_isOpen_1 ?_
  refine lv_iload_n hx hb dX4_isOpen_4 rfl (lv_at hl 1 rfl) ?_
  refine lv_ishr hx hb dX4_isOpen_5 ?_
  refine vn_i (v := nI ((So x) / 2 ^ w)) (n_shr (by omega) (by omega)) ?_
  refine lv_iconst (v := nI (1)) hx hb dX4_isOpen_6 (by decide) ?_
  refine lv_iand hx hb dX4_isOpen_7 ?_
  refine vn_i (v := bI ((So x).testBit w)) (n_bit _ _) ?_
  refine lv_if_eq (tgt := 15) hx hb dX4_isOpen_8 (by decide) (fun c1 => ?_) (fun c1 => ?_)
  · skip
    rw [bI_z] at c1
    refine lv_iconst (v := nI (0)) hx hb dX4_isOpen_15 (by decide) ?_
    exact hend _ _ _ _ _ hP hD hS (zero_bI c1) dX4_isOpen_16
  · skip
    rw [bI_nz] at c1
    refine lv_iconst (v := nI (1)) hx hb dX4_isOpen_11 (by decide) ?_
    refine lv_goto (tgt := 16) hx hb dX4_isOpen_12 (by decide) ?_
    exact hend _ _ _ _ _ hP hD hS (one_bI c1) dX4_isOpen_16
set_option maxRecDepth 100000 in
set_option maxHeartbeats 4000000 in
theorem c_X4_wouldOpen (l : Launch) (D : va_G) (cA : Nat → ClassId) (tt : Nat → Nat) (a : Nat → Nat) (x : Sg) (w d : Nat) (hg : Wk x) (hw : w < Sn x) (hd : d < 1073741824) (sz : Nat) : Ci l D cA tt yX4_wouldOpen wsX4_wouldOpen ({ frames := 0, cells := 0, slots := 0, locals := 0 } : Room) [.ref (a 0), .int (nI (w)), .int (nI (d))] sz (stW cA a x) (stW cA a x) (bI (wouldF x w d)) := by
  have hw10 : w < 10 := Nat.lt_of_lt_of_le hw hg.1
  obtain ⟨gn, ge, gv, go, ga⟩ := id hg
  have gw := ga w hw
  refine Ci.mk (cc := cX4_wouldOpen) (maxL := 5) (ty := .boolean) (by decide) rfl (bI_n _) (Nat.le_of_ble_eq_true rfl) ?_
  intro p e s m below meth c A Q ls hB hl hend
  obtain ⟨⟨hx, hb, hml, hown, hts⟩, hP, hK, hD, hS, hA, hE⟩ := hB
  have hown : s.vm.findClass RX4 = some m.cls := hown
  have hwsX40 : ∀ w9 ∈ wsX40, w9.before ([.ref (a 0), .int (nI (w)), .int (nI (d))] : List Value).toArray s = true := fun w9 h => hts w9 (List.mem_cons_of_mem _ (List.mem_append_right _ h))
  have hl : lv_has ls 5 [(0, .ref (a 0)), (1, .int (nI (w))), (2, .int (nI (d)))] := hl
  refine joinW (pc' := 15) (ls' := ls) (rest' := []) (bI (decide (d = SD x w))) hP hD hS (fun jn15 => ?_) (fun H locs hP hD hS => ?_)
  · skip
    refine lv_iload_n hx hb dX4_wouldOpen_0 rfl (lv_at hl 2 rfl) ?_
    refine lv_aload_n hx hb dX4_wouldOpen_1 rfl (lv_at hl 0 rfl) ?_
    refine va_get (v := .ref (a 2)) (Ts := wsX40) (C := RX4) (T := TX4) (N := 10) hx hb hwsX40 (fun _ h => h) hown hK hP 0 rfl rfl 1 (by decide) (hts (.fieldLink RX4 15 "AdventStreets$Street" "days" "[I") (List.mem_of_getElem? (i := 1) rfl)) (fun _ h9 => h9) rfl dX4_wouldOpen_2 ?_
    refine lv_iload_n hx hb dX4_wouldOpen_5 rfl (lv_at hl 1 rfl) ?_
    refine r_ald (f := SD x) hx hb hK hP 2 rfl (i := w) (by omega) (by decide) dX4_wouldOpen_6 ?_
    refine lv_icmp_ne (tgt := 14) hx hb dX4_wouldOpen_7 (by decide) (fun c1 => ?_) (fun c1 => ?_)
    · skip
      rw [nI_eq (by omega) (by omega)] at c1
      refine lv_iconst (v := nI (0)) hx hb dX4_wouldOpen_14 (by decide) ?_
      exact jn15 _ _ _ (zero_bI (by first | (simp [c1]; done) | (simp; omega))) hP hD hS
    · skip
      rw [nI_eq (by omega) (by omega)] at c1
      refine lv_iconst (v := nI (1)) hx hb dX4_wouldOpen_10 (by decide) ?_
      refine lv_goto (tgt := 15) hx hb dX4_wouldOpen_11 (by decide) ?_
      exact jn15 _ _ _ (one_bI (by first | (simp [c1]; done) | (simp; omega))) hP hD hS
  · skip
    have hP : va_P D vwCl (stW cA a x) H := hP
    have hD : va_D A (stW cA a x) := hD
    refine lv_istore_n (lv' := [(3, .int (bI (decide (d = SD x w)))), (0, .ref (a 0)), (1, .int (nI (w))), (2, .int (nI (d)))]) hx hb dX4_wouldOpen_15 rfl hl (by decide) rfl (fun ls hl => ?_)
    refine joinW (pc' := 31) (ls' := ls) (rest' := []) (bI (decide (SG x w ≤ 4))) hP hD hS (fun jn31 => ?_) (fun H locs hP hD hS => ?_)
    · skip
      refine lv_aload_n hx hb dX4_wouldOpen_16 rfl (lv_at hl 1 rfl) ?_
      refine va_get (v := .ref (a 4)) (Ts := wsX40) (C := RX4) (T := TX4) (N := 10) hx hb hwsX40 (fun _ h => h) hown hK hP 0 rfl rfl 3 (by decide) (hts (.fieldLink RX4 21 "AdventStreets$Street" "glues" "[I") (List.mem_of_getElem? (i := 2) rfl)) (fun _ h9 => h9) rfl dX4_wouldOpen_17 ?_
      refine lv_iload_n hx hb dX4_wouldOpen_20 rfl (lv_at hl 2 rfl) ?_
      refine r_ald (f := SG x) hx hb hK hP 4 rfl (i := w) (by omega) (by decide) dX4_wouldOpen_21 ?_
      refine lv_iconst (v := nI (4)) hx hb dX4_wouldOpen_22 (by decide) ?_
      refine lv_icmp_gt (tgt := 30) hx hb dX4_wouldOpen_23 (by decide) (fun c2 => ?_) (fun c2 => ?_)
      · skip
        rw [nI_ltI (by omega) (by omega)] at c2
        refine lv_iconst (v := nI (0)) hx hb dX4_wouldOpen_30 (by decide) ?_
        exact jn31 _ _ _ (zero_bI (by first | (simp [c2]; done) | (simp; omega))) hP hD hS
      · skip
        rw [nI_ltI (by omega) (by omega)] at c2
        refine lv_iconst (v := nI (1)) hx hb dX4_wouldOpen_26 (by decide) ?_
        refine lv_goto (tgt := 31) hx hb dX4_wouldOpen_27 (by decide) ?_
        exact jn31 _ _ _ (one_bI (by first | (simp [c2]; done) | (simp; omega))) hP hD hS
    · skip
      have hP : va_P D vwCl (stW cA a x) H := hP
      have hD : va_D A (stW cA a x) := hD
      refine lv_istore (lv' := [(4, .int (bI (decide (SG x w ≤ 4)))), (3, .int (bI (decide (d = SD x w)))), (0, .ref (a 0)), (1, .int (nI (w))), (2, .int (nI (d)))]) hx hb dX4_wouldOpen_31 hl (by decide) rfl (fun ls hl => ?_)
      refine lv_aload_n hx hb dX4_wouldOpen_33 rfl (lv_at hl 2 rfl) ?_
      refine va_get (v := .ref (a 1)) (Ts := wsX40) (C := RX4) (T := TX4) (N := 10) hx hb hwsX40 (fun _ h => h) hown hK hP 0 rfl rfl 0 (by decide) (hts (.fieldLink RX4 9 "AdventStreets$Street" "kinds" "[I") (List.mem_of_getElem? (i := 3) rfl)) (fun _ h9 => h9) rfl dX4_wouldOpen_34 ?_
      refine lv_iload_n hx hb dX4_wouldOpen_37 rfl (lv_at hl 3 rfl) ?_
      refine r_ald (f := SK x) hx hb hK hP 1 rfl (i := w) (by omega) (by decide) dX4_wouldOpen_38 ?_
      by_cases c3 : SK x w = 1
      · skip
        have ti39 : (nI (SK x w)).toInt = 1 := by rw [c3]; rfl
        refine lv_tableIn (off := 33) (tgt := 72) hx hb dX4_wouldOpen_39 (by rw [ti39]; decide) (by rw [ti39]; decide) (by rw [ti39]; rfl) (by decide) ?_
        refine lv_iload_n hx hb dX4_wouldOpen_72 rfl (lv_at hl 1 rfl) ?_
        exact hend _ _ _ _ _ hP hD hS (by first | (simp [wouldF, c3]; done) | (simp [wouldF, c3]; rfl)) dX4_wouldOpen_73
      by_cases c4 : SK x w = 2
      · skip
        have ti39 : (nI (SK x w)).toInt = 2 := by rw [c4]; rfl
        refine lv_tableIn (off := 35) (tgt := 74) hx hb dX4_wouldOpen_39 (by rw [ti39]; decide) (by rw [ti39]; decide) (by rw [ti39]; rfl) (by decide) ?_
        refine joinW (pc' := 95) (ls' := ls) (rest' := []) (bI (decide (d = SD x w) || decide (d = SD x w + 1))) hP hD hS (fun jn95 => ?_) (fun H locs hP hD hS => ?_)
        · skip
          refine lv_iload_n hx hb dX4_wouldOpen_74 rfl (lv_at hl 1 rfl) ?_
          refine lv_if_ne (tgt := 90) hx hb dX4_wouldOpen_75 (by decide) (fun c5 => ?_) (fun c5 => ?_)
          · skip
            rw [bI_nz] at c5
            refine lv_iconst (v := nI (1)) hx hb dX4_wouldOpen_90 (by decide) ?_
            refine lv_goto (tgt := 95) hx hb dX4_wouldOpen_91 (by decide) ?_
            exact jn95 _ _ _ (one_bI (by first | (simp [c3, c4, c5]; done) | (simp; omega))) hP hD hS
          · skip
            rw [bI_z] at c5
            refine lv_iload_n hx hb dX4_wouldOpen_78 rfl (lv_at hl 4 rfl) ?_
            refine lv_aload_n hx hb dX4_wouldOpen_79 rfl (lv_at hl 2 rfl) ?_
            refine va_get (v := .ref (a 2)) (Ts := wsX40) (C := RX4) (T := TX4) (N := 10) hx hb hwsX40 (fun _ h => h) hown hK hP 0 rfl rfl 1 (by decide) (hts (.fieldLink RX4 15 "AdventStreets$Street" "days" "[I") (List.mem_of_getElem? (i := 1) rfl)) (fun _ h9 => h9) rfl dX4_wouldOpen_80 ?_
            refine lv_iload_n hx hb dX4_wouldOpen_83 rfl (lv_at hl 3 rfl) ?_
            refine r_ald (f := SD x) hx hb hK hP 2 rfl (i := w) (by omega) (by decide) dX4_wouldOpen_84 ?_
            refine lv_iconst (v := nI (1)) hx hb dX4_wouldOpen_85 (by decide) ?_
            refine lv_iadd hx hb dX4_wouldOpen_86 ?_
            refine vn_i (v := nI (SD x w + 1)) (nI_add _ _) ?_
            refine lv_icmp_ne (tgt := 94) hx hb dX4_wouldOpen_87 (by decide) (fun c6 => ?_) (fun c6 => ?_)
            · skip
              rw [nI_eq (by omega) (by omega)] at c6
              refine lv_iconst (v := nI (0)) hx hb dX4_wouldOpen_94 (by decide) ?_
              exact jn95 _ _ _ (zero_bI (by first | (simp [c3, c4, c5, c6]; done) | (simp; omega))) hP hD hS
            · skip
              rw [nI_eq (by omega) (by omega)] at c6
              refine lv_iconst (v := nI (1)) hx hb dX4_wouldOpen_90 (by decide) ?_
              refine lv_goto (tgt := 95) hx hb dX4_wouldOpen_91 (by decide) ?_
              exact jn95 _ _ _ (one_bI (by first | (simp [c3, c4, c5, c6]; done) | (simp; omega))) hP hD hS
        · skip
          have hP : va_P D vwCl (stW cA a x) H := hP
          have hD : va_D A (stW cA a x) := hD
          exact hend _ _ _ _ _ hP hD hS (by first | (simp [wouldF, c3, c4]; done) | (simp [wouldF, c3, c4]; rfl)) dX4_wouldOpen_95
      by_cases c7 : SK x w = 3
      · skip
        have ti39 : (nI (SK x w)).toInt = 3 := by rw [c7]; rfl
        refine lv_tableIn (off := 57) (tgt := 96) hx hb dX4_wouldOpen_39 (by rw [ti39]; decide) (by rw [ti39]; decide) (by rw [ti39]; rfl) (by decide) ?_
        refine joinW (pc' := 114) (ls' := ls) (rest' := []) (bI (decide (d = SD x w) || decide (SG x w = 0))) hP hD hS (fun jn114 => ?_) (fun H locs hP hD hS => ?_)
        · skip
          refine lv_iload_n hx hb dX4_wouldOpen_96 rfl (lv_at hl 1 rfl) ?_
          refine lv_if_ne (tgt := 109) hx hb dX4_wouldOpen_97 (by decide) (fun c8 => ?_) (fun c8 => ?_)
          · skip
            rw [bI_nz] at c8
            refine lv_iconst (v := nI (1)) hx hb dX4_wouldOpen_109 (by decide) ?_
            refine lv_goto (tgt := 114) hx hb dX4_wouldOpen_110 (by decide) ?_
            exact jn114 _ _ _ (one_bI (by first | (simp [c3, c4, c7, c8]; done) | (simp; omega))) hP hD hS
          · skip
            rw [bI_z] at c8
            refine lv_aload_n hx hb dX4_wouldOpen_100 rfl (lv_at hl 2 rfl) ?_
            refine va_get (v := .ref (a 4)) (Ts := wsX40) (C := RX4) (T := TX4) (N := 10) hx hb hwsX40 (fun _ h => h) hown hK hP 0 rfl rfl 3 (by decide) (hts (.fieldLink RX4 21 "AdventStreets$Street" "glues" "[I") (List.mem_of_getElem? (i := 2) rfl)) (fun _ h9 => h9) rfl dX4_wouldOpen_101 ?_
            refine lv_iload_n hx hb dX4_wouldOpen_104 rfl (lv_at hl 3 rfl) ?_
            refine r_ald (f := SG x) hx hb hK hP 4 rfl (i := w) (by omega) (by decide) dX4_wouldOpen_105 ?_
            refine lv_if_ne (tgt := 113) hx hb dX4_wouldOpen_106 (by decide) (fun c9 => ?_) (fun c9 => ?_)
            · skip
              rw [n_z (by omega)] at c9
              refine lv_iconst (v := nI (0)) hx hb dX4_wouldOpen_113 (by decide) ?_
              exact jn114 _ _ _ (zero_bI (by first | (simp [c3, c4, c7, c8, c9]; done) | (simp; omega))) hP hD hS
            · skip
              rw [n_z (by omega)] at c9
              refine lv_iconst (v := nI (1)) hx hb dX4_wouldOpen_109 (by decide) ?_
              refine lv_goto (tgt := 114) hx hb dX4_wouldOpen_110 (by decide) ?_
              exact jn114 _ _ _ (one_bI (by first | (simp [c3, c4, c7, c8, c9]; done) | (simp; omega))) hP hD hS
        · skip
          have hP : va_P D vwCl (stW cA a x) H := hP
          have hD : va_D A (stW cA a x) := hD
          exact hend _ _ _ _ _ hP hD hS (by first | (simp [wouldF, c3, c4, c7]; done) | (simp [wouldF, c3, c4, c7]; rfl)) dX4_wouldOpen_114
      by_cases c10 : SK x w = 4
      · skip
        have ti39 : (nI (SK x w)).toInt = 4 := by rw [c10]; rfl
        refine lv_tableIn (off := 76) (tgt := 115) hx hb dX4_wouldOpen_39 (by rw [ti39]; decide) (by rw [ti39]; decide) (by rw [ti39]; rfl) (by decide) ?_
        refine joinW (pc' := 129) (ls' := ls) (rest' := []) (bI (decide (d = SD x w) && decide (SG x w ≤ 4))) hP hD hS (fun jn129 => ?_) (fun H locs hP hD hS => ?_)
        · skip
          refine lv_iload_n hx hb dX4_wouldOpen_115 rfl (lv_at hl 1 rfl) ?_
          refine lv_if_eq (tgt := 128) hx hb dX4_wouldOpen_116 (by decide) (fun c11 => ?_) (fun c11 => ?_)
          · skip
            rw [bI_z] at c11
            refine lv_iconst (v := nI (0)) hx hb dX4_wouldOpen_128 (by decide) ?_
            exact jn129 _ _ _ (zero_bI (by first | (simp [c3, c4, c7, c10, c11]; done) | (simp; omega))) hP hD hS
          · skip
            rw [bI_nz] at c11
            refine lv_iload hx hb dX4_wouldOpen_119 (lv_at hl 0 rfl) ?_
            refine lv_if_eq (tgt := 128) hx hb dX4_wouldOpen_121 (by decide) (fun c12 => ?_) (fun c12 => ?_)
            · skip
              rw [bI_z] at c12
              refine lv_iconst (v := nI (0)) hx hb dX4_wouldOpen_128 (by decide) ?_
              exact jn129 _ _ _ (zero_bI (by first | (simp [c3, c4, c7, c10, c11, c12]; done) | (simp; omega))) hP hD hS
            · skip
              rw [bI_nz] at c12
              refine lv_iconst (v := nI (1)) hx hb dX4_wouldOpen_124 (by decide) ?_
              refine lv_goto (tgt := 129) hx hb dX4_wouldOpen_125 (by decide) ?_
              exact jn129 _ _ _ (one_bI (by first | (simp [c3, c4, c7, c10, c11, c12]; done) | (simp; omega))) hP hD hS
        · skip
          have hP : va_P D vwCl (stW cA a x) H := hP
          have hD : va_D A (stW cA a x) := hD
          exact hend _ _ _ _ _ hP hD hS (by first | (simp [wouldF, c3, c4, c7, c10]; done) | (simp [wouldF, c3, c4, c7, c10]; rfl)) dX4_wouldOpen_129
      by_cases c13 : SK x w = 5
      · skip
        have ti39 : (nI (SK x w)).toInt = 5 := by rw [c13]; rfl
        refine lv_tableIn (off := 91) (tgt := 130) hx hb dX4_wouldOpen_39 (by rw [ti39]; decide) (by rw [ti39]; decide) (by rw [ti39]; rfl) (by decide) ?_
        refine joinW (pc' := 164) (ls' := ls) (rest' := []) (bI (decide (d = SD x w) && decide (SG x w ≤ 4) || (So x * 2 ^ 1 ||| So x / 2 ^ 1).testBit w)) hP hD hS (fun jn164 => ?_) (fun H locs hP hD hS => ?_)
        · skip
          refine lv_iload_n hx hb dX4_wouldOpen_130 rfl (lv_at hl 1 rfl) ?_
          refine lv_if_eq (tgt := 139) hx hb dX4_wouldOpen_131 (by decide) (fun c14 => ?_) (fun c14 => ?_)
          · skip
            rw [bI_z] at c14
            refine lv_aload_n hx hb dX4_wouldOpen_139 rfl (lv_at hl 2 rfl) ?_
            refine va_get (v := .int (nI (So x))) (Ts := wsX40) (C := RX4) (T := TX4) (N := 10) hx hb hwsX40 (fun _ h => h) hown hK hP 0 rfl rfl 9 (by decide) (hts (.fieldLink RX4 46 "AdventStreets$Street" "opened" "I") (List.mem_of_getElem? (i := 4) rfl)) (fun _ h9 => h9) rfl dX4_wouldOpen_140 ?_
            refine lv_iconst (v := nI (1)) hx hb dX4_wouldOpen_143 (by decide) ?_
            refine lv_ishl hx hb dX4_wouldOpen_144 ?_
            refine vn_i (v := nI ((So x) * 2 ^ 1)) (n_shl _ (by omega)) ?_
            refine lv_aload_n hx hb dX4_wouldOpen_145 rfl (lv_at hl 2 rfl) ?_
            refine va_get (v := .int (nI (So x))) (Ts := wsX40) (C := RX4) (T := TX4) (N := 10) hx hb hwsX40 (fun _ h => h) hown hK hP 0 rfl rfl 9 (by decide) (hts (.fieldLink RX4 46 "AdventStreets$Street" "opened" "I") (List.mem_of_getElem? (i := 4) rfl)) (fun _ h9 => h9) rfl dX4_wouldOpen_146 ?_
            refine lv_iconst (v := nI (1)) hx hb dX4_wouldOpen_149 (by decide) ?_
            refine lv_ishr hx hb dX4_wouldOpen_150 ?_
            refine vn_i (v := nI ((So x) / 2 ^ 1)) (n_shr (by omega) (by omega)) ?_
            refine lv_ior hx hb dX4_wouldOpen_151 ?_
            refine vn_i (v := nI (((So x) * 2 ^ 1) ||| ((So x) / 2 ^ 1))) (n_or _ _) ?_
            refine lv_iload_n hx hb dX4_wouldOpen_152 rfl (lv_at hl 3 rfl) ?_
            refine lv_ishr hx hb dX4_wouldOpen_153 ?_
            refine vn_i (v := nI ((((So x) * 2 ^ 1) ||| ((So x) / 2 ^ 1)) / 2 ^ w)) (n_shr (Nat.or_lt_two_pow (by omega) (by omega)) (by omega)) ?_
            refine lv_iconst (v := nI (1)) hx hb dX4_wouldOpen_154 (by decide) ?_
            refine lv_iand hx hb dX4_wouldOpen_155 ?_
            refine vn_i (v := bI ((((So x) * 2 ^ 1) ||| ((So x) / 2 ^ 1)).testBit w)) (n_bit _ _) ?_
            refine lv_if_eq (tgt := 163) hx hb dX4_wouldOpen_156 (by decide) (fun c15 => ?_) (fun c15 => ?_)
            · skip
              rw [bI_z] at c15
              refine lv_iconst (v := nI (0)) hx hb dX4_wouldOpen_163 (by decide) ?_
              exact jn164 _ _ _ (zero_bI (by first | (simp [c3, c4, c7, c10, c13, c14, c15]; done) | (simp; omega))) hP hD hS
            · skip
              rw [bI_nz] at c15
              refine lv_iconst (v := nI (1)) hx hb dX4_wouldOpen_159 (by decide) ?_
              refine lv_goto (tgt := 164) hx hb dX4_wouldOpen_160 (by decide) ?_
              exact jn164 _ _ _ (one_bI (by first | (simp [c3, c4, c7, c10, c13, c14, c15]; done) | (simp; omega))) hP hD hS
          · skip
            rw [bI_nz] at c14
            refine lv_iload hx hb dX4_wouldOpen_134 (lv_at hl 0 rfl) ?_
            refine lv_if_ne (tgt := 159) hx hb dX4_wouldOpen_136 (by decide) (fun c16 => ?_) (fun c16 => ?_)
            · skip
              rw [bI_nz] at c16
              refine lv_iconst (v := nI (1)) hx hb dX4_wouldOpen_159 (by decide) ?_
              refine lv_goto (tgt := 164) hx hb dX4_wouldOpen_160 (by decide) ?_
              exact jn164 _ _ _ (one_bI (by first | (simp [c3, c4, c7, c10, c13, c14, c16]; done) | (simp; omega))) hP hD hS
            · skip
              rw [bI_z] at c16
              refine lv_aload_n hx hb dX4_wouldOpen_139 rfl (lv_at hl 2 rfl) ?_
              refine va_get (v := .int (nI (So x))) (Ts := wsX40) (C := RX4) (T := TX4) (N := 10) hx hb hwsX40 (fun _ h => h) hown hK hP 0 rfl rfl 9 (by decide) (hts (.fieldLink RX4 46 "AdventStreets$Street" "opened" "I") (List.mem_of_getElem? (i := 4) rfl)) (fun _ h9 => h9) rfl dX4_wouldOpen_140 ?_
              refine lv_iconst (v := nI (1)) hx hb dX4_wouldOpen_143 (by decide) ?_
              refine lv_ishl hx hb dX4_wouldOpen_144 ?_
              refine vn_i (v := nI ((So x) * 2 ^ 1)) (n_shl _ (by omega)) ?_
              refine lv_aload_n hx hb dX4_wouldOpen_145 rfl (lv_at hl 2 rfl) ?_
              refine va_get (v := .int (nI (So x))) (Ts := wsX40) (C := RX4) (T := TX4) (N := 10) hx hb hwsX40 (fun _ h => h) hown hK hP 0 rfl rfl 9 (by decide) (hts (.fieldLink RX4 46 "AdventStreets$Street" "opened" "I") (List.mem_of_getElem? (i := 4) rfl)) (fun _ h9 => h9) rfl dX4_wouldOpen_146 ?_
              refine lv_iconst (v := nI (1)) hx hb dX4_wouldOpen_149 (by decide) ?_
              refine lv_ishr hx hb dX4_wouldOpen_150 ?_
              refine vn_i (v := nI ((So x) / 2 ^ 1)) (n_shr (by omega) (by omega)) ?_
              refine lv_ior hx hb dX4_wouldOpen_151 ?_
              refine vn_i (v := nI (((So x) * 2 ^ 1) ||| ((So x) / 2 ^ 1))) (n_or _ _) ?_
              refine lv_iload_n hx hb dX4_wouldOpen_152 rfl (lv_at hl 3 rfl) ?_
              refine lv_ishr hx hb dX4_wouldOpen_153 ?_
              refine vn_i (v := nI ((((So x) * 2 ^ 1) ||| ((So x) / 2 ^ 1)) / 2 ^ w)) (n_shr (Nat.or_lt_two_pow (by omega) (by omega)) (by omega)) ?_
              refine lv_iconst (v := nI (1)) hx hb dX4_wouldOpen_154 (by decide) ?_
              refine lv_iand hx hb dX4_wouldOpen_155 ?_
              refine vn_i (v := bI ((((So x) * 2 ^ 1) ||| ((So x) / 2 ^ 1)).testBit w)) (n_bit _ _) ?_
              refine lv_if_eq (tgt := 163) hx hb dX4_wouldOpen_156 (by decide) (fun c17 => ?_) (fun c17 => ?_)
              · skip
                rw [bI_z] at c17
                refine lv_iconst (v := nI (0)) hx hb dX4_wouldOpen_163 (by decide) ?_
                exact jn164 _ _ _ (zero_bI (by first | (simp [c3, c4, c7, c10, c13, c14, c16, c17]; done) | (simp; omega))) hP hD hS
              · skip
                rw [bI_nz] at c17
                refine lv_iconst (v := nI (1)) hx hb dX4_wouldOpen_159 (by decide) ?_
                refine lv_goto (tgt := 164) hx hb dX4_wouldOpen_160 (by decide) ?_
                exact jn164 _ _ _ (one_bI (by first | (simp [c3, c4, c7, c10, c13, c14, c16, c17]; done) | (simp; omega))) hP hD hS
        · skip
          have hP : va_P D vwCl (stW cA a x) H := hP
          have hD : va_D A (stW cA a x) := hD
          exact hend _ _ _ _ _ hP hD hS (by first | (simp [wouldF, c3, c4, c7, c10, c13]; done) | (simp [wouldF, c3, c4, c7, c10, c13]; rfl)) dX4_wouldOpen_164
      have to39 : (nI (SK x w)).toInt < 1 ∨ 5 < (nI (SK x w)).toInt := by rw [nI_toInt (by omega)]; omega
      refine lv_tableOut (tgt := 165) hx hb dX4_wouldOpen_39 to39 (by decide) ?_
      refine lv_iconst (v := nI (0)) hx hb dX4_wouldOpen_165 (by decide) ?_
      exact hend _ _ _ _ _ hP hD hS (by first | (simp [wouldF, c3, c4, c7, c10, c13]; done) | (simp [wouldF, c3, c4, c7, c10, c13]; rfl)) dX4_wouldOpen_166
set_option maxRecDepth 100000 in
set_option maxHeartbeats 4000000 in
theorem c_X4_opening (l : Launch) (D : va_G) (cA : Nat → ClassId) (tt : Nat → Nat) (a : Nat → Nat) (x : Sg) (d part : Nat) (hg : Wk x) (hd : d < 1073741824) (hp : part < 1073741824) (sz : Nat) : Ci l D cA tt yX4_opening wsX4_opening ({ frames := 1, cells := 0, slots := 0, locals := 24 } : Room) [.ref (a 0), .int (nI (d)), .int (nI (part))] sz (stW cA a x) (stW cA a x) (nI (openF x d part)) := by
  obtain ⟨gn, ge, gv, go, ga⟩ := id hg
  refine Ci.mk (cc := cX4_opening) (maxL := 5) (ty := .int) (by decide) rfl rfl (Nat.le_of_ble_eq_true rfl) ?_
  intro p e s m below meth c A Q ls hB hl hend
  obtain ⟨⟨hx, hb, hml, hown, hts⟩, hP, hK, hD, hS, hA, hE⟩ := hB
  have hown : s.vm.findClass RX4 = some m.cls := hown
  have hwsX40 : ∀ w9 ∈ wsX40, w9.before ([.ref (a 0), .int (nI (d)), .int (nI (part))] : List Value).toArray s = true := fun w9 h => hts w9 (List.mem_cons_of_mem _ (List.mem_append_right _ h))
  have hl : lv_has ls 5 [(0, .ref (a 0)), (1, .int (nI (d))), (2, .int (nI (part)))] := hl
  refine lv_iconst (v := nI (0)) hx hb dX4_opening_0 (by decide) ?_
  refine lv_istore_n (lv' := [(3, .int (nI (0))), (0, .ref (a 0)), (1, .int (nI (d))), (2, .int (nI (part)))]) hx hb dX4_opening_1 rfl hl (by decide) rfl (fun ls hl => ?_)
  refine lv_iconst (v := nI (0)) hx hb dX4_opening_2 (by decide) ?_
  refine lv_istore (lv' := [(4, .int (nI (0))), (3, .int (nI (0))), (0, .ref (a 0)), (1, .int (nI (d))), (2, .int (nI (part)))]) hx hb dX4_opening_3 hl (by decide) rfl (fun ls hl => ?_)
  have loop5 : ∀ (N5 : Nat) (i : Nat), (i ≤ Sn x) → (Sn x - i) < N5 → ∀ (H : Heap) (locs : List Loc) (ls : Array Slot), va_P D vwCl (stW cA a x) H → va_D A (stW cA a x) → va_S A s.heap H locs → lv_has ls 5 [(4, .int (nI (i))), (3, .int (nI (mkb i (openP x d part)))), (0, .ref (a 0)), (1, .int (nI (d))), (2, .int (nI (part)))] → W p l e ({ frames := 1, cells := 0, slots := 0, locals := 24 } : Room) s m ([.ref (a 0), .int (nI (d)), .int (nI (part))] : List Value).toArray below meth c H locs 0 0 Q (F0 m 5 ls []) := by
    intro N5
    induction N5 with
    | zero => intro i iv5_0 hN; exact absurd hN (Nat.not_lt_zero _)
    | succ N5 ih5 =>
      intro i iv5_0 hN5 H locs ls hP hD hS hl
      refine lv_iload hx hb dX4_opening_5 (lv_at hl 0 rfl) ?_
      refine lv_aload_n hx hb dX4_opening_7 rfl (lv_at hl 2 rfl) ?_
      refine va_get (v := .int (nI (Sn x))) (Ts := wsX40) (C := RX4) (T := TX4) (N := 10) hx hb hwsX40 (fun _ h => h) hown hK hP 0 rfl rfl 5 (by decide) (hts (.fieldLink RX4 33 "AdventStreets$Street" "windows" "I") (List.mem_of_getElem? (i := 1) rfl)) (fun _ h9 => h9) rfl dX4_opening_8 ?_
      refine lv_icmp_ge (tgt := 53) hx hb dX4_opening_11 (by decide) (fun c2 => ?_) (fun c2 => ?_)
      · skip
        rw [nI_leI (by omega) (by omega)] at c2
        refine lv_iload_n hx hb dX4_opening_53 rfl (lv_at hl 1 rfl) ?_
        exact hend _ _ _ _ _ hP hD hS (by rw [show i = Sn x by omega]; rfl) dX4_opening_54
      · skip
        rw [nI_leI (by omega) (by omega)] at c2
        refine lv_iload_n hx hb dX4_opening_14 rfl (lv_at hl 4 rfl) ?_
        refine lv_aload_n hx hb dX4_opening_15 rfl (lv_at hl 2 rfl) ?_
        refine va_get (v := .int (nI (So x))) (Ts := wsX40) (C := RX4) (T := TX4) (N := 10) hx hb hwsX40 (fun _ h => h) hown hK hP 0 rfl rfl 9 (by decide) (hts (.fieldLink RX4 46 "AdventStreets$Street" "opened" "I") (List.mem_of_getElem? (i := 2) rfl)) (fun _ h9 => h9) rfl dX4_opening_16 ?_
        refine lv_iconst (v := (-1)) hx hb dX4_opening_19 (by decide) ?_
        refine lv_ixor hx hb dX4_opening_20 ?_
        refine lv_iand hx hb dX4_opening_21 ?_
        refine vn_i (v := nI (andn part (So x))) (n_andn) ?_
        refine lv_iload hx hb dX4_opening_22 (lv_at hl 0 rfl) ?_
        refine lv_ishr hx hb dX4_opening_24 ?_
        refine vn_i (v := nI ((andn part (So x)) / 2 ^ i)) (n_shr (Nat.lt_of_le_of_lt (andn_le _ _) (by omega)) (by omega)) ?_
        refine lv_iconst (v := nI (1)) hx hb dX4_opening_25 (by decide) ?_
        refine lv_iand hx hb dX4_opening_26 ?_
        refine vn_i (v := bI ((andn part (So x)).testBit i)) (n_bit _ _) ?_
        refine lv_if_eq (tgt := 47) hx hb dX4_opening_27 (by decide) (fun c3 => ?_) (fun c3 => ?_)
        · skip
          rw [bI_z] at c3
          refine lv_iinc (v := nI (i + 1)) (lv' := [(4, .int (nI (i + 1))), (3, .int (nI (mkb i (openP x d part)))), (0, .ref (a 0)), (1, .int (nI (d))), (2, .int (nI (part)))]) hx hb dX4_opening_47 hl (k := 0) rfl (nI_add _ _) (by decide) rfl (fun ls hl => ?_)
          refine lv_goto (tgt := 5) hx hb dX4_opening_50 (by decide) ?_
          have hl9 := lv_sub (l' := [(4, .int (nI (i + 1))), (3, .int (nI (mkb i (openP x d part)))), (0, .ref (a 0)), (1, .int (nI (d))), (2, .int (nI (part)))]) hl [0, 1, 2, 3, 4] rfl
          have el4 : (.int (nI (mkb i (openP x d part))) : Value) = .int (nI (mkb (i + 1) (openP x d part))) := by
            rw [mkb_succ, if_neg (by simp [openP, c2, c3])]
          rw [el4] at hl9
          exact ih5 (i + 1) (by omega) (by omega) _ _ _ hP hD hS hl9
        · skip
          rw [bI_nz] at c3
          refine lv_aload_n hx hb dX4_opening_30 rfl (lv_at hl 2 rfl) ?_
          refine lv_iload hx hb dX4_opening_31 (lv_at hl 0 rfl) ?_
          refine lv_iload_n hx hb dX4_opening_33 rfl (lv_at hl 3 rfl) ?_
          refine cVi (n := 2) (As := [.int (nI (i)), .int (nI (d))]) (rest := []) (C := RX4) (ci := 4) (q0 := 0) (X := (stW cA a x)) (pl := []) (wc := (stW cA a x)) (wr := ([] : va_W)) (w1 := (stW cA a x)) (wn := (stW cA a x)) (isC := [0, 1, 2, 3, 4, 5]) (isR := []) (isN := [0, 1, 2, 3, 4, 5]) ⟨hx, hb, hml, hown, hts⟩ (c_X4_wouldOpen l D cA tt a x i d (by first | assumption | omega) (by first | assumption | omega) (by first | assumption | omega) _) gX4_opening_X4_wouldOpen rfl (by decide +kernel) rfl rfl ⟨rfl, rfl⟩ ⟨Nat.le_of_ble_eq_true rfl, Nat.le_of_ble_eq_true rfl⟩ ⟨Nat.zero_le _, Nat.zero_le _⟩ hK hE hA hP hD hS ⟨⟨rfl, by decide⟩, ⟨rfl, by decide, by decide⟩, rfl, by decide⟩ rfl hl.1 rfl (Nat.le_of_ble_eq_true rfl) dX4_opening_34 (fun H locs hP hD hS => ?_)
          have hP : va_P D vwCl (stW cA a x) H := hP
          have hD : va_D A (stW cA a x) := hD
          refine lv_if_eq (tgt := 47) hx hb dX4_opening_37 (by decide) (fun c5 => ?_) (fun c5 => ?_)
          · skip
            rw [bI_z] at c5
            refine lv_iinc (v := nI (i + 1)) (lv' := [(4, .int (nI (i + 1))), (3, .int (nI (mkb i (openP x d part)))), (0, .ref (a 0)), (1, .int (nI (d))), (2, .int (nI (part)))]) hx hb dX4_opening_47 hl (k := 0) rfl (nI_add _ _) (by decide) rfl (fun ls hl => ?_)
            refine lv_goto (tgt := 5) hx hb dX4_opening_50 (by decide) ?_
            have hl9 := lv_sub (l' := [(4, .int (nI (i + 1))), (3, .int (nI (mkb i (openP x d part)))), (0, .ref (a 0)), (1, .int (nI (d))), (2, .int (nI (part)))]) hl [0, 1, 2, 3, 4] rfl
            have el6 : (.int (nI (mkb i (openP x d part))) : Value) = .int (nI (mkb (i + 1) (openP x d part))) := by
              rw [mkb_succ, if_neg (by simp [openP, c2, c3, c5])]
            rw [el6] at hl9
            exact ih5 (i + 1) (by omega) (by omega) _ _ _ hP hD hS hl9
          · skip
            rw [bI_nz] at c5
            refine lv_iload_n hx hb dX4_opening_40 rfl (lv_at hl 1 rfl) ?_
            refine lv_iconst (v := nI (1)) hx hb dX4_opening_41 (by decide) ?_
            refine lv_iload hx hb dX4_opening_42 (lv_at hl 0 rfl) ?_
            refine lv_ishl hx hb dX4_opening_44 ?_
            refine vn_i (v := nI (2 ^ i)) (n_shl1 (by omega)) ?_
            refine lv_ior hx hb dX4_opening_45 ?_
            refine vn_i (v := nI ((mkb i (openP x d part)) ||| (2 ^ i))) (n_or _ _) ?_
            refine lv_istore_n (lv' := [(3, .int (nI ((mkb i (openP x d part)) ||| (2 ^ i)))), (4, .int (nI (i))), (0, .ref (a 0)), (1, .int (nI (d))), (2, .int (nI (part)))]) hx hb dX4_opening_46 rfl hl (by decide) rfl (fun ls hl => ?_)
            refine lv_iinc (v := nI (i + 1)) (lv' := [(4, .int (nI (i + 1))), (3, .int (nI ((mkb i (openP x d part)) ||| (2 ^ i)))), (0, .ref (a 0)), (1, .int (nI (d))), (2, .int (nI (part)))]) hx hb dX4_opening_47 hl (k := 1) rfl (nI_add _ _) (by decide) rfl (fun ls hl => ?_)
            refine lv_goto (tgt := 5) hx hb dX4_opening_50 (by decide) ?_
            have hl9 := lv_sub (l' := [(4, .int (nI (i + 1))), (3, .int (nI ((mkb i (openP x d part)) ||| (2 ^ i)))), (0, .ref (a 0)), (1, .int (nI (d))), (2, .int (nI (part)))]) hl [0, 1, 2, 3, 4] rfl
            have el7 : (.int (nI ((mkb i (openP x d part)) ||| (2 ^ i))) : Value) = .int (nI (mkb (i + 1) (openP x d part))) := by
              rw [mkb_succ, if_pos (by simp [openP, c2, c3, c5])]
            rw [el7] at hl9
            exact ih5 (i + 1) (by omega) (by omega) _ _ _ hP hD hS hl9
  have hl9 := lv_sub (l' := [(4, .int (nI (0))), (3, .int (nI (0))), (0, .ref (a 0)), (1, .int (nI (d))), (2, .int (nI (part)))]) hl [0, 1, 2, 3, 4] rfl
  have el8 : (.int (nI (0)) : Value) = .int (nI (mkb 0 (openP x d part))) := by
    rfl
  rw [el8] at hl9
  exact loop5 _ 0 (by omega) (Nat.lt_succ_self _) _ _ _ hP hD hS hl9
set_option maxRecDepth 100000 in
set_option maxHeartbeats 4000000 in
theorem c_X4_near (l : Launch) (D : va_G) (cA : Nat → ClassId) (tt : Nat → Nat) (a : Nat → Nat) (x : Sg) (sm : Nat) (hg : Wk x) (hs : sm < 1048576) (sz : Nat) : Ci l D cA tt yX4_near wsX4_near ({ frames := 1, cells := 0, slots := 0, locals := 20 } : Room) [.ref (a 0), .int (nI (sm))] sz (stW cA a x) (stW cA a x) (nI (nearL sm (Sv x))) := by
  obtain ⟨gn, ge, gv, go, ga⟩ := id hg
  refine Ci.mk (cc := cX4_near) (maxL := 4) (ty := .int) (by decide) rfl rfl (Nat.le_of_ble_eq_true rfl) ?_
  intro p e s m below meth c A Q ls hB hl hend
  obtain ⟨⟨hx, hb, hml, hown, hts⟩, hP, hK, hD, hS, hA, hE⟩ := hB
  have hown : s.vm.findClass RX4 = some m.cls := hown
  have hwsX40 : ∀ w9 ∈ wsX40, w9.before ([.ref (a 0), .int (nI (sm))] : List Value).toArray s = true := fun w9 h => hts w9 (List.mem_cons_of_mem _ (List.mem_append_right _ h))
  have hl : lv_has ls 4 [(0, .ref (a 0)), (1, .int (nI (sm)))] := hl
  refine lv_iconst (v := nI (0)) hx hb dX4_near_0 (by decide) ?_
  refine lv_istore_n (lv' := [(2, .int (nI (0))), (0, .ref (a 0)), (1, .int (nI (sm)))]) hx hb dX4_near_1 rfl hl (by decide) rfl (fun ls hl => ?_)
  refine lv_iconst (v := nI (1)) hx hb dX4_near_2 (by decide) ?_
  refine lv_istore_n (lv' := [(3, .int (nI (1))), (2, .int (nI (0))), (0, .ref (a 0)), (1, .int (nI (sm)))]) hx hb dX4_near_3 rfl hl (by decide) rfl (fun ls hl => ?_)
  have loop4 : ∀ (N4 : Nat) (i : Nat), (i ≤ Sv x) → (Sv x - i) < N4 → ∀ (H : Heap) (locs : List Loc) (ls : Array Slot), va_P D vwCl (stW cA a x) H → va_D A (stW cA a x) → va_S A s.heap H locs → lv_has ls 4 [(3, .int (nI (i + 1))), (2, .int (nI (nearL sm i))), (0, .ref (a 0)), (1, .int (nI (sm)))] → W p l e ({ frames := 1, cells := 0, slots := 0, locals := 20 } : Room) s m ([.ref (a 0), .int (nI (sm))] : List Value).toArray below meth c H locs 0 0 Q (F0 m 4 ls []) := by
    intro N4
    induction N4 with
    | zero => intro i iv4_0 hN; exact absurd hN (Nat.not_lt_zero _)
    | succ N4 ih4 =>
      intro i iv4_0 hN4 H locs ls hP hD hS hl
      refine lv_iload_n hx hb dX4_near_4 rfl (lv_at hl 0 rfl) ?_
      refine lv_aload_n hx hb dX4_near_5 rfl (lv_at hl 2 rfl) ?_
      refine va_get (v := .int (nI (Sv x))) (Ts := wsX40) (C := RX4) (T := TX4) (N := 10) hx hb hwsX40 (fun _ h => h) hown hK hP 0 rfl rfl 7 (by decide) (hts (.fieldLink RX4 40 "AdventStreets$Street" "sight" "I") (List.mem_of_getElem? (i := 1) rfl)) (fun _ h9 => h9) rfl dX4_near_6 ?_
      refine lv_icmp_gt (tgt := 28) hx hb dX4_near_9 (by decide) (fun c2 => ?_) (fun c2 => ?_)
      · skip
        rw [nI_ltI (by omega) (by omega)] at c2
        refine lv_iload_n hx hb dX4_near_28 rfl (lv_at hl 1 rfl) ?_
        exact hend _ _ _ _ _ hP hD hS (by rw [show i = Sv x by omega]) dX4_near_29
      · skip
        rw [nI_ltI (by omega) (by omega)] at c2
        refine lv_iload_n hx hb dX4_near_12 rfl (lv_at hl 1 rfl) ?_
        refine lv_iload_n hx hb dX4_near_13 rfl (lv_at hl 3 rfl) ?_
        refine lv_iload_n hx hb dX4_near_14 rfl (lv_at hl 0 rfl) ?_
        refine lv_ishl hx hb dX4_near_15 ?_
        refine vn_i (v := nI (sm * 2 ^ (i + 1))) (n_shl _ (by omega)) ?_
        refine lv_iload_n hx hb dX4_near_16 rfl (lv_at hl 3 rfl) ?_
        refine lv_iload_n hx hb dX4_near_17 rfl (lv_at hl 0 rfl) ?_
        refine lv_ishr hx hb dX4_near_18 ?_
        refine vn_i (v := nI (sm / 2 ^ (i + 1))) (n_shr (by omega) (by omega)) ?_
        refine lv_ior hx hb dX4_near_19 ?_
        refine vn_i (v := nI ((sm * 2 ^ (i + 1)) ||| (sm / 2 ^ (i + 1)))) (n_or _ _) ?_
        refine lv_ior hx hb dX4_near_20 ?_
        refine vn_i (v := nI ((nearL sm i) ||| ((sm * 2 ^ (i + 1)) ||| (sm / 2 ^ (i + 1))))) (n_or _ _) ?_
        refine lv_istore_n (lv' := [(2, .int (nI ((nearL sm i) ||| ((sm * 2 ^ (i + 1)) ||| (sm / 2 ^ (i + 1)))))), (3, .int (nI (i + 1))), (0, .ref (a 0)), (1, .int (nI (sm)))]) hx hb dX4_near_21 rfl hl (by decide) rfl (fun ls hl => ?_)
        refine lv_iinc (v := nI (i + 1 + 1)) (lv' := [(3, .int (nI (i + 1 + 1))), (2, .int (nI ((nearL sm i) ||| ((sm * 2 ^ (i + 1)) ||| (sm / 2 ^ (i + 1)))))), (0, .ref (a 0)), (1, .int (nI (sm)))]) hx hb dX4_near_22 hl (k := 1) rfl (nI_add _ _) (by decide) rfl (fun ls hl => ?_)
        refine lv_goto (tgt := 4) hx hb dX4_near_25 (by decide) ?_
        have hl9 := lv_sub (l' := [(3, .int (nI (i + 1 + 1))), (2, .int (nI ((nearL sm i) ||| ((sm * 2 ^ (i + 1)) ||| (sm / 2 ^ (i + 1)))))), (0, .ref (a 0)), (1, .int (nI (sm)))]) hl [0, 1, 2, 3] rfl
        have el3 : (.int (nI (i + 1 + 1)) : Value) = .int (nI ((i + 1) + 1)) := by
          rfl
        rw [el3] at hl9
        have el4 : (.int (nI ((nearL sm i) ||| ((sm * 2 ^ (i + 1)) ||| (sm / 2 ^ (i + 1))))) : Value) = .int (nI (nearL sm (i + 1))) := by
          rfl
        rw [el4] at hl9
        exact ih4 (i + 1) (by omega) (by omega) _ _ _ hP hD hS hl9
  have hl9 := lv_sub (l' := [(3, .int (nI (1))), (2, .int (nI (0))), (0, .ref (a 0)), (1, .int (nI (sm)))]) hl [0, 1, 2, 3] rfl
  have el5 : (.int (nI (1)) : Value) = .int (nI (0 + 1)) := by
    rfl
  rw [el5] at hl9
  have el6 : (.int (nI (0)) : Value) = .int (nI (nearL sm 0)) := by
    rfl
  rw [el6] at hl9
  exact loop4 _ 0 (by omega) (Nat.lt_succ_self _) _ _ _ hP hD hS hl9
set_option maxRecDepth 100000 in
set_option maxHeartbeats 4000000 in
theorem c_X4_shutOnes (l : Launch) (D : va_G) (cA : Nat → ClassId) (tt : Nat → Nat) (a : Nat → Nat) (x : Sg) (hg : Wk x) (sz : Nat) : Ci l D cA tt yX4_shutOnes wsX4_shutOnes ({ frames := 1, cells := 0, slots := 0, locals := 20 } : Room) [.ref (a 0)] sz (stW cA a x) (stW cA a x) (nI (andn (allF x) (So x))) := by
  obtain ⟨gn, ge, gv, go, ga⟩ := id hg
  refine Ci.mk (cc := cX4_shutOnes) (maxL := 1) (ty := .int) (by decide) rfl rfl (Nat.le_of_ble_eq_true rfl) ?_
  intro p e s m below meth c A Q ls hB hl hend
  obtain ⟨⟨hx, hb, hml, hown, hts⟩, hP, hK, hD, hS, hA, hE⟩ := hB
  have hown : s.vm.findClass RX4 = some m.cls := hown
  have hwsX40 : ∀ w9 ∈ wsX40, w9.before ([.ref (a 0)] : List Value).toArray s = true := fun w9 h => hts w9 (List.mem_cons_of_mem _ (List.mem_append_right _ h))
  have hl : lv_has ls 1 [(0, .ref (a 0))] := hl
  refine lv_aload_n hx hb dX4_shutOnes_0 rfl (lv_at hl 0 rfl) ?_
  refine cVi (n := 0) (As := []) (rest := []) (C := RX4) (ci := 4) (q0 := 0) (X := (stW cA a x)) (pl := []) (wc := (stW cA a x)) (wr := ([] : va_W)) (w1 := (stW cA a x)) (wn := (stW cA a x)) (isC := [0, 1, 2, 3, 4, 5]) (isR := []) (isN := [0, 1, 2, 3, 4, 5]) ⟨hx, hb, hml, hown, hts⟩ (c_X4_all l D cA tt a x (by first | assumption | omega) _) gX4_shutOnes_X4_all rfl (by decide +kernel) rfl rfl ⟨rfl, rfl⟩ ⟨Nat.le_of_ble_eq_true rfl, Nat.le_of_ble_eq_true rfl⟩ ⟨Nat.zero_le _, Nat.zero_le _⟩ hK hE hA hP hD hS ⟨⟨rfl, by decide⟩, ⟨rfl, by decide, by decide⟩, rfl, by decide⟩ rfl hl.1 rfl (Nat.le_of_ble_eq_true rfl) dX4_shutOnes_1 (fun H locs hP hD hS => ?_)
  have hP : va_P D vwCl (stW cA a x) H := hP
  have hD : va_D A (stW cA a x) := hD
  refine lv_aload_n hx hb dX4_shutOnes_4 rfl (lv_at hl 0 rfl) ?_
  refine va_get (v := .int (nI (So x))) (Ts := wsX40) (C := RX4) (T := TX4) (N := 10) hx hb hwsX40 (fun _ h => h) hown hK hP 0 rfl rfl 9 (by decide) (hts (.fieldLink RX4 46 "AdventStreets$Street" "opened" "I") (List.mem_of_getElem? (i := 1) rfl)) (fun _ h9 => h9) rfl dX4_shutOnes_5 ?_
  refine lv_iconst (v := (-1)) hx hb dX4_shutOnes_8 (by decide) ?_
  refine lv_ixor hx hb dX4_shutOnes_9 ?_
  refine lv_iand hx hb dX4_shutOnes_10 ?_
  refine vn_i (v := nI (andn (allF x) (So x))) (n_andn) ?_
  exact hend _ _ _ _ _ hP hD hS (rfl) dX4_shutOnes_11
set_option maxRecDepth 100000 in
set_option maxHeartbeats 4000000 in
theorem c_X4_picturesOf (l : Launch) (D : va_G) (cA : Nat → ClassId) (tt : Nat → Nat) (a : Nat → Nat) (x : Sg) (sm : Nat) (hg : Wk x) (hs : sm < 1073741824) (sz : Nat) : Ci l D cA tt yX4_picturesOf wsX4_picturesOf ({ frames := 0, cells := 0, slots := 0, locals := 0 } : Room) [.ref (a 0), .int (nI (sm))] sz (stW cA a x) (stW cA a x) (nI (picsF x sm)) := by
  obtain ⟨gn, ge, gv, go, ga⟩ := id hg
  refine Ci.mk (cc := cX4_picturesOf) (maxL := 4) (ty := .int) (by decide) rfl rfl (Nat.le_of_ble_eq_true rfl) ?_
  intro p e s m below meth c A Q ls hB hl hend
  obtain ⟨⟨hx, hb, hml, hown, hts⟩, hP, hK, hD, hS, hA, hE⟩ := hB
  have hown : s.vm.findClass RX4 = some m.cls := hown
  have hwsX40 : ∀ w9 ∈ wsX40, w9.before ([.ref (a 0), .int (nI (sm))] : List Value).toArray s = true := fun w9 h => hts w9 (List.mem_cons_of_mem _ (List.mem_append_right _ h))
  have hl : lv_has ls 4 [(0, .ref (a 0)), (1, .int (nI (sm)))] := hl
  refine lv_iconst (v := nI (0)) hx hb dX4_picturesOf_0 (by decide) ?_
  refine lv_istore_n (lv' := [(2, .int (nI (0))), (0, .ref (a 0)), (1, .int (nI (sm)))]) hx hb dX4_picturesOf_1 rfl hl (by decide) rfl (fun ls hl => ?_)
  refine lv_iconst (v := nI (0)) hx hb dX4_picturesOf_2 (by decide) ?_
  refine lv_istore_n (lv' := [(3, .int (nI (0))), (2, .int (nI (0))), (0, .ref (a 0)), (1, .int (nI (sm)))]) hx hb dX4_picturesOf_3 rfl hl (by decide) rfl (fun ls hl => ?_)
  have loop4 : ∀ (N4 : Nat) (i : Nat), (i ≤ Sn x) → (Sn x - i) < N4 → ∀ (H : Heap) (locs : List Loc) (ls : Array Slot), va_P D vwCl (stW cA a x) H → va_D A (stW cA a x) → va_S A s.heap H locs → lv_has ls 4 [(3, .int (nI (i))), (2, .int (nI (orN i (picT x sm)))), (0, .ref (a 0)), (1, .int (nI (sm)))] → W p l e ({ frames := 0, cells := 0, slots := 0, locals := 0 } : Room) s m ([.ref (a 0), .int (nI (sm))] : List Value).toArray below meth c H locs 0 0 Q (F0 m 4 ls []) := by
    intro N4
    induction N4 with
    | zero => intro i iv4_0 hN; exact absurd hN (Nat.not_lt_zero _)
    | succ N4 ih4 =>
      intro i iv4_0 hN4 H locs ls hP hD hS hl
      refine lv_iload_n hx hb dX4_picturesOf_4 rfl (lv_at hl 0 rfl) ?_
      refine lv_aload_n hx hb dX4_picturesOf_5 rfl (lv_at hl 2 rfl) ?_
      refine va_get (v := .int (nI (Sn x))) (Ts := wsX40) (C := RX4) (T := TX4) (N := 10) hx hb hwsX40 (fun _ h => h) hown hK hP 0 rfl rfl 5 (by decide) (hts (.fieldLink RX4 33 "AdventStreets$Street" "windows" "I") (List.mem_of_getElem? (i := 1) rfl)) (fun _ h9 => h9) rfl dX4_picturesOf_6 ?_
      refine lv_icmp_ge (tgt := 37) hx hb dX4_picturesOf_9 (by decide) (fun c2 => ?_) (fun c2 => ?_)
      · skip
        rw [nI_leI (by omega) (by omega)] at c2
        refine lv_iload_n hx hb dX4_picturesOf_37 rfl (lv_at hl 1 rfl) ?_
        exact hend _ _ _ _ _ hP hD hS (by rw [show i = Sn x by omega]; rfl) dX4_picturesOf_38
      · skip
        rw [nI_leI (by omega) (by omega)] at c2
        refine lv_iload_n hx hb dX4_picturesOf_12 rfl (lv_at hl 3 rfl) ?_
        refine lv_iload_n hx hb dX4_picturesOf_13 rfl (lv_at hl 0 rfl) ?_
        refine lv_ishr hx hb dX4_picturesOf_14 ?_
        refine vn_i (v := nI (sm / 2 ^ i)) (n_shr (by omega) (by omega)) ?_
        refine lv_iconst (v := nI (1)) hx hb dX4_picturesOf_15 (by decide) ?_
        refine lv_iand hx hb dX4_picturesOf_16 ?_
        refine vn_i (v := bI (sm.testBit i)) (n_bit _ _) ?_
        refine lv_if_eq (tgt := 31) hx hb dX4_picturesOf_17 (by decide) (fun c3 => ?_) (fun c3 => ?_)
        · skip
          rw [bI_z] at c3
          refine lv_iinc (v := nI (i + 1)) (lv' := [(3, .int (nI (i + 1))), (2, .int (nI (orN i (picT x sm)))), (0, .ref (a 0)), (1, .int (nI (sm)))]) hx hb dX4_picturesOf_31 hl (k := 0) rfl (nI_add _ _) (by decide) rfl (fun ls hl => ?_)
          refine lv_goto (tgt := 4) hx hb dX4_picturesOf_34 (by decide) ?_
          have hl9 := lv_sub (l' := [(3, .int (nI (i + 1))), (2, .int (nI (orN i (picT x sm)))), (0, .ref (a 0)), (1, .int (nI (sm)))]) hl [0, 1, 2, 3] rfl
          have el4 : (.int (nI (orN i (picT x sm))) : Value) = .int (nI (orN (i + 1) (picT x sm))) := by
            simp [orN, picT, c2, c3]
          rw [el4] at hl9
          exact ih4 (i + 1) (by omega) (by omega) _ _ _ hP hD hS hl9
        · skip
          rw [bI_nz] at c3
          refine lv_iload_n hx hb dX4_picturesOf_20 rfl (lv_at hl 1 rfl) ?_
          refine lv_iconst (v := nI (1)) hx hb dX4_picturesOf_21 (by decide) ?_
          refine lv_aload_n hx hb dX4_picturesOf_22 rfl (lv_at hl 2 rfl) ?_
          refine va_get (v := .ref (a 3)) (Ts := wsX40) (C := RX4) (T := TX4) (N := 10) hx hb hwsX40 (fun _ h => h) hown hK hP 0 rfl rfl 2 (by decide) (hts (.fieldLink RX4 18 "AdventStreets$Street" "pictures" "[I") (List.mem_of_getElem? (i := 2) rfl)) (fun _ h9 => h9) rfl dX4_picturesOf_23 ?_
          refine lv_iload_n hx hb dX4_picturesOf_26 rfl (lv_at hl 0 rfl) ?_
          refine r_ald (f := SP x) hx hb hK hP 3 rfl (i := i) (by omega) (by decide) dX4_picturesOf_27 ?_
          have f27_f5 := ga i (by omega)
          refine lv_ishl hx hb dX4_picturesOf_28 ?_
          refine vn_i (v := nI (2 ^ (SP x i))) (n_shl1 (by omega)) ?_
          refine lv_ior hx hb dX4_picturesOf_29 ?_
          refine vn_i (v := nI ((orN i (picT x sm)) ||| (2 ^ (SP x i)))) (n_or _ _) ?_
          refine lv_istore_n (lv' := [(2, .int (nI ((orN i (picT x sm)) ||| (2 ^ (SP x i))))), (3, .int (nI (i))), (0, .ref (a 0)), (1, .int (nI (sm)))]) hx hb dX4_picturesOf_30 rfl hl (by decide) rfl (fun ls hl => ?_)
          refine lv_iinc (v := nI (i + 1)) (lv' := [(3, .int (nI (i + 1))), (2, .int (nI ((orN i (picT x sm)) ||| (2 ^ (SP x i))))), (0, .ref (a 0)), (1, .int (nI (sm)))]) hx hb dX4_picturesOf_31 hl (k := 1) rfl (nI_add _ _) (by decide) rfl (fun ls hl => ?_)
          refine lv_goto (tgt := 4) hx hb dX4_picturesOf_34 (by decide) ?_
          have hl9 := lv_sub (l' := [(3, .int (nI (i + 1))), (2, .int (nI ((orN i (picT x sm)) ||| (2 ^ (SP x i))))), (0, .ref (a 0)), (1, .int (nI (sm)))]) hl [0, 1, 2, 3] rfl
          have el6 : (.int (nI ((orN i (picT x sm)) ||| (2 ^ (SP x i)))) : Value) = .int (nI (orN (i + 1) (picT x sm))) := by
            simp [orN, picT, c2, c3]
          rw [el6] at hl9
          exact ih4 (i + 1) (by omega) (by omega) _ _ _ hP hD hS hl9
  have hl9 := lv_sub (l' := [(3, .int (nI (0))), (2, .int (nI (0))), (0, .ref (a 0)), (1, .int (nI (sm)))]) hl [0, 1, 2, 3] rfl
  have el7 : (.int (nI (0)) : Value) = .int (nI (orN 0 (picT x sm))) := by
    rfl
  rw [el7] at hl9
  exact loop4 _ 0 (by omega) (Nat.lt_succ_self _) _ _ _ hP hD hS hl9
set_option maxRecDepth 100000 in
set_option maxHeartbeats 4000000 in
theorem c_X4_look (l : Launch) (D : va_G) (cA : Nat → ClassId) (tt : Nat → Nat) (a : Nat → Nat) (x : Sg) (hg : Wk x) (sz : Nat) : Cv l D cA tt yX4_look wsX4_look ({ frames := 2, cells := 0, slots := 0, locals := 43 } : Room) [.ref (a 0)] sz (stW cA a x) (stW cA a (lookF x)) := by
  obtain ⟨gn, ge, gv, go, ga⟩ := id hg
  refine Cv.mk (cc := cX4_look) (maxL := 2) (by decide) rfl (Nat.le_of_ble_eq_true rfl) ?_
  intro p e s m below meth c A Q ls hB hl hend
  obtain ⟨⟨hx, hb, hml, hown, hts⟩, hP, hK, hD, hS, hA, hE⟩ := hB
  have hown : s.vm.findClass RX4 = some m.cls := hown
  have hwsX40 : ∀ w9 ∈ wsX40, w9.before ([.ref (a 0)] : List Value).toArray s = true := fun w9 h => hts w9 (List.mem_cons_of_mem _ (List.mem_append_right _ h))
  have hl : lv_has ls 2 [(0, .ref (a 0))] := hl
  refine lv_aload_n hx hb dX4_look_0 rfl (lv_at hl 0 rfl) ?_
  refine va_get (v := .int (nI (So x))) (Ts := wsX40) (C := RX4) (T := TX4) (N := 10) hx hb hwsX40 (fun _ h => h) hown hK hP 0 rfl rfl 9 (by decide) (hts (.fieldLink RX4 46 "AdventStreets$Street" "opened" "I") (List.mem_of_getElem? (i := 1) rfl)) (fun _ h9 => h9) rfl dX4_look_1 ?_
  refine lv_if_eq (tgt := 14) hx hb dX4_look_4 (by decide) (fun c1 => ?_) (fun c1 => ?_)
  · skip
    rw [n_z (by omega)] at c1
    have ef2 : ((stW cA a x) : va_W) = (stW cA a (lookF x)) := by
      exact congrArg (stW cA a) (if_pos (Or.inl c1)).symm
    have hP : va_P D vwCl (stW cA a (lookF x)) _ := Eq.mp (congrArg (fun z9 => va_P D vwCl z9 _) ef2) hP
    have hD : va_D A (stW cA a (lookF x)) := Eq.mp (congrArg (fun z9 => va_D A z9) ef2) hD
    exact hend _ _ _ _ hP hD hS dX4_look_14
  · skip
    rw [n_z (by omega)] at c1
    refine lv_aload_n hx hb dX4_look_7 rfl (lv_at hl 0 rfl) ?_
    refine va_get (v := .int (nI (Sv x))) (Ts := wsX40) (C := RX4) (T := TX4) (N := 10) hx hb hwsX40 (fun _ h => h) hown hK hP 0 rfl rfl 7 (by decide) (hts (.fieldLink RX4 40 "AdventStreets$Street" "sight" "I") (List.mem_of_getElem? (i := 2) rfl)) (fun _ h9 => h9) rfl dX4_look_8 ?_
    refine lv_if_ne (tgt := 15) hx hb dX4_look_11 (by decide) (fun c3 => ?_) (fun c3 => ?_)
    · skip
      rw [n_z (by omega)] at c3
      refine lv_iconst (v := nI (0)) hx hb dX4_look_15 (by decide) ?_
      refine lv_istore_n (lv' := [(1, .int (nI (0))), (0, .ref (a 0))]) hx hb dX4_look_16 rfl hl (by decide) rfl (fun ls hl => ?_)
      have loop17 : ∀ (N17 : Nat) (i : Nat), (i ≤ Sn x) → (Sn x - i) < N17 → ∀ (H : Heap) (locs : List Loc) (ls : Array Slot), va_P D vwCl (stW cA a (Sn x, Se x, Sv x, St x, So x, SK x, SP x, SD x, SG x, don i (lookS x) (SS x))) H → va_D A (stW cA a (Sn x, Se x, Sv x, St x, So x, SK x, SP x, SD x, SG x, don i (lookS x) (SS x))) → va_S A s.heap H locs → lv_has ls 2 [(1, .int (nI (i))), (0, .ref (a 0))] → W p l e ({ frames := 2, cells := 0, slots := 0, locals := 43 } : Room) s m ([.ref (a 0)] : List Value).toArray below meth c H locs 0 0 Q (F0 m 17 ls []) := by
        intro N17
        induction N17 with
        | zero => intro i iv17_0 hN; exact absurd hN (Nat.not_lt_zero _)
        | succ N17 ih17 =>
          intro i iv17_0 hN17 H locs ls hP hD hS hl
          refine lv_iload_n hx hb dX4_look_17 rfl (lv_at hl 0 rfl) ?_
          refine lv_aload_n hx hb dX4_look_18 rfl (lv_at hl 1 rfl) ?_
          refine va_get (v := .int (nI (Sn x))) (Ts := wsX40) (C := RX4) (T := TX4) (N := 10) hx hb hwsX40 (fun _ h => h) hown hK hP 0 rfl rfl 5 (by decide) (hts (.fieldLink RX4 33 "AdventStreets$Street" "windows" "I") (List.mem_of_getElem? (i := 3) rfl)) (fun _ h9 => h9) rfl dX4_look_19 ?_
          refine lv_icmp_ge (tgt := 56) hx hb dX4_look_22 (by decide) (fun c5 => ?_) (fun c5 => ?_)
          · skip
            rw [nI_leI (by omega) (by omega)] at c5
            have ef6 : ((stW cA a (Sn x, Se x, Sv x, St x, So x, SK x, SP x, SD x, SG x, don i (lookS x) (SS x))) : va_W) = (stW cA a (lookF x)) := by
              rw [show i = Sn x by omega]
              exact congrArg (stW cA a) (if_neg (fun q => q.elim c1 c3)).symm
            have hP : va_P D vwCl (stW cA a (lookF x)) _ := Eq.mp (congrArg (fun z9 => va_P D vwCl z9 _) ef6) hP
            have hD : va_D A (stW cA a (lookF x)) := Eq.mp (congrArg (fun z9 => va_D A z9) ef6) hD
            exact hend _ _ _ _ hP hD hS dX4_look_56
          · skip
            rw [nI_leI (by omega) (by omega)] at c5
            refine lv_aload_n hx hb dX4_look_25 rfl (lv_at hl 1 rfl) ?_
            refine va_get (v := .ref (a 5)) (Ts := wsX40) (C := RX4) (T := TX4) (N := 10) hx hb hwsX40 (fun _ h => h) hown hK hP 0 rfl rfl 4 (by decide) (hts (.fieldLink RX4 24 "AdventStreets$Street" "seen" "[I") (List.mem_of_getElem? (i := 4) rfl)) (fun _ h9 => h9) rfl dX4_look_26 ?_
            refine lv_iload_n hx hb dX4_look_29 rfl (lv_at hl 0 rfl) ?_
            refine lv_dup2_11 hx hb dX4_look_30 rfl rfl ?_
            refine r_ald (f := don i (lookS x) (SS x)) hx hb hK hP 5 rfl (i := i) (by omega) (by decide) dX4_look_31 ?_
            refine lv_aload_n hx hb dX4_look_32 rfl (lv_at hl 1 rfl) ?_
            refine lv_aload_n hx hb dX4_look_33 rfl (lv_at hl 1 rfl) ?_
            refine va_get (v := .int (nI (So x))) (Ts := wsX40) (C := RX4) (T := TX4) (N := 10) hx hb hwsX40 (fun _ h => h) hown hK hP 0 rfl rfl 9 (by decide) (hts (.fieldLink RX4 46 "AdventStreets$Street" "opened" "I") (List.mem_of_getElem? (i := 1) rfl)) (fun _ h9 => h9) rfl dX4_look_34 ?_
            refine lv_aload_n hx hb dX4_look_37 rfl (lv_at hl 1 rfl) ?_
            refine lv_iconst (v := nI (1)) hx hb dX4_look_38 (by decide) ?_
            refine lv_iload_n hx hb dX4_look_39 rfl (lv_at hl 0 rfl) ?_
            refine lv_ishl hx hb dX4_look_40 ?_
            refine vn_i (v := nI (2 ^ i)) (n_shl1 (by omega)) ?_
            refine cVi (n := 1) (As := [.int (nI (2 ^ i))]) (rest := [.int (nI (So x)), .ref (a 0), .int (nI ((don i (lookS x) (SS x)) i)), .int (nI (i)), .ref (a 5)]) (C := RX4) (ci := 4) (q0 := 0) (X := (stW cA a (Sn x, Se x, Sv x, St x, So x, SK x, SP x, SD x, SG x, don i (lookS x) (SS x)))) (pl := []) (wc := (stW cA a (Sn x, Se x, Sv x, St x, So x, SK x, SP x, SD x, SG x, don i (lookS x) (SS x)))) (wr := ([] : va_W)) (w1 := (stW cA a (Sn x, Se x, Sv x, St x, So x, SK x, SP x, SD x, SG x, don i (lookS x) (SS x)))) (wn := (stW cA a (Sn x, Se x, Sv x, St x, So x, SK x, SP x, SD x, SG x, don i (lookS x) (SS x)))) (isC := [0, 1, 2, 3, 4, 5]) (isR := []) (isN := [0, 1, 2, 3, 4, 5]) ⟨hx, hb, hml, hown, hts⟩ (c_X4_near l D cA tt a (Sn x, Se x, Sv x, St x, So x, SK x, SP x, SD x, SG x, don i (lookS x) (SS x)) (2 ^ i) (hg.lk i) (by first | exact pow20 (by omega) | exact Nat.lt_of_le_of_lt Nat.and_le_left (by omega)) _) gX4_look_X4_near rfl (by decide +kernel) rfl rfl ⟨rfl, rfl⟩ ⟨Nat.le_of_ble_eq_true rfl, Nat.le_of_ble_eq_true rfl⟩ ⟨Nat.zero_le _, Nat.zero_le _⟩ hK hE hA hP hD hS ⟨⟨rfl, by decide⟩, ⟨rfl, by decide, by decide⟩, rfl, by decide⟩ rfl hl.1 rfl (Nat.le_of_ble_eq_true rfl) dX4_look_41 (fun H locs hP hD hS => ?_)
            have hP : va_P D vwCl (stW cA a (Sn x, Se x, Sv x, St x, So x, SK x, SP x, SD x, SG x, don i (lookS x) (SS x))) H := hP
            have hD : va_D A (stW cA a (Sn x, Se x, Sv x, St x, So x, SK x, SP x, SD x, SG x, don i (lookS x) (SS x))) := hD
            refine lv_iand hx hb dX4_look_44 ?_
            refine vn_i (v := nI ((So x) &&& (nearL (2 ^ i) (Sv x)))) (n_and _ _) ?_
            refine cVi (n := 1) (As := [.int (nI ((So x) &&& (nearL (2 ^ i) (Sv x))))]) (rest := [.int (nI ((don i (lookS x) (SS x)) i)), .int (nI (i)), .ref (a 5)]) (C := RX4) (ci := 4) (q0 := 0) (X := (stW cA a (Sn x, Se x, Sv x, St x, So x, SK x, SP x, SD x, SG x, don i (lookS x) (SS x)))) (pl := []) (wc := (stW cA a (Sn x, Se x, Sv x, St x, So x, SK x, SP x, SD x, SG x, don i (lookS x) (SS x)))) (wr := ([] : va_W)) (w1 := (stW cA a (Sn x, Se x, Sv x, St x, So x, SK x, SP x, SD x, SG x, don i (lookS x) (SS x)))) (wn := (stW cA a (Sn x, Se x, Sv x, St x, So x, SK x, SP x, SD x, SG x, don i (lookS x) (SS x)))) (isC := [0, 1, 2, 3, 4, 5]) (isR := []) (isN := [0, 1, 2, 3, 4, 5]) ⟨hx, hb, hml, hown, hts⟩ (c_X4_picturesOf l D cA tt a (Sn x, Se x, Sv x, St x, So x, SK x, SP x, SD x, SG x, don i (lookS x) (SS x)) ((So x) &&& (nearL (2 ^ i) (Sv x))) (hg.lk i) (by first | exact pow20 (by omega) | exact Nat.lt_of_le_of_lt Nat.and_le_left (by omega)) _) gX4_look_X4_picturesOf rfl (by decide +kernel) rfl rfl ⟨rfl, rfl⟩ ⟨Nat.le_of_ble_eq_true rfl, Nat.le_of_ble_eq_true rfl⟩ ⟨Nat.zero_le _, Nat.zero_le _⟩ hK hE hA hP hD hS ⟨⟨rfl, by decide⟩, ⟨rfl, by decide, by decide⟩, rfl, by decide⟩ rfl hl.1 rfl (Nat.le_of_ble_eq_true rfl) dX4_look_45 (fun H locs hP hD hS => ?_)
            have hP : va_P D vwCl (stW cA a (Sn x, Se x, Sv x, St x, So x, SK x, SP x, SD x, SG x, don i (lookS x) (SS x))) H := hP
            have hD : va_D A (stW cA a (Sn x, Se x, Sv x, St x, So x, SK x, SP x, SD x, SG x, don i (lookS x) (SS x))) := hD
            refine lv_ior hx hb dX4_look_48 ?_
            refine vn_i (v := nI (((don i (lookS x) (SS x)) i) ||| (picsF (Sn x, Se x, Sv x, St x, So x, SK x, SP x, SD x, SG x, don i (lookS x) (SS x)) ((So x) &&& (nearF (Sn x, Se x, Sv x, St x, So x, SK x, SP x, SD x, SG x, don i (lookS x) (SS x)) (2 ^ i)))))) (by rw [near_pics]; exact n_or _ _) ?_
            refine r_ast (f := don i (lookS x) (SS x)) hx hb hK hP hD hS 5 rfl (i := i) (by omega) (by decide) dX4_look_49 (fun H locs hP hD hS => ?_)
            have hP : va_P D vwCl (stW cA a (Sn x, Se x, Sv x, St x, So x, SK x, SP x, SD x, SG x, upN (don i (lookS x) (SS x)) i (((don i (lookS x) (SS x)) i) ||| (picsF (Sn x, Se x, Sv x, St x, So x, SK x, SP x, SD x, SG x, don i (lookS x) (SS x)) ((So x) &&& (nearF (Sn x, Se x, Sv x, St x, So x, SK x, SP x, SD x, SG x, don i (lookS x) (SS x)) (2 ^ i))))))) H := hP
            have hD : va_D A (stW cA a (Sn x, Se x, Sv x, St x, So x, SK x, SP x, SD x, SG x, upN (don i (lookS x) (SS x)) i (((don i (lookS x) (SS x)) i) ||| (picsF (Sn x, Se x, Sv x, St x, So x, SK x, SP x, SD x, SG x, don i (lookS x) (SS x)) ((So x) &&& (nearF (Sn x, Se x, Sv x, St x, So x, SK x, SP x, SD x, SG x, don i (lookS x) (SS x)) (2 ^ i))))))) := hD
            refine lv_iinc (v := nI (i + 1)) (lv' := [(1, .int (nI (i + 1))), (0, .ref (a 0))]) hx hb dX4_look_50 hl (k := 0) rfl (nI_add _ _) (by decide) rfl (fun ls hl => ?_)
            refine lv_goto (tgt := 17) hx hb dX4_look_53 (by decide) ?_
            have ew7 : upN (don i (lookS x) (SS x)) i (((don i (lookS x) (SS x)) i) ||| (picsF (Sn x, Se x, Sv x, St x, So x, SK x, SP x, SD x, SG x, don i (lookS x) (SS x)) ((So x) &&& (nearF (Sn x, Se x, Sv x, St x, So x, SK x, SP x, SD x, SG x, don i (lookS x) (SS x)) (2 ^ i))))) = don (i + 1) (lookS x) (SS x) := by
              exact don_s (by rw [don_at (Nat.le_refl _)]; rfl)
            have hP : va_P D vwCl (stW cA a (Sn x, Se x, Sv x, St x, So x, SK x, SP x, SD x, SG x, don (i + 1) (lookS x) (SS x))) _ := Eq.mp (congrArg (fun z9 => va_P D vwCl (stW cA a (Sn x, Se x, Sv x, St x, So x, SK x, SP x, SD x, SG x, z9)) _) ew7) hP
            have hD : va_D A (stW cA a (Sn x, Se x, Sv x, St x, So x, SK x, SP x, SD x, SG x, don (i + 1) (lookS x) (SS x))) := Eq.mp (congrArg (fun z9 => va_D A (stW cA a (Sn x, Se x, Sv x, St x, So x, SK x, SP x, SD x, SG x, z9))) ew7) hD
            have hl9 := lv_sub (l' := [(1, .int (nI (i + 1))), (0, .ref (a 0))]) hl [0, 1] rfl
            exact ih17 (i + 1) (by omega) (by omega) _ _ _ hP hD hS hl9
      have ew8 : SS x = don 0 (lookS x) (SS x) := by
        exact don_0 _ _
      have hP : va_P D vwCl (stW cA a (Sn x, Se x, Sv x, St x, So x, SK x, SP x, SD x, SG x, don 0 (lookS x) (SS x))) _ := Eq.mp (congrArg (fun z9 => va_P D vwCl (stW cA a (Sn x, Se x, Sv x, St x, So x, SK x, SP x, SD x, SG x, z9)) _) ew8) hP
      have hD : va_D A (stW cA a (Sn x, Se x, Sv x, St x, So x, SK x, SP x, SD x, SG x, don 0 (lookS x) (SS x))) := Eq.mp (congrArg (fun z9 => va_D A (stW cA a (Sn x, Se x, Sv x, St x, So x, SK x, SP x, SD x, SG x, z9))) ew8) hD
      have hl9 := lv_sub (l' := [(1, .int (nI (0))), (0, .ref (a 0))]) hl [0, 1] rfl
      exact loop17 _ 0 (by omega) (Nat.lt_succ_self _) _ _ _ hP hD hS hl9
    · skip
      rw [n_z (by omega)] at c3
      have ef9 : ((stW cA a x) : va_W) = (stW cA a (lookF x)) := by
        exact congrArg (stW cA a) (if_pos (Or.inr c3)).symm
      have hP : va_P D vwCl (stW cA a (lookF x)) _ := Eq.mp (congrArg (fun z9 => va_P D vwCl z9 _) ef9) hP
      have hD : va_D A (stW cA a (lookF x)) := Eq.mp (congrArg (fun z9 => va_D A z9) ef9) hD
      exact hend _ _ _ _ hP hD hS dX4_look_14
set_option maxRecDepth 100000 in
set_option maxHeartbeats 4000000 in
theorem c_X4_wear (l : Launch) (D : va_G) (cA : Nat → ClassId) (tt : Nat → Nat) (a : Nat → Nat) (x : Sg) (sm : Nat) (hg : Wk x) (hs : sm < 1073741824) (sz : Nat) : Cv l D cA tt yX4_wear wsX4_wear ({ frames := 0, cells := 0, slots := 0, locals := 0 } : Room) [.ref (a 0), .int (nI (sm))] sz (stW cA a x) (stW cA a (wearF x sm)) := by
  obtain ⟨gn, ge, gv, go, ga⟩ := id hg
  refine Cv.mk (cc := cX4_wear) (maxL := 3) (by decide) rfl (Nat.le_of_ble_eq_true rfl) ?_
  intro p e s m below meth c A Q ls hB hl hend
  obtain ⟨⟨hx, hb, hml, hown, hts⟩, hP, hK, hD, hS, hA, hE⟩ := hB
  have hown : s.vm.findClass RX4 = some m.cls := hown
  have hwsX40 : ∀ w9 ∈ wsX40, w9.before ([.ref (a 0), .int (nI (sm))] : List Value).toArray s = true := fun w9 h => hts w9 (List.mem_cons_of_mem _ (List.mem_append_right _ h))
  have hl : lv_has ls 3 [(0, .ref (a 0)), (1, .int (nI (sm)))] := hl
  refine lv_iconst (v := nI (0)) hx hb dX4_wear_0 (by decide) ?_
  refine lv_istore_n (lv' := [(2, .int (nI (0))), (0, .ref (a 0)), (1, .int (nI (sm)))]) hx hb dX4_wear_1 rfl hl (by decide) rfl (fun ls hl => ?_)
  have loop2 : ∀ (N2 : Nat) (i : Nat), (i ≤ Sn x) → (Sn x - i) < N2 → ∀ (H : Heap) (locs : List Loc) (ls : Array Slot), va_P D vwCl (stW cA a (Sn x, Se x, Sv x, St x, So x, SK x, SP x, SD x, don i (wearG x sm) (SG x), SS x)) H → va_D A (stW cA a (Sn x, Se x, Sv x, St x, So x, SK x, SP x, SD x, don i (wearG x sm) (SG x), SS x)) → va_S A s.heap H locs → lv_has ls 3 [(2, .int (nI (i))), (0, .ref (a 0)), (1, .int (nI (sm)))] → W p l e ({ frames := 0, cells := 0, slots := 0, locals := 0 } : Room) s m ([.ref (a 0), .int (nI (sm))] : List Value).toArray below meth c H locs 0 0 Q (F0 m 2 ls []) := by
    intro N2
    induction N2 with
    | zero => intro i iv2_0 hN; exact absurd hN (Nat.not_lt_zero _)
    | succ N2 ih2 =>
      intro i iv2_0 hN2 H locs ls hP hD hS hl
      have hd9 : don i (wearG x sm) (SG x) i = SG x i := don_at (Nat.le_refl _)
      refine lv_iload_n hx hb dX4_wear_2 rfl (lv_at hl 0 rfl) ?_
      refine lv_aload_n hx hb dX4_wear_3 rfl (lv_at hl 1 rfl) ?_
      refine va_get (v := .int (nI (Sn x))) (Ts := wsX40) (C := RX4) (T := TX4) (N := 10) hx hb hwsX40 (fun _ h => h) hown hK hP 0 rfl rfl 5 (by decide) (hts (.fieldLink RX4 33 "AdventStreets$Street" "windows" "I") (List.mem_of_getElem? (i := 1) rfl)) (fun _ h9 => h9) rfl dX4_wear_4 ?_
      refine lv_icmp_ge (tgt := 43) hx hb dX4_wear_7 (by decide) (fun c2 => ?_) (fun c2 => ?_)
      · skip
        rw [nI_leI (by omega) (by omega)] at c2
        have ef3 : ((stW cA a (Sn x, Se x, Sv x, St x, So x, SK x, SP x, SD x, don i (wearG x sm) (SG x), SS x)) : va_W) = (stW cA a (wearF x sm)) := by
          exact congrArg (fun j => stW cA a (wG x (don j (wearG x sm) (SG x)))) (show i = Sn x by omega)
        have hP : va_P D vwCl (stW cA a (wearF x sm)) _ := Eq.mp (congrArg (fun z9 => va_P D vwCl z9 _) ef3) hP
        have hD : va_D A (stW cA a (wearF x sm)) := Eq.mp (congrArg (fun z9 => va_D A z9) ef3) hD
        exact hend _ _ _ _ hP hD hS dX4_wear_43
      · skip
        rw [nI_leI (by omega) (by omega)] at c2
        refine lv_iload_n hx hb dX4_wear_10 rfl (lv_at hl 2 rfl) ?_
        refine lv_iload_n hx hb dX4_wear_11 rfl (lv_at hl 0 rfl) ?_
        refine lv_ishr hx hb dX4_wear_12 ?_
        refine vn_i (v := nI (sm / 2 ^ i)) (n_shr (by omega) (by omega)) ?_
        refine lv_iconst (v := nI (1)) hx hb dX4_wear_13 (by decide) ?_
        refine lv_iand hx hb dX4_wear_14 ?_
        refine vn_i (v := bI (sm.testBit i)) (n_bit _ _) ?_
        refine lv_if_eq (tgt := 37) hx hb dX4_wear_15 (by decide) (fun c4 => ?_) (fun c4 => ?_)
        · skip
          rw [bI_z] at c4
          refine lv_iinc (v := nI (i + 1)) (lv' := [(2, .int (nI (i + 1))), (0, .ref (a 0)), (1, .int (nI (sm)))]) hx hb dX4_wear_37 hl (k := 0) rfl (nI_add _ _) (by decide) rfl (fun ls hl => ?_)
          refine lv_goto (tgt := 2) hx hb dX4_wear_40 (by decide) ?_
          have ew5 : don i (wearG x sm) (SG x) = don (i + 1) (wearG x sm) (SG x) := by
            exact don_k (by simp [wearG, c4])
          have hP : va_P D vwCl (stW cA a (Sn x, Se x, Sv x, St x, So x, SK x, SP x, SD x, don (i + 1) (wearG x sm) (SG x), SS x)) _ := Eq.mp (congrArg (fun z9 => va_P D vwCl (stW cA a (Sn x, Se x, Sv x, St x, So x, SK x, SP x, SD x, z9, SS x)) _) ew5) hP
          have hD : va_D A (stW cA a (Sn x, Se x, Sv x, St x, So x, SK x, SP x, SD x, don (i + 1) (wearG x sm) (SG x), SS x)) := Eq.mp (congrArg (fun z9 => va_D A (stW cA a (Sn x, Se x, Sv x, St x, So x, SK x, SP x, SD x, z9, SS x))) ew5) hD
          have hl9 := lv_sub (l' := [(2, .int (nI (i + 1))), (0, .ref (a 0)), (1, .int (nI (sm)))]) hl [0, 1, 2] rfl
          exact ih2 (i + 1) (by omega) (by omega) _ _ _ hP hD hS hl9
        · skip
          rw [bI_nz] at c4
          refine lv_aload_n hx hb dX4_wear_18 rfl (lv_at hl 1 rfl) ?_
          refine va_get (v := .ref (a 4)) (Ts := wsX40) (C := RX4) (T := TX4) (N := 10) hx hb hwsX40 (fun _ h => h) hown hK hP 0 rfl rfl 3 (by decide) (hts (.fieldLink RX4 21 "AdventStreets$Street" "glues" "[I") (List.mem_of_getElem? (i := 2) rfl)) (fun _ h9 => h9) rfl dX4_wear_19 ?_
          refine lv_iload_n hx hb dX4_wear_22 rfl (lv_at hl 0 rfl) ?_
          refine r_ald (f := don i (wearG x sm) (SG x)) hx hb hK hP 4 rfl (i := i) (by omega) (by decide) dX4_wear_23 ?_
          have gi := ga i (by omega)
          refine lv_if_le (tgt := 37) hx hb dX4_wear_24 (by decide) (fun c6 => ?_) (fun c6 => ?_)
          · skip
            rw [n_le0 (by omega)] at c6
            refine lv_iinc (v := nI (i + 1)) (lv' := [(2, .int (nI (i + 1))), (0, .ref (a 0)), (1, .int (nI (sm)))]) hx hb dX4_wear_37 hl (k := 0) rfl (nI_add _ _) (by decide) rfl (fun ls hl => ?_)
            refine lv_goto (tgt := 2) hx hb dX4_wear_40 (by decide) ?_
            have ew7 : don i (wearG x sm) (SG x) = don (i + 1) (wearG x sm) (SG x) := by
              exact don_k (by rw [hd9] at c6; unfold wearG; split <;> omega)
            have hP : va_P D vwCl (stW cA a (Sn x, Se x, Sv x, St x, So x, SK x, SP x, SD x, don (i + 1) (wearG x sm) (SG x), SS x)) _ := Eq.mp (congrArg (fun z9 => va_P D vwCl (stW cA a (Sn x, Se x, Sv x, St x, So x, SK x, SP x, SD x, z9, SS x)) _) ew7) hP
            have hD : va_D A (stW cA a (Sn x, Se x, Sv x, St x, So x, SK x, SP x, SD x, don (i + 1) (wearG x sm) (SG x), SS x)) := Eq.mp (congrArg (fun z9 => va_D A (stW cA a (Sn x, Se x, Sv x, St x, So x, SK x, SP x, SD x, z9, SS x))) ew7) hD
            have hl9 := lv_sub (l' := [(2, .int (nI (i + 1))), (0, .ref (a 0)), (1, .int (nI (sm)))]) hl [0, 1, 2] rfl
            exact ih2 (i + 1) (by omega) (by omega) _ _ _ hP hD hS hl9
          · skip
            rw [n_le0 (by omega)] at c6
            refine lv_aload_n hx hb dX4_wear_27 rfl (lv_at hl 1 rfl) ?_
            refine va_get (v := .ref (a 4)) (Ts := wsX40) (C := RX4) (T := TX4) (N := 10) hx hb hwsX40 (fun _ h => h) hown hK hP 0 rfl rfl 3 (by decide) (hts (.fieldLink RX4 21 "AdventStreets$Street" "glues" "[I") (List.mem_of_getElem? (i := 2) rfl)) (fun _ h9 => h9) rfl dX4_wear_28 ?_
            refine lv_iload_n hx hb dX4_wear_31 rfl (lv_at hl 0 rfl) ?_
            refine lv_dup2_11 hx hb dX4_wear_32 rfl rfl ?_
            refine r_ald (f := don i (wearG x sm) (SG x)) hx hb hK hP 4 rfl (i := i) (by omega) (by decide) dX4_wear_33 ?_
            refine lv_iconst (v := nI (1)) hx hb dX4_wear_34 (by decide) ?_
            refine lv_isub hx hb dX4_wear_35 ?_
            refine vn_i (v := nI (((don i (wearG x sm) (SG x)) i) - 1)) (pk_sub (by omega)) ?_
            refine r_ast (f := don i (wearG x sm) (SG x)) hx hb hK hP hD hS 4 rfl (i := i) (by omega) (by decide) dX4_wear_36 (fun H locs hP hD hS => ?_)
            have hP : va_P D vwCl (stW cA a (Sn x, Se x, Sv x, St x, So x, SK x, SP x, SD x, upN (don i (wearG x sm) (SG x)) i (((don i (wearG x sm) (SG x)) i) - 1), SS x)) H := hP
            have hD : va_D A (stW cA a (Sn x, Se x, Sv x, St x, So x, SK x, SP x, SD x, upN (don i (wearG x sm) (SG x)) i (((don i (wearG x sm) (SG x)) i) - 1), SS x)) := hD
            refine lv_iinc (v := nI (i + 1)) (lv' := [(2, .int (nI (i + 1))), (0, .ref (a 0)), (1, .int (nI (sm)))]) hx hb dX4_wear_37 hl (k := 0) rfl (nI_add _ _) (by decide) rfl (fun ls hl => ?_)
            refine lv_goto (tgt := 2) hx hb dX4_wear_40 (by decide) ?_
            have ew8 : upN (don i (wearG x sm) (SG x)) i (((don i (wearG x sm) (SG x)) i) - 1) = don (i + 1) (wearG x sm) (SG x) := by
              exact don_s (by rw [don_at (Nat.le_refl _)]; simp [wearG, c4])
            have hP : va_P D vwCl (stW cA a (Sn x, Se x, Sv x, St x, So x, SK x, SP x, SD x, don (i + 1) (wearG x sm) (SG x), SS x)) _ := Eq.mp (congrArg (fun z9 => va_P D vwCl (stW cA a (Sn x, Se x, Sv x, St x, So x, SK x, SP x, SD x, z9, SS x)) _) ew8) hP
            have hD : va_D A (stW cA a (Sn x, Se x, Sv x, St x, So x, SK x, SP x, SD x, don (i + 1) (wearG x sm) (SG x), SS x)) := Eq.mp (congrArg (fun z9 => va_D A (stW cA a (Sn x, Se x, Sv x, St x, So x, SK x, SP x, SD x, z9, SS x))) ew8) hD
            have hl9 := lv_sub (l' := [(2, .int (nI (i + 1))), (0, .ref (a 0)), (1, .int (nI (sm)))]) hl [0, 1, 2] rfl
            exact ih2 (i + 1) (by omega) (by omega) _ _ _ hP hD hS hl9
  have ew9 : SG x = don 0 (wearG x sm) (SG x) := by
    exact don_0 _ _
  have hP : va_P D vwCl (stW cA a (Sn x, Se x, Sv x, St x, So x, SK x, SP x, SD x, don 0 (wearG x sm) (SG x), SS x)) _ := Eq.mp (congrArg (fun z9 => va_P D vwCl (stW cA a (Sn x, Se x, Sv x, St x, So x, SK x, SP x, SD x, z9, SS x)) _) ew9) hP
  have hD : va_D A (stW cA a (Sn x, Se x, Sv x, St x, So x, SK x, SP x, SD x, don 0 (wearG x sm) (SG x), SS x)) := Eq.mp (congrArg (fun z9 => va_D A (stW cA a (Sn x, Se x, Sv x, St x, So x, SK x, SP x, SD x, z9, SS x))) ew9) hD
  have hl9 := lv_sub (l' := [(2, .int (nI (0))), (0, .ref (a 0)), (1, .int (nI (sm)))]) hl [0, 1, 2] rfl
  exact loop2 _ 0 (by omega) (Nat.lt_succ_self _) _ _ _ hP hD hS hl9
set_option maxRecDepth 100000 in
set_option maxHeartbeats 4000000 in
theorem c_X4_close (l : Launch) (D : va_G) (cA : Nat → ClassId) (tt : Nat → Nat) (a : Nat → Nat) (x : Sg) (d op : Nat) (hg : Wk x) (hd : d < 1073741824) (ho : op < 1073741824) (ht : St x < 1073741824) (sz : Nat) : Cv l D cA tt yX4_close wsX4_close ({ frames := 1, cells := 0, slots := 0, locals := 22 } : Room) [.ref (a 0), .int (nI (d)), .int (nI (op))] sz (stW cA a x) (stW cA a (closeF x d op)) := by
  obtain ⟨gn, ge, gv, go, ga⟩ := id hg
  refine Cv.mk (cc := cX4_close) (maxL := 3) (by decide) rfl (Nat.le_of_ble_eq_true rfl) ?_
  intro p e s m below meth c A Q ls hB hl hend
  obtain ⟨⟨hx, hb, hml, hown, hts⟩, hP, hK, hD, hS, hA, hE⟩ := hB
  have hown : s.vm.findClass RX4 = some m.cls := hown
  have hwsX40 : ∀ w9 ∈ wsX40, w9.before ([.ref (a 0), .int (nI (d)), .int (nI (op))] : List Value).toArray s = true := fun w9 h => hts w9 (List.mem_cons_of_mem _ (List.mem_append_right _ h))
  have hl : lv_has ls 3 [(0, .ref (a 0)), (1, .int (nI (d))), (2, .int (nI (op)))] := hl
  refine lv_iload_n hx hb dX4_close_0 rfl (lv_at hl 1 rfl) ?_
  refine lv_aload_n hx hb dX4_close_1 rfl (lv_at hl 0 rfl) ?_
  refine va_get (v := .int (nI (Se x))) (Ts := wsX40) (C := RX4) (T := TX4) (N := 10) hx hb hwsX40 (fun _ h => h) hown hK hP 0 rfl rfl 6 (by decide) (hts (.fieldLink RX4 37 "AdventStreets$Street" "eve" "I") (List.mem_of_getElem? (i := 1) rfl)) (fun _ h9 => h9) rfl dX4_close_2 ?_
  refine lv_icmp_ne (tgt := 24) hx hb dX4_close_5 (by decide) (fun c1 => ?_) (fun c1 => ?_)
  · skip
    rw [nI_eq (by omega) (by omega)] at c1
    refine lv_aload_n hx hb dX4_close_24 rfl (lv_at hl 0 rfl) ?_
    refine lv_iload_n hx hb dX4_close_25 rfl (lv_at hl 2 rfl) ?_
    refine cVv (n := 1) (As := [.int (nI (op))]) (rest := []) (C := RX4) (ci := 4) (q0 := 0) (X := (stW cA a x)) (pl := []) (wc := (stW cA a x)) (wr := ([] : va_W)) (w1 := (stW cA a (wearF x op))) (wn := (stW cA a (wearF x op))) (isC := [0, 1, 2, 3, 4, 5]) (isR := []) (isN := [0, 1, 2, 3, 4, 5]) ⟨hx, hb, hml, hown, hts⟩ (c_X4_wear l D cA tt a x op (by first | assumption | omega) (by first | assumption | omega) _) gX4_close_X4_wear rfl (by decide +kernel) rfl rfl ⟨rfl, rfl⟩ ⟨Nat.le_of_ble_eq_true rfl, Nat.le_of_ble_eq_true rfl⟩ ⟨Nat.zero_le _, Nat.zero_le _⟩ hK hE hA hP hD hS ⟨⟨rfl, by decide⟩, ⟨rfl, by decide, by decide⟩, rfl, by decide⟩ rfl hl.1 rfl (Nat.le_of_ble_eq_true rfl) dX4_close_26 (fun H locs hP hD hS => ?_)
    have hP : va_P D vwCl (stW cA a (wearF x op)) H := hP
    have hD : va_D A (stW cA a (wearF x op)) := hD
    refine lv_aload_n hx hb dX4_close_29 rfl (lv_at hl 0 rfl) ?_
    refine lv_dup hx hb dX4_close_30 rfl ?_
    refine va_get (v := .int (nI (St (wearF x op)))) (Ts := wsX40) (C := RX4) (T := TX4) (N := 10) hx hb hwsX40 (fun _ h => h) hown hK hP 0 rfl rfl 8 (by decide) (hts (.fieldLink RX4 43 "AdventStreets$Street" "time" "I") (List.mem_of_getElem? (i := 3) rfl)) (fun _ h9 => h9) rfl dX4_close_31 ?_
    refine lv_iconst (v := nI (1)) hx hb dX4_close_34 (by decide) ?_
    refine lv_iadd hx hb dX4_close_35 ?_
    refine vn_i (v := nI (St (wearF x op) + 1)) (nI_add _ _) ?_
    refine va_put (v := .int (nI (St (wearF x op) + 1))) (ty := .int) (Ts := wsX40) (C := RX4) (T := TX4) (N := 10) hx hb hwsX40 (fun _ h => h) tyX4 tyX4_ok nmX4 hown hK hP hD hS 0 rfl rfl 8 (by decide) (hts (.fieldLink RX4 43 "AdventStreets$Street" "time" "I") (List.mem_of_getElem? (i := 3) rfl)) (fun _ h9 => h9) rfl (tyX4_ok 8 (by decide)) rfl rfl (Nat.le_of_ble_eq_true rfl) dX4_close_36 (fun H locs hP hD hS => ?_)
    have hP : va_P D vwCl (stW cA a (Sn (wearF x op), Se (wearF x op), Sv (wearF x op), St (wearF x op) + 1, So (wearF x op), SK (wearF x op), SP (wearF x op), SD (wearF x op), SG (wearF x op), SS (wearF x op))) H := hP
    have hD : va_D A (stW cA a (Sn (wearF x op), Se (wearF x op), Sv (wearF x op), St (wearF x op) + 1, So (wearF x op), SK (wearF x op), SP (wearF x op), SD (wearF x op), SG (wearF x op), SS (wearF x op))) := hD
    have ef2 : ((stW cA a (Sn (wearF x op), Se (wearF x op), Sv (wearF x op), St (wearF x op) + 1, So (wearF x op), SK (wearF x op), SP (wearF x op), SD (wearF x op), SG (wearF x op), SS (wearF x op))) : va_W) = (stW cA a (closeF x d op)) := by
      exact congrArg (stW cA a) (if_neg c1).symm
    have hP : va_P D vwCl (stW cA a (closeF x d op)) _ := Eq.mp (congrArg (fun z9 => va_P D vwCl z9 _) ef2) hP
    have hD : va_D A (stW cA a (closeF x d op)) := Eq.mp (congrArg (fun z9 => va_D A z9) ef2) hD
    exact hend _ _ _ _ hP hD hS dX4_close_39
  · skip
    rw [nI_eq (by omega) (by omega)] at c1
    refine lv_aload_n hx hb dX4_close_8 rfl (lv_at hl 0 rfl) ?_
    refine lv_aload_n hx hb dX4_close_9 rfl (lv_at hl 0 rfl) ?_
    refine va_get (v := .int (nI (So x))) (Ts := wsX40) (C := RX4) (T := TX4) (N := 10) hx hb hwsX40 (fun _ h => h) hown hK hP 0 rfl rfl 9 (by decide) (hts (.fieldLink RX4 46 "AdventStreets$Street" "opened" "I") (List.mem_of_getElem? (i := 2) rfl)) (fun _ h9 => h9) rfl dX4_close_10 ?_
    refine cVv (n := 1) (As := [.int (nI (So x))]) (rest := []) (C := RX4) (ci := 4) (q0 := 0) (X := (stW cA a x)) (pl := []) (wc := (stW cA a x)) (wr := ([] : va_W)) (w1 := (stW cA a (wearF x (So x)))) (wn := (stW cA a (wearF x (So x)))) (isC := [0, 1, 2, 3, 4, 5]) (isR := []) (isN := [0, 1, 2, 3, 4, 5]) ⟨hx, hb, hml, hown, hts⟩ (c_X4_wear l D cA tt a x (So x) (by first | assumption | omega) (by first | assumption | omega) _) gX4_close_X4_wear rfl (by decide +kernel) rfl rfl ⟨rfl, rfl⟩ ⟨Nat.le_of_ble_eq_true rfl, Nat.le_of_ble_eq_true rfl⟩ ⟨Nat.zero_le _, Nat.zero_le _⟩ hK hE hA hP hD hS ⟨⟨rfl, by decide⟩, ⟨rfl, by decide, by decide⟩, rfl, by decide⟩ rfl hl.1 rfl (Nat.le_of_ble_eq_true rfl) dX4_close_13 (fun H locs hP hD hS => ?_)
    have hP : va_P D vwCl (stW cA a (wearF x (So x))) H := hP
    have hD : va_D A (stW cA a (wearF x (So x))) := hD
    refine lv_aload_n hx hb dX4_close_16 rfl (lv_at hl 0 rfl) ?_
    refine lv_iconst (v := nI (0)) hx hb dX4_close_17 (by decide) ?_
    refine va_put (v := .int (nI (0))) (ty := .int) (Ts := wsX40) (C := RX4) (T := TX4) (N := 10) hx hb hwsX40 (fun _ h => h) tyX4 tyX4_ok nmX4 hown hK hP hD hS 0 rfl rfl 9 (by decide) (hts (.fieldLink RX4 46 "AdventStreets$Street" "opened" "I") (List.mem_of_getElem? (i := 2) rfl)) (fun _ h9 => h9) rfl (tyX4_ok 9 (by decide)) rfl rfl (Nat.le_of_ble_eq_true rfl) dX4_close_18 (fun H locs hP hD hS => ?_)
    have hP : va_P D vwCl (stW cA a (Sn (wearF x (So x)), Se (wearF x (So x)), Sv (wearF x (So x)), St (wearF x (So x)), 0, SK (wearF x (So x)), SP (wearF x (So x)), SD (wearF x (So x)), SG (wearF x (So x)), SS (wearF x (So x)))) H := hP
    have hD : va_D A (stW cA a (Sn (wearF x (So x)), Se (wearF x (So x)), Sv (wearF x (So x)), St (wearF x (So x)), 0, SK (wearF x (So x)), SP (wearF x (So x)), SD (wearF x (So x)), SG (wearF x (So x)), SS (wearF x (So x)))) := hD
    refine lv_goto (tgt := 29) hx hb dX4_close_21 (by decide) ?_
    refine lv_aload_n hx hb dX4_close_29 rfl (lv_at hl 0 rfl) ?_
    refine lv_dup hx hb dX4_close_30 rfl ?_
    refine va_get (v := .int (nI (St (wearF x (So x))))) (Ts := wsX40) (C := RX4) (T := TX4) (N := 10) hx hb hwsX40 (fun _ h => h) hown hK hP 0 rfl rfl 8 (by decide) (hts (.fieldLink RX4 43 "AdventStreets$Street" "time" "I") (List.mem_of_getElem? (i := 3) rfl)) (fun _ h9 => h9) rfl dX4_close_31 ?_
    refine lv_iconst (v := nI (1)) hx hb dX4_close_34 (by decide) ?_
    refine lv_iadd hx hb dX4_close_35 ?_
    refine vn_i (v := nI (St (wearF x (So x)) + 1)) (nI_add _ _) ?_
    refine va_put (v := .int (nI (St (wearF x (So x)) + 1))) (ty := .int) (Ts := wsX40) (C := RX4) (T := TX4) (N := 10) hx hb hwsX40 (fun _ h => h) tyX4 tyX4_ok nmX4 hown hK hP hD hS 0 rfl rfl 8 (by decide) (hts (.fieldLink RX4 43 "AdventStreets$Street" "time" "I") (List.mem_of_getElem? (i := 3) rfl)) (fun _ h9 => h9) rfl (tyX4_ok 8 (by decide)) rfl rfl (Nat.le_of_ble_eq_true rfl) dX4_close_36 (fun H locs hP hD hS => ?_)
    have hP : va_P D vwCl (stW cA a (Sn (wearF x (So x)), Se (wearF x (So x)), Sv (wearF x (So x)), St (wearF x (So x)) + 1, 0, SK (wearF x (So x)), SP (wearF x (So x)), SD (wearF x (So x)), SG (wearF x (So x)), SS (wearF x (So x)))) H := hP
    have hD : va_D A (stW cA a (Sn (wearF x (So x)), Se (wearF x (So x)), Sv (wearF x (So x)), St (wearF x (So x)) + 1, 0, SK (wearF x (So x)), SP (wearF x (So x)), SD (wearF x (So x)), SG (wearF x (So x)), SS (wearF x (So x)))) := hD
    have ef3 : ((stW cA a (Sn (wearF x (So x)), Se (wearF x (So x)), Sv (wearF x (So x)), St (wearF x (So x)) + 1, 0, SK (wearF x (So x)), SP (wearF x (So x)), SD (wearF x (So x)), SG (wearF x (So x)), SS (wearF x (So x)))) : va_W) = (stW cA a (closeF x d op)) := by
      exact congrArg (stW cA a) (if_pos c1).symm
    have hP : va_P D vwCl (stW cA a (closeF x d op)) _ := Eq.mp (congrArg (fun z9 => va_P D vwCl z9 _) ef3) hP
    have hD : va_D A (stW cA a (closeF x d op)) := Eq.mp (congrArg (fun z9 => va_D A z9) ef3) hD
    exact hend _ _ _ _ hP hD hS dX4_close_39
set_option maxRecDepth 100000 in
set_option maxHeartbeats 4000000 in
theorem c_X4_turn (l : Launch) (D : va_G) (cA : Nat → ClassId) (tt : Nat → Nat) (a : Nat → Nat) (x : Sg) (hg : Wk x) (ht : St x < 1073741824) (sz : Nat) : Cv l D cA tt yX4_turn wsX4_turn ({ frames := 3, cells := 0, slots := 0, locals := 64 } : Room) [.ref (a 0)] sz (stW cA a x) (stW cA a (turnF x)) := by
  obtain ⟨gn, ge, gv, go, ga⟩ := id hg
  refine Cv.mk (cc := cX4_turn) (maxL := 3) (by decide) rfl (Nat.le_of_ble_eq_true rfl) ?_
  intro p e s m below meth c A Q ls hB hl hend
  obtain ⟨⟨hx, hb, hml, hown, hts⟩, hP, hK, hD, hS, hA, hE⟩ := hB
  have hown : s.vm.findClass RX4 = some m.cls := hown
  have hwsX40 : ∀ w9 ∈ wsX40, w9.before ([.ref (a 0)] : List Value).toArray s = true := fun w9 h => hts w9 (List.mem_cons_of_mem _ (List.mem_append_right _ h))
  have hl : lv_has ls 3 [(0, .ref (a 0))] := hl
  refine lv_aload_n hx hb dX4_turn_0 rfl (lv_at hl 0 rfl) ?_
  refine cVi (n := 0) (As := []) (rest := []) (C := RX4) (ci := 4) (q0 := 0) (X := (stW cA a x)) (pl := []) (wc := (stW cA a x)) (wr := ([] : va_W)) (w1 := (stW cA a x)) (wn := (stW cA a x)) (isC := [0, 1, 2, 3, 4, 5]) (isR := []) (isN := [0, 1, 2, 3, 4, 5]) ⟨hx, hb, hml, hown, hts⟩ (c_X4_date l D cA tt a x (by first | assumption | omega) (by first | assumption | omega) _) gX4_turn_X4_date rfl (by decide +kernel) rfl rfl ⟨rfl, rfl⟩ ⟨Nat.le_of_ble_eq_true rfl, Nat.le_of_ble_eq_true rfl⟩ ⟨Nat.zero_le _, Nat.zero_le _⟩ hK hE hA hP hD hS ⟨⟨rfl, by decide⟩, ⟨rfl, by decide, by decide⟩, rfl, by decide⟩ rfl hl.1 rfl (Nat.le_of_ble_eq_true rfl) dX4_turn_1 (fun H locs hP hD hS => ?_)
  have hP : va_P D vwCl (stW cA a x) H := hP
  have hD : va_D A (stW cA a x) := hD
  refine lv_istore_n (lv' := [(1, .int (nI (dateF x))), (0, .ref (a 0))]) hx hb dX4_turn_4 rfl hl (by decide) rfl (fun ls hl => ?_)
  refine lv_aload_n hx hb dX4_turn_5 rfl (lv_at hl 1 rfl) ?_
  refine lv_iload_n hx hb dX4_turn_6 rfl (lv_at hl 0 rfl) ?_
  refine lv_aload_n hx hb dX4_turn_7 rfl (lv_at hl 1 rfl) ?_
  refine cVi (n := 0) (As := []) (rest := [.int (nI (dateF x)), .ref (a 0)]) (C := RX4) (ci := 4) (q0 := 0) (X := (stW cA a x)) (pl := []) (wc := (stW cA a x)) (wr := ([] : va_W)) (w1 := (stW cA a x)) (wn := (stW cA a x)) (isC := [0, 1, 2, 3, 4, 5]) (isR := []) (isN := [0, 1, 2, 3, 4, 5]) ⟨hx, hb, hml, hown, hts⟩ (c_X4_all l D cA tt a x (by first | assumption | omega) _) gX4_turn_X4_all rfl (by decide +kernel) rfl rfl ⟨rfl, rfl⟩ ⟨Nat.le_of_ble_eq_true rfl, Nat.le_of_ble_eq_true rfl⟩ ⟨Nat.zero_le _, Nat.zero_le _⟩ hK hE hA hP hD hS ⟨⟨rfl, by decide⟩, ⟨rfl, by decide, by decide⟩, rfl, by decide⟩ rfl hl.1 rfl (Nat.le_of_ble_eq_true rfl) dX4_turn_8 (fun H locs hP hD hS => ?_)
  have hP : va_P D vwCl (stW cA a x) H := hP
  have hD : va_D A (stW cA a x) := hD
  refine cVi (n := 2) (As := [.int (nI (dateF x)), .int (nI (allF x))]) (rest := []) (C := RX4) (ci := 4) (q0 := 0) (X := (stW cA a x)) (pl := []) (wc := (stW cA a x)) (wr := ([] : va_W)) (w1 := (stW cA a x)) (wn := (stW cA a x)) (isC := [0, 1, 2, 3, 4, 5]) (isR := []) (isN := [0, 1, 2, 3, 4, 5]) ⟨hx, hb, hml, hown, hts⟩ (c_X4_opening l D cA tt a x (dateF x) (allF x) (by first | assumption | omega) (Nat.lt_trans (dateK_lt hg) (by decide)) (Nat.lt_trans (all_lt gn) (by decide)) _) gX4_turn_X4_opening rfl (by decide +kernel) rfl rfl ⟨rfl, rfl⟩ ⟨Nat.le_of_ble_eq_true rfl, Nat.le_of_ble_eq_true rfl⟩ ⟨Nat.zero_le _, Nat.zero_le _⟩ hK hE hA hP hD hS ⟨⟨rfl, by decide⟩, ⟨rfl, by decide, by decide⟩, rfl, by decide⟩ rfl hl.1 rfl (Nat.le_of_ble_eq_true rfl) dX4_turn_11 (fun H locs hP hD hS => ?_)
  have hP : va_P D vwCl (stW cA a x) H := hP
  have hD : va_D A (stW cA a x) := hD
  refine lv_istore_n (lv' := [(2, .int (nI (openF x (dateF x) (allF x)))), (1, .int (nI (dateF x))), (0, .ref (a 0))]) hx hb dX4_turn_14 rfl hl (by decide) rfl (fun ls hl => ?_)
  refine lv_aload_n hx hb dX4_turn_15 rfl (lv_at hl 2 rfl) ?_
  refine lv_dup hx hb dX4_turn_16 rfl ?_
  refine va_get (v := .int (nI (So x))) (Ts := wsX40) (C := RX4) (T := TX4) (N := 10) hx hb hwsX40 (fun _ h => h) hown hK hP 0 rfl rfl 9 (by decide) (hts (.fieldLink RX4 46 "AdventStreets$Street" "opened" "I") (List.mem_of_getElem? (i := 1) rfl)) (fun _ h9 => h9) rfl dX4_turn_17 ?_
  refine lv_iload_n hx hb dX4_turn_20 rfl (lv_at hl 0 rfl) ?_
  refine lv_ior hx hb dX4_turn_21 ?_
  refine vn_i (v := nI ((So x) ||| (openF x (dateF x) (allF x)))) (n_or _ _) ?_
  refine va_put (v := .int (nI ((So x) ||| (openF x (dateF x) (allF x))))) (ty := .int) (Ts := wsX40) (C := RX4) (T := TX4) (N := 10) hx hb hwsX40 (fun _ h => h) tyX4 tyX4_ok nmX4 hown hK hP hD hS 0 rfl rfl 9 (by decide) (hts (.fieldLink RX4 46 "AdventStreets$Street" "opened" "I") (List.mem_of_getElem? (i := 1) rfl)) (fun _ h9 => h9) rfl (tyX4_ok 9 (by decide)) rfl rfl (Nat.le_of_ble_eq_true rfl) dX4_turn_22 (fun H locs hP hD hS => ?_)
  have hP : va_P D vwCl (stW cA a (Sn x, Se x, Sv x, St x, (So x) ||| (openF x (dateF x) (allF x)), SK x, SP x, SD x, SG x, SS x)) H := hP
  have hD : va_D A (stW cA a (Sn x, Se x, Sv x, St x, (So x) ||| (openF x (dateF x) (allF x)), SK x, SP x, SD x, SG x, SS x)) := hD
  refine lv_aload_n hx hb dX4_turn_25 rfl (lv_at hl 2 rfl) ?_
  refine cVv (n := 0) (As := []) (rest := []) (C := RX4) (ci := 4) (q0 := 0) (X := (stW cA a (Sn x, Se x, Sv x, St x, (So x) ||| (openF x (dateF x) (allF x)), SK x, SP x, SD x, SG x, SS x))) (pl := []) (wc := (stW cA a (Sn x, Se x, Sv x, St x, (So x) ||| (openF x (dateF x) (allF x)), SK x, SP x, SD x, SG x, SS x))) (wr := ([] : va_W)) (w1 := (stW cA a (lookF (Sn x, Se x, Sv x, St x, (So x) ||| (openF x (dateF x) (allF x)), SK x, SP x, SD x, SG x, SS x)))) (wn := (stW cA a (lookF (Sn x, Se x, Sv x, St x, (So x) ||| (openF x (dateF x) (allF x)), SK x, SP x, SD x, SG x, SS x)))) (isC := [0, 1, 2, 3, 4, 5]) (isR := []) (isN := [0, 1, 2, 3, 4, 5]) ⟨hx, hb, hml, hown, hts⟩ (c_X4_look l D cA tt a (Sn x, Se x, Sv x, St x, (So x) ||| (openF x (dateF x) (allF x)), SK x, SP x, SD x, SG x, SS x) (hg.o (or10 go (openF_lt _ _ gn))) _) gX4_turn_X4_look rfl (by decide +kernel) rfl rfl ⟨rfl, rfl⟩ ⟨Nat.le_of_ble_eq_true rfl, Nat.le_of_ble_eq_true rfl⟩ ⟨Nat.zero_le _, Nat.zero_le _⟩ hK hE hA hP hD hS ⟨⟨rfl, by decide⟩, ⟨rfl, by decide, by decide⟩, rfl, by decide⟩ rfl hl.1 rfl (Nat.le_of_ble_eq_true rfl) dX4_turn_26 (fun H locs hP hD hS => ?_)
  have hP : va_P D vwCl (stW cA a (lookF (Sn x, Se x, Sv x, St x, (So x) ||| (openF x (dateF x) (allF x)), SK x, SP x, SD x, SG x, SS x))) H := hP
  have hD : va_D A (stW cA a (lookF (Sn x, Se x, Sv x, St x, (So x) ||| (openF x (dateF x) (allF x)), SK x, SP x, SD x, SG x, SS x))) := hD
  refine lv_aload_n hx hb dX4_turn_29 rfl (lv_at hl 2 rfl) ?_
  refine lv_iload_n hx hb dX4_turn_30 rfl (lv_at hl 1 rfl) ?_
  refine lv_iload_n hx hb dX4_turn_31 rfl (lv_at hl 0 rfl) ?_
  refine cVv (n := 2) (As := [.int (nI (dateF x)), .int (nI (openF x (dateF x) (allF x)))]) (rest := []) (C := RX4) (ci := 4) (q0 := 0) (X := (stW cA a (lookF (Sn x, Se x, Sv x, St x, (So x) ||| (openF x (dateF x) (allF x)), SK x, SP x, SD x, SG x, SS x)))) (pl := []) (wc := (stW cA a (lookF (Sn x, Se x, Sv x, St x, (So x) ||| (openF x (dateF x) (allF x)), SK x, SP x, SD x, SG x, SS x)))) (wr := ([] : va_W)) (w1 := (stW cA a (closeF (lookF (Sn x, Se x, Sv x, St x, (So x) ||| (openF x (dateF x) (allF x)), SK x, SP x, SD x, SG x, SS x)) (dateF x) (openF x (dateF x) (allF x))))) (wn := (stW cA a (closeF (lookF (Sn x, Se x, Sv x, St x, (So x) ||| (openF x (dateF x) (allF x)), SK x, SP x, SD x, SG x, SS x)) (dateF x) (openF x (dateF x) (allF x))))) (isC := [0, 1, 2, 3, 4, 5]) (isR := []) (isN := [0, 1, 2, 3, 4, 5]) ⟨hx, hb, hml, hown, hts⟩ (c_X4_close l D cA tt a (lookF (Sn x, Se x, Sv x, St x, (So x) ||| (openF x (dateF x) (allF x)), SK x, SP x, SD x, SG x, SS x)) (dateF x) (openF x (dateF x) (allF x)) (Wk.look (hg.o (or10 go (openF_lt _ _ gn)))) (Nat.lt_trans (dateK_lt hg) (by decide)) (Nat.lt_trans (openF_lt _ _ gn) (by decide)) (by rw [(look_n _).2.2.2.1]; exact ht) _) gX4_turn_X4_close rfl (by decide +kernel) rfl rfl ⟨rfl, rfl⟩ ⟨Nat.le_of_ble_eq_true rfl, Nat.le_of_ble_eq_true rfl⟩ ⟨Nat.zero_le _, Nat.zero_le _⟩ hK hE hA hP hD hS ⟨⟨rfl, by decide⟩, ⟨rfl, by decide, by decide⟩, rfl, by decide⟩ rfl hl.1 rfl (Nat.le_of_ble_eq_true rfl) dX4_turn_32 (fun H locs hP hD hS => ?_)
  have hP : va_P D vwCl (stW cA a (closeF (lookF (Sn x, Se x, Sv x, St x, (So x) ||| (openF x (dateF x) (allF x)), SK x, SP x, SD x, SG x, SS x)) (dateF x) (openF x (dateF x) (allF x)))) H := hP
  have hD : va_D A (stW cA a (closeF (lookF (Sn x, Se x, Sv x, St x, (So x) ||| (openF x (dateF x) (allF x)), SK x, SP x, SD x, SG x, SS x)) (dateF x) (openF x (dateF x) (allF x)))) := hD
  exact hend _ _ _ _ hP hD hS dX4_turn_35
set_option maxRecDepth 100000 in
set_option maxHeartbeats 4000000 in
theorem c_X4_turnUnseen (l : Launch) (D : va_G) (cA : Nat → ClassId) (tt : Nat → Nat) (a : Nat → Nat) (x : Sg) (part : Nat) (hg : Wk x) (ht : St x < 1073741824) (hp : part < 1073741824) (sz : Nat) : Cv l D cA tt yX4_turnUnseen wsX4_turnUnseen ({ frames := 2, cells := 0, slots := 0, locals := 48 } : Room) [.ref (a 0), .int (nI (part))] sz (stW cA a x) (stW cA a (turnU x part)) := by
  obtain ⟨gn, ge, gv, go, ga⟩ := id hg
  refine Cv.mk (cc := cX4_turnUnseen) (maxL := 4) (by decide) rfl (Nat.le_of_ble_eq_true rfl) ?_
  intro p e s m below meth c A Q ls hB hl hend
  obtain ⟨⟨hx, hb, hml, hown, hts⟩, hP, hK, hD, hS, hA, hE⟩ := hB
  have hown : s.vm.findClass RX4 = some m.cls := hown
  have hwsX40 : ∀ w9 ∈ wsX40, w9.before ([.ref (a 0), .int (nI (part))] : List Value).toArray s = true := fun w9 h => hts w9 (List.mem_cons_of_mem _ (List.mem_append_right _ h))
  have hl : lv_has ls 4 [(0, .ref (a 0)), (1, .int (nI (part)))] := hl
  refine lv_aload_n hx hb dX4_turnUnseen_0 rfl (lv_at hl 0 rfl) ?_
  refine cVi (n := 0) (As := []) (rest := []) (C := RX4) (ci := 4) (q0 := 0) (X := (stW cA a x)) (pl := []) (wc := (stW cA a x)) (wr := ([] : va_W)) (w1 := (stW cA a x)) (wn := (stW cA a x)) (isC := [0, 1, 2, 3, 4, 5]) (isR := []) (isN := [0, 1, 2, 3, 4, 5]) ⟨hx, hb, hml, hown, hts⟩ (c_X4_date l D cA tt a x (by first | assumption | omega) (by first | assumption | omega) _) gX4_turnUnseen_X4_date rfl (by decide +kernel) rfl rfl ⟨rfl, rfl⟩ ⟨Nat.le_of_ble_eq_true rfl, Nat.le_of_ble_eq_true rfl⟩ ⟨Nat.zero_le _, Nat.zero_le _⟩ hK hE hA hP hD hS ⟨⟨rfl, by decide⟩, ⟨rfl, by decide, by decide⟩, rfl, by decide⟩ rfl hl.1 rfl (Nat.le_of_ble_eq_true rfl) dX4_turnUnseen_1 (fun H locs hP hD hS => ?_)
  have hP : va_P D vwCl (stW cA a x) H := hP
  have hD : va_D A (stW cA a x) := hD
  refine lv_istore_n (lv' := [(2, .int (nI (dateF x))), (0, .ref (a 0)), (1, .int (nI (part)))]) hx hb dX4_turnUnseen_4 rfl hl (by decide) rfl (fun ls hl => ?_)
  refine lv_aload_n hx hb dX4_turnUnseen_5 rfl (lv_at hl 1 rfl) ?_
  refine lv_iload_n hx hb dX4_turnUnseen_6 rfl (lv_at hl 0 rfl) ?_
  refine lv_iload_n hx hb dX4_turnUnseen_7 rfl (lv_at hl 2 rfl) ?_
  refine cVi (n := 2) (As := [.int (nI (dateF x)), .int (nI (part))]) (rest := []) (C := RX4) (ci := 4) (q0 := 0) (X := (stW cA a x)) (pl := []) (wc := (stW cA a x)) (wr := ([] : va_W)) (w1 := (stW cA a x)) (wn := (stW cA a x)) (isC := [0, 1, 2, 3, 4, 5]) (isR := []) (isN := [0, 1, 2, 3, 4, 5]) ⟨hx, hb, hml, hown, hts⟩ (c_X4_opening l D cA tt a x (dateF x) part (by first | assumption | omega) (Nat.lt_trans (dateK_lt hg) (by decide)) (by first | assumption | omega) _) gX4_turnUnseen_X4_opening rfl (by decide +kernel) rfl rfl ⟨rfl, rfl⟩ ⟨Nat.le_of_ble_eq_true rfl, Nat.le_of_ble_eq_true rfl⟩ ⟨Nat.zero_le _, Nat.zero_le _⟩ hK hE hA hP hD hS ⟨⟨rfl, by decide⟩, ⟨rfl, by decide, by decide⟩, rfl, by decide⟩ rfl hl.1 rfl (Nat.le_of_ble_eq_true rfl) dX4_turnUnseen_8 (fun H locs hP hD hS => ?_)
  have hP : va_P D vwCl (stW cA a x) H := hP
  have hD : va_D A (stW cA a x) := hD
  refine lv_istore_n (lv' := [(3, .int (nI (openF x (dateF x) part))), (2, .int (nI (dateF x))), (0, .ref (a 0)), (1, .int (nI (part)))]) hx hb dX4_turnUnseen_11 rfl hl (by decide) rfl (fun ls hl => ?_)
  refine lv_aload_n hx hb dX4_turnUnseen_12 rfl (lv_at hl 2 rfl) ?_
  refine lv_dup hx hb dX4_turnUnseen_13 rfl ?_
  refine va_get (v := .int (nI (So x))) (Ts := wsX40) (C := RX4) (T := TX4) (N := 10) hx hb hwsX40 (fun _ h => h) hown hK hP 0 rfl rfl 9 (by decide) (hts (.fieldLink RX4 46 "AdventStreets$Street" "opened" "I") (List.mem_of_getElem? (i := 1) rfl)) (fun _ h9 => h9) rfl dX4_turnUnseen_14 ?_
  refine lv_iload_n hx hb dX4_turnUnseen_17 rfl (lv_at hl 0 rfl) ?_
  refine lv_ior hx hb dX4_turnUnseen_18 ?_
  refine vn_i (v := nI ((So x) ||| (openF x (dateF x) part))) (n_or _ _) ?_
  refine va_put (v := .int (nI ((So x) ||| (openF x (dateF x) part)))) (ty := .int) (Ts := wsX40) (C := RX4) (T := TX4) (N := 10) hx hb hwsX40 (fun _ h => h) tyX4 tyX4_ok nmX4 hown hK hP hD hS 0 rfl rfl 9 (by decide) (hts (.fieldLink RX4 46 "AdventStreets$Street" "opened" "I") (List.mem_of_getElem? (i := 1) rfl)) (fun _ h9 => h9) rfl (tyX4_ok 9 (by decide)) rfl rfl (Nat.le_of_ble_eq_true rfl) dX4_turnUnseen_19 (fun H locs hP hD hS => ?_)
  have hP : va_P D vwCl (stW cA a (Sn x, Se x, Sv x, St x, (So x) ||| (openF x (dateF x) part), SK x, SP x, SD x, SG x, SS x)) H := hP
  have hD : va_D A (stW cA a (Sn x, Se x, Sv x, St x, (So x) ||| (openF x (dateF x) part), SK x, SP x, SD x, SG x, SS x)) := hD
  refine lv_aload_n hx hb dX4_turnUnseen_22 rfl (lv_at hl 2 rfl) ?_
  refine lv_iload_n hx hb dX4_turnUnseen_23 rfl (lv_at hl 1 rfl) ?_
  refine lv_iload_n hx hb dX4_turnUnseen_24 rfl (lv_at hl 0 rfl) ?_
  refine cVv (n := 2) (As := [.int (nI (dateF x)), .int (nI (openF x (dateF x) part))]) (rest := []) (C := RX4) (ci := 4) (q0 := 0) (X := (stW cA a (Sn x, Se x, Sv x, St x, (So x) ||| (openF x (dateF x) part), SK x, SP x, SD x, SG x, SS x))) (pl := []) (wc := (stW cA a (Sn x, Se x, Sv x, St x, (So x) ||| (openF x (dateF x) part), SK x, SP x, SD x, SG x, SS x))) (wr := ([] : va_W)) (w1 := (stW cA a (closeF (Sn x, Se x, Sv x, St x, (So x) ||| (openF x (dateF x) part), SK x, SP x, SD x, SG x, SS x) (dateF x) (openF x (dateF x) part)))) (wn := (stW cA a (closeF (Sn x, Se x, Sv x, St x, (So x) ||| (openF x (dateF x) part), SK x, SP x, SD x, SG x, SS x) (dateF x) (openF x (dateF x) part)))) (isC := [0, 1, 2, 3, 4, 5]) (isR := []) (isN := [0, 1, 2, 3, 4, 5]) ⟨hx, hb, hml, hown, hts⟩ (c_X4_close l D cA tt a (Sn x, Se x, Sv x, St x, (So x) ||| (openF x (dateF x) part), SK x, SP x, SD x, SG x, SS x) (dateF x) (openF x (dateF x) part) (hg.o (or10 go (openF_lt _ _ gn))) (Nat.lt_trans (dateK_lt hg) (by decide)) (Nat.lt_trans (openF_lt _ _ gn) (by decide)) (ht) _) gX4_turnUnseen_X4_close rfl (by decide +kernel) rfl rfl ⟨rfl, rfl⟩ ⟨Nat.le_of_ble_eq_true rfl, Nat.le_of_ble_eq_true rfl⟩ ⟨Nat.zero_le _, Nat.zero_le _⟩ hK hE hA hP hD hS ⟨⟨rfl, by decide⟩, ⟨rfl, by decide, by decide⟩, rfl, by decide⟩ rfl hl.1 rfl (Nat.le_of_ble_eq_true rfl) dX4_turnUnseen_25 (fun H locs hP hD hS => ?_)
  have hP : va_P D vwCl (stW cA a (closeF (Sn x, Se x, Sv x, St x, (So x) ||| (openF x (dateF x) part), SK x, SP x, SD x, SG x, SS x) (dateF x) (openF x (dateF x) part))) H := hP
  have hD : va_D A (stW cA a (closeF (Sn x, Se x, Sv x, St x, (So x) ||| (openF x (dateF x) part), SK x, SP x, SD x, SG x, SS x) (dateF x) (openF x (dateF x) part))) := hD
  exact hend _ _ _ _ hP hD hS dX4_turnUnseen_28
set_option maxRecDepth 100000 in
set_option maxHeartbeats 4000000 in
theorem c_X4_seenBySome (l : Launch) (D : va_G) (cA : Nat → ClassId) (tt : Nat → Nat) (a : Nat → Nat) (x : Sg) (hg : Wk x) (sz : Nat) : Ci l D cA tt yX4_seenBySome wsX4_seenBySome ({ frames := 0, cells := 0, slots := 0, locals := 0 } : Room) [.ref (a 0)] sz (stW cA a x) (stW cA a x) (nI (seenF x)) := by
  obtain ⟨gn, ge, gv, go, ga⟩ := id hg
  refine Ci.mk (cc := cX4_seenBySome) (maxL := 3) (ty := .int) (by decide) rfl rfl (Nat.le_of_ble_eq_true rfl) ?_
  intro p e s m below meth c A Q ls hB hl hend
  obtain ⟨⟨hx, hb, hml, hown, hts⟩, hP, hK, hD, hS, hA, hE⟩ := hB
  have hown : s.vm.findClass RX4 = some m.cls := hown
  have hwsX40 : ∀ w9 ∈ wsX40, w9.before ([.ref (a 0)] : List Value).toArray s = true := fun w9 h => hts w9 (List.mem_cons_of_mem _ (List.mem_append_right _ h))
  have hl : lv_has ls 3 [(0, .ref (a 0))] := hl
  refine lv_iconst (v := nI (0)) hx hb dX4_seenBySome_0 (by decide) ?_
  refine lv_istore_n (lv' := [(1, .int (nI (0))), (0, .ref (a 0))]) hx hb dX4_seenBySome_1 rfl hl (by decide) rfl (fun ls hl => ?_)
  refine lv_iconst (v := nI (0)) hx hb dX4_seenBySome_2 (by decide) ?_
  refine lv_istore_n (lv' := [(2, .int (nI (0))), (1, .int (nI (0))), (0, .ref (a 0))]) hx hb dX4_seenBySome_3 rfl hl (by decide) rfl (fun ls hl => ?_)
  have loop4 : ∀ (N4 : Nat) (i : Nat), (i ≤ Sn x) → (Sn x - i) < N4 → ∀ (H : Heap) (locs : List Loc) (ls : Array Slot), va_P D vwCl (stW cA a x) H → va_D A (stW cA a x) → va_S A s.heap H locs → lv_has ls 3 [(2, .int (nI (i))), (1, .int (nI (orN i (SS x)))), (0, .ref (a 0))] → W p l e ({ frames := 0, cells := 0, slots := 0, locals := 0 } : Room) s m ([.ref (a 0)] : List Value).toArray below meth c H locs 0 0 Q (F0 m 4 ls []) := by
    intro N4
    induction N4 with
    | zero => intro i iv4_0 hN; exact absurd hN (Nat.not_lt_zero _)
    | succ N4 ih4 =>
      intro i iv4_0 hN4 H locs ls hP hD hS hl
      refine lv_iload_n hx hb dX4_seenBySome_4 rfl (lv_at hl 0 rfl) ?_
      refine lv_aload_n hx hb dX4_seenBySome_5 rfl (lv_at hl 2 rfl) ?_
      refine va_get (v := .int (nI (Sn x))) (Ts := wsX40) (C := RX4) (T := TX4) (N := 10) hx hb hwsX40 (fun _ h => h) hown hK hP 0 rfl rfl 5 (by decide) (hts (.fieldLink RX4 33 "AdventStreets$Street" "windows" "I") (List.mem_of_getElem? (i := 1) rfl)) (fun _ h9 => h9) rfl dX4_seenBySome_6 ?_
      refine lv_icmp_ge (tgt := 27) hx hb dX4_seenBySome_9 (by decide) (fun c2 => ?_) (fun c2 => ?_)
      · skip
        rw [nI_leI (by omega) (by omega)] at c2
        refine lv_iload_n hx hb dX4_seenBySome_27 rfl (lv_at hl 1 rfl) ?_
        exact hend _ _ _ _ _ hP hD hS (by rw [show i = Sn x by omega]; rfl) dX4_seenBySome_28
      · skip
        rw [nI_leI (by omega) (by omega)] at c2
        refine lv_iload_n hx hb dX4_seenBySome_12 rfl (lv_at hl 1 rfl) ?_
        refine lv_aload_n hx hb dX4_seenBySome_13 rfl (lv_at hl 2 rfl) ?_
        refine va_get (v := .ref (a 5)) (Ts := wsX40) (C := RX4) (T := TX4) (N := 10) hx hb hwsX40 (fun _ h => h) hown hK hP 0 rfl rfl 4 (by decide) (hts (.fieldLink RX4 24 "AdventStreets$Street" "seen" "[I") (List.mem_of_getElem? (i := 2) rfl)) (fun _ h9 => h9) rfl dX4_seenBySome_14 ?_
        refine lv_iload_n hx hb dX4_seenBySome_17 rfl (lv_at hl 0 rfl) ?_
        refine r_ald (f := SS x) hx hb hK hP 5 rfl (i := i) (by omega) (by decide) dX4_seenBySome_18 ?_
        refine lv_ior hx hb dX4_seenBySome_19 ?_
        refine vn_i (v := nI ((orN i (SS x)) ||| (SS x i))) (n_or _ _) ?_
        refine lv_istore_n (lv' := [(1, .int (nI ((orN i (SS x)) ||| (SS x i)))), (2, .int (nI (i))), (0, .ref (a 0))]) hx hb dX4_seenBySome_20 rfl hl (by decide) rfl (fun ls hl => ?_)
        refine lv_iinc (v := nI (i + 1)) (lv' := [(2, .int (nI (i + 1))), (1, .int (nI ((orN i (SS x)) ||| (SS x i)))), (0, .ref (a 0))]) hx hb dX4_seenBySome_21 hl (k := 1) rfl (nI_add _ _) (by decide) rfl (fun ls hl => ?_)
        refine lv_goto (tgt := 4) hx hb dX4_seenBySome_24 (by decide) ?_
        have hl9 := lv_sub (l' := [(2, .int (nI (i + 1))), (1, .int (nI ((orN i (SS x)) ||| (SS x i)))), (0, .ref (a 0))]) hl [0, 1, 2] rfl
        have el3 : (.int (nI ((orN i (SS x)) ||| (SS x i))) : Value) = .int (nI (orN (i + 1) (SS x))) := by
          rfl
        rw [el3] at hl9
        exact ih4 (i + 1) (by omega) (by omega) _ _ _ hP hD hS hl9
  have hl9 := lv_sub (l' := [(2, .int (nI (0))), (1, .int (nI (0))), (0, .ref (a 0))]) hl [0, 1, 2] rfl
  have el4 : (.int (nI (0)) : Value) = .int (nI (orN 0 (SS x))) := by
    rfl
  rw [el4] at hl9
  exact loop4 _ 0 (by omega) (Nat.lt_succ_self _) _ _ _ hP hD hS hl9
set_option maxRecDepth 100000 in
set_option maxHeartbeats 4000000 in
theorem c_X4_firstBare (l : Launch) (D : va_G) (cA : Nat → ClassId) (tt : Nat → Nat) (a : Nat → Nat) (x : Sg) (hg : Wk x) (sz : Nat) : Ci l D cA tt yX4_firstBare wsX4_firstBare ({ frames := 0, cells := 0, slots := 0, locals := 0 } : Room) [.ref (a 0)] sz (stW cA a x) (stW cA a x) (bareF x) := by
  obtain ⟨gn, ge, gv, go, ga⟩ := id hg
  refine Ci.mk (cc := cX4_firstBare) (maxL := 2) (ty := .int) (by decide) rfl rfl (Nat.le_of_ble_eq_true rfl) ?_
  intro p e s m below meth c A Q ls hB hl hend
  obtain ⟨⟨hx, hb, hml, hown, hts⟩, hP, hK, hD, hS, hA, hE⟩ := hB
  have hown : s.vm.findClass RX4 = some m.cls := hown
  have hwsX40 : ∀ w9 ∈ wsX40, w9.before ([.ref (a 0)] : List Value).toArray s = true := fun w9 h => hts w9 (List.mem_cons_of_mem _ (List.mem_append_right _ h))
  have hl : lv_has ls 2 [(0, .ref (a 0))] := hl
  refine lv_iconst (v := nI (0)) hx hb dX4_firstBare_0 (by decide) ?_
  refine lv_istore_n (lv' := [(1, .int (nI (0))), (0, .ref (a 0))]) hx hb dX4_firstBare_1 rfl hl (by decide) rfl (fun ls hl => ?_)
  have loop2 : ∀ (N2 : Nat) (i : Nat), (i ≤ Sn x) → (∀ j, j < i → decide (SG x j = 0) = false) → (Sn x - i) < N2 → ∀ (H : Heap) (locs : List Loc) (ls : Array Slot), va_P D vwCl (stW cA a x) H → va_D A (stW cA a x) → va_S A s.heap H locs → lv_has ls 2 [(1, .int (nI (i))), (0, .ref (a 0))] → W p l e ({ frames := 0, cells := 0, slots := 0, locals := 0 } : Room) s m ([.ref (a 0)] : List Value).toArray below meth c H locs 0 0 Q (F0 m 2 ls []) := by
    intro N2
    induction N2 with
    | zero => intro i iv2_0 iv2_1 hN; exact absurd hN (Nat.not_lt_zero _)
    | succ N2 ih2 =>
      intro i iv2_0 iv2_1 hN2 H locs ls hP hD hS hl
      refine lv_iload_n hx hb dX4_firstBare_2 rfl (lv_at hl 0 rfl) ?_
      refine lv_aload_n hx hb dX4_firstBare_3 rfl (lv_at hl 1 rfl) ?_
      refine va_get (v := .int (nI (Sn x))) (Ts := wsX40) (C := RX4) (T := TX4) (N := 10) hx hb hwsX40 (fun _ h => h) hown hK hP 0 rfl rfl 5 (by decide) (hts (.fieldLink RX4 33 "AdventStreets$Street" "windows" "I") (List.mem_of_getElem? (i := 1) rfl)) (fun _ h9 => h9) rfl dX4_firstBare_4 ?_
      refine lv_icmp_ge (tgt := 27) hx hb dX4_firstBare_7 (by decide) (fun c2 => ?_) (fun c2 => ?_)
      · skip
        rw [nI_leI (by omega) (by omega)] at c2
        refine lv_ldc (v := (-1000000)) hx hb hown (hts (.constant RX4 82 (-1000000)) (List.mem_of_getElem? (i := 3) rfl)) dX4_firstBare_27 ?_
        exact hend _ _ _ _ _ hP hD hS ((fstI_none (fun j hj => iv2_1 j (by omega))).symm) dX4_firstBare_29
      · skip
        rw [nI_leI (by omega) (by omega)] at c2
        refine lv_aload_n hx hb dX4_firstBare_10 rfl (lv_at hl 1 rfl) ?_
        refine va_get (v := .ref (a 4)) (Ts := wsX40) (C := RX4) (T := TX4) (N := 10) hx hb hwsX40 (fun _ h => h) hown hK hP 0 rfl rfl 3 (by decide) (hts (.fieldLink RX4 21 "AdventStreets$Street" "glues" "[I") (List.mem_of_getElem? (i := 2) rfl)) (fun _ h9 => h9) rfl dX4_firstBare_11 ?_
        refine lv_iload_n hx hb dX4_firstBare_14 rfl (lv_at hl 0 rfl) ?_
        refine r_ald (f := SG x) hx hb hK hP 4 rfl (i := i) (by omega) (by decide) dX4_firstBare_15 ?_
        have f15_f3 := ga i (by omega)
        refine lv_if_ne (tgt := 21) hx hb dX4_firstBare_16 (by decide) (fun c4 => ?_) (fun c4 => ?_)
        · skip
          rw [n_z (by omega)] at c4
          refine lv_iinc (v := nI (i + 1)) (lv' := [(1, .int (nI (i + 1))), (0, .ref (a 0))]) hx hb dX4_firstBare_21 hl (k := 0) rfl (nI_add _ _) (by decide) rfl (fun ls hl => ?_)
          refine lv_goto (tgt := 2) hx hb dX4_firstBare_24 (by decide) ?_
          have hl9 := lv_sub (l' := [(1, .int (nI (i + 1))), (0, .ref (a 0))]) hl [0, 1] rfl
          exact ih2 (i + 1) (by omega) (lt_s (p := fun j => decide (SG x j = 0) = false) iv2_1 (by simp [c4])) (by omega) _ _ _ hP hD hS hl9
        · skip
          rw [n_z (by omega)] at c4
          refine lv_iload_n hx hb dX4_firstBare_19 rfl (lv_at hl 0 rfl) ?_
          exact hend _ _ _ _ _ hP hD hS ((fstI_some (by omega) (by simp [c4]) iv2_1).symm) dX4_firstBare_20
  have hl9 := lv_sub (l' := [(1, .int (nI (0))), (0, .ref (a 0))]) hl [0, 1] rfl
  exact loop2 _ 0 (by omega) (lt_0) (Nat.lt_succ_self _) _ _ _ hP hD hS hl9
set_option maxRecDepth 100000 in
set_option maxHeartbeats 4000000 in
theorem c_X4_rulers (l : Launch) (D : va_G) (cA : Nat → ClassId) (tt : Nat → Nat) (a : Nat → Nat) (x : Sg) (hg : Wk x) (sz : Nat) : Ci l D cA tt yX4_rulers wsX4_rulers ({ frames := 0, cells := 0, slots := 0, locals := 0 } : Room) [.ref (a 0)] sz (stW cA a x) (stW cA a x) (nI (rulF x)) := by
  obtain ⟨gn, ge, gv, go, ga⟩ := id hg
  refine Ci.mk (cc := cX4_rulers) (maxL := 3) (ty := .int) (by decide) rfl rfl (Nat.le_of_ble_eq_true rfl) ?_
  intro p e s m below meth c A Q ls hB hl hend
  obtain ⟨⟨hx, hb, hml, hown, hts⟩, hP, hK, hD, hS, hA, hE⟩ := hB
  have hown : s.vm.findClass RX4 = some m.cls := hown
  have hwsX40 : ∀ w9 ∈ wsX40, w9.before ([.ref (a 0)] : List Value).toArray s = true := fun w9 h => hts w9 (List.mem_cons_of_mem _ (List.mem_append_right _ h))
  have hl : lv_has ls 3 [(0, .ref (a 0))] := hl
  refine lv_iconst (v := nI (0)) hx hb dX4_rulers_0 (by decide) ?_
  refine lv_istore_n (lv' := [(1, .int (nI (0))), (0, .ref (a 0))]) hx hb dX4_rulers_1 rfl hl (by decide) rfl (fun ls hl => ?_)
  refine lv_iconst (v := nI (0)) hx hb dX4_rulers_2 (by decide) ?_
  refine lv_istore_n (lv' := [(2, .int (nI (0))), (1, .int (nI (0))), (0, .ref (a 0))]) hx hb dX4_rulers_3 rfl hl (by decide) rfl (fun ls hl => ?_)
  have loop4 : ∀ (N4 : Nat) (i : Nat), (i ≤ Sn x) → (Sn x - i) < N4 → ∀ (H : Heap) (locs : List Loc) (ls : Array Slot), va_P D vwCl (stW cA a x) H → va_D A (stW cA a x) → va_S A s.heap H locs → lv_has ls 3 [(2, .int (nI (i))), (1, .int (nI (mkb i (fun k => decide (SK x k = 5))))), (0, .ref (a 0))] → W p l e ({ frames := 0, cells := 0, slots := 0, locals := 0 } : Room) s m ([.ref (a 0)] : List Value).toArray below meth c H locs 0 0 Q (F0 m 4 ls []) := by
    intro N4
    induction N4 with
    | zero => intro i iv4_0 hN; exact absurd hN (Nat.not_lt_zero _)
    | succ N4 ih4 =>
      intro i iv4_0 hN4 H locs ls hP hD hS hl
      refine lv_iload_n hx hb dX4_rulers_4 rfl (lv_at hl 0 rfl) ?_
      refine lv_aload_n hx hb dX4_rulers_5 rfl (lv_at hl 2 rfl) ?_
      refine va_get (v := .int (nI (Sn x))) (Ts := wsX40) (C := RX4) (T := TX4) (N := 10) hx hb hwsX40 (fun _ h => h) hown hK hP 0 rfl rfl 5 (by decide) (hts (.fieldLink RX4 33 "AdventStreets$Street" "windows" "I") (List.mem_of_getElem? (i := 1) rfl)) (fun _ h9 => h9) rfl dX4_rulers_6 ?_
      refine lv_icmp_ge (tgt := 38) hx hb dX4_rulers_9 (by decide) (fun c2 => ?_) (fun c2 => ?_)
      · skip
        rw [nI_leI (by omega) (by omega)] at c2
        refine lv_iload_n hx hb dX4_rulers_38 rfl (lv_at hl 1 rfl) ?_
        exact hend _ _ _ _ _ hP hD hS (by rw [show i = Sn x by omega]; rfl) dX4_rulers_39
      · skip
        rw [nI_leI (by omega) (by omega)] at c2
        refine lv_iload_n hx hb dX4_rulers_12 rfl (lv_at hl 1 rfl) ?_
        refine lv_aload_n hx hb dX4_rulers_13 rfl (lv_at hl 2 rfl) ?_
        refine va_get (v := .ref (a 1)) (Ts := wsX40) (C := RX4) (T := TX4) (N := 10) hx hb hwsX40 (fun _ h => h) hown hK hP 0 rfl rfl 0 (by decide) (hts (.fieldLink RX4 9 "AdventStreets$Street" "kinds" "[I") (List.mem_of_getElem? (i := 2) rfl)) (fun _ h9 => h9) rfl dX4_rulers_14 ?_
        refine lv_iload_n hx hb dX4_rulers_17 rfl (lv_at hl 0 rfl) ?_
        refine r_ald (f := SK x) hx hb hK hP 1 rfl (i := i) (by omega) (by decide) dX4_rulers_18 ?_
        have f18_f3 := ga i (by omega)
        refine lv_iconst (v := nI (5)) hx hb dX4_rulers_19 (by decide) ?_
        refine lv_icmp_ne (tgt := 29) hx hb dX4_rulers_20 (by decide) (fun c4 => ?_) (fun c4 => ?_)
        · skip
          rw [nI_eq (by omega) (by omega)] at c4
          refine lv_iconst (v := nI (0)) hx hb dX4_rulers_29 (by decide) ?_
          refine lv_ior hx hb dX4_rulers_30 ?_
          refine vn_i (v := nI ((mkb i (fun k => decide (SK x k = 5))) ||| 0)) (n_or _ _) ?_
          refine lv_istore_n (lv' := [(1, .int (nI ((mkb i (fun k => decide (SK x k = 5))) ||| 0))), (2, .int (nI (i))), (0, .ref (a 0))]) hx hb dX4_rulers_31 rfl hl (by decide) rfl (fun ls hl => ?_)
          refine lv_iinc (v := nI (i + 1)) (lv' := [(2, .int (nI (i + 1))), (1, .int (nI ((mkb i (fun k => decide (SK x k = 5))) ||| 0))), (0, .ref (a 0))]) hx hb dX4_rulers_32 hl (k := 1) rfl (nI_add _ _) (by decide) rfl (fun ls hl => ?_)
          refine lv_goto (tgt := 4) hx hb dX4_rulers_35 (by decide) ?_
          have hl9 := lv_sub (l' := [(2, .int (nI (i + 1))), (1, .int (nI ((mkb i (fun k => decide (SK x k = 5))) ||| 0))), (0, .ref (a 0))]) hl [0, 1, 2] rfl
          have el5 : (.int (nI ((mkb i (fun k => decide (SK x k = 5))) ||| 0)) : Value) = .int (nI (mkb (i + 1) (fun k => decide (SK x k = 5)))) := by
            rw [mkb_succ, if_neg (by simp [c2, c4]), Nat.or_zero]
          rw [el5] at hl9
          exact ih4 (i + 1) (by omega) (by omega) _ _ _ hP hD hS hl9
        · skip
          rw [nI_eq (by omega) (by omega)] at c4
          refine lv_iconst (v := nI (1)) hx hb dX4_rulers_23 (by decide) ?_
          refine lv_iload_n hx hb dX4_rulers_24 rfl (lv_at hl 0 rfl) ?_
          refine lv_ishl hx hb dX4_rulers_25 ?_
          refine vn_i (v := nI (2 ^ i)) (n_shl1 (by omega)) ?_
          refine lv_goto (tgt := 30) hx hb dX4_rulers_26 (by decide) ?_
          refine lv_ior hx hb dX4_rulers_30 ?_
          refine vn_i (v := nI ((mkb i (fun k => decide (SK x k = 5))) ||| (2 ^ i))) (n_or _ _) ?_
          refine lv_istore_n (lv' := [(1, .int (nI ((mkb i (fun k => decide (SK x k = 5))) ||| (2 ^ i)))), (2, .int (nI (i))), (0, .ref (a 0))]) hx hb dX4_rulers_31 rfl hl (by decide) rfl (fun ls hl => ?_)
          refine lv_iinc (v := nI (i + 1)) (lv' := [(2, .int (nI (i + 1))), (1, .int (nI ((mkb i (fun k => decide (SK x k = 5))) ||| (2 ^ i)))), (0, .ref (a 0))]) hx hb dX4_rulers_32 hl (k := 1) rfl (nI_add _ _) (by decide) rfl (fun ls hl => ?_)
          refine lv_goto (tgt := 4) hx hb dX4_rulers_35 (by decide) ?_
          have hl9 := lv_sub (l' := [(2, .int (nI (i + 1))), (1, .int (nI ((mkb i (fun k => decide (SK x k = 5))) ||| (2 ^ i)))), (0, .ref (a 0))]) hl [0, 1, 2] rfl
          have el6 : (.int (nI ((mkb i (fun k => decide (SK x k = 5))) ||| (2 ^ i))) : Value) = .int (nI (mkb (i + 1) (fun k => decide (SK x k = 5)))) := by
            rw [mkb_succ, if_pos (by simp [c2, c4])]
          rw [el6] at hl9
          exact ih4 (i + 1) (by omega) (by omega) _ _ _ hP hD hS hl9
  have hl9 := lv_sub (l' := [(2, .int (nI (0))), (1, .int (nI (0))), (0, .ref (a 0))]) hl [0, 1, 2] rfl
  have el7 : (.int (nI (0)) : Value) = .int (nI (mkb 0 (fun k => decide (SK x k = 5)))) := by
    rfl
  rw [el7] at hl9
  exact loop4 _ 0 (by omega) (Nat.lt_succ_self _) _ _ _ hP hD hS hl9
set_option maxRecDepth 100000 in
set_option maxHeartbeats 4000000 in
theorem c_X4_touching (l : Launch) (D : va_G) (cA : Nat → ClassId) (tt : Nat → Nat) (a : Nat → Nat) (x : Sg) (w : Nat) (hg : Wk x) (hw : w < 10) (sz : Nat) : Ci l D cA tt yX4_touching wsX4_touching ({ frames := 1, cells := 0, slots := 0, locals := 22 } : Room) [.ref (a 0), .int (nI (w))] sz (stW cA a x) (stW cA a x) (nI (touchF x w)) := by
  obtain ⟨gn, ge, gv, go, ga⟩ := id hg
  refine Ci.mk (cc := cX4_touching) (maxL := 5) (ty := .int) (by decide) rfl rfl (Nat.le_of_ble_eq_true rfl) ?_
  intro p e s m below meth c A Q ls hB hl hend
  obtain ⟨⟨hx, hb, hml, hown, hts⟩, hP, hK, hD, hS, hA, hE⟩ := hB
  have hown : s.vm.findClass RX4 = some m.cls := hown
  have hwsX40 : ∀ w9 ∈ wsX40, w9.before ([.ref (a 0), .int (nI (w))] : List Value).toArray s = true := fun w9 h => hts w9 (List.mem_cons_of_mem _ (List.mem_append_right _ h))
  have hl : lv_has ls 5 [(0, .ref (a 0)), (1, .int (nI (w)))] := hl
  refine lv_iconst (v := nI (1)) hx hb dX4_touching_0 (by decide) ?_
  refine lv_iload_n hx hb dX4_touching_1 rfl (lv_at hl 1 rfl) ?_
  refine lv_ishl hx hb dX4_touching_2 ?_
  refine vn_i (v := nI (2 ^ w)) (n_shl1 (by omega)) ?_
  refine lv_istore_n (lv' := [(2, .int (nI (2 ^ w))), (0, .ref (a 0)), (1, .int (nI (w)))]) hx hb dX4_touching_3 rfl hl (by decide) rfl (fun ls hl => ?_)
  refine lv_iconst (v := nI (0)) hx hb dX4_touching_4 (by decide) ?_
  refine lv_istore_n (lv' := [(3, .int (nI (0))), (2, .int (nI (2 ^ w))), (0, .ref (a 0)), (1, .int (nI (w)))]) hx hb dX4_touching_5 rfl hl (by decide) rfl (fun ls hl => ?_)
  have loop6 : ∀ (N6 : Nat) (i : Nat), (i ≤ Sn x) → (Sn x - i) < N6 → ∀ (H : Heap) (locs : List Loc) (ls : Array Slot), va_P D vwCl (stW cA a x) H → va_D A (stW cA a x) → va_S A s.heap H locs → lv_has ls 5 [(3, .int (nI (i))), (2, .int (nI (touchL x w i))), (0, .ref (a 0)), (1, .int (nI (w)))] → W p l e ({ frames := 1, cells := 0, slots := 0, locals := 22 } : Room) s m ([.ref (a 0), .int (nI (w))] : List Value).toArray below meth c H locs 0 0 Q (F0 m 6 ls []) := by
    intro N6
    induction N6 with
    | zero => intro i iv6_0 hN; exact absurd hN (Nat.not_lt_zero _)
    | succ N6 ih6 =>
      intro i iv6_0 hN6 H locs ls hP hD hS hl
      refine lv_iload_n hx hb dX4_touching_6 rfl (lv_at hl 0 rfl) ?_
      refine lv_aload_n hx hb dX4_touching_7 rfl (lv_at hl 2 rfl) ?_
      refine va_get (v := .int (nI (Sn x))) (Ts := wsX40) (C := RX4) (T := TX4) (N := 10) hx hb hwsX40 (fun _ h => h) hown hK hP 0 rfl rfl 5 (by decide) (hts (.fieldLink RX4 33 "AdventStreets$Street" "windows" "I") (List.mem_of_getElem? (i := 1) rfl)) (fun _ h9 => h9) rfl dX4_touching_8 ?_
      refine lv_icmp_ge (tgt := 45) hx hb dX4_touching_11 (by decide) (fun c2 => ?_) (fun c2 => ?_)
      · skip
        rw [nI_leI (by omega) (by omega)] at c2
        refine lv_iload_n hx hb dX4_touching_45 rfl (lv_at hl 1 rfl) ?_
        exact hend _ _ _ _ _ hP hD hS (by rw [show i = Sn x by omega]; rfl) dX4_touching_46
      · skip
        rw [nI_leI (by omega) (by omega)] at c2
        refine lv_iload_n hx hb dX4_touching_14 rfl (lv_at hl 1 rfl) ?_
        refine lv_aload_n hx hb dX4_touching_15 rfl (lv_at hl 2 rfl) ?_
        refine cVi (n := 0) (As := []) (rest := [.int (nI (touchL x w i))]) (C := RX4) (ci := 4) (q0 := 0) (X := (stW cA a x)) (pl := []) (wc := (stW cA a x)) (wr := ([] : va_W)) (w1 := (stW cA a x)) (wn := (stW cA a x)) (isC := [0, 1, 2, 3, 4, 5]) (isR := []) (isN := [0, 1, 2, 3, 4, 5]) ⟨hx, hb, hml, hown, hts⟩ (c_X4_rulers l D cA tt a x (by first | assumption | omega) _) gX4_touching_X4_rulers rfl (by decide +kernel) rfl rfl ⟨rfl, rfl⟩ ⟨Nat.le_of_ble_eq_true rfl, Nat.le_of_ble_eq_true rfl⟩ ⟨Nat.zero_le _, Nat.zero_le _⟩ hK hE hA hP hD hS ⟨⟨rfl, by decide⟩, ⟨rfl, by decide, by decide⟩, rfl, by decide⟩ rfl hl.1 rfl (Nat.le_of_ble_eq_true rfl) dX4_touching_16 (fun H locs hP hD hS => ?_)
        have hP : va_P D vwCl (stW cA a x) H := hP
        have hD : va_D A (stW cA a x) := hD
        refine lv_iand hx hb dX4_touching_19 ?_
        refine vn_i (v := nI ((touchL x w i) &&& (rulF x))) (n_and _ _) ?_
        refine lv_istore (lv' := [(4, .int (nI ((touchL x w i) &&& (rulF x)))), (3, .int (nI (i))), (2, .int (nI (touchL x w i))), (0, .ref (a 0)), (1, .int (nI (w)))]) hx hb dX4_touching_20 hl (by decide) rfl (fun ls hl => ?_)
        refine lv_iload_n hx hb dX4_touching_22 rfl (lv_at hl 2 rfl) ?_
        refine lv_iload hx hb dX4_touching_23 (lv_at hl 0 rfl) ?_
        refine lv_iconst (v := nI (1)) hx hb dX4_touching_25 (by decide) ?_
        refine lv_ishl hx hb dX4_touching_26 ?_
        refine vn_i (v := nI (((touchL x w i) &&& (rulF x)) * 2 ^ 1)) (n_shl _ (by omega)) ?_
        refine lv_iload hx hb dX4_touching_27 (lv_at hl 0 rfl) ?_
        refine lv_iconst (v := nI (1)) hx hb dX4_touching_29 (by decide) ?_
        refine lv_ishr hx hb dX4_touching_30 ?_
        refine vn_i (v := nI (((touchL x w i) &&& (rulF x)) / 2 ^ 1)) (n_shr (Nat.lt_trans (and10 (touch_lt gn hw i)) (by decide)) (by omega)) ?_
        refine lv_ior hx hb dX4_touching_31 ?_
        refine vn_i (v := nI ((((touchL x w i) &&& (rulF x)) * 2 ^ 1) ||| (((touchL x w i) &&& (rulF x)) / 2 ^ 1))) (n_or _ _) ?_
        refine lv_aload_n hx hb dX4_touching_32 rfl (lv_at hl 3 rfl) ?_
        refine cVi (n := 0) (As := []) (rest := [.int (nI ((((touchL x w i) &&& (rulF x)) * 2 ^ 1) ||| (((touchL x w i) &&& (rulF x)) / 2 ^ 1))), .int (nI (touchL x w i))]) (C := RX4) (ci := 4) (q0 := 0) (X := (stW cA a x)) (pl := []) (wc := (stW cA a x)) (wr := ([] : va_W)) (w1 := (stW cA a x)) (wn := (stW cA a x)) (isC := [0, 1, 2, 3, 4, 5]) (isR := []) (isN := [0, 1, 2, 3, 4, 5]) ⟨hx, hb, hml, hown, hts⟩ (c_X4_all l D cA tt a x (by first | assumption | omega) _) gX4_touching_X4_all rfl (by decide +kernel) rfl rfl ⟨rfl, rfl⟩ ⟨Nat.le_of_ble_eq_true rfl, Nat.le_of_ble_eq_true rfl⟩ ⟨Nat.zero_le _, Nat.zero_le _⟩ hK hE hA hP hD hS ⟨⟨rfl, by decide⟩, ⟨rfl, by decide, by decide⟩, rfl, by decide⟩ rfl hl.1 rfl (Nat.le_of_ble_eq_true rfl) dX4_touching_33 (fun H locs hP hD hS => ?_)
        have hP : va_P D vwCl (stW cA a x) H := hP
        have hD : va_D A (stW cA a x) := hD
        refine lv_iand hx hb dX4_touching_36 ?_
        refine vn_i (v := nI (((((touchL x w i) &&& (rulF x)) * 2 ^ 1) ||| (((touchL x w i) &&& (rulF x)) / 2 ^ 1)) &&& (allF x))) (n_and _ _) ?_
        refine lv_ior hx hb dX4_touching_37 ?_
        refine vn_i (v := nI ((touchL x w i) ||| (((((touchL x w i) &&& (rulF x)) * 2 ^ 1) ||| (((touchL x w i) &&& (rulF x)) / 2 ^ 1)) &&& (allF x)))) (n_or _ _) ?_
        refine lv_istore_n (lv' := [(2, .int (nI ((touchL x w i) ||| (((((touchL x w i) &&& (rulF x)) * 2 ^ 1) ||| (((touchL x w i) &&& (rulF x)) / 2 ^ 1)) &&& (allF x))))), (4, .int (nI ((touchL x w i) &&& (rulF x)))), (3, .int (nI (i))), (0, .ref (a 0)), (1, .int (nI (w)))]) hx hb dX4_touching_38 rfl hl (by decide) rfl (fun ls hl => ?_)
        refine lv_iinc (v := nI (i + 1)) (lv' := [(3, .int (nI (i + 1))), (2, .int (nI ((touchL x w i) ||| (((((touchL x w i) &&& (rulF x)) * 2 ^ 1) ||| (((touchL x w i) &&& (rulF x)) / 2 ^ 1)) &&& (allF x))))), (4, .int (nI ((touchL x w i) &&& (rulF x)))), (0, .ref (a 0)), (1, .int (nI (w)))]) hx hb dX4_touching_39 hl (k := 2) rfl (nI_add _ _) (by decide) rfl (fun ls hl => ?_)
        refine lv_goto (tgt := 6) hx hb dX4_touching_42 (by decide) ?_
        have hl9 := lv_sub (l' := [(3, .int (nI (i + 1))), (2, .int (nI ((touchL x w i) ||| (((((touchL x w i) &&& (rulF x)) * 2 ^ 1) ||| (((touchL x w i) &&& (rulF x)) / 2 ^ 1)) &&& (allF x))))), (0, .ref (a 0)), (1, .int (nI (w)))]) hl [0, 1, 3, 4] rfl
        have el3 : (.int (nI ((touchL x w i) ||| (((((touchL x w i) &&& (rulF x)) * 2 ^ 1) ||| (((touchL x w i) &&& (rulF x)) / 2 ^ 1)) &&& (allF x)))) : Value) = .int (nI (touchL x w (i + 1))) := by
          rfl
        rw [el3] at hl9
        exact ih6 (i + 1) (by omega) (by omega) _ _ _ hP hD hS hl9
  have hl9 := lv_sub (l' := [(3, .int (nI (0))), (2, .int (nI (2 ^ w))), (0, .ref (a 0)), (1, .int (nI (w)))]) hl [0, 1, 2, 3] rfl
  have el4 : (.int (nI (2 ^ w)) : Value) = .int (nI (touchL x w 0)) := by
    rfl
  rw [el4] at hl9
  exact loop6 _ 0 (by omega) (Nat.lt_succ_self _) _ _ _ hP hD hS hl9
set_option maxRecDepth 100000 in
set_option maxHeartbeats 4000000 in
theorem c_X4_gluable (l : Launch) (D : va_G) (cA : Nat → ClassId) (tt : Nat → Nat) (a : Nat → Nat) (x : Sg) (hg : Wk x) (sz : Nat) : Ci l D cA tt yX4_gluable wsX4_gluable ({ frames := 0, cells := 0, slots := 0, locals := 0 } : Room) [.ref (a 0)] sz (stW cA a x) (stW cA a x) (nI (gluF x)) := by
  obtain ⟨gn, ge, gv, go, ga⟩ := id hg
  refine Ci.mk (cc := cX4_gluable) (maxL := 4) (ty := .int) (by decide) rfl rfl (Nat.le_of_ble_eq_true rfl) ?_
  intro p e s m below meth c A Q ls hB hl hend
  obtain ⟨⟨hx, hb, hml, hown, hts⟩, hP, hK, hD, hS, hA, hE⟩ := hB
  have hown : s.vm.findClass RX4 = some m.cls := hown
  have hwsX40 : ∀ w9 ∈ wsX40, w9.before ([.ref (a 0)] : List Value).toArray s = true := fun w9 h => hts w9 (List.mem_cons_of_mem _ (List.mem_append_right _ h))
  have hl : lv_has ls 4 [(0, .ref (a 0))] := hl
  refine lv_iconst (v := nI (0)) hx hb dX4_gluable_0 (by decide) ?_
  refine lv_istore_n (lv' := [(1, .int (nI (0))), (0, .ref (a 0))]) hx hb dX4_gluable_1 rfl hl (by decide) rfl (fun ls hl => ?_)
  refine lv_iconst (v := nI (0)) hx hb dX4_gluable_2 (by decide) ?_
  refine lv_istore_n (lv' := [(2, .int (nI (0))), (1, .int (nI (0))), (0, .ref (a 0))]) hx hb dX4_gluable_3 rfl hl (by decide) rfl (fun ls hl => ?_)
  have loop4 : ∀ (N4 : Nat) (i : Nat), (i ≤ Sn x) → (Sn x - i) < N4 → ∀ (H : Heap) (locs : List Loc) (ls : Array Slot), va_P D vwCl (stW cA a x) H → va_D A (stW cA a x) → va_S A s.heap H locs → lv_has ls 4 [(2, .int (nI (i))), (1, .int (nI (mkb i (gluP x)))), (0, .ref (a 0))] → W p l e ({ frames := 0, cells := 0, slots := 0, locals := 0 } : Room) s m ([.ref (a 0)] : List Value).toArray below meth c H locs 0 0 Q (F0 m 4 ls []) := by
    intro N4
    induction N4 with
    | zero => intro i iv4_0 hN; exact absurd hN (Nat.not_lt_zero _)
    | succ N4 ih4 =>
      intro i iv4_0 hN4 H locs ls hP hD hS hl
      refine lv_iload_n hx hb dX4_gluable_4 rfl (lv_at hl 0 rfl) ?_
      refine lv_aload_n hx hb dX4_gluable_5 rfl (lv_at hl 2 rfl) ?_
      refine va_get (v := .int (nI (Sn x))) (Ts := wsX40) (C := RX4) (T := TX4) (N := 10) hx hb hwsX40 (fun _ h => h) hown hK hP 0 rfl rfl 5 (by decide) (hts (.fieldLink RX4 33 "AdventStreets$Street" "windows" "I") (List.mem_of_getElem? (i := 1) rfl)) (fun _ h9 => h9) rfl dX4_gluable_6 ?_
      refine lv_icmp_ge (tgt := 79) hx hb dX4_gluable_9 (by decide) (fun c2 => ?_) (fun c2 => ?_)
      · skip
        rw [nI_leI (by omega) (by omega)] at c2
        refine lv_iload_n hx hb dX4_gluable_79 rfl (lv_at hl 1 rfl) ?_
        exact hend _ _ _ _ _ hP hD hS (by rw [show i = Sn x by omega]; rfl) dX4_gluable_80
      · skip
        rw [nI_leI (by omega) (by omega)] at c2
        refine joinW (pc' := 47) (ls' := ls) (rest' := []) (bI (decide (SK x i = 3) || decide (SK x i = 4) || decide (SK x i = 5))) hP hD hS (fun jn47 => ?_) (fun H locs hP hD hS => ?_)
        · skip
          refine lv_aload_n hx hb dX4_gluable_12 rfl (lv_at hl 2 rfl) ?_
          refine va_get (v := .ref (a 1)) (Ts := wsX40) (C := RX4) (T := TX4) (N := 10) hx hb hwsX40 (fun _ h => h) hown hK hP 0 rfl rfl 0 (by decide) (hts (.fieldLink RX4 9 "AdventStreets$Street" "kinds" "[I") (List.mem_of_getElem? (i := 2) rfl)) (fun _ h9 => h9) rfl dX4_gluable_13 ?_
          refine lv_iload_n hx hb dX4_gluable_16 rfl (lv_at hl 0 rfl) ?_
          refine r_ald (f := SK x) hx hb hK hP 1 rfl (i := i) (by omega) (by decide) dX4_gluable_17 ?_
          have f17_f3 := ga i (by omega)
          refine lv_iconst (v := nI (3)) hx hb dX4_gluable_18 (by decide) ?_
          refine lv_icmp_eq (tgt := 42) hx hb dX4_gluable_19 (by decide) (fun c4 => ?_) (fun c4 => ?_)
          · skip
            rw [nI_eq (by omega) (by omega)] at c4
            refine lv_iconst (v := nI (1)) hx hb dX4_gluable_42 (by decide) ?_
            refine lv_goto (tgt := 47) hx hb dX4_gluable_43 (by decide) ?_
            exact jn47 _ _ _ (one_bI (by first | (simp [c2, c4]; done) | (simp; omega))) hP hD hS
          · skip
            rw [nI_eq (by omega) (by omega)] at c4
            refine lv_aload_n hx hb dX4_gluable_22 rfl (lv_at hl 2 rfl) ?_
            refine va_get (v := .ref (a 1)) (Ts := wsX40) (C := RX4) (T := TX4) (N := 10) hx hb hwsX40 (fun _ h => h) hown hK hP 0 rfl rfl 0 (by decide) (hts (.fieldLink RX4 9 "AdventStreets$Street" "kinds" "[I") (List.mem_of_getElem? (i := 2) rfl)) (fun _ h9 => h9) rfl dX4_gluable_23 ?_
            refine lv_iload_n hx hb dX4_gluable_26 rfl (lv_at hl 0 rfl) ?_
            refine r_ald (f := SK x) hx hb hK hP 1 rfl (i := i) (by omega) (by decide) dX4_gluable_27 ?_
            have f27_f5 := ga i (by omega)
            refine lv_iconst (v := nI (4)) hx hb dX4_gluable_28 (by decide) ?_
            refine lv_icmp_eq (tgt := 42) hx hb dX4_gluable_29 (by decide) (fun c6 => ?_) (fun c6 => ?_)
            · skip
              rw [nI_eq (by omega) (by omega)] at c6
              refine lv_iconst (v := nI (1)) hx hb dX4_gluable_42 (by decide) ?_
              refine lv_goto (tgt := 47) hx hb dX4_gluable_43 (by decide) ?_
              exact jn47 _ _ _ (one_bI (by first | (simp [c2, c4, c6]; done) | (simp; omega))) hP hD hS
            · skip
              rw [nI_eq (by omega) (by omega)] at c6
              refine lv_aload_n hx hb dX4_gluable_32 rfl (lv_at hl 2 rfl) ?_
              refine va_get (v := .ref (a 1)) (Ts := wsX40) (C := RX4) (T := TX4) (N := 10) hx hb hwsX40 (fun _ h => h) hown hK hP 0 rfl rfl 0 (by decide) (hts (.fieldLink RX4 9 "AdventStreets$Street" "kinds" "[I") (List.mem_of_getElem? (i := 2) rfl)) (fun _ h9 => h9) rfl dX4_gluable_33 ?_
              refine lv_iload_n hx hb dX4_gluable_36 rfl (lv_at hl 0 rfl) ?_
              refine r_ald (f := SK x) hx hb hK hP 1 rfl (i := i) (by omega) (by decide) dX4_gluable_37 ?_
              have f37_f7 := ga i (by omega)
              refine lv_iconst (v := nI (5)) hx hb dX4_gluable_38 (by decide) ?_
              refine lv_icmp_ne (tgt := 46) hx hb dX4_gluable_39 (by decide) (fun c8 => ?_) (fun c8 => ?_)
              · skip
                rw [nI_eq (by omega) (by omega)] at c8
                refine lv_iconst (v := nI (0)) hx hb dX4_gluable_46 (by decide) ?_
                exact jn47 _ _ _ (zero_bI (by first | (simp [c2, c4, c6, c8]; done) | (simp; omega))) hP hD hS
              · skip
                rw [nI_eq (by omega) (by omega)] at c8
                refine lv_iconst (v := nI (1)) hx hb dX4_gluable_42 (by decide) ?_
                refine lv_goto (tgt := 47) hx hb dX4_gluable_43 (by decide) ?_
                exact jn47 _ _ _ (one_bI (by first | (simp [c2, c4, c6, c8]; done) | (simp; omega))) hP hD hS
        · skip
          have hP : va_P D vwCl (stW cA a x) H := hP
          have hD : va_D A (stW cA a x) := hD
          refine lv_istore_n (lv' := [(3, .int (bI (decide (SK x i = 3) || decide (SK x i = 4) || decide (SK x i = 5)))), (2, .int (nI (i))), (1, .int (nI (mkb i (gluP x)))), (0, .ref (a 0))]) hx hb dX4_gluable_47 rfl hl (by decide) rfl (fun ls hl => ?_)
          refine lv_iload_n hx hb dX4_gluable_48 rfl (lv_at hl 2 rfl) ?_
          refine lv_iload_n hx hb dX4_gluable_49 rfl (lv_at hl 0 rfl) ?_
          refine lv_if_eq (tgt := 70) hx hb dX4_gluable_50 (by decide) (fun c9 => ?_) (fun c9 => ?_)
          · skip
            rw [bI_z] at c9
            refine lv_iconst (v := nI (0)) hx hb dX4_gluable_70 (by decide) ?_
            refine lv_ior hx hb dX4_gluable_71 ?_
            refine vn_i (v := nI ((mkb i (gluP x)) ||| 0)) (n_or _ _) ?_
            refine lv_istore_n (lv' := [(1, .int (nI ((mkb i (gluP x)) ||| 0))), (3, .int (bI (decide (SK x i = 3) || decide (SK x i = 4) || decide (SK x i = 5)))), (2, .int (nI (i))), (0, .ref (a 0))]) hx hb dX4_gluable_72 rfl hl (by decide) rfl (fun ls hl => ?_)
            refine lv_iinc (v := nI (i + 1)) (lv' := [(2, .int (nI (i + 1))), (1, .int (nI ((mkb i (gluP x)) ||| 0))), (3, .int (bI (decide (SK x i = 3) || decide (SK x i = 4) || decide (SK x i = 5)))), (0, .ref (a 0))]) hx hb dX4_gluable_73 hl (k := 2) rfl (nI_add _ _) (by decide) rfl (fun ls hl => ?_)
            refine lv_goto (tgt := 4) hx hb dX4_gluable_76 (by decide) ?_
            have hl9 := lv_sub (l' := [(2, .int (nI (i + 1))), (1, .int (nI ((mkb i (gluP x)) ||| 0))), (0, .ref (a 0))]) hl [0, 1, 3] rfl
            have el10 : (.int (nI ((mkb i (gluP x)) ||| 0)) : Value) = .int (nI (mkb (i + 1) (gluP x))) := by
              rw [mkb_succ, if_neg (by unfold gluP; rw [c9]; simp), Nat.or_zero]
            rw [el10] at hl9
            exact ih4 (i + 1) (by omega) (by omega) _ _ _ hP hD hS hl9
          · skip
            rw [bI_nz] at c9
            refine lv_aload_n hx hb dX4_gluable_53 rfl (lv_at hl 3 rfl) ?_
            refine va_get (v := .ref (a 4)) (Ts := wsX40) (C := RX4) (T := TX4) (N := 10) hx hb hwsX40 (fun _ h => h) hown hK hP 0 rfl rfl 3 (by decide) (hts (.fieldLink RX4 21 "AdventStreets$Street" "glues" "[I") (List.mem_of_getElem? (i := 3) rfl)) (fun _ h9 => h9) rfl dX4_gluable_54 ?_
            refine lv_iload_n hx hb dX4_gluable_57 rfl (lv_at hl 1 rfl) ?_
            refine r_ald (f := SG x) hx hb hK hP 4 rfl (i := i) (by omega) (by decide) dX4_gluable_58 ?_
            have f58_f11 := ga i (by omega)
            refine lv_bipush (v := nI (9)) hx hb dX4_gluable_59 (by decide) ?_
            refine lv_icmp_ge (tgt := 70) hx hb dX4_gluable_61 (by decide) (fun c12 => ?_) (fun c12 => ?_)
            · skip
              rw [nI_leI (by omega) (by omega)] at c12
              refine lv_iconst (v := nI (0)) hx hb dX4_gluable_70 (by decide) ?_
              refine lv_ior hx hb dX4_gluable_71 ?_
              refine vn_i (v := nI ((mkb i (gluP x)) ||| 0)) (n_or _ _) ?_
              refine lv_istore_n (lv' := [(1, .int (nI ((mkb i (gluP x)) ||| 0))), (3, .int (bI (decide (SK x i = 3) || decide (SK x i = 4) || decide (SK x i = 5)))), (2, .int (nI (i))), (0, .ref (a 0))]) hx hb dX4_gluable_72 rfl hl (by decide) rfl (fun ls hl => ?_)
              refine lv_iinc (v := nI (i + 1)) (lv' := [(2, .int (nI (i + 1))), (1, .int (nI ((mkb i (gluP x)) ||| 0))), (3, .int (bI (decide (SK x i = 3) || decide (SK x i = 4) || decide (SK x i = 5)))), (0, .ref (a 0))]) hx hb dX4_gluable_73 hl (k := 2) rfl (nI_add _ _) (by decide) rfl (fun ls hl => ?_)
              refine lv_goto (tgt := 4) hx hb dX4_gluable_76 (by decide) ?_
              have hl9 := lv_sub (l' := [(2, .int (nI (i + 1))), (1, .int (nI ((mkb i (gluP x)) ||| 0))), (0, .ref (a 0))]) hl [0, 1, 3] rfl
              have el13 : (.int (nI ((mkb i (gluP x)) ||| 0)) : Value) = .int (nI (mkb (i + 1) (gluP x))) := by
                rw [mkb_succ, if_neg (by unfold gluP; rw [decide_eq_false (p := SG x i < 9) (by omega)]; simp), Nat.or_zero]
              rw [el13] at hl9
              exact ih4 (i + 1) (by omega) (by omega) _ _ _ hP hD hS hl9
            · skip
              rw [nI_leI (by omega) (by omega)] at c12
              refine lv_iconst (v := nI (1)) hx hb dX4_gluable_64 (by decide) ?_
              refine lv_iload_n hx hb dX4_gluable_65 rfl (lv_at hl 1 rfl) ?_
              refine lv_ishl hx hb dX4_gluable_66 ?_
              refine vn_i (v := nI (2 ^ i)) (n_shl1 (by omega)) ?_
              refine lv_goto (tgt := 71) hx hb dX4_gluable_67 (by decide) ?_
              refine lv_ior hx hb dX4_gluable_71 ?_
              refine vn_i (v := nI ((mkb i (gluP x)) ||| (2 ^ i))) (n_or _ _) ?_
              refine lv_istore_n (lv' := [(1, .int (nI ((mkb i (gluP x)) ||| (2 ^ i)))), (3, .int (bI (decide (SK x i = 3) || decide (SK x i = 4) || decide (SK x i = 5)))), (2, .int (nI (i))), (0, .ref (a 0))]) hx hb dX4_gluable_72 rfl hl (by decide) rfl (fun ls hl => ?_)
              refine lv_iinc (v := nI (i + 1)) (lv' := [(2, .int (nI (i + 1))), (1, .int (nI ((mkb i (gluP x)) ||| (2 ^ i)))), (3, .int (bI (decide (SK x i = 3) || decide (SK x i = 4) || decide (SK x i = 5)))), (0, .ref (a 0))]) hx hb dX4_gluable_73 hl (k := 2) rfl (nI_add _ _) (by decide) rfl (fun ls hl => ?_)
              refine lv_goto (tgt := 4) hx hb dX4_gluable_76 (by decide) ?_
              have hl9 := lv_sub (l' := [(2, .int (nI (i + 1))), (1, .int (nI ((mkb i (gluP x)) ||| (2 ^ i)))), (0, .ref (a 0))]) hl [0, 1, 3] rfl
              have el14 : (.int (nI ((mkb i (gluP x)) ||| (2 ^ i))) : Value) = .int (nI (mkb (i + 1) (gluP x))) := by
                rw [mkb_succ, if_pos (by unfold gluP; rw [c9, decide_eq_true (by omega)]; rfl)]
              rw [el14] at hl9
              exact ih4 (i + 1) (by omega) (by omega) _ _ _ hP hD hS hl9
  have hl9 := lv_sub (l' := [(2, .int (nI (0))), (1, .int (nI (0))), (0, .ref (a 0))]) hl [0, 1, 2] rfl
  have el15 : (.int (nI (0)) : Value) = .int (nI (mkb 0 (gluP x))) := by
    rfl
  rw [el15] at hl9
  exact loop4 _ 0 (by omega) (Nat.lt_succ_self _) _ _ _ hP hD hS hl9
set_option maxRecDepth 100000 in
set_option maxHeartbeats 4000000 in
theorem c_X4_glueFast (l : Launch) (D : va_G) (cA : Nat → ClassId) (tt : Nat → Nat) (a : Nat → Nat) (x : Sg) (sm : Nat) (hg : Wk x) (hs : sm < 1073741824) (sz : Nat) : Cv l D cA tt yX4_glueFast wsX4_glueFast ({ frames := 0, cells := 0, slots := 0, locals := 0 } : Room) [.ref (a 0), .int (nI (sm))] sz (stW cA a x) (stW cA a (fastF x sm)) := by
  obtain ⟨gn, ge, gv, go, ga⟩ := id hg
  refine Cv.mk (cc := cX4_glueFast) (maxL := 3) (by decide) rfl (Nat.le_of_ble_eq_true rfl) ?_
  intro p e s m below meth c A Q ls hB hl hend
  obtain ⟨⟨hx, hb, hml, hown, hts⟩, hP, hK, hD, hS, hA, hE⟩ := hB
  have hown : s.vm.findClass RX4 = some m.cls := hown
  have hwsX40 : ∀ w9 ∈ wsX40, w9.before ([.ref (a 0), .int (nI (sm))] : List Value).toArray s = true := fun w9 h => hts w9 (List.mem_cons_of_mem _ (List.mem_append_right _ h))
  have hl : lv_has ls 3 [(0, .ref (a 0)), (1, .int (nI (sm)))] := hl
  refine lv_iconst (v := nI (0)) hx hb dX4_glueFast_0 (by decide) ?_
  refine lv_istore_n (lv' := [(2, .int (nI (0))), (0, .ref (a 0)), (1, .int (nI (sm)))]) hx hb dX4_glueFast_1 rfl hl (by decide) rfl (fun ls hl => ?_)
  have loop2 : ∀ (N2 : Nat) (i : Nat), (i ≤ Sn x) → (Sn x - i) < N2 → ∀ (H : Heap) (locs : List Loc) (ls : Array Slot), va_P D vwCl (stW cA a (Sn x, Se x, Sv x, St x, So x, SK x, SP x, SD x, don i (fastG x sm) (SG x), SS x)) H → va_D A (stW cA a (Sn x, Se x, Sv x, St x, So x, SK x, SP x, SD x, don i (fastG x sm) (SG x), SS x)) → va_S A s.heap H locs → lv_has ls 3 [(2, .int (nI (i))), (0, .ref (a 0)), (1, .int (nI (sm)))] → W p l e ({ frames := 0, cells := 0, slots := 0, locals := 0 } : Room) s m ([.ref (a 0), .int (nI (sm))] : List Value).toArray below meth c H locs 0 0 Q (F0 m 2 ls []) := by
    intro N2
    induction N2 with
    | zero => intro i iv2_0 hN; exact absurd hN (Nat.not_lt_zero _)
    | succ N2 ih2 =>
      intro i iv2_0 hN2 H locs ls hP hD hS hl
      refine lv_iload_n hx hb dX4_glueFast_2 rfl (lv_at hl 0 rfl) ?_
      refine lv_aload_n hx hb dX4_glueFast_3 rfl (lv_at hl 1 rfl) ?_
      refine va_get (v := .int (nI (Sn x))) (Ts := wsX40) (C := RX4) (T := TX4) (N := 10) hx hb hwsX40 (fun _ h => h) hown hK hP 0 rfl rfl 5 (by decide) (hts (.fieldLink RX4 33 "AdventStreets$Street" "windows" "I") (List.mem_of_getElem? (i := 1) rfl)) (fun _ h9 => h9) rfl dX4_glueFast_4 ?_
      refine lv_icmp_ge (tgt := 32) hx hb dX4_glueFast_7 (by decide) (fun c2 => ?_) (fun c2 => ?_)
      · skip
        rw [nI_leI (by omega) (by omega)] at c2
        have ef3 : ((stW cA a (Sn x, Se x, Sv x, St x, So x, SK x, SP x, SD x, don i (fastG x sm) (SG x), SS x)) : va_W) = (stW cA a (fastF x sm)) := by
          exact congrArg (fun j => stW cA a (wG x (don j (fastG x sm) (SG x)))) (show i = Sn x by omega)
        have hP : va_P D vwCl (stW cA a (fastF x sm)) _ := Eq.mp (congrArg (fun z9 => va_P D vwCl z9 _) ef3) hP
        have hD : va_D A (stW cA a (fastF x sm)) := Eq.mp (congrArg (fun z9 => va_D A z9) ef3) hD
        exact hend _ _ _ _ hP hD hS dX4_glueFast_32
      · skip
        rw [nI_leI (by omega) (by omega)] at c2
        refine lv_iload_n hx hb dX4_glueFast_10 rfl (lv_at hl 2 rfl) ?_
        refine lv_iload_n hx hb dX4_glueFast_11 rfl (lv_at hl 0 rfl) ?_
        refine lv_ishr hx hb dX4_glueFast_12 ?_
        refine vn_i (v := nI (sm / 2 ^ i)) (n_shr (by omega) (by omega)) ?_
        refine lv_iconst (v := nI (1)) hx hb dX4_glueFast_13 (by decide) ?_
        refine lv_iand hx hb dX4_glueFast_14 ?_
        refine vn_i (v := bI (sm.testBit i)) (n_bit _ _) ?_
        refine lv_if_eq (tgt := 26) hx hb dX4_glueFast_15 (by decide) (fun c4 => ?_) (fun c4 => ?_)
        · skip
          rw [bI_z] at c4
          refine lv_iinc (v := nI (i + 1)) (lv' := [(2, .int (nI (i + 1))), (0, .ref (a 0)), (1, .int (nI (sm)))]) hx hb dX4_glueFast_26 hl (k := 0) rfl (nI_add _ _) (by decide) rfl (fun ls hl => ?_)
          refine lv_goto (tgt := 2) hx hb dX4_glueFast_29 (by decide) ?_
          have ew5 : don i (fastG x sm) (SG x) = don (i + 1) (fastG x sm) (SG x) := by
            exact don_k (by simp [fastG, c4])
          have hP : va_P D vwCl (stW cA a (Sn x, Se x, Sv x, St x, So x, SK x, SP x, SD x, don (i + 1) (fastG x sm) (SG x), SS x)) _ := Eq.mp (congrArg (fun z9 => va_P D vwCl (stW cA a (Sn x, Se x, Sv x, St x, So x, SK x, SP x, SD x, z9, SS x)) _) ew5) hP
          have hD : va_D A (stW cA a (Sn x, Se x, Sv x, St x, So x, SK x, SP x, SD x, don (i + 1) (fastG x sm) (SG x), SS x)) := Eq.mp (congrArg (fun z9 => va_D A (stW cA a (Sn x, Se x, Sv x, St x, So x, SK x, SP x, SD x, z9, SS x))) ew5) hD
          have hl9 := lv_sub (l' := [(2, .int (nI (i + 1))), (0, .ref (a 0)), (1, .int (nI (sm)))]) hl [0, 1, 2] rfl
          exact ih2 (i + 1) (by omega) (by omega) _ _ _ hP hD hS hl9
        · skip
          rw [bI_nz] at c4
          refine lv_aload_n hx hb dX4_glueFast_18 rfl (lv_at hl 1 rfl) ?_
          refine va_get (v := .ref (a 4)) (Ts := wsX40) (C := RX4) (T := TX4) (N := 10) hx hb hwsX40 (fun _ h => h) hown hK hP 0 rfl rfl 3 (by decide) (hts (.fieldLink RX4 21 "AdventStreets$Street" "glues" "[I") (List.mem_of_getElem? (i := 2) rfl)) (fun _ h9 => h9) rfl dX4_glueFast_19 ?_
          refine lv_iload_n hx hb dX4_glueFast_22 rfl (lv_at hl 0 rfl) ?_
          refine lv_bipush (v := nI (9)) hx hb dX4_glueFast_23 (by decide) ?_
          refine r_ast (f := don i (fastG x sm) (SG x)) hx hb hK hP hD hS 4 rfl (i := i) (by omega) (by decide) dX4_glueFast_25 (fun H locs hP hD hS => ?_)
          have hP : va_P D vwCl (stW cA a (Sn x, Se x, Sv x, St x, So x, SK x, SP x, SD x, upN (don i (fastG x sm) (SG x)) i 9, SS x)) H := hP
          have hD : va_D A (stW cA a (Sn x, Se x, Sv x, St x, So x, SK x, SP x, SD x, upN (don i (fastG x sm) (SG x)) i 9, SS x)) := hD
          refine lv_iinc (v := nI (i + 1)) (lv' := [(2, .int (nI (i + 1))), (0, .ref (a 0)), (1, .int (nI (sm)))]) hx hb dX4_glueFast_26 hl (k := 0) rfl (nI_add _ _) (by decide) rfl (fun ls hl => ?_)
          refine lv_goto (tgt := 2) hx hb dX4_glueFast_29 (by decide) ?_
          have ew6 : upN (don i (fastG x sm) (SG x)) i 9 = don (i + 1) (fastG x sm) (SG x) := by
            exact don_s (by simp [fastG, c4])
          have hP : va_P D vwCl (stW cA a (Sn x, Se x, Sv x, St x, So x, SK x, SP x, SD x, don (i + 1) (fastG x sm) (SG x), SS x)) _ := Eq.mp (congrArg (fun z9 => va_P D vwCl (stW cA a (Sn x, Se x, Sv x, St x, So x, SK x, SP x, SD x, z9, SS x)) _) ew6) hP
          have hD : va_D A (stW cA a (Sn x, Se x, Sv x, St x, So x, SK x, SP x, SD x, don (i + 1) (fastG x sm) (SG x), SS x)) := Eq.mp (congrArg (fun z9 => va_D A (stW cA a (Sn x, Se x, Sv x, St x, So x, SK x, SP x, SD x, z9, SS x))) ew6) hD
          have hl9 := lv_sub (l' := [(2, .int (nI (i + 1))), (0, .ref (a 0)), (1, .int (nI (sm)))]) hl [0, 1, 2] rfl
          exact ih2 (i + 1) (by omega) (by omega) _ _ _ hP hD hS hl9
  have ew7 : SG x = don 0 (fastG x sm) (SG x) := by
    exact don_0 _ _
  have hP : va_P D vwCl (stW cA a (Sn x, Se x, Sv x, St x, So x, SK x, SP x, SD x, don 0 (fastG x sm) (SG x), SS x)) _ := Eq.mp (congrArg (fun z9 => va_P D vwCl (stW cA a (Sn x, Se x, Sv x, St x, So x, SK x, SP x, SD x, z9, SS x)) _) ew7) hP
  have hD : va_D A (stW cA a (Sn x, Se x, Sv x, St x, So x, SK x, SP x, SD x, don 0 (fastG x sm) (SG x), SS x)) := Eq.mp (congrArg (fun z9 => va_D A (stW cA a (Sn x, Se x, Sv x, St x, So x, SK x, SP x, SD x, z9, SS x))) ew7) hD
  have hl9 := lv_sub (l' := [(2, .int (nI (0))), (0, .ref (a 0)), (1, .int (nI (sm)))]) hl [0, 1, 2] rfl
  exact loop2 _ 0 (by omega) (Nat.lt_succ_self _) _ _ _ hP hD hS hl9
set_option maxRecDepth 100000 in
set_option maxHeartbeats 4000000 in
theorem c_X4_changeDays (l : Launch) (D : va_G) (cA : Nat → ClassId) (tt : Nat → Nat) (a : Nat → Nat) (x : Sg) (i j : Nat) (hg : Wk x) (hi : i < 10) (hj : j < 10) (sz : Nat) : Cv l D cA tt yX4_changeDays wsX4_changeDays ({ frames := 0, cells := 0, slots := 0, locals := 0 } : Room) [.ref (a 0), .int (nI (i)), .int (nI (j))] sz (stW cA a x) (stW cA a (swapD x i j)) := by
  obtain ⟨gn, ge, gv, go, ga⟩ := id hg
  refine Cv.mk (cc := cX4_changeDays) (maxL := 4) (by decide) rfl (Nat.le_of_ble_eq_true rfl) ?_
  intro p e s m below meth c A Q ls hB hl hend
  obtain ⟨⟨hx, hb, hml, hown, hts⟩, hP, hK, hD, hS, hA, hE⟩ := hB
  have hown : s.vm.findClass RX4 = some m.cls := hown
  have hwsX40 : ∀ w9 ∈ wsX40, w9.before ([.ref (a 0), .int (nI (i)), .int (nI (j))] : List Value).toArray s = true := fun w9 h => hts w9 (List.mem_cons_of_mem _ (List.mem_append_right _ h))
  have hl : lv_has ls 4 [(0, .ref (a 0)), (1, .int (nI (i))), (2, .int (nI (j)))] := hl
  refine lv_aload_n hx hb dX4_changeDays_0 rfl (lv_at hl 0 rfl) ?_
  refine va_get (v := .ref (a 2)) (Ts := wsX40) (C := RX4) (T := TX4) (N := 10) hx hb hwsX40 (fun _ h => h) hown hK hP 0 rfl rfl 1 (by decide) (hts (.fieldLink RX4 15 "AdventStreets$Street" "days" "[I") (List.mem_of_getElem? (i := 1) rfl)) (fun _ h9 => h9) rfl dX4_changeDays_1 ?_
  refine lv_iload_n hx hb dX4_changeDays_4 rfl (lv_at hl 1 rfl) ?_
  refine r_ald (f := SD x) hx hb hK hP 2 rfl (i := i) (by omega) (by decide) dX4_changeDays_5 ?_
  refine lv_istore_n (lv' := [(3, .int (nI (SD x i))), (0, .ref (a 0)), (1, .int (nI (i))), (2, .int (nI (j)))]) hx hb dX4_changeDays_6 rfl hl (by decide) rfl (fun ls hl => ?_)
  refine lv_aload_n hx hb dX4_changeDays_7 rfl (lv_at hl 1 rfl) ?_
  refine va_get (v := .ref (a 2)) (Ts := wsX40) (C := RX4) (T := TX4) (N := 10) hx hb hwsX40 (fun _ h => h) hown hK hP 0 rfl rfl 1 (by decide) (hts (.fieldLink RX4 15 "AdventStreets$Street" "days" "[I") (List.mem_of_getElem? (i := 1) rfl)) (fun _ h9 => h9) rfl dX4_changeDays_8 ?_
  refine lv_iload_n hx hb dX4_changeDays_11 rfl (lv_at hl 2 rfl) ?_
  refine lv_aload_n hx hb dX4_changeDays_12 rfl (lv_at hl 1 rfl) ?_
  refine va_get (v := .ref (a 2)) (Ts := wsX40) (C := RX4) (T := TX4) (N := 10) hx hb hwsX40 (fun _ h => h) hown hK hP 0 rfl rfl 1 (by decide) (hts (.fieldLink RX4 15 "AdventStreets$Street" "days" "[I") (List.mem_of_getElem? (i := 1) rfl)) (fun _ h9 => h9) rfl dX4_changeDays_13 ?_
  refine lv_iload_n hx hb dX4_changeDays_16 rfl (lv_at hl 3 rfl) ?_
  refine r_ald (f := SD x) hx hb hK hP 2 rfl (i := j) (by omega) (by decide) dX4_changeDays_17 ?_
  refine r_ast (f := SD x) hx hb hK hP hD hS 2 rfl (i := i) (by omega) (by decide) dX4_changeDays_18 (fun H locs hP hD hS => ?_)
  have hP : va_P D vwCl (stW cA a (Sn x, Se x, Sv x, St x, So x, SK x, SP x, upN (SD x) i (SD x j), SG x, SS x)) H := hP
  have hD : va_D A (stW cA a (Sn x, Se x, Sv x, St x, So x, SK x, SP x, upN (SD x) i (SD x j), SG x, SS x)) := hD
  refine lv_aload_n hx hb dX4_changeDays_19 rfl (lv_at hl 1 rfl) ?_
  refine va_get (v := .ref (a 2)) (Ts := wsX40) (C := RX4) (T := TX4) (N := 10) hx hb hwsX40 (fun _ h => h) hown hK hP 0 rfl rfl 1 (by decide) (hts (.fieldLink RX4 15 "AdventStreets$Street" "days" "[I") (List.mem_of_getElem? (i := 1) rfl)) (fun _ h9 => h9) rfl dX4_changeDays_20 ?_
  refine lv_iload_n hx hb dX4_changeDays_23 rfl (lv_at hl 3 rfl) ?_
  refine lv_iload_n hx hb dX4_changeDays_24 rfl (lv_at hl 0 rfl) ?_
  refine r_ast (f := upN (SD x) i (SD x j)) hx hb hK hP hD hS 2 rfl (i := j) (by omega) (by decide) dX4_changeDays_25 (fun H locs hP hD hS => ?_)
  have hP : va_P D vwCl (stW cA a (Sn x, Se x, Sv x, St x, So x, SK x, SP x, upN (upN (SD x) i (SD x j)) j (SD x i), SG x, SS x)) H := hP
  have hD : va_D A (stW cA a (Sn x, Se x, Sv x, St x, So x, SK x, SP x, upN (upN (SD x) i (SD x j)) j (SD x i), SG x, SS x)) := hD
  exact hend _ _ _ _ hP hD hS dX4_changeDays_26
set_option maxRecDepth 100000 in
set_option maxHeartbeats 4000000 in
theorem c_X4_take (l : Launch) (D : va_G) (cA : Nat → ClassId) (tt : Nat → Nat) (a b : Nat → Nat) (x y : Sg)  (sz : Nat) : Cv l D cA tt yX4_take wsX4_take ({ frames := 1, cells := 0, slots := 0, locals := 60 } : Room) [.ref (a 0), .ref (b 0)] sz (stW cA a x ++ stW cA b y) (stW cA a y ++ stW cA b y) := by
  refine Cv.mk (cc := cX4_take) (maxL := 2) (by decide) rfl (Nat.le_of_ble_eq_true rfl) ?_
  intro p e s m below meth c A Q ls hB hl hend
  obtain ⟨⟨hx, hb, hml, hown, hts⟩, hP, hK, hD, hS, hA, hE⟩ := hB
  have hown : s.vm.findClass RX4 = some m.cls := hown
  have hwsX40 : ∀ w9 ∈ wsX40, w9.before ([.ref (a 0), .ref (b 0)] : List Value).toArray s = true := fun w9 h => hts w9 (List.mem_cons_of_mem _ (List.mem_append_right _ h))
  have hl : lv_has ls 2 [(0, .ref (a 0)), (1, .ref (b 0))] := hl
  refine lv_aload_n hx hb dX4_take_0 rfl (lv_at hl 1 rfl) ?_
  refine va_get (v := .ref (b 1)) (Ts := wsX40) (C := RX4) (T := TX4) (N := 10) hx hb hwsX40 (fun _ h => h) hown hK hP 6 rfl rfl 0 (by decide) (hts (.fieldLink RX4 9 "AdventStreets$Street" "kinds" "[I") (List.mem_of_getElem? (i := 1) rfl)) (fun _ h9 => h9) rfl dX4_take_1 ?_
  refine lv_iconst (v := nI (0)) hx hb dX4_take_4 (by decide) ?_
  refine lv_aload_n hx hb dX4_take_5 rfl (lv_at hl 0 rfl) ?_
  refine va_get (v := .ref (a 1)) (Ts := wsX40) (C := RX4) (T := TX4) (N := 10) hx hb hwsX40 (fun _ h => h) hown hK hP 0 rfl rfl 0 (by decide) (hts (.fieldLink RX4 9 "AdventStreets$Street" "kinds" "[I") (List.mem_of_getElem? (i := 1) rfl)) (fun _ h9 => h9) rfl dX4_take_6 ?_
  refine lv_iconst (v := nI (0)) hx hb dX4_take_9 (by decide) ?_
  refine lv_bipush (v := nI (10)) hx hb dX4_take_10 (by decide) ?_
  refine r_cpyN (sp := 0) (dp := 0) (n := 10) hx hb (hml.trans hl.1.symm) hown (hts (.methodLink RX4 27 arraycopyName) (List.mem_of_getElem? (i := 2) rfl)) (hts (.native arraycopyName) (List.mem_of_getElem? (i := 3) rfl)) (hts (.static arraycopyName) (List.mem_of_getElem? (i := 4) rfl)) (hts (.initialized "java/lang/System") (List.mem_of_getElem? (i := 5) rfl)) hK hP hD hS 7 1 rfl rfl (by omega) (by omega) (by decide) (by decide) (Nat.le_of_ble_eq_true rfl) (Nat.le_of_ble_eq_true rfl) dX4_take_12 (fun H locs hP hD hS => ?_)
  have hP : va_P D vwCl (stW cA a (Sn x, Se x, Sv x, St x, So x, va_cpy (SK y) (SK x) 0 0 10, SP x, SD x, SG x, SS x) ++ stW cA b y) H := hP
  have hD : va_D A (stW cA a (Sn x, Se x, Sv x, St x, So x, va_cpy (SK y) (SK x) 0 0 10, SP x, SD x, SG x, SS x) ++ stW cA b y) := hD
  refine lv_aload_n hx hb dX4_take_15 rfl (lv_at hl 1 rfl) ?_
  refine va_get (v := .ref (b 2)) (Ts := wsX40) (C := RX4) (T := TX4) (N := 10) hx hb hwsX40 (fun _ h => h) hown hK hP 6 rfl rfl 1 (by decide) (hts (.fieldLink RX4 15 "AdventStreets$Street" "days" "[I") (List.mem_of_getElem? (i := 6) rfl)) (fun _ h9 => h9) rfl dX4_take_16 ?_
  refine lv_iconst (v := nI (0)) hx hb dX4_take_19 (by decide) ?_
  refine lv_aload_n hx hb dX4_take_20 rfl (lv_at hl 0 rfl) ?_
  refine va_get (v := .ref (a 2)) (Ts := wsX40) (C := RX4) (T := TX4) (N := 10) hx hb hwsX40 (fun _ h => h) hown hK hP 0 rfl rfl 1 (by decide) (hts (.fieldLink RX4 15 "AdventStreets$Street" "days" "[I") (List.mem_of_getElem? (i := 6) rfl)) (fun _ h9 => h9) rfl dX4_take_21 ?_
  refine lv_iconst (v := nI (0)) hx hb dX4_take_24 (by decide) ?_
  refine lv_bipush (v := nI (10)) hx hb dX4_take_25 (by decide) ?_
  refine r_cpyN (sp := 0) (dp := 0) (n := 10) hx hb (hml.trans hl.1.symm) hown (hts (.methodLink RX4 27 arraycopyName) (List.mem_of_getElem? (i := 2) rfl)) (hts (.native arraycopyName) (List.mem_of_getElem? (i := 3) rfl)) (hts (.static arraycopyName) (List.mem_of_getElem? (i := 4) rfl)) (hts (.initialized "java/lang/System") (List.mem_of_getElem? (i := 5) rfl)) hK hP hD hS 8 2 rfl rfl (by omega) (by omega) (by decide) (by decide) (Nat.le_of_ble_eq_true rfl) (Nat.le_of_ble_eq_true rfl) dX4_take_27 (fun H locs hP hD hS => ?_)
  have hP : va_P D vwCl (stW cA a (Sn x, Se x, Sv x, St x, So x, va_cpy (SK y) (SK x) 0 0 10, SP x, va_cpy (SD y) (SD x) 0 0 10, SG x, SS x) ++ stW cA b y) H := hP
  have hD : va_D A (stW cA a (Sn x, Se x, Sv x, St x, So x, va_cpy (SK y) (SK x) 0 0 10, SP x, va_cpy (SD y) (SD x) 0 0 10, SG x, SS x) ++ stW cA b y) := hD
  refine lv_aload_n hx hb dX4_take_30 rfl (lv_at hl 1 rfl) ?_
  refine va_get (v := .ref (b 3)) (Ts := wsX40) (C := RX4) (T := TX4) (N := 10) hx hb hwsX40 (fun _ h => h) hown hK hP 6 rfl rfl 2 (by decide) (hts (.fieldLink RX4 18 "AdventStreets$Street" "pictures" "[I") (List.mem_of_getElem? (i := 7) rfl)) (fun _ h9 => h9) rfl dX4_take_31 ?_
  refine lv_iconst (v := nI (0)) hx hb dX4_take_34 (by decide) ?_
  refine lv_aload_n hx hb dX4_take_35 rfl (lv_at hl 0 rfl) ?_
  refine va_get (v := .ref (a 3)) (Ts := wsX40) (C := RX4) (T := TX4) (N := 10) hx hb hwsX40 (fun _ h => h) hown hK hP 0 rfl rfl 2 (by decide) (hts (.fieldLink RX4 18 "AdventStreets$Street" "pictures" "[I") (List.mem_of_getElem? (i := 7) rfl)) (fun _ h9 => h9) rfl dX4_take_36 ?_
  refine lv_iconst (v := nI (0)) hx hb dX4_take_39 (by decide) ?_
  refine lv_bipush (v := nI (10)) hx hb dX4_take_40 (by decide) ?_
  refine r_cpyN (sp := 0) (dp := 0) (n := 10) hx hb (hml.trans hl.1.symm) hown (hts (.methodLink RX4 27 arraycopyName) (List.mem_of_getElem? (i := 2) rfl)) (hts (.native arraycopyName) (List.mem_of_getElem? (i := 3) rfl)) (hts (.static arraycopyName) (List.mem_of_getElem? (i := 4) rfl)) (hts (.initialized "java/lang/System") (List.mem_of_getElem? (i := 5) rfl)) hK hP hD hS 9 3 rfl rfl (by omega) (by omega) (by decide) (by decide) (Nat.le_of_ble_eq_true rfl) (Nat.le_of_ble_eq_true rfl) dX4_take_42 (fun H locs hP hD hS => ?_)
  have hP : va_P D vwCl (stW cA a (Sn x, Se x, Sv x, St x, So x, va_cpy (SK y) (SK x) 0 0 10, va_cpy (SP y) (SP x) 0 0 10, va_cpy (SD y) (SD x) 0 0 10, SG x, SS x) ++ stW cA b y) H := hP
  have hD : va_D A (stW cA a (Sn x, Se x, Sv x, St x, So x, va_cpy (SK y) (SK x) 0 0 10, va_cpy (SP y) (SP x) 0 0 10, va_cpy (SD y) (SD x) 0 0 10, SG x, SS x) ++ stW cA b y) := hD
  refine lv_aload_n hx hb dX4_take_45 rfl (lv_at hl 1 rfl) ?_
  refine va_get (v := .ref (b 4)) (Ts := wsX40) (C := RX4) (T := TX4) (N := 10) hx hb hwsX40 (fun _ h => h) hown hK hP 6 rfl rfl 3 (by decide) (hts (.fieldLink RX4 21 "AdventStreets$Street" "glues" "[I") (List.mem_of_getElem? (i := 8) rfl)) (fun _ h9 => h9) rfl dX4_take_46 ?_
  refine lv_iconst (v := nI (0)) hx hb dX4_take_49 (by decide) ?_
  refine lv_aload_n hx hb dX4_take_50 rfl (lv_at hl 0 rfl) ?_
  refine va_get (v := .ref (a 4)) (Ts := wsX40) (C := RX4) (T := TX4) (N := 10) hx hb hwsX40 (fun _ h => h) hown hK hP 0 rfl rfl 3 (by decide) (hts (.fieldLink RX4 21 "AdventStreets$Street" "glues" "[I") (List.mem_of_getElem? (i := 8) rfl)) (fun _ h9 => h9) rfl dX4_take_51 ?_
  refine lv_iconst (v := nI (0)) hx hb dX4_take_54 (by decide) ?_
  refine lv_bipush (v := nI (10)) hx hb dX4_take_55 (by decide) ?_
  refine r_cpyN (sp := 0) (dp := 0) (n := 10) hx hb (hml.trans hl.1.symm) hown (hts (.methodLink RX4 27 arraycopyName) (List.mem_of_getElem? (i := 2) rfl)) (hts (.native arraycopyName) (List.mem_of_getElem? (i := 3) rfl)) (hts (.static arraycopyName) (List.mem_of_getElem? (i := 4) rfl)) (hts (.initialized "java/lang/System") (List.mem_of_getElem? (i := 5) rfl)) hK hP hD hS 10 4 rfl rfl (by omega) (by omega) (by decide) (by decide) (Nat.le_of_ble_eq_true rfl) (Nat.le_of_ble_eq_true rfl) dX4_take_57 (fun H locs hP hD hS => ?_)
  have hP : va_P D vwCl (stW cA a (Sn x, Se x, Sv x, St x, So x, va_cpy (SK y) (SK x) 0 0 10, va_cpy (SP y) (SP x) 0 0 10, va_cpy (SD y) (SD x) 0 0 10, va_cpy (SG y) (SG x) 0 0 10, SS x) ++ stW cA b y) H := hP
  have hD : va_D A (stW cA a (Sn x, Se x, Sv x, St x, So x, va_cpy (SK y) (SK x) 0 0 10, va_cpy (SP y) (SP x) 0 0 10, va_cpy (SD y) (SD x) 0 0 10, va_cpy (SG y) (SG x) 0 0 10, SS x) ++ stW cA b y) := hD
  refine lv_aload_n hx hb dX4_take_60 rfl (lv_at hl 1 rfl) ?_
  refine va_get (v := .ref (b 5)) (Ts := wsX40) (C := RX4) (T := TX4) (N := 10) hx hb hwsX40 (fun _ h => h) hown hK hP 6 rfl rfl 4 (by decide) (hts (.fieldLink RX4 24 "AdventStreets$Street" "seen" "[I") (List.mem_of_getElem? (i := 9) rfl)) (fun _ h9 => h9) rfl dX4_take_61 ?_
  refine lv_iconst (v := nI (0)) hx hb dX4_take_64 (by decide) ?_
  refine lv_aload_n hx hb dX4_take_65 rfl (lv_at hl 0 rfl) ?_
  refine va_get (v := .ref (a 5)) (Ts := wsX40) (C := RX4) (T := TX4) (N := 10) hx hb hwsX40 (fun _ h => h) hown hK hP 0 rfl rfl 4 (by decide) (hts (.fieldLink RX4 24 "AdventStreets$Street" "seen" "[I") (List.mem_of_getElem? (i := 9) rfl)) (fun _ h9 => h9) rfl dX4_take_66 ?_
  refine lv_iconst (v := nI (0)) hx hb dX4_take_69 (by decide) ?_
  refine lv_bipush (v := nI (10)) hx hb dX4_take_70 (by decide) ?_
  refine r_cpyN (sp := 0) (dp := 0) (n := 10) hx hb (hml.trans hl.1.symm) hown (hts (.methodLink RX4 27 arraycopyName) (List.mem_of_getElem? (i := 2) rfl)) (hts (.native arraycopyName) (List.mem_of_getElem? (i := 3) rfl)) (hts (.static arraycopyName) (List.mem_of_getElem? (i := 4) rfl)) (hts (.initialized "java/lang/System") (List.mem_of_getElem? (i := 5) rfl)) hK hP hD hS 11 5 rfl rfl (by omega) (by omega) (by decide) (by decide) (Nat.le_of_ble_eq_true rfl) (Nat.le_of_ble_eq_true rfl) dX4_take_72 (fun H locs hP hD hS => ?_)
  have hP : va_P D vwCl (stW cA a (Sn x, Se x, Sv x, St x, So x, va_cpy (SK y) (SK x) 0 0 10, va_cpy (SP y) (SP x) 0 0 10, va_cpy (SD y) (SD x) 0 0 10, va_cpy (SG y) (SG x) 0 0 10, va_cpy (SS y) (SS x) 0 0 10) ++ stW cA b y) H := hP
  have hD : va_D A (stW cA a (Sn x, Se x, Sv x, St x, So x, va_cpy (SK y) (SK x) 0 0 10, va_cpy (SP y) (SP x) 0 0 10, va_cpy (SD y) (SD x) 0 0 10, va_cpy (SG y) (SG x) 0 0 10, va_cpy (SS y) (SS x) 0 0 10) ++ stW cA b y) := hD
  refine lv_aload_n hx hb dX4_take_75 rfl (lv_at hl 0 rfl) ?_
  refine lv_aload_n hx hb dX4_take_76 rfl (lv_at hl 1 rfl) ?_
  refine va_get (v := .int (nI (Sn y))) (Ts := wsX40) (C := RX4) (T := TX4) (N := 10) hx hb hwsX40 (fun _ h => h) hown hK hP 6 rfl rfl 5 (by decide) (hts (.fieldLink RX4 33 "AdventStreets$Street" "windows" "I") (List.mem_of_getElem? (i := 10) rfl)) (fun _ h9 => h9) rfl dX4_take_77 ?_
  refine va_put (v := .int (nI (Sn y))) (ty := .int) (Ts := wsX40) (C := RX4) (T := TX4) (N := 10) hx hb hwsX40 (fun _ h => h) tyX4 tyX4_ok nmX4 hown hK hP hD hS 0 rfl rfl 5 (by decide) (hts (.fieldLink RX4 33 "AdventStreets$Street" "windows" "I") (List.mem_of_getElem? (i := 10) rfl)) (fun _ h9 => h9) rfl (tyX4_ok 5 (by decide)) rfl rfl (Nat.le_of_ble_eq_true rfl) dX4_take_80 (fun H locs hP hD hS => ?_)
  have hP : va_P D vwCl (stW cA a (Sn y, Se x, Sv x, St x, So x, va_cpy (SK y) (SK x) 0 0 10, va_cpy (SP y) (SP x) 0 0 10, va_cpy (SD y) (SD x) 0 0 10, va_cpy (SG y) (SG x) 0 0 10, va_cpy (SS y) (SS x) 0 0 10) ++ stW cA b y) H := hP
  have hD : va_D A (stW cA a (Sn y, Se x, Sv x, St x, So x, va_cpy (SK y) (SK x) 0 0 10, va_cpy (SP y) (SP x) 0 0 10, va_cpy (SD y) (SD x) 0 0 10, va_cpy (SG y) (SG x) 0 0 10, va_cpy (SS y) (SS x) 0 0 10) ++ stW cA b y) := hD
  refine lv_aload_n hx hb dX4_take_83 rfl (lv_at hl 0 rfl) ?_
  refine lv_aload_n hx hb dX4_take_84 rfl (lv_at hl 1 rfl) ?_
  refine va_get (v := .int (nI (Se y))) (Ts := wsX40) (C := RX4) (T := TX4) (N := 10) hx hb hwsX40 (fun _ h => h) hown hK hP 6 rfl rfl 6 (by decide) (hts (.fieldLink RX4 37 "AdventStreets$Street" "eve" "I") (List.mem_of_getElem? (i := 11) rfl)) (fun _ h9 => h9) rfl dX4_take_85 ?_
  refine va_put (v := .int (nI (Se y))) (ty := .int) (Ts := wsX40) (C := RX4) (T := TX4) (N := 10) hx hb hwsX40 (fun _ h => h) tyX4 tyX4_ok nmX4 hown hK hP hD hS 0 rfl rfl 6 (by decide) (hts (.fieldLink RX4 37 "AdventStreets$Street" "eve" "I") (List.mem_of_getElem? (i := 11) rfl)) (fun _ h9 => h9) rfl (tyX4_ok 6 (by decide)) rfl rfl (Nat.le_of_ble_eq_true rfl) dX4_take_88 (fun H locs hP hD hS => ?_)
  have hP : va_P D vwCl (stW cA a (Sn y, Se y, Sv x, St x, So x, va_cpy (SK y) (SK x) 0 0 10, va_cpy (SP y) (SP x) 0 0 10, va_cpy (SD y) (SD x) 0 0 10, va_cpy (SG y) (SG x) 0 0 10, va_cpy (SS y) (SS x) 0 0 10) ++ stW cA b y) H := hP
  have hD : va_D A (stW cA a (Sn y, Se y, Sv x, St x, So x, va_cpy (SK y) (SK x) 0 0 10, va_cpy (SP y) (SP x) 0 0 10, va_cpy (SD y) (SD x) 0 0 10, va_cpy (SG y) (SG x) 0 0 10, va_cpy (SS y) (SS x) 0 0 10) ++ stW cA b y) := hD
  refine lv_aload_n hx hb dX4_take_91 rfl (lv_at hl 0 rfl) ?_
  refine lv_aload_n hx hb dX4_take_92 rfl (lv_at hl 1 rfl) ?_
  refine va_get (v := .int (nI (Sv y))) (Ts := wsX40) (C := RX4) (T := TX4) (N := 10) hx hb hwsX40 (fun _ h => h) hown hK hP 6 rfl rfl 7 (by decide) (hts (.fieldLink RX4 40 "AdventStreets$Street" "sight" "I") (List.mem_of_getElem? (i := 12) rfl)) (fun _ h9 => h9) rfl dX4_take_93 ?_
  refine va_put (v := .int (nI (Sv y))) (ty := .int) (Ts := wsX40) (C := RX4) (T := TX4) (N := 10) hx hb hwsX40 (fun _ h => h) tyX4 tyX4_ok nmX4 hown hK hP hD hS 0 rfl rfl 7 (by decide) (hts (.fieldLink RX4 40 "AdventStreets$Street" "sight" "I") (List.mem_of_getElem? (i := 12) rfl)) (fun _ h9 => h9) rfl (tyX4_ok 7 (by decide)) rfl rfl (Nat.le_of_ble_eq_true rfl) dX4_take_96 (fun H locs hP hD hS => ?_)
  have hP : va_P D vwCl (stW cA a (Sn y, Se y, Sv y, St x, So x, va_cpy (SK y) (SK x) 0 0 10, va_cpy (SP y) (SP x) 0 0 10, va_cpy (SD y) (SD x) 0 0 10, va_cpy (SG y) (SG x) 0 0 10, va_cpy (SS y) (SS x) 0 0 10) ++ stW cA b y) H := hP
  have hD : va_D A (stW cA a (Sn y, Se y, Sv y, St x, So x, va_cpy (SK y) (SK x) 0 0 10, va_cpy (SP y) (SP x) 0 0 10, va_cpy (SD y) (SD x) 0 0 10, va_cpy (SG y) (SG x) 0 0 10, va_cpy (SS y) (SS x) 0 0 10) ++ stW cA b y) := hD
  refine lv_aload_n hx hb dX4_take_99 rfl (lv_at hl 0 rfl) ?_
  refine lv_aload_n hx hb dX4_take_100 rfl (lv_at hl 1 rfl) ?_
  refine va_get (v := .int (nI (St y))) (Ts := wsX40) (C := RX4) (T := TX4) (N := 10) hx hb hwsX40 (fun _ h => h) hown hK hP 6 rfl rfl 8 (by decide) (hts (.fieldLink RX4 43 "AdventStreets$Street" "time" "I") (List.mem_of_getElem? (i := 13) rfl)) (fun _ h9 => h9) rfl dX4_take_101 ?_
  refine va_put (v := .int (nI (St y))) (ty := .int) (Ts := wsX40) (C := RX4) (T := TX4) (N := 10) hx hb hwsX40 (fun _ h => h) tyX4 tyX4_ok nmX4 hown hK hP hD hS 0 rfl rfl 8 (by decide) (hts (.fieldLink RX4 43 "AdventStreets$Street" "time" "I") (List.mem_of_getElem? (i := 13) rfl)) (fun _ h9 => h9) rfl (tyX4_ok 8 (by decide)) rfl rfl (Nat.le_of_ble_eq_true rfl) dX4_take_104 (fun H locs hP hD hS => ?_)
  have hP : va_P D vwCl (stW cA a (Sn y, Se y, Sv y, St y, So x, va_cpy (SK y) (SK x) 0 0 10, va_cpy (SP y) (SP x) 0 0 10, va_cpy (SD y) (SD x) 0 0 10, va_cpy (SG y) (SG x) 0 0 10, va_cpy (SS y) (SS x) 0 0 10) ++ stW cA b y) H := hP
  have hD : va_D A (stW cA a (Sn y, Se y, Sv y, St y, So x, va_cpy (SK y) (SK x) 0 0 10, va_cpy (SP y) (SP x) 0 0 10, va_cpy (SD y) (SD x) 0 0 10, va_cpy (SG y) (SG x) 0 0 10, va_cpy (SS y) (SS x) 0 0 10) ++ stW cA b y) := hD
  refine lv_aload_n hx hb dX4_take_107 rfl (lv_at hl 0 rfl) ?_
  refine lv_aload_n hx hb dX4_take_108 rfl (lv_at hl 1 rfl) ?_
  refine va_get (v := .int (nI (So y))) (Ts := wsX40) (C := RX4) (T := TX4) (N := 10) hx hb hwsX40 (fun _ h => h) hown hK hP 6 rfl rfl 9 (by decide) (hts (.fieldLink RX4 46 "AdventStreets$Street" "opened" "I") (List.mem_of_getElem? (i := 14) rfl)) (fun _ h9 => h9) rfl dX4_take_109 ?_
  refine va_put (v := .int (nI (So y))) (ty := .int) (Ts := wsX40) (C := RX4) (T := TX4) (N := 10) hx hb hwsX40 (fun _ h => h) tyX4 tyX4_ok nmX4 hown hK hP hD hS 0 rfl rfl 9 (by decide) (hts (.fieldLink RX4 46 "AdventStreets$Street" "opened" "I") (List.mem_of_getElem? (i := 14) rfl)) (fun _ h9 => h9) rfl (tyX4_ok 9 (by decide)) rfl rfl (Nat.le_of_ble_eq_true rfl) dX4_take_112 (fun H locs hP hD hS => ?_)
  have hP : va_P D vwCl (stW cA a (Sn y, Se y, Sv y, St y, So y, va_cpy (SK y) (SK x) 0 0 10, va_cpy (SP y) (SP x) 0 0 10, va_cpy (SD y) (SD x) 0 0 10, va_cpy (SG y) (SG x) 0 0 10, va_cpy (SS y) (SS x) 0 0 10) ++ stW cA b y) H := hP
  have hD : va_D A (stW cA a (Sn y, Se y, Sv y, St y, So y, va_cpy (SK y) (SK x) 0 0 10, va_cpy (SP y) (SP x) 0 0 10, va_cpy (SD y) (SD x) 0 0 10, va_cpy (SG y) (SG x) 0 0 10, va_cpy (SS y) (SS x) 0 0 10) ++ stW cA b y) := hD
  have hP := va_P.cong (f := fun j => nI (va_cpy (SK y) (SK x) 0 0 10 j)) (g := fun j => nI (SK y j)) (ws' := (stW cA a (Sn y, Se y, Sv y, St y, So y, SK y, va_cpy (SP y) (SP x) 0 0 10, va_cpy (SD y) (SD x) 0 0 10, va_cpy (SG y) (SG x) 0 0 10, va_cpy (SS y) (SS x) 0 0 10) ++ stW cA b y)) 1 hP rfl (fun j hj => congrArg nI (cpyE hj)) rfl
  have hD : va_D A (stW cA a (Sn y, Se y, Sv y, St y, So y, SK y, va_cpy (SP y) (SP x) 0 0 10, va_cpy (SD y) (SD x) 0 0 10, va_cpy (SG y) (SG x) 0 0 10, va_cpy (SS y) (SS x) 0 0 10) ++ stW cA b y) := va_D.set (e := .inl (cA 0, 10, arN (SK y))) (p := 1) hD rfl
  have hP := va_P.cong (f := fun j => nI (va_cpy (SD y) (SD x) 0 0 10 j)) (g := fun j => nI (SD y j)) (ws' := (stW cA a (Sn y, Se y, Sv y, St y, So y, SK y, va_cpy (SP y) (SP x) 0 0 10, SD y, va_cpy (SG y) (SG x) 0 0 10, va_cpy (SS y) (SS x) 0 0 10) ++ stW cA b y)) 2 hP rfl (fun j hj => congrArg nI (cpyE hj)) rfl
  have hD : va_D A (stW cA a (Sn y, Se y, Sv y, St y, So y, SK y, va_cpy (SP y) (SP x) 0 0 10, SD y, va_cpy (SG y) (SG x) 0 0 10, va_cpy (SS y) (SS x) 0 0 10) ++ stW cA b y) := va_D.set (e := .inl (cA 0, 10, arN (SD y))) (p := 2) hD rfl
  have hP := va_P.cong (f := fun j => nI (va_cpy (SP y) (SP x) 0 0 10 j)) (g := fun j => nI (SP y j)) (ws' := (stW cA a (Sn y, Se y, Sv y, St y, So y, SK y, SP y, SD y, va_cpy (SG y) (SG x) 0 0 10, va_cpy (SS y) (SS x) 0 0 10) ++ stW cA b y)) 3 hP rfl (fun j hj => congrArg nI (cpyE hj)) rfl
  have hD : va_D A (stW cA a (Sn y, Se y, Sv y, St y, So y, SK y, SP y, SD y, va_cpy (SG y) (SG x) 0 0 10, va_cpy (SS y) (SS x) 0 0 10) ++ stW cA b y) := va_D.set (e := .inl (cA 0, 10, arN (SP y))) (p := 3) hD rfl
  have hP := va_P.cong (f := fun j => nI (va_cpy (SG y) (SG x) 0 0 10 j)) (g := fun j => nI (SG y j)) (ws' := (stW cA a (Sn y, Se y, Sv y, St y, So y, SK y, SP y, SD y, SG y, va_cpy (SS y) (SS x) 0 0 10) ++ stW cA b y)) 4 hP rfl (fun j hj => congrArg nI (cpyE hj)) rfl
  have hD : va_D A (stW cA a (Sn y, Se y, Sv y, St y, So y, SK y, SP y, SD y, SG y, va_cpy (SS y) (SS x) 0 0 10) ++ stW cA b y) := va_D.set (e := .inl (cA 0, 10, arN (SG y))) (p := 4) hD rfl
  have hP := va_P.cong (f := fun j => nI (va_cpy (SS y) (SS x) 0 0 10 j)) (g := fun j => nI (SS y j)) (ws' := (stW cA a y ++ stW cA b y)) 5 hP rfl (fun j hj => congrArg nI (cpyE hj)) rfl
  have hD : va_D A (stW cA a y ++ stW cA b y) := va_D.set (e := .inl (cA 0, 10, arN (SS y))) (p := 5) hD rfl
  exact hend _ _ _ _ hP hD hS dX4_take_115
set_option maxRecDepth 100000 in
set_option maxHeartbeats 4000000 in
theorem c_X4_begin (l : Launch) (D : va_G) (cA : Nat → ClassId) (tt : Nat → Nat) (a : Nat → Nat) (x : Sg) (ev si : Nat)  (sz : Nat) : Cv l D cA tt yX4_begin wsX4_begin ({ frames := 0, cells := 0, slots := 0, locals := 0 } : Room) [.ref (a 0), .int (nI (ev)), .int (nI (si))] sz (stW cA a x) (stW cA a (beginF x ev si)) := by
  refine Cv.mk (cc := cX4_begin) (maxL := 3) (by decide) rfl (Nat.le_of_ble_eq_true rfl) ?_
  intro p e s m below meth c A Q ls hB hl hend
  obtain ⟨⟨hx, hb, hml, hown, hts⟩, hP, hK, hD, hS, hA, hE⟩ := hB
  have hown : s.vm.findClass RX4 = some m.cls := hown
  have hwsX40 : ∀ w9 ∈ wsX40, w9.before ([.ref (a 0), .int (nI (ev)), .int (nI (si))] : List Value).toArray s = true := fun w9 h => hts w9 (List.mem_cons_of_mem _ (List.mem_append_right _ h))
  have hl : lv_has ls 3 [(0, .ref (a 0)), (1, .int (nI (ev))), (2, .int (nI (si)))] := hl
  refine lv_aload_n hx hb dX4_begin_0 rfl (lv_at hl 0 rfl) ?_
  refine lv_iconst (v := nI (0)) hx hb dX4_begin_1 (by decide) ?_
  refine va_put (v := .int (nI (0))) (ty := .int) (Ts := wsX40) (C := RX4) (T := TX4) (N := 10) hx hb hwsX40 (fun _ h => h) tyX4 tyX4_ok nmX4 hown hK hP hD hS 0 rfl rfl 5 (by decide) (hts (.fieldLink RX4 33 "AdventStreets$Street" "windows" "I") (List.mem_of_getElem? (i := 1) rfl)) (fun _ h9 => h9) rfl (tyX4_ok 5 (by decide)) rfl rfl (Nat.le_of_ble_eq_true rfl) dX4_begin_2 (fun H locs hP hD hS => ?_)
  have hP : va_P D vwCl (stW cA a (0, Se x, Sv x, St x, So x, SK x, SP x, SD x, SG x, SS x)) H := hP
  have hD : va_D A (stW cA a (0, Se x, Sv x, St x, So x, SK x, SP x, SD x, SG x, SS x)) := hD
  refine lv_aload_n hx hb dX4_begin_5 rfl (lv_at hl 0 rfl) ?_
  refine lv_iload_n hx hb dX4_begin_6 rfl (lv_at hl 1 rfl) ?_
  refine va_put (v := .int (nI (ev))) (ty := .int) (Ts := wsX40) (C := RX4) (T := TX4) (N := 10) hx hb hwsX40 (fun _ h => h) tyX4 tyX4_ok nmX4 hown hK hP hD hS 0 rfl rfl 6 (by decide) (hts (.fieldLink RX4 37 "AdventStreets$Street" "eve" "I") (List.mem_of_getElem? (i := 2) rfl)) (fun _ h9 => h9) rfl (tyX4_ok 6 (by decide)) rfl rfl (Nat.le_of_ble_eq_true rfl) dX4_begin_7 (fun H locs hP hD hS => ?_)
  have hP : va_P D vwCl (stW cA a (0, ev, Sv x, St x, So x, SK x, SP x, SD x, SG x, SS x)) H := hP
  have hD : va_D A (stW cA a (0, ev, Sv x, St x, So x, SK x, SP x, SD x, SG x, SS x)) := hD
  refine lv_aload_n hx hb dX4_begin_10 rfl (lv_at hl 0 rfl) ?_
  refine lv_iload_n hx hb dX4_begin_11 rfl (lv_at hl 2 rfl) ?_
  refine va_put (v := .int (nI (si))) (ty := .int) (Ts := wsX40) (C := RX4) (T := TX4) (N := 10) hx hb hwsX40 (fun _ h => h) tyX4 tyX4_ok nmX4 hown hK hP hD hS 0 rfl rfl 7 (by decide) (hts (.fieldLink RX4 40 "AdventStreets$Street" "sight" "I") (List.mem_of_getElem? (i := 3) rfl)) (fun _ h9 => h9) rfl (tyX4_ok 7 (by decide)) rfl rfl (Nat.le_of_ble_eq_true rfl) dX4_begin_12 (fun H locs hP hD hS => ?_)
  have hP : va_P D vwCl (stW cA a (0, ev, si, St x, So x, SK x, SP x, SD x, SG x, SS x)) H := hP
  have hD : va_D A (stW cA a (0, ev, si, St x, So x, SK x, SP x, SD x, SG x, SS x)) := hD
  refine lv_aload_n hx hb dX4_begin_15 rfl (lv_at hl 0 rfl) ?_
  refine lv_iconst (v := nI (0)) hx hb dX4_begin_16 (by decide) ?_
  refine va_put (v := .int (nI (0))) (ty := .int) (Ts := wsX40) (C := RX4) (T := TX4) (N := 10) hx hb hwsX40 (fun _ h => h) tyX4 tyX4_ok nmX4 hown hK hP hD hS 0 rfl rfl 8 (by decide) (hts (.fieldLink RX4 43 "AdventStreets$Street" "time" "I") (List.mem_of_getElem? (i := 4) rfl)) (fun _ h9 => h9) rfl (tyX4_ok 8 (by decide)) rfl rfl (Nat.le_of_ble_eq_true rfl) dX4_begin_17 (fun H locs hP hD hS => ?_)
  have hP : va_P D vwCl (stW cA a (0, ev, si, 0, So x, SK x, SP x, SD x, SG x, SS x)) H := hP
  have hD : va_D A (stW cA a (0, ev, si, 0, So x, SK x, SP x, SD x, SG x, SS x)) := hD
  refine lv_aload_n hx hb dX4_begin_20 rfl (lv_at hl 0 rfl) ?_
  refine lv_iconst (v := nI (0)) hx hb dX4_begin_21 (by decide) ?_
  refine va_put (v := .int (nI (0))) (ty := .int) (Ts := wsX40) (C := RX4) (T := TX4) (N := 10) hx hb hwsX40 (fun _ h => h) tyX4 tyX4_ok nmX4 hown hK hP hD hS 0 rfl rfl 9 (by decide) (hts (.fieldLink RX4 46 "AdventStreets$Street" "opened" "I") (List.mem_of_getElem? (i := 5) rfl)) (fun _ h9 => h9) rfl (tyX4_ok 9 (by decide)) rfl rfl (Nat.le_of_ble_eq_true rfl) dX4_begin_22 (fun H locs hP hD hS => ?_)
  have hP : va_P D vwCl (stW cA a (0, ev, si, 0, 0, SK x, SP x, SD x, SG x, SS x)) H := hP
  have hD : va_D A (stW cA a (0, ev, si, 0, 0, SK x, SP x, SD x, SG x, SS x)) := hD
  exact hend _ _ _ _ hP hD hS dX4_begin_25
set_option maxRecDepth 100000 in
set_option maxHeartbeats 4000000 in
theorem c_X4_build (l : Launch) (D : va_G) (cA : Nat → ClassId) (tt : Nat → Nat) (a : Nat → Nat) (x : Sg) (k d pi g : Nat) (hn : Sn x ≤ 10) (sz : Nat) : Cv l D cA tt yX4_build wsX4_build ({ frames := 0, cells := 0, slots := 0, locals := 0 } : Room) [.ref (a 0), .int (nI (k)), .int (nI (d)), .int (nI (pi)), .int (nI (g))] sz (stW cA a x) (stW cA a (buildF x k d pi g)) := by
  refine Cv.mk (cc := cX4_build) (maxL := 5) (by decide) rfl (Nat.le_of_ble_eq_true rfl) ?_
  intro p e s m below meth c A Q ls hB hl hend
  obtain ⟨⟨hx, hb, hml, hown, hts⟩, hP, hK, hD, hS, hA, hE⟩ := hB
  have hown : s.vm.findClass RX4 = some m.cls := hown
  have hwsX40 : ∀ w9 ∈ wsX40, w9.before ([.ref (a 0), .int (nI (k)), .int (nI (d)), .int (nI (pi)), .int (nI (g))] : List Value).toArray s = true := fun w9 h => hts w9 (List.mem_cons_of_mem _ (List.mem_append_right _ h))
  have hl : lv_has ls 5 [(0, .ref (a 0)), (1, .int (nI (k))), (2, .int (nI (d))), (3, .int (nI (pi))), (4, .int (nI (g)))] := hl
  refine lv_aload_n hx hb dX4_build_0 rfl (lv_at hl 0 rfl) ?_
  refine va_get (v := .int (nI (Sn x))) (Ts := wsX40) (C := RX4) (T := TX4) (N := 10) hx hb hwsX40 (fun _ h => h) hown hK hP 0 rfl rfl 5 (by decide) (hts (.fieldLink RX4 33 "AdventStreets$Street" "windows" "I") (List.mem_of_getElem? (i := 1) rfl)) (fun _ h9 => h9) rfl dX4_build_1 ?_
  refine lv_bipush (v := nI (10)) hx hb dX4_build_4 (by decide) ?_
  refine lv_icmp_lt (tgt := 10) hx hb dX4_build_6 (by decide) (fun c1 => ?_) (fun c1 => ?_)
  · skip
    rw [nI_ltI (by omega) (by omega)] at c1
    refine lv_aload_n hx hb dX4_build_10 rfl (lv_at hl 0 rfl) ?_
    refine va_get (v := .ref (a 1)) (Ts := wsX40) (C := RX4) (T := TX4) (N := 10) hx hb hwsX40 (fun _ h => h) hown hK hP 0 rfl rfl 0 (by decide) (hts (.fieldLink RX4 9 "AdventStreets$Street" "kinds" "[I") (List.mem_of_getElem? (i := 2) rfl)) (fun _ h9 => h9) rfl dX4_build_11 ?_
    refine lv_aload_n hx hb dX4_build_14 rfl (lv_at hl 0 rfl) ?_
    refine va_get (v := .int (nI (Sn x))) (Ts := wsX40) (C := RX4) (T := TX4) (N := 10) hx hb hwsX40 (fun _ h => h) hown hK hP 0 rfl rfl 5 (by decide) (hts (.fieldLink RX4 33 "AdventStreets$Street" "windows" "I") (List.mem_of_getElem? (i := 1) rfl)) (fun _ h9 => h9) rfl dX4_build_15 ?_
    refine lv_iload_n hx hb dX4_build_18 rfl (lv_at hl 1 rfl) ?_
    refine r_ast (f := SK x) hx hb hK hP hD hS 1 rfl (i := Sn x) (by omega) (by decide) dX4_build_19 (fun H locs hP hD hS => ?_)
    have hP : va_P D vwCl (stW cA a (Sn x, Se x, Sv x, St x, So x, upN (SK x) (Sn x) k, SP x, SD x, SG x, SS x)) H := hP
    have hD : va_D A (stW cA a (Sn x, Se x, Sv x, St x, So x, upN (SK x) (Sn x) k, SP x, SD x, SG x, SS x)) := hD
    refine lv_aload_n hx hb dX4_build_20 rfl (lv_at hl 0 rfl) ?_
    refine va_get (v := .ref (a 2)) (Ts := wsX40) (C := RX4) (T := TX4) (N := 10) hx hb hwsX40 (fun _ h => h) hown hK hP 0 rfl rfl 1 (by decide) (hts (.fieldLink RX4 15 "AdventStreets$Street" "days" "[I") (List.mem_of_getElem? (i := 3) rfl)) (fun _ h9 => h9) rfl dX4_build_21 ?_
    refine lv_aload_n hx hb dX4_build_24 rfl (lv_at hl 0 rfl) ?_
    refine va_get (v := .int (nI (Sn x))) (Ts := wsX40) (C := RX4) (T := TX4) (N := 10) hx hb hwsX40 (fun _ h => h) hown hK hP 0 rfl rfl 5 (by decide) (hts (.fieldLink RX4 33 "AdventStreets$Street" "windows" "I") (List.mem_of_getElem? (i := 1) rfl)) (fun _ h9 => h9) rfl dX4_build_25 ?_
    refine lv_iload_n hx hb dX4_build_28 rfl (lv_at hl 2 rfl) ?_
    refine r_ast (f := SD x) hx hb hK hP hD hS 2 rfl (i := Sn x) (by omega) (by decide) dX4_build_29 (fun H locs hP hD hS => ?_)
    have hP : va_P D vwCl (stW cA a (Sn x, Se x, Sv x, St x, So x, upN (SK x) (Sn x) k, SP x, upN (SD x) (Sn x) d, SG x, SS x)) H := hP
    have hD : va_D A (stW cA a (Sn x, Se x, Sv x, St x, So x, upN (SK x) (Sn x) k, SP x, upN (SD x) (Sn x) d, SG x, SS x)) := hD
    refine lv_aload_n hx hb dX4_build_30 rfl (lv_at hl 0 rfl) ?_
    refine va_get (v := .ref (a 3)) (Ts := wsX40) (C := RX4) (T := TX4) (N := 10) hx hb hwsX40 (fun _ h => h) hown hK hP 0 rfl rfl 2 (by decide) (hts (.fieldLink RX4 18 "AdventStreets$Street" "pictures" "[I") (List.mem_of_getElem? (i := 4) rfl)) (fun _ h9 => h9) rfl dX4_build_31 ?_
    refine lv_aload_n hx hb dX4_build_34 rfl (lv_at hl 0 rfl) ?_
    refine va_get (v := .int (nI (Sn x))) (Ts := wsX40) (C := RX4) (T := TX4) (N := 10) hx hb hwsX40 (fun _ h => h) hown hK hP 0 rfl rfl 5 (by decide) (hts (.fieldLink RX4 33 "AdventStreets$Street" "windows" "I") (List.mem_of_getElem? (i := 1) rfl)) (fun _ h9 => h9) rfl dX4_build_35 ?_
    refine lv_iload_n hx hb dX4_build_38 rfl (lv_at hl 3 rfl) ?_
    refine r_ast (f := SP x) hx hb hK hP hD hS 3 rfl (i := Sn x) (by omega) (by decide) dX4_build_39 (fun H locs hP hD hS => ?_)
    have hP : va_P D vwCl (stW cA a (Sn x, Se x, Sv x, St x, So x, upN (SK x) (Sn x) k, upN (SP x) (Sn x) pi, upN (SD x) (Sn x) d, SG x, SS x)) H := hP
    have hD : va_D A (stW cA a (Sn x, Se x, Sv x, St x, So x, upN (SK x) (Sn x) k, upN (SP x) (Sn x) pi, upN (SD x) (Sn x) d, SG x, SS x)) := hD
    refine lv_aload_n hx hb dX4_build_40 rfl (lv_at hl 0 rfl) ?_
    refine va_get (v := .ref (a 4)) (Ts := wsX40) (C := RX4) (T := TX4) (N := 10) hx hb hwsX40 (fun _ h => h) hown hK hP 0 rfl rfl 3 (by decide) (hts (.fieldLink RX4 21 "AdventStreets$Street" "glues" "[I") (List.mem_of_getElem? (i := 5) rfl)) (fun _ h9 => h9) rfl dX4_build_41 ?_
    refine lv_aload_n hx hb dX4_build_44 rfl (lv_at hl 0 rfl) ?_
    refine va_get (v := .int (nI (Sn x))) (Ts := wsX40) (C := RX4) (T := TX4) (N := 10) hx hb hwsX40 (fun _ h => h) hown hK hP 0 rfl rfl 5 (by decide) (hts (.fieldLink RX4 33 "AdventStreets$Street" "windows" "I") (List.mem_of_getElem? (i := 1) rfl)) (fun _ h9 => h9) rfl dX4_build_45 ?_
    refine lv_iload hx hb dX4_build_48 (lv_at hl 4 rfl) ?_
    refine r_ast (f := SG x) hx hb hK hP hD hS 4 rfl (i := Sn x) (by omega) (by decide) dX4_build_50 (fun H locs hP hD hS => ?_)
    have hP : va_P D vwCl (stW cA a (Sn x, Se x, Sv x, St x, So x, upN (SK x) (Sn x) k, upN (SP x) (Sn x) pi, upN (SD x) (Sn x) d, upN (SG x) (Sn x) g, SS x)) H := hP
    have hD : va_D A (stW cA a (Sn x, Se x, Sv x, St x, So x, upN (SK x) (Sn x) k, upN (SP x) (Sn x) pi, upN (SD x) (Sn x) d, upN (SG x) (Sn x) g, SS x)) := hD
    refine lv_aload_n hx hb dX4_build_51 rfl (lv_at hl 0 rfl) ?_
    refine va_get (v := .ref (a 5)) (Ts := wsX40) (C := RX4) (T := TX4) (N := 10) hx hb hwsX40 (fun _ h => h) hown hK hP 0 rfl rfl 4 (by decide) (hts (.fieldLink RX4 24 "AdventStreets$Street" "seen" "[I") (List.mem_of_getElem? (i := 6) rfl)) (fun _ h9 => h9) rfl dX4_build_52 ?_
    refine lv_aload_n hx hb dX4_build_55 rfl (lv_at hl 0 rfl) ?_
    refine va_get (v := .int (nI (Sn x))) (Ts := wsX40) (C := RX4) (T := TX4) (N := 10) hx hb hwsX40 (fun _ h => h) hown hK hP 0 rfl rfl 5 (by decide) (hts (.fieldLink RX4 33 "AdventStreets$Street" "windows" "I") (List.mem_of_getElem? (i := 1) rfl)) (fun _ h9 => h9) rfl dX4_build_56 ?_
    refine lv_iconst (v := nI (0)) hx hb dX4_build_59 (by decide) ?_
    refine r_ast (f := SS x) hx hb hK hP hD hS 5 rfl (i := Sn x) (by omega) (by decide) dX4_build_60 (fun H locs hP hD hS => ?_)
    have hP : va_P D vwCl (stW cA a (Sn x, Se x, Sv x, St x, So x, upN (SK x) (Sn x) k, upN (SP x) (Sn x) pi, upN (SD x) (Sn x) d, upN (SG x) (Sn x) g, upN (SS x) (Sn x) 0)) H := hP
    have hD : va_D A (stW cA a (Sn x, Se x, Sv x, St x, So x, upN (SK x) (Sn x) k, upN (SP x) (Sn x) pi, upN (SD x) (Sn x) d, upN (SG x) (Sn x) g, upN (SS x) (Sn x) 0)) := hD
    refine lv_aload_n hx hb dX4_build_61 rfl (lv_at hl 0 rfl) ?_
    refine lv_dup hx hb dX4_build_62 rfl ?_
    refine va_get (v := .int (nI (Sn x))) (Ts := wsX40) (C := RX4) (T := TX4) (N := 10) hx hb hwsX40 (fun _ h => h) hown hK hP 0 rfl rfl 5 (by decide) (hts (.fieldLink RX4 33 "AdventStreets$Street" "windows" "I") (List.mem_of_getElem? (i := 1) rfl)) (fun _ h9 => h9) rfl dX4_build_63 ?_
    refine lv_iconst (v := nI (1)) hx hb dX4_build_66 (by decide) ?_
    refine lv_iadd hx hb dX4_build_67 ?_
    refine vn_i (v := nI (Sn x + 1)) (nI_add _ _) ?_
    refine va_put (v := .int (nI (Sn x + 1))) (ty := .int) (Ts := wsX40) (C := RX4) (T := TX4) (N := 10) hx hb hwsX40 (fun _ h => h) tyX4 tyX4_ok nmX4 hown hK hP hD hS 0 rfl rfl 5 (by decide) (hts (.fieldLink RX4 33 "AdventStreets$Street" "windows" "I") (List.mem_of_getElem? (i := 1) rfl)) (fun _ h9 => h9) rfl (tyX4_ok 5 (by decide)) rfl rfl (Nat.le_of_ble_eq_true rfl) dX4_build_68 (fun H locs hP hD hS => ?_)
    have hP : va_P D vwCl (stW cA a (Sn x + 1, Se x, Sv x, St x, So x, upN (SK x) (Sn x) k, upN (SP x) (Sn x) pi, upN (SD x) (Sn x) d, upN (SG x) (Sn x) g, upN (SS x) (Sn x) 0)) H := hP
    have hD : va_D A (stW cA a (Sn x + 1, Se x, Sv x, St x, So x, upN (SK x) (Sn x) k, upN (SP x) (Sn x) pi, upN (SD x) (Sn x) d, upN (SG x) (Sn x) g, upN (SS x) (Sn x) 0)) := hD
    have ef2 : ((stW cA a (Sn x + 1, Se x, Sv x, St x, So x, upN (SK x) (Sn x) k, upN (SP x) (Sn x) pi, upN (SD x) (Sn x) d, upN (SG x) (Sn x) g, upN (SS x) (Sn x) 0)) : va_W) = (stW cA a (buildF x k d pi g)) := by
      exact congrArg (stW cA a) (if_neg (by omega)).symm
    have hP : va_P D vwCl (stW cA a (buildF x k d pi g)) _ := Eq.mp (congrArg (fun z9 => va_P D vwCl z9 _) ef2) hP
    have hD : va_D A (stW cA a (buildF x k d pi g)) := Eq.mp (congrArg (fun z9 => va_D A z9) ef2) hD
    exact hend _ _ _ _ hP hD hS dX4_build_71
  · skip
    rw [nI_ltI (by omega) (by omega)] at c1
    have ef3 : ((stW cA a x) : va_W) = (stW cA a (buildF x k d pi g)) := by
      exact congrArg (stW cA a) (if_pos (by omega)).symm
    have hP : va_P D vwCl (stW cA a (buildF x k d pi g)) _ := Eq.mp (congrArg (fun z9 => va_P D vwCl z9 _) ef3) hP
    have hD : va_D A (stW cA a (buildF x k d pi g)) := Eq.mp (congrArg (fun z9 => va_D A z9) ef3) hD
    exact hend _ _ _ _ hP hD hS dX4_build_9
