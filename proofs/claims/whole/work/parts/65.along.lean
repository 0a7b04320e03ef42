/-! ===== the reference: along, shut, trades, fits, wind ===== -/
theorem aln_s {F : Nat → Nat} {a b j : Nat} (h : b = F j) : (a ||| orN j F) ||| b = a ||| orN (j + 1) F := by rw [orN, h, Nat.or_assoc]
theorem al_s {F : Nat → Nat} {a b j : Nat} (h : b = F j) : (a ||| orN j F) ||| b = a ||| orN (j + 1) F := by rw [orN, h, Nat.or_assoc]
def alnT (x : Sg) (know j i : Nat) : Nat := if know.testBit i = true then (if gapN i j ≤ Sv x then 2 ^ j else 0) else 0
def alnI (x : Sg) (know j : Nat) : Nat := if (So x).testBit j = true then 0 else orN (Sn x) (alnT x know j)
def alnK (x : Sg) (k : Nat) : Nat → Nat
  | 0 => 2 ^ k
  | q + 1 => alnK x k q ||| orN (Sn x) (alnI x (alnK x k q))
theorem alnK_lt {x : Sg} (h : Sn x ≤ 10) {k : Nat} (hk : k < 10) (q : Nat) : alnK x k q < 1024 := by
  induction q with
  | zero => exact Nat.pow_lt_pow_right (n := 10) (by decide) hk
  | succ q ih =>
    refine Nat.or_lt_two_pow (n := 10) ih (orN_lt (fun j hj => ?_))
    unfold alnI
    split
    · decide
    · refine orN_lt (fun i hi => ?_)
      unfold alnT
      split
      · split
        · exact Nat.pow_lt_pow_right (by decide) (by omega)
        · decide
      · decide
theorem alnK_le {x : Sg} {k : Nat} (q : Nat) : alnK x k q ≤ alnK x k (q + 1) := Nat.left_le_or
theorem alnI_or {x : Sg} {know j : Nat} (hj : j ≤ 10) : orN j (alnI x know) < 1024 := orN_lt (m := 10) (fun i hi => by
    unfold alnI
    split
    · decide
    · refine orN_lt (fun z hz => ?_)
      unfold alnT
      split
      · split
        · exact Nat.pow_lt_pow_right (by decide) (by omega)
        · decide
      · decide)
def alM (x : Sg) (k : Nat) : Nat := fstN 1024 (fun z => decide (alnK x k (z + 1) = alnK x k z))
def alongM (x : Sg) (pk ph : Int32) : Int32 := if (inW pk (Sn x) && inI ph (nI 0) (nI 1)) = true then (if ph = 0 then nI (alM x pk.toNatClampNeg) else nI (onesN (alnK x pk.toNatClampNeg (alM x pk.toNatClampNeg)))) else (-1000001)
def mx (Z z : Nat → Nat) : Nat → Nat := fun j => if 55 ≤ j ∧ j < 110 then z j else Z j
def off5 (V Z : Nat → Nat) : Prop := ∀ j, (j < 55 ∨ 110 ≤ j) → V j = Z j
theorem mx_of {V Z : Nat → Nat} (h : off5 V Z) : mx Z V = V := by
  funext j
  unfold mx
  split
  · rfl
  · exact (h j (by omega)).symm
theorem cp5 {V Z : Nat → Nat} (h : off5 V Z) : cpW V 0 55 = cpW Z 0 55 := by
  funext j
  unfold cpW rg
  by_cases q : 55 ≤ j ∧ j < 55 + 55
  · rw [if_pos q, if_pos q]
    exact h _ (by omega)
  · rw [if_neg q, if_neg q]
    exact h _ (by omega)
theorem off_go {V Z : Nat → Nat} (h : Wf (sg V 55)) (hv : off5 V Z) (i : Nat) : off5 (goW V i) Z := fun j hj => (goW_o h hj i).trans (hv j hj)
theorem off_cp {V Z : Nat → Nat} (h : off5 V Z) : off5 (cpW V 0 55) Z := fun j hj => (cpW_o (by omega)).trans (h j hj)
theorem off_up {V Z : Nat → Nat} (h : off5 V Z) {i v : Nat} (hi : 55 ≤ i ∧ i < 110) : off5 (upN V i v) Z := fun j hj => (upN_n (by omega)).trans (h j hj)
theorem off_wf {V Z : Nat → Nat} (h : off5 V Z) (hg : Wf (sg Z 0)) : Wf (sg V 0) := by
  obtain ⟨a, b, d, f, g⟩ := wfW hg
  refine wf_mk (by rw [h _ (by omega)]; exact a) (by rw [h _ (by omega)]; exact b) (by rw [h _ (by omega)]; exact d) (by rw [h _ (by omega)]; exact f) (fun k hk => ?_)
  rw [h _ (by omega), h _ (by omega), h _ (by omega), h _ (by omega), h _ (by omega)]
  exact g k hk
set_option maxRecDepth 100000 in
set_option maxHeartbeats 4000000 in
theorem c_X8_along (l : Launch) (D : va_G) (cA : Nat → ClassId) (tt : Nat → Nat) (om mw mt mm ml mi mh mr ud td fy su cu sa nb tn : Nat) (Z : Nat → Nat) (pk ph : Int32) (hg : Wf (sg Z 0)) (sz : Nat) : Ci l D cA tt yX8_along wsX8_along ({ frames := 2, cells := 0, slots := 0, locals := 46 } : Room) [.ref (om), .int (pk), .int (ph)] sz [(om, .inr (8, [.ref (mw), .int (nI (ud)), .ref (mt), .int (nI (td)), .int (nI (fy)), .int (nI (su)), .ref (mm), .ref (ml), .ref (mi), .ref (mh), .int (nI (cu)), .int (nI (sa)), .int (nI (nb)), .ref (mr), .int (nI (tn))])), (mw, .inl (cA 0, 1595, arN Z))] [(om, .inr (8, [.ref (mw), .int (nI (ud)), .ref (mt), .int (nI (td)), .int (nI (fy)), .int (nI (su)), .ref (mm), .ref (ml), .ref (mi), .ref (mh), .int (nI (cu)), .int (nI (sa)), .int (nI (nb)), .ref (mr), .int (nI (tn))])), (mw, .inl (cA 0, 1595, arN Z))] (alongM (sg Z 0) pk ph) := by
  obtain ⟨gn, ge, gv, go, ga⟩ := wfZ hg
  refine Ci.mk (cc := cX8_along) (maxL := 9) (ty := .int) (by decide) rfl rfl (Nat.le_of_ble_eq_true rfl) ?_
  intro p e s m below meth c A Q ls hB hl hend
  obtain ⟨⟨hx, hb, hml, hown, hts⟩, hP, hK, hD, hS, hA, hE⟩ := hB
  have hown : s.vm.findClass RX8 = some m.cls := hown
  have hwsX80 : ∀ w9 ∈ wsX80, w9.before ([.ref (om), .int (pk), .int (ph)] : List Value).toArray s = true := fun w9 h => hts w9 (List.mem_cons_of_mem _ (List.mem_append_right _ h))
  have hl : lv_has ls 9 [(0, .ref (om)), (1, .int (pk)), (2, .int (ph))] := hl
  refine lv_aload_n hx hb dX8_along_0 rfl (lv_at hl 0 rfl) ?_
  refine lv_iload_n hx hb dX8_along_1 rfl (lv_at hl 1 rfl) ?_
  refine cVi (n := 1) (As := [.int (pk)]) (rest := []) (C := RX8) (ci := 8) (q0 := 0) (X := [(om, .inr (8, [.ref (mw), .int (nI (ud)), .ref (mt), .int (nI (td)), .int (nI (fy)), .int (nI (su)), .ref (mm), .ref (ml), .ref (mi), .ref (mh), .int (nI (cu)), .int (nI (sa)), .int (nI (nb)), .ref (mr), .int (nI (tn))])), (mw, .inl (cA 0, 1595, arN Z))]) (pl := []) (wc := [(om, .inr (8, [.ref (mw), .int (nI (ud)), .ref (mt), .int (nI (td)), .int (nI (fy)), .int (nI (su)), .ref (mm), .ref (ml), .ref (mi), .ref (mh), .int (nI (cu)), .int (nI (sa)), .int (nI (nb)), .ref (mr), .int (nI (tn))])), (mw, .inl (cA 0, 1595, arN Z))]) (wr := ([] : va_W)) (w1 := [(om, .inr (8, [.ref (mw), .int (nI (ud)), .ref (mt), .int (nI (td)), .int (nI (fy)), .int (nI (su)), .ref (mm), .ref (ml), .ref (mi), .ref (mh), .int (nI (cu)), .int (nI (sa)), .int (nI (nb)), .ref (mr), .int (nI (tn))])), (mw, .inl (cA 0, 1595, arN Z))]) (wn := [(om, .inr (8, [.ref (mw), .int (nI (ud)), .ref (mt), .int (nI (td)), .int (nI (fy)), .int (nI (su)), .ref (mm), .ref (ml), .ref (mi), .ref (mh), .int (nI (cu)), .int (nI (sa)), .int (nI (nb)), .ref (mr), .int (nI (tn))])), (mw, .inl (cA 0, 1595, arN Z))]) (isC := [0, 1]) (isR := []) (isN := [0, 1]) ⟨hx, hb, hml, hown, hts⟩ (c_X8_isWindow l D cA tt om mw mt mm ml mi mh mr ud td fy su cu sa nb tn Z pk (hg) _) gX8_along_X8_isWindow rfl (by decide +kernel) rfl rfl ⟨rfl, rfl⟩ ⟨Nat.le_of_ble_eq_true rfl, Nat.le_of_ble_eq_true rfl⟩ ⟨Nat.zero_le _, Nat.zero_le _⟩ hK hE hA hP hD hS ⟨⟨rfl, by decide⟩, ⟨rfl, by decide, by decide⟩, rfl, by decide⟩ rfl hl.1 rfl (Nat.le_of_ble_eq_true rfl) dX8_along_2 (fun H locs hP hD hS => ?_)
  have hP : va_P D vwCl [(om, .inr (8, [.ref (mw), .int (nI (ud)), .ref (mt), .int (nI (td)), .int (nI (fy)), .int (nI (su)), .ref (mm), .ref (ml), .ref (mi), .ref (mh), .int (nI (cu)), .int (nI (sa)), .int (nI (nb)), .ref (mr), .int (nI (tn))])), (mw, .inl (cA 0, 1595, arN Z))] _ := hP
  have hD : va_D A [(om, .inr (8, [.ref (mw), .int (nI (ud)), .ref (mt), .int (nI (td)), .int (nI (fy)), .int (nI (su)), .ref (mm), .ref (ml), .ref (mi), .ref (mh), .int (nI (cu)), .int (nI (sa)), .int (nI (nb)), .ref (mr), .int (nI (tn))])), (mw, .inl (cA 0, 1595, arN Z))] := hD
  refine lv_if_eq (tgt := 18) hx hb dX8_along_5 (by decide) (fun c1 => ?_) (fun c1 => ?_)
  · skip
    rw [bI_z] at c1
    refine lv_ldc (v := (-1000001)) hx hb hown (hts (.constant RX8 48 (-1000001)) (List.mem_of_getElem? (i := 1) rfl)) dX8_along_18 ?_
    exact hend _ _ _ _ _ hP hD hS (by unfold alongM; rw [if_neg (by simp [c1])]) dX8_along_20
  · skip
    rw [bI_nz] at c1
    obtain ⟨k, e_k, l_k⟩ := inW_t (by omega) c1
    rw [e_k] at hl
    refine lv_iload_n hx hb dX8_along_8 rfl (lv_at hl 2 rfl) ?_
    refine lv_i2l (v := (ph).toInt64) hx hb dX8_along_9 (rfl) ?_
    refine lv_lconst (v := lN 0) hx hb dX8_along_10 rfl ?_
    refine lv_lconst (v := lN 1) hx hb dX8_along_11 rfl ?_
    refine cSi (n := 3) (As := [.long ((ph).toInt64), .long (lN (0)), .long (lN (1))]) (rest := []) (X := [(om, .inr (8, [.ref (mw), .int (nI (ud)), .ref (mt), .int (nI (td)), .int (nI (fy)), .int (nI (su)), .ref (mm), .ref (ml), .ref (mi), .ref (mh), .int (nI (cu)), .int (nI (sa)), .int (nI (nb)), .ref (mr), .int (nI (tn))])), (mw, .inl (cA 0, 1595, arN Z))]) (pl := []) (wc := ([] : va_W)) (wr := [(om, .inr (8, [.ref (mw), .int (nI (ud)), .ref (mt), .int (nI (td)), .int (nI (fy)), .int (nI (su)), .ref (mm), .ref (ml), .ref (mi), .ref (mh), .int (nI (cu)), .int (nI (sa)), .int (nI (nb)), .ref (mr), .int (nI (tn))])), (mw, .inl (cA 0, 1595, arN Z))]) (w1 := ([] : va_W)) (wn := [(om, .inr (8, [.ref (mw), .int (nI (ud)), .ref (mt), .int (nI (td)), .int (nI (fy)), .int (nI (su)), .ref (mm), .ref (ml), .ref (mi), .ref (mh), .int (nI (cu)), .int (nI (sa)), .int (nI (nb)), .ref (mr), .int (nI (tn))])), (mw, .inl (cA 0, 1595, arN Z))]) (isC := []) (isR := [0, 1]) (isN := [0, 1]) ⟨hx, hb, hml, hown, hts⟩ (c_X8_in_I l D cA tt ph 0 1 (by omega) (by omega) _) gX8_along_X8_in rfl (by decide +kernel) ⟨rfl, rfl⟩ ⟨Nat.le_of_ble_eq_true rfl, Nat.le_of_ble_eq_true rfl⟩ ⟨Nat.zero_le _, Nat.zero_le _⟩ hK hE hA hP hD hS ⟨⟨rfl, by decide⟩, ⟨rfl, by decide, by decide⟩, rfl, by decide⟩ rfl hl.1 rfl (Nat.le_of_ble_eq_true rfl) dX8_along_12 (fun H locs hP hD hS => ?_)
    have hP : va_P D vwCl [(om, .inr (8, [.ref (mw), .int (nI (ud)), .ref (mt), .int (nI (td)), .int (nI (fy)), .int (nI (su)), .ref (mm), .ref (ml), .ref (mi), .ref (mh), .int (nI (cu)), .int (nI (sa)), .int (nI (nb)), .ref (mr), .int (nI (tn))])), (mw, .inl (cA 0, 1595, arN Z))] _ := hP
    have hD : va_D A [(om, .inr (8, [.ref (mw), .int (nI (ud)), .ref (mt), .int (nI (td)), .int (nI (fy)), .int (nI (su)), .ref (mm), .ref (ml), .ref (mi), .ref (mh), .int (nI (cu)), .int (nI (sa)), .int (nI (nb)), .ref (mr), .int (nI (tn))])), (mw, .inl (cA 0, 1595, arN Z))] := hD
    refine lv_if_ne (tgt := 21) hx hb dX8_along_15 (by decide) (fun c2 => ?_) (fun c2 => ?_)
    · skip
      rw [bI_nz] at c2
      obtain ⟨h, e_h, a_h, l_h⟩ := inI_t (by decide) c2 (by decide)
      rw [e_h] at hl
      refine lv_iconst (v := nI (1)) hx hb dX8_along_21 (by decide) ?_
      refine lv_iload_n hx hb dX8_along_22 rfl (lv_at hl 1 rfl) ?_
      refine lv_ishl hx hb dX8_along_23 ?_
      refine vn_i (v := nI (2 ^ k)) (n_shl1 (by omega)) ?_
      refine lv_istore_n (lv' := [(3, .int (nI (2 ^ k))), (0, .ref (om)), (1, .int (nI (k))), (2, .int (nI (h)))]) hx hb dX8_along_24 rfl hl (by decide) rfl (fun ls hl => ?_)
      refine lv_iconst (v := nI (0)) hx hb dX8_along_25 (by decide) ?_
      refine lv_istore (lv' := [(4, .int (nI (0))), (3, .int (nI (2 ^ k))), (0, .ref (om)), (1, .int (nI (k))), (2, .int (nI (h)))]) hx hb dX8_along_26 hl (by decide) rfl (fun ls hl => ?_)
      refine lv_iconst (v := nI (1)) hx hb dX8_along_28 (by decide) ?_
      refine lv_istore (lv' := [(5, .int (nI (1))), (4, .int (nI (0))), (3, .int (nI (2 ^ k))), (0, .ref (om)), (1, .int (nI (k))), (2, .int (nI (h)))]) hx hb dX8_along_29 hl (by decide) rfl (fun ls hl => ?_)
      have loop31 : ∀ (N31 : Nat) (q : Nat) (u : Nat), (u ≤ 1) → (u = 0 → alnK (sg Z 0) k (q + 1) = alnK (sg Z 0) k q) → (∀ z, z < q → ¬ alnK (sg Z 0) k (z + 1) = alnK (sg Z 0) k z) → (q ≤ alnK (sg Z 0) k q) → (2 * (1024 - alnK (sg Z 0) k q) + u) < N31 → ∀ (H : Heap) (locs : List Loc) (ls : Array Slot), va_P D vwCl [(om, .inr (8, [.ref (mw), .int (nI (ud)), .ref (mt), .int (nI (td)), .int (nI (fy)), .int (nI (su)), .ref (mm), .ref (ml), .ref (mi), .ref (mh), .int (nI (cu)), .int (nI (sa)), .int (nI (nb)), .ref (mr), .int (nI (tn))])), (mw, .inl (cA 0, 1595, arN Z))] H → va_D A [(om, .inr (8, [.ref (mw), .int (nI (ud)), .ref (mt), .int (nI (td)), .int (nI (fy)), .int (nI (su)), .ref (mm), .ref (ml), .ref (mi), .ref (mh), .int (nI (cu)), .int (nI (sa)), .int (nI (nb)), .ref (mr), .int (nI (tn))])), (mw, .inl (cA 0, 1595, arN Z))] → va_S A s.heap H locs → lv_has ls 9 [(5, .int (nI (u))), (4, .int (nI (q))), (3, .int (nI (alnK (sg Z 0) k q))), (0, .ref (om)), (1, .int (nI (k))), (2, .int (nI (h)))] → W p l e ({ frames := 2, cells := 0, slots := 0, locals := 46 } : Room) s m ([.ref (om), .int (pk), .int (ph)] : List Value).toArray below meth c H locs 0 0 Q (F0 m 31 ls []) := by
        intro N31
        induction N31 with
        | zero => intro q u iv31_0 iv31_1 iv31_2 iv31_3 hN; exact absurd hN (Nat.not_lt_zero _)
        | succ N31 ih31 =>
          intro q u iv31_0 iv31_1 iv31_2 iv31_3 hN31 H locs ls hP hD hS hl
          have hk1 : alnK (sg Z 0) k q < 1024 := alnK_lt gn (by omega) q
          have hk2 : alnK (sg Z 0) k (q + 1) < 1024 := alnK_lt gn (by omega) (q + 1)
          have hk3 : alnK (sg Z 0) k q ≤ alnK (sg Z 0) k (q + 1) := alnK_le q
          refine lv_iload hx hb dX8_along_31 (lv_at hl 0 rfl) ?_
          refine lv_if_eq (tgt := 165) hx hb dX8_along_33 (by decide) (fun c4 => ?_) (fun c4 => ?_)
          · skip
            rw [n_z (by omega)] at c4
            refine lv_iload_n hx hb dX8_along_165 rfl (lv_at hl 5 rfl) ?_
            refine lv_if_ne (tgt := 174) hx hb dX8_along_166 (by decide) (fun c5 => ?_) (fun c5 => ?_)
            · skip
              rw [n_z (by omega)] at c5
              refine lv_iload_n hx hb dX8_along_174 rfl (lv_at hl 2 rfl) ?_
              refine cSi (n := 1) (As := [.int (nI (alnK (sg Z 0) k q))]) (rest := []) (X := [(om, .inr (8, [.ref (mw), .int (nI (ud)), .ref (mt), .int (nI (td)), .int (nI (fy)), .int (nI (su)), .ref (mm), .ref (ml), .ref (mi), .ref (mh), .int (nI (cu)), .int (nI (sa)), .int (nI (nb)), .ref (mr), .int (nI (tn))])), (mw, .inl (cA 0, 1595, arN Z))]) (pl := []) (wc := ([] : va_W)) (wr := [(om, .inr (8, [.ref (mw), .int (nI (ud)), .ref (mt), .int (nI (td)), .int (nI (fy)), .int (nI (su)), .ref (mm), .ref (ml), .ref (mi), .ref (mh), .int (nI (cu)), .int (nI (sa)), .int (nI (nb)), .ref (mr), .int (nI (tn))])), (mw, .inl (cA 0, 1595, arN Z))]) (w1 := ([] : va_W)) (wn := [(om, .inr (8, [.ref (mw), .int (nI (ud)), .ref (mt), .int (nI (td)), .int (nI (fy)), .int (nI (su)), .ref (mm), .ref (ml), .ref (mi), .ref (mh), .int (nI (cu)), .int (nI (sa)), .int (nI (nb)), .ref (mr), .int (nI (tn))])), (mw, .inl (cA 0, 1595, arN Z))]) (isC := []) (isR := [0, 1]) (isN := [0, 1]) ⟨hx, hb, hml, hown, hts⟩ (c_X8_ones l D cA tt (alnK (sg Z 0) k q) (by omega) _) gX8_along_X8_ones rfl (by decide +kernel) ⟨rfl, rfl⟩ ⟨Nat.le_of_ble_eq_true rfl, Nat.le_of_ble_eq_true rfl⟩ ⟨Nat.zero_le _, Nat.zero_le _⟩ hK hE hA hP hD hS ⟨⟨rfl, by decide⟩, ⟨rfl, by decide, by decide⟩, rfl, by decide⟩ rfl hl.1 rfl (Nat.le_of_ble_eq_true rfl) dX8_along_175 (fun H locs hP hD hS => ?_)
              have hP : va_P D vwCl [(om, .inr (8, [.ref (mw), .int (nI (ud)), .ref (mt), .int (nI (td)), .int (nI (fy)), .int (nI (su)), .ref (mm), .ref (ml), .ref (mi), .ref (mh), .int (nI (cu)), .int (nI (sa)), .int (nI (nb)), .ref (mr), .int (nI (tn))])), (mw, .inl (cA 0, 1595, arN Z))] _ := hP
              have hD : va_D A [(om, .inr (8, [.ref (mw), .int (nI (ud)), .ref (mt), .int (nI (td)), .int (nI (fy)), .int (nI (su)), .ref (mm), .ref (ml), .ref (mi), .ref (mh), .int (nI (cu)), .int (nI (sa)), .int (nI (nb)), .ref (mr), .int (nI (tn))])), (mw, .inl (cA 0, 1595, arN Z))] := hD
              exact hend _ _ _ _ _ hP hD hS (by unfold alongM; rw [if_pos (by simp [c1, c2]), e_k, e_h, nI_clamp (n := k) (by omega), if_neg (fun q => c5 ((n_z (a := h) (by omega)).mp q)), show alM (sg Z 0) k = q from fstN_of (by omega) (fun z hz => decide_eq_false (iv31_2 z hz)) (Or.inr (decide_eq_true (iv31_1 (by omega))))]) dX8_along_178
            · skip
              rw [n_z (by omega)] at c5
              refine lv_iload hx hb dX8_along_169 (lv_at hl 1 rfl) ?_
              refine lv_goto (tgt := 178) hx hb dX8_along_171 (by decide) ?_
              exact hend _ _ _ _ _ hP hD hS (by unfold alongM; rw [if_pos (by simp [c1, c2]), e_k, e_h, nI_clamp (n := k) (by omega), if_pos ((n_z (a := h) (by omega)).mpr c5), show alM (sg Z 0) k = q from fstN_of (by omega) (fun z hz => decide_eq_false (iv31_2 z hz)) (Or.inr (decide_eq_true (iv31_1 (by omega))))]) dX8_along_178
          · skip
            rw [n_z (by omega)] at c4
            refine lv_iload_n hx hb dX8_along_36 rfl (lv_at hl 2 rfl) ?_
            refine lv_istore (lv' := [(6, .int (nI (alnK (sg Z 0) k q))), (5, .int (nI (u))), (4, .int (nI (q))), (3, .int (nI (alnK (sg Z 0) k q))), (0, .ref (om)), (1, .int (nI (k))), (2, .int (nI (h)))]) hx hb dX8_along_37 hl (by decide) rfl (fun ls hl => ?_)
            refine lv_iconst (v := nI (0)) hx hb dX8_along_39 (by decide) ?_
            refine lv_istore (lv' := [(7, .int (nI (0))), (6, .int (nI (alnK (sg Z 0) k q))), (5, .int (nI (u))), (4, .int (nI (q))), (3, .int (nI (alnK (sg Z 0) k q))), (0, .ref (om)), (1, .int (nI (k))), (2, .int (nI (h)))]) hx hb dX8_along_40 hl (by decide) rfl (fun ls hl => ?_)
            have loop42 : ∀ (N42 : Nat) (j : Nat), (j ≤ Z 0) → (Z 0 - j) < N42 → ∀ (H : Heap) (locs : List Loc) (ls : Array Slot), va_P D vwCl [(om, .inr (8, [.ref (mw), .int (nI (ud)), .ref (mt), .int (nI (td)), .int (nI (fy)), .int (nI (su)), .ref (mm), .ref (ml), .ref (mi), .ref (mh), .int (nI (cu)), .int (nI (sa)), .int (nI (nb)), .ref (mr), .int (nI (tn))])), (mw, .inl (cA 0, 1595, arN Z))] H → va_D A [(om, .inr (8, [.ref (mw), .int (nI (ud)), .ref (mt), .int (nI (td)), .int (nI (fy)), .int (nI (su)), .ref (mm), .ref (ml), .ref (mi), .ref (mh), .int (nI (cu)), .int (nI (sa)), .int (nI (nb)), .ref (mr), .int (nI (tn))])), (mw, .inl (cA 0, 1595, arN Z))] → va_S A s.heap H locs → lv_has ls 9 [(7, .int (nI (j))), (6, .int (nI ((alnK (sg Z 0) k q ||| orN j (alnI (sg Z 0) (alnK (sg Z 0) k q)))))), (5, .int (nI (u))), (4, .int (nI (q))), (3, .int (nI (alnK (sg Z 0) k q))), (0, .ref (om)), (1, .int (nI (k))), (2, .int (nI (h)))] → W p l e ({ frames := 2, cells := 0, slots := 0, locals := 46 } : Room) s m ([.ref (om), .int (pk), .int (ph)] : List Value).toArray below meth c H locs 0 0 Q (F0 m 42 ls []) := by
              intro N42
              induction N42 with
              | zero => intro j iv42_0 hN; exact absurd hN (Nat.not_lt_zero _)
              | succ N42 ih42 =>
                intro j iv42_0 hN42 H locs ls hP hD hS hl
                have h42 : (alnK (sg Z 0) k q ||| orN j (alnI (sg Z 0) (alnK (sg Z 0) k q))) < 1024 := or10 hk1 (alnI_or (by omega))
                refine lv_iload hx hb dX8_along_42 (lv_at hl 0 rfl) ?_
                refine lv_aload_n hx hb dX8_along_44 rfl (lv_at hl 5 rfl) ?_
                refine va_get (v := .ref (mw)) (Ts := wsX80) (C := RX8) (T := TX8) (N := 15) hx hb hwsX80 (fun _ h => h) hown hK hP 0 rfl rfl 0 (by decide) (hts (.fieldLink RX8 7 "AdventStreetsModel" "w" "[I") (List.mem_of_getElem? (i := 2) rfl)) (fun _ h9 => h9) rfl dX8_along_45 ?_
                refine lv_iconst (v := nI (0)) hx hb dX8_along_48 (by decide) ?_
                refine r_ald (f := Z) hx hb hK hP 1 rfl (i := 0) (by omega) (Nat.lt_of_lt_of_le (by omega : 1595 < 1073741824) (by decide)) dX8_along_49 ?_
                refine lv_icmp_ge (tgt := 131) hx hb dX8_along_50 (by decide) (fun c7 => ?_) (fun c7 => ?_)
                · skip
                  rw [nI_leI (by omega) (by omega)] at c7
                  refine lv_iload hx hb dX8_along_131 (lv_at hl 1 rfl) ?_
                  refine lv_iload_n hx hb dX8_along_133 rfl (lv_at hl 4 rfl) ?_
                  refine lv_icmp_eq (tgt := 141) hx hb dX8_along_134 (by decide) (fun c8 => ?_) (fun c8 => ?_)
                  · skip
                    rw [nI_eq (by omega) (by omega)] at c8
                    have ej9 : Z 0 = j := by omega
                    have hch : alnK (sg Z 0) k (q + 1) = alnK (sg Z 0) k q := (congrArg (fun z => alnK (sg Z 0) k q ||| orN z (alnI (sg Z 0) (alnK (sg Z 0) k q))) ej9).trans c8
                    refine lv_iconst (v := nI (0)) hx hb dX8_along_141 (by decide) ?_
                    refine lv_istore (lv' := [(5, .int (nI (0))), (7, .int (nI (j))), (6, .int (nI ((alnK (sg Z 0) k q ||| orN j (alnI (sg Z 0) (alnK (sg Z 0) k q)))))), (4, .int (nI (q))), (3, .int (nI (alnK (sg Z 0) k q))), (0, .ref (om)), (1, .int (nI (k))), (2, .int (nI (h)))]) hx hb dX8_along_142 hl (by decide) rfl (fun ls hl => ?_)
                    refine lv_iload hx hb dX8_along_144 (lv_at hl 3 rfl) ?_
                    refine lv_iload hx hb dX8_along_146 (lv_at hl 0 rfl) ?_
                    refine lv_if_eq (tgt := 155) hx hb dX8_along_148 (by decide) (fun c9 => ?_) (fun c9 => ?_)
                    · skip
                      rw [n_z (by omega)] at c9
                      refine lv_iconst (v := nI (0)) hx hb dX8_along_155 (by decide) ?_
                      refine lv_iadd hx hb dX8_along_156 ?_
                      refine vn_i (v := nI (q)) (nI_add _ _) ?_
                      refine lv_istore (lv' := [(4, .int (nI (q))), (5, .int (nI (0))), (7, .int (nI (j))), (6, .int (nI ((alnK (sg Z 0) k q ||| orN j (alnI (sg Z 0) (alnK (sg Z 0) k q)))))), (3, .int (nI (alnK (sg Z 0) k q))), (0, .ref (om)), (1, .int (nI (k))), (2, .int (nI (h)))]) hx hb dX8_along_157 hl (by decide) rfl (fun ls hl => ?_)
                      refine lv_iload hx hb dX8_along_159 (lv_at hl 3 rfl) ?_
                      refine lv_istore_n (lv' := [(3, .int (nI ((alnK (sg Z 0) k q ||| orN j (alnI (sg Z 0) (alnK (sg Z 0) k q)))))), (4, .int (nI (q))), (5, .int (nI (0))), (7, .int (nI (j))), (6, .int (nI ((alnK (sg Z 0) k q ||| orN j (alnI (sg Z 0) (alnK (sg Z 0) k q)))))), (0, .ref (om)), (1, .int (nI (k))), (2, .int (nI (h)))]) hx hb dX8_along_161 rfl hl (by decide) rfl (fun ls hl => ?_)
                      refine lv_goto (tgt := 31) hx hb dX8_along_162 (by decide) ?_
                      have hl9 := lv_sub (l' := [(5, .int (nI (0))), (4, .int (nI (q))), (3, .int (nI ((alnK (sg Z 0) k q ||| orN j (alnI (sg Z 0) (alnK (sg Z 0) k q)))))), (0, .ref (om)), (1, .int (nI (k))), (2, .int (nI (h)))]) hl [2, 1, 0, 5, 6, 7] rfl
                      have el10 : (.int (nI ((alnK (sg Z 0) k q ||| orN j (alnI (sg Z 0) (alnK (sg Z 0) k q))))) : Value) = .int (nI (alnK (sg Z 0) k q)) := by
                        rw [c8]
                      have hl9 : lv_has ls 9 [(5, .int (nI (0))), (4, .int (nI (q))), (3, .int (nI (alnK (sg Z 0) k q))), (0, .ref (om)), (1, .int (nI (k))), (2, .int (nI (h)))] := Eq.mp (congrArg (fun z9 => lv_has ls 9 [(5, .int (nI (0))), (4, .int (nI (q))), (3, z9), (0, .ref (om)), (1, .int (nI (k))), (2, .int (nI (h)))]) el10) hl9
                      exact ih31 q 0 (by decide) (fun _ => hch) (iv31_2) (by omega) (by omega) _ _ _ hP hD hS hl9
                    · skip
                      rw [n_z (by omega)] at c9
                      exact absurd c9 (by decide)
                  · skip
                    rw [nI_eq (by omega) (by omega)] at c8
                    have ej9 : Z 0 = j := by omega
                    have hch : ¬ alnK (sg Z 0) k (q + 1) = alnK (sg Z 0) k q := fun h9 => c8 ((congrArg (fun z => alnK (sg Z 0) k q ||| orN z (alnI (sg Z 0) (alnK (sg Z 0) k q))) ej9).symm.trans h9)
                    refine lv_iconst (v := nI (1)) hx hb dX8_along_137 (by decide) ?_
                    refine lv_goto (tgt := 142) hx hb dX8_along_138 (by decide) ?_
                    refine lv_istore (lv' := [(5, .int (nI (1))), (7, .int (nI (j))), (6, .int (nI ((alnK (sg Z 0) k q ||| orN j (alnI (sg Z 0) (alnK (sg Z 0) k q)))))), (4, .int (nI (q))), (3, .int (nI (alnK (sg Z 0) k q))), (0, .ref (om)), (1, .int (nI (k))), (2, .int (nI (h)))]) hx hb dX8_along_142 hl (by decide) rfl (fun ls hl => ?_)
                    refine lv_iload hx hb dX8_along_144 (lv_at hl 3 rfl) ?_
                    refine lv_iload hx hb dX8_along_146 (lv_at hl 0 rfl) ?_
                    refine lv_if_eq (tgt := 155) hx hb dX8_along_148 (by decide) (fun c11 => ?_) (fun c11 => ?_)
                    · skip
                      rw [n_z (by omega)] at c11
                      exact absurd c11 (by decide)
                    · skip
                      rw [n_z (by omega)] at c11
                      refine lv_iconst (v := nI (1)) hx hb dX8_along_151 (by decide) ?_
                      refine lv_goto (tgt := 156) hx hb dX8_along_152 (by decide) ?_
                      refine lv_iadd hx hb dX8_along_156 ?_
                      refine vn_i (v := nI (q + 1)) (nI_add _ _) ?_
                      refine lv_istore (lv' := [(4, .int (nI (q + 1))), (5, .int (nI (1))), (7, .int (nI (j))), (6, .int (nI ((alnK (sg Z 0) k q ||| orN j (alnI (sg Z 0) (alnK (sg Z 0) k q)))))), (3, .int (nI (alnK (sg Z 0) k q))), (0, .ref (om)), (1, .int (nI (k))), (2, .int (nI (h)))]) hx hb dX8_along_157 hl (by decide) rfl (fun ls hl => ?_)
                      refine lv_iload hx hb dX8_along_159 (lv_at hl 3 rfl) ?_
                      refine lv_istore_n (lv' := [(3, .int (nI ((alnK (sg Z 0) k q ||| orN j (alnI (sg Z 0) (alnK (sg Z 0) k q)))))), (4, .int (nI (q + 1))), (5, .int (nI (1))), (7, .int (nI (j))), (6, .int (nI ((alnK (sg Z 0) k q ||| orN j (alnI (sg Z 0) (alnK (sg Z 0) k q)))))), (0, .ref (om)), (1, .int (nI (k))), (2, .int (nI (h)))]) hx hb dX8_along_161 rfl hl (by decide) rfl (fun ls hl => ?_)
                      refine lv_goto (tgt := 31) hx hb dX8_along_162 (by decide) ?_
                      have hl9 := lv_sub (l' := [(5, .int (nI (1))), (4, .int (nI (q + 1))), (3, .int (nI ((alnK (sg Z 0) k q ||| orN j (alnI (sg Z 0) (alnK (sg Z 0) k q)))))), (0, .ref (om)), (1, .int (nI (k))), (2, .int (nI (h)))]) hl [2, 1, 0, 5, 6, 7] rfl
                      have el12 : (.int (nI ((alnK (sg Z 0) k q ||| orN j (alnI (sg Z 0) (alnK (sg Z 0) k q))))) : Value) = .int (nI (alnK (sg Z 0) k (q + 1))) := by
                        rw [← ej9]
                        rfl
                      have hl9 : lv_has ls 9 [(5, .int (nI (1))), (4, .int (nI (q + 1))), (3, .int (nI (alnK (sg Z 0) k (q + 1)))), (0, .ref (om)), (1, .int (nI (k))), (2, .int (nI (h)))] := Eq.mp (congrArg (fun z9 => lv_has ls 9 [(5, .int (nI (1))), (4, .int (nI (q + 1))), (3, z9), (0, .ref (om)), (1, .int (nI (k))), (2, .int (nI (h)))]) el12) hl9
                      exact ih31 (q + 1) 1 (by decide) (fun h9 => absurd h9 (by decide)) (lt_s (p := fun z => ¬ alnK (sg Z 0) k (z + 1) = alnK (sg Z 0) k z) iv31_2 hch) (by omega) (by omega) _ _ _ hP hD hS hl9
                · skip
                  rw [nI_leI (by omega) (by omega)] at c7
                  have hjn : j < 10 := by omega
                  refine lv_iconst (v := nI (0)) hx hb dX8_along_53 (by decide) ?_
                  refine lv_istore (lv' := [(8, .int (nI (0))), (7, .int (nI (j))), (6, .int (nI ((alnK (sg Z 0) k q ||| orN j (alnI (sg Z 0) (alnK (sg Z 0) k q)))))), (5, .int (nI (u))), (4, .int (nI (q))), (3, .int (nI (alnK (sg Z 0) k q))), (0, .ref (om)), (1, .int (nI (k))), (2, .int (nI (h)))]) hx hb dX8_along_54 hl (by decide) rfl (fun ls hl => ?_)
                  have loop56 : ∀ (N56 : Nat) (i : Nat), (i ≤ Z 0) → (i = 0 ∨ (Z 4).testBit j = false) → (Z 0 - i) < N56 → ∀ (H : Heap) (locs : List Loc) (ls : Array Slot), va_P D vwCl [(om, .inr (8, [.ref (mw), .int (nI (ud)), .ref (mt), .int (nI (td)), .int (nI (fy)), .int (nI (su)), .ref (mm), .ref (ml), .ref (mi), .ref (mh), .int (nI (cu)), .int (nI (sa)), .int (nI (nb)), .ref (mr), .int (nI (tn))])), (mw, .inl (cA 0, 1595, arN Z))] H → va_D A [(om, .inr (8, [.ref (mw), .int (nI (ud)), .ref (mt), .int (nI (td)), .int (nI (fy)), .int (nI (su)), .ref (mm), .ref (ml), .ref (mi), .ref (mh), .int (nI (cu)), .int (nI (sa)), .int (nI (nb)), .ref (mr), .int (nI (tn))])), (mw, .inl (cA 0, 1595, arN Z))] → va_S A s.heap H locs → lv_has ls 9 [(8, .int (nI (i))), (7, .int (nI (j))), (6, .int (nI ((alnK (sg Z 0) k q ||| orN j (alnI (sg Z 0) (alnK (sg Z 0) k q))) ||| orN i (alnT (sg Z 0) (alnK (sg Z 0) k q) j)))), (5, .int (nI (u))), (4, .int (nI (q))), (3, .int (nI (alnK (sg Z 0) k q))), (0, .ref (om)), (1, .int (nI (k))), (2, .int (nI (h)))] → W p l e ({ frames := 2, cells := 0, slots := 0, locals := 46 } : Room) s m ([.ref (om), .int (pk), .int (ph)] : List Value).toArray below meth c H locs 0 0 Q (F0 m 56 ls []) := by
                    intro N56
                    induction N56 with
                    | zero => intro i iv56_0 iv56_1 hN; exact absurd hN (Nat.not_lt_zero _)
                    | succ N56 ih56 =>
                      intro i iv56_0 iv56_1 hN56 H locs ls hP hD hS hl
                      refine lv_iload hx hb dX8_along_56 (lv_at hl 0 rfl) ?_
                      refine lv_aload_n hx hb dX8_along_58 rfl (lv_at hl 6 rfl) ?_
                      refine va_get (v := .ref (mw)) (Ts := wsX80) (C := RX8) (T := TX8) (N := 15) hx hb hwsX80 (fun _ h => h) hown hK hP 0 rfl rfl 0 (by decide) (hts (.fieldLink RX8 7 "AdventStreetsModel" "w" "[I") (List.mem_of_getElem? (i := 2) rfl)) (fun _ h9 => h9) rfl dX8_along_59 ?_
                      refine lv_iconst (v := nI (0)) hx hb dX8_along_62 (by decide) ?_
                      refine r_ald (f := Z) hx hb hK hP 1 rfl (i := 0) (by omega) (Nat.lt_of_lt_of_le (by omega : 1595 < 1073741824) (by decide)) dX8_along_63 ?_
                      refine lv_icmp_ge (tgt := 125) hx hb dX8_along_64 (by decide) (fun c14 => ?_) (fun c14 => ?_)
                      · skip
                        rw [nI_leI (by omega) (by omega)] at c14
                        refine lv_iinc (v := nI (j + 1)) (lv' := [(7, .int (nI (j + 1))), (8, .int (nI (i))), (6, .int (nI ((alnK (sg Z 0) k q ||| orN j (alnI (sg Z 0) (alnK (sg Z 0) k q))) ||| orN i (alnT (sg Z 0) (alnK (sg Z 0) k q) j)))), (5, .int (nI (u))), (4, .int (nI (q))), (3, .int (nI (alnK (sg Z 0) k q))), (0, .ref (om)), (1, .int (nI (k))), (2, .int (nI (h)))]) hx hb dX8_along_125 hl (k := 1) rfl (nI_add _ _) (by decide) rfl (fun ls hl => ?_)
                        refine lv_goto (tgt := 42) hx hb dX8_along_128 (by decide) ?_
                        have hl9 := lv_sub (l' := [(7, .int (nI (j + 1))), (6, .int (nI ((alnK (sg Z 0) k q ||| orN j (alnI (sg Z 0) (alnK (sg Z 0) k q))) ||| orN i (alnT (sg Z 0) (alnK (sg Z 0) k q) j)))), (5, .int (nI (u))), (4, .int (nI (q))), (3, .int (nI (alnK (sg Z 0) k q))), (0, .ref (om)), (1, .int (nI (k))), (2, .int (nI (h)))]) hl [0, 2, 3, 4, 5, 6, 7, 8] rfl
                        have el15 : (.int (nI ((alnK (sg Z 0) k q ||| orN j (alnI (sg Z 0) (alnK (sg Z 0) k q))) ||| orN i (alnT (sg Z 0) (alnK (sg Z 0) k q) j))) : Value) = .int (nI ((alnK (sg Z 0) k q ||| orN (j + 1) (alnI (sg Z 0) (alnK (sg Z 0) k q))))) := by
                          rw [aln_s (by unfold alnI; rw [if_neg (by rw [show (So (sg Z 0)).testBit j = false from iv56_1.resolve_left (by omega)]; simp), show i = Z 0 by omega])]
                        have hl9 : lv_has ls 9 [(7, .int (nI (j + 1))), (6, .int (nI ((alnK (sg Z 0) k q ||| orN (j + 1) (alnI (sg Z 0) (alnK (sg Z 0) k q)))))), (5, .int (nI (u))), (4, .int (nI (q))), (3, .int (nI (alnK (sg Z 0) k q))), (0, .ref (om)), (1, .int (nI (k))), (2, .int (nI (h)))] := Eq.mp (congrArg (fun z9 => lv_has ls 9 [(7, .int (nI (j + 1))), (6, z9), (5, .int (nI (u))), (4, .int (nI (q))), (3, .int (nI (alnK (sg Z 0) k q))), (0, .ref (om)), (1, .int (nI (k))), (2, .int (nI (h)))]) el15) hl9
                        exact ih42 (j + 1) (by omega) (by omega) _ _ _ hP hD hS hl9
                      · skip
                        rw [nI_leI (by omega) (by omega)] at c14
                        have ggp := gapN_le i j
                        refine lv_aload_n hx hb dX8_along_67 rfl (lv_at hl 6 rfl) ?_
                        refine va_get (v := .ref (mw)) (Ts := wsX80) (C := RX8) (T := TX8) (N := 15) hx hb hwsX80 (fun _ h => h) hown hK hP 0 rfl rfl 0 (by decide) (hts (.fieldLink RX8 7 "AdventStreetsModel" "w" "[I") (List.mem_of_getElem? (i := 2) rfl)) (fun _ h9 => h9) rfl dX8_along_68 ?_
                        refine lv_iconst (v := nI (4)) hx hb dX8_along_71 (by decide) ?_
                        refine r_ald (f := Z) hx hb hK hP 1 rfl (i := 4) (by omega) (Nat.lt_of_lt_of_le (by omega : 1595 < 1073741824) (by decide)) dX8_along_72 ?_
                        refine lv_iload hx hb dX8_along_73 (lv_at hl 1 rfl) ?_
                        refine cSi (n := 2) (As := [.int (nI (Z 4)), .int (nI (j))]) (rest := []) (X := [(om, .inr (8, [.ref (mw), .int (nI (ud)), .ref (mt), .int (nI (td)), .int (nI (fy)), .int (nI (su)), .ref (mm), .ref (ml), .ref (mi), .ref (mh), .int (nI (cu)), .int (nI (sa)), .int (nI (nb)), .ref (mr), .int (nI (tn))])), (mw, .inl (cA 0, 1595, arN Z))]) (pl := []) (wc := ([] : va_W)) (wr := [(om, .inr (8, [.ref (mw), .int (nI (ud)), .ref (mt), .int (nI (td)), .int (nI (fy)), .int (nI (su)), .ref (mm), .ref (ml), .ref (mi), .ref (mh), .int (nI (cu)), .int (nI (sa)), .int (nI (nb)), .ref (mr), .int (nI (tn))])), (mw, .inl (cA 0, 1595, arN Z))]) (w1 := ([] : va_W)) (wn := [(om, .inr (8, [.ref (mw), .int (nI (ud)), .ref (mt), .int (nI (td)), .int (nI (fy)), .int (nI (su)), .ref (mm), .ref (ml), .ref (mi), .ref (mh), .int (nI (cu)), .int (nI (sa)), .int (nI (nb)), .ref (mr), .int (nI (tn))])), (mw, .inl (cA 0, 1595, arN Z))]) (isC := []) (isR := [0, 1]) (isN := [0, 1]) ⟨hx, hb, hml, hown, hts⟩ (c_X8_has l D cA tt (Z 4) j (by omega) (by omega) _) gX8_along_X8_has rfl (by decide +kernel) ⟨rfl, rfl⟩ ⟨Nat.le_of_ble_eq_true rfl, Nat.le_of_ble_eq_true rfl⟩ ⟨Nat.zero_le _, Nat.zero_le _⟩ hK hE hA hP hD hS ⟨⟨rfl, by decide⟩, ⟨rfl, by decide, by decide⟩, rfl, by decide⟩ rfl hl.1 rfl (Nat.le_of_ble_eq_true rfl) dX8_along_75 (fun H locs hP hD hS => ?_)
                        have hP : va_P D vwCl [(om, .inr (8, [.ref (mw), .int (nI (ud)), .ref (mt), .int (nI (td)), .int (nI (fy)), .int (nI (su)), .ref (mm), .ref (ml), .ref (mi), .ref (mh), .int (nI (cu)), .int (nI (sa)), .int (nI (nb)), .ref (mr), .int (nI (tn))])), (mw, .inl (cA 0, 1595, arN Z))] _ := hP
                        have hD : va_D A [(om, .inr (8, [.ref (mw), .int (nI (ud)), .ref (mt), .int (nI (td)), .int (nI (fy)), .int (nI (su)), .ref (mm), .ref (ml), .ref (mi), .ref (mh), .int (nI (cu)), .int (nI (sa)), .int (nI (nb)), .ref (mr), .int (nI (tn))])), (mw, .inl (cA 0, 1595, arN Z))] := hD
                        refine lv_if_ne (tgt := 125) hx hb dX8_along_78 (by decide) (fun c16 => ?_) (fun c16 => ?_)
                        · skip
                          rw [bI_nz] at c16
                          refine lv_iinc (v := nI (j + 1)) (lv' := [(7, .int (nI (j + 1))), (8, .int (nI (i))), (6, .int (nI ((alnK (sg Z 0) k q ||| orN j (alnI (sg Z 0) (alnK (sg Z 0) k q))) ||| orN i (alnT (sg Z 0) (alnK (sg Z 0) k q) j)))), (5, .int (nI (u))), (4, .int (nI (q))), (3, .int (nI (alnK (sg Z 0) k q))), (0, .ref (om)), (1, .int (nI (k))), (2, .int (nI (h)))]) hx hb dX8_along_125 hl (k := 1) rfl (nI_add _ _) (by decide) rfl (fun ls hl => ?_)
                          refine lv_goto (tgt := 42) hx hb dX8_along_128 (by decide) ?_
                          have hl9 := lv_sub (l' := [(7, .int (nI (j + 1))), (6, .int (nI ((alnK (sg Z 0) k q ||| orN j (alnI (sg Z 0) (alnK (sg Z 0) k q))) ||| orN i (alnT (sg Z 0) (alnK (sg Z 0) k q) j)))), (5, .int (nI (u))), (4, .int (nI (q))), (3, .int (nI (alnK (sg Z 0) k q))), (0, .ref (om)), (1, .int (nI (k))), (2, .int (nI (h)))]) hl [0, 2, 3, 4, 5, 6, 7, 8] rfl
                          have el17 : (.int (nI ((alnK (sg Z 0) k q ||| orN j (alnI (sg Z 0) (alnK (sg Z 0) k q))) ||| orN i (alnT (sg Z 0) (alnK (sg Z 0) k q) j))) : Value) = .int (nI ((alnK (sg Z 0) k q ||| orN (j + 1) (alnI (sg Z 0) (alnK (sg Z 0) k q))))) := by
                            rw [aln_s (by unfold alnI; rw [if_pos (show (So (sg Z 0)).testBit j = true from c16), show i = 0 from iv56_1.resolve_right (by rw [c16]; simp)]; rfl)]
                          have hl9 : lv_has ls 9 [(7, .int (nI (j + 1))), (6, .int (nI ((alnK (sg Z 0) k q ||| orN (j + 1) (alnI (sg Z 0) (alnK (sg Z 0) k q)))))), (5, .int (nI (u))), (4, .int (nI (q))), (3, .int (nI (alnK (sg Z 0) k q))), (0, .ref (om)), (1, .int (nI (k))), (2, .int (nI (h)))] := Eq.mp (congrArg (fun z9 => lv_has ls 9 [(7, .int (nI (j + 1))), (6, z9), (5, .int (nI (u))), (4, .int (nI (q))), (3, .int (nI (alnK (sg Z 0) k q))), (0, .ref (om)), (1, .int (nI (k))), (2, .int (nI (h)))]) el17) hl9
                          exact ih42 (j + 1) (by omega) (by omega) _ _ _ hP hD hS hl9
                        · skip
                          rw [bI_z] at c16
                          refine lv_iload hx hb dX8_along_81 (lv_at hl 2 rfl) ?_
                          refine lv_iload_n hx hb dX8_along_83 rfl (lv_at hl 5 rfl) ?_
                          refine lv_iload hx hb dX8_along_84 (lv_at hl 0 rfl) ?_
                          refine cSi (n := 2) (As := [.int (nI (alnK (sg Z 0) k q)), .int (nI (i))]) (rest := [.int (nI ((alnK (sg Z 0) k q ||| orN j (alnI (sg Z 0) (alnK (sg Z 0) k q))) ||| orN i (alnT (sg Z 0) (alnK (sg Z 0) k q) j)))]) (X := [(om, .inr (8, [.ref (mw), .int (nI (ud)), .ref (mt), .int (nI (td)), .int (nI (fy)), .int (nI (su)), .ref (mm), .ref (ml), .ref (mi), .ref (mh), .int (nI (cu)), .int (nI (sa)), .int (nI (nb)), .ref (mr), .int (nI (tn))])), (mw, .inl (cA 0, 1595, arN Z))]) (pl := []) (wc := ([] : va_W)) (wr := [(om, .inr (8, [.ref (mw), .int (nI (ud)), .ref (mt), .int (nI (td)), .int (nI (fy)), .int (nI (su)), .ref (mm), .ref (ml), .ref (mi), .ref (mh), .int (nI (cu)), .int (nI (sa)), .int (nI (nb)), .ref (mr), .int (nI (tn))])), (mw, .inl (cA 0, 1595, arN Z))]) (w1 := ([] : va_W)) (wn := [(om, .inr (8, [.ref (mw), .int (nI (ud)), .ref (mt), .int (nI (td)), .int (nI (fy)), .int (nI (su)), .ref (mm), .ref (ml), .ref (mi), .ref (mh), .int (nI (cu)), .int (nI (sa)), .int (nI (nb)), .ref (mr), .int (nI (tn))])), (mw, .inl (cA 0, 1595, arN Z))]) (isC := []) (isR := [0, 1]) (isN := [0, 1]) ⟨hx, hb, hml, hown, hts⟩ (c_X8_has l D cA tt (alnK (sg Z 0) k q) i (by omega) (by omega) _) gX8_along_X8_has rfl (by decide +kernel) ⟨rfl, rfl⟩ ⟨Nat.le_of_ble_eq_true rfl, Nat.le_of_ble_eq_true rfl⟩ ⟨Nat.zero_le _, Nat.zero_le _⟩ hK hE hA hP hD hS ⟨⟨rfl, by decide⟩, ⟨rfl, by decide, by decide⟩, rfl, by decide⟩ rfl hl.1 rfl (Nat.le_of_ble_eq_true rfl) dX8_along_86 (fun H locs hP hD hS => ?_)
                          have hP : va_P D vwCl [(om, .inr (8, [.ref (mw), .int (nI (ud)), .ref (mt), .int (nI (td)), .int (nI (fy)), .int (nI (su)), .ref (mm), .ref (ml), .ref (mi), .ref (mh), .int (nI (cu)), .int (nI (sa)), .int (nI (nb)), .ref (mr), .int (nI (tn))])), (mw, .inl (cA 0, 1595, arN Z))] _ := hP
                          have hD : va_D A [(om, .inr (8, [.ref (mw), .int (nI (ud)), .ref (mt), .int (nI (td)), .int (nI (fy)), .int (nI (su)), .ref (mm), .ref (ml), .ref (mi), .ref (mh), .int (nI (cu)), .int (nI (sa)), .int (nI (nb)), .ref (mr), .int (nI (tn))])), (mw, .inl (cA 0, 1595, arN Z))] := hD
                          refine lv_if_eq (tgt := 115) hx hb dX8_along_89 (by decide) (fun c18 => ?_) (fun c18 => ?_)
                          · skip
                            rw [bI_z] at c18
                            refine lv_iconst (v := nI (0)) hx hb dX8_along_115 (by decide) ?_
                            refine lv_ior hx hb dX8_along_116 ?_
                            refine vn_i (v := nI (((alnK (sg Z 0) k q ||| orN j (alnI (sg Z 0) (alnK (sg Z 0) k q))) ||| orN i (alnT (sg Z 0) (alnK (sg Z 0) k q) j)) ||| 0)) (n_or _ _) ?_
                            refine lv_istore (lv' := [(6, .int (nI (((alnK (sg Z 0) k q ||| orN j (alnI (sg Z 0) (alnK (sg Z 0) k q))) ||| orN i (alnT (sg Z 0) (alnK (sg Z 0) k q) j)) ||| 0))), (8, .int (nI (i))), (7, .int (nI (j))), (5, .int (nI (u))), (4, .int (nI (q))), (3, .int (nI (alnK (sg Z 0) k q))), (0, .ref (om)), (1, .int (nI (k))), (2, .int (nI (h)))]) hx hb dX8_along_117 hl (by decide) rfl (fun ls hl => ?_)
                            refine lv_iinc (v := nI (i + 1)) (lv' := [(8, .int (nI (i + 1))), (6, .int (nI (((alnK (sg Z 0) k q ||| orN j (alnI (sg Z 0) (alnK (sg Z 0) k q))) ||| orN i (alnT (sg Z 0) (alnK (sg Z 0) k q) j)) ||| 0))), (7, .int (nI (j))), (5, .int (nI (u))), (4, .int (nI (q))), (3, .int (nI (alnK (sg Z 0) k q))), (0, .ref (om)), (1, .int (nI (k))), (2, .int (nI (h)))]) hx hb dX8_along_119 hl (k := 1) rfl (nI_add _ _) (by decide) rfl (fun ls hl => ?_)
                            refine lv_goto (tgt := 56) hx hb dX8_along_122 (by decide) ?_
                            have hl9 := lv_sub (l' := [(8, .int (nI (i + 1))), (7, .int (nI (j))), (6, .int (nI (((alnK (sg Z 0) k q ||| orN j (alnI (sg Z 0) (alnK (sg Z 0) k q))) ||| orN i (alnT (sg Z 0) (alnK (sg Z 0) k q) j)) ||| 0))), (5, .int (nI (u))), (4, .int (nI (q))), (3, .int (nI (alnK (sg Z 0) k q))), (0, .ref (om)), (1, .int (nI (k))), (2, .int (nI (h)))]) hl [0, 2, 1, 3, 4, 5, 6, 7, 8] rfl
                            have el19 : (.int (nI (((alnK (sg Z 0) k q ||| orN j (alnI (sg Z 0) (alnK (sg Z 0) k q))) ||| orN i (alnT (sg Z 0) (alnK (sg Z 0) k q) j)) ||| 0)) : Value) = .int (nI ((alnK (sg Z 0) k q ||| orN j (alnI (sg Z 0) (alnK (sg Z 0) k q))) ||| orN (i + 1) (alnT (sg Z 0) (alnK (sg Z 0) k q) j))) := by
                              rw [al_s (by unfold alnT; rw [if_neg (by rw [c18]; simp)])]
                            have hl9 : lv_has ls 9 [(8, .int (nI (i + 1))), (7, .int (nI (j))), (6, .int (nI ((alnK (sg Z 0) k q ||| orN j (alnI (sg Z 0) (alnK (sg Z 0) k q))) ||| orN (i + 1) (alnT (sg Z 0) (alnK (sg Z 0) k q) j)))), (5, .int (nI (u))), (4, .int (nI (q))), (3, .int (nI (alnK (sg Z 0) k q))), (0, .ref (om)), (1, .int (nI (k))), (2, .int (nI (h)))] := Eq.mp (congrArg (fun z9 => lv_has ls 9 [(8, .int (nI (i + 1))), (7, .int (nI (j))), (6, z9), (5, .int (nI (u))), (4, .int (nI (q))), (3, .int (nI (alnK (sg Z 0) k q))), (0, .ref (om)), (1, .int (nI (k))), (2, .int (nI (h)))]) el19) hl9
                            exact ih56 (i + 1) (by omega) (Or.inr c16) (by omega) _ _ _ hP hD hS hl9
                          · skip
                            rw [bI_nz] at c18
                            refine lv_iload hx hb dX8_along_92 (lv_at hl 0 rfl) ?_
                            refine lv_iload hx hb dX8_along_94 (lv_at hl 1 rfl) ?_
                            refine cSi (n := 2) (As := [.int (nI (i)), .int (nI (j))]) (rest := [.int (nI ((alnK (sg Z 0) k q ||| orN j (alnI (sg Z 0) (alnK (sg Z 0) k q))) ||| orN i (alnT (sg Z 0) (alnK (sg Z 0) k q) j)))]) (X := [(om, .inr (8, [.ref (mw), .int (nI (ud)), .ref (mt), .int (nI (td)), .int (nI (fy)), .int (nI (su)), .ref (mm), .ref (ml), .ref (mi), .ref (mh), .int (nI (cu)), .int (nI (sa)), .int (nI (nb)), .ref (mr), .int (nI (tn))])), (mw, .inl (cA 0, 1595, arN Z))]) (pl := []) (wc := ([] : va_W)) (wr := [(om, .inr (8, [.ref (mw), .int (nI (ud)), .ref (mt), .int (nI (td)), .int (nI (fy)), .int (nI (su)), .ref (mm), .ref (ml), .ref (mi), .ref (mh), .int (nI (cu)), .int (nI (sa)), .int (nI (nb)), .ref (mr), .int (nI (tn))])), (mw, .inl (cA 0, 1595, arN Z))]) (w1 := ([] : va_W)) (wn := [(om, .inr (8, [.ref (mw), .int (nI (ud)), .ref (mt), .int (nI (td)), .int (nI (fy)), .int (nI (su)), .ref (mm), .ref (ml), .ref (mi), .ref (mh), .int (nI (cu)), .int (nI (sa)), .int (nI (nb)), .ref (mr), .int (nI (tn))])), (mw, .inl (cA 0, 1595, arN Z))]) (isC := []) (isR := [0, 1]) (isN := [0, 1]) ⟨hx, hb, hml, hown, hts⟩ (c_X8_gap l D cA tt i j (by omega) (by omega) _) gX8_along_X8_gap rfl (by decide +kernel) ⟨rfl, rfl⟩ ⟨Nat.le_of_ble_eq_true rfl, Nat.le_of_ble_eq_true rfl⟩ ⟨Nat.zero_le _, Nat.zero_le _⟩ hK hE hA hP hD hS ⟨⟨rfl, by decide⟩, ⟨rfl, by decide, by decide⟩, rfl, by decide⟩ rfl hl.1 rfl (Nat.le_of_ble_eq_true rfl) dX8_along_96 (fun H locs hP hD hS => ?_)
                            have hP : va_P D vwCl [(om, .inr (8, [.ref (mw), .int (nI (ud)), .ref (mt), .int (nI (td)), .int (nI (fy)), .int (nI (su)), .ref (mm), .ref (ml), .ref (mi), .ref (mh), .int (nI (cu)), .int (nI (sa)), .int (nI (nb)), .ref (mr), .int (nI (tn))])), (mw, .inl (cA 0, 1595, arN Z))] _ := hP
                            have hD : va_D A [(om, .inr (8, [.ref (mw), .int (nI (ud)), .ref (mt), .int (nI (td)), .int (nI (fy)), .int (nI (su)), .ref (mm), .ref (ml), .ref (mi), .ref (mh), .int (nI (cu)), .int (nI (sa)), .int (nI (nb)), .ref (mr), .int (nI (tn))])), (mw, .inl (cA 0, 1595, arN Z))] := hD
                            refine lv_aload_n hx hb dX8_along_99 rfl (lv_at hl 6 rfl) ?_
                            refine va_get (v := .ref (mw)) (Ts := wsX80) (C := RX8) (T := TX8) (N := 15) hx hb hwsX80 (fun _ h => h) hown hK hP 0 rfl rfl 0 (by decide) (hts (.fieldLink RX8 7 "AdventStreetsModel" "w" "[I") (List.mem_of_getElem? (i := 2) rfl)) (fun _ h9 => h9) rfl dX8_along_100 ?_
                            refine lv_iconst (v := nI (2)) hx hb dX8_along_103 (by decide) ?_
                            refine r_ald (f := Z) hx hb hK hP 1 rfl (i := 2) (by omega) (Nat.lt_of_lt_of_le (by omega : 1595 < 1073741824) (by decide)) dX8_along_104 ?_
                            refine lv_icmp_gt (tgt := 115) hx hb dX8_along_105 (by decide) (fun c20 => ?_) (fun c20 => ?_)
                            · skip
                              rw [nI_ltI (by omega) (by omega)] at c20
                              refine lv_iconst (v := nI (0)) hx hb dX8_along_115 (by decide) ?_
                              refine lv_ior hx hb dX8_along_116 ?_
                              refine vn_i (v := nI (((alnK (sg Z 0) k q ||| orN j (alnI (sg Z 0) (alnK (sg Z 0) k q))) ||| orN i (alnT (sg Z 0) (alnK (sg Z 0) k q) j)) ||| 0)) (n_or _ _) ?_
                              refine lv_istore (lv' := [(6, .int (nI (((alnK (sg Z 0) k q ||| orN j (alnI (sg Z 0) (alnK (sg Z 0) k q))) ||| orN i (alnT (sg Z 0) (alnK (sg Z 0) k q) j)) ||| 0))), (8, .int (nI (i))), (7, .int (nI (j))), (5, .int (nI (u))), (4, .int (nI (q))), (3, .int (nI (alnK (sg Z 0) k q))), (0, .ref (om)), (1, .int (nI (k))), (2, .int (nI (h)))]) hx hb dX8_along_117 hl (by decide) rfl (fun ls hl => ?_)
                              refine lv_iinc (v := nI (i + 1)) (lv' := [(8, .int (nI (i + 1))), (6, .int (nI (((alnK (sg Z 0) k q ||| orN j (alnI (sg Z 0) (alnK (sg Z 0) k q))) ||| orN i (alnT (sg Z 0) (alnK (sg Z 0) k q) j)) ||| 0))), (7, .int (nI (j))), (5, .int (nI (u))), (4, .int (nI (q))), (3, .int (nI (alnK (sg Z 0) k q))), (0, .ref (om)), (1, .int (nI (k))), (2, .int (nI (h)))]) hx hb dX8_along_119 hl (k := 1) rfl (nI_add _ _) (by decide) rfl (fun ls hl => ?_)
                              refine lv_goto (tgt := 56) hx hb dX8_along_122 (by decide) ?_
                              have hl9 := lv_sub (l' := [(8, .int (nI (i + 1))), (7, .int (nI (j))), (6, .int (nI (((alnK (sg Z 0) k q ||| orN j (alnI (sg Z 0) (alnK (sg Z 0) k q))) ||| orN i (alnT (sg Z 0) (alnK (sg Z 0) k q) j)) ||| 0))), (5, .int (nI (u))), (4, .int (nI (q))), (3, .int (nI (alnK (sg Z 0) k q))), (0, .ref (om)), (1, .int (nI (k))), (2, .int (nI (h)))]) hl [0, 2, 1, 3, 4, 5, 6, 7, 8] rfl
                              have el21 : (.int (nI (((alnK (sg Z 0) k q ||| orN j (alnI (sg Z 0) (alnK (sg Z 0) k q))) ||| orN i (alnT (sg Z 0) (alnK (sg Z 0) k q) j)) ||| 0)) : Value) = .int (nI ((alnK (sg Z 0) k q ||| orN j (alnI (sg Z 0) (alnK (sg Z 0) k q))) ||| orN (i + 1) (alnT (sg Z 0) (alnK (sg Z 0) k q) j))) := by
                                rw [al_s (by unfold alnT; rw [if_pos c18, if_neg (show ¬ gapN i j ≤ Z 2 by omega)])]
                              have hl9 : lv_has ls 9 [(8, .int (nI (i + 1))), (7, .int (nI (j))), (6, .int (nI ((alnK (sg Z 0) k q ||| orN j (alnI (sg Z 0) (alnK (sg Z 0) k q))) ||| orN (i + 1) (alnT (sg Z 0) (alnK (sg Z 0) k q) j)))), (5, .int (nI (u))), (4, .int (nI (q))), (3, .int (nI (alnK (sg Z 0) k q))), (0, .ref (om)), (1, .int (nI (k))), (2, .int (nI (h)))] := Eq.mp (congrArg (fun z9 => lv_has ls 9 [(8, .int (nI (i + 1))), (7, .int (nI (j))), (6, z9), (5, .int (nI (u))), (4, .int (nI (q))), (3, .int (nI (alnK (sg Z 0) k q))), (0, .ref (om)), (1, .int (nI (k))), (2, .int (nI (h)))]) el21) hl9
                              exact ih56 (i + 1) (by omega) (Or.inr c16) (by omega) _ _ _ hP hD hS hl9
                            · skip
                              rw [nI_ltI (by omega) (by omega)] at c20
                              refine lv_iconst (v := nI (1)) hx hb dX8_along_108 (by decide) ?_
                              refine lv_iload hx hb dX8_along_109 (lv_at hl 1 rfl) ?_
                              refine lv_ishl hx hb dX8_along_111 ?_
                              refine vn_i (v := nI (2 ^ j)) (n_shl1 (by omega)) ?_
                              refine lv_goto (tgt := 116) hx hb dX8_along_112 (by decide) ?_
                              refine lv_ior hx hb dX8_along_116 ?_
                              refine vn_i (v := nI (((alnK (sg Z 0) k q ||| orN j (alnI (sg Z 0) (alnK (sg Z 0) k q))) ||| orN i (alnT (sg Z 0) (alnK (sg Z 0) k q) j)) ||| (2 ^ j))) (n_or _ _) ?_
                              refine lv_istore (lv' := [(6, .int (nI (((alnK (sg Z 0) k q ||| orN j (alnI (sg Z 0) (alnK (sg Z 0) k q))) ||| orN i (alnT (sg Z 0) (alnK (sg Z 0) k q) j)) ||| (2 ^ j)))), (8, .int (nI (i))), (7, .int (nI (j))), (5, .int (nI (u))), (4, .int (nI (q))), (3, .int (nI (alnK (sg Z 0) k q))), (0, .ref (om)), (1, .int (nI (k))), (2, .int (nI (h)))]) hx hb dX8_along_117 hl (by decide) rfl (fun ls hl => ?_)
                              refine lv_iinc (v := nI (i + 1)) (lv' := [(8, .int (nI (i + 1))), (6, .int (nI (((alnK (sg Z 0) k q ||| orN j (alnI (sg Z 0) (alnK (sg Z 0) k q))) ||| orN i (alnT (sg Z 0) (alnK (sg Z 0) k q) j)) ||| (2 ^ j)))), (7, .int (nI (j))), (5, .int (nI (u))), (4, .int (nI (q))), (3, .int (nI (alnK (sg Z 0) k q))), (0, .ref (om)), (1, .int (nI (k))), (2, .int (nI (h)))]) hx hb dX8_along_119 hl (k := 1) rfl (nI_add _ _) (by decide) rfl (fun ls hl => ?_)
                              refine lv_goto (tgt := 56) hx hb dX8_along_122 (by decide) ?_
                              have hl9 := lv_sub (l' := [(8, .int (nI (i + 1))), (7, .int (nI (j))), (6, .int (nI (((alnK (sg Z 0) k q ||| orN j (alnI (sg Z 0) (alnK (sg Z 0) k q))) ||| orN i (alnT (sg Z 0) (alnK (sg Z 0) k q) j)) ||| (2 ^ j)))), (5, .int (nI (u))), (4, .int (nI (q))), (3, .int (nI (alnK (sg Z 0) k q))), (0, .ref (om)), (1, .int (nI (k))), (2, .int (nI (h)))]) hl [0, 2, 1, 3, 4, 5, 6, 7, 8] rfl
                              have el22 : (.int (nI (((alnK (sg Z 0) k q ||| orN j (alnI (sg Z 0) (alnK (sg Z 0) k q))) ||| orN i (alnT (sg Z 0) (alnK (sg Z 0) k q) j)) ||| (2 ^ j))) : Value) = .int (nI ((alnK (sg Z 0) k q ||| orN j (alnI (sg Z 0) (alnK (sg Z 0) k q))) ||| orN (i + 1) (alnT (sg Z 0) (alnK (sg Z 0) k q) j))) := by
                                rw [al_s (by unfold alnT; rw [if_pos c18, if_pos (show gapN i j ≤ Z 2 by omega)])]
                              have hl9 : lv_has ls 9 [(8, .int (nI (i + 1))), (7, .int (nI (j))), (6, .int (nI ((alnK (sg Z 0) k q ||| orN j (alnI (sg Z 0) (alnK (sg Z 0) k q))) ||| orN (i + 1) (alnT (sg Z 0) (alnK (sg Z 0) k q) j)))), (5, .int (nI (u))), (4, .int (nI (q))), (3, .int (nI (alnK (sg Z 0) k q))), (0, .ref (om)), (1, .int (nI (k))), (2, .int (nI (h)))] := Eq.mp (congrArg (fun z9 => lv_has ls 9 [(8, .int (nI (i + 1))), (7, .int (nI (j))), (6, z9), (5, .int (nI (u))), (4, .int (nI (q))), (3, .int (nI (alnK (sg Z 0) k q))), (0, .ref (om)), (1, .int (nI (k))), (2, .int (nI (h)))]) el22) hl9
                              exact ih56 (i + 1) (by omega) (Or.inr c16) (by omega) _ _ _ hP hD hS hl9
                  have hl9 := lv_sub (l' := [(8, .int (nI (0))), (7, .int (nI (j))), (6, .int (nI ((alnK (sg Z 0) k q ||| orN j (alnI (sg Z 0) (alnK (sg Z 0) k q)))))), (5, .int (nI (u))), (4, .int (nI (q))), (3, .int (nI (alnK (sg Z 0) k q))), (0, .ref (om)), (1, .int (nI (k))), (2, .int (nI (h)))]) hl [0, 1, 2, 3, 4, 5, 6, 7, 8] rfl
                  have el23 : (.int (nI ((alnK (sg Z 0) k q ||| orN j (alnI (sg Z 0) (alnK (sg Z 0) k q))))) : Value) = .int (nI ((alnK (sg Z 0) k q ||| orN j (alnI (sg Z 0) (alnK (sg Z 0) k q))) ||| orN 0 (alnT (sg Z 0) (alnK (sg Z 0) k q) j))) := by
                    rw [orN, Nat.or_zero]
                  have hl9 : lv_has ls 9 [(8, .int (nI (0))), (7, .int (nI (j))), (6, .int (nI ((alnK (sg Z 0) k q ||| orN j (alnI (sg Z 0) (alnK (sg Z 0) k q))) ||| orN 0 (alnT (sg Z 0) (alnK (sg Z 0) k q) j)))), (5, .int (nI (u))), (4, .int (nI (q))), (3, .int (nI (alnK (sg Z 0) k q))), (0, .ref (om)), (1, .int (nI (k))), (2, .int (nI (h)))] := Eq.mp (congrArg (fun z9 => lv_has ls 9 [(8, .int (nI (0))), (7, .int (nI (j))), (6, z9), (5, .int (nI (u))), (4, .int (nI (q))), (3, .int (nI (alnK (sg Z 0) k q))), (0, .ref (om)), (1, .int (nI (k))), (2, .int (nI (h)))]) el23) hl9
                  exact loop56 _ 0 (Nat.zero_le _) (Or.inl rfl) (Nat.lt_succ_self _) _ _ _ hP hD hS hl9
            have hl9 := lv_sub (l' := [(7, .int (nI (0))), (6, .int (nI (alnK (sg Z 0) k q))), (5, .int (nI (u))), (4, .int (nI (q))), (3, .int (nI (alnK (sg Z 0) k q))), (0, .ref (om)), (1, .int (nI (k))), (2, .int (nI (h)))]) hl [0, 1, 2, 3, 4, 5, 6, 7] rfl
            have el24 : (.int (nI (alnK (sg Z 0) k q)) : Value) = .int (nI ((alnK (sg Z 0) k q ||| orN 0 (alnI (sg Z 0) (alnK (sg Z 0) k q))))) := by
              rw [orN, Nat.or_zero]
            have hl9 : lv_has ls 9 [(7, .int (nI (0))), (6, .int (nI ((alnK (sg Z 0) k q ||| orN 0 (alnI (sg Z 0) (alnK (sg Z 0) k q)))))), (5, .int (nI (u))), (4, .int (nI (q))), (3, .int (nI (alnK (sg Z 0) k q))), (0, .ref (om)), (1, .int (nI (k))), (2, .int (nI (h)))] := Eq.mp (congrArg (fun z9 => lv_has ls 9 [(7, .int (nI (0))), (6, z9), (5, .int (nI (u))), (4, .int (nI (q))), (3, .int (nI (alnK (sg Z 0) k q))), (0, .ref (om)), (1, .int (nI (k))), (2, .int (nI (h)))]) el24) hl9
            exact loop42 _ 0 (by omega) (Nat.lt_succ_self _) _ _ _ hP hD hS hl9
      have hl9 := lv_sub (l' := [(5, .int (nI (1))), (4, .int (nI (0))), (3, .int (nI (2 ^ k))), (0, .ref (om)), (1, .int (nI (k))), (2, .int (nI (h)))]) hl [0, 1, 2, 3, 4, 5] rfl
      have el25 : (.int (nI (2 ^ k)) : Value) = .int (nI (alnK (sg Z 0) k 0)) := by
        rfl
      have hl9 : lv_has ls 9 [(5, .int (nI (1))), (4, .int (nI (0))), (3, .int (nI (alnK (sg Z 0) k 0))), (0, .ref (om)), (1, .int (nI (k))), (2, .int (nI (h)))] := Eq.mp (congrArg (fun z9 => lv_has ls 9 [(5, .int (nI (1))), (4, .int (nI (0))), (3, z9), (0, .ref (om)), (1, .int (nI (k))), (2, .int (nI (h)))]) el25) hl9
      exact loop31 _ 0 1 (by decide) (fun h9 => absurd h9 (by decide)) (fun z hz => by omega) (Nat.zero_le _) (Nat.lt_succ_self _) _ _ _ hP hD hS hl9
    · skip
      rw [bI_z] at c2
      refine lv_ldc (v := (-1000001)) hx hb hown (hts (.constant RX8 48 (-1000001)) (List.mem_of_getElem? (i := 1) rfl)) dX8_along_18 ?_
      exact hend _ _ _ _ _ hP hD hS (by unfold alongM; rw [if_neg (by simp [c1, c2])]) dX8_along_20
