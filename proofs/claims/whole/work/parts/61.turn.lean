/-! ===== the reference: a turn ===== -/
theorem upN_upN {f : Nat → Nat} {i a b : Nat} : upN (upN f i a) i b = upN f i b := by
  funext j
  unfold upN
  split <;> rfl
theorem upN_id {f : Nat → Nat} {i : Nat} : upN f i (f i) = f := by
  funext j
  unfold upN
  split
  · rename_i h; rw [h]
  · rfl
theorem gapN_le (i j : Nat) : gapN i j ≤ i + j := by
  unfold gapN
  split <;> omega
def seeT (x : Sg) (k j : Nat) : Nat := if j = k then 0 else if gapN j k ≤ Sv x then (if (So x).testBit j = true then 2 ^ SP x j else 0) else 0
def lookM (x : Sg) (k : Nat) : Nat := SS x k ||| orN (Sn x) (seeT x k)
def lkW (Z : Nat → Nat) (r : Nat) : Nat → Nat := rg Z (r + 45) (Z r) (lookM (sg Z r))
theorem lk_0 {Z : Nat → Nat} {b i : Nat} {g f : Nat → Nat} : rg Z b i g = upN (rg Z b i g) (b + i) (Z (b + i) ||| orN 0 f) := by
  rw [orN, Nat.or_zero]
  exact (upN_id (f := rg Z b i g) (i := b + i)).symm.trans (by rw [rg_out (by omega)])
theorem lk_s {F f : Nat → Nat} {i v a c j : Nat} (h : c = f j) : upN (upN F i v) i ((a ||| orN j f) ||| c) = upN F i (a ||| orN (j + 1) f) := by
  rw [upN_upN, orN, h, Nat.or_assoc]
theorem lkW_o {Z : Nat → Nat} {r j : Nat} (h : j < r + 45) : lkW Z r j = Z j := rg_out (Or.inl h)
theorem wrW_o {Z : Nat → Nat} {r v j : Nat} (h : j < r + 35) : wrW Z r v j = Z j := rg_out (Or.inl h)
theorem rg_lt {Z g : Nat → Nat} {b k j m : Nat} (h1 : ∀ i, i < k → g i < m) (h2 : Z j < m) : rg Z b k g j < m := by
  unfold rg
  split
  · exact h1 _ (by omega)
  · exact h2
theorem seeT_lt {x : Sg} (h : Wf x) {k j : Nat} (hj : j < Sn x) : seeT x k j < 2 ^ 10 := by
  unfold seeT
  split
  · decide
  · split
    · split
      · exact Nat.pow_lt_pow_right (by decide) (h.2.2.2.2 j (Nat.lt_of_lt_of_le hj h.1)).2.1
      · decide
    · decide
theorem lookM_lt {x : Sg} (h : Wf x) {k : Nat} (hk : k < 10) : lookM x k < 1024 := or10 (h.2.2.2.2 k hk).2.2.2.2 (orN_lt (m := 10) (fun j hj => seeT_lt h hj))
theorem wf_mk {Z : Nat → Nat} {r : Nat} (a : Z r ≤ 10) (b : Z (r + 1) < 1024) (d : Z (r + 2) ≤ 3) (f : Z (r + 4) < 1024) (g : ∀ k, k < 10 → Z (r + 5 + k) < 1024 ∧ Z (r + 15 + k) < 10 ∧ Z (r + 25 + k) < 1024 ∧ Z (r + 35 + k) < 1024 ∧ Z (r + 45 + k) < 1024) : Wf (sg Z r) := ⟨a, b, d, f, g⟩
theorem wf_o {Z : Nat → Nat} {r o : Nat} (h : Wf (sg Z r)) (ho : o < 1024) : Wf (sg (upN Z (r + 4) o) r) := by
  obtain ⟨a, b, d, f, g⟩ := wfW h
  refine wf_mk (by rw [upN_n (by omega)]; exact a) (by rw [upN_n (by omega)]; exact b) (by rw [upN_n (by omega)]; exact d) (by rw [upN_s]; exact ho) (fun k hk => ?_)
  rw [upN_n (by omega), upN_n (by omega), upN_n (by omega), upN_n (by omega), upN_n (by omega)]
  exact g k hk
theorem wf_t {Z : Nat → Nat} {r o : Nat} (h : Wf (sg Z r)) : Wf (sg (upN Z (r + 3) o) r) := by
  obtain ⟨a, b, d, f, g⟩ := wfW h
  refine wf_mk (by rw [upN_n (by omega)]; exact a) (by rw [upN_n (by omega)]; exact b) (by rw [upN_n (by omega)]; exact d) (by rw [upN_n (by omega)]; exact f) (fun k hk => ?_)
  rw [upN_n (by omega), upN_n (by omega), upN_n (by omega), upN_n (by omega), upN_n (by omega)]
  exact g k hk
theorem wf_lk {Z : Nat → Nat} {r : Nat} (h : Wf (sg Z r)) : Wf (sg (lkW Z r) r) := by
  obtain ⟨a, b, d, f, g⟩ := wfW h
  refine wf_mk (by rw [lkW_o (by omega)]; exact a) (by rw [lkW_o (by omega)]; exact b) (by rw [lkW_o (by omega)]; exact d) (by rw [lkW_o (by omega)]; exact f) (fun k hk => ?_)
  rw [lkW_o (by omega), lkW_o (by omega), lkW_o (by omega), lkW_o (by omega)]
  obtain ⟨g1, g2, g3, g4, g5⟩ := g k hk
  exact ⟨g1, g2, g3, g4, rg_lt (fun i hi => lookM_lt h (by omega)) g5⟩
theorem wf_wr {Z : Nat → Nat} {r v : Nat} (h : Wf (sg Z r)) : Wf (sg (wrW Z r v) r) := by
  obtain ⟨a, b, d, f, g⟩ := wfW h
  refine wf_mk (by rw [wrW_o (by omega)]; exact a) (by rw [wrW_o (by omega)]; exact b) (by rw [wrW_o (by omega)]; exact d) (by rw [wrW_o (by omega)]; exact f) (fun k hk => ?_)
  obtain ⟨g1, g2, g3, g4, g5⟩ := g k hk
  rw [wrW_o (by omega), wrW_o (by omega), wrW_o (by omega)]
  refine ⟨g1, g2, g3, rg_lt (fun i hi => ?_) g4, ?_⟩
  · have := (g i (by omega)).2.2.2.1
    show wearG (sg Z r) v i < 1024
    unfold wearG
    show (if v.testBit i = true then Z (r + 35 + i) - 1 else Z (r + 35 + i)) < 1024
    split <;> omega
  · show rg Z (r + 35) (Z r) _ (r + 45 + k) < 1024
    rw [rg_out (by omega)]
    exact g5
def passP (x : Sg) (k : Nat) : Bool := !(So x).testBit k && wouldM x k
def passO (x : Sg) : Nat := mkb (Sn x) (passP x)
theorem passO_lt {x : Sg} (h : Sn x ≤ 10) : passO x < 1024 := Nat.lt_of_lt_of_le (mkb_lt _ _) (Nat.pow_le_pow_right (by decide) h)
def pass1 (Z : Nat → Nat) (r : Nat) : Nat → Nat := lkW (upN Z (r + 4) (Z (r + 4) ||| passO (sg Z r))) r
def passW (Z : Nat → Nat) (r : Nat) : Nat → Nat := if dateF (sg Z r) = Z (r + 1) then upN (upN (wrW (pass1 Z r) r (Z (r + 4) ||| passO (sg Z r))) (r + 4) 0) (r + 3) (Z (r + 3) + 1) else upN (wrW (pass1 Z r) r (passO (sg Z r))) (r + 3) (Z (r + 3) + 1)
theorem pass1_d {Z : Nat → Nat} {r o : Nat} : dateF (sg (lkW (upN Z (r + 4) o) r) r) = dateF (sg Z r) := by
  unfold dateF
  show (if 0 < lkW (upN Z (r + 4) o) r (r + 1) then lkW (upN Z (r + 4) o) r (r + 3) % lkW (upN Z (r + 4) o) r (r + 1) + 1 else 0) = _
  rw [lkW_o (by omega), lkW_o (by omega), upN_n (by omega), upN_n (by omega)]
theorem passW_ok {Z : Nat → Nat} {r : Nat} (h : Wf (sg Z r)) : Wf (sg (passW Z r) r) ∧ passW Z r r = Z r ∧ passW Z r (r + 1) = Z (r + 1) ∧ passW Z r (r + 3) = Z (r + 3) + 1 := by
  have ho : Z (r + 4) ||| passO (sg Z r) < 1024 := or10 (wfW h).2.2.2.1 (passO_lt (wfW h).1)
  have h1 : Wf (sg (pass1 Z r) r) := wf_lk (wf_o h ho)
  unfold passW
  split
  · refine ⟨wf_t (wf_o (wf_wr h1) (by decide)), ?_, ?_, upN_s⟩
    · rw [upN_n (by omega), upN_n (by omega), wrW_o (by omega), pass1, lkW_o (by omega), upN_n (by omega)]
    · rw [upN_n (by omega), upN_n (by omega), wrW_o (by omega), pass1, lkW_o (by omega), upN_n (by omega)]
  · refine ⟨wf_t (wf_wr h1), ?_, ?_, upN_s⟩
    · rw [upN_n (by omega), wrW_o (by omega), pass1, lkW_o (by omega), upN_n (by omega)]
    · rw [upN_n (by omega), wrW_o (by omega), pass1, lkW_o (by omega), upN_n (by omega)]
set_option maxRecDepth 100000 in
set_option maxHeartbeats 4000000 in
theorem c_X8_looks (l : Launch) (D : va_G) (cA : Nat → ClassId) (tt : Nat → Nat) (om mw mt mm ml mi mh mr ud td fy su cu sa nb tn : Nat) (Z : Nat → Nat) (r : Nat) (hg : Wf (sg Z r)) (hr : r + 55 ≤ 1595) (sz : Nat) : Cv l D cA tt yX8_looks wsX8_looks ({ frames := 1, cells := 0, slots := 0, locals := 21 } : Room) [.ref (om), .int (nI (r))] sz [(om, .inr (8, [.ref (mw), .int (nI (ud)), .ref (mt), .int (nI (td)), .int (nI (fy)), .int (nI (su)), .ref (mm), .ref (ml), .ref (mi), .ref (mh), .int (nI (cu)), .int (nI (sa)), .int (nI (nb)), .ref (mr), .int (nI (tn))])), (mw, .inl (cA 0, 1595, arN Z))] [(om, .inr (8, [.ref (mw), .int (nI (ud)), .ref (mt), .int (nI (td)), .int (nI (fy)), .int (nI (su)), .ref (mm), .ref (ml), .ref (mi), .ref (mh), .int (nI (cu)), .int (nI (sa)), .int (nI (nb)), .ref (mr), .int (nI (tn))])), (mw, .inl (cA 0, 1595, arN (lkW Z r)))] := by
  obtain ⟨gn, ge, gv, go, ga⟩ := wfW hg
  have gpic : ∀ k, k < 10 → Z (r + 15 + k) < 10 := fun k hk => (ga k hk).2.1
  refine Cv.mk (cc := cX8_looks) (maxL := 5) (by decide) rfl (Nat.le_of_ble_eq_true rfl) ?_
  intro p e s m below meth c A Q ls hB hl hend
  obtain ⟨⟨hx, hb, hml, hown, hts⟩, hP, hK, hD, hS, hA, hE⟩ := hB
  have hown : s.vm.findClass RX8 = some m.cls := hown
  have hwsX80 : ∀ w9 ∈ wsX80, w9.before ([.ref (om), .int (nI (r))] : List Value).toArray s = true := fun w9 h => hts w9 (List.mem_cons_of_mem _ (List.mem_append_right _ h))
  have hl : lv_has ls 5 [(0, .ref (om)), (1, .int (nI (r)))] := hl
  refine lv_iconst (v := nI (0)) hx hb dX8_looks_0 (by decide) ?_
  refine lv_istore_n (lv' := [(2, .int (nI (0))), (0, .ref (om)), (1, .int (nI (r)))]) hx hb dX8_looks_1 rfl hl (by decide) rfl (fun ls hl => ?_)
  have loop2 : ∀ (N2 : Nat) (i : Nat), (i ≤ Z r) → (Z r - i) < N2 → ∀ (H : Heap) (locs : List Loc) (ls : Array Slot), va_P D vwCl [(om, .inr (8, [.ref (mw), .int (nI (ud)), .ref (mt), .int (nI (td)), .int (nI (fy)), .int (nI (su)), .ref (mm), .ref (ml), .ref (mi), .ref (mh), .int (nI (cu)), .int (nI (sa)), .int (nI (nb)), .ref (mr), .int (nI (tn))])), (mw, .inl (cA 0, 1595, arN (rg Z (r + 45) i (lookM (sg Z r)))))] H → va_D A [(om, .inr (8, [.ref (mw), .int (nI (ud)), .ref (mt), .int (nI (td)), .int (nI (fy)), .int (nI (su)), .ref (mm), .ref (ml), .ref (mi), .ref (mh), .int (nI (cu)), .int (nI (sa)), .int (nI (nb)), .ref (mr), .int (nI (tn))])), (mw, .inl (cA 0, 1595, arN (rg Z (r + 45) i (lookM (sg Z r)))))] → va_S A s.heap H locs → lv_has ls 5 [(2, .int (nI (i))), (0, .ref (om)), (1, .int (nI (r)))] → W p l e ({ frames := 1, cells := 0, slots := 0, locals := 21 } : Room) s m ([.ref (om), .int (nI (r))] : List Value).toArray below meth c H locs 0 0 Q (F0 m 2 ls []) := by
    intro N2
    induction N2 with
    | zero => intro i iv2_0 hN; exact absurd hN (Nat.not_lt_zero _)
    | succ N2 ih2 =>
      intro i iv2_0 hN2 H locs ls hP hD hS hl
      refine lv_iload_n hx hb dX8_looks_2 rfl (lv_at hl 0 rfl) ?_
      refine lv_aload_n hx hb dX8_looks_3 rfl (lv_at hl 1 rfl) ?_
      refine va_get (v := .ref (mw)) (Ts := wsX80) (C := RX8) (T := TX8) (N := 15) hx hb hwsX80 (fun _ h => h) hown hK hP 0 rfl rfl 0 (by decide) (hts (.fieldLink RX8 7 "AdventStreetsModel" "w" "[I") (List.mem_of_getElem? (i := 1) rfl)) (fun _ h9 => h9) rfl dX8_looks_4 ?_
      refine lv_iload_n hx hb dX8_looks_7 rfl (lv_at hl 2 rfl) ?_
      refine lv_iconst (v := nI (0)) hx hb dX8_looks_8 (by decide) ?_
      refine lv_iadd hx hb dX8_looks_9 ?_
      refine vn_i (v := nI (r)) (nI_add _ _) ?_
      refine r_ald (f := rg Z (r + 45) i (lookM (sg Z r))) hx hb hK hP 1 rfl (i := r) (by omega) (Nat.lt_of_lt_of_le (by omega : 1595 < 1073741824) (by decide)) dX8_looks_10 ?_
      refine vn_i (v := nI (Z r)) (congrArg nI (rg_out (by omega))) ?_
      refine lv_icmp_ge (tgt := 119) hx hb dX8_looks_11 (by decide) (fun c2 => ?_) (fun c2 => ?_)
      · skip
        rw [nI_leI (by omega) (by omega)] at c2
        have ef3 : ([(om, .inr (8, [.ref (mw), .int (nI (ud)), .ref (mt), .int (nI (td)), .int (nI (fy)), .int (nI (su)), .ref (mm), .ref (ml), .ref (mi), .ref (mh), .int (nI (cu)), .int (nI (sa)), .int (nI (nb)), .ref (mr), .int (nI (tn))])), (mw, .inl (cA 0, 1595, arN (rg Z (r + 45) i (lookM (sg Z r)))))] : va_W) = [(om, .inr (8, [.ref (mw), .int (nI (ud)), .ref (mt), .int (nI (td)), .int (nI (fy)), .int (nI (su)), .ref (mm), .ref (ml), .ref (mi), .ref (mh), .int (nI (cu)), .int (nI (sa)), .int (nI (nb)), .ref (mr), .int (nI (tn))])), (mw, .inl (cA 0, 1595, arN (lkW Z r)))] := by
          rw [show i = Z r by omega]; rfl
        have hP : va_P D vwCl [(om, .inr (8, [.ref (mw), .int (nI (ud)), .ref (mt), .int (nI (td)), .int (nI (fy)), .int (nI (su)), .ref (mm), .ref (ml), .ref (mi), .ref (mh), .int (nI (cu)), .int (nI (sa)), .int (nI (nb)), .ref (mr), .int (nI (tn))])), (mw, .inl (cA 0, 1595, arN (lkW Z r)))] _ := Eq.mp (congrArg (fun z9 => va_P D vwCl z9 _) ef3) hP
        have hD : va_D A [(om, .inr (8, [.ref (mw), .int (nI (ud)), .ref (mt), .int (nI (td)), .int (nI (fy)), .int (nI (su)), .ref (mm), .ref (ml), .ref (mi), .ref (mh), .int (nI (cu)), .int (nI (sa)), .int (nI (nb)), .ref (mr), .int (nI (tn))])), (mw, .inl (cA 0, 1595, arN (lkW Z r)))] := Eq.mp (congrArg (fun z9 => va_D A z9) ef3) hD
        exact hend _ _ _ _ hP hD hS dX8_looks_119
      · skip
        rw [nI_leI (by omega) (by omega)] at c2
        refine lv_iconst (v := nI (0)) hx hb dX8_looks_14 (by decide) ?_
        refine lv_istore_n (lv' := [(3, .int (nI (0))), (2, .int (nI (i))), (0, .ref (om)), (1, .int (nI (r)))]) hx hb dX8_looks_15 rfl hl (by decide) rfl (fun ls hl => ?_)
        have loop16 : ∀ (N16 : Nat) (j : Nat), (j ≤ Z r) → (Z r - j) < N16 → ∀ (H : Heap) (locs : List Loc) (ls : Array Slot), va_P D vwCl [(om, .inr (8, [.ref (mw), .int (nI (ud)), .ref (mt), .int (nI (td)), .int (nI (fy)), .int (nI (su)), .ref (mm), .ref (ml), .ref (mi), .ref (mh), .int (nI (cu)), .int (nI (sa)), .int (nI (nb)), .ref (mr), .int (nI (tn))])), (mw, .inl (cA 0, 1595, arN (upN (rg Z (r + 45) i (lookM (sg Z r))) (r + 45 + i) (Z (r + 45 + i) ||| orN j (seeT (sg Z r) i)))))] H → va_D A [(om, .inr (8, [.ref (mw), .int (nI (ud)), .ref (mt), .int (nI (td)), .int (nI (fy)), .int (nI (su)), .ref (mm), .ref (ml), .ref (mi), .ref (mh), .int (nI (cu)), .int (nI (sa)), .int (nI (nb)), .ref (mr), .int (nI (tn))])), (mw, .inl (cA 0, 1595, arN (upN (rg Z (r + 45) i (lookM (sg Z r))) (r + 45 + i) (Z (r + 45 + i) ||| orN j (seeT (sg Z r) i)))))] → va_S A s.heap H locs → lv_has ls 5 [(3, .int (nI (j))), (2, .int (nI (i))), (0, .ref (om)), (1, .int (nI (r)))] → W p l e ({ frames := 1, cells := 0, slots := 0, locals := 21 } : Room) s m ([.ref (om), .int (nI (r))] : List Value).toArray below meth c H locs 0 0 Q (F0 m 16 ls []) := by
          intro N16
          induction N16 with
          | zero => intro j iv16_0 hN; exact absurd hN (Nat.not_lt_zero _)
          | succ N16 ih16 =>
            intro j iv16_0 hN16 H locs ls hP hD hS hl
            refine lv_iload_n hx hb dX8_looks_16 rfl (lv_at hl 0 rfl) ?_
            refine lv_aload_n hx hb dX8_looks_17 rfl (lv_at hl 2 rfl) ?_
            refine va_get (v := .ref (mw)) (Ts := wsX80) (C := RX8) (T := TX8) (N := 15) hx hb hwsX80 (fun _ h => h) hown hK hP 0 rfl rfl 0 (by decide) (hts (.fieldLink RX8 7 "AdventStreetsModel" "w" "[I") (List.mem_of_getElem? (i := 1) rfl)) (fun _ h9 => h9) rfl dX8_looks_18 ?_
            refine lv_iload_n hx hb dX8_looks_21 rfl (lv_at hl 3 rfl) ?_
            refine lv_iconst (v := nI (0)) hx hb dX8_looks_22 (by decide) ?_
            refine lv_iadd hx hb dX8_looks_23 ?_
            refine vn_i (v := nI (r)) (nI_add _ _) ?_
            refine r_ald (f := upN (rg Z (r + 45) i (lookM (sg Z r))) (r + 45 + i) (Z (r + 45 + i) ||| orN j (seeT (sg Z r) i))) hx hb hK hP 1 rfl (i := r) (by omega) (Nat.lt_of_lt_of_le (by omega : 1595 < 1073741824) (by decide)) dX8_looks_24 ?_
            refine vn_i (v := nI (Z r)) (congrArg nI ((upN_n (by omega)).trans (rg_out (by omega)))) ?_
            refine lv_icmp_ge (tgt := 113) hx hb dX8_looks_25 (by decide) (fun c5 => ?_) (fun c5 => ?_)
            · skip
              rw [nI_leI (by omega) (by omega)] at c5
              refine lv_iinc (v := nI (i + 1)) (lv' := [(2, .int (nI (i + 1))), (3, .int (nI (j))), (0, .ref (om)), (1, .int (nI (r)))]) hx hb dX8_looks_113 hl (k := 1) rfl (nI_add _ _) (by decide) rfl (fun ls hl => ?_)
              refine lv_goto (tgt := 2) hx hb dX8_looks_116 (by decide) ?_
              have ew6 : upN (rg Z (r + 45) i (lookM (sg Z r))) (r + 45 + i) (Z (r + 45 + i) ||| orN j (seeT (sg Z r) i)) = rg Z (r + 45) (i + 1) (lookM (sg Z r)) := by
                rw [show j = Z r by omega]
                exact rg_s rfl
              have hP : va_P D vwCl [(om, .inr (8, [.ref (mw), .int (nI (ud)), .ref (mt), .int (nI (td)), .int (nI (fy)), .int (nI (su)), .ref (mm), .ref (ml), .ref (mi), .ref (mh), .int (nI (cu)), .int (nI (sa)), .int (nI (nb)), .ref (mr), .int (nI (tn))])), (mw, .inl (cA 0, 1595, arN (rg Z (r + 45) (i + 1) (lookM (sg Z r)))))] _ := Eq.mp (congrArg (fun z9 => va_P D vwCl [(om, .inr (8, [.ref (mw), .int (nI (ud)), .ref (mt), .int (nI (td)), .int (nI (fy)), .int (nI (su)), .ref (mm), .ref (ml), .ref (mi), .ref (mh), .int (nI (cu)), .int (nI (sa)), .int (nI (nb)), .ref (mr), .int (nI (tn))])), (mw, .inl (cA 0, 1595, arN z9))] _) ew6) hP
              have hD : va_D A [(om, .inr (8, [.ref (mw), .int (nI (ud)), .ref (mt), .int (nI (td)), .int (nI (fy)), .int (nI (su)), .ref (mm), .ref (ml), .ref (mi), .ref (mh), .int (nI (cu)), .int (nI (sa)), .int (nI (nb)), .ref (mr), .int (nI (tn))])), (mw, .inl (cA 0, 1595, arN (rg Z (r + 45) (i + 1) (lookM (sg Z r)))))] := Eq.mp (congrArg (fun z9 => va_D A [(om, .inr (8, [.ref (mw), .int (nI (ud)), .ref (mt), .int (nI (td)), .int (nI (fy)), .int (nI (su)), .ref (mm), .ref (ml), .ref (mi), .ref (mh), .int (nI (cu)), .int (nI (sa)), .int (nI (nb)), .ref (mr), .int (nI (tn))])), (mw, .inl (cA 0, 1595, arN z9))]) ew6) hD
              have hl9 := lv_sub (l' := [(2, .int (nI (i + 1))), (0, .ref (om)), (1, .int (nI (r)))]) hl [0, 2, 3] rfl
              exact ih2 (i + 1) (by omega) (by omega) _ _ _ hP hD hS hl9
            · skip
              rw [nI_leI (by omega) (by omega)] at c5
              have gpj := gpic j (by omega)
              have ggp := gapN_le j i
              refine lv_iload_n hx hb dX8_looks_28 rfl (lv_at hl 0 rfl) ?_
              refine lv_iload_n hx hb dX8_looks_29 rfl (lv_at hl 1 rfl) ?_
              refine lv_icmp_eq (tgt := 68) hx hb dX8_looks_30 (by decide) (fun c7 => ?_) (fun c7 => ?_)
              · skip
                rw [nI_eq (by omega) (by omega)] at c7
                refine lv_iconst (v := nI (0)) hx hb dX8_looks_68 (by decide) ?_
                refine lv_istore (lv' := [(4, .int (nI (0))), (3, .int (nI (j))), (2, .int (nI (i))), (0, .ref (om)), (1, .int (nI (r)))]) hx hb dX8_looks_69 hl (by decide) rfl (fun ls hl => ?_)
                refine lv_aload_n hx hb dX8_looks_71 rfl (lv_at hl 3 rfl) ?_
                refine va_get (v := .ref (mw)) (Ts := wsX80) (C := RX8) (T := TX8) (N := 15) hx hb hwsX80 (fun _ h => h) hown hK hP 0 rfl rfl 0 (by decide) (hts (.fieldLink RX8 7 "AdventStreetsModel" "w" "[I") (List.mem_of_getElem? (i := 1) rfl)) (fun _ h9 => h9) rfl dX8_looks_72 ?_
                refine lv_iload_n hx hb dX8_looks_75 rfl (lv_at hl 4 rfl) ?_
                refine lv_bipush (v := nI (45)) hx hb dX8_looks_76 (by decide) ?_
                refine lv_iadd hx hb dX8_looks_78 ?_
                refine vn_i (v := nI (r + 45)) (nI_add _ _) ?_
                refine lv_iload_n hx hb dX8_looks_79 rfl (lv_at hl 2 rfl) ?_
                refine lv_iadd hx hb dX8_looks_80 ?_
                refine vn_i (v := nI (r + 45 + i)) (nI_add _ _) ?_
                refine lv_dup2_11 hx hb dX8_looks_81 rfl rfl ?_
                refine r_ald (f := upN (rg Z (r + 45) i (lookM (sg Z r))) (r + 45 + i) (Z (r + 45 + i) ||| orN j (seeT (sg Z r) i))) hx hb hK hP 1 rfl (i := r + 45 + i) (by omega) (Nat.lt_of_lt_of_le (by omega : 1595 < 1073741824) (by decide)) dX8_looks_82 ?_
                refine vn_i (v := nI (Z (r + 45 + i) ||| orN j (seeT (sg Z r) i))) (congrArg nI (upN_s)) ?_
                refine lv_iload hx hb dX8_looks_83 (lv_at hl 0 rfl) ?_
                refine lv_if_eq (tgt := 104) hx hb dX8_looks_85 (by decide) (fun c8 => ?_) (fun c8 => ?_)
                · skip
                  rw [n_z (by omega)] at c8
                  refine lv_iconst (v := nI (0)) hx hb dX8_looks_104 (by decide) ?_
                  refine lv_ior hx hb dX8_looks_105 ?_
                  refine vn_i (v := nI ((Z (r + 45 + i) ||| orN j (seeT (sg Z r) i)) ||| 0)) (n_or _ _) ?_
                  refine r_ast (f := upN (rg Z (r + 45) i (lookM (sg Z r))) (r + 45 + i) (Z (r + 45 + i) ||| orN j (seeT (sg Z r) i))) hx hb hK hP hD hS 1 rfl (i := r + 45 + i) (by omega) (Nat.lt_of_lt_of_le (by omega : 1595 < 1073741824) (by decide)) dX8_looks_106 (fun H locs hP hD hS => ?_)
                  have hP : va_P D vwCl [(om, .inr (8, [.ref (mw), .int (nI (ud)), .ref (mt), .int (nI (td)), .int (nI (fy)), .int (nI (su)), .ref (mm), .ref (ml), .ref (mi), .ref (mh), .int (nI (cu)), .int (nI (sa)), .int (nI (nb)), .ref (mr), .int (nI (tn))])), (mw, .inl (cA 0, 1595, arN (upN (upN (rg Z (r + 45) i (lookM (sg Z r))) (r + 45 + i) (Z (r + 45 + i) ||| orN j (seeT (sg Z r) i))) (r + 45 + i) ((Z (r + 45 + i) ||| orN j (seeT (sg Z r) i)) ||| 0))))] _ := hP
                  have hD : va_D A [(om, .inr (8, [.ref (mw), .int (nI (ud)), .ref (mt), .int (nI (td)), .int (nI (fy)), .int (nI (su)), .ref (mm), .ref (ml), .ref (mi), .ref (mh), .int (nI (cu)), .int (nI (sa)), .int (nI (nb)), .ref (mr), .int (nI (tn))])), (mw, .inl (cA 0, 1595, arN (upN (upN (rg Z (r + 45) i (lookM (sg Z r))) (r + 45 + i) (Z (r + 45 + i) ||| orN j (seeT (sg Z r) i))) (r + 45 + i) ((Z (r + 45 + i) ||| orN j (seeT (sg Z r) i)) ||| 0))))] := hD
                  refine lv_iinc (v := nI (j + 1)) (lv' := [(3, .int (nI (j + 1))), (4, .int (nI (0))), (2, .int (nI (i))), (0, .ref (om)), (1, .int (nI (r)))]) hx hb dX8_looks_107 hl (k := 1) rfl (nI_add _ _) (by decide) rfl (fun ls hl => ?_)
                  refine lv_goto (tgt := 16) hx hb dX8_looks_110 (by decide) ?_
                  have ew9 : upN (upN (rg Z (r + 45) i (lookM (sg Z r))) (r + 45 + i) (Z (r + 45 + i) ||| orN j (seeT (sg Z r) i))) (r + 45 + i) ((Z (r + 45 + i) ||| orN j (seeT (sg Z r) i)) ||| 0) = upN (rg Z (r + 45) i (lookM (sg Z r))) (r + 45 + i) (Z (r + 45 + i) ||| orN (j + 1) (seeT (sg Z r) i)) := by
                    exact lk_s (by unfold seeT; rw [if_pos c7])
                  have hP : va_P D vwCl [(om, .inr (8, [.ref (mw), .int (nI (ud)), .ref (mt), .int (nI (td)), .int (nI (fy)), .int (nI (su)), .ref (mm), .ref (ml), .ref (mi), .ref (mh), .int (nI (cu)), .int (nI (sa)), .int (nI (nb)), .ref (mr), .int (nI (tn))])), (mw, .inl (cA 0, 1595, arN (upN (rg Z (r + 45) i (lookM (sg Z r))) (r + 45 + i) (Z (r + 45 + i) ||| orN (j + 1) (seeT (sg Z r) i)))))] _ := Eq.mp (congrArg (fun z9 => va_P D vwCl [(om, .inr (8, [.ref (mw), .int (nI (ud)), .ref (mt), .int (nI (td)), .int (nI (fy)), .int (nI (su)), .ref (mm), .ref (ml), .ref (mi), .ref (mh), .int (nI (cu)), .int (nI (sa)), .int (nI (nb)), .ref (mr), .int (nI (tn))])), (mw, .inl (cA 0, 1595, arN z9))] _) ew9) hP
                  have hD : va_D A [(om, .inr (8, [.ref (mw), .int (nI (ud)), .ref (mt), .int (nI (td)), .int (nI (fy)), .int (nI (su)), .ref (mm), .ref (ml), .ref (mi), .ref (mh), .int (nI (cu)), .int (nI (sa)), .int (nI (nb)), .ref (mr), .int (nI (tn))])), (mw, .inl (cA 0, 1595, arN (upN (rg Z (r + 45) i (lookM (sg Z r))) (r + 45 + i) (Z (r + 45 + i) ||| orN (j + 1) (seeT (sg Z r) i)))))] := Eq.mp (congrArg (fun z9 => va_D A [(om, .inr (8, [.ref (mw), .int (nI (ud)), .ref (mt), .int (nI (td)), .int (nI (fy)), .int (nI (su)), .ref (mm), .ref (ml), .ref (mi), .ref (mh), .int (nI (cu)), .int (nI (sa)), .int (nI (nb)), .ref (mr), .int (nI (tn))])), (mw, .inl (cA 0, 1595, arN z9))]) ew9) hD
                  have hl9 := lv_sub (l' := [(3, .int (nI (j + 1))), (2, .int (nI (i))), (0, .ref (om)), (1, .int (nI (r)))]) hl [0, 2, 3, 4] rfl
                  exact ih16 (j + 1) (by omega) (by omega) _ _ _ hP hD hS hl9
                · skip
                  rw [n_z (by omega)] at c8
                  exact absurd c8 (by decide)
              · skip
                rw [nI_eq (by omega) (by omega)] at c7
                refine lv_iload_n hx hb dX8_looks_33 rfl (lv_at hl 0 rfl) ?_
                refine lv_iload_n hx hb dX8_looks_34 rfl (lv_at hl 1 rfl) ?_
                refine cSi (n := 2) (As := [.int (nI (j)), .int (nI (i))]) (rest := []) (X := [(om, .inr (8, [.ref (mw), .int (nI (ud)), .ref (mt), .int (nI (td)), .int (nI (fy)), .int (nI (su)), .ref (mm), .ref (ml), .ref (mi), .ref (mh), .int (nI (cu)), .int (nI (sa)), .int (nI (nb)), .ref (mr), .int (nI (tn))])), (mw, .inl (cA 0, 1595, arN (upN (rg Z (r + 45) i (lookM (sg Z r))) (r + 45 + i) (Z (r + 45 + i) ||| orN j (seeT (sg Z r) i)))))]) (pl := []) (wc := ([] : va_W)) (wr := [(om, .inr (8, [.ref (mw), .int (nI (ud)), .ref (mt), .int (nI (td)), .int (nI (fy)), .int (nI (su)), .ref (mm), .ref (ml), .ref (mi), .ref (mh), .int (nI (cu)), .int (nI (sa)), .int (nI (nb)), .ref (mr), .int (nI (tn))])), (mw, .inl (cA 0, 1595, arN (upN (rg Z (r + 45) i (lookM (sg Z r))) (r + 45 + i) (Z (r + 45 + i) ||| orN j (seeT (sg Z r) i)))))]) (w1 := ([] : va_W)) (wn := [(om, .inr (8, [.ref (mw), .int (nI (ud)), .ref (mt), .int (nI (td)), .int (nI (fy)), .int (nI (su)), .ref (mm), .ref (ml), .ref (mi), .ref (mh), .int (nI (cu)), .int (nI (sa)), .int (nI (nb)), .ref (mr), .int (nI (tn))])), (mw, .inl (cA 0, 1595, arN (upN (rg Z (r + 45) i (lookM (sg Z r))) (r + 45 + i) (Z (r + 45 + i) ||| orN j (seeT (sg Z r) i)))))]) (isC := []) (isR := [0, 1]) (isN := [0, 1]) ⟨hx, hb, hml, hown, hts⟩ (c_X8_gap l D cA tt j i (by omega) (by omega) _) gX8_looks_X8_gap rfl (by decide +kernel) ⟨rfl, rfl⟩ ⟨Nat.le_of_ble_eq_true rfl, Nat.le_of_ble_eq_true rfl⟩ ⟨Nat.zero_le _, Nat.zero_le _⟩ hK hE hA hP hD hS ⟨⟨rfl, by decide⟩, ⟨rfl, by decide, by decide⟩, rfl, by decide⟩ rfl hl.1 rfl (Nat.le_of_ble_eq_true rfl) dX8_looks_35 (fun H locs hP hD hS => ?_)
                have hP : va_P D vwCl [(om, .inr (8, [.ref (mw), .int (nI (ud)), .ref (mt), .int (nI (td)), .int (nI (fy)), .int (nI (su)), .ref (mm), .ref (ml), .ref (mi), .ref (mh), .int (nI (cu)), .int (nI (sa)), .int (nI (nb)), .ref (mr), .int (nI (tn))])), (mw, .inl (cA 0, 1595, arN (upN (rg Z (r + 45) i (lookM (sg Z r))) (r + 45 + i) (Z (r + 45 + i) ||| orN j (seeT (sg Z r) i)))))] _ := hP
                have hD : va_D A [(om, .inr (8, [.ref (mw), .int (nI (ud)), .ref (mt), .int (nI (td)), .int (nI (fy)), .int (nI (su)), .ref (mm), .ref (ml), .ref (mi), .ref (mh), .int (nI (cu)), .int (nI (sa)), .int (nI (nb)), .ref (mr), .int (nI (tn))])), (mw, .inl (cA 0, 1595, arN (upN (rg Z (r + 45) i (lookM (sg Z r))) (r + 45 + i) (Z (r + 45 + i) ||| orN j (seeT (sg Z r) i)))))] := hD
                refine lv_aload_n hx hb dX8_looks_38 rfl (lv_at hl 2 rfl) ?_
                refine va_get (v := .ref (mw)) (Ts := wsX80) (C := RX8) (T := TX8) (N := 15) hx hb hwsX80 (fun _ h => h) hown hK hP 0 rfl rfl 0 (by decide) (hts (.fieldLink RX8 7 "AdventStreetsModel" "w" "[I") (List.mem_of_getElem? (i := 1) rfl)) (fun _ h9 => h9) rfl dX8_looks_39 ?_
                refine lv_iload_n hx hb dX8_looks_42 rfl (lv_at hl 3 rfl) ?_
                refine lv_iconst (v := nI (2)) hx hb dX8_looks_43 (by decide) ?_
                refine lv_iadd hx hb dX8_looks_44 ?_
                refine vn_i (v := nI (r + 2)) (nI_add _ _) ?_
                refine r_ald (f := upN (rg Z (r + 45) i (lookM (sg Z r))) (r + 45 + i) (Z (r + 45 + i) ||| orN j (seeT (sg Z r) i))) hx hb hK hP 1 rfl (i := r + 2) (by omega) (Nat.lt_of_lt_of_le (by omega : 1595 < 1073741824) (by decide)) dX8_looks_45 ?_
                refine vn_i (v := nI (Z (r + 2))) (congrArg nI ((upN_n (by omega)).trans (rg_out (by omega)))) ?_
                refine lv_icmp_gt (tgt := 68) hx hb dX8_looks_46 (by decide) (fun c10 => ?_) (fun c10 => ?_)
                · skip
                  rw [nI_ltI (by omega) (by omega)] at c10
                  refine lv_iconst (v := nI (0)) hx hb dX8_looks_68 (by decide) ?_
                  refine lv_istore (lv' := [(4, .int (nI (0))), (3, .int (nI (j))), (2, .int (nI (i))), (0, .ref (om)), (1, .int (nI (r)))]) hx hb dX8_looks_69 hl (by decide) rfl (fun ls hl => ?_)
                  refine lv_aload_n hx hb dX8_looks_71 rfl (lv_at hl 3 rfl) ?_
                  refine va_get (v := .ref (mw)) (Ts := wsX80) (C := RX8) (T := TX8) (N := 15) hx hb hwsX80 (fun _ h => h) hown hK hP 0 rfl rfl 0 (by decide) (hts (.fieldLink RX8 7 "AdventStreetsModel" "w" "[I") (List.mem_of_getElem? (i := 1) rfl)) (fun _ h9 => h9) rfl dX8_looks_72 ?_
                  refine lv_iload_n hx hb dX8_looks_75 rfl (lv_at hl 4 rfl) ?_
                  refine lv_bipush (v := nI (45)) hx hb dX8_looks_76 (by decide) ?_
                  refine lv_iadd hx hb dX8_looks_78 ?_
                  refine vn_i (v := nI (r + 45)) (nI_add _ _) ?_
                  refine lv_iload_n hx hb dX8_looks_79 rfl (lv_at hl 2 rfl) ?_
                  refine lv_iadd hx hb dX8_looks_80 ?_
                  refine vn_i (v := nI (r + 45 + i)) (nI_add _ _) ?_
                  refine lv_dup2_11 hx hb dX8_looks_81 rfl rfl ?_
                  refine r_ald (f := upN (rg Z (r + 45) i (lookM (sg Z r))) (r + 45 + i) (Z (r + 45 + i) ||| orN j (seeT (sg Z r) i))) hx hb hK hP 1 rfl (i := r + 45 + i) (by omega) (Nat.lt_of_lt_of_le (by omega : 1595 < 1073741824) (by decide)) dX8_looks_82 ?_
                  refine vn_i (v := nI (Z (r + 45 + i) ||| orN j (seeT (sg Z r) i))) (congrArg nI (upN_s)) ?_
                  refine lv_iload hx hb dX8_looks_83 (lv_at hl 0 rfl) ?_
                  refine lv_if_eq (tgt := 104) hx hb dX8_looks_85 (by decide) (fun c11 => ?_) (fun c11 => ?_)
                  · skip
                    rw [n_z (by omega)] at c11
                    refine lv_iconst (v := nI (0)) hx hb dX8_looks_104 (by decide) ?_
                    refine lv_ior hx hb dX8_looks_105 ?_
                    refine vn_i (v := nI ((Z (r + 45 + i) ||| orN j (seeT (sg Z r) i)) ||| 0)) (n_or _ _) ?_
                    refine r_ast (f := upN (rg Z (r + 45) i (lookM (sg Z r))) (r + 45 + i) (Z (r + 45 + i) ||| orN j (seeT (sg Z r) i))) hx hb hK hP hD hS 1 rfl (i := r + 45 + i) (by omega) (Nat.lt_of_lt_of_le (by omega : 1595 < 1073741824) (by decide)) dX8_looks_106 (fun H locs hP hD hS => ?_)
                    have hP : va_P D vwCl [(om, .inr (8, [.ref (mw), .int (nI (ud)), .ref (mt), .int (nI (td)), .int (nI (fy)), .int (nI (su)), .ref (mm), .ref (ml), .ref (mi), .ref (mh), .int (nI (cu)), .int (nI (sa)), .int (nI (nb)), .ref (mr), .int (nI (tn))])), (mw, .inl (cA 0, 1595, arN (upN (upN (rg Z (r + 45) i (lookM (sg Z r))) (r + 45 + i) (Z (r + 45 + i) ||| orN j (seeT (sg Z r) i))) (r + 45 + i) ((Z (r + 45 + i) ||| orN j (seeT (sg Z r) i)) ||| 0))))] _ := hP
                    have hD : va_D A [(om, .inr (8, [.ref (mw), .int (nI (ud)), .ref (mt), .int (nI (td)), .int (nI (fy)), .int (nI (su)), .ref (mm), .ref (ml), .ref (mi), .ref (mh), .int (nI (cu)), .int (nI (sa)), .int (nI (nb)), .ref (mr), .int (nI (tn))])), (mw, .inl (cA 0, 1595, arN (upN (upN (rg Z (r + 45) i (lookM (sg Z r))) (r + 45 + i) (Z (r + 45 + i) ||| orN j (seeT (sg Z r) i))) (r + 45 + i) ((Z (r + 45 + i) ||| orN j (seeT (sg Z r) i)) ||| 0))))] := hD
                    refine lv_iinc (v := nI (j + 1)) (lv' := [(3, .int (nI (j + 1))), (4, .int (nI (0))), (2, .int (nI (i))), (0, .ref (om)), (1, .int (nI (r)))]) hx hb dX8_looks_107 hl (k := 1) rfl (nI_add _ _) (by decide) rfl (fun ls hl => ?_)
                    refine lv_goto (tgt := 16) hx hb dX8_looks_110 (by decide) ?_
                    have ew12 : upN (upN (rg Z (r + 45) i (lookM (sg Z r))) (r + 45 + i) (Z (r + 45 + i) ||| orN j (seeT (sg Z r) i))) (r + 45 + i) ((Z (r + 45 + i) ||| orN j (seeT (sg Z r) i)) ||| 0) = upN (rg Z (r + 45) i (lookM (sg Z r))) (r + 45 + i) (Z (r + 45 + i) ||| orN (j + 1) (seeT (sg Z r) i)) := by
                      exact lk_s (by unfold seeT; rw [if_neg c7, if_neg (show ¬ gapN j i ≤ Z (r + 2) from by omega)])
                    have hP : va_P D vwCl [(om, .inr (8, [.ref (mw), .int (nI (ud)), .ref (mt), .int (nI (td)), .int (nI (fy)), .int (nI (su)), .ref (mm), .ref (ml), .ref (mi), .ref (mh), .int (nI (cu)), .int (nI (sa)), .int (nI (nb)), .ref (mr), .int (nI (tn))])), (mw, .inl (cA 0, 1595, arN (upN (rg Z (r + 45) i (lookM (sg Z r))) (r + 45 + i) (Z (r + 45 + i) ||| orN (j + 1) (seeT (sg Z r) i)))))] _ := Eq.mp (congrArg (fun z9 => va_P D vwCl [(om, .inr (8, [.ref (mw), .int (nI (ud)), .ref (mt), .int (nI (td)), .int (nI (fy)), .int (nI (su)), .ref (mm), .ref (ml), .ref (mi), .ref (mh), .int (nI (cu)), .int (nI (sa)), .int (nI (nb)), .ref (mr), .int (nI (tn))])), (mw, .inl (cA 0, 1595, arN z9))] _) ew12) hP
                    have hD : va_D A [(om, .inr (8, [.ref (mw), .int (nI (ud)), .ref (mt), .int (nI (td)), .int (nI (fy)), .int (nI (su)), .ref (mm), .ref (ml), .ref (mi), .ref (mh), .int (nI (cu)), .int (nI (sa)), .int (nI (nb)), .ref (mr), .int (nI (tn))])), (mw, .inl (cA 0, 1595, arN (upN (rg Z (r + 45) i (lookM (sg Z r))) (r + 45 + i) (Z (r + 45 + i) ||| orN (j + 1) (seeT (sg Z r) i)))))] := Eq.mp (congrArg (fun z9 => va_D A [(om, .inr (8, [.ref (mw), .int (nI (ud)), .ref (mt), .int (nI (td)), .int (nI (fy)), .int (nI (su)), .ref (mm), .ref (ml), .ref (mi), .ref (mh), .int (nI (cu)), .int (nI (sa)), .int (nI (nb)), .ref (mr), .int (nI (tn))])), (mw, .inl (cA 0, 1595, arN z9))]) ew12) hD
                    have hl9 := lv_sub (l' := [(3, .int (nI (j + 1))), (2, .int (nI (i))), (0, .ref (om)), (1, .int (nI (r)))]) hl [0, 2, 3, 4] rfl
                    exact ih16 (j + 1) (by omega) (by omega) _ _ _ hP hD hS hl9
                  · skip
                    rw [n_z (by omega)] at c11
                    exact absurd c11 (by decide)
                · skip
                  rw [nI_ltI (by omega) (by omega)] at c10
                  refine lv_aload_n hx hb dX8_looks_49 rfl (lv_at hl 2 rfl) ?_
                  refine va_get (v := .ref (mw)) (Ts := wsX80) (C := RX8) (T := TX8) (N := 15) hx hb hwsX80 (fun _ h => h) hown hK hP 0 rfl rfl 0 (by decide) (hts (.fieldLink RX8 7 "AdventStreetsModel" "w" "[I") (List.mem_of_getElem? (i := 1) rfl)) (fun _ h9 => h9) rfl dX8_looks_50 ?_
                  refine lv_iload_n hx hb dX8_looks_53 rfl (lv_at hl 3 rfl) ?_
                  refine lv_iconst (v := nI (4)) hx hb dX8_looks_54 (by decide) ?_
                  refine lv_iadd hx hb dX8_looks_55 ?_
                  refine vn_i (v := nI (r + 4)) (nI_add _ _) ?_
                  refine r_ald (f := upN (rg Z (r + 45) i (lookM (sg Z r))) (r + 45 + i) (Z (r + 45 + i) ||| orN j (seeT (sg Z r) i))) hx hb hK hP 1 rfl (i := r + 4) (by omega) (Nat.lt_of_lt_of_le (by omega : 1595 < 1073741824) (by decide)) dX8_looks_56 ?_
                  refine vn_i (v := nI (Z (r + 4))) (congrArg nI ((upN_n (by omega)).trans (rg_out (by omega)))) ?_
                  refine lv_iload_n hx hb dX8_looks_57 rfl (lv_at hl 0 rfl) ?_
                  refine cSi (n := 2) (As := [.int (nI (Z (r + 4))), .int (nI (j))]) (rest := []) (X := [(om, .inr (8, [.ref (mw), .int (nI (ud)), .ref (mt), .int (nI (td)), .int (nI (fy)), .int (nI (su)), .ref (mm), .ref (ml), .ref (mi), .ref (mh), .int (nI (cu)), .int (nI (sa)), .int (nI (nb)), .ref (mr), .int (nI (tn))])), (mw, .inl (cA 0, 1595, arN (upN (rg Z (r + 45) i (lookM (sg Z r))) (r + 45 + i) (Z (r + 45 + i) ||| orN j (seeT (sg Z r) i)))))]) (pl := []) (wc := ([] : va_W)) (wr := [(om, .inr (8, [.ref (mw), .int (nI (ud)), .ref (mt), .int (nI (td)), .int (nI (fy)), .int (nI (su)), .ref (mm), .ref (ml), .ref (mi), .ref (mh), .int (nI (cu)), .int (nI (sa)), .int (nI (nb)), .ref (mr), .int (nI (tn))])), (mw, .inl (cA 0, 1595, arN (upN (rg Z (r + 45) i (lookM (sg Z r))) (r + 45 + i) (Z (r + 45 + i) ||| orN j (seeT (sg Z r) i)))))]) (w1 := ([] : va_W)) (wn := [(om, .inr (8, [.ref (mw), .int (nI (ud)), .ref (mt), .int (nI (td)), .int (nI (fy)), .int (nI (su)), .ref (mm), .ref (ml), .ref (mi), .ref (mh), .int (nI (cu)), .int (nI (sa)), .int (nI (nb)), .ref (mr), .int (nI (tn))])), (mw, .inl (cA 0, 1595, arN (upN (rg Z (r + 45) i (lookM (sg Z r))) (r + 45 + i) (Z (r + 45 + i) ||| orN j (seeT (sg Z r) i)))))]) (isC := []) (isR := [0, 1]) (isN := [0, 1]) ⟨hx, hb, hml, hown, hts⟩ (c_X8_has l D cA tt (Z (r + 4)) j (by omega) (by omega) _) gX8_looks_X8_has rfl (by decide +kernel) ⟨rfl, rfl⟩ ⟨Nat.le_of_ble_eq_true rfl, Nat.le_of_ble_eq_true rfl⟩ ⟨Nat.zero_le _, Nat.zero_le _⟩ hK hE hA hP hD hS ⟨⟨rfl, by decide⟩, ⟨rfl, by decide, by decide⟩, rfl, by decide⟩ rfl hl.1 rfl (Nat.le_of_ble_eq_true rfl) dX8_looks_58 (fun H locs hP hD hS => ?_)
                  have hP : va_P D vwCl [(om, .inr (8, [.ref (mw), .int (nI (ud)), .ref (mt), .int (nI (td)), .int (nI (fy)), .int (nI (su)), .ref (mm), .ref (ml), .ref (mi), .ref (mh), .int (nI (cu)), .int (nI (sa)), .int (nI (nb)), .ref (mr), .int (nI (tn))])), (mw, .inl (cA 0, 1595, arN (upN (rg Z (r + 45) i (lookM (sg Z r))) (r + 45 + i) (Z (r + 45 + i) ||| orN j (seeT (sg Z r) i)))))] _ := hP
                  have hD : va_D A [(om, .inr (8, [.ref (mw), .int (nI (ud)), .ref (mt), .int (nI (td)), .int (nI (fy)), .int (nI (su)), .ref (mm), .ref (ml), .ref (mi), .ref (mh), .int (nI (cu)), .int (nI (sa)), .int (nI (nb)), .ref (mr), .int (nI (tn))])), (mw, .inl (cA 0, 1595, arN (upN (rg Z (r + 45) i (lookM (sg Z r))) (r + 45 + i) (Z (r + 45 + i) ||| orN j (seeT (sg Z r) i)))))] := hD
                  refine lv_if_eq (tgt := 68) hx hb dX8_looks_61 (by decide) (fun c13 => ?_) (fun c13 => ?_)
                  · skip
                    rw [bI_z] at c13
                    refine lv_iconst (v := nI (0)) hx hb dX8_looks_68 (by decide) ?_
                    refine lv_istore (lv' := [(4, .int (nI (0))), (3, .int (nI (j))), (2, .int (nI (i))), (0, .ref (om)), (1, .int (nI (r)))]) hx hb dX8_looks_69 hl (by decide) rfl (fun ls hl => ?_)
                    refine lv_aload_n hx hb dX8_looks_71 rfl (lv_at hl 3 rfl) ?_
                    refine va_get (v := .ref (mw)) (Ts := wsX80) (C := RX8) (T := TX8) (N := 15) hx hb hwsX80 (fun _ h => h) hown hK hP 0 rfl rfl 0 (by decide) (hts (.fieldLink RX8 7 "AdventStreetsModel" "w" "[I") (List.mem_of_getElem? (i := 1) rfl)) (fun _ h9 => h9) rfl dX8_looks_72 ?_
                    refine lv_iload_n hx hb dX8_looks_75 rfl (lv_at hl 4 rfl) ?_
                    refine lv_bipush (v := nI (45)) hx hb dX8_looks_76 (by decide) ?_
                    refine lv_iadd hx hb dX8_looks_78 ?_
                    refine vn_i (v := nI (r + 45)) (nI_add _ _) ?_
                    refine lv_iload_n hx hb dX8_looks_79 rfl (lv_at hl 2 rfl) ?_
                    refine lv_iadd hx hb dX8_looks_80 ?_
                    refine vn_i (v := nI (r + 45 + i)) (nI_add _ _) ?_
                    refine lv_dup2_11 hx hb dX8_looks_81 rfl rfl ?_
                    refine r_ald (f := upN (rg Z (r + 45) i (lookM (sg Z r))) (r + 45 + i) (Z (r + 45 + i) ||| orN j (seeT (sg Z r) i))) hx hb hK hP 1 rfl (i := r + 45 + i) (by omega) (Nat.lt_of_lt_of_le (by omega : 1595 < 1073741824) (by decide)) dX8_looks_82 ?_
                    refine vn_i (v := nI (Z (r + 45 + i) ||| orN j (seeT (sg Z r) i))) (congrArg nI (upN_s)) ?_
                    refine lv_iload hx hb dX8_looks_83 (lv_at hl 0 rfl) ?_
                    refine lv_if_eq (tgt := 104) hx hb dX8_looks_85 (by decide) (fun c14 => ?_) (fun c14 => ?_)
                    · skip
                      rw [n_z (by omega)] at c14
                      refine lv_iconst (v := nI (0)) hx hb dX8_looks_104 (by decide) ?_
                      refine lv_ior hx hb dX8_looks_105 ?_
                      refine vn_i (v := nI ((Z (r + 45 + i) ||| orN j (seeT (sg Z r) i)) ||| 0)) (n_or _ _) ?_
                      refine r_ast (f := upN (rg Z (r + 45) i (lookM (sg Z r))) (r + 45 + i) (Z (r + 45 + i) ||| orN j (seeT (sg Z r) i))) hx hb hK hP hD hS 1 rfl (i := r + 45 + i) (by omega) (Nat.lt_of_lt_of_le (by omega : 1595 < 1073741824) (by decide)) dX8_looks_106 (fun H locs hP hD hS => ?_)
                      have hP : va_P D vwCl [(om, .inr (8, [.ref (mw), .int (nI (ud)), .ref (mt), .int (nI (td)), .int (nI (fy)), .int (nI (su)), .ref (mm), .ref (ml), .ref (mi), .ref (mh), .int (nI (cu)), .int (nI (sa)), .int (nI (nb)), .ref (mr), .int (nI (tn))])), (mw, .inl (cA 0, 1595, arN (upN (upN (rg Z (r + 45) i (lookM (sg Z r))) (r + 45 + i) (Z (r + 45 + i) ||| orN j (seeT (sg Z r) i))) (r + 45 + i) ((Z (r + 45 + i) ||| orN j (seeT (sg Z r) i)) ||| 0))))] _ := hP
                      have hD : va_D A [(om, .inr (8, [.ref (mw), .int (nI (ud)), .ref (mt), .int (nI (td)), .int (nI (fy)), .int (nI (su)), .ref (mm), .ref (ml), .ref (mi), .ref (mh), .int (nI (cu)), .int (nI (sa)), .int (nI (nb)), .ref (mr), .int (nI (tn))])), (mw, .inl (cA 0, 1595, arN (upN (upN (rg Z (r + 45) i (lookM (sg Z r))) (r + 45 + i) (Z (r + 45 + i) ||| orN j (seeT (sg Z r) i))) (r + 45 + i) ((Z (r + 45 + i) ||| orN j (seeT (sg Z r) i)) ||| 0))))] := hD
                      refine lv_iinc (v := nI (j + 1)) (lv' := [(3, .int (nI (j + 1))), (4, .int (nI (0))), (2, .int (nI (i))), (0, .ref (om)), (1, .int (nI (r)))]) hx hb dX8_looks_107 hl (k := 1) rfl (nI_add _ _) (by decide) rfl (fun ls hl => ?_)
                      refine lv_goto (tgt := 16) hx hb dX8_looks_110 (by decide) ?_
                      have ew15 : upN (upN (rg Z (r + 45) i (lookM (sg Z r))) (r + 45 + i) (Z (r + 45 + i) ||| orN j (seeT (sg Z r) i))) (r + 45 + i) ((Z (r + 45 + i) ||| orN j (seeT (sg Z r) i)) ||| 0) = upN (rg Z (r + 45) i (lookM (sg Z r))) (r + 45 + i) (Z (r + 45 + i) ||| orN (j + 1) (seeT (sg Z r) i)) := by
                        exact lk_s (by unfold seeT; rw [if_neg c7, if_pos (show gapN j i ≤ Z (r + 2) from by omega), if_neg (by rw [show (So (sg Z r)).testBit j = false from c13]; simp)])
                      have hP : va_P D vwCl [(om, .inr (8, [.ref (mw), .int (nI (ud)), .ref (mt), .int (nI (td)), .int (nI (fy)), .int (nI (su)), .ref (mm), .ref (ml), .ref (mi), .ref (mh), .int (nI (cu)), .int (nI (sa)), .int (nI (nb)), .ref (mr), .int (nI (tn))])), (mw, .inl (cA 0, 1595, arN (upN (rg Z (r + 45) i (lookM (sg Z r))) (r + 45 + i) (Z (r + 45 + i) ||| orN (j + 1) (seeT (sg Z r) i)))))] _ := Eq.mp (congrArg (fun z9 => va_P D vwCl [(om, .inr (8, [.ref (mw), .int (nI (ud)), .ref (mt), .int (nI (td)), .int (nI (fy)), .int (nI (su)), .ref (mm), .ref (ml), .ref (mi), .ref (mh), .int (nI (cu)), .int (nI (sa)), .int (nI (nb)), .ref (mr), .int (nI (tn))])), (mw, .inl (cA 0, 1595, arN z9))] _) ew15) hP
                      have hD : va_D A [(om, .inr (8, [.ref (mw), .int (nI (ud)), .ref (mt), .int (nI (td)), .int (nI (fy)), .int (nI (su)), .ref (mm), .ref (ml), .ref (mi), .ref (mh), .int (nI (cu)), .int (nI (sa)), .int (nI (nb)), .ref (mr), .int (nI (tn))])), (mw, .inl (cA 0, 1595, arN (upN (rg Z (r + 45) i (lookM (sg Z r))) (r + 45 + i) (Z (r + 45 + i) ||| orN (j + 1) (seeT (sg Z r) i)))))] := Eq.mp (congrArg (fun z9 => va_D A [(om, .inr (8, [.ref (mw), .int (nI (ud)), .ref (mt), .int (nI (td)), .int (nI (fy)), .int (nI (su)), .ref (mm), .ref (ml), .ref (mi), .ref (mh), .int (nI (cu)), .int (nI (sa)), .int (nI (nb)), .ref (mr), .int (nI (tn))])), (mw, .inl (cA 0, 1595, arN z9))]) ew15) hD
                      have hl9 := lv_sub (l' := [(3, .int (nI (j + 1))), (2, .int (nI (i))), (0, .ref (om)), (1, .int (nI (r)))]) hl [0, 2, 3, 4] rfl
                      exact ih16 (j + 1) (by omega) (by omega) _ _ _ hP hD hS hl9
                    · skip
                      rw [n_z (by omega)] at c14
                      exact absurd c14 (by decide)
                  · skip
                    rw [bI_nz] at c13
                    refine lv_iconst (v := nI (1)) hx hb dX8_looks_64 (by decide) ?_
                    refine lv_goto (tgt := 69) hx hb dX8_looks_65 (by decide) ?_
                    refine lv_istore (lv' := [(4, .int (nI (1))), (3, .int (nI (j))), (2, .int (nI (i))), (0, .ref (om)), (1, .int (nI (r)))]) hx hb dX8_looks_69 hl (by decide) rfl (fun ls hl => ?_)
                    refine lv_aload_n hx hb dX8_looks_71 rfl (lv_at hl 3 rfl) ?_
                    refine va_get (v := .ref (mw)) (Ts := wsX80) (C := RX8) (T := TX8) (N := 15) hx hb hwsX80 (fun _ h => h) hown hK hP 0 rfl rfl 0 (by decide) (hts (.fieldLink RX8 7 "AdventStreetsModel" "w" "[I") (List.mem_of_getElem? (i := 1) rfl)) (fun _ h9 => h9) rfl dX8_looks_72 ?_
                    refine lv_iload_n hx hb dX8_looks_75 rfl (lv_at hl 4 rfl) ?_
                    refine lv_bipush (v := nI (45)) hx hb dX8_looks_76 (by decide) ?_
                    refine lv_iadd hx hb dX8_looks_78 ?_
                    refine vn_i (v := nI (r + 45)) (nI_add _ _) ?_
                    refine lv_iload_n hx hb dX8_looks_79 rfl (lv_at hl 2 rfl) ?_
                    refine lv_iadd hx hb dX8_looks_80 ?_
                    refine vn_i (v := nI (r + 45 + i)) (nI_add _ _) ?_
                    refine lv_dup2_11 hx hb dX8_looks_81 rfl rfl ?_
                    refine r_ald (f := upN (rg Z (r + 45) i (lookM (sg Z r))) (r + 45 + i) (Z (r + 45 + i) ||| orN j (seeT (sg Z r) i))) hx hb hK hP 1 rfl (i := r + 45 + i) (by omega) (Nat.lt_of_lt_of_le (by omega : 1595 < 1073741824) (by decide)) dX8_looks_82 ?_
                    refine vn_i (v := nI (Z (r + 45 + i) ||| orN j (seeT (sg Z r) i))) (congrArg nI (upN_s)) ?_
                    refine lv_iload hx hb dX8_looks_83 (lv_at hl 0 rfl) ?_
                    refine lv_if_eq (tgt := 104) hx hb dX8_looks_85 (by decide) (fun c16 => ?_) (fun c16 => ?_)
                    · skip
                      rw [n_z (by omega)] at c16
                      exact absurd c16 (by decide)
                    · skip
                      rw [n_z (by omega)] at c16
                      refine lv_iconst (v := nI (1)) hx hb dX8_looks_88 (by decide) ?_
                      refine lv_aload_n hx hb dX8_looks_89 rfl (lv_at hl 3 rfl) ?_
                      refine va_get (v := .ref (mw)) (Ts := wsX80) (C := RX8) (T := TX8) (N := 15) hx hb hwsX80 (fun _ h => h) hown hK hP 0 rfl rfl 0 (by decide) (hts (.fieldLink RX8 7 "AdventStreetsModel" "w" "[I") (List.mem_of_getElem? (i := 1) rfl)) (fun _ h9 => h9) rfl dX8_looks_90 ?_
                      refine lv_iload_n hx hb dX8_looks_93 rfl (lv_at hl 4 rfl) ?_
                      refine lv_bipush (v := nI (15)) hx hb dX8_looks_94 (by decide) ?_
                      refine lv_iadd hx hb dX8_looks_96 ?_
                      refine vn_i (v := nI (r + 15)) (nI_add _ _) ?_
                      refine lv_iload_n hx hb dX8_looks_97 rfl (lv_at hl 1 rfl) ?_
                      refine lv_iadd hx hb dX8_looks_98 ?_
                      refine vn_i (v := nI (r + 15 + j)) (nI_add _ _) ?_
                      refine r_ald (f := upN (rg Z (r + 45) i (lookM (sg Z r))) (r + 45 + i) (Z (r + 45 + i) ||| orN j (seeT (sg Z r) i))) hx hb hK hP 1 rfl (i := r + 15 + j) (by omega) (Nat.lt_of_lt_of_le (by omega : 1595 < 1073741824) (by decide)) dX8_looks_99 ?_
                      refine vn_i (v := nI (Z (r + 15 + j))) (congrArg nI ((upN_n (by omega)).trans (rg_out (by omega)))) ?_
                      refine lv_ishl hx hb dX8_looks_100 ?_
                      refine vn_i (v := nI (2 ^ (Z (r + 15 + j)))) (n_shl1 (by omega)) ?_
                      refine lv_goto (tgt := 105) hx hb dX8_looks_101 (by decide) ?_
                      refine lv_ior hx hb dX8_looks_105 ?_
                      refine vn_i (v := nI ((Z (r + 45 + i) ||| orN j (seeT (sg Z r) i)) ||| (2 ^ (Z (r + 15 + j))))) (n_or _ _) ?_
                      refine r_ast (f := upN (rg Z (r + 45) i (lookM (sg Z r))) (r + 45 + i) (Z (r + 45 + i) ||| orN j (seeT (sg Z r) i))) hx hb hK hP hD hS 1 rfl (i := r + 45 + i) (by omega) (Nat.lt_of_lt_of_le (by omega : 1595 < 1073741824) (by decide)) dX8_looks_106 (fun H locs hP hD hS => ?_)
                      have hP : va_P D vwCl [(om, .inr (8, [.ref (mw), .int (nI (ud)), .ref (mt), .int (nI (td)), .int (nI (fy)), .int (nI (su)), .ref (mm), .ref (ml), .ref (mi), .ref (mh), .int (nI (cu)), .int (nI (sa)), .int (nI (nb)), .ref (mr), .int (nI (tn))])), (mw, .inl (cA 0, 1595, arN (upN (upN (rg Z (r + 45) i (lookM (sg Z r))) (r + 45 + i) (Z (r + 45 + i) ||| orN j (seeT (sg Z r) i))) (r + 45 + i) ((Z (r + 45 + i) ||| orN j (seeT (sg Z r) i)) ||| (2 ^ (Z (r + 15 + j)))))))] _ := hP
                      have hD : va_D A [(om, .inr (8, [.ref (mw), .int (nI (ud)), .ref (mt), .int (nI (td)), .int (nI (fy)), .int (nI (su)), .ref (mm), .ref (ml), .ref (mi), .ref (mh), .int (nI (cu)), .int (nI (sa)), .int (nI (nb)), .ref (mr), .int (nI (tn))])), (mw, .inl (cA 0, 1595, arN (upN (upN (rg Z (r + 45) i (lookM (sg Z r))) (r + 45 + i) (Z (r + 45 + i) ||| orN j (seeT (sg Z r) i))) (r + 45 + i) ((Z (r + 45 + i) ||| orN j (seeT (sg Z r) i)) ||| (2 ^ (Z (r + 15 + j)))))))] := hD
                      refine lv_iinc (v := nI (j + 1)) (lv' := [(3, .int (nI (j + 1))), (4, .int (nI (1))), (2, .int (nI (i))), (0, .ref (om)), (1, .int (nI (r)))]) hx hb dX8_looks_107 hl (k := 1) rfl (nI_add _ _) (by decide) rfl (fun ls hl => ?_)
                      refine lv_goto (tgt := 16) hx hb dX8_looks_110 (by decide) ?_
                      have ew17 : upN (upN (rg Z (r + 45) i (lookM (sg Z r))) (r + 45 + i) (Z (r + 45 + i) ||| orN j (seeT (sg Z r) i))) (r + 45 + i) ((Z (r + 45 + i) ||| orN j (seeT (sg Z r) i)) ||| (2 ^ (Z (r + 15 + j)))) = upN (rg Z (r + 45) i (lookM (sg Z r))) (r + 45 + i) (Z (r + 45 + i) ||| orN (j + 1) (seeT (sg Z r) i)) := by
                        exact lk_s (by unfold seeT; rw [if_neg c7, if_pos (show gapN j i ≤ Z (r + 2) from by omega), if_pos c13])
                      have hP : va_P D vwCl [(om, .inr (8, [.ref (mw), .int (nI (ud)), .ref (mt), .int (nI (td)), .int (nI (fy)), .int (nI (su)), .ref (mm), .ref (ml), .ref (mi), .ref (mh), .int (nI (cu)), .int (nI (sa)), .int (nI (nb)), .ref (mr), .int (nI (tn))])), (mw, .inl (cA 0, 1595, arN (upN (rg Z (r + 45) i (lookM (sg Z r))) (r + 45 + i) (Z (r + 45 + i) ||| orN (j + 1) (seeT (sg Z r) i)))))] _ := Eq.mp (congrArg (fun z9 => va_P D vwCl [(om, .inr (8, [.ref (mw), .int (nI (ud)), .ref (mt), .int (nI (td)), .int (nI (fy)), .int (nI (su)), .ref (mm), .ref (ml), .ref (mi), .ref (mh), .int (nI (cu)), .int (nI (sa)), .int (nI (nb)), .ref (mr), .int (nI (tn))])), (mw, .inl (cA 0, 1595, arN z9))] _) ew17) hP
                      have hD : va_D A [(om, .inr (8, [.ref (mw), .int (nI (ud)), .ref (mt), .int (nI (td)), .int (nI (fy)), .int (nI (su)), .ref (mm), .ref (ml), .ref (mi), .ref (mh), .int (nI (cu)), .int (nI (sa)), .int (nI (nb)), .ref (mr), .int (nI (tn))])), (mw, .inl (cA 0, 1595, arN (upN (rg Z (r + 45) i (lookM (sg Z r))) (r + 45 + i) (Z (r + 45 + i) ||| orN (j + 1) (seeT (sg Z r) i)))))] := Eq.mp (congrArg (fun z9 => va_D A [(om, .inr (8, [.ref (mw), .int (nI (ud)), .ref (mt), .int (nI (td)), .int (nI (fy)), .int (nI (su)), .ref (mm), .ref (ml), .ref (mi), .ref (mh), .int (nI (cu)), .int (nI (sa)), .int (nI (nb)), .ref (mr), .int (nI (tn))])), (mw, .inl (cA 0, 1595, arN z9))]) ew17) hD
                      have hl9 := lv_sub (l' := [(3, .int (nI (j + 1))), (2, .int (nI (i))), (0, .ref (om)), (1, .int (nI (r)))]) hl [0, 2, 3, 4] rfl
                      exact ih16 (j + 1) (by omega) (by omega) _ _ _ hP hD hS hl9
        have ew18 : rg Z (r + 45) i (lookM (sg Z r)) = upN (rg Z (r + 45) i (lookM (sg Z r))) (r + 45 + i) (Z (r + 45 + i) ||| orN 0 (seeT (sg Z r) i)) := by
          exact lk_0
        have hP : va_P D vwCl [(om, .inr (8, [.ref (mw), .int (nI (ud)), .ref (mt), .int (nI (td)), .int (nI (fy)), .int (nI (su)), .ref (mm), .ref (ml), .ref (mi), .ref (mh), .int (nI (cu)), .int (nI (sa)), .int (nI (nb)), .ref (mr), .int (nI (tn))])), (mw, .inl (cA 0, 1595, arN (upN (rg Z (r + 45) i (lookM (sg Z r))) (r + 45 + i) (Z (r + 45 + i) ||| orN 0 (seeT (sg Z r) i)))))] _ := Eq.mp (congrArg (fun z9 => va_P D vwCl [(om, .inr (8, [.ref (mw), .int (nI (ud)), .ref (mt), .int (nI (td)), .int (nI (fy)), .int (nI (su)), .ref (mm), .ref (ml), .ref (mi), .ref (mh), .int (nI (cu)), .int (nI (sa)), .int (nI (nb)), .ref (mr), .int (nI (tn))])), (mw, .inl (cA 0, 1595, arN z9))] _) ew18) hP
        have hD : va_D A [(om, .inr (8, [.ref (mw), .int (nI (ud)), .ref (mt), .int (nI (td)), .int (nI (fy)), .int (nI (su)), .ref (mm), .ref (ml), .ref (mi), .ref (mh), .int (nI (cu)), .int (nI (sa)), .int (nI (nb)), .ref (mr), .int (nI (tn))])), (mw, .inl (cA 0, 1595, arN (upN (rg Z (r + 45) i (lookM (sg Z r))) (r + 45 + i) (Z (r + 45 + i) ||| orN 0 (seeT (sg Z r) i)))))] := Eq.mp (congrArg (fun z9 => va_D A [(om, .inr (8, [.ref (mw), .int (nI (ud)), .ref (mt), .int (nI (td)), .int (nI (fy)), .int (nI (su)), .ref (mm), .ref (ml), .ref (mi), .ref (mh), .int (nI (cu)), .int (nI (sa)), .int (nI (nb)), .ref (mr), .int (nI (tn))])), (mw, .inl (cA 0, 1595, arN z9))]) ew18) hD
        have hl9 := lv_sub (l' := [(3, .int (nI (0))), (2, .int (nI (i))), (0, .ref (om)), (1, .int (nI (r)))]) hl [0, 1, 2, 3] rfl
        exact loop16 _ 0 (by omega) (Nat.lt_succ_self _) _ _ _ hP hD hS hl9
  have ew19 : Z = rg Z (r + 45) 0 (lookM (sg Z r)) := by
    exact (rg_0 _ _ _).symm
  have hP : va_P D vwCl [(om, .inr (8, [.ref (mw), .int (nI (ud)), .ref (mt), .int (nI (td)), .int (nI (fy)), .int (nI (su)), .ref (mm), .ref (ml), .ref (mi), .ref (mh), .int (nI (cu)), .int (nI (sa)), .int (nI (nb)), .ref (mr), .int (nI (tn))])), (mw, .inl (cA 0, 1595, arN (rg Z (r + 45) 0 (lookM (sg Z r)))))] _ := Eq.mp (congrArg (fun z9 => va_P D vwCl [(om, .inr (8, [.ref (mw), .int (nI (ud)), .ref (mt), .int (nI (td)), .int (nI (fy)), .int (nI (su)), .ref (mm), .ref (ml), .ref (mi), .ref (mh), .int (nI (cu)), .int (nI (sa)), .int (nI (nb)), .ref (mr), .int (nI (tn))])), (mw, .inl (cA 0, 1595, arN z9))] _) ew19) hP
  have hD : va_D A [(om, .inr (8, [.ref (mw), .int (nI (ud)), .ref (mt), .int (nI (td)), .int (nI (fy)), .int (nI (su)), .ref (mm), .ref (ml), .ref (mi), .ref (mh), .int (nI (cu)), .int (nI (sa)), .int (nI (nb)), .ref (mr), .int (nI (tn))])), (mw, .inl (cA 0, 1595, arN (rg Z (r + 45) 0 (lookM (sg Z r)))))] := Eq.mp (congrArg (fun z9 => va_D A [(om, .inr (8, [.ref (mw), .int (nI (ud)), .ref (mt), .int (nI (td)), .int (nI (fy)), .int (nI (su)), .ref (mm), .ref (ml), .ref (mi), .ref (mh), .int (nI (cu)), .int (nI (sa)), .int (nI (nb)), .ref (mr), .int (nI (tn))])), (mw, .inl (cA 0, 1595, arN z9))]) ew19) hD
  have hl9 := lv_sub (l' := [(2, .int (nI (0))), (0, .ref (om)), (1, .int (nI (r)))]) hl [0, 1, 2] rfl
  exact loop2 _ 0 (by omega) (Nat.lt_succ_self _) _ _ _ hP hD hS hl9
set_option maxRecDepth 100000 in
set_option maxHeartbeats 4000000 in
theorem c_X8_passes (l : Launch) (D : va_G) (cA : Nat → ClassId) (tt : Nat → Nat) (om mw mt mm ml mi mh mr ud td fy su cu sa nb tn : Nat) (Z : Nat → Nat) (r : Nat) (hg : Wf (sg Z r)) (hr : r + 55 ≤ 1595) (he : 0 < Z (r + 1)) (ht : Z (r + 3) < 1073741823) (sz : Nat) : Ci l D cA tt yX8_passes wsX8_passes ({ frames := 3, cells := 0, slots := 0, locals := 67 } : Room) [.ref (om), .int (nI (r))] sz [(om, .inr (8, [.ref (mw), .int (nI (ud)), .ref (mt), .int (nI (td)), .int (nI (fy)), .int (nI (su)), .ref (mm), .ref (ml), .ref (mi), .ref (mh), .int (nI (cu)), .int (nI (sa)), .int (nI (nb)), .ref (mr), .int (nI (tn))])), (mw, .inl (cA 0, 1595, arN Z))] [(om, .inr (8, [.ref (mw), .int (nI (ud)), .ref (mt), .int (nI (td)), .int (nI (fy)), .int (nI (su)), .ref (mm), .ref (ml), .ref (mi), .ref (mh), .int (nI (cu)), .int (nI (sa)), .int (nI (nb)), .ref (mr), .int (nI (tn))])), (mw, .inl (cA 0, 1595, arN (passW Z r)))] (nI (passO (sg Z r))) := by
  obtain ⟨gn, ge, gv, go, ga⟩ := wfW hg
  have gpo : passO (sg Z r) < 1024 := passO_lt gn
  have gor : Z (r + 4) ||| passO (sg Z r) < 1024 := or10 go gpo
  have gw1 := wf_lk (wf_o hg gor)
  have gdd := date_lt gw1
  refine Ci.mk (cc := cX8_passes) (maxL := 4) (ty := .int) (by decide) rfl rfl (Nat.le_of_ble_eq_true rfl) ?_
  intro p e s m below meth c A Q ls hB hl hend
  obtain ⟨⟨hx, hb, hml, hown, hts⟩, hP, hK, hD, hS, hA, hE⟩ := hB
  have hown : s.vm.findClass RX8 = some m.cls := hown
  have hwsX80 : ∀ w9 ∈ wsX80, w9.before ([.ref (om), .int (nI (r))] : List Value).toArray s = true := fun w9 h => hts w9 (List.mem_cons_of_mem _ (List.mem_append_right _ h))
  have hl : lv_has ls 4 [(0, .ref (om)), (1, .int (nI (r)))] := hl
  refine lv_iconst (v := nI (0)) hx hb dX8_passes_0 (by decide) ?_
  refine lv_istore_n (lv' := [(2, .int (nI (0))), (0, .ref (om)), (1, .int (nI (r)))]) hx hb dX8_passes_1 rfl hl (by decide) rfl (fun ls hl => ?_)
  refine lv_iconst (v := nI (0)) hx hb dX8_passes_2 (by decide) ?_
  refine lv_istore_n (lv' := [(3, .int (nI (0))), (2, .int (nI (0))), (0, .ref (om)), (1, .int (nI (r)))]) hx hb dX8_passes_3 rfl hl (by decide) rfl (fun ls hl => ?_)
  have loop4 : ∀ (N4 : Nat) (i : Nat), (i ≤ Z r) → (Z r - i) < N4 → ∀ (H : Heap) (locs : List Loc) (ls : Array Slot), va_P D vwCl [(om, .inr (8, [.ref (mw), .int (nI (ud)), .ref (mt), .int (nI (td)), .int (nI (fy)), .int (nI (su)), .ref (mm), .ref (ml), .ref (mi), .ref (mh), .int (nI (cu)), .int (nI (sa)), .int (nI (nb)), .ref (mr), .int (nI (tn))])), (mw, .inl (cA 0, 1595, arN Z))] H → va_D A [(om, .inr (8, [.ref (mw), .int (nI (ud)), .ref (mt), .int (nI (td)), .int (nI (fy)), .int (nI (su)), .ref (mm), .ref (ml), .ref (mi), .ref (mh), .int (nI (cu)), .int (nI (sa)), .int (nI (nb)), .ref (mr), .int (nI (tn))])), (mw, .inl (cA 0, 1595, arN Z))] → va_S A s.heap H locs → lv_has ls 4 [(3, .int (nI (i))), (2, .int (nI (mkb i (passP (sg Z r))))), (0, .ref (om)), (1, .int (nI (r)))] → W p l e ({ frames := 3, cells := 0, slots := 0, locals := 67 } : Room) s m ([.ref (om), .int (nI (r))] : List Value).toArray below meth c H locs 0 0 Q (F0 m 4 ls []) := by
    intro N4
    induction N4 with
    | zero => intro i iv4_0 hN; exact absurd hN (Nat.not_lt_zero _)
    | succ N4 ih4 =>
      intro i iv4_0 hN4 H locs ls hP hD hS hl
      refine lv_iload_n hx hb dX8_passes_4 rfl (lv_at hl 0 rfl) ?_
      refine lv_aload_n hx hb dX8_passes_5 rfl (lv_at hl 2 rfl) ?_
      refine va_get (v := .ref (mw)) (Ts := wsX80) (C := RX8) (T := TX8) (N := 15) hx hb hwsX80 (fun _ h => h) hown hK hP 0 rfl rfl 0 (by decide) (hts (.fieldLink RX8 7 "AdventStreetsModel" "w" "[I") (List.mem_of_getElem? (i := 1) rfl)) (fun _ h9 => h9) rfl dX8_passes_6 ?_
      refine lv_iload_n hx hb dX8_passes_9 rfl (lv_at hl 3 rfl) ?_
      refine lv_iconst (v := nI (0)) hx hb dX8_passes_10 (by decide) ?_
      refine lv_iadd hx hb dX8_passes_11 ?_
      refine vn_i (v := nI (r)) (nI_add _ _) ?_
      refine r_ald (f := Z) hx hb hK hP 1 rfl (i := r) (by omega) (Nat.lt_of_lt_of_le (by omega : 1595 < 1073741824) (by decide)) dX8_passes_12 ?_
      refine lv_icmp_ge (tgt := 56) hx hb dX8_passes_13 (by decide) (fun c2 => ?_) (fun c2 => ?_)
      · skip
        rw [nI_leI (by omega) (by omega)] at c2
        have ei9 : i = Z r := by omega
        subst ei9
        refine lv_aload_n hx hb dX8_passes_56 rfl (lv_at hl 2 rfl) ?_
        refine va_get (v := .ref (mw)) (Ts := wsX80) (C := RX8) (T := TX8) (N := 15) hx hb hwsX80 (fun _ h => h) hown hK hP 0 rfl rfl 0 (by decide) (hts (.fieldLink RX8 7 "AdventStreetsModel" "w" "[I") (List.mem_of_getElem? (i := 1) rfl)) (fun _ h9 => h9) rfl dX8_passes_57 ?_
        refine lv_iload_n hx hb dX8_passes_60 rfl (lv_at hl 3 rfl) ?_
        refine lv_iconst (v := nI (4)) hx hb dX8_passes_61 (by decide) ?_
        refine lv_iadd hx hb dX8_passes_62 ?_
        refine vn_i (v := nI (r + 4)) (nI_add _ _) ?_
        refine lv_dup2_11 hx hb dX8_passes_63 rfl rfl ?_
        refine r_ald (f := Z) hx hb hK hP 1 rfl (i := r + 4) (by omega) (Nat.lt_of_lt_of_le (by omega : 1595 < 1073741824) (by decide)) dX8_passes_64 ?_
        refine lv_iload_n hx hb dX8_passes_65 rfl (lv_at hl 1 rfl) ?_
        refine lv_ior hx hb dX8_passes_66 ?_
        refine vn_i (v := nI ((Z (r + 4)) ||| (passO (sg Z r)))) (n_or _ _) ?_
        refine r_ast (f := Z) hx hb hK hP hD hS 1 rfl (i := r + 4) (by omega) (Nat.lt_of_lt_of_le (by omega : 1595 < 1073741824) (by decide)) dX8_passes_67 (fun H locs hP hD hS => ?_)
        have hP : va_P D vwCl [(om, .inr (8, [.ref (mw), .int (nI (ud)), .ref (mt), .int (nI (td)), .int (nI (fy)), .int (nI (su)), .ref (mm), .ref (ml), .ref (mi), .ref (mh), .int (nI (cu)), .int (nI (sa)), .int (nI (nb)), .ref (mr), .int (nI (tn))])), (mw, .inl (cA 0, 1595, arN (upN Z (r + 4) ((Z (r + 4)) ||| (passO (sg Z r))))))] _ := hP
        have hD : va_D A [(om, .inr (8, [.ref (mw), .int (nI (ud)), .ref (mt), .int (nI (td)), .int (nI (fy)), .int (nI (su)), .ref (mm), .ref (ml), .ref (mi), .ref (mh), .int (nI (cu)), .int (nI (sa)), .int (nI (nb)), .ref (mr), .int (nI (tn))])), (mw, .inl (cA 0, 1595, arN (upN Z (r + 4) ((Z (r + 4)) ||| (passO (sg Z r))))))] := hD
        refine lv_aload_n hx hb dX8_passes_68 rfl (lv_at hl 2 rfl) ?_
        refine lv_iload_n hx hb dX8_passes_69 rfl (lv_at hl 3 rfl) ?_
        refine cVv (n := 1) (As := [.int (nI (r))]) (rest := []) (C := RX8) (ci := 8) (q0 := 0) (X := [(om, .inr (8, [.ref (mw), .int (nI (ud)), .ref (mt), .int (nI (td)), .int (nI (fy)), .int (nI (su)), .ref (mm), .ref (ml), .ref (mi), .ref (mh), .int (nI (cu)), .int (nI (sa)), .int (nI (nb)), .ref (mr), .int (nI (tn))])), (mw, .inl (cA 0, 1595, arN (upN Z (r + 4) ((Z (r + 4)) ||| (passO (sg Z r))))))]) (pl := []) (wc := [(om, .inr (8, [.ref (mw), .int (nI (ud)), .ref (mt), .int (nI (td)), .int (nI (fy)), .int (nI (su)), .ref (mm), .ref (ml), .ref (mi), .ref (mh), .int (nI (cu)), .int (nI (sa)), .int (nI (nb)), .ref (mr), .int (nI (tn))])), (mw, .inl (cA 0, 1595, arN (upN Z (r + 4) ((Z (r + 4)) ||| (passO (sg Z r))))))]) (wr := ([] : va_W)) (w1 := [(om, .inr (8, [.ref (mw), .int (nI (ud)), .ref (mt), .int (nI (td)), .int (nI (fy)), .int (nI (su)), .ref (mm), .ref (ml), .ref (mi), .ref (mh), .int (nI (cu)), .int (nI (sa)), .int (nI (nb)), .ref (mr), .int (nI (tn))])), (mw, .inl (cA 0, 1595, arN (lkW (upN Z (r + 4) ((Z (r + 4)) ||| (passO (sg Z r)))) r)))]) (wn := [(om, .inr (8, [.ref (mw), .int (nI (ud)), .ref (mt), .int (nI (td)), .int (nI (fy)), .int (nI (su)), .ref (mm), .ref (ml), .ref (mi), .ref (mh), .int (nI (cu)), .int (nI (sa)), .int (nI (nb)), .ref (mr), .int (nI (tn))])), (mw, .inl (cA 0, 1595, arN (lkW (upN Z (r + 4) ((Z (r + 4)) ||| (passO (sg Z r)))) r)))]) (isC := [0, 1]) (isR := []) (isN := [0, 1]) ⟨hx, hb, hml, hown, hts⟩ (c_X8_looks l D cA tt om mw mt mm ml mi mh mr ud td fy su cu sa nb tn (upN Z (r + 4) ((Z (r + 4)) ||| (passO (sg Z r)))) r (wf_o hg gor) (hr) _) gX8_passes_X8_looks rfl (by decide +kernel) rfl rfl ⟨rfl, rfl⟩ ⟨Nat.le_of_ble_eq_true rfl, Nat.le_of_ble_eq_true rfl⟩ ⟨Nat.zero_le _, Nat.zero_le _⟩ hK hE hA hP hD hS ⟨⟨rfl, by decide⟩, ⟨rfl, by decide, by decide⟩, rfl, by decide⟩ rfl hl.1 rfl (Nat.le_of_ble_eq_true rfl) dX8_passes_70 (fun H locs hP hD hS => ?_)
        have hP : va_P D vwCl [(om, .inr (8, [.ref (mw), .int (nI (ud)), .ref (mt), .int (nI (td)), .int (nI (fy)), .int (nI (su)), .ref (mm), .ref (ml), .ref (mi), .ref (mh), .int (nI (cu)), .int (nI (sa)), .int (nI (nb)), .ref (mr), .int (nI (tn))])), (mw, .inl (cA 0, 1595, arN (lkW (upN Z (r + 4) ((Z (r + 4)) ||| (passO (sg Z r)))) r)))] _ := hP
        have hD : va_D A [(om, .inr (8, [.ref (mw), .int (nI (ud)), .ref (mt), .int (nI (td)), .int (nI (fy)), .int (nI (su)), .ref (mm), .ref (ml), .ref (mi), .ref (mh), .int (nI (cu)), .int (nI (sa)), .int (nI (nb)), .ref (mr), .int (nI (tn))])), (mw, .inl (cA 0, 1595, arN (lkW (upN Z (r + 4) ((Z (r + 4)) ||| (passO (sg Z r)))) r)))] := hD
        refine lv_aload_n hx hb dX8_passes_73 rfl (lv_at hl 2 rfl) ?_
        refine lv_iload_n hx hb dX8_passes_74 rfl (lv_at hl 3 rfl) ?_
        refine cVi (n := 1) (As := [.int (nI (r))]) (rest := []) (C := RX8) (ci := 8) (q0 := 0) (X := [(om, .inr (8, [.ref (mw), .int (nI (ud)), .ref (mt), .int (nI (td)), .int (nI (fy)), .int (nI (su)), .ref (mm), .ref (ml), .ref (mi), .ref (mh), .int (nI (cu)), .int (nI (sa)), .int (nI (nb)), .ref (mr), .int (nI (tn))])), (mw, .inl (cA 0, 1595, arN (lkW (upN Z (r + 4) ((Z (r + 4)) ||| (passO (sg Z r)))) r)))]) (pl := []) (wc := [(om, .inr (8, [.ref (mw), .int (nI (ud)), .ref (mt), .int (nI (td)), .int (nI (fy)), .int (nI (su)), .ref (mm), .ref (ml), .ref (mi), .ref (mh), .int (nI (cu)), .int (nI (sa)), .int (nI (nb)), .ref (mr), .int (nI (tn))])), (mw, .inl (cA 0, 1595, arN (lkW (upN Z (r + 4) ((Z (r + 4)) ||| (passO (sg Z r)))) r)))]) (wr := ([] : va_W)) (w1 := [(om, .inr (8, [.ref (mw), .int (nI (ud)), .ref (mt), .int (nI (td)), .int (nI (fy)), .int (nI (su)), .ref (mm), .ref (ml), .ref (mi), .ref (mh), .int (nI (cu)), .int (nI (sa)), .int (nI (nb)), .ref (mr), .int (nI (tn))])), (mw, .inl (cA 0, 1595, arN (lkW (upN Z (r + 4) ((Z (r + 4)) ||| (passO (sg Z r)))) r)))]) (wn := [(om, .inr (8, [.ref (mw), .int (nI (ud)), .ref (mt), .int (nI (td)), .int (nI (fy)), .int (nI (su)), .ref (mm), .ref (ml), .ref (mi), .ref (mh), .int (nI (cu)), .int (nI (sa)), .int (nI (nb)), .ref (mr), .int (nI (tn))])), (mw, .inl (cA 0, 1595, arN (lkW (upN Z (r + 4) ((Z (r + 4)) ||| (passO (sg Z r)))) r)))]) (isC := [0, 1]) (isR := []) (isN := [0, 1]) ⟨hx, hb, hml, hown, hts⟩ (c_X8_dateOf l D cA tt om mw mt mm ml mi mh mr ud td fy su cu sa nb tn (lkW (upN Z (r + 4) ((Z (r + 4)) ||| (passO (sg Z r)))) r) r (gw1) (hr) (by rw [lkW_o (by omega), upN_n (by omega)]; exact he) (by rw [lkW_o (by omega), upN_n (by omega)]; omega) _) gX8_passes_X8_dateOf rfl (by decide +kernel) rfl rfl ⟨rfl, rfl⟩ ⟨Nat.le_of_ble_eq_true rfl, Nat.le_of_ble_eq_true rfl⟩ ⟨Nat.zero_le _, Nat.zero_le _⟩ hK hE hA hP hD hS ⟨⟨rfl, by decide⟩, ⟨rfl, by decide, by decide⟩, rfl, by decide⟩ rfl hl.1 rfl (Nat.le_of_ble_eq_true rfl) dX8_passes_75 (fun H locs hP hD hS => ?_)
        have hP : va_P D vwCl [(om, .inr (8, [.ref (mw), .int (nI (ud)), .ref (mt), .int (nI (td)), .int (nI (fy)), .int (nI (su)), .ref (mm), .ref (ml), .ref (mi), .ref (mh), .int (nI (cu)), .int (nI (sa)), .int (nI (nb)), .ref (mr), .int (nI (tn))])), (mw, .inl (cA 0, 1595, arN (lkW (upN Z (r + 4) ((Z (r + 4)) ||| (passO (sg Z r)))) r)))] _ := hP
        have hD : va_D A [(om, .inr (8, [.ref (mw), .int (nI (ud)), .ref (mt), .int (nI (td)), .int (nI (fy)), .int (nI (su)), .ref (mm), .ref (ml), .ref (mi), .ref (mh), .int (nI (cu)), .int (nI (sa)), .int (nI (nb)), .ref (mr), .int (nI (tn))])), (mw, .inl (cA 0, 1595, arN (lkW (upN Z (r + 4) ((Z (r + 4)) ||| (passO (sg Z r)))) r)))] := hD
        refine lv_aload_n hx hb dX8_passes_78 rfl (lv_at hl 2 rfl) ?_
        refine va_get (v := .ref (mw)) (Ts := wsX80) (C := RX8) (T := TX8) (N := 15) hx hb hwsX80 (fun _ h => h) hown hK hP 0 rfl rfl 0 (by decide) (hts (.fieldLink RX8 7 "AdventStreetsModel" "w" "[I") (List.mem_of_getElem? (i := 1) rfl)) (fun _ h9 => h9) rfl dX8_passes_79 ?_
        refine lv_iload_n hx hb dX8_passes_82 rfl (lv_at hl 3 rfl) ?_
        refine lv_iconst (v := nI (1)) hx hb dX8_passes_83 (by decide) ?_
        refine lv_iadd hx hb dX8_passes_84 ?_
        refine vn_i (v := nI (r + 1)) (nI_add _ _) ?_
        refine r_ald (f := (lkW (upN Z (r + 4) ((Z (r + 4)) ||| (passO (sg Z r)))) r)) hx hb hK hP 1 rfl (i := r + 1) (by omega) (Nat.lt_of_lt_of_le (by omega : 1595 < 1073741824) (by decide)) dX8_passes_85 ?_
        refine vn_i (v := nI (Z (r + 1))) (congrArg nI ((lkW_o (by omega)).trans (upN_n (by omega)))) ?_
        refine lv_icmp_ne (tgt := 114) hx hb dX8_passes_86 (by decide) (fun c3 => ?_) (fun c3 => ?_)
        · skip
          rw [nI_eq (by omega) (by omega)] at c3
          refine lv_aload_n hx hb dX8_passes_114 rfl (lv_at hl 2 rfl) ?_
          refine lv_iload_n hx hb dX8_passes_115 rfl (lv_at hl 3 rfl) ?_
          refine lv_iload_n hx hb dX8_passes_116 rfl (lv_at hl 1 rfl) ?_
          refine cVv (n := 2) (As := [.int (nI (r)), .int (nI (passO (sg Z r)))]) (rest := []) (C := RX8) (ci := 8) (q0 := 0) (X := [(om, .inr (8, [.ref (mw), .int (nI (ud)), .ref (mt), .int (nI (td)), .int (nI (fy)), .int (nI (su)), .ref (mm), .ref (ml), .ref (mi), .ref (mh), .int (nI (cu)), .int (nI (sa)), .int (nI (nb)), .ref (mr), .int (nI (tn))])), (mw, .inl (cA 0, 1595, arN (lkW (upN Z (r + 4) ((Z (r + 4)) ||| (passO (sg Z r)))) r)))]) (pl := []) (wc := [(om, .inr (8, [.ref (mw), .int (nI (ud)), .ref (mt), .int (nI (td)), .int (nI (fy)), .int (nI (su)), .ref (mm), .ref (ml), .ref (mi), .ref (mh), .int (nI (cu)), .int (nI (sa)), .int (nI (nb)), .ref (mr), .int (nI (tn))])), (mw, .inl (cA 0, 1595, arN (lkW (upN Z (r + 4) ((Z (r + 4)) ||| (passO (sg Z r)))) r)))]) (wr := ([] : va_W)) (w1 := [(om, .inr (8, [.ref (mw), .int (nI (ud)), .ref (mt), .int (nI (td)), .int (nI (fy)), .int (nI (su)), .ref (mm), .ref (ml), .ref (mi), .ref (mh), .int (nI (cu)), .int (nI (sa)), .int (nI (nb)), .ref (mr), .int (nI (tn))])), (mw, .inl (cA 0, 1595, arN (wrW (lkW (upN Z (r + 4) ((Z (r + 4)) ||| (passO (sg Z r)))) r) r (passO (sg Z r)))))]) (wn := [(om, .inr (8, [.ref (mw), .int (nI (ud)), .ref (mt), .int (nI (td)), .int (nI (fy)), .int (nI (su)), .ref (mm), .ref (ml), .ref (mi), .ref (mh), .int (nI (cu)), .int (nI (sa)), .int (nI (nb)), .ref (mr), .int (nI (tn))])), (mw, .inl (cA 0, 1595, arN (wrW (lkW (upN Z (r + 4) ((Z (r + 4)) ||| (passO (sg Z r)))) r) r (passO (sg Z r)))))]) (isC := [0, 1]) (isR := []) (isN := [0, 1]) ⟨hx, hb, hml, hown, hts⟩ (c_X8_wears l D cA tt om mw mt mm ml mi mh mr ud td fy su cu sa nb tn (lkW (upN Z (r + 4) ((Z (r + 4)) ||| (passO (sg Z r)))) r) r (passO (sg Z r)) (gw1) (hr) (by omega) _) gX8_passes_X8_wears rfl (by decide +kernel) rfl rfl ⟨rfl, rfl⟩ ⟨Nat.le_of_ble_eq_true rfl, Nat.le_of_ble_eq_true rfl⟩ ⟨Nat.zero_le _, Nat.zero_le _⟩ hK hE hA hP hD hS ⟨⟨rfl, by decide⟩, ⟨rfl, by decide, by decide⟩, rfl, by decide⟩ rfl hl.1 rfl (Nat.le_of_ble_eq_true rfl) dX8_passes_117 (fun H locs hP hD hS => ?_)
          have hP : va_P D vwCl [(om, .inr (8, [.ref (mw), .int (nI (ud)), .ref (mt), .int (nI (td)), .int (nI (fy)), .int (nI (su)), .ref (mm), .ref (ml), .ref (mi), .ref (mh), .int (nI (cu)), .int (nI (sa)), .int (nI (nb)), .ref (mr), .int (nI (tn))])), (mw, .inl (cA 0, 1595, arN (wrW (lkW (upN Z (r + 4) ((Z (r + 4)) ||| (passO (sg Z r)))) r) r (passO (sg Z r)))))] _ := hP
          have hD : va_D A [(om, .inr (8, [.ref (mw), .int (nI (ud)), .ref (mt), .int (nI (td)), .int (nI (fy)), .int (nI (su)), .ref (mm), .ref (ml), .ref (mi), .ref (mh), .int (nI (cu)), .int (nI (sa)), .int (nI (nb)), .ref (mr), .int (nI (tn))])), (mw, .inl (cA 0, 1595, arN (wrW (lkW (upN Z (r + 4) ((Z (r + 4)) ||| (passO (sg Z r)))) r) r (passO (sg Z r)))))] := hD
          refine lv_aload_n hx hb dX8_passes_120 rfl (lv_at hl 2 rfl) ?_
          refine va_get (v := .ref (mw)) (Ts := wsX80) (C := RX8) (T := TX8) (N := 15) hx hb hwsX80 (fun _ h => h) hown hK hP 0 rfl rfl 0 (by decide) (hts (.fieldLink RX8 7 "AdventStreetsModel" "w" "[I") (List.mem_of_getElem? (i := 1) rfl)) (fun _ h9 => h9) rfl dX8_passes_121 ?_
          refine lv_iload_n hx hb dX8_passes_124 rfl (lv_at hl 3 rfl) ?_
          refine lv_iconst (v := nI (3)) hx hb dX8_passes_125 (by decide) ?_
          refine lv_iadd hx hb dX8_passes_126 ?_
          refine vn_i (v := nI (r + 3)) (nI_add _ _) ?_
          refine lv_dup2_11 hx hb dX8_passes_127 rfl rfl ?_
          refine r_ald (f := (wrW (lkW (upN Z (r + 4) ((Z (r + 4)) ||| (passO (sg Z r)))) r) r (passO (sg Z r)))) hx hb hK hP 1 rfl (i := r + 3) (by omega) (Nat.lt_of_lt_of_le (by omega : 1595 < 1073741824) (by decide)) dX8_passes_128 ?_
          refine vn_i (v := nI (Z (r + 3))) (congrArg nI ((wrW_o (by omega)).trans ((lkW_o (by omega)).trans (upN_n (by omega))))) ?_
          refine lv_iconst (v := nI (1)) hx hb dX8_passes_129 (by decide) ?_
          refine lv_iadd hx hb dX8_passes_130 ?_
          refine vn_i (v := nI (Z (r + 3) + 1)) (nI_add _ _) ?_
          refine r_ast (f := (wrW (lkW (upN Z (r + 4) ((Z (r + 4)) ||| (passO (sg Z r)))) r) r (passO (sg Z r)))) hx hb hK hP hD hS 1 rfl (i := r + 3) (by omega) (Nat.lt_of_lt_of_le (by omega : 1595 < 1073741824) (by decide)) dX8_passes_131 (fun H locs hP hD hS => ?_)
          have hP : va_P D vwCl [(om, .inr (8, [.ref (mw), .int (nI (ud)), .ref (mt), .int (nI (td)), .int (nI (fy)), .int (nI (su)), .ref (mm), .ref (ml), .ref (mi), .ref (mh), .int (nI (cu)), .int (nI (sa)), .int (nI (nb)), .ref (mr), .int (nI (tn))])), (mw, .inl (cA 0, 1595, arN (upN (wrW (lkW (upN Z (r + 4) ((Z (r + 4)) ||| (passO (sg Z r)))) r) r (passO (sg Z r))) (r + 3) (Z (r + 3) + 1))))] _ := hP
          have hD : va_D A [(om, .inr (8, [.ref (mw), .int (nI (ud)), .ref (mt), .int (nI (td)), .int (nI (fy)), .int (nI (su)), .ref (mm), .ref (ml), .ref (mi), .ref (mh), .int (nI (cu)), .int (nI (sa)), .int (nI (nb)), .ref (mr), .int (nI (tn))])), (mw, .inl (cA 0, 1595, arN (upN (wrW (lkW (upN Z (r + 4) ((Z (r + 4)) ||| (passO (sg Z r)))) r) r (passO (sg Z r))) (r + 3) (Z (r + 3) + 1))))] := hD
          refine lv_iload_n hx hb dX8_passes_132 rfl (lv_at hl 1 rfl) ?_
          have ef4 : ([(om, .inr (8, [.ref (mw), .int (nI (ud)), .ref (mt), .int (nI (td)), .int (nI (fy)), .int (nI (su)), .ref (mm), .ref (ml), .ref (mi), .ref (mh), .int (nI (cu)), .int (nI (sa)), .int (nI (nb)), .ref (mr), .int (nI (tn))])), (mw, .inl (cA 0, 1595, arN (upN (wrW (lkW (upN Z (r + 4) ((Z (r + 4)) ||| (passO (sg Z r)))) r) r (passO (sg Z r))) (r + 3) (Z (r + 3) + 1))))] : va_W) = [(om, .inr (8, [.ref (mw), .int (nI (ud)), .ref (mt), .int (nI (td)), .int (nI (fy)), .int (nI (su)), .ref (mm), .ref (ml), .ref (mi), .ref (mh), .int (nI (cu)), .int (nI (sa)), .int (nI (nb)), .ref (mr), .int (nI (tn))])), (mw, .inl (cA 0, 1595, arN (passW Z r)))] := by
            have hc9 := c3
            rw [pass1_d] at hc9
            rw [show passW Z r = upN (wrW (lkW (upN Z (r + 4) ((Z (r + 4)) ||| (passO (sg Z r)))) r) r (passO (sg Z r))) (r + 3) (Z (r + 3) + 1) from by unfold passW; rw [if_neg hc9]; rfl]
          have hP : va_P D vwCl [(om, .inr (8, [.ref (mw), .int (nI (ud)), .ref (mt), .int (nI (td)), .int (nI (fy)), .int (nI (su)), .ref (mm), .ref (ml), .ref (mi), .ref (mh), .int (nI (cu)), .int (nI (sa)), .int (nI (nb)), .ref (mr), .int (nI (tn))])), (mw, .inl (cA 0, 1595, arN (passW Z r)))] _ := Eq.mp (congrArg (fun z9 => va_P D vwCl z9 _) ef4) hP
          have hD : va_D A [(om, .inr (8, [.ref (mw), .int (nI (ud)), .ref (mt), .int (nI (td)), .int (nI (fy)), .int (nI (su)), .ref (mm), .ref (ml), .ref (mi), .ref (mh), .int (nI (cu)), .int (nI (sa)), .int (nI (nb)), .ref (mr), .int (nI (tn))])), (mw, .inl (cA 0, 1595, arN (passW Z r)))] := Eq.mp (congrArg (fun z9 => va_D A z9) ef4) hD
          exact hend _ _ _ _ _ hP hD hS (rfl) dX8_passes_133
        · skip
          rw [nI_eq (by omega) (by omega)] at c3
          refine lv_aload_n hx hb dX8_passes_89 rfl (lv_at hl 2 rfl) ?_
          refine lv_iload_n hx hb dX8_passes_90 rfl (lv_at hl 3 rfl) ?_
          refine lv_aload_n hx hb dX8_passes_91 rfl (lv_at hl 2 rfl) ?_
          refine va_get (v := .ref (mw)) (Ts := wsX80) (C := RX8) (T := TX8) (N := 15) hx hb hwsX80 (fun _ h => h) hown hK hP 0 rfl rfl 0 (by decide) (hts (.fieldLink RX8 7 "AdventStreetsModel" "w" "[I") (List.mem_of_getElem? (i := 1) rfl)) (fun _ h9 => h9) rfl dX8_passes_92 ?_
          refine lv_iload_n hx hb dX8_passes_95 rfl (lv_at hl 3 rfl) ?_
          refine lv_iconst (v := nI (4)) hx hb dX8_passes_96 (by decide) ?_
          refine lv_iadd hx hb dX8_passes_97 ?_
          refine vn_i (v := nI (r + 4)) (nI_add _ _) ?_
          refine r_ald (f := (lkW (upN Z (r + 4) ((Z (r + 4)) ||| (passO (sg Z r)))) r)) hx hb hK hP 1 rfl (i := r + 4) (by omega) (Nat.lt_of_lt_of_le (by omega : 1595 < 1073741824) (by decide)) dX8_passes_98 ?_
          refine vn_i (v := nI ((Z (r + 4)) ||| (passO (sg Z r)))) (congrArg nI ((lkW_o (by omega)).trans (upN_s))) ?_
          refine cVv (n := 2) (As := [.int (nI (r)), .int (nI ((Z (r + 4)) ||| (passO (sg Z r))))]) (rest := []) (C := RX8) (ci := 8) (q0 := 0) (X := [(om, .inr (8, [.ref (mw), .int (nI (ud)), .ref (mt), .int (nI (td)), .int (nI (fy)), .int (nI (su)), .ref (mm), .ref (ml), .ref (mi), .ref (mh), .int (nI (cu)), .int (nI (sa)), .int (nI (nb)), .ref (mr), .int (nI (tn))])), (mw, .inl (cA 0, 1595, arN (lkW (upN Z (r + 4) ((Z (r + 4)) ||| (passO (sg Z r)))) r)))]) (pl := []) (wc := [(om, .inr (8, [.ref (mw), .int (nI (ud)), .ref (mt), .int (nI (td)), .int (nI (fy)), .int (nI (su)), .ref (mm), .ref (ml), .ref (mi), .ref (mh), .int (nI (cu)), .int (nI (sa)), .int (nI (nb)), .ref (mr), .int (nI (tn))])), (mw, .inl (cA 0, 1595, arN (lkW (upN Z (r + 4) ((Z (r + 4)) ||| (passO (sg Z r)))) r)))]) (wr := ([] : va_W)) (w1 := [(om, .inr (8, [.ref (mw), .int (nI (ud)), .ref (mt), .int (nI (td)), .int (nI (fy)), .int (nI (su)), .ref (mm), .ref (ml), .ref (mi), .ref (mh), .int (nI (cu)), .int (nI (sa)), .int (nI (nb)), .ref (mr), .int (nI (tn))])), (mw, .inl (cA 0, 1595, arN (wrW (lkW (upN Z (r + 4) ((Z (r + 4)) ||| (passO (sg Z r)))) r) r ((Z (r + 4)) ||| (passO (sg Z r))))))]) (wn := [(om, .inr (8, [.ref (mw), .int (nI (ud)), .ref (mt), .int (nI (td)), .int (nI (fy)), .int (nI (su)), .ref (mm), .ref (ml), .ref (mi), .ref (mh), .int (nI (cu)), .int (nI (sa)), .int (nI (nb)), .ref (mr), .int (nI (tn))])), (mw, .inl (cA 0, 1595, arN (wrW (lkW (upN Z (r + 4) ((Z (r + 4)) ||| (passO (sg Z r)))) r) r ((Z (r + 4)) ||| (passO (sg Z r))))))]) (isC := [0, 1]) (isR := []) (isN := [0, 1]) ⟨hx, hb, hml, hown, hts⟩ (c_X8_wears l D cA tt om mw mt mm ml mi mh mr ud td fy su cu sa nb tn (lkW (upN Z (r + 4) ((Z (r + 4)) ||| (passO (sg Z r)))) r) r ((Z (r + 4)) ||| (passO (sg Z r))) (gw1) (hr) (by omega) _) gX8_passes_X8_wears rfl (by decide +kernel) rfl rfl ⟨rfl, rfl⟩ ⟨Nat.le_of_ble_eq_true rfl, Nat.le_of_ble_eq_true rfl⟩ ⟨Nat.zero_le _, Nat.zero_le _⟩ hK hE hA hP hD hS ⟨⟨rfl, by decide⟩, ⟨rfl, by decide, by decide⟩, rfl, by decide⟩ rfl hl.1 rfl (Nat.le_of_ble_eq_true rfl) dX8_passes_99 (fun H locs hP hD hS => ?_)
          have hP : va_P D vwCl [(om, .inr (8, [.ref (mw), .int (nI (ud)), .ref (mt), .int (nI (td)), .int (nI (fy)), .int (nI (su)), .ref (mm), .ref (ml), .ref (mi), .ref (mh), .int (nI (cu)), .int (nI (sa)), .int (nI (nb)), .ref (mr), .int (nI (tn))])), (mw, .inl (cA 0, 1595, arN (wrW (lkW (upN Z (r + 4) ((Z (r + 4)) ||| (passO (sg Z r)))) r) r ((Z (r + 4)) ||| (passO (sg Z r))))))] _ := hP
          have hD : va_D A [(om, .inr (8, [.ref (mw), .int (nI (ud)), .ref (mt), .int (nI (td)), .int (nI (fy)), .int (nI (su)), .ref (mm), .ref (ml), .ref (mi), .ref (mh), .int (nI (cu)), .int (nI (sa)), .int (nI (nb)), .ref (mr), .int (nI (tn))])), (mw, .inl (cA 0, 1595, arN (wrW (lkW (upN Z (r + 4) ((Z (r + 4)) ||| (passO (sg Z r)))) r) r ((Z (r + 4)) ||| (passO (sg Z r))))))] := hD
          refine lv_aload_n hx hb dX8_passes_102 rfl (lv_at hl 2 rfl) ?_
          refine va_get (v := .ref (mw)) (Ts := wsX80) (C := RX8) (T := TX8) (N := 15) hx hb hwsX80 (fun _ h => h) hown hK hP 0 rfl rfl 0 (by decide) (hts (.fieldLink RX8 7 "AdventStreetsModel" "w" "[I") (List.mem_of_getElem? (i := 1) rfl)) (fun _ h9 => h9) rfl dX8_passes_103 ?_
          refine lv_iload_n hx hb dX8_passes_106 rfl (lv_at hl 3 rfl) ?_
          refine lv_iconst (v := nI (4)) hx hb dX8_passes_107 (by decide) ?_
          refine lv_iadd hx hb dX8_passes_108 ?_
          refine vn_i (v := nI (r + 4)) (nI_add _ _) ?_
          refine lv_iconst (v := nI (0)) hx hb dX8_passes_109 (by decide) ?_
          refine r_ast (f := (wrW (lkW (upN Z (r + 4) ((Z (r + 4)) ||| (passO (sg Z r)))) r) r ((Z (r + 4)) ||| (passO (sg Z r))))) hx hb hK hP hD hS 1 rfl (i := r + 4) (by omega) (Nat.lt_of_lt_of_le (by omega : 1595 < 1073741824) (by decide)) dX8_passes_110 (fun H locs hP hD hS => ?_)
          have hP : va_P D vwCl [(om, .inr (8, [.ref (mw), .int (nI (ud)), .ref (mt), .int (nI (td)), .int (nI (fy)), .int (nI (su)), .ref (mm), .ref (ml), .ref (mi), .ref (mh), .int (nI (cu)), .int (nI (sa)), .int (nI (nb)), .ref (mr), .int (nI (tn))])), (mw, .inl (cA 0, 1595, arN (upN (wrW (lkW (upN Z (r + 4) ((Z (r + 4)) ||| (passO (sg Z r)))) r) r ((Z (r + 4)) ||| (passO (sg Z r)))) (r + 4) 0)))] _ := hP
          have hD : va_D A [(om, .inr (8, [.ref (mw), .int (nI (ud)), .ref (mt), .int (nI (td)), .int (nI (fy)), .int (nI (su)), .ref (mm), .ref (ml), .ref (mi), .ref (mh), .int (nI (cu)), .int (nI (sa)), .int (nI (nb)), .ref (mr), .int (nI (tn))])), (mw, .inl (cA 0, 1595, arN (upN (wrW (lkW (upN Z (r + 4) ((Z (r + 4)) ||| (passO (sg Z r)))) r) r ((Z (r + 4)) ||| (passO (sg Z r)))) (r + 4) 0)))] := hD
          refine lv_goto (tgt := 120) hx hb dX8_passes_111 (by decide) ?_
          refine lv_aload_n hx hb dX8_passes_120 rfl (lv_at hl 2 rfl) ?_
          refine va_get (v := .ref (mw)) (Ts := wsX80) (C := RX8) (T := TX8) (N := 15) hx hb hwsX80 (fun _ h => h) hown hK hP 0 rfl rfl 0 (by decide) (hts (.fieldLink RX8 7 "AdventStreetsModel" "w" "[I") (List.mem_of_getElem? (i := 1) rfl)) (fun _ h9 => h9) rfl dX8_passes_121 ?_
          refine lv_iload_n hx hb dX8_passes_124 rfl (lv_at hl 3 rfl) ?_
          refine lv_iconst (v := nI (3)) hx hb dX8_passes_125 (by decide) ?_
          refine lv_iadd hx hb dX8_passes_126 ?_
          refine vn_i (v := nI (r + 3)) (nI_add _ _) ?_
          refine lv_dup2_11 hx hb dX8_passes_127 rfl rfl ?_
          refine r_ald (f := upN (wrW (lkW (upN Z (r + 4) ((Z (r + 4)) ||| (passO (sg Z r)))) r) r ((Z (r + 4)) ||| (passO (sg Z r)))) (r + 4) 0) hx hb hK hP 1 rfl (i := r + 3) (by omega) (Nat.lt_of_lt_of_le (by omega : 1595 < 1073741824) (by decide)) dX8_passes_128 ?_
          refine vn_i (v := nI (Z (r + 3))) (congrArg nI ((upN_n (by omega)).trans ((wrW_o (by omega)).trans ((lkW_o (by omega)).trans (upN_n (by omega)))))) ?_
          refine lv_iconst (v := nI (1)) hx hb dX8_passes_129 (by decide) ?_
          refine lv_iadd hx hb dX8_passes_130 ?_
          refine vn_i (v := nI (Z (r + 3) + 1)) (nI_add _ _) ?_
          refine r_ast (f := upN (wrW (lkW (upN Z (r + 4) ((Z (r + 4)) ||| (passO (sg Z r)))) r) r ((Z (r + 4)) ||| (passO (sg Z r)))) (r + 4) 0) hx hb hK hP hD hS 1 rfl (i := r + 3) (by omega) (Nat.lt_of_lt_of_le (by omega : 1595 < 1073741824) (by decide)) dX8_passes_131 (fun H locs hP hD hS => ?_)
          have hP : va_P D vwCl [(om, .inr (8, [.ref (mw), .int (nI (ud)), .ref (mt), .int (nI (td)), .int (nI (fy)), .int (nI (su)), .ref (mm), .ref (ml), .ref (mi), .ref (mh), .int (nI (cu)), .int (nI (sa)), .int (nI (nb)), .ref (mr), .int (nI (tn))])), (mw, .inl (cA 0, 1595, arN (upN (upN (wrW (lkW (upN Z (r + 4) ((Z (r + 4)) ||| (passO (sg Z r)))) r) r ((Z (r + 4)) ||| (passO (sg Z r)))) (r + 4) 0) (r + 3) (Z (r + 3) + 1))))] _ := hP
          have hD : va_D A [(om, .inr (8, [.ref (mw), .int (nI (ud)), .ref (mt), .int (nI (td)), .int (nI (fy)), .int (nI (su)), .ref (mm), .ref (ml), .ref (mi), .ref (mh), .int (nI (cu)), .int (nI (sa)), .int (nI (nb)), .ref (mr), .int (nI (tn))])), (mw, .inl (cA 0, 1595, arN (upN (upN (wrW (lkW (upN Z (r + 4) ((Z (r + 4)) ||| (passO (sg Z r)))) r) r ((Z (r + 4)) ||| (passO (sg Z r)))) (r + 4) 0) (r + 3) (Z (r + 3) + 1))))] := hD
          refine lv_iload_n hx hb dX8_passes_132 rfl (lv_at hl 1 rfl) ?_
          have ef5 : ([(om, .inr (8, [.ref (mw), .int (nI (ud)), .ref (mt), .int (nI (td)), .int (nI (fy)), .int (nI (su)), .ref (mm), .ref (ml), .ref (mi), .ref (mh), .int (nI (cu)), .int (nI (sa)), .int (nI (nb)), .ref (mr), .int (nI (tn))])), (mw, .inl (cA 0, 1595, arN (upN (upN (wrW (lkW (upN Z (r + 4) ((Z (r + 4)) ||| (passO (sg Z r)))) r) r ((Z (r + 4)) ||| (passO (sg Z r)))) (r + 4) 0) (r + 3) (Z (r + 3) + 1))))] : va_W) = [(om, .inr (8, [.ref (mw), .int (nI (ud)), .ref (mt), .int (nI (td)), .int (nI (fy)), .int (nI (su)), .ref (mm), .ref (ml), .ref (mi), .ref (mh), .int (nI (cu)), .int (nI (sa)), .int (nI (nb)), .ref (mr), .int (nI (tn))])), (mw, .inl (cA 0, 1595, arN (passW Z r)))] := by
            have hc9 := c3
            rw [pass1_d] at hc9
            rw [show passW Z r = upN (upN (wrW (lkW (upN Z (r + 4) ((Z (r + 4)) ||| (passO (sg Z r)))) r) r ((Z (r + 4)) ||| (passO (sg Z r)))) (r + 4) 0) (r + 3) (Z (r + 3) + 1) from by unfold passW; rw [if_pos hc9]; rfl]
          have hP : va_P D vwCl [(om, .inr (8, [.ref (mw), .int (nI (ud)), .ref (mt), .int (nI (td)), .int (nI (fy)), .int (nI (su)), .ref (mm), .ref (ml), .ref (mi), .ref (mh), .int (nI (cu)), .int (nI (sa)), .int (nI (nb)), .ref (mr), .int (nI (tn))])), (mw, .inl (cA 0, 1595, arN (passW Z r)))] _ := Eq.mp (congrArg (fun z9 => va_P D vwCl z9 _) ef5) hP
          have hD : va_D A [(om, .inr (8, [.ref (mw), .int (nI (ud)), .ref (mt), .int (nI (td)), .int (nI (fy)), .int (nI (su)), .ref (mm), .ref (ml), .ref (mi), .ref (mh), .int (nI (cu)), .int (nI (sa)), .int (nI (nb)), .ref (mr), .int (nI (tn))])), (mw, .inl (cA 0, 1595, arN (passW Z r)))] := Eq.mp (congrArg (fun z9 => va_D A z9) ef5) hD
          exact hend _ _ _ _ _ hP hD hS (rfl) dX8_passes_133
      · skip
        rw [nI_leI (by omega) (by omega)] at c2
        refine lv_iload_n hx hb dX8_passes_16 rfl (lv_at hl 1 rfl) ?_
        refine lv_aload_n hx hb dX8_passes_17 rfl (lv_at hl 2 rfl) ?_
        refine va_get (v := .ref (mw)) (Ts := wsX80) (C := RX8) (T := TX8) (N := 15) hx hb hwsX80 (fun _ h => h) hown hK hP 0 rfl rfl 0 (by decide) (hts (.fieldLink RX8 7 "AdventStreetsModel" "w" "[I") (List.mem_of_getElem? (i := 1) rfl)) (fun _ h9 => h9) rfl dX8_passes_18 ?_
        refine lv_iload_n hx hb dX8_passes_21 rfl (lv_at hl 3 rfl) ?_
        refine lv_iconst (v := nI (4)) hx hb dX8_passes_22 (by decide) ?_
        refine lv_iadd hx hb dX8_passes_23 ?_
        refine vn_i (v := nI (r + 4)) (nI_add _ _) ?_
        refine r_ald (f := Z) hx hb hK hP 1 rfl (i := r + 4) (by omega) (Nat.lt_of_lt_of_le (by omega : 1595 < 1073741824) (by decide)) dX8_passes_24 ?_
        refine lv_iload_n hx hb dX8_passes_25 rfl (lv_at hl 0 rfl) ?_
        refine cSi (n := 2) (As := [.int (nI (Z (r + 4))), .int (nI (i))]) (rest := [.int (nI (mkb i (passP (sg Z r))))]) (X := [(om, .inr (8, [.ref (mw), .int (nI (ud)), .ref (mt), .int (nI (td)), .int (nI (fy)), .int (nI (su)), .ref (mm), .ref (ml), .ref (mi), .ref (mh), .int (nI (cu)), .int (nI (sa)), .int (nI (nb)), .ref (mr), .int (nI (tn))])), (mw, .inl (cA 0, 1595, arN Z))]) (pl := []) (wc := ([] : va_W)) (wr := [(om, .inr (8, [.ref (mw), .int (nI (ud)), .ref (mt), .int (nI (td)), .int (nI (fy)), .int (nI (su)), .ref (mm), .ref (ml), .ref (mi), .ref (mh), .int (nI (cu)), .int (nI (sa)), .int (nI (nb)), .ref (mr), .int (nI (tn))])), (mw, .inl (cA 0, 1595, arN Z))]) (w1 := ([] : va_W)) (wn := [(om, .inr (8, [.ref (mw), .int (nI (ud)), .ref (mt), .int (nI (td)), .int (nI (fy)), .int (nI (su)), .ref (mm), .ref (ml), .ref (mi), .ref (mh), .int (nI (cu)), .int (nI (sa)), .int (nI (nb)), .ref (mr), .int (nI (tn))])), (mw, .inl (cA 0, 1595, arN Z))]) (isC := []) (isR := [0, 1]) (isN := [0, 1]) ⟨hx, hb, hml, hown, hts⟩ (c_X8_has l D cA tt (Z (r + 4)) i (by omega) (by omega) _) gX8_passes_X8_has rfl (by decide +kernel) ⟨rfl, rfl⟩ ⟨Nat.le_of_ble_eq_true rfl, Nat.le_of_ble_eq_true rfl⟩ ⟨Nat.zero_le _, Nat.zero_le _⟩ hK hE hA hP hD hS ⟨⟨rfl, by decide⟩, ⟨rfl, by decide, by decide⟩, rfl, by decide⟩ rfl hl.1 rfl (Nat.le_of_ble_eq_true rfl) dX8_passes_26 (fun H locs hP hD hS => ?_)
        have hP : va_P D vwCl [(om, .inr (8, [.ref (mw), .int (nI (ud)), .ref (mt), .int (nI (td)), .int (nI (fy)), .int (nI (su)), .ref (mm), .ref (ml), .ref (mi), .ref (mh), .int (nI (cu)), .int (nI (sa)), .int (nI (nb)), .ref (mr), .int (nI (tn))])), (mw, .inl (cA 0, 1595, arN Z))] _ := hP
        have hD : va_D A [(om, .inr (8, [.ref (mw), .int (nI (ud)), .ref (mt), .int (nI (td)), .int (nI (fy)), .int (nI (su)), .ref (mm), .ref (ml), .ref (mi), .ref (mh), .int (nI (cu)), .int (nI (sa)), .int (nI (nb)), .ref (mr), .int (nI (tn))])), (mw, .inl (cA 0, 1595, arN Z))] := hD
        refine lv_if_ne (tgt := 47) hx hb dX8_passes_29 (by decide) (fun c6 => ?_) (fun c6 => ?_)
        · skip
          rw [bI_nz] at c6
          refine lv_iconst (v := nI (0)) hx hb dX8_passes_47 (by decide) ?_
          refine lv_ior hx hb dX8_passes_48 ?_
          refine vn_i (v := nI ((mkb i (passP (sg Z r))) ||| 0)) (n_or _ _) ?_
          refine lv_istore_n (lv' := [(2, .int (nI ((mkb i (passP (sg Z r))) ||| 0))), (3, .int (nI (i))), (0, .ref (om)), (1, .int (nI (r)))]) hx hb dX8_passes_49 rfl hl (by decide) rfl (fun ls hl => ?_)
          refine lv_iinc (v := nI (i + 1)) (lv' := [(3, .int (nI (i + 1))), (2, .int (nI ((mkb i (passP (sg Z r))) ||| 0))), (0, .ref (om)), (1, .int (nI (r)))]) hx hb dX8_passes_50 hl (k := 1) rfl (nI_add _ _) (by decide) rfl (fun ls hl => ?_)
          refine lv_goto (tgt := 4) hx hb dX8_passes_53 (by decide) ?_
          have hl9 := lv_sub (l' := [(3, .int (nI (i + 1))), (2, .int (nI ((mkb i (passP (sg Z r))) ||| 0))), (0, .ref (om)), (1, .int (nI (r)))]) hl [0, 1, 2, 3] rfl
          have el7 : (.int (nI ((mkb i (passP (sg Z r))) ||| 0)) : Value) = .int (nI (mkb (i + 1) (passP (sg Z r)))) := by
            simp [mkb_succ, passP, c2, c6]
          have hl9 : lv_has ls 4 [(3, .int (nI (i + 1))), (2, .int (nI (mkb (i + 1) (passP (sg Z r))))), (0, .ref (om)), (1, .int (nI (r)))] := Eq.mp (congrArg (fun z9 => lv_has ls 4 [(3, .int (nI (i + 1))), (2, z9), (0, .ref (om)), (1, .int (nI (r)))]) el7) hl9
          exact ih4 (i + 1) (by omega) (by omega) _ _ _ hP hD hS hl9
        · skip
          rw [bI_z] at c6
          refine lv_aload_n hx hb dX8_passes_32 rfl (lv_at hl 2 rfl) ?_
          refine lv_iload_n hx hb dX8_passes_33 rfl (lv_at hl 3 rfl) ?_
          refine lv_iload_n hx hb dX8_passes_34 rfl (lv_at hl 0 rfl) ?_
          refine cVi (n := 2) (As := [.int (nI (r)), .int (nI (i))]) (rest := [.int (nI (mkb i (passP (sg Z r))))]) (C := RX8) (ci := 8) (q0 := 0) (X := [(om, .inr (8, [.ref (mw), .int (nI (ud)), .ref (mt), .int (nI (td)), .int (nI (fy)), .int (nI (su)), .ref (mm), .ref (ml), .ref (mi), .ref (mh), .int (nI (cu)), .int (nI (sa)), .int (nI (nb)), .ref (mr), .int (nI (tn))])), (mw, .inl (cA 0, 1595, arN Z))]) (pl := []) (wc := [(om, .inr (8, [.ref (mw), .int (nI (ud)), .ref (mt), .int (nI (td)), .int (nI (fy)), .int (nI (su)), .ref (mm), .ref (ml), .ref (mi), .ref (mh), .int (nI (cu)), .int (nI (sa)), .int (nI (nb)), .ref (mr), .int (nI (tn))])), (mw, .inl (cA 0, 1595, arN Z))]) (wr := ([] : va_W)) (w1 := [(om, .inr (8, [.ref (mw), .int (nI (ud)), .ref (mt), .int (nI (td)), .int (nI (fy)), .int (nI (su)), .ref (mm), .ref (ml), .ref (mi), .ref (mh), .int (nI (cu)), .int (nI (sa)), .int (nI (nb)), .ref (mr), .int (nI (tn))])), (mw, .inl (cA 0, 1595, arN Z))]) (wn := [(om, .inr (8, [.ref (mw), .int (nI (ud)), .ref (mt), .int (nI (td)), .int (nI (fy)), .int (nI (su)), .ref (mm), .ref (ml), .ref (mi), .ref (mh), .int (nI (cu)), .int (nI (sa)), .int (nI (nb)), .ref (mr), .int (nI (tn))])), (mw, .inl (cA 0, 1595, arN Z))]) (isC := [0, 1]) (isR := []) (isN := [0, 1]) ⟨hx, hb, hml, hown, hts⟩ (c_X8_would l D cA tt om mw mt mm ml mi mh mr ud td fy su cu sa nb tn Z r i (hg) (hr) (by omega) (he) (by omega) _) gX8_passes_X8_would rfl (by decide +kernel) rfl rfl ⟨rfl, rfl⟩ ⟨Nat.le_of_ble_eq_true rfl, Nat.le_of_ble_eq_true rfl⟩ ⟨Nat.zero_le _, Nat.zero_le _⟩ hK hE hA hP hD hS ⟨⟨rfl, by decide⟩, ⟨rfl, by decide, by decide⟩, rfl, by decide⟩ rfl hl.1 rfl (Nat.le_of_ble_eq_true rfl) dX8_passes_35 (fun H locs hP hD hS => ?_)
          have hP : va_P D vwCl [(om, .inr (8, [.ref (mw), .int (nI (ud)), .ref (mt), .int (nI (td)), .int (nI (fy)), .int (nI (su)), .ref (mm), .ref (ml), .ref (mi), .ref (mh), .int (nI (cu)), .int (nI (sa)), .int (nI (nb)), .ref (mr), .int (nI (tn))])), (mw, .inl (cA 0, 1595, arN Z))] _ := hP
          have hD : va_D A [(om, .inr (8, [.ref (mw), .int (nI (ud)), .ref (mt), .int (nI (td)), .int (nI (fy)), .int (nI (su)), .ref (mm), .ref (ml), .ref (mi), .ref (mh), .int (nI (cu)), .int (nI (sa)), .int (nI (nb)), .ref (mr), .int (nI (tn))])), (mw, .inl (cA 0, 1595, arN Z))] := hD
          refine lv_if_eq (tgt := 47) hx hb dX8_passes_38 (by decide) (fun c8 => ?_) (fun c8 => ?_)
          · skip
            rw [bI_z] at c8
            refine lv_iconst (v := nI (0)) hx hb dX8_passes_47 (by decide) ?_
            refine lv_ior hx hb dX8_passes_48 ?_
            refine vn_i (v := nI ((mkb i (passP (sg Z r))) ||| 0)) (n_or _ _) ?_
            refine lv_istore_n (lv' := [(2, .int (nI ((mkb i (passP (sg Z r))) ||| 0))), (3, .int (nI (i))), (0, .ref (om)), (1, .int (nI (r)))]) hx hb dX8_passes_49 rfl hl (by decide) rfl (fun ls hl => ?_)
            refine lv_iinc (v := nI (i + 1)) (lv' := [(3, .int (nI (i + 1))), (2, .int (nI ((mkb i (passP (sg Z r))) ||| 0))), (0, .ref (om)), (1, .int (nI (r)))]) hx hb dX8_passes_50 hl (k := 1) rfl (nI_add _ _) (by decide) rfl (fun ls hl => ?_)
            refine lv_goto (tgt := 4) hx hb dX8_passes_53 (by decide) ?_
            have hl9 := lv_sub (l' := [(3, .int (nI (i + 1))), (2, .int (nI ((mkb i (passP (sg Z r))) ||| 0))), (0, .ref (om)), (1, .int (nI (r)))]) hl [0, 1, 2, 3] rfl
            have el9 : (.int (nI ((mkb i (passP (sg Z r))) ||| 0)) : Value) = .int (nI (mkb (i + 1) (passP (sg Z r)))) := by
              simp [mkb_succ, passP, c2, c6, c8]
            have hl9 : lv_has ls 4 [(3, .int (nI (i + 1))), (2, .int (nI (mkb (i + 1) (passP (sg Z r))))), (0, .ref (om)), (1, .int (nI (r)))] := Eq.mp (congrArg (fun z9 => lv_has ls 4 [(3, .int (nI (i + 1))), (2, z9), (0, .ref (om)), (1, .int (nI (r)))]) el9) hl9
            exact ih4 (i + 1) (by omega) (by omega) _ _ _ hP hD hS hl9
          · skip
            rw [bI_nz] at c8
            refine lv_iconst (v := nI (1)) hx hb dX8_passes_41 (by decide) ?_
            refine lv_iload_n hx hb dX8_passes_42 rfl (lv_at hl 0 rfl) ?_
            refine lv_ishl hx hb dX8_passes_43 ?_
            refine vn_i (v := nI (2 ^ i)) (n_shl1 (by omega)) ?_
            refine lv_goto (tgt := 48) hx hb dX8_passes_44 (by decide) ?_
            refine lv_ior hx hb dX8_passes_48 ?_
            refine vn_i (v := nI ((mkb i (passP (sg Z r))) ||| (2 ^ i))) (n_or _ _) ?_
            refine lv_istore_n (lv' := [(2, .int (nI ((mkb i (passP (sg Z r))) ||| (2 ^ i)))), (3, .int (nI (i))), (0, .ref (om)), (1, .int (nI (r)))]) hx hb dX8_passes_49 rfl hl (by decide) rfl (fun ls hl => ?_)
            refine lv_iinc (v := nI (i + 1)) (lv' := [(3, .int (nI (i + 1))), (2, .int (nI ((mkb i (passP (sg Z r))) ||| (2 ^ i)))), (0, .ref (om)), (1, .int (nI (r)))]) hx hb dX8_passes_50 hl (k := 1) rfl (nI_add _ _) (by decide) rfl (fun ls hl => ?_)
            refine lv_goto (tgt := 4) hx hb dX8_passes_53 (by decide) ?_
            have hl9 := lv_sub (l' := [(3, .int (nI (i + 1))), (2, .int (nI ((mkb i (passP (sg Z r))) ||| (2 ^ i)))), (0, .ref (om)), (1, .int (nI (r)))]) hl [0, 1, 2, 3] rfl
            have el10 : (.int (nI ((mkb i (passP (sg Z r))) ||| (2 ^ i))) : Value) = .int (nI (mkb (i + 1) (passP (sg Z r)))) := by
              simp [mkb_succ, passP, c2, c6, c8]
            have hl9 : lv_has ls 4 [(3, .int (nI (i + 1))), (2, .int (nI (mkb (i + 1) (passP (sg Z r))))), (0, .ref (om)), (1, .int (nI (r)))] := Eq.mp (congrArg (fun z9 => lv_has ls 4 [(3, .int (nI (i + 1))), (2, z9), (0, .ref (om)), (1, .int (nI (r)))]) el10) hl9
            exact ih4 (i + 1) (by omega) (by omega) _ _ _ hP hD hS hl9
  have hl9 := lv_sub (l' := [(3, .int (nI (0))), (2, .int (nI (0))), (0, .ref (om)), (1, .int (nI (r)))]) hl [0, 1, 2, 3] rfl
  have el11 : (.int (nI (0)) : Value) = .int (nI (mkb 0 (passP (sg Z r)))) := by
    rfl
  have hl9 : lv_has ls 4 [(3, .int (nI (0))), (2, .int (nI (mkb 0 (passP (sg Z r))))), (0, .ref (om)), (1, .int (nI (r)))] := Eq.mp (congrArg (fun z9 => lv_has ls 4 [(3, .int (nI (0))), (2, z9), (0, .ref (om)), (1, .int (nI (r)))]) el11) hl9
  exact loop4 _ 0 (by omega) (Nat.lt_succ_self _) _ _ _ hP hD hS hl9
