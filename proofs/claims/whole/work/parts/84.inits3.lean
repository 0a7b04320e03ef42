/-! ===== the ring's constructor ===== -/
def poolN (cA : Nat → ClassId) (ra : Nat → Nat → Nat) (i : Nat) : va_W := (List.range i).flatMap (fun k => stW cA (ra k) sg0)
def rgF (ra : Nat → Nat → Nat) (i : Nat) : Nat → Option Nat := fun k => if k < i then some (ra k 0) else none
theorem rgF_s {ra : Nat → Nat → Nat} {i : Nat} {a : Nat → Nat} : va_up (rgF ra i) i (some (a 0)) = rgF (fun k => if k = i then a else ra k) (i + 1) := by
  funext k
  unfold rgF va_up
  by_cases h : k = i
  · subst h
    rw [if_pos rfl, if_pos (by omega)]
    dsimp only
    rw [if_pos rfl]
  · rw [if_neg h]
    dsimp only
    rw [if_neg h]
    by_cases q : k < i
    · rw [if_pos q, if_pos (by omega)]
    · rw [if_neg q, if_neg (by omega)]
theorem pool_s (cA : Nat → ClassId) (a : Nat → Nat) (ra : Nat → Nat → Nat) (i : Nat) : (stW cA a sg0 ++ poolN cA ra i).Perm (poolN cA (fun k => if k = i then a else ra k) (i + 1)) := by
  have e : poolN cA (fun k => if k = i then a else ra k) (i + 1) = poolN cA ra i ++ stW cA a sg0 := by
    unfold poolN
    rw [List.range_succ, List.flatMap_append]
    congr 1
    · rw [List.flatMap_def, List.flatMap_def, List.map_congr_left (fun k hk => ?_)]
      have : k ≠ i := by have := List.mem_range.mp hk; omega
      dsimp only
      rw [if_neg this]
    · rw [List.flatMap_cons, List.flatMap_nil, List.append_nil]
      dsimp only
      rw [if_pos rfl]
  rw [e]
  exact List.perm_append_comm
theorem va_P.congQ {D : va_G} {H : Heap} {ws ws' : va_W} (q : Nat) {n : Nat} {f g : Nat → Option Nat} {cI : ClassId} {b : Nat} (hP : va_P D vwCl ws H) (h0 : ws[q]? = some (b, .inl (cI, n, .inr (.inr (.inr (.inr f)))))) (he : ∀ j, j < n → f j = g j) (hw : ws.set q (b, .inl (cI, n, .inr (.inr (.inr (.inr g))))) = ws') : va_P D vwCl ws' H := by
  intro k z hk
  rw [← hw] at hk
  by_cases hkq : k = q
  · subst hkq
    rw [List.getElem?_set_self (List.getElem?_eq_some_iff.mp h0).1] at hk
    cases hk
    have h1 := hP k _ h0
    show H[b]? = some (vp_cell cI (n, .inr (.inr (.inr (.inr g)))))
    have h2 : H[b]? = some (vp_cell cI (n, .inr (.inr (.inr (.inr f))))) := h1
    rw [h2, vp_cell_q, vp_cell_q, arrV_cg cI n (fun j hj => congrArg va_rf (he j hj))]
  · rw [List.getElem?_set_ne (by omega)] at hk
    exact hP k z hk
theorem va_D.congQ {A : Nat → Prop} {ws ws' : va_W} (q : Nat) {b : Nat} {e e' : va_E} (hD : va_D A ws) (h0 : ws[q]? = some (b, e)) (hw : ws.set q (b, e') = ws') : va_D A ws' := by
  rw [← hw]
  exact hD.set h0
set_option maxRecDepth 100000 in
set_option maxHeartbeats 4000000 in
theorem c_X0_init (l : Launch) (D : va_G) (cA : Nat → ClassId) (tt : Nat → Nat) (q : Nat) (sz : Nat) : Cn (U := Nat × (Nat → Nat → Nat)) l D cA tt yX0_init wsX0_init ({ frames := 2, cells := 145, slots := 1464, locals := 60 } : Room) [.ref (q)] sz [(q, .inr (0, [.null, .int (nI (0)), .int (nI (0))]))] (fun u => [(q, .inr (0, [.ref (u.1), .int (nI (0)), .int (nI (0))])), (u.1, .inl (cA 1, 24, .inr (.inr (.inr (.inr (fun i => some (u.2 i 0)))))))] ++ ringW cA u.2 (fun _ => sg0)) 145 1464 := by
  refine Cn.mk (cc := cX0_init) (maxL := 2) (by decide) rfl rfl (Nat.le_of_ble_eq_true rfl) ?_
  intro p e s m below meth c A Q ls hB hO hin hl hend
  obtain ⟨⟨hx, hb, hml, hown, hts⟩, hP, hK, hD, hS, hA, hE⟩ := hB
  have hown : s.vm.findClass RX0 = some m.cls := hown
  have hwsX00 : ∀ w9 ∈ wsX00, w9.before ([.ref (q)] : List Value).toArray s = true := fun w9 h => hts w9 (List.mem_cons_of_mem _ (List.mem_append_left _ (List.mem_append_right _ h)))
  have hwsX40 : ∀ w9 ∈ wsX40, w9.before ([.ref (q)] : List Value).toArray s = true := fun w9 h => hts w9 (List.mem_cons_of_mem _ (List.mem_append_right _ h))
  have hl : lv_has ls 2 [(0, .ref (q))] := hl
  refine lv_aload_n hx hb dX0_init_0 rfl (lv_at hl 0 rfl) ?_
  refine W.objInit hx hb hown (hts (.methodLink RX0 3 objectInit) (List.mem_of_getElem? (i := 1) rfl)) (hts (.instanceMethod objectInit) (List.mem_of_getElem? (i := 2) rfl)) (hts (.code objectInit ⟨#[0xb1]⟩ 1 none) (List.mem_of_getElem? (i := 3) rfl)) rfl (by rw [hml]; exact hl.1) rfl dX0_init_1 (Nat.le_of_ble_eq_true rfl) (Nat.le_of_ble_eq_true rfl) ?_
  refine W.eq (g2 := F0 m 4 ls []) rfl ?_
  refine lv_aload_n hx hb dX0_init_4 rfl (lv_at hl 0 rfl) ?_
  refine lv_bipush (v := nI (24)) hx hb dX0_init_5 (by decide) ?_
  refine r_newQ (N := 24) hx hb hown (hts (.classLink RX0 9 RX4) (List.mem_of_getElem? (i := 4) rfl)) hO hK hP hD hS hA (by decide) (Nat.le_of_ble_eq_true rfl) (Nat.le_of_ble_eq_true rfl) dX0_init_7 (fun q7 H hP hD hS => ?_)
  refine W.widen (k := 1) (n := 24) (by omega) (by omega) ?_
  have hP : va_P D vwCl [(q, .inr (0, [.null, .int (nI (0)), .int (nI (0))])), (q7, .inl (cA 1, 24, .inr (.inr (.inr (.inr (fun _ => none))))))] _ := hP
  have hD : va_D A [(q, .inr (0, [.null, .int (nI (0)), .int (nI (0))])), (q7, .inl (cA 1, 24, .inr (.inr (.inr (.inr (fun _ => none))))))] := hD
  refine va_putF (v := .ref (q7)) (ty := .array (.object RX4)) (Ts := wsX00) (C := RX0) (T := TX0) (N := 3) hx hb hwsX00 (fun _ h => h) tyX0 tyX0_ok nmX0 hown hK hP hD hS 0 rfl rfl 0 (by decide) (hts (.fieldLink RX0 11 "AdventStreets$Acts" "ring" "[LAdventStreets$Street;") (List.mem_of_getElem? (i := 5) rfl)) (fun _ h9 => h9) rfl hin rfl (by decide +kernel) rfl rfl (Nat.le_of_ble_eq_true rfl) dX0_init_10 (fun H locs hP hD hS => ?_)
  have hP : va_P D vwCl [(q, .inr (0, [.ref (q7), .int (nI (0)), .int (nI (0))])), (q7, .inl (cA 1, 24, .inr (.inr (.inr (.inr (fun _ => none))))))] _ := hP
  have hD : va_D A [(q, .inr (0, [.ref (q7), .int (nI (0)), .int (nI (0))])), (q7, .inl (cA 1, 24, .inr (.inr (.inr (.inr (fun _ => none))))))] := hD
  refine lv_iconst (v := nI (0)) hx hb dX0_init_13 (by decide) ?_
  refine lv_istore_n (lv' := [(1, .int (nI (0))), (0, .ref (q))]) hx hb dX0_init_14 rfl hl (by decide) rfl (fun ls hl => ?_)
  have loop15 : ∀ (N15 : Nat) (i : Nat) (ra : Nat → Nat → Nat), i ≤ 24 → 24 - i < N15 → ∀ (H : Heap) (locs : List Loc) (ls : Array Slot), va_P D vwCl ([(q, .inr (0, [.ref (q7), .int (nI (0)), .int (nI (0))])), (q7, .inl (cA 1, 24, .inr (.inr (.inr (.inr (rgF ra i))))))] ++ poolN cA ra i) H → va_D A ([(q, .inr (0, [.ref (q7), .int (nI (0)), .int (nI (0))])), (q7, .inl (cA 1, 24, .inr (.inr (.inr (.inr (rgF ra i))))))] ++ poolN cA ra i) → va_S A s.heap H locs → lv_has ls 2 [(1, .int (nI i)), (0, .ref (q))] → W p l e ({ frames := 2, cells := 145, slots := 1464, locals := 60 } : Room) s m ([.ref (q)] : List Value).toArray below meth c H locs (1 + 6 * i) (24 + 60 * i) Q (F0 m 15 ls []) := by
    intro N15
    induction N15 with
    | zero => intro i ra iv0 hN; exact absurd hN (Nat.not_lt_zero _)
    | succ N15 ih15 =>
      intro i ra iv0 hN H locs ls hP hD hS hl
      refine lv_iload_n hx hb dX0_init_15 rfl (lv_at hl 0 rfl) ?_
      refine lv_bipush (v := nI (24)) hx hb dX0_init_16 (by decide) ?_
      refine lv_icmp_ge (tgt := 40) hx hb dX0_init_18 (by decide) (fun c1 => ?_) (fun c1 => ?_)
      · rw [nI_leI (by omega) (by omega)] at c1
        have ei : i = 24 := by omega
        subst ei
        have hP9 : va_P D vwCl ([(q, .inr (0, [.ref (q7), .int (nI (0)), .int (nI (0))])), (q7, .inl (cA 1, 24, .inr (.inr (.inr (.inr (fun i => some (ra i 0)))))))] ++ poolN cA ra 24) H := va_P.congQ 1 hP rfl (fun j hj => if_pos hj) rfl
        have hD9 : va_D A ([(q, .inr (0, [.ref (q7), .int (nI (0)), .int (nI (0))])), (q7, .inl (cA 1, 24, .inr (.inr (.inr (.inr (fun i => some (ra i 0)))))))] ++ poolN cA ra 24) := va_D.congQ 1 hD rfl rfl
        exact hend _ _ _ _ (q7, ra) hP9 hD9 hS dX0_init_40
      · rw [nI_leI (by omega) (by omega)] at c1
        have hi : i < 24 := by omega
        refine lv_aload_n hx hb dX0_init_21 rfl (lv_at hl 1 rfl) ?_
        refine va_get (v := .ref (q7)) (Ts := wsX00) (C := RX0) (T := TX0) (N := 3) hx hb hwsX00 (fun _ h => h) hown hK hP 0 rfl rfl 0 (by decide) (hts (.fieldLink RX0 11 "AdventStreets$Acts" "ring" "[LAdventStreets$Street;") (List.mem_of_getElem? (i := 5) rfl)) (fun _ h9 => h9) rfl dX0_init_22 ?_
        refine lv_iload_n hx hb dX0_init_25 rfl (lv_at hl 0 rfl) ?_
        refine va_new (ci := 4) (fs := [.null, .null, .null, .null, .null, .int (nI (0)), .int (nI (0)), .int (nI (0)), .int (nI (0)), .int (nI (0))]) (C := RX4) (T := TX4) (N := 10) (Ts := wsX40) hx hb hwsX40 (fun _ h => h) tyX4 tyX4_ok hown (hts (.classLink RX0 9 RX4) (List.mem_of_getElem? (i := 4) rfl)) (hts (.instantiable RX4 10) (List.mem_of_getElem? (i := 6) rfl)) (hts (.initialized RX4) (List.mem_of_getElem? (i := 7) rfl)) hK hP hD hS hA rfl (fun j hj => by rcases (show j = 0 ∨ j = 1 ∨ j = 2 ∨ j = 3 ∨ j = 4 ∨ j = 5 ∨ j = 6 ∨ j = 7 ∨ j = 8 ∨ j = 9 by omega) with rfl | rfl | rfl | rfl | rfl | rfl | rfl | rfl | rfl | rfl <;> rfl) (by show 1 + 6 * i + 1 ≤ 145; omega) (by show 24 + 60 * i + 10 ≤ 1464; omega) dX0_init_26 (fun q26 H hP hD hS => ?_)
        refine lv_dup hx hb dX0_init_29 rfl ?_
        refine gJv (fun _ => 0) (U := Nat → Nat) (rm := ({ frames := 1, cells := 5, slots := 50, locals := 20 } : Room)) (mc := 5) (ms := 50) (n := 0) (As := []) (rest := [.ref (q26), .int (nI i), .ref (q7)]) (wc := [(q26, .inr (4, [.null, .null, .null, .null, .null, .int (nI (0)), .int (nI (0)), .int (nI (0)), .int (nI (0)), .int (nI (0))]))]) (wr := ([(q, .inr (0, [.ref (q7), .int (nI (0)), .int (nI (0))])), (q7, .inl (cA 1, 24, .inr (.inr (.inr (.inr (rgF ra i))))))] ++ poolN cA ra i)) (w1 := fun u => stW cA (sa9 q26 u) sg0) ⟨hx, hb, hml, hown, hts⟩ (c_X4_init l D cA tt q26 _) gX0_init_X4_init_n17 rfl ⟨rfl, rfl⟩ (hts (.initialized RX4) (List.mem_of_getElem? (i := 7) rfl)) (hE.1.m (q := ("AdventStreets$Acts", 17, yX4_init)) 5 rfl) (hts (.instanceMethod yX4_init) (List.mem_of_getElem? (i := 8) rfl)) rfl (by decide +kernel) ⟨Nat.le_of_ble_eq_true rfl, Nat.le_of_ble_eq_true rfl⟩ ⟨by show 1 + 6 * i + 1 + 5 ≤ 145; omega, by show 24 + 60 * i + 10 + 50 ≤ 1464; omega⟩ hK hE hO hA hP hD hS List.perm_append_comm rfl hl.1 rfl (Nat.le_of_ble_eq_true rfl) dX0_init_30 (fun u H locs hP hD hS => ?_)
        have pm : (stW cA (sa9 q26 u) sg0 ++ (([(q, .inr (0, [.ref (q7), .int (nI (0)), .int (nI (0))])), (q7, .inl (cA 1, 24, .inr (.inr (.inr (.inr (rgF ra i))))))] ++ poolN cA ra i) : va_W)).Perm (([(q, .inr (0, [.ref (q7), .int (nI (0)), .int (nI (0))])), (q7, .inl (cA 1, 24, .inr (.inr (.inr (.inr (rgF ra i))))))] : va_W) ++ (stW cA (sa9 q26 u) sg0 ++ poolN cA ra i)) := by
          rw [← List.append_assoc, ← List.append_assoc]
          exact List.perm_append_comm.append_right _
        have hP := hP.perm pm
        have hD := hD.perm pm
        refine va_astq (r := (RX4, TX4, 10)) hx hb hK hP hD hS 1 1 2 4 rfl rfl rfl rfl (i := nI i) (vp_in_nI hi (by decide)) dX0_init_33 (fun H locs hP hD hS => ?_)
        have ef : va_up (rgF ra i) (nI i).toNatClampNeg (some (sa9 q26 u 0)) = rgF (fun k => if k = i then sa9 q26 u else ra k) (i + 1) := by
          rw [nI_clamp (by omega)]
          exact rgF_s
        have hP : va_P D vwCl ([(q, .inr (0, [.ref (q7), .int (nI (0)), .int (nI (0))])), (q7, .inl (cA 1, 24, .inr (.inr (.inr (.inr (va_up (rgF ra i) (nI i).toNatClampNeg (some (sa9 q26 u 0))))))))] ++ (stW cA (sa9 q26 u) sg0 ++ poolN cA ra i)) H := hP
        have hD : va_D A ([(q, .inr (0, [.ref (q7), .int (nI (0)), .int (nI (0))])), (q7, .inl (cA 1, 24, .inr (.inr (.inr (.inr (va_up (rgF ra i) (nI i).toNatClampNeg (some (sa9 q26 u 0))))))))] ++ (stW cA (sa9 q26 u) sg0 ++ poolN cA ra i)) := hD
        rw [ef] at hP hD
        have pm2 := (pool_s cA (sa9 q26 u) ra i).append_left ([(q, .inr (0, [.ref (q7), .int (nI (0)), .int (nI (0))])), (q7, .inl (cA 1, 24, .inr (.inr (.inr (.inr (rgF (fun k => if k = i then sa9 q26 u else ra k) (i + 1)))))))] : va_W)
        have hP := hP.perm pm2
        have hD := hD.perm pm2
        refine lv_iinc (v := nI (i + 1)) (lv' := [(1, .int (nI (i + 1))), (0, .ref (q))]) hx hb dX0_init_34 hl (k := 0) rfl (nI_add _ _) (by decide) rfl (fun ls hl => ?_)
        refine lv_goto (tgt := 15) hx hb dX0_init_37 (by decide) ?_
        refine W.widen (k := 1 + 6 * (i + 1)) (n := 24 + 60 * (i + 1)) (by omega) (by omega) ?_
        exact ih15 (i + 1) _ (by omega) (by omega) _ _ _ hP hD hS hl
  have hP9 : va_P D vwCl ([(q, .inr (0, [.ref (q7), .int (nI (0)), .int (nI (0))])), (q7, .inl (cA 1, 24, .inr (.inr (.inr (.inr (rgF (fun _ _ => 0) 0))))))] ++ poolN cA (fun _ _ => 0) 0) _ := va_P.congQ 1 hP rfl (fun j hj => rfl) rfl
  exact loop15 _ 0 (fun _ _ => 0) (Nat.zero_le _) (Nat.lt_succ_self _) _ _ _ hP9 (va_D.congQ 1 hD rfl rfl) hS hl
