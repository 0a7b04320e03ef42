/-! ===== Foretold: trade, shut ===== -/
def oI : Option Nat → Int32
  | none => (-1000000)
  | some k => nI k
def oF : Option (Nat × Nat) → Int32
  | none => (-1000000)
  | some q => nI q.1
def oS : Option (Nat × Nat) → Int32
  | none => (-1000000)
  | some q => nI q.2
def oOk (p : Option (Nat × Nat)) : Prop := ∀ q, p = some q → q.1 < 1000 ∧ q.2 ≤ 10
def btU (p : Option (Nat × Nat)) (a b c : Nat) : Option (Nat × Nat) := match p with
  | none => some (10 * a + b, c)
  | some q => if c ≤ q.2 then some q else some (10 * a + b, c)
theorem n_neg6 : ∀ k, k ≤ 1024 → ¬ nI k ≤ -1000000 := by decide +kernel
theorem btU_le {p : Option (Nat × Nat)} {x : Sg} {w n a b : Nat} (h : nI (tradeN x w n a b) ≤ oS p) (ho : oOk p) : btU p a b (tradeN x w n a b) = p := by
  have hc : tradeN x w n a b ≤ 10 := onesN_le _
  cases p with
  | none => exact absurd h (n_neg6 _ (by omega))
  | some q =>
    have := ho q rfl
    have h2 : nI (tradeN x w n a b) ≤ nI q.2 := h
    rw [nI_leI (by omega) (by omega)] at h2
    show (if _ then _ else _) = _
    rw [if_pos h2]
theorem btU_gt {p : Option (Nat × Nat)} {x : Sg} {w n a b : Nat} (h : ¬ nI (tradeN x w n a b) ≤ oS p) (ho : oOk p) : btU p a b (tradeN x w n a b) = some (10 * a + b, tradeN x w n a b) := by
  have hc : tradeN x w n a b ≤ 10 := onesN_le _
  cases p with
  | none => rfl
  | some q =>
    have := ho q rfl
    have h2 : ¬ nI (tradeN x w n a b) ≤ nI q.2 := h
    rw [nI_leI (by omega) (by omega)] at h2
    show (if _ then _ else _) = _
    rw [if_neg h2]
def btI (x : Sg) (w n a : Nat) (p : Option (Nat × Nat)) : Nat → Option (Nat × Nat)
  | 0 => p
  | k + 1 => btU (btI x w n a p k) a (a + 1 + k) (tradeN x w n a (a + 1 + k))
def btO (x : Sg) (w n : Nat) : Nat → Option (Nat × Nat)
  | 0 => none
  | a + 1 => btI x w n a (btO x w n a) (Sn x - (a + 1))
theorem n_ne6 : ∀ k, k < 1024 → ¬ nI k = -1000000 := by decide +kernel
theorem oI_some {p : Option Nat} (h : ∀ k, p = some k → k < 1024) (c : ¬ oI p = -1000000) : ∃ k, p = some k ∧ k < 1024 := by
  cases p with
  | none => exact absurd rfl c
  | some k => exact ⟨k, rfl, h k rfl⟩
theorem oI_none {p : Option Nat} (h : ∀ k, p = some k → k < 1024) (c : oI p = -1000000) : p = none := by
  cases p with
  | none => rfl
  | some k => exact absurd c (n_ne6 k (h k rfl))
def fewB (p : Option Nat) (i : Nat) : Bool := match p with
  | none => true
  | some k => decide (onesN i < onesN k)
def fgC (x : Sg) (w n part u : Nat) (p : Option Nat) (i : Nat) : Bool := decide (andn i u = 0) && fewB p i && shutB x w n i part
def fgL (x : Sg) (w n part u : Nat) : Nat → Option Nat
  | 0 => none
  | i + 1 => if fgC x w n part u (fgL x w n part u i) i = true then some i else fgL x w n part u i
def fewI (x : Sg) (w n : Nat) : Int32 := if (So x).testBit w = true then (-1000000) else oI (fgL x w n (touchF x w) (touchF x w &&& gluF x) ((touchF x w &&& gluF x) + 1))
set_option maxRecDepth 100000 in
set_option maxHeartbeats 4000000 in
theorem c_X1_bestTrade (l : Launch) (D : va_G) (cA : Nat → ClassId) (tt : Nat → Nat) (ms : Int32) (q : Nat) (a b : Nat → Nat) (x y : Sg) (w n : Nat) (hg : Wk x) (ht : St x + 61 < 1073741824) (hw : w < Sn x) (hn : n ≤ 60) (sz : Nat) : CiE l D cA tt yX1_bestTrade wsX1_bestTrade ({ frames := 6, cells := 0, slots := 0, locals := 133 } : Room) [.ref (q), .ref (a 0), .int (nI (w)), .int (nI (n))] sz ([(q, .inr (1, [.ref (b 0), .int (ms)]))] ++ stW cA b y ++ stW cA a x) (fun zz : Sg => ([(q, .inr (1, [.ref (b 0), .int (oS (btO x w n (Sn x)))]))] ++ stW cA b zz ++ stW cA a x)) (oF (btO x w n (Sn x))) := by
  have hw10 : w < 10 := Nat.lt_of_lt_of_le hw hg.1
  have gn := hg.1
  refine CiE.mk (cc := cX1_bestTrade) (maxL := 8) (ty := .int) (by decide) rfl rfl (Nat.le_of_ble_eq_true rfl) ?_
  intro p e s m below meth c A Q ls hB hl hend
  obtain ⟨⟨hx, hb, hml, hown, hts⟩, hP, hK, hD, hS, hA, hE⟩ := hB
  have hown : s.vm.findClass RX1 = some m.cls := hown
  have hwsX40 : ∀ w9 ∈ wsX40, w9.before ([.ref (q), .ref (a 0), .int (nI (w)), .int (nI (n))] : List Value).toArray s = true := fun w9 h => hts w9 (List.mem_cons_of_mem _ (List.mem_append_right _ h))
  have hwsX10 : ∀ w9 ∈ wsX10, w9.before ([.ref (q), .ref (a 0), .int (nI (w)), .int (nI (n))] : List Value).toArray s = true := fun w9 h => hts w9 (List.mem_cons_of_mem _ (List.mem_append_left _ (List.mem_append_right _ h)))
  have hl : lv_has ls 8 [(0, .ref (q)), (1, .ref (a 0)), (2, .int (nI (w))), (3, .int (nI (n)))] := hl
  refine lv_ldc (v := (-1000000)) hx hb hown (hts (.constant RX1 33 (-1000000)) (List.mem_of_getElem? (i := 1) rfl)) dX1_bestTrade_0 ?_
  refine lv_istore (lv' := [(4, .int ((-1000000))), (0, .ref (q)), (1, .ref (a 0)), (2, .int (nI (w))), (3, .int (nI (n)))]) hx hb dX1_bestTrade_2 hl (by decide) rfl (fun ls hl => ?_)
  refine lv_aload_n hx hb dX1_bestTrade_4 rfl (lv_at hl 1 rfl) ?_
  refine lv_ldc (v := (-1000000)) hx hb hown (hts (.constant RX1 33 (-1000000)) (List.mem_of_getElem? (i := 1) rfl)) dX1_bestTrade_5 ?_
  refine va_put (v := .int ((-1000000))) (ty := .int) (Ts := wsX10) (C := RX1) (T := TX1) (N := 2) hx hb hwsX10 (fun _ h => h) tyX1 tyX1_ok nmX1 hown hK hP hD hS 0 rfl rfl 1 (by decide) (hts (.fieldLink RX1 71 "AdventStreets$Foretold" "mostSeen" "I") (List.mem_of_getElem? (i := 2) rfl)) (fun _ h9 => h9) rfl (tyX1_ok 1 (by decide)) rfl rfl (Nat.le_of_ble_eq_true rfl) dX1_bestTrade_7 (fun H locs hP hD hS => ?_)
  have hP : va_P D vwCl ([(q, .inr (1, [.ref (b 0), .int ((-1000000))]))] ++ stW cA b y ++ stW cA a x) H := hP
  have hD : va_D A ([(q, .inr (1, [.ref (b 0), .int ((-1000000))]))] ++ stW cA b y ++ stW cA a x) := hD
  refine lv_iconst (v := nI (0)) hx hb dX1_bestTrade_10 (by decide) ?_
  refine lv_istore (lv' := [(5, .int (nI (0))), (4, .int ((-1000000))), (0, .ref (q)), (1, .ref (a 0)), (2, .int (nI (w))), (3, .int (nI (n)))]) hx hb dX1_bestTrade_11 hl (by decide) rfl (fun ls hl => ?_)
  have loop11 : ∀ (N11 : Nat) (i : Nat) (p1 : Option (Nat × Nat)) (z : Sg), (i ≤ Sn x) → (btO x w n i = p1) → (oOk p1) → (Sn x - i) < N11 → ∀ (H : Heap) (locs : List Loc) (ls : Array Slot), va_P D vwCl ([(q, .inr (1, [.ref (b 0), .int (oS p1)]))] ++ stW cA b z ++ stW cA a x) H → va_D A ([(q, .inr (1, [.ref (b 0), .int (oS p1)]))] ++ stW cA b z ++ stW cA a x) → va_S A s.heap H locs → lv_has ls 8 [(5, .int (nI (i))), (4, .int (oF p1)), (0, .ref (q)), (1, .ref (a 0)), (2, .int (nI (w))), (3, .int (nI (n)))] → W p l e ({ frames := 6, cells := 0, slots := 0, locals := 133 } : Room) s m ([.ref (q), .ref (a 0), .int (nI (w)), .int (nI (n))] : List Value).toArray below meth c H locs 0 0 Q (F0 m 13 ls []) := by
    intro N11
    induction N11 with
    | zero => intro i p1 z iv11_0 iv11_1 iv11_2 hN; exact absurd hN (Nat.not_lt_zero _)
    | succ N11 ih11 =>
      intro i p1 z iv11_0 iv11_1 iv11_2 hN11 H locs ls hP hD hS hl
      refine lv_iload hx hb dX1_bestTrade_13 (lv_at hl 0 rfl) ?_
      refine lv_aload_n hx hb dX1_bestTrade_15 rfl (lv_at hl 3 rfl) ?_
      refine va_getN (v := .int (nI (Sn x))) (Ts := wsX40) (C := RX4) (T := TX4) (N := 10) hx hb hwsX40 (fun _ h => h) hown hK hP 7 rfl rfl 5 (by decide) (hE.1.f (q := ("AdventStreets$Foretold", 75, "AdventStreets$Street", "windows", "I")) 19 rfl) (fun _ h9 => h9) rfl dX1_bestTrade_16 ?_
      refine lv_icmp_ge (tgt := 87) hx hb dX1_bestTrade_19 (by decide) (fun c2 => ?_) (fun c2 => ?_)
      · skip
        rw [nI_leI (by omega) (by omega)] at c2
        refine lv_iload hx hb dX1_bestTrade_87 (lv_at hl 1 rfl) ?_
        have hm : oS p1 = oS (btO x w n (Sn x)) := by rw [show Sn x = i by omega, iv11_1]
        have hP : va_P D vwCl ([(q, .inr (1, [.ref (b 0), .int (oS (btO x w n (Sn x)))]))] ++ stW cA b z ++ stW cA a x) _ := Eq.mp (congrArg (fun z9 => va_P D vwCl ([(q, .inr (1, [.ref (b 0), .int (z9)]))] ++ stW cA b z ++ stW cA a x) _) hm) hP
        have hD : va_D A ([(q, .inr (1, [.ref (b 0), .int (oS (btO x w n (Sn x)))]))] ++ stW cA b z ++ stW cA a x) := Eq.mp (congrArg (fun z9 => va_D A ([(q, .inr (1, [.ref (b 0), .int (z9)]))] ++ stW cA b z ++ stW cA a x)) hm) hD
        exact hend _ _ _ _ _ z hP hD hS (by rw [show Sn x = i by omega, iv11_1]) dX1_bestTrade_89
      · skip
        rw [nI_leI (by omega) (by omega)] at c2
        refine lv_iload hx hb dX1_bestTrade_22 (lv_at hl 0 rfl) ?_
        refine lv_iconst (v := nI (1)) hx hb dX1_bestTrade_24 (by decide) ?_
        refine lv_iadd hx hb dX1_bestTrade_25 ?_
        refine vn_i (v := nI (i + 1)) (nI_add _ _) ?_
        refine lv_istore (lv' := [(6, .int (nI (i + 1))), (5, .int (nI (i))), (4, .int (oF p1)), (0, .ref (q)), (1, .ref (a 0)), (2, .int (nI (w))), (3, .int (nI (n)))]) hx hb dX1_bestTrade_26 hl (by decide) rfl (fun ls hl => ?_)
        have loop26 : ∀ (N26 : Nat) (k : Nat) (p2 : Option (Nat × Nat)) (z2 : Sg), (i + 1 + k ≤ Sn x) → (btI x w n i (btO x w n i) k = p2) → (oOk p2) → (Sn x - (i + 1 + k)) < N26 → ∀ (H : Heap) (locs : List Loc) (ls : Array Slot), va_P D vwCl ([(q, .inr (1, [.ref (b 0), .int (oS p2)]))] ++ stW cA b z2 ++ stW cA a x) H → va_D A ([(q, .inr (1, [.ref (b 0), .int (oS p2)]))] ++ stW cA b z2 ++ stW cA a x) → va_S A s.heap H locs → lv_has ls 8 [(6, .int (nI (i + 1 + k))), (5, .int (nI (i))), (4, .int (oF p2)), (0, .ref (q)), (1, .ref (a 0)), (2, .int (nI (w))), (3, .int (nI (n)))] → W p l e ({ frames := 6, cells := 0, slots := 0, locals := 133 } : Room) s m ([.ref (q), .ref (a 0), .int (nI (w)), .int (nI (n))] : List Value).toArray below meth c H locs 0 0 Q (F0 m 28 ls []) := by
          intro N26
          induction N26 with
          | zero => intro k p2 z2 iv26_0 iv26_1 iv26_2 hN; exact absurd hN (Nat.not_lt_zero _)
          | succ N26 ih26 =>
            intro k p2 z2 iv26_0 iv26_1 iv26_2 hN26 H locs ls hP hD hS hl
            refine lv_iload hx hb dX1_bestTrade_28 (lv_at hl 0 rfl) ?_
            refine lv_aload_n hx hb dX1_bestTrade_30 rfl (lv_at hl 4 rfl) ?_
            refine va_getN (v := .int (nI (Sn x))) (Ts := wsX40) (C := RX4) (T := TX4) (N := 10) hx hb hwsX40 (fun _ h => h) hown hK hP 7 rfl rfl 5 (by decide) (hE.1.f (q := ("AdventStreets$Foretold", 75, "AdventStreets$Street", "windows", "I")) 19 rfl) (fun _ h9 => h9) rfl dX1_bestTrade_31 ?_
            refine lv_icmp_ge (tgt := 81) hx hb dX1_bestTrade_34 (by decide) (fun c4 => ?_) (fun c4 => ?_)
            · skip
              rw [nI_leI (by omega) (by omega)] at c4
              refine lv_iinc (v := nI (i + 1)) (lv' := [(5, .int (nI (i + 1))), (6, .int (nI (i + 1 + k))), (4, .int (oF p2)), (0, .ref (q)), (1, .ref (a 0)), (2, .int (nI (w))), (3, .int (nI (n)))]) hx hb dX1_bestTrade_81 hl (k := 1) rfl (nI_add _ _) (by decide) rfl (fun ls hl => ?_)
              refine lv_goto (tgt := 13) hx hb dX1_bestTrade_84 (by decide) ?_
              have hl9 := lv_sub (l' := [(5, .int (nI (i + 1))), (4, .int (oF p2)), (0, .ref (q)), (1, .ref (a 0)), (2, .int (nI (w))), (3, .int (nI (n)))]) hl [0, 2, 3, 4, 5, 6] rfl
              exact ih11 (i + 1) p2 z2 (by omega) (by rw [btO, show Sn x - (i + 1) = k by omega]; exact iv26_1) (iv26_2) (by omega) _ _ _ hP hD hS hl9
            · skip
              rw [nI_leI (by omega) (by omega)] at c4
              refine lv_aload_n hx hb dX1_bestTrade_37 rfl (lv_at hl 3 rfl) ?_
              refine lv_aload_n hx hb dX1_bestTrade_38 rfl (lv_at hl 4 rfl) ?_
              refine lv_iload_n hx hb dX1_bestTrade_39 rfl (lv_at hl 5 rfl) ?_
              refine lv_iload_n hx hb dX1_bestTrade_40 rfl (lv_at hl 6 rfl) ?_
              refine lv_iload hx hb dX1_bestTrade_41 (lv_at hl 1 rfl) ?_
              refine lv_iload hx hb dX1_bestTrade_43 (lv_at hl 0 rfl) ?_
              refine cVie (n := 5) (As := [.ref (a 0), .int (nI (w)), .int (nI (n)), .int (nI (i)), .int (nI (i + 1 + k))]) (rest := []) (C := RX1) (ci := 1) (q0 := 0) (X := ([(q, .inr (1, [.ref (b 0), .int (oS p2)]))] ++ stW cA b z2 ++ stW cA a x)) (pl := []) (wc := ([(q, .inr (1, [.ref (b 0), .int (oS p2)]))] ++ stW cA b z2 ++ stW cA a x)) (wr := ([] : va_W)) (w1 := (fun z5 : Sg => ([(q, .inr (1, [.ref (b 0), .int (oS p2)]))] ++ stW cA b z5 ++ stW cA a x))) (wn := (fun z5 : Sg => ([(q, .inr (1, [.ref (b 0), .int (oS p2)]))] ++ stW cA b z5 ++ stW cA a x))) (isC := [0, 1, 2, 3, 4, 5, 6, 7, 8, 9, 10, 11, 12]) (isR := []) (isN := [0, 1, 2, 3, 4, 5, 6, 7, 8, 9, 10, 11, 12]) ⟨hx, hb, hml, hown, hts⟩ (c_X1_seenByTrade l D cA tt (oS p2) q a b x z2 w n i (i + 1 + k) (hg) (by omega) (by omega) (hw) (by omega) (by omega) _) gX1_bestTrade_X1_seenByTrade rfl (by decide +kernel) rfl rfl ⟨rfl, rfl⟩ ⟨Nat.le_of_ble_eq_true rfl, Nat.le_of_ble_eq_true rfl⟩ ⟨Nat.zero_le _, Nat.zero_le _⟩ hK hE hA hP hD hS (fun z5 => ⟨⟨rfl, by decide⟩, ⟨rfl, by decide, by decide⟩, rfl, by decide⟩) rfl hl.1 rfl (Nat.le_of_ble_eq_true rfl) dX1_bestTrade_45 (fun z5 H locs hP hD hS => ?_)
              have hP : va_P D vwCl ([(q, .inr (1, [.ref (b 0), .int (oS p2)]))] ++ stW cA b z5 ++ stW cA a x) H := hP
              have hD : va_D A ([(q, .inr (1, [.ref (b 0), .int (oS p2)]))] ++ stW cA b z5 ++ stW cA a x) := hD
              refine lv_istore (lv' := [(7, .int (nI (tradeN x w n i (i + 1 + k)))), (6, .int (nI (i + 1 + k))), (5, .int (nI (i))), (4, .int (oF p2)), (0, .ref (q)), (1, .ref (a 0)), (2, .int (nI (w))), (3, .int (nI (n)))]) hx hb dX1_bestTrade_48 hl (by decide) rfl (fun ls hl => ?_)
              refine lv_iload hx hb dX1_bestTrade_50 (lv_at hl 0 rfl) ?_
              refine lv_aload_n hx hb dX1_bestTrade_52 rfl (lv_at hl 4 rfl) ?_
              refine va_get (v := .int (oS p2)) (Ts := wsX10) (C := RX1) (T := TX1) (N := 2) hx hb hwsX10 (fun _ h => h) hown hK hP 0 rfl rfl 1 (by decide) (hts (.fieldLink RX1 71 "AdventStreets$Foretold" "mostSeen" "I") (List.mem_of_getElem? (i := 2) rfl)) (fun _ h9 => h9) rfl dX1_bestTrade_53 ?_
              refine lv_icmp_le (tgt := 75) hx hb dX1_bestTrade_56 (by decide) (fun c6 => ?_) (fun c6 => ?_)
              · skip
                refine lv_iinc (v := nI (i + 1 + k + 1)) (lv' := [(6, .int (nI (i + 1 + k + 1))), (7, .int (nI (tradeN x w n i (i + 1 + k)))), (5, .int (nI (i))), (4, .int (oF p2)), (0, .ref (q)), (1, .ref (a 0)), (2, .int (nI (w))), (3, .int (nI (n)))]) hx hb dX1_bestTrade_75 hl (k := 1) rfl (nI_add _ _) (by decide) rfl (fun ls hl => ?_)
                refine lv_goto (tgt := 28) hx hb dX1_bestTrade_78 (by decide) ?_
                have hl9 := lv_sub (l' := [(6, .int (nI (i + 1 + k + 1))), (5, .int (nI (i))), (4, .int (oF p2)), (0, .ref (q)), (1, .ref (a 0)), (2, .int (nI (w))), (3, .int (nI (n)))]) hl [0, 2, 3, 4, 5, 6, 7] rfl
                have el7 : (.int (nI (i + 1 + k + 1)) : Value) = .int (nI (i + 1 + (k + 1))) := by
                  rfl
                have hl9 : lv_has ls 8 [(6, .int (nI (i + 1 + (k + 1)))), (5, .int (nI (i))), (4, .int (oF p2)), (0, .ref (q)), (1, .ref (a 0)), (2, .int (nI (w))), (3, .int (nI (n)))] := Eq.mp (congrArg (fun z9 => lv_has ls 8 [(6, z9), (5, .int (nI (i))), (4, .int (oF p2)), (0, .ref (q)), (1, .ref (a 0)), (2, .int (nI (w))), (3, .int (nI (n)))]) el7) hl9
                exact ih26 (k + 1) p2 z5 (by omega) (by rw [btI, iv26_1]; exact btU_le c6 iv26_2) (iv26_2) (by omega) _ _ _ hP hD hS hl9
              · skip
                refine lv_aload_n hx hb dX1_bestTrade_59 rfl (lv_at hl 4 rfl) ?_
                refine lv_iload hx hb dX1_bestTrade_60 (lv_at hl 0 rfl) ?_
                refine va_put (v := .int (nI (tradeN x w n i (i + 1 + k)))) (ty := .int) (Ts := wsX10) (C := RX1) (T := TX1) (N := 2) hx hb hwsX10 (fun _ h => h) tyX1 tyX1_ok nmX1 hown hK hP hD hS 0 rfl rfl 1 (by decide) (hts (.fieldLink RX1 71 "AdventStreets$Foretold" "mostSeen" "I") (List.mem_of_getElem? (i := 2) rfl)) (fun _ h9 => h9) rfl (tyX1_ok 1 (by decide)) rfl rfl (Nat.le_of_ble_eq_true rfl) dX1_bestTrade_62 (fun H locs hP hD hS => ?_)
                have hP : va_P D vwCl ([(q, .inr (1, [.ref (b 0), .int (oS (some (10 * i + (i + 1 + k), tradeN x w n i (i + 1 + k))))]))] ++ stW cA b z5 ++ stW cA a x) H := hP
                have hD : va_D A ([(q, .inr (1, [.ref (b 0), .int (oS (some (10 * i + (i + 1 + k), tradeN x w n i (i + 1 + k))))]))] ++ stW cA b z5 ++ stW cA a x) := hD
                refine lv_bipush (v := nI (10)) hx hb dX1_bestTrade_65 (by decide) ?_
                refine lv_iload hx hb dX1_bestTrade_67 (lv_at hl 2 rfl) ?_
                refine lv_imul hx hb dX1_bestTrade_69 ?_
                refine vn_i (v := nI (10 * i)) (pk_mul _ _) ?_
                refine lv_iload hx hb dX1_bestTrade_70 (lv_at hl 1 rfl) ?_
                refine lv_iadd hx hb dX1_bestTrade_72 ?_
                refine vn_i (v := nI (10 * i + (i + 1 + k))) (nI_add _ _) ?_
                refine lv_istore (lv' := [(4, .int (nI (10 * i + (i + 1 + k)))), (7, .int (nI (tradeN x w n i (i + 1 + k)))), (6, .int (nI (i + 1 + k))), (5, .int (nI (i))), (0, .ref (q)), (1, .ref (a 0)), (2, .int (nI (w))), (3, .int (nI (n)))]) hx hb dX1_bestTrade_73 hl (by decide) rfl (fun ls hl => ?_)
                refine lv_iinc (v := nI (i + 1 + k + 1)) (lv' := [(6, .int (nI (i + 1 + k + 1))), (4, .int (nI (10 * i + (i + 1 + k)))), (7, .int (nI (tradeN x w n i (i + 1 + k)))), (5, .int (nI (i))), (0, .ref (q)), (1, .ref (a 0)), (2, .int (nI (w))), (3, .int (nI (n)))]) hx hb dX1_bestTrade_75 hl (k := 2) rfl (nI_add _ _) (by decide) rfl (fun ls hl => ?_)
                refine lv_goto (tgt := 28) hx hb dX1_bestTrade_78 (by decide) ?_
                have hl9 := lv_sub (l' := [(6, .int (nI (i + 1 + k + 1))), (5, .int (nI (i))), (4, .int (nI (10 * i + (i + 1 + k)))), (0, .ref (q)), (1, .ref (a 0)), (2, .int (nI (w))), (3, .int (nI (n)))]) hl [0, 3, 1, 4, 5, 6, 7] rfl
                have el8 : (.int (nI (i + 1 + k + 1)) : Value) = .int (nI (i + 1 + (k + 1))) := by
                  rfl
                have hl9 : lv_has ls 8 [(6, .int (nI (i + 1 + (k + 1)))), (5, .int (nI (i))), (4, .int (nI (10 * i + (i + 1 + k)))), (0, .ref (q)), (1, .ref (a 0)), (2, .int (nI (w))), (3, .int (nI (n)))] := Eq.mp (congrArg (fun z9 => lv_has ls 8 [(6, z9), (5, .int (nI (i))), (4, .int (nI (10 * i + (i + 1 + k)))), (0, .ref (q)), (1, .ref (a 0)), (2, .int (nI (w))), (3, .int (nI (n)))]) el8) hl9
                have el10 : (.int (nI (10 * i + (i + 1 + k))) : Value) = .int (oF (some (10 * i + (i + 1 + k), tradeN x w n i (i + 1 + k)))) := by
                  rfl
                have hl9 : lv_has ls 8 [(6, .int (nI (i + 1 + (k + 1)))), (5, .int (nI (i))), (4, .int (oF (some (10 * i + (i + 1 + k), tradeN x w n i (i + 1 + k))))), (0, .ref (q)), (1, .ref (a 0)), (2, .int (nI (w))), (3, .int (nI (n)))] := Eq.mp (congrArg (fun z9 => lv_has ls 8 [(6, .int (nI (i + 1 + (k + 1)))), (5, .int (nI (i))), (4, z9), (0, .ref (q)), (1, .ref (a 0)), (2, .int (nI (w))), (3, .int (nI (n)))]) el10) hl9
                exact ih26 (k + 1) (some (10 * i + (i + 1 + k), tradeN x w n i (i + 1 + k))) z5 (by omega) (by rw [btI, iv26_1]; exact btU_gt c6 iv26_2) (fun q hq => by cases hq; exact ⟨by omega, onesN_le _⟩) (by omega) _ _ _ hP hD hS hl9
        have hl9 := lv_sub (l' := [(6, .int (nI (i + 1))), (5, .int (nI (i))), (4, .int (oF p1)), (0, .ref (q)), (1, .ref (a 0)), (2, .int (nI (w))), (3, .int (nI (n)))]) hl [0, 1, 2, 3, 4, 5, 6] rfl
        have el11 : (.int (nI (i + 1)) : Value) = .int (nI (i + 1 + 0)) := by
          rfl
        have hl9 : lv_has ls 8 [(6, .int (nI (i + 1 + 0))), (5, .int (nI (i))), (4, .int (oF p1)), (0, .ref (q)), (1, .ref (a 0)), (2, .int (nI (w))), (3, .int (nI (n)))] := Eq.mp (congrArg (fun z9 => lv_has ls 8 [(6, z9), (5, .int (nI (i))), (4, .int (oF p1)), (0, .ref (q)), (1, .ref (a 0)), (2, .int (nI (w))), (3, .int (nI (n)))]) el11) hl9
        exact loop26 _ 0 p1 z (by omega) (by rw [btI]; exact iv11_1) (iv11_2) (Nat.lt_succ_self _) _ _ _ hP hD hS hl9
  have hl9 := lv_sub (l' := [(5, .int (nI (0))), (4, .int ((-1000000))), (0, .ref (q)), (1, .ref (a 0)), (2, .int (nI (w))), (3, .int (nI (n)))]) hl [0, 1, 2, 3, 4, 5] rfl
  have hP : va_P D vwCl ([(q, .inr (1, [.ref (b 0), .int (oS none)]))] ++ stW cA b y ++ stW cA a x) _ := hP
  have hD : va_D A ([(q, .inr (1, [.ref (b 0), .int (oS none)]))] ++ stW cA b y ++ stW cA a x) := hD
  have el13 : (.int ((-1000000)) : Value) = .int (oF none) := by
    rfl
  have hl9 : lv_has ls 8 [(5, .int (nI (0))), (4, .int (oF none)), (0, .ref (q)), (1, .ref (a 0)), (2, .int (nI (w))), (3, .int (nI (n)))] := Eq.mp (congrArg (fun z9 => lv_has ls 8 [(5, .int (nI (0))), (4, z9), (0, .ref (q)), (1, .ref (a 0)), (2, .int (nI (w))), (3, .int (nI (n)))]) el13) hl9
  exact loop11 _ 0 none y (Nat.zero_le _) (rfl) (fun q hq => by cases hq) (Nat.lt_succ_self _) _ _ _ hP hD hS hl9
set_option maxRecDepth 100000 in
set_option maxHeartbeats 4000000 in
theorem c_X1_fewestGlued (l : Launch) (D : va_G) (cA : Nat → ClassId) (tt : Nat → Nat) (ms : Int32) (q : Nat) (a b : Nat → Nat) (x y : Sg) (w n : Nat) (hg : Wk x) (ht : St x + 61 < 1073741824) (hw : w < Sn x) (hn : n ≤ 60) (sz : Nat) : CiE l D cA tt yX1_fewestGlued wsX1_fewestGlued ({ frames := 4, cells := 0, slots := 0, locals := 107 } : Room) [.ref (q), .ref (a 0), .int (nI (w)), .int (nI (n))] sz ([(q, .inr (1, [.ref (b 0), .int (ms)]))] ++ stW cA b y ++ stW cA a x) (fun zz : Sg => ([(q, .inr (1, [.ref (b 0), .int (ms)]))] ++ stW cA b zz ++ stW cA a x)) (fewI x w n) := by
  have hw10 : w < 10 := Nat.lt_of_lt_of_le hw hg.1
  have hto := touch_lt hg.1 hw10 (Sn x)
  have hu : ((touchF x w) &&& (gluF x)) < 1024 := and10 hto
  have htF : touchF x w < 1024 := hto
  refine CiE.mk (cc := cX1_fewestGlued) (maxL := 9) (ty := .int) (by decide) rfl rfl (Nat.le_of_ble_eq_true rfl) ?_
  intro p e s m below meth c A Q ls hB hl hend
  obtain ⟨⟨hx, hb, hml, hown, hts⟩, hP, hK, hD, hS, hA, hE⟩ := hB
  have hown : s.vm.findClass RX1 = some m.cls := hown
  have hwsX40 : ∀ w9 ∈ wsX40, w9.before ([.ref (q), .ref (a 0), .int (nI (w)), .int (nI (n))] : List Value).toArray s = true := fun w9 h => hts w9 (List.mem_cons_of_mem _ (List.mem_append_left _ (List.mem_append_right _ h)))
  have hwsX10 : ∀ w9 ∈ wsX10, w9.before ([.ref (q), .ref (a 0), .int (nI (w)), .int (nI (n))] : List Value).toArray s = true := fun w9 h => hts w9 (List.mem_cons_of_mem _ (List.mem_append_right _ h))
  have hl : lv_has ls 9 [(0, .ref (q)), (1, .ref (a 0)), (2, .int (nI (w))), (3, .int (nI (n)))] := hl
  refine lv_aload_n hx hb dX1_fewestGlued_0 rfl (lv_at hl 1 rfl) ?_
  refine lv_iload_n hx hb dX1_fewestGlued_1 rfl (lv_at hl 2 rfl) ?_
  refine cVi (n := 1) (As := [.int (nI (w))]) (rest := []) (C := RX4) (ci := 4) (q0 := 0) (X := ([(q, .inr (1, [.ref (b 0), .int (ms)]))] ++ stW cA b y ++ stW cA a x)) (pl := []) (wc := (stW cA a x)) (wr := ([(q, .inr (1, [.ref (b 0), .int (ms)]))] ++ stW cA b y)) (w1 := (stW cA a x)) (wn := ([(q, .inr (1, [.ref (b 0), .int (ms)]))] ++ stW cA b y ++ stW cA a x)) (isC := [7, 8, 9, 10, 11, 12]) (isR := [0, 1, 2, 3, 4, 5, 6]) (isN := [0, 1, 2, 3, 4, 5, 6, 7, 8, 9, 10, 11, 12]) ⟨hx, hb, hml, hown, hts⟩ (c_X4_isOpen l D cA tt a x w (hg) (by omega) _) gX1_fewestGlued_X4_isOpen rfl (by decide +kernel) rfl rfl ⟨rfl, rfl⟩ ⟨Nat.le_of_ble_eq_true rfl, Nat.le_of_ble_eq_true rfl⟩ ⟨Nat.zero_le _, Nat.zero_le _⟩ hK hE hA hP hD hS ⟨⟨rfl, by decide⟩, ⟨rfl, by decide, by decide⟩, rfl, by decide⟩ rfl hl.1 rfl (Nat.le_of_ble_eq_true rfl) dX1_fewestGlued_2 (fun H locs hP hD hS => ?_)
  have hP : va_P D vwCl ([(q, .inr (1, [.ref (b 0), .int (ms)]))] ++ stW cA b y ++ stW cA a x) H := hP
  have hD : va_D A ([(q, .inr (1, [.ref (b 0), .int (ms)]))] ++ stW cA b y ++ stW cA a x) := hD
  refine lv_if_eq (tgt := 11) hx hb dX1_fewestGlued_5 (by decide) (fun c1 => ?_) (fun c1 => ?_)
  · skip
    rw [bI_z] at c1
    refine lv_aload_n hx hb dX1_fewestGlued_11 rfl (lv_at hl 1 rfl) ?_
    refine lv_iload_n hx hb dX1_fewestGlued_12 rfl (lv_at hl 2 rfl) ?_
    refine cVi (n := 1) (As := [.int (nI (w))]) (rest := []) (C := RX4) (ci := 4) (q0 := 0) (X := ([(q, .inr (1, [.ref (b 0), .int (ms)]))] ++ stW cA b y ++ stW cA a x)) (pl := []) (wc := (stW cA a x)) (wr := ([(q, .inr (1, [.ref (b 0), .int (ms)]))] ++ stW cA b y)) (w1 := (stW cA a x)) (wn := ([(q, .inr (1, [.ref (b 0), .int (ms)]))] ++ stW cA b y ++ stW cA a x)) (isC := [7, 8, 9, 10, 11, 12]) (isR := [0, 1, 2, 3, 4, 5, 6]) (isN := [0, 1, 2, 3, 4, 5, 6, 7, 8, 9, 10, 11, 12]) ⟨hx, hb, hml, hown, hts⟩ (c_X4_touching l D cA tt a x w (hg) (hw10) _) gX1_fewestGlued_X4_touching rfl (by decide +kernel) rfl rfl ⟨rfl, rfl⟩ ⟨Nat.le_of_ble_eq_true rfl, Nat.le_of_ble_eq_true rfl⟩ ⟨Nat.zero_le _, Nat.zero_le _⟩ hK hE hA hP hD hS ⟨⟨rfl, by decide⟩, ⟨rfl, by decide, by decide⟩, rfl, by decide⟩ rfl hl.1 rfl (Nat.le_of_ble_eq_true rfl) dX1_fewestGlued_13 (fun H locs hP hD hS => ?_)
    have hP : va_P D vwCl ([(q, .inr (1, [.ref (b 0), .int (ms)]))] ++ stW cA b y ++ stW cA a x) H := hP
    have hD : va_D A ([(q, .inr (1, [.ref (b 0), .int (ms)]))] ++ stW cA b y ++ stW cA a x) := hD
    refine lv_istore (lv' := [(4, .int (nI (touchF x w))), (0, .ref (q)), (1, .ref (a 0)), (2, .int (nI (w))), (3, .int (nI (n)))]) hx hb dX1_fewestGlued_16 hl (by decide) rfl (fun ls hl => ?_)
    refine lv_iload hx hb dX1_fewestGlued_18 (lv_at hl 0 rfl) ?_
    refine lv_aload_n hx hb dX1_fewestGlued_20 rfl (lv_at hl 2 rfl) ?_
    refine cVi (n := 0) (As := []) (rest := [.int (nI (touchF x w))]) (C := RX4) (ci := 4) (q0 := 0) (X := ([(q, .inr (1, [.ref (b 0), .int (ms)]))] ++ stW cA b y ++ stW cA a x)) (pl := []) (wc := (stW cA a x)) (wr := ([(q, .inr (1, [.ref (b 0), .int (ms)]))] ++ stW cA b y)) (w1 := (stW cA a x)) (wn := ([(q, .inr (1, [.ref (b 0), .int (ms)]))] ++ stW cA b y ++ stW cA a x)) (isC := [7, 8, 9, 10, 11, 12]) (isR := [0, 1, 2, 3, 4, 5, 6]) (isN := [0, 1, 2, 3, 4, 5, 6, 7, 8, 9, 10, 11, 12]) ⟨hx, hb, hml, hown, hts⟩ (c_X4_gluable l D cA tt a x (hg) _) gX1_fewestGlued_X4_gluable rfl (by decide +kernel) rfl rfl ⟨rfl, rfl⟩ ⟨Nat.le_of_ble_eq_true rfl, Nat.le_of_ble_eq_true rfl⟩ ⟨Nat.zero_le _, Nat.zero_le _⟩ hK hE hA hP hD hS ⟨⟨rfl, by decide⟩, ⟨rfl, by decide, by decide⟩, rfl, by decide⟩ rfl hl.1 rfl (Nat.le_of_ble_eq_true rfl) dX1_fewestGlued_21 (fun H locs hP hD hS => ?_)
    have hP : va_P D vwCl ([(q, .inr (1, [.ref (b 0), .int (ms)]))] ++ stW cA b y ++ stW cA a x) H := hP
    have hD : va_D A ([(q, .inr (1, [.ref (b 0), .int (ms)]))] ++ stW cA b y ++ stW cA a x) := hD
    refine lv_iand hx hb dX1_fewestGlued_24 ?_
    refine vn_i (v := nI ((touchF x w) &&& (gluF x))) (n_and _ _) ?_
    refine lv_istore (lv' := [(5, .int (nI ((touchF x w) &&& (gluF x)))), (4, .int (nI (touchF x w))), (0, .ref (q)), (1, .ref (a 0)), (2, .int (nI (w))), (3, .int (nI (n)))]) hx hb dX1_fewestGlued_25 hl (by decide) rfl (fun ls hl => ?_)
    refine lv_ldc (v := (-1000000)) hx hb hown (hts (.constant RX1 33 (-1000000)) (List.mem_of_getElem? (i := 1) rfl)) dX1_fewestGlued_27 ?_
    refine lv_istore (lv' := [(6, .int ((-1000000))), (5, .int (nI ((touchF x w) &&& (gluF x)))), (4, .int (nI (touchF x w))), (0, .ref (q)), (1, .ref (a 0)), (2, .int (nI (w))), (3, .int (nI (n)))]) hx hb dX1_fewestGlued_29 hl (by decide) rfl (fun ls hl => ?_)
    refine lv_iconst (v := nI (0)) hx hb dX1_fewestGlued_31 (by decide) ?_
    refine lv_istore (lv' := [(7, .int (nI (0))), (6, .int ((-1000000))), (5, .int (nI ((touchF x w) &&& (gluF x)))), (4, .int (nI (touchF x w))), (0, .ref (q)), (1, .ref (a 0)), (2, .int (nI (w))), (3, .int (nI (n)))]) hx hb dX1_fewestGlued_32 hl (by decide) rfl (fun ls hl => ?_)
    have loop34 : ∀ (N34 : Nat) (i : Nat) (bb : Option Nat) (z : Sg), (i ≤ ((touchF x w) &&& (gluF x)) + 1) → (fgL x w n (touchF x w) ((touchF x w) &&& (gluF x)) i = bb) → (∀ k, bb = some k → k < 1024) → (((touchF x w) &&& (gluF x)) + 1 - i) < N34 → ∀ (H : Heap) (locs : List Loc) (ls : Array Slot), va_P D vwCl ([(q, .inr (1, [.ref (b 0), .int (ms)]))] ++ stW cA b z ++ stW cA a x) H → va_D A ([(q, .inr (1, [.ref (b 0), .int (ms)]))] ++ stW cA b z ++ stW cA a x) → va_S A s.heap H locs → lv_has ls 9 [(7, .int (nI (i))), (6, .int (oI bb)), (5, .int (nI ((touchF x w) &&& (gluF x)))), (4, .int (nI (touchF x w))), (0, .ref (q)), (1, .ref (a 0)), (2, .int (nI (w))), (3, .int (nI (n)))] → W p l e ({ frames := 4, cells := 0, slots := 0, locals := 107 } : Room) s m ([.ref (q), .ref (a 0), .int (nI (w)), .int (nI (n))] : List Value).toArray below meth c H locs 0 0 Q (F0 m 34 ls []) := by
      intro N34
      induction N34 with
      | zero => intro i bb z iv34_0 iv34_1 iv34_2 hN; exact absurd hN (Nat.not_lt_zero _)
      | succ N34 ih34 =>
        intro i bb z iv34_0 iv34_1 iv34_2 hN34 H locs ls hP hD hS hl
        refine lv_iload hx hb dX1_fewestGlued_34 (lv_at hl 0 rfl) ?_
        refine lv_iload hx hb dX1_fewestGlued_36 (lv_at hl 2 rfl) ?_
        refine lv_icmp_gt (tgt := 107) hx hb dX1_fewestGlued_38 (by decide) (fun c3 => ?_) (fun c3 => ?_)
        · skip
          rw [nI_ltI (by omega) (by omega)] at c3
          refine lv_iload hx hb dX1_fewestGlued_107 (lv_at hl 1 rfl) ?_
          exact hend _ _ _ _ _ z hP hD hS (by rw [fewI, if_neg (by rw [c1]; decide), show ((touchF x w) &&& (gluF x)) + 1 = i by omega, iv34_1]) dX1_fewestGlued_109
        · skip
          rw [nI_ltI (by omega) (by omega)] at c3
          refine joinW (pc' := 66) (ls' := ls) (rest' := []) (bI (fewB bb i)) hP hD hS (fun jn66 => ?_) (fun H locs hP hD hS => ?_)
          · skip
            refine lv_iload hx hb dX1_fewestGlued_41 (lv_at hl 1 rfl) ?_
            refine lv_ldc (v := (-1000000)) hx hb hown (hts (.constant RX1 33 (-1000000)) (List.mem_of_getElem? (i := 1) rfl)) dX1_fewestGlued_43 ?_
            refine lv_icmp_eq (tgt := 61) hx hb dX1_fewestGlued_45 (by decide) (fun c4 => ?_) (fun c4 => ?_)
            · skip
              have hb9 := oI_none iv34_2 c4
              refine lv_iconst (v := nI (1)) hx hb dX1_fewestGlued_61 (by decide) ?_
              refine lv_goto (tgt := 66) hx hb dX1_fewestGlued_62 (by decide) ?_
              exact jn66 _ _ _ (one_bI (by first | (simp [fewB, c1, c3, c4, hb9]; done) | (simp [fewB]; omega))) hP hD hS
            · skip
              obtain ⟨k9, rfl, hk9⟩ := oI_some iv34_2 c4
              have hl : lv_has ls 9 [(7, .int (nI (i))), (6, .int (nI (k9))), (5, .int (nI ((touchF x w) &&& (gluF x)))), (4, .int (nI (touchF x w))), (0, .ref (q)), (1, .ref (a 0)), (2, .int (nI (w))), (3, .int (nI (n)))] := hl
              refine lv_iload hx hb dX1_fewestGlued_48 (lv_at hl 0 rfl) ?_
              refine cSi (n := 1) (As := [.int (nI (i))]) (rest := []) (X := ([(q, .inr (1, [.ref (b 0), .int (ms)]))] ++ stW cA b z ++ stW cA a x)) (pl := []) (wc := ([] : va_W)) (wr := ([(q, .inr (1, [.ref (b 0), .int (ms)]))] ++ stW cA b z ++ stW cA a x)) (w1 := ([] : va_W)) (wn := ([(q, .inr (1, [.ref (b 0), .int (ms)]))] ++ stW cA b z ++ stW cA a x)) (isC := []) (isR := [0, 1, 2, 3, 4, 5, 6, 7, 8, 9, 10, 11, 12]) (isN := [0, 1, 2, 3, 4, 5, 6, 7, 8, 9, 10, 11, 12]) ⟨hx, hb, hml, hown, hts⟩ (c_J6_bitCount_0f7a4 l D cA tt i (by omega) _) gX1_fewestGlued_J6_bitCount_0f7a4 rfl (by decide +kernel) ⟨rfl, rfl⟩ ⟨Nat.le_of_ble_eq_true rfl, Nat.le_of_ble_eq_true rfl⟩ ⟨Nat.zero_le _, Nat.zero_le _⟩ hK hE hA hP hD hS ⟨⟨rfl, by decide⟩, ⟨rfl, by decide, by decide⟩, rfl, by decide⟩ rfl hl.1 rfl (Nat.le_of_ble_eq_true rfl) dX1_fewestGlued_50 (fun H locs hP hD hS => ?_)
              have hP : va_P D vwCl ([(q, .inr (1, [.ref (b 0), .int (ms)]))] ++ stW cA b z ++ stW cA a x) H := hP
              have hD : va_D A ([(q, .inr (1, [.ref (b 0), .int (ms)]))] ++ stW cA b z ++ stW cA a x) := hD
              refine lv_iload hx hb dX1_fewestGlued_53 (lv_at hl 1 rfl) ?_
              refine cSi (n := 1) (As := [.int (nI (k9))]) (rest := [.int (nI (onesN i))]) (X := ([(q, .inr (1, [.ref (b 0), .int (ms)]))] ++ stW cA b z ++ stW cA a x)) (pl := []) (wc := ([] : va_W)) (wr := ([(q, .inr (1, [.ref (b 0), .int (ms)]))] ++ stW cA b z ++ stW cA a x)) (w1 := ([] : va_W)) (wn := ([(q, .inr (1, [.ref (b 0), .int (ms)]))] ++ stW cA b z ++ stW cA a x)) (isC := []) (isR := [0, 1, 2, 3, 4, 5, 6, 7, 8, 9, 10, 11, 12]) (isN := [0, 1, 2, 3, 4, 5, 6, 7, 8, 9, 10, 11, 12]) ⟨hx, hb, hml, hown, hts⟩ (c_J6_bitCount_0f7a4 l D cA tt k9 (by omega) _) gX1_fewestGlued_J6_bitCount_0f7a4 rfl (by decide +kernel) ⟨rfl, rfl⟩ ⟨Nat.le_of_ble_eq_true rfl, Nat.le_of_ble_eq_true rfl⟩ ⟨Nat.zero_le _, Nat.zero_le _⟩ hK hE hA hP hD hS ⟨⟨rfl, by decide⟩, ⟨rfl, by decide, by decide⟩, rfl, by decide⟩ rfl hl.1 rfl (Nat.le_of_ble_eq_true rfl) dX1_fewestGlued_55 (fun H locs hP hD hS => ?_)
              have hP : va_P D vwCl ([(q, .inr (1, [.ref (b 0), .int (ms)]))] ++ stW cA b z ++ stW cA a x) H := hP
              have hD : va_D A ([(q, .inr (1, [.ref (b 0), .int (ms)]))] ++ stW cA b z ++ stW cA a x) := hD
              refine lv_icmp_ge (tgt := 65) hx hb dX1_fewestGlued_58 (by decide) (fun c5 => ?_) (fun c5 => ?_)
              · skip
                rw [nI_leI (Nat.lt_of_le_of_lt (onesN_le _) (by decide)) (Nat.lt_of_le_of_lt (onesN_le _) (by decide))] at c5
                refine lv_iconst (v := nI (0)) hx hb dX1_fewestGlued_65 (by decide) ?_
                exact jn66 _ _ _ (zero_bI (by first | (simp [fewB, c1, c3, c4, c5]; done) | (simp [fewB]; omega))) hP hD hS
              · skip
                rw [nI_leI (Nat.lt_of_le_of_lt (onesN_le _) (by decide)) (Nat.lt_of_le_of_lt (onesN_le _) (by decide))] at c5
                refine lv_iconst (v := nI (1)) hx hb dX1_fewestGlued_61 (by decide) ?_
                refine lv_goto (tgt := 66) hx hb dX1_fewestGlued_62 (by decide) ?_
                exact jn66 _ _ _ (one_bI (by first | (simp [fewB, c1, c3, c4, c5]; done) | (simp [fewB]; omega))) hP hD hS
          · skip
            have hP : va_P D vwCl ([(q, .inr (1, [.ref (b 0), .int (ms)]))] ++ stW cA b z ++ stW cA a x) H := hP
            have hD : va_D A ([(q, .inr (1, [.ref (b 0), .int (ms)]))] ++ stW cA b z ++ stW cA a x) := hD
            refine lv_istore (lv' := [(8, .int (bI (fewB bb i))), (7, .int (nI (i))), (6, .int (oI bb)), (5, .int (nI ((touchF x w) &&& (gluF x)))), (4, .int (nI (touchF x w))), (0, .ref (q)), (1, .ref (a 0)), (2, .int (nI (w))), (3, .int (nI (n)))]) hx hb dX1_fewestGlued_66 hl (by decide) rfl (fun ls hl => ?_)
            refine lv_iload hx hb dX1_fewestGlued_68 (lv_at hl 1 rfl) ?_
            refine lv_iload hx hb dX1_fewestGlued_70 (lv_at hl 3 rfl) ?_
            refine lv_iconst (v := (-1)) hx hb dX1_fewestGlued_72 (by decide) ?_
            refine lv_ixor hx hb dX1_fewestGlued_73 ?_
            refine lv_iand hx hb dX1_fewestGlued_74 ?_
            refine vn_i (v := nI (andn i ((touchF x w) &&& (gluF x)))) (n_andn) ?_
            refine lv_if_ne (tgt := 101) hx hb dX1_fewestGlued_75 (by decide) (fun c6 => ?_) (fun c6 => ?_)
            · skip
              rw [n_z (Nat.lt_of_le_of_lt (andn_le _ _) (by omega))] at c6
              refine lv_iinc (v := nI (i + 1)) (lv' := [(7, .int (nI (i + 1))), (8, .int (bI (fewB bb i))), (6, .int (oI bb)), (5, .int (nI ((touchF x w) &&& (gluF x)))), (4, .int (nI (touchF x w))), (0, .ref (q)), (1, .ref (a 0)), (2, .int (nI (w))), (3, .int (nI (n)))]) hx hb dX1_fewestGlued_101 hl (k := 1) rfl (nI_add _ _) (by decide) rfl (fun ls hl => ?_)
              refine lv_goto (tgt := 34) hx hb dX1_fewestGlued_104 (by decide) ?_
              have hl9 := lv_sub (l' := [(7, .int (nI (i + 1))), (6, .int (oI bb)), (5, .int (nI ((touchF x w) &&& (gluF x)))), (4, .int (nI (touchF x w))), (0, .ref (q)), (1, .ref (a 0)), (2, .int (nI (w))), (3, .int (nI (n)))]) hl [0, 2, 3, 4, 5, 6, 7, 8] rfl
              exact ih34 (i + 1) bb z (by omega) (by rw [fgL, iv34_1, if_neg (by unfold fgC; rw [decide_eq_false c6]; simp)]) (iv34_2) (by omega) _ _ _ hP hD hS hl9
            · skip
              rw [n_z (Nat.lt_of_le_of_lt (andn_le _ _) (by omega))] at c6
              refine lv_iload hx hb dX1_fewestGlued_78 (lv_at hl 0 rfl) ?_
              refine lv_if_eq (tgt := 101) hx hb dX1_fewestGlued_80 (by decide) (fun c7 => ?_) (fun c7 => ?_)
              · skip
                rw [bI_z] at c7
                refine lv_iinc (v := nI (i + 1)) (lv' := [(7, .int (nI (i + 1))), (8, .int (bI (fewB bb i))), (6, .int (oI bb)), (5, .int (nI ((touchF x w) &&& (gluF x)))), (4, .int (nI (touchF x w))), (0, .ref (q)), (1, .ref (a 0)), (2, .int (nI (w))), (3, .int (nI (n)))]) hx hb dX1_fewestGlued_101 hl (k := 1) rfl (nI_add _ _) (by decide) rfl (fun ls hl => ?_)
                refine lv_goto (tgt := 34) hx hb dX1_fewestGlued_104 (by decide) ?_
                have hl9 := lv_sub (l' := [(7, .int (nI (i + 1))), (6, .int (oI bb)), (5, .int (nI ((touchF x w) &&& (gluF x)))), (4, .int (nI (touchF x w))), (0, .ref (q)), (1, .ref (a 0)), (2, .int (nI (w))), (3, .int (nI (n)))]) hl [0, 2, 3, 4, 5, 6, 7, 8] rfl
                exact ih34 (i + 1) bb z (by omega) (by rw [fgL, iv34_1, if_neg (by unfold fgC; rw [c7]; simp)]) (iv34_2) (by omega) _ _ _ hP hD hS hl9
              · skip
                rw [bI_nz] at c7
                refine lv_aload_n hx hb dX1_fewestGlued_83 rfl (lv_at hl 5 rfl) ?_
                refine lv_aload_n hx hb dX1_fewestGlued_84 rfl (lv_at hl 6 rfl) ?_
                refine lv_iload_n hx hb dX1_fewestGlued_85 rfl (lv_at hl 7 rfl) ?_
                refine lv_iload_n hx hb dX1_fewestGlued_86 rfl (lv_at hl 8 rfl) ?_
                refine lv_iload hx hb dX1_fewestGlued_87 (lv_at hl 1 rfl) ?_
                refine lv_iload hx hb dX1_fewestGlued_89 (lv_at hl 4 rfl) ?_
                refine cVie (n := 5) (As := [.ref (a 0), .int (nI (w)), .int (nI (n)), .int (nI (i)), .int (nI (touchF x w))]) (rest := []) (C := RX1) (ci := 1) (q0 := 0) (X := ([(q, .inr (1, [.ref (b 0), .int (ms)]))] ++ stW cA b z ++ stW cA a x)) (pl := []) (wc := ([(q, .inr (1, [.ref (b 0), .int (ms)]))] ++ stW cA b z ++ stW cA a x)) (wr := ([] : va_W)) (w1 := (fun z8 : Sg => ([(q, .inr (1, [.ref (b 0), .int (ms)]))] ++ stW cA b z8 ++ stW cA a x))) (wn := (fun z8 : Sg => ([(q, .inr (1, [.ref (b 0), .int (ms)]))] ++ stW cA b z8 ++ stW cA a x))) (isC := [0, 1, 2, 3, 4, 5, 6, 7, 8, 9, 10, 11, 12]) (isR := []) (isN := [0, 1, 2, 3, 4, 5, 6, 7, 8, 9, 10, 11, 12]) ⟨hx, hb, hml, hown, hts⟩ (c_X1_staysShut l D cA tt ms q a b x z w n i (touchF x w) (hg) (ht) (hw) (hn) (by omega) (by omega) _) gX1_fewestGlued_X1_staysShut rfl (by decide +kernel) rfl rfl ⟨rfl, rfl⟩ ⟨Nat.le_of_ble_eq_true rfl, Nat.le_of_ble_eq_true rfl⟩ ⟨Nat.zero_le _, Nat.zero_le _⟩ hK hE hA hP hD hS (fun z8 => ⟨⟨rfl, by decide⟩, ⟨rfl, by decide, by decide⟩, rfl, by decide⟩) rfl hl.1 rfl (Nat.le_of_ble_eq_true rfl) dX1_fewestGlued_91 (fun z8 H locs hP hD hS => ?_)
                have hP : va_P D vwCl ([(q, .inr (1, [.ref (b 0), .int (ms)]))] ++ stW cA b z8 ++ stW cA a x) H := hP
                have hD : va_D A ([(q, .inr (1, [.ref (b 0), .int (ms)]))] ++ stW cA b z8 ++ stW cA a x) := hD
                refine lv_if_eq (tgt := 101) hx hb dX1_fewestGlued_94 (by decide) (fun c9 => ?_) (fun c9 => ?_)
                · skip
                  rw [bI_z] at c9
                  refine lv_iinc (v := nI (i + 1)) (lv' := [(7, .int (nI (i + 1))), (8, .int (bI (fewB bb i))), (6, .int (oI bb)), (5, .int (nI ((touchF x w) &&& (gluF x)))), (4, .int (nI (touchF x w))), (0, .ref (q)), (1, .ref (a 0)), (2, .int (nI (w))), (3, .int (nI (n)))]) hx hb dX1_fewestGlued_101 hl (k := 1) rfl (nI_add _ _) (by decide) rfl (fun ls hl => ?_)
                  refine lv_goto (tgt := 34) hx hb dX1_fewestGlued_104 (by decide) ?_
                  have hl9 := lv_sub (l' := [(7, .int (nI (i + 1))), (6, .int (oI bb)), (5, .int (nI ((touchF x w) &&& (gluF x)))), (4, .int (nI (touchF x w))), (0, .ref (q)), (1, .ref (a 0)), (2, .int (nI (w))), (3, .int (nI (n)))]) hl [0, 2, 3, 4, 5, 6, 7, 8] rfl
                  exact ih34 (i + 1) bb z8 (by omega) (by rw [fgL, iv34_1, if_neg (by unfold fgC; rw [c9]; simp)]) (iv34_2) (by omega) _ _ _ hP hD hS hl9
                · skip
                  rw [bI_nz] at c9
                  refine lv_iload hx hb dX1_fewestGlued_97 (lv_at hl 1 rfl) ?_
                  refine lv_istore (lv' := [(6, .int (nI (i))), (8, .int (bI (fewB bb i))), (7, .int (nI (i))), (5, .int (nI ((touchF x w) &&& (gluF x)))), (4, .int (nI (touchF x w))), (0, .ref (q)), (1, .ref (a 0)), (2, .int (nI (w))), (3, .int (nI (n)))]) hx hb dX1_fewestGlued_99 hl (by decide) rfl (fun ls hl => ?_)
                  refine lv_iinc (v := nI (i + 1)) (lv' := [(7, .int (nI (i + 1))), (6, .int (nI (i))), (8, .int (bI (fewB bb i))), (5, .int (nI ((touchF x w) &&& (gluF x)))), (4, .int (nI (touchF x w))), (0, .ref (q)), (1, .ref (a 0)), (2, .int (nI (w))), (3, .int (nI (n)))]) hx hb dX1_fewestGlued_101 hl (k := 2) rfl (nI_add _ _) (by decide) rfl (fun ls hl => ?_)
                  refine lv_goto (tgt := 34) hx hb dX1_fewestGlued_104 (by decide) ?_
                  have hl9 := lv_sub (l' := [(7, .int (nI (i + 1))), (6, .int (nI (i))), (5, .int (nI ((touchF x w) &&& (gluF x)))), (4, .int (nI (touchF x w))), (0, .ref (q)), (1, .ref (a 0)), (2, .int (nI (w))), (3, .int (nI (n)))]) hl [0, 1, 3, 4, 5, 6, 7, 8] rfl
                  have el10 : (.int (nI (i)) : Value) = .int (oI (some i)) := by
                    rfl
                  have hl9 : lv_has ls 9 [(7, .int (nI (i + 1))), (6, .int (oI (some i))), (5, .int (nI ((touchF x w) &&& (gluF x)))), (4, .int (nI (touchF x w))), (0, .ref (q)), (1, .ref (a 0)), (2, .int (nI (w))), (3, .int (nI (n)))] := Eq.mp (congrArg (fun z9 => lv_has ls 9 [(7, .int (nI (i + 1))), (6, z9), (5, .int (nI ((touchF x w) &&& (gluF x)))), (4, .int (nI (touchF x w))), (0, .ref (q)), (1, .ref (a 0)), (2, .int (nI (w))), (3, .int (nI (n)))]) el10) hl9
                  exact ih34 (i + 1) (some i) z8 (by omega) (by rw [fgL, iv34_1, if_pos (by unfold fgC; rw [decide_eq_true c6, c7, c9]; rfl)]) (fun k9 hk9 => by cases hk9; omega) (by omega) _ _ _ hP hD hS hl9
    have hl9 := lv_sub (l' := [(7, .int (nI (0))), (6, .int ((-1000000))), (5, .int (nI ((touchF x w) &&& (gluF x)))), (4, .int (nI (touchF x w))), (0, .ref (q)), (1, .ref (a 0)), (2, .int (nI (w))), (3, .int (nI (n)))]) hl [0, 1, 2, 3, 4, 5, 6, 7] rfl
    have el11 : (.int ((-1000000)) : Value) = .int (oI none) := by
      rfl
    have hl9 : lv_has ls 9 [(7, .int (nI (0))), (6, .int (oI none)), (5, .int (nI ((touchF x w) &&& (gluF x)))), (4, .int (nI (touchF x w))), (0, .ref (q)), (1, .ref (a 0)), (2, .int (nI (w))), (3, .int (nI (n)))] := Eq.mp (congrArg (fun z9 => lv_has ls 9 [(7, .int (nI (0))), (6, z9), (5, .int (nI ((touchF x w) &&& (gluF x)))), (4, .int (nI (touchF x w))), (0, .ref (q)), (1, .ref (a 0)), (2, .int (nI (w))), (3, .int (nI (n)))]) el11) hl9
    exact loop34 _ 0 none y (Nat.zero_le _) (rfl) (fun k9 hk9 => by cases hk9) (Nat.lt_succ_self _) _ _ _ hP hD hS hl9
  · skip
    rw [bI_nz] at c1
    refine lv_ldc (v := (-1000000)) hx hb hown (hts (.constant RX1 33 (-1000000)) (List.mem_of_getElem? (i := 1) rfl)) dX1_fewestGlued_8 ?_
    exact hend _ _ _ _ _ y hP hD hS (by rw [fewI, if_pos c1]) dX1_fewestGlued_10
