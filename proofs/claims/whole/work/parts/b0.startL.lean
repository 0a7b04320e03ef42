/-! ===== the law: from its entry to its end ===== -/
theorem sim0 (r : Nat) : Sim (fun _ => 0) r sg0 := by
  have w : Wf (sg (fun _ => 0) r) := wf_mk (Nat.zero_le _) (by decide) (Nat.zero_le _) (by decide) (fun k hk => ⟨by decide, by decide, by decide, by decide, by decide⟩)
  have o : OkS (sg (fun _ => 0) r) := ⟨w, fun k hk => absurd hk (Nat.not_lt_zero _), by show 0 < 2 ^ 0; decide⟩
  have e : Eqv (sg (fun _ => 0) r) sg0 := ⟨rfl, rfl, rfl, rfl, rfl, fun k hk => absurd hk (Nat.not_lt_zero _)⟩
  exact ⟨e, o, o.k.of_eqv e⟩
theorem lr0 : LR 0 0 (fun _ => -1) (fun _ => 0) (fun _ _ => nI 0) 0 (fun _ => 0) sg0 0 0 (fun _ => sg0) (fun _ => sg0) 0 (fun _ => 0) 0 0 0 0 0 (fun _ => 0) (mn9 8) (fun _ => 0) (fun _ => nI 0) (fun _ => 0) (fun _ => 0) := by
  refine ⟨rfl, rfl, ⟨fun r hr => ⟨Nat.zero_le _, Nat.zero_le _, Or.inl ⟨rfl, if_pos hr⟩⟩, fun r j hr hj => rfl⟩, ⟨rfl, rfl, Nat.zero_le _, fun i hi => (by show 0 < 256; decide)⟩, ⟨rfl, rfl, Nat.zero_le _⟩, sim0 0, Or.inl ⟨rfl, rfl, rfl⟩, RingR.none (by decide), fun k hk => ⟨sim0 _, Or.inl ⟨rfl, rfl, rfl⟩⟩⟩
theorem pm_init (zO zR zS zG zT zU zV zX zF zY zC zQ zK zI zJ zN zL zM z1 z2 z3 z4 z5 z6 z7 : va_W) : ((zM ++ (z1 ++ (z2 ++ (z3 ++ (z4 ++ (z5 ++ (z6 ++ z7))))))) ++ (zO ++ (zI ++ (((((((([] ++ ((zR ++ zS) ++ zG)) ++ (zT ++ (zU ++ zV))) ++ zX) ++ (zF ++ zY)) ++ ((zC ++ zQ) ++ zK)) ++ zL) ++ zJ) ++ zN)))).Perm (zO ++ (zR ++ (zS ++ (zG ++ (zT ++ (zU ++ (zV ++ (zX ++ (zF ++ (zY ++ (zC ++ (zQ ++ (zK ++ (zI ++ (zJ ++ (zN ++ (zL ++ (zM ++ (z1 ++ (z2 ++ (z3 ++ (z4 ++ (z5 ++ (z6 ++ (z7))))))))))))))))))))))))) := perm_ct (fun c h => by simp only [h, List.nil_append]; omega)
theorem i6_add (i : Nat) : nI i + Int32.ofInt 6 = nI (i + 6) := nI_add i 6
theorem nI_L6 {L i : Nat} (hL : L ≤ 384) (hi : i ≤ 390) (h : ¬ Int32.ofNat L - nI 6 < nI i) : i + 6 ≤ L := by
  have e1 : (nI L - nI 6).toInt = (L : Int) - 6 := by
    rw [Int32.toInt_sub, nI_toInt (by omega), nI_toInt (by omega), Int.bmod_eq_of_le (by omega) (by omega)]
    rfl
  have h : ¬ nI L - nI 6 < nI i := h
  rw [Int32.lt_iff_toInt_lt, e1, nI_toInt (by omega)] at h
  omega
set_option maxRecDepth 100000 in
set_option maxHeartbeats 4000000 in
theorem law_loop {p : Program} {l : Launch} {e : Env} {s : State} {m : MethodId} {below : List Frame} {meth : Method} {c : Code} {Q : State → Prop} {b0 L : Nat} {xs : Nat → Int32} {D : va_G} {cA : Nat → ClassId} {tt : Nat → Nat} {cl sl q qm : Nat} {u : U7} {v : Nat → Nat} (hc : LC p s m c b0 L xs D cA tt cl sl) (hend : ∀ (H : Heap) (locs : List Loc) (ls : Array Slot), va_S (fun q9 : Nat => s.heap.size ≤ q9) s.heap H locs → W p l e room_1 s m #[.ref b0] below meth c H locs cl sl Q (F0 m 1260 ls [])) :
    ∀ (N i : Nat), i ≤ 390 → 396 - i < N → ∀ (lf fi : Nat) (la : Nat → Int32) (le : Nat → Nat) (gf : Nat → Nat → Int32) (len : Nat) (tf : Nat → Nat) (x y : Sg) (att ft : Nat) (ms : Int32) (nx kp : Nat) (rs im : Nat → Sg) (tl : Nat) (tc : Nat → Nat) (ud td fy su cu sa nb tn : Nat) (Z : Nat → Nat) (mf : Nat → Int32) (lm : Nat → Nat) (it hf : Nat → Int32) (bf trf : Nat → Nat) (H : Heap) (locs : List Loc) (ls : Array Slot), LR lf fi la le gf len tf x nx kp rs im tl tc ud td fy su tn Z mf lm it bf trf → va_P D vwCl (LW cA q u qm v lf fi la le gf len tf x y att ft ms nx kp rs im tl tc ud td fy su cu sa nb tn Z mf lm it hf bf trf) H → va_D (fun q9 : Nat => s.heap.size ≤ q9) (LW cA q u qm v lf fi la le gf len tf x y att ft ms nx kp rs im tl tc ud td fy su cu sa nb tn Z mf lm it hf bf trf) → va_S (fun q9 : Nat => s.heap.size ≤ q9) s.heap H locs → lv_has ls 4 [(3, .int (nI i)), (0, .ref b0), (1, .ref q), (2, .ref qm)] → W p l e room_1 s m #[.ref b0] below meth c H locs cl sl Q (F0 m 18 ls []) := by
  intro N
  induction N with
  | zero => intro i hi hN; exact absurd hN (Nat.not_lt_zero _)
  | succ N ih =>
    intro i hi390 hN lf fi la le gf len tf x y att ft ms nx kp rs im tl tc ud td fy su cu sa nb tn Z mf lm it hf bf trf H locs ls hR hP hD hS hl
    obtain ⟨hx, hb, hml, hown, hts, hX, hbl, hK, hE, hcl, hsl, hL⟩ := id hc
    refine lv_iload_n hx hb dL_law_18 rfl (lv_at hl 0 rfl) ?_
    refine lv_aload_n hx hb dL_law_19 rfl (lv_at hl 1 rfl) ?_
    refine va_slen hx hb hX hbl (Nat.not_le.mpr hbl) hS dL_law_20 ?_
    refine lv_bipush (v := nI 6) hx hb dL_law_21 (by decide) ?_
    refine lv_isub hx hb dL_law_23 ?_
    refine lv_icmp_gt (tgt := 1260) hx hb dL_law_24 (by decide) (fun _ => hend _ _ _ hS) (fun c9 => ?_)
    have hi := nI_L6 hL hi390 c9
    refine lv_aload_n hx hb dL_law_27 rfl (lv_at hl 1 rfl) ?_
    refine lv_iload_n hx hb dL_law_28 rfl (lv_at hl 0 rfl) ?_
    refine va_sld hx hb hX hbl (Nat.not_le.mpr hbl) hS (fun w => ?_) dL_law_29 ?_
    · rcases w with w | w
      · exact neg_lt (by omega) w
      · rw [nI_clamp (by omega)] at w
        omega
    refine lv_bipush (v := nI 63) hx hb dL_law_30 (by decide) ?_
    refine lv_iand hx hb dL_law_32 ?_
    generalize xs (nI i).toNatClampNeg &&& nI 63 = w
    have hk : LK p l e s m below meth c Q b0 D cA q qm u v cl sl i := by
      intro lf fi la le gf len tf x y att ft ms nx kp rs im tl tc ud td fy su cu sa nb tn Z mf lm it hf bf trf H locs ls hR hP hD hS hl
      refine lv_iinc (v := nI (i + 6)) (lv' := [(3, .int (nI (i + 6))), (0, .ref b0), (1, .ref q), (2, .ref qm)]) hx hb dL_law_1254 hl (k := 0) rfl (i6_add i) (by decide) rfl (fun ls hl => ?_)
      refine lv_goto (tgt := 18) hx hb dL_law_1257 (by decide) ?_
      exact ih (i + 6) (by omega) (by omega) lf fi la le gf len tf x y att ft ms nx kp rs im tl tc ud td fy su cu sa nb tn Z mf lm it hf bf trf H locs ls hR hP hD hS hl
    by_cases hw : w.toInt < 0 ∨ 34 < w.toInt
    · exact lv_tableOut (tgt := 1254) hx hb dL_law_33 hw (by decide) (hk lf fi la le gf len tf x y att ft ms nx kp rs im tl tc ud td fy su cu sa nb tn Z mf lm it hf bf trf H locs ls hR hP hD hS hl)
    have hc2 : w.toInt = 0 ∨ w.toInt = 1 ∨ w.toInt = 2 ∨ w.toInt = 3 ∨ w.toInt = 4 ∨ w.toInt = 5 ∨ w.toInt = 6 ∨ w.toInt = 7 ∨ w.toInt = 8 ∨ w.toInt = 9 ∨ w.toInt = 10 ∨ w.toInt = 11 ∨ w.toInt = 12 ∨ w.toInt = 13 ∨ w.toInt = 14 ∨ w.toInt = 15 ∨ w.toInt = 16 ∨ w.toInt = 17 ∨ w.toInt = 18 ∨ w.toInt = 19 ∨ w.toInt = 20 ∨ w.toInt = 21 ∨ w.toInt = 22 ∨ w.toInt = 23 ∨ w.toInt = 24 ∨ w.toInt = 25 ∨ w.toInt = 26 ∨ w.toInt = 27 ∨ w.toInt = 28 ∨ w.toInt = 29 ∨ w.toInt = 30 ∨ w.toInt = 31 ∨ w.toInt = 32 ∨ w.toInt = 33 ∨ w.toInt = 34 := by omega
    rcases hc2 with h9 | h9 | h9 | h9 | h9 | h9 | h9 | h9 | h9 | h9 | h9 | h9 | h9 | h9 | h9 | h9 | h9 | h9 | h9 | h9 | h9 | h9 | h9 | h9 | h9 | h9 | h9 | h9 | h9 | h9 | h9 | h9 | h9 | h9 | h9
    · exact lv_tableIn (off := 155) (tgt := 188) hx hb dL_law_33 (by rw [h9]; decide) (by rw [h9]; decide) (by rw [h9]; rfl) (by decide) (law_row hc hi hk hR hP hD hS hl)
    · exact lv_tableIn (off := 198) (tgt := 231) hx hb dL_law_33 (by rw [h9]; decide) (by rw [h9]; decide) (by rw [h9]; rfl) (by decide) (law_set hc hi hk hR hP hD hS hl)
    · exact lv_tableIn (off := 241) (tgt := 274) hx hb dL_law_33 (by rw [h9]; decide) (by rw [h9]; decide) (by rw [h9]; rfl) (by decide) (law_copy hc hi hk hR hP hD hS hl)
    · exact lv_tableIn (off := 304) (tgt := 337) hx hb dL_law_33 (by rw [h9]; decide) (by rw [h9]; decide) (by rw [h9]; rfl) (by decide) (law_drop hc hi hk hR hP hD hS hl)
    · exact lv_tableIn (off := 327) (tgt := 360) hx hb dL_law_33 (by rw [h9]; decide) (by rw [h9]; decide) (by rw [h9]; rfl) (by decide) (law_feed hc hi hk hR hP hD hS hl)
    · exact lv_tableIn (off := 350) (tgt := 383) hx hb dL_law_33 (by rw [h9]; decide) (by rw [h9]; decide) (by rw [h9]; rfl) (by decide) (law_street hc hi hk hR hP hD hS hl)
    · exact lv_tableIn (off := 363) (tgt := 396) hx hb dL_law_33 (by rw [h9]; decide) (by rw [h9]; decide) (by rw [h9]; rfl) (by decide) (law_fault hc hi hk hR hP hD hS hl)
    · exact lv_tableIn (off := 376) (tgt := 409) hx hb dL_law_33 (by rw [h9]; decide) (by rw [h9]; decide) (by rw [h9]; rfl) (by decide) (law_times hc hi hk hR hP hD hS hl)
    · exact lv_tableIn (off := 399) (tgt := 432) hx hb dL_law_33 (by rw [h9]; decide) (by rw [h9]; decide) (by rw [h9]; rfl) (by decide) (law_open hc hi hk hR hP hD hS hl)
    · exact lv_tableIn (off := 422) (tgt := 455) hx hb dL_law_33 (by rw [h9]; decide) (by rw [h9]; decide) (by rw [h9]; rfl) (by decide) (law_press hc hi hk hR hP hD hS hl)
    · exact lv_tableIn (off := 445) (tgt := 478) hx hb dL_law_33 (by rw [h9]; decide) (by rw [h9]; decide) (by rw [h9]; rfl) (by decide) (law_glue hc hi hk hR hP hD hS hl)
    · exact lv_tableIn (off := 478) (tgt := 511) hx hb dL_law_33 (by rw [h9]; decide) (by rw [h9]; decide) (by rw [h9]; rfl) (by decide) (law_trade hc hi hk hR hP hD hS hl)
    · exact lv_tableIn (off := 511) (tgt := 544) hx hb dL_law_33 (by rw [h9]; decide) (by rw [h9]; decide) (by rw [h9]; rfl) (by decide) (law_sight hc hi hk hR hP hD hS hl)
    · exact lv_tableIn (off := 534) (tgt := 567) hx hb dL_law_33 (by rw [h9]; decide) (by rw [h9]; decide) (by rw [h9]; rfl) (by decide) (law_undo hc hi hk hR hP hD hS hl)
    · exact lv_tableIn (off := 547) (tgt := 580) hx hb dL_law_33 (by rw [h9]; decide) (by rw [h9]; decide) (by rw [h9]; rfl) (by decide) (law_window hc hi hk hR hP hD hS hl)
    · exact lv_tableIn (off := 580) (tgt := 613) hx hb dL_law_33 (by rw [h9]; decide) (by rw [h9]; decide) (by rw [h9]; rfl) (by decide) (law_opens hc hi hk hR hP hD hS hl)
    · exact lv_tableIn (off := 603) (tgt := 636) hx hb dL_law_33 (by rw [h9]; decide) (by rw [h9]; decide) (by rw [h9]; rfl) (by decide) (law_ahead hc hi hk hR hP hD hS hl)
    · exact lv_tableIn (off := 646) (tgt := 679) hx hb dL_law_33 (by rw [h9]; decide) (by rw [h9]; decide) (by rw [h9]; rfl) (by decide) (law_spots hc hi hk hR hP hD hS hl)
    · exact lv_tableIn (off := 679) (tgt := 712) hx hb dL_law_33 (by rw [h9]; decide) (by rw [h9]; decide) (by rw [h9]; rfl) (by decide) (law_off hc hi hk hR hP hD hS hl)
    · exact lv_tableIn (off := 702) (tgt := 735) hx hb dL_law_33 (by rw [h9]; decide) (by rw [h9]; decide) (by rw [h9]; rfl) (by decide) (law_shut hc hi hk hR hP hD hS hl)
    · exact lv_tableIn (off := 745) (tgt := 778) hx hb dL_law_33 (by rw [h9]; decide) (by rw [h9]; decide) (by rw [h9]; rfl) (by decide) (law_trades hc hi hk hR hP hD hS hl)
    · exact lv_tableIn (off := 788) (tgt := 821) hx hb dL_law_33 (by rw [h9]; decide) (by rw [h9]; decide) (by rw [h9]; rfl) (by decide) (law_along hc hi hk hR hP hD hS hl)
    · exact lv_tableIn (off := 821) (tgt := 854) hx hb dL_law_33 (by rw [h9]; decide) (by rw [h9]; decide) (by rw [h9]; rfl) (by decide) (law_alike hc hi hk hR hP hD hS hl)
    · exact lv_tableIn (off := 844) (tgt := 877) hx hb dL_law_33 (by rw [h9]; decide) (by rw [h9]; decide) (by rw [h9]; rfl) (by decide) (law_guess hc hi hk hR hP hD hS hl)
    · exact lv_tableIn (off := 867) (tgt := 900) hx hb dL_law_33 (by rw [h9]; decide) (by rw [h9]; decide) (by rw [h9]; rfl) (by decide) (law_fits hc hi hk hR hP hD hS hl)
    · exact lv_tableIn (off := 930) (tgt := 963) hx hb dL_law_33 (by rw [h9]; decide) (by rw [h9]; decide) (by rw [h9]; rfl) (by decide) (law_wind hc hi hk hR hP hD hS hl)
    · exact lv_tableIn (off := 984) (tgt := 1017) hx hb dL_law_33 (by rw [h9]; decide) (by rw [h9]; decide) (by rw [h9]; rfl) (by decide) (law_drawn hc hi hk hR hP hD hS hl)
    · exact lv_tableIn (off := 1027) (tgt := 1060) hx hb dL_law_33 (by rw [h9]; decide) (by rw [h9]; decide) (by rw [h9]; rfl) (by decide) (law_image hc hi hk hR hP hD hS hl)
    · exact lv_tableIn (off := 1050) (tgt := 1083) hx hb dL_law_33 (by rw [h9]; decide) (by rw [h9]; decide) (by rw [h9]; rfl) (by decide) (law_restore hc hi hk hR hP hD hS hl)
    · exact lv_tableIn (off := 1073) (tgt := 1106) hx hb dL_law_33 (by rw [h9]; decide) (by rw [h9]; decide) (by rw [h9]; rfl) (by decide) (law_kind hc hi hk hR hP hD hS hl)
    · exact lv_tableIn (off := 1096) (tgt := 1129) hx hb dL_law_33 (by rw [h9]; decide) (by rw [h9]; decide) (by rw [h9]; rfl) (by decide) (law_as hc hi hk hR hP hD hS hl)
    · exact lv_tableIn (off := 1129) (tgt := 1162) hx hb dL_law_33 (by rw [h9]; decide) (by rw [h9]; decide) (by rw [h9]; rfl) (by decide) (law_ask hc hi hk hR hP hD hS hl)
    · exact lv_tableIn (off := 1162) (tgt := 1195) hx hb dL_law_33 (by rw [h9]; decide) (by rw [h9]; decide) (by rw [h9]; rfl) (by decide) (law_trace hc hi hk hR hP hD hS hl)
    · exact lv_tableIn (off := 1185) (tgt := 1218) hx hb dL_law_33 (by rw [h9]; decide) (by rw [h9]; decide) (by rw [h9]; rfl) (by decide) (law_count hc hi hk hR hP hD hS hl)
    · exact lv_tableIn (off := 1208) (tgt := 1241) hx hb dL_law_33 (by rw [h9]; decide) (by rw [h9]; decide) (by rw [h9]; rfl) (by decide) (law_status hc hi hk hR hP hD hS hl)
set_option maxRecDepth 100000 in
set_option maxHeartbeats 4000000 in
/-- the law, from its entry: for every script of at most 384 ints it comes to its end with true -/
theorem whole_start {p : Program} {e : Env} {s : State} {m : MethodId} {below : List Frame} {meth : Method} {c : Code} (l : Launch) (hflags : l.flags = flags0) {b L : Nat} {xs : Nat → Int32} (hL : L ≤ 384) (C0 : lw_At p s m meth c b L xs) : W p l e room_1 s m #[Value.ref b] below meth c s.heap [] 0 0 (lw_Z below #[Value.ref b] s) (entryFrame m ([Value.ref b] : List Value).toArray 4) := by
  obtain ⟨D, cA, tt, hK, hE, hO⟩ := lc_known C0
  obtain ⟨hx, hb, hr, hml, hown, hts, hX, hbl, hlocks, hgv⟩ := id C0
  have hb : c.code = cL_law := hb
  have hown : s.vm.findClass RL = some m.cls := hown
  have htL : ∀ w ∈ wsL_law, w.before #[.ref b] s = true := fun w h => hts w (wsL_law_in w h)
  have hwsX70 : ∀ w ∈ wsX70, w.before #[.ref b] s = true := fun w h => hts w (inX7 w h)
  have hwsX80 : ∀ w ∈ wsX80, w.before #[.ref b] s = true := fun w h => hts w (inX8 w h)
  have hA : ∀ q9 : Nat, s.heap.size ≤ q9 → (fun q9 : Nat => s.heap.size ≤ q9) q9 := fun _ h9 => h9
  have hS : va_S (fun q9 : Nat => s.heap.size ≤ q9) s.heap s.heap [] := va_S.rf
  have hP : va_P D vwCl [] s.heap := fun k q h => by cases h
  have hD : va_D (fun q9 : Nat => s.heap.size ≤ q9) [] := ⟨fun i j p q h => (by cases h), fun k q h => (by cases h)⟩
  have hl := lv_entry ([.ref b]) (n := 4) (Nat.le_of_ble_eq_true rfl)
  rw [lg_entry_eq]
  generalize (lg_sl ([.ref b]) ++ List.replicate (4 - (lg_sl ([.ref b])).length) Slot.unset).toArray = ls at hl ⊢
  have hl : lv_has ls 4 [(0, .ref b)] := hl
  refine va_new (ci := 7) (fs := [.null, .null, .null, .null, .null, .null, .null, .int (nI (0)), .int (nI (0))]) (C := RX7) (T := TX7) (N := 9) (Ts := wsX70) hx hb hwsX70 (fun _ h => h) tyX7 tyX7_ok hown (htL (.classLink RL 7 RX7) ini_w0) (htL (.instantiable RX7 9) ini_w1) (htL (.initialized RX7) ini_w2) hK hP hD hS hA rfl (fun j hj => by rcases (show j = 0 ∨ j = 1 ∨ j = 2 ∨ j = 3 ∨ j = 4 ∨ j = 5 ∨ j = 6 ∨ j = 7 ∨ j = 8 by omega) with rfl | rfl | rfl | rfl | rfl | rfl | rfl | rfl | rfl <;> rfl) (Nat.le_of_ble_eq_true rfl) (Nat.le_of_ble_eq_true rfl) dL_law_0 (fun q H hP hD hS => ?_)
  have hP : va_P D vwCl [(q, .inr (7, [.null, .null, .null, .null, .null, .null, .null, .int (nI (0)), .int (nI (0))]))] H := hP
  have hD : va_D (fun q9 : Nat => s.heap.size ≤ q9) [(q, .inr (7, [.null, .null, .null, .null, .null, .null, .null, .int (nI (0)), .int (nI (0))]))] := hD
  refine W.widen (k := 1) (n := 9) (by omega) (by omega) ?_
  refine lv_dup hx hb dL_law_3 rfl ?_
  refine gIv ((fun _ => 0), (fun _ => 0), (fun _ => 0), (fun _ => 0), (fun _ _ => 0), (fun _ _ => 0)) (U := U7) (n := 0) (As := []) (rest := [.ref q]) (wr := []) ⟨hx, hb, hml, hown, htL⟩ (c_X7_init l D cA tt q _) gL_law_X7_init rfl ⟨rfl, rfl⟩ (htL (.initialized RX7) ini_w2) (htL (.methodLink RL 9 yX7_init) ini_w3) (htL (.instanceMethod yX7_init) ini_w4) rfl (by decide +kernel) ⟨Nat.le_of_ble_eq_true rfl, Nat.le_of_ble_eq_true rfl⟩ ⟨Nat.le_of_ble_eq_true rfl, Nat.le_of_ble_eq_true rfl⟩ hK hE hO hA hP hD hS (List.Perm.refl _) rfl hl.1 rfl (Nat.le_of_ble_eq_true rfl) dL_law_4 (fun u H locs hP hD hS => ?_)
  have hP : va_P D vwCl (xW0 cA q u) H := by have := hP; rw [List.append_nil] at this; exact this
  have hD : va_D (fun q9 : Nat => s.heap.size ≤ q9) (xW0 cA q u) := by have := hD; rw [List.append_nil] at this; exact this
  refine W.widen (k := 190) (n := 2220) (by omega) (by omega) ?_
  refine lv_astore_n (lv' := [(1, .ref q), (0, .ref b)]) hx hb dL_law_7 rfl hl (by decide) rfl (fun ls hl => ?_)
  refine va_new (ci := 8) (fs := [.null, .int (nI (0)), .null, .int (nI (0)), .int (nI (0)), .int (nI (0)), .null, .null, .null, .null, .int (nI (0)), .int (nI (0)), .int (nI (0)), .null, .int (nI (0))]) (C := RX8) (T := TX8) (N := 15) (Ts := wsX80) hx hb hwsX80 (fun _ h => h) tyX8 tyX8_ok hown (htL (.classLink RL 10 RX8) ini_w5) (htL (.instantiable RX8 15) ini_w6) (htL (.initialized RX8) ini_w7) hK hP hD hS hA rfl (fun j hj => by rcases (show j = 0 ∨ j = 1 ∨ j = 2 ∨ j = 3 ∨ j = 4 ∨ j = 5 ∨ j = 6 ∨ j = 7 ∨ j = 8 ∨ j = 9 ∨ j = 10 ∨ j = 11 ∨ j = 12 ∨ j = 13 ∨ j = 14 by omega) with rfl | rfl | rfl | rfl | rfl | rfl | rfl | rfl | rfl | rfl | rfl | rfl | rfl | rfl | rfl <;> rfl) (Nat.le_of_ble_eq_true rfl) (Nat.le_of_ble_eq_true rfl) dL_law_8 (fun qm H hP hD hS => ?_)
  refine W.widen (k := 191) (n := 2235) (by omega) (by omega) ?_
  refine lv_dup hx hb dL_law_11 rfl ?_
  refine gIv (fun _ => 0) (U := Nat → Nat) (n := 0) (As := []) (rest := [.ref qm]) (wr := xW0 cA q u) ⟨hx, hb, hml, hown, htL⟩ (c_X8_init l D cA tt qm _) gL_law_X8_init rfl ⟨rfl, rfl⟩ (htL (.initialized RX8) ini_w7) (htL (.methodLink RL 12 yX8_init) ini_w8) (htL (.instanceMethod yX8_init) ini_w9) rfl (by decide +kernel) ⟨Nat.le_of_ble_eq_true rfl, Nat.le_of_ble_eq_true rfl⟩ ⟨Nat.le_of_ble_eq_true rfl, Nat.le_of_ble_eq_true rfl⟩ hK hE hO hA hP hD hS List.perm_append_comm rfl hl.1 rfl (Nat.le_of_ble_eq_true rfl) dL_law_12 (fun v H locs hP hD hS => ?_)
  have hpm := pm_init (lbO q u 0 0) (lbR cA u (fun _ => -1)) (lbS cA u (fun _ => 0)) (gridW cA u.2.1 (fun _ _ => nI 0)) (lbT u 0) (lbU cA u (fun _ => 0)) (lbV u 0 0) (stW cA u.2.2.1 sg0) (lbF u (nI 0)) (stW cA u.2.2.2.1 sg0) (lbC u 0 0) (lbQ cA u) (ringW cA u.2.2.2.2.1 (fun _ => sg0)) (lbI cA u) (stW cA (u.2.2.2.2.2 0) ((fun _ => sg0) 0)) (stW cA (u.2.2.2.2.2 1) ((fun _ => sg0) 1)) (lbL cA u 0 (fun _ => 0)) (lbM qm v 0 0 0 0 0 0 0 0) (lb1 cA v (fun _ => 0)) (lb2 cA v (fun _ => 0)) (lb3 cA v (mn9 8)) (lb4 cA v (fun _ => 0)) (lb5 cA v (fun _ => nI 0)) (lb6 cA v (fun _ => nI 0)) (lb7 cA v (fun _ => 0))
  have hP : va_P D vwCl (LW cA q u qm v 0 0 (fun _ => -1) (fun _ => 0) (fun _ _ => nI 0) 0 (fun _ => 0) sg0 sg0 0 0 (nI 0) 0 0 (fun _ => sg0) (fun _ => sg0) 0 (fun _ => 0) 0 0 0 0 0 0 0 0 (fun _ => 0) (mn9 8) (fun _ => 0) (fun _ => nI 0) (fun _ => nI 0) (fun _ => 0) (fun _ => 0)) H := hP.perm hpm
  have hD : va_D (fun q9 : Nat => s.heap.size ≤ q9) (LW cA q u qm v 0 0 (fun _ => -1) (fun _ => 0) (fun _ _ => nI 0) 0 (fun _ => 0) sg0 sg0 0 0 (nI 0) 0 0 (fun _ => sg0) (fun _ => sg0) 0 (fun _ => 0) 0 0 0 0 0 0 0 0 (fun _ => 0) (mn9 8) (fun _ => 0) (fun _ => nI 0) (fun _ => nI 0) (fun _ => 0) (fun _ => 0)) := hD.perm hpm
  refine W.widen (k := 198) (n := 4352) (by omega) (by omega) ?_
  refine lv_astore_n (lv' := [(2, .ref qm), (1, .ref q), (0, .ref b)]) hx hb dL_law_15 rfl hl (by decide) rfl (fun ls hl => ?_)
  refine lv_iconst (v := nI 0) hx hb dL_law_16 (by decide) ?_
  refine lv_istore_n (lv' := [(3, .int (nI 0)), (2, .ref qm), (1, .ref q), (0, .ref b)]) hx hb dL_law_17 rfl hl (by decide) rfl (fun ls hl => ?_)
  have hc : LC p s m c b L xs D cA tt 198 4352 := ⟨hx, hb, hml, hown, htL, hX, hbl, hK, hE, Nat.le_of_ble_eq_true rfl, Nat.le_of_ble_eq_true rfl, hL⟩
  refine law_loop (q := q) (qm := qm) (u := u) (v := v) hc (fun H locs ls hS => ?_) 397 0 (Nat.zero_le _) (by omega) 0 0 (fun _ => -1) (fun _ => 0) (fun _ _ => nI 0) 0 (fun _ => 0) sg0 sg0 0 0 (nI 0) 0 0 (fun _ => sg0) (fun _ => sg0) 0 (fun _ => 0) 0 0 0 0 0 0 0 0 (fun _ => 0) (mn9 8) (fun _ => 0) (fun _ => nI 0) (fun _ => nI 0) (fun _ => 0) (fun _ => 0) H locs ls lr0 hP hD hS (lv_sub hl [0, 3, 2, 1] rfl)
  refine lv_iconst (v := 1) hx hb dL_law_1260 (by decide) ?_
  refine va_forget (fun q9 h9 => hS.2.2 q9 h9) ?_
  refine W.widen (k := 600000) (n := 7302250) (Nat.le_of_ble_eq_true rfl) (Nat.le_of_ble_eq_true rfl) ?_
  exact lw_ret hx hb hr hlocks dL_law_1261
