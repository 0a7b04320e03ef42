/-! ===== worlds up to their order; pools; calls over them ===== -/
theorem va_P.mem {D : va_G} {ws : va_W} {H : Heap} : va_P D vwCl ws H ↔ ∀ q ∈ ws, va_at D vwCl q H := by
  constructor
  · intro h q hq
    obtain ⟨k, hk⟩ := List.getElem?_of_mem hq
    exact h k q hk
  · intro h k q hk
    exact h q (List.mem_of_getElem? hk)
theorem va_D.iff {A : Nat → Prop} {ws : va_W} : va_D A ws ↔ (ws.map Prod.fst).Nodup ∧ ∀ q ∈ ws, A q.1 := by
  constructor
  · rintro ⟨h1, h2⟩
    refine ⟨List.pairwise_iff_getElem.mpr (fun i j hi hj hij he => ?_), fun q hq => ?_⟩
    · rw [List.length_map] at hi hj
      rw [List.getElem_map, List.getElem_map] at he
      have := h1 i j ws[i] ws[j] (List.getElem?_eq_getElem hi) (List.getElem?_eq_getElem hj) he
      omega
    · obtain ⟨k, hk⟩ := List.getElem?_of_mem hq
      exact h2 k q hk
  · rintro ⟨h1, h2⟩
    refine ⟨fun i j p q hi hj hpq => ?_, fun k q hk => h2 q (List.mem_of_getElem? hk)⟩
    obtain ⟨li, ei⟩ := List.getElem?_eq_some_iff.mp hi
    obtain ⟨lj, ej⟩ := List.getElem?_eq_some_iff.mp hj
    have key : ∀ a b (ha : a < ws.length) (hb : b < ws.length), a < b → ws[a].1 ≠ ws[b].1 := fun a b ha hb hab he => by
      have := List.pairwise_iff_getElem.mp h1 a b (by rw [List.length_map]; exact ha) (by rw [List.length_map]; exact hb) hab
      rw [List.getElem_map, List.getElem_map] at this
      exact this he
    rcases Nat.lt_trichotomy i j with h | h | h
    · exact absurd (by rw [ei, ej]; exact hpq) (key i j li lj h)
    · exact h
    · exact absurd (by rw [ei, ej]; exact hpq.symm) (key j i lj li h)
theorem va_P.perm {D : va_G} {ws ws' : va_W} {H : Heap} (h : va_P D vwCl ws H) (p : ws.Perm ws') : va_P D vwCl ws' H := va_P.mem.mpr (fun q hq => va_P.mem.mp h q (p.mem_iff.mpr hq))
theorem va_D.perm {A : Nat → Prop} {ws ws' : va_W} (h : va_D A ws) (p : ws.Perm ws') : va_D A ws' := by
  have h := va_D.iff.mp h
  exact va_D.iff.mpr ⟨(p.map Prod.fst).nodup_iff.mp h.1, fun q hq => h.2 q (p.mem_iff.mpr hq)⟩
theorem va_A.iff {ws : va_W} {sz q : Nat} : va_A ws sz q ↔ (∃ e, (q, e) ∈ ws) ∨ sz ≤ q := by
  constructor
  · rintro (⟨k, e, h⟩ | h)
    · exact Or.inl ⟨e, List.mem_of_getElem? h⟩
    · exact Or.inr h
  · rintro (⟨e, h⟩ | h)
    · obtain ⟨k, hk⟩ := List.getElem?_of_mem h
      exact Or.inl ⟨k, e, hk⟩
    · exact Or.inr h
/-- explicit lists in another order, by the places -/
theorem perm_idx {α : Type} {X Y : List α} (is : List Nat) (h : is.map (fun i => X[i]?) = Y.map some) (hp : is.Perm (List.range X.length)) : X.Perm Y := by
  have h1 : is.filterMap (fun i => X[i]?) = Y := by
    have e := congrArg (List.filterMap id) h
    rw [List.filterMap_map, List.filterMap_map] at e
    have e2 : List.filterMap (id ∘ some) Y = Y := by
      have : (id ∘ some : α → Option α) = some := rfl
      rw [this, List.filterMap_some]
    rw [e2] at e
    exact e
  have h2 : (List.range X.length).filterMap (fun i => X[i]?) = X := by
    apply List.ext_getElem?
    intro i
    have : (List.range X.length).filterMap (fun i => X[i]?) = X := by
      have e : (List.range X.length).map (fun i => X[i]?) = X.map some := by
        apply List.ext_getElem?
        intro j
        rw [List.getElem?_map, List.getElem?_map]
        by_cases hj : j < X.length
        · rw [List.getElem?_range hj, List.getElem?_eq_getElem hj]
          simp
        · rw [List.getElem?_eq_none (by simp; omega), List.getElem?_eq_none (by omega)]
          rfl
      have e3 := congrArg (List.filterMap id) e
      rw [List.filterMap_map, List.filterMap_map] at e3
      have : (id ∘ some : α → Option α) = some := rfl
      rw [this, List.filterMap_some] at e3
      exact e3
    rw [this]
  have h3 := (hp.filterMap (fun i => X[i]?))
  rw [h1, h2] at h3
  exact h3.symm
def CUTG (ws wc wr w1 wn : va_W) : Prop := ws.Perm (wc ++ wr) ∧ (w1 ++ wr).Perm wn
theorem CUTG.P {D : va_G} {ws wc wr w1 wn : va_W} {H : Heap} (hc : CUTG ws wc wr w1 wn) (hP : va_P D vwCl ws H) : va_P D vwCl wc H := va_P.mem.mpr (fun q hq => va_P.mem.mp (hP.perm hc.1) q (List.mem_append_left _ hq))
theorem CUTG.D {A : Nat → Prop} {ws wc wr w1 wn : va_W} (hc : CUTG ws wc wr w1 wn) (hD : va_D A ws) : va_D (fun _ => True) wc := by
  have h := va_D.iff.mp (hD.perm hc.1)
  refine va_D.iff.mpr ⟨?_, fun _ _ => trivial⟩
  have h1 := h.1
  rw [List.map_append] at h1
  exact (List.nodup_append.mp h1).1
theorem CUTG.F {A : Nat → Prop} {ws wc wr w1 wn : va_W} {H0 H : Heap} {locs : List Loc} (hc : CUTG ws wc wr w1 wn) (hD : va_D A ws) (hS : va_S A H0 H locs) (hA : ∀ q, H0.size ≤ q → A q) : ∀ q, va_A wc H.size q → A q := by
  intro q h
  rcases va_A.iff.mp h with ⟨e, h⟩ | h
  · exact (va_D.iff.mp (hD.perm hc.1)).2 (q, e) (List.mem_append_left _ h)
  · exact hA q (Nat.le_trans hS.1 h)
theorem CUTG.J {D : va_G} {A : Nat → Prop} {ws wc wr w1 wn : va_W} {H H1 : Heap} (hc : CUTG ws wc wr w1 wn) (hP : va_P D vwCl ws H) (hD : va_D A ws) (hF : ∀ q, va_A wc H.size q → A q)
    (hk : ∀ q : Nat, q < H.size → ¬ va_A wc H.size q → H1[q]? = H[q]?) (hP1 : va_P D vwCl w1 H1) (hD1 : va_D (va_A wc H.size) w1) : va_P D vwCl wn H1 ∧ va_D A wn := by
  have hP2 := va_P.mem.mp (hP.perm hc.1)
  have hD2 := va_D.iff.mp (hD.perm hc.1)
  have hD3 := va_D.iff.mp hD1
  have nd := hD2.1
  rw [List.map_append] at nd
  have nd2 := List.nodup_append.mp nd
  have apart : ∀ q ∈ wr, q.1 < H.size ∧ ¬ va_A wc H.size q.1 := by
    intro q hq
    have hl := (hP2 q (List.mem_append_right _ hq)).lt
    refine ⟨hl, fun h => ?_⟩
    rcases va_A.iff.mp h with ⟨e, h⟩ | h
    · exact nd2.2.2 q.1 (List.mem_map.mpr ⟨(q.1, e), h, rfl⟩) q.1 (List.mem_map.mpr ⟨q, hq, rfl⟩) rfl
    · omega
  have kP : va_P D vwCl (w1 ++ wr) H1 := va_P.app hP1 (va_P.mem.mpr (fun q hq => (hP2 q (List.mem_append_right _ hq)).kept (hk q.1 (apart q hq).1 (apart q hq).2)))
  have kD : va_D A (w1 ++ wr) := by
    refine va_D.iff.mpr ⟨?_, fun q hq => ?_⟩
    · rw [List.map_append]
      refine List.nodup_append.mpr ⟨hD3.1, nd2.2.1, ?_⟩
      intro a ha b hb hab
      subst hab
      obtain ⟨q1, h1, rfl⟩ := List.mem_map.mp ha
      obtain ⟨q2, h2, h3⟩ := List.mem_map.mp hb
      have := hD3.2 q1 h1
      rw [← h3] at this
      exact (apart q2 h2).2 this
    · rcases List.mem_append.mp hq with h | h
      · exact hF q.1 (hD3.2 q h)
      · exact hD2.2 q (List.mem_append_right _ h)
  exact ⟨kP.perm hc.2, kD.perm hc.2⟩
theorem PR.atG {D : va_G} {cA : Nat → ClassId} {tt : Nat → Nat} {ws wc wr w1 wn : va_W} {A : Nat → Prop} {s : State} {H : Heap} {locs : List Loc} (hc : CUTG ws wc wr w1 wn) (hK : va_K D vwCl (TY cA) s) (hP : va_P D vwCl ws H) (hD : va_D A ws) (hS : va_S A s.heap H locs) (hA : ∀ q, s.heap.size ≤ q → A q) (hE : EX tt A s) {av : List Value} :
    ∀ U : State, U.heap = H → s.WarmedH U.vm → va_Pc av (PR D cA tt wc H.size) av.toArray U := fun U hU hW => ⟨rfl, by rw [hU], by rw [hU]; exact hc.P hP, va_K.moved hW.alike hK, hc.D hD, hE.call hS (hc.F hD hS hA) hU hW⟩
/-- the callee has the pool, too -/
theorem CUTG.pool {X wc wr w1 wn pl pl1 : va_W} (is js : List Nat) (h1 : is.map (fun i => X[i]?) = (wc ++ wr).map some) (h2 : is.Perm (List.range X.length)) (h3 : js.map (fun i => (w1 ++ wr)[i]?) = wn.map some) (h4 : js.Perm (List.range (w1 ++ wr).length)) : CUTG (X ++ pl) (wc ++ pl) wr (w1 ++ pl1) (wn ++ pl1) := by
  constructor
  · have a : (X ++ pl).Perm ((wc ++ wr) ++ pl) := (perm_idx is h1 h2).append_right pl
    refine a.trans ?_
    rw [List.append_assoc, List.append_assoc]
    exact List.perm_append_comm.append_left wc
  · have a : ((w1 ++ wr) ++ pl1).Perm (wn ++ pl1) := (perm_idx js h3 h4).append_right pl1
    refine List.Perm.trans ?_ a
    rw [List.append_assoc, List.append_assoc]
    exact List.perm_append_comm.append_left w1
/-! pools: blocks of cells by their numbers -/
theorem pool_perm {L : List Nat} {F : Nat → va_W} {r : Nat} (h : r ∈ L) : (L.flatMap F).Perm (F r ++ (L.erase r).flatMap F) := by
  have := (List.perm_cons_erase h).flatMap_right F
  rw [List.flatMap_cons] at this
  exact this
theorem pool_outP {X : va_W} {L : List Nat} {F : Nat → va_W} {r : Nat} (h : r ∈ L) : (X ++ L.flatMap F).Perm ((X ++ F r) ++ (L.erase r).flatMap F) := by
  rw [List.append_assoc]
  exact (pool_perm h).append_left X
theorem pool_inP {X : va_W} {L : List Nat} {F G : Nat → va_W} {r : Nat} (h : r ∈ L) (he : ∀ i ∈ L.erase r, F i = G i) : ((X ++ G r) ++ (L.erase r).flatMap F).Perm (X ++ L.flatMap G) := by
  have e : (L.erase r).flatMap F = (L.erase r).flatMap G := by
    rw [List.flatMap_def, List.flatMap_def, List.map_congr_left he]
  rw [e]
  exact (pool_outP h).symm
def upS (f : Nat → Sg) (k : Nat) (x : Sg) : Nat → Sg := fun j => if j = k then x else f j
theorem upS_s {f : Nat → Sg} {k : Nat} {x : Sg} : upS f k x k = x := if_pos rfl
theorem upS_n {f : Nat → Sg} {k j : Nat} {x : Sg} (h : j ≠ k) : upS f k x j = f j := if_neg h
def upI (f : Nat → Nat → Int32) (k : Nat) (x : Nat → Int32) : Nat → Nat → Int32 := fun j => if j = k then x else f j
theorem upI_s {f : Nat → Nat → Int32} {k : Nat} {x : Nat → Int32} : upI f k x k = x := if_pos rfl
theorem upI_n {f : Nat → Nat → Int32} {k j : Nat} {x : Nat → Int32} (h : j ≠ k) : upI f k x j = f j := if_neg h
def ringW (cA : Nat → ClassId) (ra : Nat → Nat → Nat) (rs : Nat → Sg) : va_W := (List.range 24).flatMap (fun i => stW cA (ra i) (rs i))
def ringR (cA : Nat → ClassId) (ra : Nat → Nat → Nat) (rs : Nat → Sg) (r : Nat) : va_W := ((List.range 24).erase r).flatMap (fun i => stW cA (ra i) (rs i))
def gridW (cA : Nat → ClassId) (ga : Nat → Nat) (gf : Nat → Nat → Int32) : va_W := (List.range 8).flatMap (fun i => [(ga i, .inl (cA 0, 40, .inl (gf i)))])
def gridR (cA : Nat → ClassId) (ga : Nat → Nat) (gf : Nat → Nat → Int32) (r : Nat) : va_W := ((List.range 8).erase r).flatMap (fun i => [(ga i, .inl (cA 0, 40, .inl (gf i)))])
theorem ring_out {cA : Nat → ClassId} {ra : Nat → Nat → Nat} {rs : Nat → Sg} {X : va_W} {r : Nat} (h : r < 24) : (X ++ ringW cA ra rs).Perm ((X ++ stW cA (ra r) (rs r)) ++ ringR cA ra rs r) := pool_outP (F := fun i => stW cA (ra i) (rs i)) (List.mem_range.mpr h)
theorem ring_in {cA : Nat → ClassId} {ra : Nat → Nat → Nat} {rs : Nat → Sg} {X : va_W} {r : Nat} {x : Sg} (h : r < 24) : ((X ++ stW cA (ra r) x) ++ ringR cA ra rs r).Perm (X ++ ringW cA ra (upS rs r x)) := by
  have := pool_inP (X := X) (F := fun i => stW cA (ra i) (rs i)) (G := fun i => stW cA (ra i) (upS rs r x i)) (List.mem_range.mpr h) (fun i hi => by
    have hne : i ≠ r := fun q => by subst q; exact absurd hi (by rw [List.Nodup.mem_erase_iff List.nodup_range]; simp)
    rw [upS_n hne])
  rw [upS_s] at this
  exact this
theorem grid_out {cA : Nat → ClassId} {ga : Nat → Nat} {gf : Nat → Nat → Int32} {X : va_W} {r : Nat} (h : r < 8) : (X ++ gridW cA ga gf).Perm ((X ++ [(ga r, .inl (cA 0, 40, .inl (gf r)))]) ++ gridR cA ga gf r) := pool_outP (F := fun i => [(ga i, .inl (cA 0, 40, .inl (gf i)))]) (List.mem_range.mpr h)
theorem grid_in {cA : Nat → ClassId} {ga : Nat → Nat} {gf : Nat → Nat → Int32} {X : va_W} {r : Nat} {x : Nat → Int32} (h : r < 8) : ((X ++ ([(ga r, .inl (cA 0, 40, .inl x))] : va_W)) ++ gridR cA ga gf r).Perm (X ++ gridW cA ga (upI gf r x)) := by
  have := pool_inP (X := X) (F := fun i => [(ga i, .inl (cA 0, 40, .inl (gf i)))]) (G := fun i => [(ga i, .inl (cA 0, 40, .inl (upI gf r x i)))]) (List.mem_range.mpr h) (fun i hi => by
    have hne : i ≠ r := fun q => by subst q; exact absurd hi (by rw [List.Nodup.mem_erase_iff List.nodup_range]; simp)
    rw [upI_n hne])
  rw [upI_s] at this
  exact this
section CALLSG
variable {p : Program} {l : Launch} {e : Env} {R : Room} {s : State} {m : MethodId} {args : Array Value} {below : List Frame} {meth : Method} {c : Code} {H : Heap} {locs : List Loc} {cells slots : Nat} {Q : State → Prop}
variable {cc : ByteArray} {pc nL n index maxL : Nat} {ls : Array Slot} {rest st0 As : List Value} {D : va_G} {cA : Nat → ClassId} {tt : Nat → Nat} {A : Nat → Prop} {b : Nat} {ws wc wr : va_W} {y : MethodName} {bytes : ByteArray} {ret : Option FieldType} {wds wds' Ts : List Cond} {rm : Room} {own : String}
theorem gVi {w1 wn : va_W} {r : Int32} (S : CallFix p m c cc nL s args Ts own) (hM : Ci l D cA tt y wds rm (.ref b :: As) H.size wc w1 r) {C : String} {T : u_T} {N ci : Nat} {fs : List Value} (hG : GoodIn Ts (wsV own index C y wds)) (hw : wds = Cond.code y bytes maxL ret :: wds') (hd : y.cls = C ∧ y.cls ≠ "java/lang/invoke/MethodHandle" ∧ y.cls ≠ "java/lang/invoke/VarHandle" ∧ (parseMethodDescriptor y.desc).map (fun d => d.parameters.length) = some n) (hci : vwCl[ci]? = some (C, T, N)) (he : (b, Sum.inr (ci, fs)) ∈ wc) (hr0 : rm.cells = 0 ∧ rm.slots = 0) (hR : rm.frames + 1 ≤ R.frames ∧ 8 + (maxL + 11) + rm.locals ≤ R.locals) (hcs : cells ≤ R.cells ∧ slots ≤ R.slots)
    (hK : va_K D vwCl (TY cA) s) (hE : EX tt A s) (hA : ∀ q, s.heap.size ≤ q → A q) (hP : va_P D vwCl ws H) (hD : va_D A ws) (hS : va_S A s.heap H locs) (hc : CUTG ws wc wr (w1) (wn))
    (hn : As.length = n) (hl : ls.size = nL) (hst : st0 = As.reverse ++ .ref b :: rest) (hW : (rest.map fun v => v.category).sum ≤ 8) (hdg : decode cc pc = .ok (.invokevirtual index, 3))
    (kk : ∀ (H1 : Heap) (locs1 : List Loc), va_P D vwCl (wn) H1 → va_D A (wn) → va_S A s.heap H1 locs1 → W p l e R s m args below meth c H1 locs1 cells slots Q (F0 m (pc + 3) ls (.int r :: rest))) : W p l e R s m args below meth c H locs cells slots Q (F0 m pc ls st0) := by
  have hF := hc.F hD hS hA
  obtain ⟨k9, hk9⟩ := List.getElem?_of_mem he
  refine va_calli (va_runV S hM (cwV n S.2.2.2.2 hG hw hr0.1 hr0.2 hd hR) ⟨PR.blind, va_recv hK (hc.P hP) hci hk9, PR.atG hc hK hP hD hS hA hE⟩ rfl hn hl hst (lv_room hW) hdg ⟨hcs.1, hcs.2⟩) hS (fun q _ h => hF q h) hF (fun r2 u t H1 locs1 ht hvm hw9 hB hz1 hk1 hS1 => ?_)
  subst hw9
  obtain ⟨a1, -, a3⟩ := hB
  rw [ht] at a1
  obtain ⟨b1, b2⟩ := hc.J hP hD hF hk1 a1 a3
  exact kk H1 locs1 b1 b2 hS1
theorem gVie {w1 wn : Sg → va_W} {r : Int32} (S : CallFix p m c cc nL s args Ts own) (hM : CiE l D cA tt y wds rm (.ref b :: As) H.size wc w1 r) {C : String} {T : u_T} {N ci : Nat} {fs : List Value} (hG : GoodIn Ts (wsV own index C y wds)) (hw : wds = Cond.code y bytes maxL ret :: wds') (hd : y.cls = C ∧ y.cls ≠ "java/lang/invoke/MethodHandle" ∧ y.cls ≠ "java/lang/invoke/VarHandle" ∧ (parseMethodDescriptor y.desc).map (fun d => d.parameters.length) = some n) (hci : vwCl[ci]? = some (C, T, N)) (he : (b, Sum.inr (ci, fs)) ∈ wc) (hr0 : rm.cells = 0 ∧ rm.slots = 0) (hR : rm.frames + 1 ≤ R.frames ∧ 8 + (maxL + 11) + rm.locals ≤ R.locals) (hcs : cells ≤ R.cells ∧ slots ≤ R.slots)
    (hK : va_K D vwCl (TY cA) s) (hE : EX tt A s) (hA : ∀ q, s.heap.size ≤ q → A q) (hP : va_P D vwCl ws H) (hD : va_D A ws) (hS : va_S A s.heap H locs) (hc : ∀ z, CUTG ws wc wr (w1 z) (wn z))
    (hn : As.length = n) (hl : ls.size = nL) (hst : st0 = As.reverse ++ .ref b :: rest) (hW : (rest.map fun v => v.category).sum ≤ 8) (hdg : decode cc pc = .ok (.invokevirtual index, 3))
    (kk : ∀ (z : Sg) (H1 : Heap) (locs1 : List Loc), va_P D vwCl (wn z) H1 → va_D A (wn z) → va_S A s.heap H1 locs1 → W p l e R s m args below meth c H1 locs1 cells slots Q (F0 m (pc + 3) ls (.int r :: rest))) : W p l e R s m args below meth c H locs cells slots Q (F0 m pc ls st0) := by
  have z0 : Sg := (0, 0, 0, 0, 0, fun _ => 0, fun _ => 0, fun _ => 0, fun _ => 0, fun _ => 0)
  have hF := (hc z0).F hD hS hA
  obtain ⟨k9, hk9⟩ := List.getElem?_of_mem he
  refine va_calli (va_runV S hM (cwV n S.2.2.2.2 hG hw hr0.1 hr0.2 hd hR) ⟨PR.blind, va_recv hK ((hc z0).P hP) hci hk9, PR.atG (hc z0) hK hP hD hS hA hE⟩ rfl hn hl hst (lv_room hW) hdg ⟨hcs.1, hcs.2⟩) hS (fun q _ h => hF q h) hF (fun r2 u t H1 locs1 ht hvm hw9 hB hz1 hk1 hS1 => ?_)
  subst hw9
  obtain ⟨a1, -, a3⟩ := hB
  rw [ht] at a1
  obtain ⟨b1, b2⟩ := (hc u).J hP hD hF hk1 a1 a3
  exact kk u H1 locs1 b1 b2 hS1
theorem gVl {w1 wn : va_W} {r : Int64} (S : CallFix p m c cc nL s args Ts own) (hM : Cl l D cA tt y wds rm (.ref b :: As) H.size wc w1 r) {C : String} {T : u_T} {N ci : Nat} {fs : List Value} (hG : GoodIn Ts (wsV own index C y wds)) (hw : wds = Cond.code y bytes maxL ret :: wds') (hd : y.cls = C ∧ y.cls ≠ "java/lang/invoke/MethodHandle" ∧ y.cls ≠ "java/lang/invoke/VarHandle" ∧ (parseMethodDescriptor y.desc).map (fun d => d.parameters.length) = some n) (hci : vwCl[ci]? = some (C, T, N)) (he : (b, Sum.inr (ci, fs)) ∈ wc) (hr0 : rm.cells = 0 ∧ rm.slots = 0) (hR : rm.frames + 1 ≤ R.frames ∧ 8 + (maxL + 11) + rm.locals ≤ R.locals) (hcs : cells ≤ R.cells ∧ slots ≤ R.slots)
    (hK : va_K D vwCl (TY cA) s) (hE : EX tt A s) (hA : ∀ q, s.heap.size ≤ q → A q) (hP : va_P D vwCl ws H) (hD : va_D A ws) (hS : va_S A s.heap H locs) (hc : CUTG ws wc wr (w1) (wn))
    (hn : As.length = n) (hl : ls.size = nL) (hst : st0 = As.reverse ++ .ref b :: rest) (hW : (rest.map fun v => v.category).sum ≤ 8) (hdg : decode cc pc = .ok (.invokevirtual index, 3))
    (kk : ∀ (H1 : Heap) (locs1 : List Loc), va_P D vwCl (wn) H1 → va_D A (wn) → va_S A s.heap H1 locs1 → W p l e R s m args below meth c H1 locs1 cells slots Q (F0 m (pc + 3) ls (.long r :: rest))) : W p l e R s m args below meth c H locs cells slots Q (F0 m pc ls st0) := by
  have hF := hc.F hD hS hA
  obtain ⟨k9, hk9⟩ := List.getElem?_of_mem he
  refine va_calll (va_runV S hM (cwV n S.2.2.2.2 hG hw hr0.1 hr0.2 hd hR) ⟨PR.blind, va_recv hK (hc.P hP) hci hk9, PR.atG hc hK hP hD hS hA hE⟩ rfl hn hl hst (lv_room hW) hdg ⟨hcs.1, hcs.2⟩) hS (fun q _ h => hF q h) hF (fun r2 u t H1 locs1 ht hvm hw9 hB hz1 hk1 hS1 => ?_)
  subst hw9
  obtain ⟨a1, -, a3⟩ := hB
  rw [ht] at a1
  obtain ⟨b1, b2⟩ := hc.J hP hD hF hk1 a1 a3
  exact kk H1 locs1 b1 b2 hS1
theorem gVle {w1 wn : Sg → va_W} {r : Int64} (S : CallFix p m c cc nL s args Ts own) (hM : ClE l D cA tt y wds rm (.ref b :: As) H.size wc w1 r) {C : String} {T : u_T} {N ci : Nat} {fs : List Value} (hG : GoodIn Ts (wsV own index C y wds)) (hw : wds = Cond.code y bytes maxL ret :: wds') (hd : y.cls = C ∧ y.cls ≠ "java/lang/invoke/MethodHandle" ∧ y.cls ≠ "java/lang/invoke/VarHandle" ∧ (parseMethodDescriptor y.desc).map (fun d => d.parameters.length) = some n) (hci : vwCl[ci]? = some (C, T, N)) (he : (b, Sum.inr (ci, fs)) ∈ wc) (hr0 : rm.cells = 0 ∧ rm.slots = 0) (hR : rm.frames + 1 ≤ R.frames ∧ 8 + (maxL + 11) + rm.locals ≤ R.locals) (hcs : cells ≤ R.cells ∧ slots ≤ R.slots)
    (hK : va_K D vwCl (TY cA) s) (hE : EX tt A s) (hA : ∀ q, s.heap.size ≤ q → A q) (hP : va_P D vwCl ws H) (hD : va_D A ws) (hS : va_S A s.heap H locs) (hc : ∀ z, CUTG ws wc wr (w1 z) (wn z))
    (hn : As.length = n) (hl : ls.size = nL) (hst : st0 = As.reverse ++ .ref b :: rest) (hW : (rest.map fun v => v.category).sum ≤ 8) (hdg : decode cc pc = .ok (.invokevirtual index, 3))
    (kk : ∀ (z : Sg) (H1 : Heap) (locs1 : List Loc), va_P D vwCl (wn z) H1 → va_D A (wn z) → va_S A s.heap H1 locs1 → W p l e R s m args below meth c H1 locs1 cells slots Q (F0 m (pc + 3) ls (.long r :: rest))) : W p l e R s m args below meth c H locs cells slots Q (F0 m pc ls st0) := by
  have z0 : Sg := (0, 0, 0, 0, 0, fun _ => 0, fun _ => 0, fun _ => 0, fun _ => 0, fun _ => 0)
  have hF := (hc z0).F hD hS hA
  obtain ⟨k9, hk9⟩ := List.getElem?_of_mem he
  refine va_calll (va_runV S hM (cwV n S.2.2.2.2 hG hw hr0.1 hr0.2 hd hR) ⟨PR.blind, va_recv hK ((hc z0).P hP) hci hk9, PR.atG (hc z0) hK hP hD hS hA hE⟩ rfl hn hl hst (lv_room hW) hdg ⟨hcs.1, hcs.2⟩) hS (fun q _ h => hF q h) hF (fun r2 u t H1 locs1 ht hvm hw9 hB hz1 hk1 hS1 => ?_)
  subst hw9
  obtain ⟨a1, -, a3⟩ := hB
  rw [ht] at a1
  obtain ⟨b1, b2⟩ := (hc u).J hP hD hF hk1 a1 a3
  exact kk u H1 locs1 b1 b2 hS1
theorem gVv {w1 wn : va_W} (S : CallFix p m c cc nL s args Ts own) (hM : Cv l D cA tt y wds rm (.ref b :: As) H.size wc w1) {C : String} {T : u_T} {N ci : Nat} {fs : List Value} (hG : GoodIn Ts (wsV own index C y wds)) (hw : wds = Cond.code y bytes maxL ret :: wds') (hd : y.cls = C ∧ y.cls ≠ "java/lang/invoke/MethodHandle" ∧ y.cls ≠ "java/lang/invoke/VarHandle" ∧ (parseMethodDescriptor y.desc).map (fun d => d.parameters.length) = some n) (hci : vwCl[ci]? = some (C, T, N)) (he : (b, Sum.inr (ci, fs)) ∈ wc) (hr0 : rm.cells = 0 ∧ rm.slots = 0) (hR : rm.frames + 1 ≤ R.frames ∧ 8 + (maxL + 11) + rm.locals ≤ R.locals) (hcs : cells ≤ R.cells ∧ slots ≤ R.slots)
    (hK : va_K D vwCl (TY cA) s) (hE : EX tt A s) (hA : ∀ q, s.heap.size ≤ q → A q) (hP : va_P D vwCl ws H) (hD : va_D A ws) (hS : va_S A s.heap H locs) (hc : CUTG ws wc wr (w1) (wn))
    (hn : As.length = n) (hl : ls.size = nL) (hst : st0 = As.reverse ++ .ref b :: rest) (hW : (rest.map fun v => v.category).sum ≤ 8) (hdg : decode cc pc = .ok (.invokevirtual index, 3))
    (kk : ∀ (H1 : Heap) (locs1 : List Loc), va_P D vwCl (wn) H1 → va_D A (wn) → va_S A s.heap H1 locs1 → W p l e R s m args below meth c H1 locs1 cells slots Q (F0 m (pc + 3) ls rest)) : W p l e R s m args below meth c H locs cells slots Q (F0 m pc ls st0) := by
  have hF := hc.F hD hS hA
  obtain ⟨k9, hk9⟩ := List.getElem?_of_mem he
  refine va_callv (va_runV S hM (cwV n S.2.2.2.2 hG hw hr0.1 hr0.2 hd hR) ⟨PR.blind, va_recv hK (hc.P hP) hci hk9, PR.atG hc hK hP hD hS hA hE⟩ rfl hn hl hst (lv_room hW) hdg ⟨hcs.1, hcs.2⟩) hS (fun q _ h => hF q h) hF (fun u t H1 locs1 ht hvm hw9 hB hz1 hk1 hS1 => ?_)
  obtain ⟨a1, -, a3⟩ := hB
  rw [ht] at a1
  obtain ⟨b1, b2⟩ := hc.J hP hD hF hk1 a1 a3
  exact kk H1 locs1 b1 b2 hS1
end CALLSG
