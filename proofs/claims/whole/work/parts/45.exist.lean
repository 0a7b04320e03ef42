/-! ===== contracts that leave one street as some state; the cells of a pool ===== -/
def CiE (l : Launch) (D : va_G) (cA : Nat → ClassId) (tt : Nat → Nat) (y : MethodName) (wds : List Cond) (rm : Room) (av : List Value) (sz : Nat) (ws : va_W) (ws' : Sg → va_W) (r : Int32) : Prop := Met l y wds rm (va_Pc av (PR D cA tt ws sz)) (va_Qi (fun (x : Int32) (_ : Sg) => x = r) (fun z => AT D cA (va_A ws sz) (ws' z)) (va_A ws sz)) 0 0 (va_A ws sz)
def ClE (l : Launch) (D : va_G) (cA : Nat → ClassId) (tt : Nat → Nat) (y : MethodName) (wds : List Cond) (rm : Room) (av : List Value) (sz : Nat) (ws : va_W) (ws' : Sg → va_W) (r : Int64) : Prop := Met l y wds rm (va_Pc av (PR D cA tt ws sz)) (va_Ql (fun (x : Int64) (_ : Sg) => x = r) (fun z => AT D cA (va_A ws sz) (ws' z)) (va_A ws sz)) 0 0 (va_A ws sz)
theorem CiE.mk {l : Launch} {D : va_G} {cA : Nat → ClassId} {tt : Nat → Nat} {y : MethodName} {wds wds' : List Cond} {rm : Room} {av : List Value} {sz : Nat} {ws : va_W} {ws' : Sg → va_W} {r : Int32} {cc : ByteArray} {maxL : Nat} {ty : FieldType}
    (hy : plainName y.cls = true) (hw : wds = Cond.code y cc maxL (some ty) :: wds') (hn : narrow ty (.int r) = .int r) (hlen : (lg_sl av).length ≤ maxL)
    (body : ∀ (p : Program) (e : Env) (s : State) (m : MethodId) (below : List Frame) (meth : Method) (c : Code) (A : Nat → Prop) (Q : State → Prop) (ls : Array Slot), BD p l rm cc maxL y wds D cA tt ws A s m av.toArray c → lv_has ls maxL (lv_args 0 av) →
      (∀ (H : Heap) (locs : List Loc) (ls' : Array Slot) (pc : Nat) (v : Int32) (z : Sg), va_P D vwCl (ws' z) H → va_D A (ws' z) → va_S A s.heap H locs → v = r → decode cc pc = .ok (.ireturn, 1) → W p l e rm s m av.toArray below meth c H locs 0 0 Q (F0 m pc ls' [.int v])) →
      W p l e rm s m av.toArray below meth c s.heap [] 0 0 Q (F0 m 0 ls [])) : CiE l D cA tt y wds rm av sz ws ws' r := by
  refine Met.ofW (cc := cc) (maxL := maxL) (ret := some ty) hy hw ?_
  intro p e s m args below meth c s₁ B hml hv
  obtain ⟨rfl, hsz, hB⟩ := BD.of B hml hv
  obtain ⟨ls, els, hl⟩ := entry_ls m av maxL hlen
  rw [els]
  have hlocks := B.notSynchronized
  refine body p e s m below meth c (va_A ws sz) _ ls hB hl (fun H locs ls' pc v z hP hD hS hv hd => ?_)
  subst hv
  refine W.zret (v := v) (ty := ty) B.exec B.bytes B.returns hn (fun t ht hW => ⟨⟨v, z, rfl, rfl, by rw [ht]; exact hP, va_K.moved hW.alike hB.2.2.1, hD⟩, hS.F ht⟩) hS.2.2 hd
theorem ClE.mk {l : Launch} {D : va_G} {cA : Nat → ClassId} {tt : Nat → Nat} {y : MethodName} {wds wds' : List Cond} {rm : Room} {av : List Value} {sz : Nat} {ws : va_W} {ws' : Sg → va_W} {r : Int64} {cc : ByteArray} {maxL : Nat}
    (hy : plainName y.cls = true) (hw : wds = Cond.code y cc maxL (some .long) :: wds') (hlen : (lg_sl av).length ≤ maxL)
    (body : ∀ (p : Program) (e : Env) (s : State) (m : MethodId) (below : List Frame) (meth : Method) (c : Code) (A : Nat → Prop) (Q : State → Prop) (ls : Array Slot), BD p l rm cc maxL y wds D cA tt ws A s m av.toArray c → lv_has ls maxL (lv_args 0 av) →
      (∀ (H : Heap) (locs : List Loc) (ls' : Array Slot) (pc : Nat) (v : Int64) (z : Sg), va_P D vwCl (ws' z) H → va_D A (ws' z) → va_S A s.heap H locs → v = r → decode cc pc = .ok (.lreturn, 1) → W p l e rm s m av.toArray below meth c H locs 0 0 Q (F0 m pc ls' [.long v])) →
      W p l e rm s m av.toArray below meth c s.heap [] 0 0 Q (F0 m 0 ls [])) : ClE l D cA tt y wds rm av sz ws ws' r := by
  refine Met.ofW (cc := cc) (maxL := maxL) (ret := some .long) hy hw ?_
  intro p e s m args below meth c s₁ B hml hv
  obtain ⟨rfl, hsz, hB⟩ := BD.of B hml hv
  obtain ⟨ls, els, hl⟩ := entry_ls m av maxL hlen
  rw [els]
  have hlocks := B.notSynchronized
  refine body p e s m below meth c (va_A ws sz) _ ls hB hl (fun H locs ls' pc v z hP hD hS hv hd => ?_)
  subst hv
  exact W.lret (v := v) B.exec B.bytes B.returns (fun t ht hW => ⟨⟨v, z, rfl, rfl, by rw [ht]; exact hP, va_K.moved hW.alike hB.2.2.1, hD⟩, hS.F ht⟩) hS.2.2 hd
section CALLSE
variable {p : Program} {l : Launch} {e : Env} {R : Room} {s : State} {m : MethodId} {args : Array Value} {below : List Frame} {meth : Method} {c : Code} {H : Heap} {locs : List Loc} {cells slots : Nat} {Q : State → Prop}
variable {cc : ByteArray} {pc nL n index maxL : Nat} {ls : Array Slot} {rest st0 As : List Value} {D : va_G} {cA : Nat → ClassId} {tt : Nat → Nat} {A : Nat → Prop} {b : Nat} {X pl wc wr : va_W} {w1 wn : Sg → va_W} {isC isR isN : List Nat} {y : MethodName} {bytes : ByteArray} {ret : Option FieldType} {wds wds' Ts : List Cond} {rm : Room} {own : String}
theorem cVie {r : Int32} (S : CallFix p m c cc nL s args Ts own) (hM : CiE l D cA tt y wds rm (.ref b :: As) H.size wc w1 r) {C : String} {T : u_T} {N ci q0 : Nat} {fs : List Value} (hG : GoodIn Ts (wsV own index C y wds)) (hw : wds = Cond.code y bytes maxL ret :: wds') (hd : y.cls = C ∧ y.cls ≠ "java/lang/invoke/MethodHandle" ∧ y.cls ≠ "java/lang/invoke/VarHandle" ∧ (parseMethodDescriptor y.desc).map (fun d => d.parameters.length) = some n) (hci : vwCl[ci]? = some (C, T, N)) (he : wc[q0]? = some (b, .inr (ci, fs))) (hr0 : rm.cells = 0 ∧ rm.slots = 0) (hR : rm.frames + 1 ≤ R.frames ∧ 8 + (maxL + 11) + rm.locals ≤ R.locals) (hcs : cells ≤ R.cells ∧ slots ≤ R.slots)
    (hK : va_K D vwCl (TY cA) s) (hE : EX tt A s) (hA : ∀ q, s.heap.size ≤ q → A q) (hP : va_P D vwCl (X ++ pl) H) (hD : va_D A (X ++ pl)) (hS : va_S A s.heap H locs) (hc : ∀ z, CUT X wc wr (w1 z) (wn z) isC isR isN)
    (hn : As.length = n) (hl : ls.size = nL) (hst : st0 = As.reverse ++ .ref b :: rest) (hW : (rest.map fun v => v.category).sum ≤ 8) (hdg : decode cc pc = .ok (.invokevirtual index, 3))
    (kk : ∀ (z : Sg) (H1 : Heap) (locs1 : List Loc), va_P D vwCl (wn z ++ pl) H1 → va_D A (wn z ++ pl) → va_S A s.heap H1 locs1 → W p l e R s m args below meth c H1 locs1 cells slots Q (F0 m (pc + 3) ls (.int r :: rest))) : W p l e R s m args below meth c H locs cells slots Q (F0 m pc ls st0) := by
  have z0 : Sg := (0, 0, 0, 0, 0, fun _ => 0, fun _ => 0, fun _ => 0, fun _ => 0, fun _ => 0)
  have hF := (hc z0).F hD hS hA
  refine va_calli (va_runV S hM (cwV n S.2.2.2.2 hG hw hr0.1 hr0.2 hd hR) ⟨PR.blind, va_recv hK ((hc z0).P hP) hci he, PR.at (hc z0) hK hP hD hS hA hE⟩ rfl hn hl hst (lv_room hW) hdg ⟨hcs.1, hcs.2⟩) hS (fun q _ h => hF q h) hF (fun r2 u t H1 locs1 ht hvm hw9 hB hz1 hk1 hS1 => ?_)
  subst hw9
  obtain ⟨a1, -, a3⟩ := hB
  rw [ht] at a1
  obtain ⟨b1, b2⟩ := (hc u).J hP hD hF hk1 a1 a3
  exact kk u H1 locs1 b1 b2 hS1
theorem cVle {r : Int64} (S : CallFix p m c cc nL s args Ts own) (hM : ClE l D cA tt y wds rm (.ref b :: As) H.size wc w1 r) {C : String} {T : u_T} {N ci q0 : Nat} {fs : List Value} (hG : GoodIn Ts (wsV own index C y wds)) (hw : wds = Cond.code y bytes maxL ret :: wds') (hd : y.cls = C ∧ y.cls ≠ "java/lang/invoke/MethodHandle" ∧ y.cls ≠ "java/lang/invoke/VarHandle" ∧ (parseMethodDescriptor y.desc).map (fun d => d.parameters.length) = some n) (hci : vwCl[ci]? = some (C, T, N)) (he : wc[q0]? = some (b, .inr (ci, fs))) (hr0 : rm.cells = 0 ∧ rm.slots = 0) (hR : rm.frames + 1 ≤ R.frames ∧ 8 + (maxL + 11) + rm.locals ≤ R.locals) (hcs : cells ≤ R.cells ∧ slots ≤ R.slots)
    (hK : va_K D vwCl (TY cA) s) (hE : EX tt A s) (hA : ∀ q, s.heap.size ≤ q → A q) (hP : va_P D vwCl (X ++ pl) H) (hD : va_D A (X ++ pl)) (hS : va_S A s.heap H locs) (hc : ∀ z, CUT X wc wr (w1 z) (wn z) isC isR isN)
    (hn : As.length = n) (hl : ls.size = nL) (hst : st0 = As.reverse ++ .ref b :: rest) (hW : (rest.map fun v => v.category).sum ≤ 8) (hdg : decode cc pc = .ok (.invokevirtual index, 3))
    (kk : ∀ (z : Sg) (H1 : Heap) (locs1 : List Loc), va_P D vwCl (wn z ++ pl) H1 → va_D A (wn z ++ pl) → va_S A s.heap H1 locs1 → W p l e R s m args below meth c H1 locs1 cells slots Q (F0 m (pc + 3) ls (.long r :: rest))) : W p l e R s m args below meth c H locs cells slots Q (F0 m pc ls st0) := by
  have z0 : Sg := (0, 0, 0, 0, 0, fun _ => 0, fun _ => 0, fun _ => 0, fun _ => 0, fun _ => 0)
  have hF := (hc z0).F hD hS hA
  refine va_calll (va_runV S hM (cwV n S.2.2.2.2 hG hw hr0.1 hr0.2 hd hR) ⟨PR.blind, va_recv hK ((hc z0).P hP) hci he, PR.at (hc z0) hK hP hD hS hA hE⟩ rfl hn hl hst (lv_room hW) hdg ⟨hcs.1, hcs.2⟩) hS (fun q _ h => hF q h) hF (fun r2 u t H1 locs1 ht hvm hw9 hB hz1 hk1 hS1 => ?_)
  subst hw9
  obtain ⟨a1, -, a3⟩ := hB
  rw [ht] at a1
  obtain ⟨b1, b2⟩ := (hc u).J hP hD hF hk1 a1 a3
  exact kk u H1 locs1 b1 b2 hS1
end CALLSE
/-! foretold, in naturals -/
def turnN (x : Sg) : Nat → Sg
  | 0 => x
  | i + 1 => turnF (turnN x i)
def turnP (x : Sg) (part : Nat) : Nat → Sg
  | 0 => x
  | i + 1 => turnU (turnP x part i) part
theorem turnN_ok {x : Sg} (h : Wk x) (i : Nat) : Wk (turnN x i) ∧ St (turnN x i) = St x + i ∧ Sn (turnN x i) = Sn x := by
  induction i with
  | zero => exact ⟨h, rfl, rfl⟩
  | succ i ih =>
    have t := turn_n (turnN x i)
    exact ⟨ih.1.turn, by rw [turnN, t.2.2.2, ih.2.1]; omega, by rw [turnN, t.1, ih.2.2]⟩
theorem turnP_ok {x : Sg} (h : Wk x) (part i : Nat) : Wk (turnP x part i) ∧ St (turnP x part i) = St x + i ∧ Sn (turnP x part i) = Sn x := by
  induction i with
  | zero => exact ⟨h, rfl, rfl⟩
  | succ i ih =>
    have t := turnU_n (turnP x part i) part
    exact ⟨ih.1.turnU part, by rw [turnP, t.2.2.2, ih.2.1]; omega, by rw [turnP, t.1, ih.2.2]⟩
def fstN (n : Nat) (p : Nat → Bool) : Nat := ((List.range n).find? p).getD n
theorem fstN_of {n i : Nat} {p : Nat → Bool} (hi : i ≤ n) (hl : ∀ j, j < i → p j = false) (hp : i = n ∨ p i = true) : fstN n p = i := by
  unfold fstN
  by_cases h : i = n
  · subst h
    have : (List.range i).find? p = none := by
      rw [List.find?_range_eq_none]
      intro j hj
      rw [hl j hj]; rfl
    rw [this]; rfl
  · have : (List.range n).find? p = some i := by
      rw [List.find?_range_eq_some]
      exact ⟨hp.resolve_left h, by simp; omega, fun j hj => by rw [hl j hj]; rfl⟩
    rw [this]; rfl
theorem fstN_spec (n : Nat) (p : Nat → Bool) : fstN n p ≤ n ∧ (∀ j, j < fstN n p → p j = false) ∧ (fstN n p = n ∨ p (fstN n p) = true) := by
  unfold fstN
  cases h : (List.range n).find? p with
  | none =>
    rw [List.find?_range_eq_none] at h
    exact ⟨Nat.le_refl _, fun j hj => by have := h j hj; simpa using this, Or.inl rfl⟩
  | some i =>
    rw [List.find?_range_eq_some] at h
    obtain ⟨h1, h2, h3⟩ := h
    refine ⟨?_, fun j hj => ?_, Or.inr h1⟩
    · have : i < n := by simpa using h2
      exact Nat.le_of_lt this
    · have := h3 j hj
      simpa using this
theorem fstN_congr {n : Nat} {p q : Nat → Bool} (h : ∀ k, k < n → p k = q k) : fstN n p = fstN n q := by
  obtain ⟨a, b, c⟩ := fstN_spec n q
  refine fstN_of a (fun j hj => ?_) ?_
  · rw [h j (by omega)]; exact b j hj
  · rcases c with c | c
    · exact Or.inl c
    · by_cases z : fstN n q = n
      · exact Or.inl z
      · exact Or.inr (by rw [h _ (by omega)]; exact c)
def idxI (n k : Nat) : Int32 := if k < n then nI k else (-1000000)
def seenP (x : Sg) (w pic d : Nat) : Bool := (SS (turnN x d) w).testBit pic
def bareP (x : Sg) (d : Nat) : Bool := !decide (bareF (turnN x d) = (-1000000))
def openAt (x : Sg) (part w t : Nat) : Bool := wouldF (turnP x part t) w (dateF (turnP x part t))
/-- no opening of w in n turns, some glued fast -/
def shutB (x : Sg) (w n some part : Nat) : Bool := decide (fstN n (openAt (fastF x some) part w) = n)
def behB (x : Sg) (w n lifted part : Nat) : Bool := (So (turnP (wO x (So x ||| lifted)) part n)).testBit w
