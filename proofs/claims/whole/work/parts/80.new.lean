/-! ===== making: contracts of constructors, rows ===== -/
def AO2 (U : State) : Prop := va_AO RX4 U ∧ (Cond.arrayOver (.array .int)).before #[] U = true
theorem AO2.moved {u U : State} (hvm : u.vm.Alike U.vm) (h : AO2 u) : AO2 U := ⟨va_AO.moved hvm h.1, arrayOver_alikeB (args' := #[]) (first' := U) (o' := none) (idx' := []) hvm h.2⟩
def PN (D : va_G) (cA : Nat → ClassId) (tt : Nat → Nat) (ws : va_W) (sz : Nat) : State → Prop := fun U => PR D cA tt ws sz U ∧ AO2 U
/-- a constructor: the world ws becomes ws' u, for some u of which post tells; mc cells of ms slots come -/
def Cn {U : Type} (l : Launch) (D : va_G) (cA : Nat → ClassId) (tt : Nat → Nat) (y : MethodName) (wds : List Cond) (rm : Room) (av : List Value) (sz : Nat) (ws : va_W) (ws' : U → va_W) (mc ms : Nat) : Prop := Met l y wds rm (va_Pc av (PN D cA tt ws sz)) (va_Qv (fun (_ : U) => True) (fun u => AT D cA (va_A ws sz) (ws' u)) (va_A ws sz)) mc ms (va_A ws sz)
theorem PN.blind {D : va_G} {cA : Nat → ClassId} {tt : Nat → Nat} {ws : va_W} {sz : Nat} {av : List Value} : FrameBlind (va_Pc av (PN D cA tt ws sz)) := fun a U g mk q => by
  obtain ⟨q0, q1, q2⟩ := q
  exact ⟨q0, (PR.blind (av := av) a U g mk ⟨q0, q1⟩).2, AO2.moved (u := U) (U := U.calling g mk a) (Vm.Alike.refl U.vm) q2⟩
theorem PN.at {D : va_G} {cA : Nat → ClassId} {tt : Nat → Nat} {X pl wc wr w1 wn : va_W} {isC isR isN : List Nat} {A : Nat → Prop} {s : State} {H : Heap} {locs : List Loc} (hc : CUT X wc wr w1 wn isC isR isN) (hK : va_K D vwCl (TY cA) s) (hP : va_P D vwCl (X ++ pl) H) (hD : va_D A (X ++ pl)) (hS : va_S A s.heap H locs) (hA : ∀ q, s.heap.size ≤ q → A q) (hE : EX tt A s) (hO : AO2 s) {av : List Value} :
    ∀ U : State, U.heap = H → s.WarmedH U.vm → va_Pc av (PN D cA tt wc H.size) av.toArray U := fun U hU hW => ⟨rfl, (PR.at hc hK hP hD hS hA hE (av := av) U hU hW).2, hO.moved hW.alike⟩
theorem Cn.mk {U : Type} {l : Launch} {D : va_G} {cA : Nat → ClassId} {tt : Nat → Nat} {y : MethodName} {wds wds' : List Cond} {rm : Room} {av : List Value} {sz : Nat} {ws : va_W} {ws' : U → va_W} {mc ms : Nat} {cc : ByteArray} {maxL : Nat}
    (hy : plainName y.cls = true) (hi : y.name = "<init>") (hw : wds = Cond.code y cc maxL none :: wds') (hlen : (lg_sl av).length ≤ maxL)
    (body : ∀ (p : Program) (e : Env) (s : State) (m : MethodId) (below : List Frame) (meth : Method) (c : Code) (A : Nat → Prop) (Q : State → Prop) (ls : Array Slot), BD p l rm cc maxL y wds D cA tt ws A s m av.toArray c → AO2 s → meth.name = "<init>" → lv_has ls maxL (lv_args 0 av) →
      (∀ (H : Heap) (locs : List Loc) (ls' : Array Slot) (pc : Nat) (u : U), va_P D vwCl (ws' u) H → va_D A (ws' u) → va_S A s.heap H locs → decode cc pc = .ok (.return_, 1) → W p l e rm s m av.toArray below meth c H locs mc ms Q (F0 m pc ls' [])) →
      W p l e rm s m av.toArray below meth c s.heap [] 0 0 Q (F0 m 0 ls [])) : Cn l D cA tt y wds rm av sz ws ws' mc ms := by
  refine Met.ofW (cc := cc) (maxL := maxL) (ret := none) hy hw ?_
  intro p e s m args below meth c s₁ B hml hv
  obtain ⟨hv0, hv1, hO⟩ := hv
  obtain ⟨rfl, hsz, hB⟩ := BD.of B hml ⟨hv0, hv1⟩
  obtain ⟨ls, els, hl⟩ := entry_ls m av maxL hlen
  rw [els]
  have hlocks := B.notSynchronized
  have hin : meth.name = "<init>" := (name_of_methodNamed B.named B.method).1.trans hi
  refine body p e s m below meth c (va_A ws sz) _ ls hB hO hin hl (fun H locs ls' pc u hP hD hS hd => ?_)
  exact W.vret B.exec B.bytes B.returns (fun t ht hW => ⟨⟨u, rfl, trivial, by rw [ht]; exact hP, va_K.moved hW.alike hB.2.2.1, hD⟩, hS.F ht⟩) hS.2.2 hd
section NEWS
variable {p : Program} {l : Launch} {e : Env} {R : Room} {s : State} {m : MethodId} {args : Array Value} {below : List Frame} {meth : Method} {c : Code} {H : Heap} {locs : List Loc} {cells slots : Nat} {Q : State → Prop}
variable {cc : ByteArray} {pc nL n index maxL mc ms : Nat} {ls : Array Slot} {rest st0 As : List Value} {D : va_G} {cA : Nat → ClassId} {tt : Nat → Nat} {A : Nat → Prop} {b : Nat} {X pl wc wr ws : va_W} {U : Type} {w1 wn : U → va_W} {isC isR isN : List Nat} {y : MethodName} {bytes : ByteArray} {ret : Option FieldType} {wds wds' Ts : List Cond} {rm : Room} {own : String} {H0 : Heap}
theorem r_newI (hx : p.tables.exec = Jvm.exec) (hb : c.code = cc) (harr : (Cond.arrayClass .int).before args s = true) (hK : va_K D vwCl (TY cA) s) (hP : va_P D vwCl ws H) (hD : va_D A ws) (hS : va_S A H0 H locs) (hA : ∀ q, H0.size ≤ q → A q) {N : Nat} (hn : N < 100000) (hcells : cells + 1 ≤ R.cells) (hslots : slots + N ≤ R.slots) (hdg : decode cc pc = .ok (.newarray .int, 2))
    (kk : ∀ (q : Nat) (H1 : Heap), va_P D vwCl (ws ++ [(q, .inl (cA 0, N, arN (fun _ => 0)))]) H1 → va_D A (ws ++ [(q, .inl (cA 0, N, arN (fun _ => 0)))]) → va_S A H0 H1 locs → W p l e R s m args below meth c H1 locs (cells + 1) (slots + N) Q (F0 m (pc + 2) ls (.ref q :: rest))) : W p l e R s m args below meth c H locs cells slots Q (F0 m pc ls (.int (nI N) :: rest)) := by
  refine va_newa (atype := .int) (ty := .int) (a0 := (N, arN (fun _ => 0))) (N' := N) hx hb harr rfl hK hP hD hS hA (fun cA => rfl) (nI_pos (by omega)) (nI_clamp (by omega)) (by show N * 4 ≤ _; omega) hcells hslots hdg (fun q c1 H1 hK1 hP1 hD1 hS1 => ?_)
  have e0 : s.vm.findClass ("[" ++ FieldType.int.toString) = some (cA 0) := (hK.2 0 _ rfl).2
  have e1 : s.vm.findClass ("[" ++ FieldType.int.toString) = some c1 := (hK1.2 3 _ rfl).2
  have e2 : c1 = cA 0 := Option.some.inj (e1.symm.trans e0)
  subst e2
  exact kk q H1 hP1 hD1 hS1
theorem r_newQ (hx : p.tables.exec = Jvm.exec) (hb : c.code = cc) (hown : s.vm.findClass own = some m.cls) (hcl : (Cond.classLink own index RX4).before args s = true) (hO : AO2 s) (hK : va_K D vwCl (TY cA) s) (hP : va_P D vwCl ws H) (hD : va_D A ws) (hS : va_S A H0 H locs) (hA : ∀ q, H0.size ≤ q → A q) {N : Nat} (hn : N < 100000) (hcells : cells + 1 ≤ R.cells) (hslots : slots + N ≤ R.slots) (hdg : decode cc pc = .ok (.anewarray index, 3))
    (kk : ∀ (q : Nat) (H1 : Heap), va_P D vwCl (ws ++ [(q, .inl (cA 1, N, .inr (.inr (.inr (.inr (fun _ => none))))))]) H1 → va_D A (ws ++ [(q, .inl (cA 1, N, .inr (.inr (.inr (.inr (fun _ => none))))))]) → va_S A H0 H1 locs → W p l e R s m args below meth c H1 locs (cells + 1) (slots + N) Q (F0 m (pc + 3) ls (.ref q :: rest))) : W p l e R s m args below meth c H locs cells slots Q (F0 m pc ls (.int (nI N) :: rest)) := by
  refine va_newq hx hb hown hcl hO.1 hK hP hD hS hA (N' := N) (nI_pos (by omega)) (nI_clamp (by omega)) (by omega) hcells hslots hdg (fun q c1 H1 hK1 hP1 hD1 hS1 => ?_)
  obtain ⟨-, -, -, -, -, e0⟩ := (hK.2 1 _ rfl).2
  obtain ⟨-, -, -, -, -, e1⟩ := (hK1.2 3 _ rfl).2
  have e2 : c1 = cA 1 := Option.some.inj (e1.symm.trans e0)
  subst e2
  exact kk q H1 hP1 hD1 hS1
/-- a constructor's call, linked by its class; by a nest mate -/
theorem cIv (u0 : U) (S : CallFix p m c cc nL s args Ts own) (hM : Cn l D cA tt y wds rm (.ref b :: As) H.size wc w1 mc ms) (hG : GoodIn Ts wds) (hw : wds = Cond.code y bytes maxL none :: wds') (hr0 : rm.cells = mc ∧ rm.slots = ms) (hini : (Cond.initialized y.cls).before args s = true) (hlk : (Cond.methodLink own index y).before args s = true) (hinm : (Cond.instanceMethod y).before args s = true) (hyn : y.name = "<init>") (hd : y.cls ≠ "java/lang/invoke/MethodHandle" ∧ y.cls ≠ "java/lang/invoke/VarHandle" ∧ (parseMethodDescriptor y.desc).map (fun d => d.parameters.length) = some n) (hR : rm.frames + 1 ≤ R.frames ∧ 8 + (maxL + 11) + rm.locals ≤ R.locals) (hcs : cells + mc ≤ R.cells ∧ slots + ms ≤ R.slots)
    (hK : va_K D vwCl (TY cA) s) (hE : EX tt A s) (hO : AO2 s) (hA : ∀ q, s.heap.size ≤ q → A q) (hP : va_P D vwCl (X ++ pl) H) (hD : va_D A (X ++ pl)) (hS : va_S A s.heap H locs) (hc : ∀ u, CUT X wc wr (w1 u) (wn u) isC isR isN)
    (hn : As.length = n) (hl : ls.size = nL) (hst : st0 = As.reverse ++ .ref b :: rest) (hW : (rest.map fun v => v.category).sum ≤ 8) (hdg : decode cc pc = .ok (.invokespecial index, 3))
    (kk : ∀ (u : U) (H1 : Heap) (locs1 : List Loc), va_P D vwCl (wn u ++ pl) H1 → va_D A (wn u ++ pl) → va_S A s.heap H1 locs1 → W p l e R s m args below meth c H1 locs1 (cells + mc) (slots + ms) Q (F0 m (pc + 3) ls rest)) : W p l e R s m args below meth c H locs cells slots Q (F0 m pc ls st0) := by
  have hF := (hc u0).F hD hS hA
  refine va_callv (va_runI S hM (cwI n S.2.2.2.2 hG hw hr0.1 hr0.2 hini hlk hinm hyn hd hR) ⟨PN.blind, PN.at (hc u0) hK hP hD hS hA hE hO⟩ rfl hn hl hst (lv_room hW) hdg hcs) hS (fun q _ h => hF q h) hF (fun u t H1 locs1 ht hvm hw9 hB hz1 hk1 hS1 => ?_)
  obtain ⟨a1, -, a3⟩ := hB
  rw [ht] at a1
  obtain ⟨b1, b2⟩ := (hc u).J hP hD hF hk1 a1 a3
  exact kk u H1 locs1 b1 b2 hS1
theorem cJv (u0 : U) (S : CallFix p m c cc nL s args Ts own) (hM : Cn l D cA tt y wds rm (.ref b :: As) H.size wc w1 mc ms) (hG : GoodIn Ts wds) (hw : wds = Cond.code y bytes maxL none :: wds') (hr0 : rm.cells = mc ∧ rm.slots = ms) (hini : (Cond.initialized y.cls).before args s = true) (hlk : va_Nw (.methodLinkNest own index y "AdventStreets") s) (hinm : (Cond.instanceMethod y).before args s = true) (hyn : y.name = "<init>") (hd : y.cls ≠ "java/lang/invoke/MethodHandle" ∧ y.cls ≠ "java/lang/invoke/VarHandle" ∧ (parseMethodDescriptor y.desc).map (fun d => d.parameters.length) = some n) (hR : rm.frames + 1 ≤ R.frames ∧ 8 + (maxL + 11) + rm.locals ≤ R.locals) (hcs : cells + mc ≤ R.cells ∧ slots + ms ≤ R.slots)
    (hK : va_K D vwCl (TY cA) s) (hE : EX tt A s) (hO : AO2 s) (hA : ∀ q, s.heap.size ≤ q → A q) (hP : va_P D vwCl (X ++ pl) H) (hD : va_D A (X ++ pl)) (hS : va_S A s.heap H locs) (hc : ∀ u, CUT X wc wr (w1 u) (wn u) isC isR isN)
    (hn : As.length = n) (hl : ls.size = nL) (hst : st0 = As.reverse ++ .ref b :: rest) (hW : (rest.map fun v => v.category).sum ≤ 8) (hdg : decode cc pc = .ok (.invokespecial index, 3))
    (kk : ∀ (u : U) (H1 : Heap) (locs1 : List Loc), va_P D vwCl (wn u ++ pl) H1 → va_D A (wn u ++ pl) → va_S A s.heap H1 locs1 → W p l e R s m args below meth c H1 locs1 (cells + mc) (slots + ms) Q (F0 m (pc + 3) ls rest)) : W p l e R s m args below meth c H locs cells slots Q (F0 m pc ls st0) := by
  have hF := (hc u0).F hD hS hA
  refine va_callv (va_runIN S hM ⟨va_cnB n S.2.2.2.2 hG hw hr0.1 hr0.2 hlk hini hd hR, hyn, hinm⟩ ⟨PN.blind, PN.at (hc u0) hK hP hD hS hA hE hO⟩ rfl hn hl hst (lv_room hW) hdg hcs) hS (fun q _ h => hF q h) hF (fun u t H1 locs1 ht hvm hw9 hB hz1 hk1 hS1 => ?_)
  obtain ⟨a1, -, a3⟩ := hB
  rw [ht] at a1
  obtain ⟨b1, b2⟩ := (hc u).J hP hD hF hk1 a1 a3
  exact kk u H1 locs1 b1 b2 hS1
end NEWS
