/-! ===== words of this claim: the state of a street, what every contract carries, one row for a whole call ===== -/
/-- a street: windows, eve, sight, time, opened; kinds, pictures, days, glues, seen -/
abbrev Sg : Type := Nat × Nat × Nat × Nat × Nat × (Nat → Nat) × (Nat → Nat) × (Nat → Nat) × (Nat → Nat) × (Nat → Nat)
abbrev Sn (x : Sg) : Nat := x.1
abbrev Se (x : Sg) : Nat := x.2.1
abbrev Sv (x : Sg) : Nat := x.2.2.1
abbrev St (x : Sg) : Nat := x.2.2.2.1
abbrev So (x : Sg) : Nat := x.2.2.2.2.1
abbrev SK (x : Sg) : Nat → Nat := x.2.2.2.2.2.1
abbrev SP (x : Sg) : Nat → Nat := x.2.2.2.2.2.2.1
abbrev SD (x : Sg) : Nat → Nat := x.2.2.2.2.2.2.2.1
abbrev SG (x : Sg) : Nat → Nat := x.2.2.2.2.2.2.2.2.1
abbrev SS (x : Sg) : Nat → Nat := x.2.2.2.2.2.2.2.2.2
/-- an array of ints that are naturals -/
abbrev arN (f : Nat → Nat) : (Nat → Int32) ⊕ (Nat → Int64) ⊕ (Nat → UInt32) ⊕ (Nat → UInt64) ⊕ (Nat → Option Nat) := .inl (fun j => nI (f j))
abbrev stW (cA : Nat → ClassId) (a : Nat → Nat) (x : Sg) : va_W := [(a 0, .inr (4, [.ref (a 1), .ref (a 2), .ref (a 3), .ref (a 4), .ref (a 5), .int (nI (Sn x)), .int (nI (Se x)), .int (nI (Sv x)), .int (nI (St x)), .int (nI (So x))])), (a 1, .inl (cA 0, 10, arN (SK x))), (a 2, .inl (cA 0, 10, arN (SD x))), (a 3, .inl (cA 0, 10, arN (SP x))), (a 4, .inl (cA 0, 10, arN (SG x))), (a 5, .inl (cA 0, 10, arN (SS x)))]
def upN (f : Nat → Nat) (k x : Nat) : Nat → Nat := fun j => if j = k then x else f j
theorem upN_s {f : Nat → Nat} {k x : Nat} : upN f k x k = x := if_pos rfl
theorem upN_n {f : Nat → Nat} {k x j : Nat} (h : j ≠ k) : upN f k x j = f j := if_neg h
theorem up_nI {f : Nat → Nat} {k x : Nat} {i : Int32} (hi : i.toNatClampNeg = k) : upd (fun j => nI (f j)) i.toNatClampNeg (nI x) = fun j => nI (upN f k x j) := by
  funext j
  rw [hi]
  by_cases h : j = k
  · subst h; rw [pk_us, upN_s]
  · rw [pk_un h, upN_n h]
/-- the class ids of the arrays -/
abbrev TY (cA : Nat → ClassId) : List (ClassId × FieldType) := [(cA 0, .int), (cA 1, .object "AdventStreets$Street"), (cA 2, .array .int)]
def nwF : List (String × Nat × String × String × String) := [("AdventStreets", 85, "AdventStreets$Rows", "lanes", "[I"), ("AdventStreets", 99, "AdventStreets$Rows", "lengths", "[I"), ("AdventStreets", 89, "AdventStreets$Rows", "items", "[[I"), ("AdventStreets", 130, "AdventStreets$Reader", "at", "I"), ("AdventStreets", 123, "AdventStreets$Reader", "fault", "I"), ("AdventStreets", 113, "AdventStreets$Tape", "reader", "LAdventStreets$Reader;"), ("AdventStreets$Reader", 22, "AdventStreets$Tape", "length", "I"), ("AdventStreets", 105, "AdventStreets$Tape", "length", "I"), ("AdventStreets$Foretold", 94, "AdventStreets$Street", "kinds", "[I"), ("AdventStreets", 280, "AdventStreets$Street", "kinds", "[I"), ("AdventStreets$Foretold", 97, "AdventStreets$Street", "days", "[I"), ("AdventStreets", 182, "AdventStreets$Street", "days", "[I"), ("AdventStreets", 166, "AdventStreets$Street", "pictures", "[I"), ("AdventStreets$Foretold", 100, "AdventStreets$Street", "glues", "[I"), ("AdventStreets", 169, "AdventStreets$Street", "glues", "[I"), ("AdventStreets$Foretold", 29, "AdventStreets$Street", "seen", "[I"), ("AdventStreets", 195, "AdventStreets$Street", "seen", "[I"), ("AdventStreets$Reader", 44, "AdventStreets$Street", "windows", "I"), ("AdventStreets", 140, "AdventStreets$Street", "windows", "I"), ("AdventStreets$Foretold", 75, "AdventStreets$Street", "windows", "I"), ("AdventStreets$Foretold", 103, "AdventStreets$Street", "eve", "I"), ("AdventStreets", 300, "AdventStreets$Street", "eve", "I"), ("AdventStreets", 185, "AdventStreets$Street", "sight", "I"), ("AdventStreets", 148, "AdventStreets$Street", "time", "I"), ("AdventStreets", 157, "AdventStreets$Street", "opened", "I"), ("AdventStreets$Foretold", 116, "AdventStreets$Street", "opened", "I"), ("AdventStreets", 110, "AdventStreets$Foretold", "trial", "LAdventStreets$Street;"), ("AdventStreets", 192, "AdventStreets$Acts", "kept", "I"), ("AdventStreets", 294, "AdventStreets$Trace", "bodies", "[I"), ("AdventStreets", 286, "AdventStreets$Trace", "length", "I"), ("AdventStreets", 236, "AdventStreets$Foretold", "mostSeen", "I")]
def nwM : List (String × Nat × MethodName) := [("AdventStreets", 18, ⟨"AdventStreets$Tape", "<init>", "()V"⟩), ("AdventStreets$Tape", 17, ⟨"AdventStreets$Reader", "<init>", "()V"⟩), ("AdventStreets", 25, ⟨"AdventStreets$Street", "<init>", "()V"⟩), ("AdventStreets", 32, ⟨"AdventStreets$Foretold", "<init>", "()V"⟩), ("AdventStreets$Foretold", 11, ⟨"AdventStreets$Street", "<init>", "()V"⟩), ("AdventStreets$Acts", 17, ⟨"AdventStreets$Street", "<init>", "()V"⟩), ("AdventStreets", 50, ⟨"AdventStreets$Trace", "<init>", "()V"⟩), ("AdventStreets$Reader", 66, ⟨"AdventStreets", "isWithin", "(III)Z"⟩), ("AdventStreets$Foretold", 109, ⟨"AdventStreets", "power", "(II)J"⟩)]
/-- the words on nest mates, that no caller hands on by itself -/
def NW (U : State) : Prop := (∀ q ∈ nwF, va_Nw (.fieldLinkNest q.1 q.2.1 q.2.2.1 q.2.2.2.1 q.2.2.2.2 "AdventStreets") U) ∧ ∀ q ∈ nwM, va_Nw (.methodLinkNest q.1 q.2.1 q.2.2 "AdventStreets") U
theorem NW.same {u U : State} (h : u.vm = U.vm) (hZ : NW u) : NW U := ⟨fun q hq => va_Nw.same rfl h (hZ.1 q hq), fun q hq => va_Nw.same rfl h (hZ.2 q hq)⟩
theorem NW.warm {s U : State} (hW : s.WarmedH U.vm) (hZ : NW s) : NW U := ⟨fun q hq => va_Nw.warmF hW (hZ.1 q hq), fun q hq => va_Nw.warmM hW (hZ.2 q hq)⟩
theorem NW.f {A : Array Value} {U : State} (hZ : NW U) (k : Nat) {q : String × Nat × String × String × String} (h : nwF[k]? = some q) : (Cond.fieldLinkNest q.1 q.2.1 q.2.2.1 q.2.2.2.1 q.2.2.2.2 "AdventStreets").before A U = true := va_Nw.use rfl (hZ.1 q (List.mem_of_getElem? h))
theorem NW.m {U : State} (hZ : NW U) (k : Nat) {q : String × Nat × MethodName} (h : nwM[k]? = some q) : va_Nw (.methodLinkNest q.1 q.2.1 q.2.2 "AdventStreets") U := hZ.2 q (List.mem_of_getElem? h)
/-- the three tables that nobody writes -/
def pr0 (j : Nat) : Nat := [0, 0, 1, 1, 0, 4].getD j 0
def pr1 (j : Nat) : Nat := [10, 11, 12, 11, 13, 14].getD j 0
def pr2 (j : Nat) : Nat := [20, 21, 24, 22, 23, 23].getD j 0
def tb0 : Nat → Int32 := fun j => nI (pr0 j)
def tb1 : Nat → Int32 := fun j => nI (pr1 j)
def tb2 : Nat → Int32 := fun j => nI (pr2 j)
def T1 (n : String) (f : Nat → Int32) (t : Nat) (A : Nat → Prop) (U : State) (H : Heap) : Prop := va_Z "AdventStreets" n "[I" (.ref t) A U H ∧ va_T .int t 6 (fun j => .int (f j)) A U H
def TB (tt : Nat → Nat) (A : Nat → Prop) (U : State) (H : Heap) : Prop := T1 "IS_TOO" tb0 (tt 0) A U H ∧ T1 "SIZE_BODIES" tb1 (tt 1) A U H ∧ T1 "MARK_BODIES" tb2 (tt 2) A U H
theorem T1.moved {n : String} {f : Nat → Int32} {t : Nat} {A : Nat → Prop} {u U : State} {H : Heap} (hvm : u.vm.Alike U.vm) (h : T1 n f t A u H) : T1 n f t A U H := ⟨h.1.moved hvm, h.2.moved hvm⟩
theorem T1.kept {n : String} {f : Nat → Int32} {t : Nat} {A : Nat → Prop} {U : State} {H H1 : Heap} (h : T1 n f t A U H) (hq : ∀ a : Nat, a < H.size → ¬ A a → H1[a]? = H[a]?) : T1 n f t A U H1 := ⟨h.1.kept hq, h.2.kept hq⟩
theorem T1.narrow {n : String} {f : Nat → Int32} {t : Nat} {A B : Nat → Prop} {U : State} {H : Heap} (h : T1 n f t A U H) (hAB : ∀ q, B q → A q) : T1 n f t B U H := ⟨h.1.narrow hAB, h.2.narrow hAB⟩
def EX (tt : Nat → Nat) (A : Nat → Prop) (U : State) : Prop := NW U ∧ TB tt A U U.heap
theorem EX.same {tt : Nat → Nat} {A : Nat → Prop} {u U : State} (h : u.vm = U.vm) (hh : u.heap = U.heap) (hE : EX tt A u) : EX tt A U := by
  have hvm : u.vm.Alike U.vm := by rw [h]; exact Vm.Alike.refl _
  refine ⟨hE.1.same h, ?_⟩
  rw [← hh]
  exact ⟨hE.2.1.moved hvm, hE.2.2.1.moved hvm, hE.2.2.2.moved hvm⟩
theorem EX.call {tt : Nat → Nat} {A B : Nat → Prop} {s U : State} {H : Heap} {locs : List Loc} (hE : EX tt A s) (hS : va_S A s.heap H locs) (hB : ∀ q, B q → A q) (hU : U.heap = H) (hW : s.WarmedH U.vm) : EX tt B U := by
  refine ⟨hE.1.warm hW, ?_⟩
  rw [hU]
  have k : ∀ a : Nat, a < s.heap.size → ¬ A a → H[a]? = s.heap[a]? := hS.2.1
  exact ⟨((hE.2.1.kept k).narrow hB).moved hW.alike, ((hE.2.2.1.kept k).narrow hB).moved hW.alike, ((hE.2.2.2.kept k).narrow hB).moved hW.alike⟩
/-- a method's start: the world ws, of a heap of sz cells -/
def PR (D : va_G) (cA : Nat → ClassId) (tt : Nat → Nat) (ws : va_W) (sz : Nat) : State → Prop := fun U => U.heap.size = sz ∧ va_P D vwCl ws U.heap ∧ va_K D vwCl (TY cA) U ∧ va_D (fun _ => True) ws ∧ EX tt (va_A ws sz) U
def AT (D : va_G) (cA : Nat → ClassId) (A : Nat → Prop) (ws : va_W) : State → Prop := fun t => va_P D vwCl ws t.heap ∧ va_K D vwCl (TY cA) t ∧ va_D A ws
/-- contracts: of an int (a boolean), a long, nothing, a reference that is known; the world ws becomes ws' -/
def Ci (l : Launch) (D : va_G) (cA : Nat → ClassId) (tt : Nat → Nat) (y : MethodName) (wds : List Cond) (rm : Room) (av : List Value) (sz : Nat) (ws ws' : va_W) (r : Int32) : Prop := Met l y wds rm (va_Pc av (PR D cA tt ws sz)) (va_Qi (fun (x : Int32) (_ : Unit) => x = r) (fun _ => AT D cA (va_A ws sz) ws') (va_A ws sz)) 0 0 (va_A ws sz)
def Cl (l : Launch) (D : va_G) (cA : Nat → ClassId) (tt : Nat → Nat) (y : MethodName) (wds : List Cond) (rm : Room) (av : List Value) (sz : Nat) (ws ws' : va_W) (r : Int64) : Prop := Met l y wds rm (va_Pc av (PR D cA tt ws sz)) (va_Ql (fun (x : Int64) (_ : Unit) => x = r) (fun _ => AT D cA (va_A ws sz) ws') (va_A ws sz)) 0 0 (va_A ws sz)
def Cv (l : Launch) (D : va_G) (cA : Nat → ClassId) (tt : Nat → Nat) (y : MethodName) (wds : List Cond) (rm : Room) (av : List Value) (sz : Nat) (ws ws' : va_W) : Prop := Met l y wds rm (va_Pc av (PR D cA tt ws sz)) (va_Qv (fun (_ : Unit) => True) (fun _ => AT D cA (va_A ws sz) ws') (va_A ws sz)) 0 0 (va_A ws sz)
def Cr (l : Launch) (D : va_G) (cA : Nat → ClassId) (tt : Nat → Nat) (y : MethodName) (wds : List Cond) (rm : Room) (av : List Value) (sz : Nat) (ws ws' : va_W) (r : Nat) : Prop := Met l y wds rm (va_Pc av (PR D cA tt ws sz)) (va_Qr (fun (_ : Unit) => True) (fun _ a t => a = r ∧ AT D cA (va_A ws sz) ws' t) (va_A ws sz)) 0 0 (va_A ws sz)
/-- what a method's body may use -/
def BD (p : Program) (l : Launch) (rm : Room) (cc : ByteArray) (maxL : Nat) (y : MethodName) (wds : List Cond) (D : va_G) (cA : Nat → ClassId) (tt : Nat → Nat) (ws : va_W) (A : Nat → Prop) (s : State) (m : MethodId) (av : Array Value) (c : Code) : Prop :=
  (p.tables.exec = Jvm.exec ∧ c.code = cc ∧ c.maxLocals = maxL ∧ s.vm.findClass y.cls = some m.cls ∧ ∀ w ∈ wds, w.before av s = true) ∧ va_P D vwCl ws s.heap ∧ va_K D vwCl (TY cA) s ∧ va_D A ws ∧ va_S A s.heap s.heap [] ∧ (∀ q, s.heap.size ≤ q → A q) ∧ EX tt A s
theorem BD.of {p : Program} {l : Launch} {e : Env} {s s₁ : State} {m : MethodId} {args : Array Value} {below : List Frame} {meth : Method} {c : Code} {y : MethodName} {wds : List Cond} {rm : Room} {cc : ByteArray} {maxL : Nat} {ret : Option FieldType} {D : va_G} {cA : Nat → ClassId} {tt : Nat → Nat} {ws : va_W} {av : List Value} {sz : Nat}
    (B : BodyLoose p l y (headSpec wds rm) cc maxL ret e s m args below meth c s₁) (hml : c.maxLocals = maxL) (hv : va_Pc av (PR D cA tt ws sz) args s) : args = av.toArray ∧ s.heap.size = sz ∧ BD p l rm cc maxL y wds D cA tt ws (va_A ws sz) s m args c := by
  obtain ⟨rfl, hsz, hP, hK, hD, hE⟩ := hv
  refine ⟨rfl, hsz, ⟨B.exec, B.bytes, hml, findClass_of_methodNamed B.named, atoms_spec (ws := wds) B.pre⟩, hP, hK, hD.self, va_S.rf, fun q h => Or.inr (by rw [← hsz]; exact h), hE⟩
theorem entry_ls (m : MethodId) (av : List Value) (maxL : Nat) (h : (lg_sl av).length ≤ maxL) : ∃ ls : Array Slot, entryFrame m av.toArray maxL = F0 m 0 ls [] ∧ lv_has ls maxL (lv_args 0 av) := ⟨_, lg_entry_eq .., lv_entry av h⟩
theorem Ci.mk {l : Launch} {D : va_G} {cA : Nat → ClassId} {tt : Nat → Nat} {y : MethodName} {wds wds' : List Cond} {rm : Room} {av : List Value} {sz : Nat} {ws ws' : va_W} {r : Int32} {cc : ByteArray} {maxL : Nat} {ty : FieldType}
    (hy : plainName y.cls = true) (hw : wds = Cond.code y cc maxL (some ty) :: wds') (hn : narrow ty (.int r) = .int r) (hlen : (lg_sl av).length ≤ maxL)
    (body : ∀ (p : Program) (e : Env) (s : State) (m : MethodId) (below : List Frame) (meth : Method) (c : Code) (A : Nat → Prop) (Q : State → Prop) (ls : Array Slot), BD p l rm cc maxL y wds D cA tt ws A s m av.toArray c → lv_has ls maxL (lv_args 0 av) →
      (∀ (H : Heap) (locs : List Loc) (ls' : Array Slot) (pc : Nat) (v : Int32), va_P D vwCl ws' H → va_D A ws' → va_S A s.heap H locs → v = r → decode cc pc = .ok (.ireturn, 1) → W p l e rm s m av.toArray below meth c H locs 0 0 Q (F0 m pc ls' [.int v])) →
      W p l e rm s m av.toArray below meth c s.heap [] 0 0 Q (F0 m 0 ls [])) : Ci l D cA tt y wds rm av sz ws ws' r := by
  refine Met.ofW (cc := cc) (maxL := maxL) (ret := some ty) hy hw ?_
  intro p e s m args below meth c s₁ B hml hv
  obtain ⟨rfl, hsz, hB⟩ := BD.of B hml hv
  obtain ⟨ls, els, hl⟩ := entry_ls m av maxL hlen
  rw [els]
  have hlocks := B.notSynchronized
  refine body p e s m below meth c (va_A ws sz) _ ls hB hl (fun H locs ls' pc v hP hD hS hv hd => ?_)
  subst hv
  refine W.zret (v := v) (ty := ty) B.exec B.bytes B.returns hn (fun t ht hW => ⟨⟨v, (), rfl, rfl, by rw [ht]; exact hP, va_K.moved hW.alike hB.2.2.1, hD⟩, hS.F ht⟩) hS.2.2 hd
theorem Cv.mk {l : Launch} {D : va_G} {cA : Nat → ClassId} {tt : Nat → Nat} {y : MethodName} {wds wds' : List Cond} {rm : Room} {av : List Value} {sz : Nat} {ws ws' : va_W} {cc : ByteArray} {maxL : Nat}
    (hy : plainName y.cls = true) (hw : wds = Cond.code y cc maxL none :: wds') (hlen : (lg_sl av).length ≤ maxL)
    (body : ∀ (p : Program) (e : Env) (s : State) (m : MethodId) (below : List Frame) (meth : Method) (c : Code) (A : Nat → Prop) (Q : State → Prop) (ls : Array Slot), BD p l rm cc maxL y wds D cA tt ws A s m av.toArray c → lv_has ls maxL (lv_args 0 av) →
      (∀ (H : Heap) (locs : List Loc) (ls' : Array Slot) (pc : Nat), va_P D vwCl ws' H → va_D A ws' → va_S A s.heap H locs → decode cc pc = .ok (.return_, 1) → W p l e rm s m av.toArray below meth c H locs 0 0 Q (F0 m pc ls' [])) →
      W p l e rm s m av.toArray below meth c s.heap [] 0 0 Q (F0 m 0 ls [])) : Cv l D cA tt y wds rm av sz ws ws' := by
  refine Met.ofW (cc := cc) (maxL := maxL) (ret := none) hy hw ?_
  intro p e s m args below meth c s₁ B hml hv
  obtain ⟨rfl, hsz, hB⟩ := BD.of B hml hv
  obtain ⟨ls, els, hl⟩ := entry_ls m av maxL hlen
  rw [els]
  have hlocks := B.notSynchronized
  refine body p e s m below meth c (va_A ws sz) _ ls hB hl (fun H locs ls' pc hP hD hS hd => ?_)
  exact W.vret B.exec B.bytes B.returns (fun t ht hW => ⟨⟨(), rfl, trivial, by rw [ht]; exact hP, va_K.moved hW.alike hB.2.2.1, hD⟩, hS.F ht⟩) hS.2.2 hd
theorem Cl.mk {l : Launch} {D : va_G} {cA : Nat → ClassId} {tt : Nat → Nat} {y : MethodName} {wds wds' : List Cond} {rm : Room} {av : List Value} {sz : Nat} {ws ws' : va_W} {r : Int64} {cc : ByteArray} {maxL : Nat}
    (hy : plainName y.cls = true) (hw : wds = Cond.code y cc maxL (some .long) :: wds') (hlen : (lg_sl av).length ≤ maxL)
    (body : ∀ (p : Program) (e : Env) (s : State) (m : MethodId) (below : List Frame) (meth : Method) (c : Code) (A : Nat → Prop) (Q : State → Prop) (ls : Array Slot), BD p l rm cc maxL y wds D cA tt ws A s m av.toArray c → lv_has ls maxL (lv_args 0 av) →
      (∀ (H : Heap) (locs : List Loc) (ls' : Array Slot) (pc : Nat) (v : Int64), va_P D vwCl ws' H → va_D A ws' → va_S A s.heap H locs → v = r → decode cc pc = .ok (.lreturn, 1) → W p l e rm s m av.toArray below meth c H locs 0 0 Q (F0 m pc ls' [.long v])) →
      W p l e rm s m av.toArray below meth c s.heap [] 0 0 Q (F0 m 0 ls [])) : Cl l D cA tt y wds rm av sz ws ws' r := by
  refine Met.ofW (cc := cc) (maxL := maxL) (ret := some .long) hy hw ?_
  intro p e s m args below meth c s₁ B hml hv
  obtain ⟨rfl, hsz, hB⟩ := BD.of B hml hv
  obtain ⟨ls, els, hl⟩ := entry_ls m av maxL hlen
  rw [els]
  have hlocks := B.notSynchronized
  refine body p e s m below meth c (va_A ws sz) _ ls hB hl (fun H locs ls' pc v hP hD hS hv hd => ?_)
  subst hv
  exact W.lret (v := v) B.exec B.bytes B.returns (fun t ht hW => ⟨⟨v, (), rfl, rfl, by rw [ht]; exact hP, va_K.moved hW.alike hB.2.2.1, hD⟩, hS.F ht⟩) hS.2.2 hd
theorem Cr.mk {l : Launch} {D : va_G} {cA : Nat → ClassId} {tt : Nat → Nat} {y : MethodName} {wds wds' : List Cond} {rm : Room} {av : List Value} {sz : Nat} {ws ws' : va_W} {r : Nat} {cc : ByteArray} {maxL : Nat} {rn : String}
    (hy : plainName y.cls = true) (hw : wds = Cond.code y cc maxL (some (.object rn)) :: wds') (hlen : (lg_sl av).length ≤ maxL)
    (body : ∀ (p : Program) (e : Env) (s : State) (m : MethodId) (below : List Frame) (meth : Method) (c : Code) (A : Nat → Prop) (Q : State → Prop) (ls : Array Slot), BD p l rm cc maxL y wds D cA tt ws A s m av.toArray c → lv_has ls maxL (lv_args 0 av) →
      (∀ (H : Heap) (locs : List Loc) (ls' : Array Slot) (pc : Nat), va_P D vwCl ws' H → va_D A ws' → va_S A s.heap H locs → decode cc pc = .ok (.areturn, 1) → W p l e rm s m av.toArray below meth c H locs 0 0 Q (F0 m pc ls' [.ref r])) →
      W p l e rm s m av.toArray below meth c s.heap [] 0 0 Q (F0 m 0 ls [])) : Cr l D cA tt y wds rm av sz ws ws' r := by
  refine Met.ofW (cc := cc) (maxL := maxL) (ret := some (.object rn)) hy hw ?_
  intro p e s m args below meth c s₁ B hml hv
  obtain ⟨rfl, hsz, hB⟩ := BD.of B hml hv
  obtain ⟨ls, els, hl⟩ := entry_ls m av maxL hlen
  rw [els]
  have hlocks := B.notSynchronized
  refine body p e s m below meth c (va_A ws sz) _ ls hB hl (fun H locs ls' pc hP hD hS hd => ?_)
  exact W.aret (v := .ref r) B.exec B.bytes B.returns (Or.inl ⟨_, rfl⟩) (Or.inr ⟨_, rfl⟩) (fun t ht hW => ⟨⟨(), r, rfl, trivial, rfl, by rw [ht]; exact hP, va_K.moved hW.alike hB.2.2.1, hD⟩, hS.F ht⟩) hS.2.2 hd
/-! the cut before a call and the joining behind it; isC: the callee's cells, isR: the others, isN: the order wanted behind it -/
def CUT (X wc wr w1 wn : va_W) (isC isR isN : List Nat) : Prop := (isC.map (fun i => X[i]?) = wc.map some ∧ va_nd isC = true) ∧ (isR.map (fun i => X[i]?) = wr.map some ∧ va_nd isR = true ∧ ∀ i ∈ isR, i ∉ isC) ∧ isN.map (fun i => (wr ++ w1)[i]?) = wn.map some ∧ va_nd isN = true
theorem CUT.P {D : va_G} {X pl wc wr w1 wn : va_W} {isC isR isN : List Nat} {H : Heap} (hc : CUT X wc wr w1 wn isC isR isN) (hP : va_P D vwCl (X ++ pl) H) : va_P D vwCl wc H := by
  intro k q hk
  obtain ⟨i, -, h⟩ := va_in_of isC hc.1.1 hk
  exact hP i q (by rw [List.getElem?_append_left (List.getElem?_eq_some_iff.mp h).1]; exact h)
theorem CUT.D {A : Nat → Prop} {X pl wc wr w1 wn : va_W} {isC isR isN : List Nat} (hc : CUT X wc wr w1 wn isC isR isN) (hD : va_D A (X ++ pl)) : va_D (fun _ => True) wc := by
  have h0 : va_D A (wc ++ pl) := hD.part isC hc.1.2 hc.1.1
  refine va_D.weaken (h0.by id (fun k q hq => ?_) (fun i j _ _ e => e)) (fun _ _ _ _ => trivial)
  show (wc ++ pl)[k]? = some q
  rw [List.getElem?_append_left (List.getElem?_eq_some_iff.mp hq).1]
  exact hq
theorem CUT.F {A : Nat → Prop} {X pl wc wr w1 wn : va_W} {isC isR isN : List Nat} {H0 H : Heap} {locs : List Loc} (hc : CUT X wc wr w1 wn isC isR isN) (hD : va_D A (X ++ pl)) (hS : va_S A H0 H locs) (hA : ∀ q, H0.size ≤ q → A q) : ∀ q, va_A wc H.size q → A q := by
  intro q h
  rcases h with ⟨k, e, h⟩ | h
  · obtain ⟨i, -, h2⟩ := va_in_of isC hc.1.1 h
    exact hD.2 i (q, e) (by rw [List.getElem?_append_left (List.getElem?_eq_some_iff.mp h2).1]; exact h2)
  · exact hA q (Nat.le_trans hS.1 h)
theorem CUT.J {D : va_G} {A : Nat → Prop} {X pl wc wr w1 wn : va_W} {isC isR isN : List Nat} {H H1 : Heap} (hc : CUT X wc wr w1 wn isC isR isN) (hP : va_P D vwCl (X ++ pl) H) (hD : va_D A (X ++ pl)) (hF : ∀ q, va_A wc H.size q → A q)
    (hk : ∀ q : Nat, q < H.size → ¬ va_A wc H.size q → H1[q]? = H[q]?) (hP1 : va_P D vwCl w1 H1) (hD1 : va_D (va_A wc H.size) w1) : va_P D vwCl (wn ++ pl) H1 ∧ va_D A (wn ++ pl) := by
  obtain ⟨a, b⟩ := va_joinQ (wr := wr) (w1 := w1) hP hD isC isR hc.1.1 hc.2.1.1 hc.2.1.2.1 hc.2.1.2.2 hk hF hP1 hD1
  exact ⟨a.part isN hc.2.2.1, b.part isN hc.2.2.2 hc.2.2.1⟩
theorem PR.blind {D : va_G} {cA : Nat → ClassId} {tt : Nat → Nat} {ws : va_W} {sz : Nat} {av : List Value} : FrameBlind (va_Pc av (PR D cA tt ws sz)) := fun a U g mk q => by
  obtain ⟨q0, q1, qP, qK, qD, qE⟩ := q
  exact ⟨q0, q1, qP, va_K.moved (u := U) (U := U.calling g mk a) (Vm.Alike.refl U.vm) qK, qD, EX.same (u := U) (U := U.calling g mk a) rfl rfl qE⟩
theorem PR.at {D : va_G} {cA : Nat → ClassId} {tt : Nat → Nat} {X pl wc wr w1 wn : va_W} {isC isR isN : List Nat} {A : Nat → Prop} {s : State} {H : Heap} {locs : List Loc} (hc : CUT X wc wr w1 wn isC isR isN) (hK : va_K D vwCl (TY cA) s) (hP : va_P D vwCl (X ++ pl) H) (hD : va_D A (X ++ pl)) (hS : va_S A s.heap H locs) (hA : ∀ q, s.heap.size ≤ q → A q) (hE : EX tt A s) {av : List Value} :
    ∀ U : State, U.heap = H → s.WarmedH U.vm → va_Pc av (PR D cA tt wc H.size) av.toArray U := fun U hU hW => ⟨rfl, by rw [hU], by rw [hU]; exact hc.P hP, va_K.moved hW.alike hK, hc.D hD, hE.call hS (hc.F hD hS hA) hU hW⟩
section CALLS
variable {p : Program} {l : Launch} {e : Env} {R : Room} {s : State} {m : MethodId} {args : Array Value} {below : List Frame} {meth : Method} {c : Code} {H : Heap} {locs : List Loc} {cells slots : Nat} {Q : State → Prop}
variable {cc : ByteArray} {pc nL n index maxL : Nat} {ls : Array Slot} {rest st0 As : List Value} {D : va_G} {cA : Nat → ClassId} {tt : Nat → Nat} {A : Nat → Prop} {b : Nat} {X pl wc wr w1 wn : va_W} {isC isR isN : List Nat} {y : MethodName} {bytes : ByteArray} {ret : Option FieldType} {wds wds' Ts : List Cond} {rm : Room} {own : String}
theorem cVi {r : Int32} (S : CallFix p m c cc nL s args Ts own) (hM : Ci l D cA tt y wds rm (.ref b :: As) H.size wc w1 r) {C : String} {T : u_T} {N ci q0 : Nat} {fs : List Value} (hG : GoodIn Ts (wsV own index C y wds)) (hw : wds = Cond.code y bytes maxL ret :: wds') (hd : y.cls = C ∧ y.cls ≠ "java/lang/invoke/MethodHandle" ∧ y.cls ≠ "java/lang/invoke/VarHandle" ∧ (parseMethodDescriptor y.desc).map (fun d => d.parameters.length) = some n) (hci : vwCl[ci]? = some (C, T, N)) (he : wc[q0]? = some (b, .inr (ci, fs))) (hr0 : rm.cells = 0 ∧ rm.slots = 0) (hR : rm.frames + 1 ≤ R.frames ∧ 8 + (maxL + 11) + rm.locals ≤ R.locals) (hcs : cells ≤ R.cells ∧ slots ≤ R.slots)
    (hK : va_K D vwCl (TY cA) s) (hE : EX tt A s) (hA : ∀ q, s.heap.size ≤ q → A q) (hP : va_P D vwCl (X ++ pl) H) (hD : va_D A (X ++ pl)) (hS : va_S A s.heap H locs) (hc : CUT X wc wr w1 wn isC isR isN)
    (hn : As.length = n) (hl : ls.size = nL) (hst : st0 = As.reverse ++ .ref b :: rest) (hW : (rest.map fun v => v.category).sum ≤ 8) (hdg : decode cc pc = .ok (.invokevirtual index, 3))
    (kk : ∀ (H1 : Heap) (locs1 : List Loc), va_P D vwCl (wn ++ pl) H1 → va_D A (wn ++ pl) → va_S A s.heap H1 locs1 → W p l e R s m args below meth c H1 locs1 cells slots Q (F0 m (pc + 3) ls (.int r :: rest))) : W p l e R s m args below meth c H locs cells slots Q (F0 m pc ls st0) := by
  have hF := hc.F hD hS hA
  refine va_calli (va_runV S hM (cwV n S.2.2.2.2 hG hw hr0.1 hr0.2 hd hR) ⟨PR.blind, va_recv hK (hc.P hP) hci he, PR.at hc hK hP hD hS hA hE⟩ rfl hn hl hst (lv_room hW) hdg ⟨hcs.1, hcs.2⟩) hS (fun q _ h => hF q h) hF (fun r2 u t H1 locs1 ht hvm hw9 hB hz1 hk1 hS1 => ?_)
  subst hw9
  obtain ⟨a1, -, a3⟩ := hB
  rw [ht] at a1
  obtain ⟨b1, b2⟩ := hc.J hP hD hF hk1 a1 a3
  exact kk H1 locs1 b1 b2 hS1
theorem cVl {r : Int64} (S : CallFix p m c cc nL s args Ts own) (hM : Cl l D cA tt y wds rm (.ref b :: As) H.size wc w1 r) {C : String} {T : u_T} {N ci q0 : Nat} {fs : List Value} (hG : GoodIn Ts (wsV own index C y wds)) (hw : wds = Cond.code y bytes maxL ret :: wds') (hd : y.cls = C ∧ y.cls ≠ "java/lang/invoke/MethodHandle" ∧ y.cls ≠ "java/lang/invoke/VarHandle" ∧ (parseMethodDescriptor y.desc).map (fun d => d.parameters.length) = some n) (hci : vwCl[ci]? = some (C, T, N)) (he : wc[q0]? = some (b, .inr (ci, fs))) (hr0 : rm.cells = 0 ∧ rm.slots = 0) (hR : rm.frames + 1 ≤ R.frames ∧ 8 + (maxL + 11) + rm.locals ≤ R.locals) (hcs : cells ≤ R.cells ∧ slots ≤ R.slots)
    (hK : va_K D vwCl (TY cA) s) (hE : EX tt A s) (hA : ∀ q, s.heap.size ≤ q → A q) (hP : va_P D vwCl (X ++ pl) H) (hD : va_D A (X ++ pl)) (hS : va_S A s.heap H locs) (hc : CUT X wc wr w1 wn isC isR isN)
    (hn : As.length = n) (hl : ls.size = nL) (hst : st0 = As.reverse ++ .ref b :: rest) (hW : (rest.map fun v => v.category).sum ≤ 8) (hdg : decode cc pc = .ok (.invokevirtual index, 3))
    (kk : ∀ (H1 : Heap) (locs1 : List Loc), va_P D vwCl (wn ++ pl) H1 → va_D A (wn ++ pl) → va_S A s.heap H1 locs1 → W p l e R s m args below meth c H1 locs1 cells slots Q (F0 m (pc + 3) ls (.long r :: rest))) : W p l e R s m args below meth c H locs cells slots Q (F0 m pc ls st0) := by
  have hF := hc.F hD hS hA
  refine va_calll (va_runV S hM (cwV n S.2.2.2.2 hG hw hr0.1 hr0.2 hd hR) ⟨PR.blind, va_recv hK (hc.P hP) hci he, PR.at hc hK hP hD hS hA hE⟩ rfl hn hl hst (lv_room hW) hdg ⟨hcs.1, hcs.2⟩) hS (fun q _ h => hF q h) hF (fun r2 u t H1 locs1 ht hvm hw9 hB hz1 hk1 hS1 => ?_)
  subst hw9
  obtain ⟨a1, -, a3⟩ := hB
  rw [ht] at a1
  obtain ⟨b1, b2⟩ := hc.J hP hD hF hk1 a1 a3
  exact kk H1 locs1 b1 b2 hS1
theorem cVv (S : CallFix p m c cc nL s args Ts own) (hM : Cv l D cA tt y wds rm (.ref b :: As) H.size wc w1) {C : String} {T : u_T} {N ci q0 : Nat} {fs : List Value} (hG : GoodIn Ts (wsV own index C y wds)) (hw : wds = Cond.code y bytes maxL ret :: wds') (hd : y.cls = C ∧ y.cls ≠ "java/lang/invoke/MethodHandle" ∧ y.cls ≠ "java/lang/invoke/VarHandle" ∧ (parseMethodDescriptor y.desc).map (fun d => d.parameters.length) = some n) (hci : vwCl[ci]? = some (C, T, N)) (he : wc[q0]? = some (b, .inr (ci, fs))) (hr0 : rm.cells = 0 ∧ rm.slots = 0) (hR : rm.frames + 1 ≤ R.frames ∧ 8 + (maxL + 11) + rm.locals ≤ R.locals) (hcs : cells ≤ R.cells ∧ slots ≤ R.slots)
    (hK : va_K D vwCl (TY cA) s) (hE : EX tt A s) (hA : ∀ q, s.heap.size ≤ q → A q) (hP : va_P D vwCl (X ++ pl) H) (hD : va_D A (X ++ pl)) (hS : va_S A s.heap H locs) (hc : CUT X wc wr w1 wn isC isR isN)
    (hn : As.length = n) (hl : ls.size = nL) (hst : st0 = As.reverse ++ .ref b :: rest) (hW : (rest.map fun v => v.category).sum ≤ 8) (hdg : decode cc pc = .ok (.invokevirtual index, 3))
    (kk : ∀ (H1 : Heap) (locs1 : List Loc), va_P D vwCl (wn ++ pl) H1 → va_D A (wn ++ pl) → va_S A s.heap H1 locs1 → W p l e R s m args below meth c H1 locs1 cells slots Q (F0 m (pc + 3) ls rest)) : W p l e R s m args below meth c H locs cells slots Q (F0 m pc ls st0) := by
  have hF := hc.F hD hS hA
  refine va_callv (va_runV S hM (cwV n S.2.2.2.2 hG hw hr0.1 hr0.2 hd hR) ⟨PR.blind, va_recv hK (hc.P hP) hci he, PR.at hc hK hP hD hS hA hE⟩ rfl hn hl hst (lv_room hW) hdg ⟨hcs.1, hcs.2⟩) hS (fun q _ h => hF q h) hF (fun u t H1 locs1 ht hvm hw9 hB hz1 hk1 hS1 => ?_)
  obtain ⟨a1, -, a3⟩ := hB
  rw [ht] at a1
  obtain ⟨b1, b2⟩ := hc.J hP hD hF hk1 a1 a3
  exact kk H1 locs1 b1 b2 hS1
theorem cVr {r : Nat} (S : CallFix p m c cc nL s args Ts own) (hM : Cr l D cA tt y wds rm (.ref b :: As) H.size wc w1 r) {C : String} {T : u_T} {N ci q0 : Nat} {fs : List Value} (hG : GoodIn Ts (wsV own index C y wds)) (hw : wds = Cond.code y bytes maxL ret :: wds') (hd : y.cls = C ∧ y.cls ≠ "java/lang/invoke/MethodHandle" ∧ y.cls ≠ "java/lang/invoke/VarHandle" ∧ (parseMethodDescriptor y.desc).map (fun d => d.parameters.length) = some n) (hci : vwCl[ci]? = some (C, T, N)) (he : wc[q0]? = some (b, .inr (ci, fs))) (hr0 : rm.cells = 0 ∧ rm.slots = 0) (hR : rm.frames + 1 ≤ R.frames ∧ 8 + (maxL + 11) + rm.locals ≤ R.locals) (hcs : cells ≤ R.cells ∧ slots ≤ R.slots)
    (hK : va_K D vwCl (TY cA) s) (hE : EX tt A s) (hA : ∀ q, s.heap.size ≤ q → A q) (hP : va_P D vwCl (X ++ pl) H) (hD : va_D A (X ++ pl)) (hS : va_S A s.heap H locs) (hc : CUT X wc wr w1 wn isC isR isN)
    (hn : As.length = n) (hl : ls.size = nL) (hst : st0 = As.reverse ++ .ref b :: rest) (hW : (rest.map fun v => v.category).sum ≤ 8) (hdg : decode cc pc = .ok (.invokevirtual index, 3))
    (kk : ∀ (H1 : Heap) (locs1 : List Loc), va_P D vwCl (wn ++ pl) H1 → va_D A (wn ++ pl) → va_S A s.heap H1 locs1 → W p l e R s m args below meth c H1 locs1 cells slots Q (F0 m (pc + 3) ls (.ref r :: rest))) : W p l e R s m args below meth c H locs cells slots Q (F0 m pc ls st0) := by
  have hF := hc.F hD hS hA
  refine va_callr (va_runV S hM (cwV n S.2.2.2.2 hG hw hr0.1 hr0.2 hd hR) ⟨PR.blind, va_recv hK (hc.P hP) hci he, PR.at hc hK hP hD hS hA hE⟩ rfl hn hl hst (lv_room hW) hdg ⟨hcs.1, hcs.2⟩) hS (fun q _ h => hF q h) hF (fun u ra t H1 locs1 ht hvm hw9 hB hz1 hk1 hS1 => ?_)
  obtain ⟨rfl, a1, -, a3⟩ := hB
  rw [ht] at a1
  obtain ⟨b1, b2⟩ := hc.J hP hD hF hk1 a1 a3
  exact kk H1 locs1 b1 b2 hS1
theorem cSi {r : Int32} (S : CallFix p m c cc nL s args Ts own) (hM : Ci l D cA tt y wds rm As H.size wc w1 r) (hG : GoodIn Ts (va_wsS own index y wds)) (hw : wds = Cond.code y bytes maxL ret :: wds') (hd : y.cls ≠ "java/lang/invoke/MethodHandle" ∧ y.cls ≠ "java/lang/invoke/VarHandle" ∧ (parseMethodDescriptor y.desc).map (fun d => d.parameters.length) = some n) (hr0 : rm.cells = 0 ∧ rm.slots = 0) (hR : rm.frames + 1 ≤ R.frames ∧ 8 + (maxL + 11) + rm.locals ≤ R.locals) (hcs : cells ≤ R.cells ∧ slots ≤ R.slots)
    (hK : va_K D vwCl (TY cA) s) (hE : EX tt A s) (hA : ∀ q, s.heap.size ≤ q → A q) (hP : va_P D vwCl (X ++ pl) H) (hD : va_D A (X ++ pl)) (hS : va_S A s.heap H locs) (hc : CUT X wc wr w1 wn isC isR isN)
    (hn : As.length = n) (hl : ls.size = nL) (hst : st0 = As.reverse ++ rest) (hW : (rest.map fun v => v.category).sum ≤ 8) (hdg : decode cc pc = .ok (.invokestatic index, 3))
    (kk : ∀ (H1 : Heap) (locs1 : List Loc), va_P D vwCl (wn ++ pl) H1 → va_D A (wn ++ pl) → va_S A s.heap H1 locs1 → W p l e R s m args below meth c H1 locs1 cells slots Q (F0 m (pc + 3) ls (.int r :: rest))) : W p l e R s m args below meth c H locs cells slots Q (F0 m pc ls st0) := by
  have hF := hc.F hD hS hA
  refine va_calli (va_runS S hM (va_cwS n S.2.2.2.2 hG hw hr0.1 hr0.2 hd hR) ⟨PR.blind, PR.at hc hK hP hD hS hA hE⟩ rfl hn hl hst (lv_room hW) hdg ⟨hcs.1, hcs.2⟩) hS (fun q _ h => hF q h) hF (fun r2 u t H1 locs1 ht hvm hw9 hB hz1 hk1 hS1 => ?_)
  subst hw9
  obtain ⟨a1, -, a3⟩ := hB
  rw [ht] at a1
  obtain ⟨b1, b2⟩ := hc.J hP hD hF hk1 a1 a3
  exact kk H1 locs1 b1 b2 hS1
theorem cSl {r : Int64} (S : CallFix p m c cc nL s args Ts own) (hM : Cl l D cA tt y wds rm As H.size wc w1 r) (hG : GoodIn Ts (va_wsS own index y wds)) (hw : wds = Cond.code y bytes maxL ret :: wds') (hd : y.cls ≠ "java/lang/invoke/MethodHandle" ∧ y.cls ≠ "java/lang/invoke/VarHandle" ∧ (parseMethodDescriptor y.desc).map (fun d => d.parameters.length) = some n) (hr0 : rm.cells = 0 ∧ rm.slots = 0) (hR : rm.frames + 1 ≤ R.frames ∧ 8 + (maxL + 11) + rm.locals ≤ R.locals) (hcs : cells ≤ R.cells ∧ slots ≤ R.slots)
    (hK : va_K D vwCl (TY cA) s) (hE : EX tt A s) (hA : ∀ q, s.heap.size ≤ q → A q) (hP : va_P D vwCl (X ++ pl) H) (hD : va_D A (X ++ pl)) (hS : va_S A s.heap H locs) (hc : CUT X wc wr w1 wn isC isR isN)
    (hn : As.length = n) (hl : ls.size = nL) (hst : st0 = As.reverse ++ rest) (hW : (rest.map fun v => v.category).sum ≤ 8) (hdg : decode cc pc = .ok (.invokestatic index, 3))
    (kk : ∀ (H1 : Heap) (locs1 : List Loc), va_P D vwCl (wn ++ pl) H1 → va_D A (wn ++ pl) → va_S A s.heap H1 locs1 → W p l e R s m args below meth c H1 locs1 cells slots Q (F0 m (pc + 3) ls (.long r :: rest))) : W p l e R s m args below meth c H locs cells slots Q (F0 m pc ls st0) := by
  have hF := hc.F hD hS hA
  refine va_calll (va_runS S hM (va_cwS n S.2.2.2.2 hG hw hr0.1 hr0.2 hd hR) ⟨PR.blind, PR.at hc hK hP hD hS hA hE⟩ rfl hn hl hst (lv_room hW) hdg ⟨hcs.1, hcs.2⟩) hS (fun q _ h => hF q h) hF (fun r2 u t H1 locs1 ht hvm hw9 hB hz1 hk1 hS1 => ?_)
  subst hw9
  obtain ⟨a1, -, a3⟩ := hB
  rw [ht] at a1
  obtain ⟨b1, b2⟩ := hc.J hP hD hF hk1 a1 a3
  exact kk H1 locs1 b1 b2 hS1
theorem cSv (S : CallFix p m c cc nL s args Ts own) (hM : Cv l D cA tt y wds rm As H.size wc w1) (hG : GoodIn Ts (va_wsS own index y wds)) (hw : wds = Cond.code y bytes maxL ret :: wds') (hd : y.cls ≠ "java/lang/invoke/MethodHandle" ∧ y.cls ≠ "java/lang/invoke/VarHandle" ∧ (parseMethodDescriptor y.desc).map (fun d => d.parameters.length) = some n) (hr0 : rm.cells = 0 ∧ rm.slots = 0) (hR : rm.frames + 1 ≤ R.frames ∧ 8 + (maxL + 11) + rm.locals ≤ R.locals) (hcs : cells ≤ R.cells ∧ slots ≤ R.slots)
    (hK : va_K D vwCl (TY cA) s) (hE : EX tt A s) (hA : ∀ q, s.heap.size ≤ q → A q) (hP : va_P D vwCl (X ++ pl) H) (hD : va_D A (X ++ pl)) (hS : va_S A s.heap H locs) (hc : CUT X wc wr w1 wn isC isR isN)
    (hn : As.length = n) (hl : ls.size = nL) (hst : st0 = As.reverse ++ rest) (hW : (rest.map fun v => v.category).sum ≤ 8) (hdg : decode cc pc = .ok (.invokestatic index, 3))
    (kk : ∀ (H1 : Heap) (locs1 : List Loc), va_P D vwCl (wn ++ pl) H1 → va_D A (wn ++ pl) → va_S A s.heap H1 locs1 → W p l e R s m args below meth c H1 locs1 cells slots Q (F0 m (pc + 3) ls rest)) : W p l e R s m args below meth c H locs cells slots Q (F0 m pc ls st0) := by
  have hF := hc.F hD hS hA
  refine va_callv (va_runS S hM (va_cwS n S.2.2.2.2 hG hw hr0.1 hr0.2 hd hR) ⟨PR.blind, PR.at hc hK hP hD hS hA hE⟩ rfl hn hl hst (lv_room hW) hdg ⟨hcs.1, hcs.2⟩) hS (fun q _ h => hF q h) hF (fun u t H1 locs1 ht hvm hw9 hB hz1 hk1 hS1 => ?_)
  obtain ⟨a1, -, a3⟩ := hB
  rw [ht] at a1
  obtain ⟨b1, b2⟩ := hc.J hP hD hF hk1 a1 a3
  exact kk H1 locs1 b1 b2 hS1
theorem cNi {r : Int32} (S : CallFix p m c cc nL s args Ts own) (hM : Ci l D cA tt y wds rm As H.size wc w1 r) (hG : GoodIn Ts wds) (hw : wds = Cond.code y bytes maxL ret :: wds') (hlk : va_Nw (.methodLinkNest own index y "AdventStreets") s) (hini : (Cond.initialized y.cls).before args s = true) (hst9 : (Cond.static y).before args s = true) (hd : y.cls ≠ "java/lang/invoke/MethodHandle" ∧ y.cls ≠ "java/lang/invoke/VarHandle" ∧ (parseMethodDescriptor y.desc).map (fun d => d.parameters.length) = some n) (hr0 : rm.cells = 0 ∧ rm.slots = 0) (hR : rm.frames + 1 ≤ R.frames ∧ 8 + (maxL + 11) + rm.locals ≤ R.locals) (hcs : cells ≤ R.cells ∧ slots ≤ R.slots)
    (hK : va_K D vwCl (TY cA) s) (hE : EX tt A s) (hA : ∀ q, s.heap.size ≤ q → A q) (hP : va_P D vwCl (X ++ pl) H) (hD : va_D A (X ++ pl)) (hS : va_S A s.heap H locs) (hc : CUT X wc wr w1 wn isC isR isN)
    (hn : As.length = n) (hl : ls.size = nL) (hst : st0 = As.reverse ++ rest) (hW : (rest.map fun v => v.category).sum ≤ 8) (hdg : decode cc pc = .ok (.invokestatic index, 3))
    (kk : ∀ (H1 : Heap) (locs1 : List Loc), va_P D vwCl (wn ++ pl) H1 → va_D A (wn ++ pl) → va_S A s.heap H1 locs1 → W p l e R s m args below meth c H1 locs1 cells slots Q (F0 m (pc + 3) ls (.int r :: rest))) : W p l e R s m args below meth c H locs cells slots Q (F0 m pc ls st0) := by
  have hF := hc.F hD hS hA
  refine va_calli (va_runSN S hM ⟨va_cnB n S.2.2.2.2 hG hw hr0.1 hr0.2 hlk hini hd hR, hst9, trivial⟩ ⟨PR.blind, PR.at hc hK hP hD hS hA hE⟩ rfl hn hl hst (lv_room hW) hdg ⟨hcs.1, hcs.2⟩) hS (fun q _ h => hF q h) hF (fun r2 u t H1 locs1 ht hvm hw9 hB hz1 hk1 hS1 => ?_)
  subst hw9
  obtain ⟨a1, -, a3⟩ := hB
  rw [ht] at a1
  obtain ⟨b1, b2⟩ := hc.J hP hD hF hk1 a1 a3
  exact kk H1 locs1 b1 b2 hS1
theorem cNl {r : Int64} (S : CallFix p m c cc nL s args Ts own) (hM : Cl l D cA tt y wds rm As H.size wc w1 r) (hG : GoodIn Ts wds) (hw : wds = Cond.code y bytes maxL ret :: wds') (hlk : va_Nw (.methodLinkNest own index y "AdventStreets") s) (hini : (Cond.initialized y.cls).before args s = true) (hst9 : (Cond.static y).before args s = true) (hd : y.cls ≠ "java/lang/invoke/MethodHandle" ∧ y.cls ≠ "java/lang/invoke/VarHandle" ∧ (parseMethodDescriptor y.desc).map (fun d => d.parameters.length) = some n) (hr0 : rm.cells = 0 ∧ rm.slots = 0) (hR : rm.frames + 1 ≤ R.frames ∧ 8 + (maxL + 11) + rm.locals ≤ R.locals) (hcs : cells ≤ R.cells ∧ slots ≤ R.slots)
    (hK : va_K D vwCl (TY cA) s) (hE : EX tt A s) (hA : ∀ q, s.heap.size ≤ q → A q) (hP : va_P D vwCl (X ++ pl) H) (hD : va_D A (X ++ pl)) (hS : va_S A s.heap H locs) (hc : CUT X wc wr w1 wn isC isR isN)
    (hn : As.length = n) (hl : ls.size = nL) (hst : st0 = As.reverse ++ rest) (hW : (rest.map fun v => v.category).sum ≤ 8) (hdg : decode cc pc = .ok (.invokestatic index, 3))
    (kk : ∀ (H1 : Heap) (locs1 : List Loc), va_P D vwCl (wn ++ pl) H1 → va_D A (wn ++ pl) → va_S A s.heap H1 locs1 → W p l e R s m args below meth c H1 locs1 cells slots Q (F0 m (pc + 3) ls (.long r :: rest))) : W p l e R s m args below meth c H locs cells slots Q (F0 m pc ls st0) := by
  have hF := hc.F hD hS hA
  refine va_calll (va_runSN S hM ⟨va_cnB n S.2.2.2.2 hG hw hr0.1 hr0.2 hlk hini hd hR, hst9, trivial⟩ ⟨PR.blind, PR.at hc hK hP hD hS hA hE⟩ rfl hn hl hst (lv_room hW) hdg ⟨hcs.1, hcs.2⟩) hS (fun q _ h => hF q h) hF (fun r2 u t H1 locs1 ht hvm hw9 hB hz1 hk1 hS1 => ?_)
  subst hw9
  obtain ⟨a1, -, a3⟩ := hB
  rw [ht] at a1
  obtain ⟨b1, b2⟩ := hc.J hP hD hF hk1 a1 a3
  exact kk H1 locs1 b1 b2 hS1
theorem cNv (S : CallFix p m c cc nL s args Ts own) (hM : Cv l D cA tt y wds rm As H.size wc w1) (hG : GoodIn Ts wds) (hw : wds = Cond.code y bytes maxL ret :: wds') (hlk : va_Nw (.methodLinkNest own index y "AdventStreets") s) (hini : (Cond.initialized y.cls).before args s = true) (hst9 : (Cond.static y).before args s = true) (hd : y.cls ≠ "java/lang/invoke/MethodHandle" ∧ y.cls ≠ "java/lang/invoke/VarHandle" ∧ (parseMethodDescriptor y.desc).map (fun d => d.parameters.length) = some n) (hr0 : rm.cells = 0 ∧ rm.slots = 0) (hR : rm.frames + 1 ≤ R.frames ∧ 8 + (maxL + 11) + rm.locals ≤ R.locals) (hcs : cells ≤ R.cells ∧ slots ≤ R.slots)
    (hK : va_K D vwCl (TY cA) s) (hE : EX tt A s) (hA : ∀ q, s.heap.size ≤ q → A q) (hP : va_P D vwCl (X ++ pl) H) (hD : va_D A (X ++ pl)) (hS : va_S A s.heap H locs) (hc : CUT X wc wr w1 wn isC isR isN)
    (hn : As.length = n) (hl : ls.size = nL) (hst : st0 = As.reverse ++ rest) (hW : (rest.map fun v => v.category).sum ≤ 8) (hdg : decode cc pc = .ok (.invokestatic index, 3))
    (kk : ∀ (H1 : Heap) (locs1 : List Loc), va_P D vwCl (wn ++ pl) H1 → va_D A (wn ++ pl) → va_S A s.heap H1 locs1 → W p l e R s m args below meth c H1 locs1 cells slots Q (F0 m (pc + 3) ls rest)) : W p l e R s m args below meth c H locs cells slots Q (F0 m pc ls st0) := by
  have hF := hc.F hD hS hA
  refine va_callv (va_runSN S hM ⟨va_cnB n S.2.2.2.2 hG hw hr0.1 hr0.2 hlk hini hd hR, hst9, trivial⟩ ⟨PR.blind, PR.at hc hK hP hD hS hA hE⟩ rfl hn hl hst (lv_room hW) hdg ⟨hcs.1, hcs.2⟩) hS (fun q _ h => hF q h) hF (fun u t H1 locs1 ht hvm hw9 hB hz1 hk1 hS1 => ?_)
  obtain ⟨a1, -, a3⟩ := hB
  rw [ht] at a1
  obtain ⟨b1, b2⟩ := hc.J hP hD hF hk1 a1 a3
  exact kk H1 locs1 b1 b2 hS1
end CALLS
