/-! ===== making: rows of rows ===== -/
theorem va_P.cons {D : va_G} {cl : List vw_C} {x : Nat × va_E} {l : va_W} {H : Heap} (h : va_at D cl x H) (hl : va_P D cl l H) : va_P D cl (x :: l) H := fun k q hk => by
  cases k with
  | zero => cases hk; exact h
  | succ k => exact hl k q hk
theorem va_P.nil {D : va_G} {cl : List vw_C} {H : Heap} : va_P D cl [] H := fun k q hk => by cases hk
theorem va_D.appF {A : Nat → Prop} {w1 w2 : va_W} (h0 : Nat) (h1 : va_D A w1) (a1 : ∀ (k : Nat) (q : Nat × va_E), w1[k]? = some q → q.1 < h0) (a2 : ∀ (k : Nat) (q : Nat × va_E), w2[k]? = some q → q.1 = h0 + k) (hA : ∀ q, h0 ≤ q → A q) : va_D A (w1 ++ w2) := by
  constructor
  · intro i j x y hx hy he
    rcases Nat.lt_or_ge i w1.length with q1 | q1
    · rw [List.getElem?_append_left q1] at hx
      rcases Nat.lt_or_ge j w1.length with q2 | q2
      · rw [List.getElem?_append_left q2] at hy
        exact h1.1 i j x y hx hy he
      · rw [List.getElem?_append_right q2] at hy
        have := a1 _ _ hx
        have := a2 _ _ hy
        omega
    · rw [List.getElem?_append_right q1] at hx
      rcases Nat.lt_or_ge j w1.length with q2 | q2
      · rw [List.getElem?_append_left q2] at hy
        have := a1 _ _ hy
        have := a2 _ _ hx
        omega
      · rw [List.getElem?_append_right q2] at hy
        have := a2 _ _ hx
        have := a2 _ _ hy
        omega
  · intro k q hk
    rcases Nat.lt_or_ge k w1.length with q1 | q1
    · rw [List.getElem?_append_left q1] at hk
      exact h1.2 k q hk
    · rw [List.getElem?_append_right q1] at hk
      exact hA _ (by have := a2 _ _ hk; omega)
theorem outer_arr (c : ClassId) (N h0 : Nat) : ∀ i, Jvm.Free.Multi.outerC c N h0 i = arrV c N (fun k => if k < i then .ref (h0 + 1 + k) else .null) := by
  intro i
  induction i with
  | zero => exact (arrV_new c N .null).trans (by congr 1)
  | succ i ih =>
    show (Jvm.Free.Multi.outerC c N h0 i).setSlot i (.ref (h0 + 1 + i)) = _
    rw [ih, arrV_store]
    congr 1
    funext k
    unfold updV
    by_cases e : k = i
    · subst e; rw [if_pos rfl, if_pos (by omega)]
    · rw [if_neg e]
      show (if k < i then Value.ref (h0 + 1 + k) else Value.null) = _
      by_cases q : k < i
      · rw [if_pos q, if_pos (by omega)]
      · rw [if_neg q, if_neg (by omega)]
theorem arrV_cg (c : ClassId) (N : Nat) {f g : Nat → Value} (h : ∀ j, j < N → f j = g j) : arrV c N f = arrV c N g := by
  unfold arrV
  rw [show (fun j : Fin N => f j.val) = (fun j : Fin N => g j.val) from funext fun j => h j.val j.isLt]
section MULT
variable {p : Program} {l : Launch} {e : Env} {R : Room} {s : State} {m : MethodId} {args : Array Value} {below : List Frame} {meth : Method} {c : Code} {H : Heap} {locs : List Loc} {cells slots : Nat} {Q : State → Prop}
variable {cc : ByteArray} {pc index : Nat} {ls : Array Slot} {rest : List Value} {D : va_G} {cA : Nat → ClassId} {A : Nat → Prop} {ws : va_W} {own : String} {H0 : Heap}
set_option maxHeartbeats 4000000 in
theorem r_multi (hx : p.tables.exec = Jvm.exec) (hb : c.code = cc) (hown : s.vm.findClass own = some m.cls) (hcl : (Cond.classLink own index "[[I").before args s = true) (hO : AO2 s) (harr : (Cond.arrayClass .int).before args s = true) (hK : va_K D vwCl (TY cA) s) (hP : va_P D vwCl ws H) (hD : va_D A ws) (hS : va_S A H0 H locs) (hA : ∀ q, H0.size ≤ q → A q) (hcells : cells + 9 ≤ R.cells) (hslots : slots + 328 ≤ R.slots) (hdg : decode cc pc = .ok (.multianewarray index 2, 4))
    (kk : ∀ (q : Nat) (ga : Nat → Nat) (H1 : Heap) (locs1 : List Loc), va_P D vwCl (ws ++ ((q, .inl (cA 2, 8, .inr (.inr (.inr (.inr (fun i => some (ga i))))))) :: gridW cA ga (fun _ _ => nI 0))) H1 → va_D A (ws ++ ((q, .inl (cA 2, 8, .inr (.inr (.inr (.inr (fun i => some (ga i))))))) :: gridW cA ga (fun _ _ => nI 0))) → va_S A H0 H1 locs1 → W p l e R s m args below meth c H1 locs1 (cells + 9) (slots + 328) Q (F0 m (pc + 4) ls (.ref q :: rest))) : W p l e R s m args below meth c H locs cells slots Q (F0 m pc ls (.int (nI 40) :: .int (nI 8) :: rest)) := by
  intro T hT X
  subst hT
  subst hb
  have hO2 : (Cond.arrayOver (.array .int)).before args s = true := arrayOver_alikeB (args' := args) (first' := s) (o' := none) (idx' := []) (Vm.Alike.refl s.vm) hO.2
  obtain ⟨vm1, c2, c0, hW, hfA, hfC, -, -, X1, step⟩ := X.multianewarray2K (ty := .int) (own := own) (index := index) hx hown hcl hO2 harr (g := F0 m pc ls (.int (nI 40) :: .int (nI 8) :: rest)) rfl hdg (n := nI 8) (k := nI 40) (rest := rest) rfl (by decide) (by decide) (by decide) (by decide) (by decide) rfl rfl hcells hslots
  have e2 : c2 = cA 2 := Option.some.inj (hfA.symm.trans (hK.2 2 _ rfl).2)
  have e0 : c0 = cA 0 := Option.some.inj (hfC.symm.trans (hK.2 0 _ rfl).2)
  subst e2
  subst e0
  have f0 := Jvm.Free.Multi.fill_facts (T.setVm vm1) (cA 2) (cA 0) 8 40 (defaultValue .int) 8
  obtain ⟨g1, g2, g3, g4⟩ := f0
  have hsz : (T.setVm vm1).heap.size = T.heap.size := rfl
  rw [hsz] at g1 g2
  have gin : ∀ j, j < 8 → (Jvm.Free.Multi.fill (T.setVm vm1) (cA 2) (cA 0) 8 40 (defaultValue .int) 8).heap[T.heap.size + 1 + j]? = some (vp_cell (cA 0) (40, .inl (fun _ => nI 0))) := by
    intro j hj
    have := Jvm.Free.Multi.fill_inner (T.setVm vm1) (cA 2) (cA 0) 8 40 (defaultValue .int) 8 j hj
    rw [hsz] at this
    exact this.trans (congrArg some (arrV_new (cA 0) 40 (.int 0)))
  have gout : (Jvm.Free.Multi.fill (T.setVm vm1) (cA 2) (cA 0) 8 40 (defaultValue .int) 8).heap[T.heap.size]? = some (vp_cell (cA 2) (8, .inr (.inr (.inr (.inr (fun i => some (T.heap.size + 1 + i))))))) := by
    rw [g2, outer_arr]
    exact congrArg some (arrV_cg (cA 2) 8 (fun j hj => if_pos hj))
  have old : ∀ a, a < T.heap.size → (Jvm.Free.Multi.fill (T.setVm vm1) (cA 2) (cA 0) 8 40 (defaultValue .int) 8).heap[a]? = T.heap[a]? := fun a ha => Jvm.Free.Multi.fill_old (T.setVm vm1) (cA 2) (cA 0) 8 40 (defaultValue .int) (a := a) ha 8
  have hP1 : va_P D vwCl (ws ++ ((T.heap.size, .inl (cA 2, 8, .inr (.inr (.inr (.inr (fun i => some (T.heap.size + 1 + i))))))) :: gridW cA (fun i => T.heap.size + 1 + i) (fun _ _ => nI 0))) (Jvm.Free.Multi.fill (T.setVm vm1) (cA 2) (cA 0) 8 40 (defaultValue .int) 8).heap := by
    refine (hP.kept (fun k x hx => old _ ((hP k x hx).lt))).app (va_P.cons gout ?_)
    exact va_P.cons (gin 0 (by decide)) (va_P.cons (gin 1 (by decide)) (va_P.cons (gin 2 (by decide)) (va_P.cons (gin 3 (by decide)) (va_P.cons (gin 4 (by decide)) (va_P.cons (gin 5 (by decide)) (va_P.cons (gin 6 (by decide)) (va_P.cons (gin 7 (by decide)) va_P.nil)))))))
  have hA0 : ∀ q, T.heap.size ≤ q → A q := fun q h => hA q (Nat.le_trans hS.1 h)
  have hD1 : va_D A (ws ++ ((T.heap.size, .inl (cA 2, 8, .inr (.inr (.inr (.inr (fun i => some (T.heap.size + 1 + i))))))) :: gridW cA (fun i => T.heap.size + 1 + i) (fun _ _ => nI 0))) := by
    refine va_D.appF T.heap.size hD (fun k x hx => (hP k x hx).lt) (fun k q hk => ?_) hA0
    have hk2 : ([(T.heap.size, .inl (cA 2, 8, .inr (.inr (.inr (.inr (fun i => some (T.heap.size + 1 + i))))))), (T.heap.size + 1 + 0, .inl (cA 0, 40, .inl (fun _ => nI 0))), (T.heap.size + 1 + 1, .inl (cA 0, 40, .inl (fun _ => nI 0))), (T.heap.size + 1 + 2, .inl (cA 0, 40, .inl (fun _ => nI 0))), (T.heap.size + 1 + 3, .inl (cA 0, 40, .inl (fun _ => nI 0))), (T.heap.size + 1 + 4, .inl (cA 0, 40, .inl (fun _ => nI 0))), (T.heap.size + 1 + 5, .inl (cA 0, 40, .inl (fun _ => nI 0))), (T.heap.size + 1 + 6, .inl (cA 0, 40, .inl (fun _ => nI 0))), (T.heap.size + 1 + 7, .inl (cA 0, 40, .inl (fun _ => nI 0)))] : va_W)[k]? = some q := hk
    match k, hk2 with
    | 0, h => cases h; rfl
    | 1, h => cases h; rfl
    | 2, h => cases h; rfl
    | 3, h => cases h; rfl
    | 4, h => cases h; rfl
    | 5, h => cases h; rfl
    | 6, h => cases h; rfl
    | 7, h => cases h; rfl
    | 8, h => cases h; rfl
    | k + 9, h => cases h
  have hS1 : va_S A H0 (Jvm.Free.Multi.fill (T.setVm vm1) (cA 2) (cA 0) 8 40 (defaultValue .int) 8).heap (locs ++ (List.range 8).map fun j => ⟨T.heap.size, j⟩) := by
    refine ⟨by rw [g1]; exact Nat.le_trans hS.1 (by omega), fun x h1 h2 => (old x (Nat.lt_of_lt_of_le h1 hS.1)).trans (hS.2.1 x h1 h2), fun x hx9 => ?_⟩
    rcases List.mem_append.mp hx9 with h | h
    · exact hS.2.2 x h
    · obtain ⟨j, -, rfl⟩ := List.mem_map.mp h
      exact hA0 _ (Nat.le_refl _)
  obtain ⟨t, a1, b1⟩ := kk T.heap.size (fun i => T.heap.size + 1 + i) _ _ hP1 hD1 hS1 (Jvm.Free.Multi.fill (T.setVm vm1) (cA 2) (cA 0) 8 40 (defaultValue .int) 8) rfl X1
  exact ⟨t, step t a1, b1⟩
end MULT
