/-! ===== the law: what holds at its start ===== -/
theorem tab_el {s : State} {args : Array Value} {tm : Term} {i v w : Int32} (h : (Cond.eq (.elem tm (.int i)) (.int v)).before args s = true) (e : v = w) : (Term.elem tm (.int i)).eval args s none [] s = some (.int w) := by
  subst e
  exact va_eqt h
theorem st_tb0 {p : Program} {s : State} {m : MethodId} {meth : Method} {c : Code} {b L : Nat} {xs : Nat → Int32} (C0 : lw_At p s m meth c b L xs) : ∃ t : Nat, T1 "IS_TOO" tb0 t (fun q9 : Nat => s.heap.size ≤ q9) s s.heap := by
  obtain ⟨hx, hb, hr, hml, hown, hts, hX, hbl, hlocks, hgv⟩ := id C0
  have hs := flat_of_before _ hgv
  have hno : ∀ a : Nat, a < s.heap.size → ¬ (fun q9 : Nat => s.heap.size ≤ q9) a := fun a h => Nat.not_le.mpr h
  obtain ⟨t, z, T⟩ := va_Tof (tm := (Term.static "AdventStreets" "IS_TOO" "[I")) (ty := .int) (N := 6) (f := fun j => .int (tb0 j)) (A := fun q9 : Nat => s.heap.size ≤ q9) (by decide) (hs (Cond.arrayOf (Term.static "AdventStreets" "IS_TOO" "[I") .int) (by decide +kernel)) (va_eqt (hs (Cond.eq (.length (Term.static "AdventStreets" "IS_TOO" "[I")) (.int 6)) (by decide +kernel))) (fun j hj => by
    rcases (show j = 0 ∨ j = 1 ∨ j = 2 ∨ j = 3 ∨ j = 4 ∨ j = 5 by omega) with rfl | rfl | rfl | rfl | rfl | rfl
    · exact tab_el (hs (Cond.eq (.elem (Term.static "AdventStreets" "IS_TOO" "[I") (.int 0)) (.int 0)) (by decide +kernel)) (by decide +kernel)
    · exact tab_el (hs (Cond.eq (.elem (Term.static "AdventStreets" "IS_TOO" "[I") (.int 1)) (.int 0)) (by decide +kernel)) (by decide +kernel)
    · exact tab_el (hs (Cond.eq (.elem (Term.static "AdventStreets" "IS_TOO" "[I") (.int 2)) (.int 1)) (by decide +kernel)) (by decide +kernel)
    · exact tab_el (hs (Cond.eq (.elem (Term.static "AdventStreets" "IS_TOO" "[I") (.int 3)) (.int 1)) (by decide +kernel)) (by decide +kernel)
    · exact tab_el (hs (Cond.eq (.elem (Term.static "AdventStreets" "IS_TOO" "[I") (.int 4)) (.int 0)) (by decide +kernel)) (by decide +kernel)
    · exact tab_el (hs (Cond.eq (.elem (Term.static "AdventStreets" "IS_TOO" "[I") (.int 5)) (.int 4)) (by decide +kernel)) (by decide +kernel)) hno
  exact ⟨t, va_Zof (hts _ (sta_in "IS_TOO" (by decide))) (hts _ ini_in) z hno, T⟩
theorem st_tb1 {p : Program} {s : State} {m : MethodId} {meth : Method} {c : Code} {b L : Nat} {xs : Nat → Int32} (C0 : lw_At p s m meth c b L xs) : ∃ t : Nat, T1 "SIZE_BODIES" tb1 t (fun q9 : Nat => s.heap.size ≤ q9) s s.heap := by
  obtain ⟨hx, hb, hr, hml, hown, hts, hX, hbl, hlocks, hgv⟩ := id C0
  have hs := flat_of_before _ hgv
  have hno : ∀ a : Nat, a < s.heap.size → ¬ (fun q9 : Nat => s.heap.size ≤ q9) a := fun a h => Nat.not_le.mpr h
  obtain ⟨t, z, T⟩ := va_Tof (tm := (Term.static "AdventStreets" "SIZE_BODIES" "[I")) (ty := .int) (N := 6) (f := fun j => .int (tb1 j)) (A := fun q9 : Nat => s.heap.size ≤ q9) (by decide) (hs (Cond.arrayOf (Term.static "AdventStreets" "SIZE_BODIES" "[I") .int) (by decide +kernel)) (va_eqt (hs (Cond.eq (.length (Term.static "AdventStreets" "SIZE_BODIES" "[I")) (.int 6)) (by decide +kernel))) (fun j hj => by
    rcases (show j = 0 ∨ j = 1 ∨ j = 2 ∨ j = 3 ∨ j = 4 ∨ j = 5 by omega) with rfl | rfl | rfl | rfl | rfl | rfl
    · exact tab_el (hs (Cond.eq (.elem (Term.static "AdventStreets" "SIZE_BODIES" "[I") (.int 0)) (.int 10)) (by decide +kernel)) (by decide +kernel)
    · exact tab_el (hs (Cond.eq (.elem (Term.static "AdventStreets" "SIZE_BODIES" "[I") (.int 1)) (.int 11)) (by decide +kernel)) (by decide +kernel)
    · exact tab_el (hs (Cond.eq (.elem (Term.static "AdventStreets" "SIZE_BODIES" "[I") (.int 2)) (.int 12)) (by decide +kernel)) (by decide +kernel)
    · exact tab_el (hs (Cond.eq (.elem (Term.static "AdventStreets" "SIZE_BODIES" "[I") (.int 3)) (.int 11)) (by decide +kernel)) (by decide +kernel)
    · exact tab_el (hs (Cond.eq (.elem (Term.static "AdventStreets" "SIZE_BODIES" "[I") (.int 4)) (.int 13)) (by decide +kernel)) (by decide +kernel)
    · exact tab_el (hs (Cond.eq (.elem (Term.static "AdventStreets" "SIZE_BODIES" "[I") (.int 5)) (.int 14)) (by decide +kernel)) (by decide +kernel)) hno
  exact ⟨t, va_Zof (hts _ (sta_in "SIZE_BODIES" (by decide))) (hts _ ini_in) z hno, T⟩
theorem st_tb2 {p : Program} {s : State} {m : MethodId} {meth : Method} {c : Code} {b L : Nat} {xs : Nat → Int32} (C0 : lw_At p s m meth c b L xs) : ∃ t : Nat, T1 "MARK_BODIES" tb2 t (fun q9 : Nat => s.heap.size ≤ q9) s s.heap := by
  obtain ⟨hx, hb, hr, hml, hown, hts, hX, hbl, hlocks, hgv⟩ := id C0
  have hs := flat_of_before _ hgv
  have hno : ∀ a : Nat, a < s.heap.size → ¬ (fun q9 : Nat => s.heap.size ≤ q9) a := fun a h => Nat.not_le.mpr h
  obtain ⟨t, z, T⟩ := va_Tof (tm := (Term.static "AdventStreets" "MARK_BODIES" "[I")) (ty := .int) (N := 6) (f := fun j => .int (tb2 j)) (A := fun q9 : Nat => s.heap.size ≤ q9) (by decide) (hs (Cond.arrayOf (Term.static "AdventStreets" "MARK_BODIES" "[I") .int) (by decide +kernel)) (va_eqt (hs (Cond.eq (.length (Term.static "AdventStreets" "MARK_BODIES" "[I")) (.int 6)) (by decide +kernel))) (fun j hj => by
    rcases (show j = 0 ∨ j = 1 ∨ j = 2 ∨ j = 3 ∨ j = 4 ∨ j = 5 by omega) with rfl | rfl | rfl | rfl | rfl | rfl
    · exact tab_el (hs (Cond.eq (.elem (Term.static "AdventStreets" "MARK_BODIES" "[I") (.int 0)) (.int 20)) (by decide +kernel)) (by decide +kernel)
    · exact tab_el (hs (Cond.eq (.elem (Term.static "AdventStreets" "MARK_BODIES" "[I") (.int 1)) (.int 21)) (by decide +kernel)) (by decide +kernel)
    · exact tab_el (hs (Cond.eq (.elem (Term.static "AdventStreets" "MARK_BODIES" "[I") (.int 2)) (.int 24)) (by decide +kernel)) (by decide +kernel)
    · exact tab_el (hs (Cond.eq (.elem (Term.static "AdventStreets" "MARK_BODIES" "[I") (.int 3)) (.int 22)) (by decide +kernel)) (by decide +kernel)
    · exact tab_el (hs (Cond.eq (.elem (Term.static "AdventStreets" "MARK_BODIES" "[I") (.int 4)) (.int 23)) (by decide +kernel)) (by decide +kernel)
    · exact tab_el (hs (Cond.eq (.elem (Term.static "AdventStreets" "MARK_BODIES" "[I") (.int 5)) (.int 23)) (by decide +kernel)) (by decide +kernel)) hno
  exact ⟨t, va_Zof (hts _ (sta_in "MARK_BODIES" (by decide))) (hts _ ini_in) z hno, T⟩
theorem lc_known {p : Program} {s : State} {m : MethodId} {meth : Method} {c : Code} {b L : Nat} {xs : Nat → Int32} (C0 : lw_At p s m meth c b L xs) : ∃ (D : va_G) (cA : Nat → ClassId) (tt : Nat → Nat), va_K D vwCl (TY cA) s ∧ EX tt (fun q9 : Nat => s.heap.size ≤ q9) s ∧ AO2 s := by
  obtain ⟨hx, hb, hr, hml, hown, hts, hX, hbl, hlocks, hgv⟩ := id C0
  obtain ⟨c0, i0, k0⟩ := u_known (C := RX0) (T := TX0) (N := 3) (n := 3) hts inX0 (hts _ ist0_in)
  obtain ⟨c1, i1, k1⟩ := u_known (C := RX1) (T := TX1) (N := 2) (n := 2) hts inX1 (hts _ ist1_in)
  obtain ⟨c2, i2, k2⟩ := u_known (C := RX2) (T := TX2) (N := 2) (n := 2) hts inX2 (hts _ ist2_in)
  obtain ⟨c3, i3, k3⟩ := u_known (C := RX3) (T := TX3) (N := 3) (n := 3) hts inX3 (hts _ ist3_in)
  obtain ⟨c4, i4, k4⟩ := u_known (C := RX4) (T := TX4) (N := 10) (n := 10) hts inX4 (hts _ ist4_in)
  obtain ⟨c5, i5, k5⟩ := u_known (C := RX5) (T := TX5) (N := 3) (n := 3) hts inX5 (hts _ ist5_in)
  obtain ⟨c6, i6, k6⟩ := u_known (C := RX6) (T := TX6) (N := 2) (n := 2) hts inX6 (hts _ ist6_in)
  obtain ⟨c7, i7, k7⟩ := u_known (C := RX7) (T := TX7) (N := 9) (n := 9) hts inX7 (hts _ ist7_in)
  obtain ⟨c8, i8, k8⟩ := u_known (C := RX8) (T := TX8) (N := 15) (n := 15) hts inX8 (hts _ ist8_in)
  obtain ⟨a0, f0, m0, q1, q2, q3⟩ := Cond.arrayClass_spec (hts _ acl_in)
  obtain ⟨m1, a1, f1, r1, r2, r3, r4, r5⟩ := Cond.arrayOver_spec (hts _ aov_in)
  obtain ⟨m2, a2, f2, u1, u2, u3, u4, u5⟩ := arrayOverA_spec (hts _ aoa_in)
  obtain ⟨t0, T0⟩ := st_tb0 C0
  obtain ⟨t1, T1⟩ := st_tb1 C0
  obtain ⟨t2, T2⟩ := st_tb2 C0
  refine ⟨(fun k => [c0, c1, c2, c3, c4, c5, c6, c7, c8].getD k c0, fun k => [i0, i1, i2, i3, i4, i5, i6, i7, i8].getD k i0), fun k => [a0, a1, a2].getD k a0, fun k => [t0, t1, t2].getD k t0, ⟨?_, ?_⟩, ⟨⟨fun q hq => va_Nw.of rfl (hts _ (nwF_in q hq)), fun q hq => va_Nw.of rfl (hts _ (nwM_in q hq))⟩, T0, T1, T2⟩, hts _ aov_in, arrayOver_alikeB (args' := #[]) (first' := s) (o' := none) (idx' := []) (Vm.Alike.refl s.vm) (hts _ aoa_in)⟩
  · intro k q hq
    match k, hq with
    | 0, hq => cases hq; exact k0
    | 1, hq => cases hq; exact k1
    | 2, hq => cases hq; exact k2
    | 3, hq => cases hq; exact k3
    | 4, hq => cases hq; exact k4
    | 5, hq => cases hq; exact k5
    | 6, hq => cases hq; exact k6
    | 7, hq => cases hq; exact k7
    | 8, hq => cases hq; exact k8
    | k + 9, hq => cases hq
  · intro k q hq
    match k, hq with
    | 0, hq => cases hq; exact ⟨fun n z => ⟨fun k h => (by cases h), f0, q2, m0, q3⟩, q1⟩
    | 1, hq => cases hq; exact ⟨fun n z => ⟨fun k h => (by cases h), f1, r3, m1, r4⟩, f1, m1, r3, r4, r1, r5⟩
    | 2, hq => cases hq; exact ⟨fun n z => ⟨fun k h => (by cases h), f2, u3, m2, u4⟩, u5⟩
    | k + 3, hq => cases hq
