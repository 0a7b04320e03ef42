/-! ===== one street, told twice ===== -/
theorem tb_mul2 (o i k : Nat) : (o * 2 ^ i).testBit k = (decide (i ≤ k) && o.testBit (k - i)) := by
  rw [← Nat.shiftLeft_eq, Nat.testBit_shiftLeft]
theorem tb_div2 (o i k : Nat) : (o / 2 ^ i).testBit k = o.testBit (i + k) := by
  rw [← Nat.shiftRight_eq_div_pow, Nat.testBit_shiftRight]
/-- what every street of a run is like -/
def Ok (x : Sg) : Prop := Wk x ∧ (∀ k, k < Sn x → 1 ≤ SK x k ∧ SK x k ≤ 5) ∧ So x < 2 ^ Sn x
/-- the same of the reference's regions, where what lies behind the windows is small, too -/
def OkS (x : Sg) : Prop := Wf x ∧ (∀ k, k < Sn x → 1 ≤ SK x k ∧ SK x k ≤ 5) ∧ So x < 2 ^ Sn x
theorem OkS.k {x : Sg} (h : OkS x) : Ok x := ⟨h.1.k, h.2⟩
theorem ruler_tb {o n k : Nat} (h : o < 2 ^ n) : (o * 2 ^ 1 ||| o / 2 ^ 1).testBit k = ((decide (0 < k) && o.testBit (k - 1)) || (decide (k + 1 < n) && o.testBit (k + 1))) := by
  rw [Nat.testBit_or, tb_mul2, tb_div2, Nat.add_comm 1 k]
  congr 1
  by_cases q : k + 1 < n
  · rw [decide_eq_true q]; rfl
  · rw [decide_eq_false q, tb_lt h (by omega)]; rfl
theorem would_eq {x : Sg} (h : Ok x) {k : Nat} (hk : k < Sn x) : wouldM x k = wouldF x k (dateF x) := by
  obtain ⟨-, h2, h3⟩ := h
  have hkd := h2 k hk
  unfold wouldM wouldF tightM
  have c : SK x k = 1 ∨ SK x k = 2 ∨ SK x k = 3 ∨ SK x k = 4 ∨ SK x k = 5 := by omega
  rcases c with c | c | c | c | c
  · rw [c]; rfl
  · rw [c]; rfl
  · rw [c]; rfl
  · rw [c]; rfl
  · rw [c, ruler_tb h3, ← Bool.or_assoc]; rfl
theorem passO_eq {x : Sg} (h : Ok x) : passO x = openF x (dateF x) (allF x) := by
  unfold passO openF
  refine mkb_congr (fun k hk => ?_)
  unfold passP openP
  rw [would_eq h hk, andn_tb, show (allF x).testBit k = true from by unfold allF; rw [Nat.testBit_two_pow_sub_one]; exact decide_eq_true hk]
  rfl
theorem near_tb {x : Sg} {k j : Nat} (hj : j < Sn x) : (nearF x (2 ^ k)).testBit j = (decide (¬ j = k) && decide (gapN j k ≤ Sv x)) := by
  unfold nearF
  rw [Nat.testBit_and, show (allF x).testBit j = true from by unfold allF; rw [Nat.testBit_two_pow_sub_one]; exact decide_eq_true hj, Bool.and_true, Bool.eq_iff_iff, nearL, orN_tb, Bool.and_eq_true, decide_eq_true_eq, decide_eq_true_eq]
  constructor
  · rintro ⟨i, hi, q⟩
    rw [Nat.testBit_or, ← Nat.pow_add, tb_div2, Nat.testBit_two_pow, Nat.testBit_two_pow, Bool.or_eq_true, decide_eq_true_eq, decide_eq_true_eq] at q
    refine ⟨by omega, ?_⟩
    unfold gapN
    split <;> omega
  · rintro ⟨a, b⟩
    unfold gapN at b
    by_cases q : j < k
    · rw [if_pos q] at b
      refine ⟨k - j - 1, by omega, ?_⟩
      rw [Nat.testBit_or, ← Nat.pow_add, tb_div2, Nat.testBit_two_pow, Nat.testBit_two_pow, Bool.or_eq_true, decide_eq_true_eq, decide_eq_true_eq]
      omega
    · rw [if_neg q] at b
      refine ⟨j - k - 1, by omega, ?_⟩
      rw [Nat.testBit_or, ← Nat.pow_add, tb_div2, Nat.testBit_two_pow, Nat.testBit_two_pow, Bool.or_eq_true, decide_eq_true_eq, decide_eq_true_eq]
      omega
theorem look_eq {x : Sg} {k : Nat} : lookM x k = lookS x k := by
  unfold lookM lookS picsF
  congr 1
  refine orN_congr (fun j hj => ?_)
  unfold seeT picT
  rw [Nat.testBit_and, near_tb hj]
  by_cases e : j = k
  · rw [if_pos e, decide_eq_false (not_not_intro e)]
    simp
  · rw [if_neg e, decide_eq_true e]
    by_cases g : gapN j k ≤ Sv x
    · rw [if_pos g, decide_eq_true g]
      simp
    · rw [if_neg g, decide_eq_false g]
      simp
/-- the same up to what lies behind the windows -/
def Eqv (x y : Sg) : Prop := Sn x = Sn y ∧ Se x = Se y ∧ Sv x = Sv y ∧ St x = St y ∧ So x = So y ∧ ∀ k, k < Sn x → SK x k = SK y k ∧ SP x k = SP y k ∧ SD x k = SD y k ∧ SG x k = SG y k ∧ SS x k = SS y k
theorem Eqv.refl (x : Sg) : Eqv x x := ⟨rfl, rfl, rfl, rfl, rfl, fun _ _ => ⟨rfl, rfl, rfl, rfl, rfl⟩⟩
theorem Eqv.symm {x y : Sg} (h : Eqv x y) : Eqv y x := by
  obtain ⟨a, b, c, d, e, f⟩ := h
  exact ⟨a.symm, b.symm, c.symm, d.symm, e.symm, fun k hk => by
    obtain ⟨f1, f2, f3, f4, f5⟩ := f k (by omega)
    exact ⟨f1.symm, f2.symm, f3.symm, f4.symm, f5.symm⟩⟩
theorem Eqv.trans {x y z : Sg} (h : Eqv x y) (g : Eqv y z) : Eqv x z := by
  obtain ⟨a, b, c, d, e, f⟩ := h
  obtain ⟨a', b', c', d', e', f'⟩ := g
  exact ⟨a.trans a', b.trans b', c.trans c', d.trans d', e.trans e', fun k hk => by
    obtain ⟨f1, f2, f3, f4, f5⟩ := f k hk
    obtain ⟨g1, g2, g3, g4, g5⟩ := f' k (by omega)
    exact ⟨f1.trans g1, f2.trans g2, f3.trans g3, f4.trans g4, f5.trans g5⟩⟩
theorem Eqv.date {x y : Sg} (h : Eqv x y) : dateF x = dateF y := by
  unfold dateF
  rw [h.2.1, h.2.2.2.1]
theorem Eqv.all {x y : Sg} (h : Eqv x y) : allF x = allF y := by unfold allF; rw [h.1]
theorem Eqv.would {x y : Sg} (h : Eqv x y) {k d : Nat} (hk : k < Sn x) : wouldF x k d = wouldF y k d := by
  obtain ⟨a, b, c, d1, e, f⟩ := h
  obtain ⟨f1, f2, f3, f4, f5⟩ := f k hk
  unfold wouldF
  rw [f1, f3, f4, e]
theorem Eqv.opening {x y : Sg} (h : Eqv x y) (d part : Nat) : openF x d part = openF y d part := by
  unfold openF
  rw [← h.1]
  refine mkb_congr (fun k hk => ?_)
  unfold openP
  rw [h.would hk, h.2.2.2.2.1]
theorem Eqv.near {x y : Sg} (h : Eqv x y) (s : Nat) : nearF x s = nearF y s := by unfold nearF; rw [h.2.2.1, h.all]
theorem Eqv.pics {x y : Sg} (h : Eqv x y) (s : Nat) : picsF x s = picsF y s := by
  unfold picsF
  rw [← h.1]
  refine orN_congr (fun k hk => ?_)
  unfold picT
  rw [(h.2.2.2.2.2 k hk).2.1]
theorem Eqv.o {x y : Sg} (h : Eqv x y) (o : Nat) : Eqv (wO x o) (wO y o) := ⟨h.1, h.2.1, h.2.2.1, h.2.2.2.1, rfl, h.2.2.2.2.2⟩
theorem Eqv.t {x y : Sg} (h : Eqv x y) (t : Nat) : Eqv (wT x t) (wT y t) := ⟨h.1, h.2.1, h.2.2.1, rfl, h.2.2.2.2.1, h.2.2.2.2.2⟩
theorem Eqv.g {x y : Sg} (h : Eqv x y) {g g' : Nat → Nat} (hg : ∀ k, k < Sn x → g k = g' k) : Eqv (wG x g) (wG y g') := ⟨h.1, h.2.1, h.2.2.1, h.2.2.2.1, h.2.2.2.2.1, fun k hk => ⟨(h.2.2.2.2.2 k hk).1, (h.2.2.2.2.2 k hk).2.1, (h.2.2.2.2.2 k hk).2.2.1, hg k hk, (h.2.2.2.2.2 k hk).2.2.2.2⟩⟩
theorem Eqv.s {x y : Sg} (h : Eqv x y) {g g' : Nat → Nat} (hg : ∀ k, k < Sn x → g k = g' k) : Eqv (wS x g) (wS y g') := ⟨h.1, h.2.1, h.2.2.1, h.2.2.2.1, h.2.2.2.2.1, fun k hk => ⟨(h.2.2.2.2.2 k hk).1, (h.2.2.2.2.2 k hk).2.1, (h.2.2.2.2.2 k hk).2.2.1, (h.2.2.2.2.2 k hk).2.2.2.1, hg k hk⟩⟩
theorem Eqv.d {x y : Sg} (h : Eqv x y) {g g' : Nat → Nat} (hg : ∀ k, k < Sn x → g k = g' k) : Eqv (wD x g) (wD y g') := ⟨h.1, h.2.1, h.2.2.1, h.2.2.2.1, h.2.2.2.2.1, fun k hk => ⟨(h.2.2.2.2.2 k hk).1, (h.2.2.2.2.2 k hk).2.1, hg k hk, (h.2.2.2.2.2 k hk).2.2.2.1, (h.2.2.2.2.2 k hk).2.2.2.2⟩⟩
theorem Eqv.lookE {x y : Sg} (h : Eqv x y) {k : Nat} (hk : k < Sn x) : lookS x k = lookS y k := by
  unfold lookS
  rw [(h.2.2.2.2.2 k hk).2.2.2.2, h.2.2.2.2.1, h.near, h.pics]
theorem Eqv.look {x y : Sg} (h : Eqv x y) : Eqv (lookF x) (lookF y) := by
  unfold lookF
  rw [h.2.2.2.2.1, h.2.2.1]
  split
  · exact h
  · refine h.s (fun k hk => ?_)
    unfold don
    rw [if_pos hk, if_pos (by rw [← h.1]; exact hk)]
    exact h.lookE hk
theorem Eqv.wear {x y : Sg} (h : Eqv x y) (s : Nat) : Eqv (wearF x s) (wearF y s) := by
  unfold wearF
  refine h.g (fun k hk => ?_)
  unfold don wearG
  rw [if_pos hk, if_pos (show k < Sn y by rw [← h.1]; exact hk), (h.2.2.2.2.2 k hk).2.2.2.1]
theorem Eqv.close {x y : Sg} (h : Eqv x y) (d op : Nat) : Eqv (closeF x d op) (closeF y d op) := by
  unfold closeF
  rw [← h.2.1, ← h.2.2.2.2.1, ← h.2.2.2.1]
  split
  · exact ((h.wear _).o 0).t _
  · exact (h.wear _).t _
theorem Eqv.turn {x y : Sg} (h : Eqv x y) : Eqv (turnF x) (turnF y) := by
  unfold turnF
  rw [← h.date, ← h.all, ← h.opening, ← h.2.2.2.2.1]
  exact ((h.o _).look).close _ _
theorem Eqv.turnU {x y : Sg} (h : Eqv x y) (p : Nat) : Eqv (turnU x p) (turnU y p) := by
  unfold Jvm.Pilot.CAdventStreetsLaw_law_r6393_05b98b.turnU
  rw [← h.date, ← h.opening, ← h.2.2.2.2.1]
  exact (h.o _).close _ _
theorem Eqv.turnN {x y : Sg} (h : Eqv x y) : ∀ i, Eqv (turnN x i) (turnN y i)
  | 0 => h
  | i + 1 => (Eqv.turnN h i).turn

/-! ===== the reference's turn is the street's ===== -/
theorem orN_zero {n : Nat} {f : Nat → Nat} (h : ∀ k, k < n → f k = 0) : orN n f = 0 := by
  induction n with
  | zero => rfl
  | succ n ih => rw [orN, ih (fun k hk => h k (by omega)), h n (by omega)]; rfl
theorem pics_0 (x : Sg) : picsF x 0 = 0 := orN_zero (fun k _ => by unfold picT; rw [Nat.zero_testBit, if_neg (by simp)])
theorem lookS_0 {x : Sg} (h : So x = 0 ∨ Sv x = 0) (k : Nat) : lookS x k = SS x k := by
  unfold lookS
  have : So x &&& nearF x (2 ^ k) = 0 := by
    rcases h with q | q
    · rw [q, Nat.zero_and]
    · unfold nearF nearL
      rw [q, orN, Nat.zero_and, Nat.and_zero]
  rw [this, pics_0, Nat.or_zero]
theorem sg_up4 {Z : Nat → Nat} {r o : Nat} : Eqv (sg (upN Z (r + 4) o) r) (wO (sg Z r) o) := ⟨upN_n (by omega), upN_n (by omega), upN_n (by omega), upN_n (by omega), upN_s, fun k _ => ⟨upN_n (by omega), upN_n (by omega), upN_n (by omega), upN_n (by omega), upN_n (by omega)⟩⟩
theorem sg_up3 {Z : Nat → Nat} {r o : Nat} : Eqv (sg (upN Z (r + 3) o) r) (wT (sg Z r) o) := ⟨upN_n (by omega), upN_n (by omega), upN_n (by omega), upN_s, upN_n (by omega), fun k _ => ⟨upN_n (by omega), upN_n (by omega), upN_n (by omega), upN_n (by omega), upN_n (by omega)⟩⟩
theorem lk_eqv {Z : Nat → Nat} {r : Nat} (hn : Z r ≤ 10) : Eqv (sg (lkW Z r) r) (lookF (sg Z r)) := by
  have e : Eqv (sg (lkW Z r) r) (wS (sg Z r) (don (Z r) (lookS (sg Z r)) (SS (sg Z r)))) := by
    refine ⟨lkW_o (by omega), lkW_o (by omega), lkW_o (by omega), lkW_o (by omega), lkW_o (by omega), fun k hk => ?_⟩
    have hk : k < Z r := by rw [show Sn (sg (lkW Z r) r) = Z r from lkW_o (by omega)] at hk; exact hk
    refine ⟨lkW_o (by omega), lkW_o (by omega), lkW_o (by omega), lkW_o (by omega), ?_⟩
    show rg Z (r + 45) (Z r) (lookM (sg Z r)) (r + 45 + k) = don (Z r) (lookS (sg Z r)) (SS (sg Z r)) k
    rw [rg_in hk, look_eq]
    unfold don
    rw [if_pos hk]
  unfold lookF
  split
  · rename_i h0
    refine e.trans ⟨rfl, rfl, rfl, rfl, rfl, fun k hk => ⟨rfl, rfl, rfl, rfl, ?_⟩⟩
    show don (Z r) (lookS (sg Z r)) (SS (sg Z r)) k = SS (sg Z r) k
    unfold don
    rw [lookS_0 h0]
    split <;> rfl
  · exact e
theorem wr_eqv {Z : Nat → Nat} {r v : Nat} (hn : Z r ≤ 10) : Eqv (sg (wrW Z r v) r) (wearF (sg Z r) v) := by
  refine ⟨wrW_o (by omega), wrW_o (by omega), wrW_o (by omega), wrW_o (by omega), wrW_o (by omega), fun k hk => ?_⟩
  have hk : k < Z r := by rw [show Sn (sg (wrW Z r v) r) = Z r from wrW_o (by omega)] at hk; exact hk
  refine ⟨wrW_o (by omega), wrW_o (by omega), wrW_o (by omega), ?_, rg_out (by omega)⟩
  show rg Z (r + 35) (Z r) (wearG (sg Z r) v) (r + 35 + k) = don (Z r) (wearG (sg Z r) v) (SG (sg Z r)) k
  rw [rg_in hk]
  unfold don
  rw [if_pos hk]
theorem pass_eqv {Z : Nat → Nat} {r : Nat} (h : Ok (sg Z r)) : Eqv (sg (passW Z r) r) (turnF (sg Z r)) := by
  have hn : Z r ≤ 10 := h.1.1
  have eo := passO_eq h
  have e1 : Eqv (sg (pass1 Z r) r) (lookF (wO (sg Z r) (So (sg Z r) ||| passO (sg Z r)))) := by
    unfold pass1
    exact (lk_eqv (by rw [upN_n (by omega)]; exact hn)).trans sg_up4.look
  have hn1 : pass1 Z r r ≤ 10 := by unfold pass1; rw [lkW_o (by omega), upN_n (by omega)]; exact hn
  unfold turnF
  rw [← eo]
  have s1 : Se (lookF (wO (sg Z r) (So (sg Z r) ||| passO (sg Z r)))) = Z (r + 1) := by unfold lookF; split <;> rfl
  have s2 : So (lookF (wO (sg Z r) (So (sg Z r) ||| passO (sg Z r)))) = Z (r + 4) ||| passO (sg Z r) := by unfold lookF; split <;> rfl
  have s3 : St (lookF (wO (sg Z r) (So (sg Z r) ||| passO (sg Z r)))) = Z (r + 3) := by unfold lookF; split <;> rfl
  unfold passW closeF
  rw [s1, s2, s3]
  split
  · exact sg_up3.trans ((sg_up4.trans (((wr_eqv hn1).trans (e1.wear _)).o 0)).t _)
  · exact sg_up3.trans (((wr_eqv hn1).trans (e1.wear _)).t _)
theorem Ok.turn {x : Sg} (h : Ok x) : Ok (turnF x) := by
  obtain ⟨h1, h2, h3⟩ := h
  refine ⟨h1.turn, ?_, ?_⟩
  · have e1 : ∀ d op y, Sn (closeF y d op) = Sn y ∧ SK (closeF y d op) = SK y := fun d op y => by unfold closeF; split <;> exact ⟨rfl, rfl⟩
    have e2 : ∀ y, Sn (lookF y) = Sn y ∧ SK (lookF y) = SK y := fun y => by unfold lookF; split <;> exact ⟨rfl, rfl⟩
    unfold turnF
    rw [(e1 _ _ _).1, (e1 _ _ _).2, (e2 _).1, (e2 _).2]
    exact h2
  · have e1 : ∀ d op y, So y < 2 ^ Sn y → So (closeF y d op) < 2 ^ Sn (closeF y d op) := fun d op y hy => by
      unfold closeF
      split
      · exact Nat.two_pow_pos _
      · exact hy
    have e2 : ∀ y, So y < 2 ^ Sn y → So (lookF y) < 2 ^ Sn (lookF y) := fun y hy => by unfold lookF; split <;> exact hy
    unfold turnF
    exact e1 _ _ _ (e2 _ (Nat.or_lt_two_pow h3 (mkb_lt _ _)))
theorem Ok.eqv {x y : Sg} (h : Ok x) (e : Eqv x y) (hw : Wf y) : OkS y := by
  refine ⟨hw, fun k hk => ?_, ?_⟩
  · rw [← (e.2.2.2.2.2 k (by rw [e.1]; exact hk)).1]
    exact h.2.1 k (by rw [e.1]; exact hk)
  · rw [← e.2.2.2.2.1, ← e.1]
    exact h.2.2
theorem cp_eqv {Z : Nat → Nat} {fr tw : Nat} (hn : Z fr ≤ 10) : Eqv (sg (cpW Z fr tw) tw) (sg Z fr) := by
  have e : ∀ k, k < 55 → cpW Z fr tw (tw + k) = Z (fr + k) := fun k hk => rg_in hk
  refine ⟨e 0 (by decide), e 1 (by decide), e 2 (by decide), e 3 (by decide), e 4 (by decide), fun k hk => ?_⟩
  have hk : k < 10 := by rw [show Sn (sg (cpW Z fr tw) tw) = Z fr from e 0 (by decide)] at hk; omega
  refine ⟨?_, ?_, ?_, ?_, ?_⟩
  · show cpW Z fr tw (tw + 5 + k) = Z (fr + 5 + k); rw [Nat.add_assoc, e _ (by omega), Nat.add_assoc]
  · show cpW Z fr tw (tw + 15 + k) = Z (fr + 15 + k); rw [Nat.add_assoc, e _ (by omega), Nat.add_assoc]
  · show cpW Z fr tw (tw + 25 + k) = Z (fr + 25 + k); rw [Nat.add_assoc, e _ (by omega), Nat.add_assoc]
  · show cpW Z fr tw (tw + 35 + k) = Z (fr + 35 + k); rw [Nat.add_assoc, e _ (by omega), Nat.add_assoc]
  · show cpW Z fr tw (tw + 45 + k) = Z (fr + 45 + k); rw [Nat.add_assoc, e _ (by omega), Nat.add_assoc]
theorem cp_wf {Z : Nat → Nat} {fr tw : Nat} (h : Wf (sg Z fr)) : Wf (sg (cpW Z fr tw) tw) := by
  have e : ∀ k, k < 55 → cpW Z fr tw (tw + k) = Z (fr + k) := fun k hk => rg_in hk
  obtain ⟨a, b, d, f, g⟩ := wfW h
  refine wf_mk (by rw [show cpW Z fr tw tw = Z fr from e 0 (by decide)]; exact a) (by rw [e 1 (by decide)]; exact b) (by rw [e 2 (by decide)]; exact d) (by rw [e 4 (by decide)]; exact f) (fun k hk => ?_)
  rw [Nat.add_assoc, e _ (by omega), Nat.add_assoc tw 15, e _ (by omega), Nat.add_assoc tw 25, e _ (by omega), Nat.add_assoc tw 35, e _ (by omega), Nat.add_assoc tw 45, e _ (by omega), ← Nat.add_assoc, ← Nat.add_assoc, ← Nat.add_assoc, ← Nat.add_assoc, ← Nat.add_assoc]
  exact g k hk
/-- region r of the reference's ints is the street x -/
def Sim (Z : Nat → Nat) (r : Nat) (x : Sg) : Prop := Eqv (sg Z r) x ∧ OkS (sg Z r) ∧ Ok x
theorem Sim.pass {Z : Nat → Nat} {r : Nat} {x : Sg} (h : Sim Z r x) : Sim (passW Z r) r (turnF x) := by
  obtain ⟨a, b, d⟩ := h
  have e := (pass_eqv b.k).trans a.turn
  exact ⟨e, (b.k.turn).eqv (pass_eqv b.k).symm (passW_ok b.1).1, d.turn⟩
theorem Sim.copy {Z : Nat → Nat} {fr : Nat} {x : Sg} (h : Sim Z fr x) (tw : Nat) : Sim (cpW Z fr tw) tw x := by
  obtain ⟨a, b, d⟩ := h
  have e := cp_eqv (tw := tw) b.1.1
  exact ⟨e.trans a, b.k.eqv e.symm (cp_wf b.1), d⟩
