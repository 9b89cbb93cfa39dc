/-! many: the counts -/
theorem lb_cancE {h : lh_HS} (I : lh_I h) (R : lh_RM h) : ∀ n i a, i + n ≤ lh_N h 4 → LX9_cancelled h n i a = LX0_countCancelled h n i a := by
  have hM := I.1.2.2.1.2
  intro n
  induction n with
  | zero => intro i a hi; rfl
  | succ n ih =>
    intro i a hi
    obtain ⟨p0, p1, p2, p3, p4, p5⟩ := lh_bk I R (j := i) (by omega)
    obtain ⟨r0, r1, r2, r3, r4⟩ := R.2.2.2.1 i (by omega)
    simp only [LX9_cancelled, LX0_countCancelled]
    rw [p4, p5, r4, ih _ _ (by omega)]
    rcases (I.2.2.2.1 i (by omega)).2.2.2.2 with q | q
    · rw [q, if_pos rfl, Int32.add_zero]
    · rw [q, if_neg (by decide)]
theorem lb_readE {h : lh_HS} (I : lh_I h) (R : lh_RM h) : ∀ n i a, i + n ≤ lh_N h 2 * 10 → LX9_readMany h n i a = LX4_countReadings h n i a := by
  have hM := I.1.1.2
  intro n
  induction n with
  | zero => intro i a hi; rfl
  | succ n ih =>
    intro i a hi
    have hr : i / 10 < lh_N h 2 := by omega
    have w := (I.2.1 (i / 10) hr).2 (i % 10) (by omega)
    have v := (R.2.1 (i / 10) hr).2 (i % 10) (by omega)
    rw [show i / 10 * 10 + i % 10 = i from by omega] at w v
    rw [show 10 * (i / 10) + i % 10 = i from by omega] at v
    simp only [LX9_readMany, LX4_countReadings]
    rw [nI_clamp (by omega), v, ih _ _ (by omega), ih _ _ (by omega), Int32.add_zero]
    by_cases c : h 8 i = -1
    · rw [if_pos c, if_pos ((lh_neg1 w).mpr c)]
    · rw [if_neg c, if_neg (fun z => c ((lh_neg1 w).mp z))]
/-- counts over the sheets, each looked up -/
def lb_cnt (f : Nat → Int32) : Nat → Nat → Int32 → Int32
  | 0, _, a => a
  | n + 1, i, a => lb_cnt f n (i + 1) (a + f i)
theorem lb_qc {h : lh_HS} (I : lh_I h) : ∀ n i a g, lh_q h g → LX3_countQuarrels n i a g = lb_cnt (fun i => lb_q h (nI i)) n i a ∧ lh_q h (LX3_countQuarrels_h n i a g) := by
  intro n
  induction n with
  | zero => intro i a g x; exact ⟨rfl, x⟩
  | succ n ih =>
    intro i a g x
    have o2 := (lb_open (I.fr x.fr) (nI i)).2.1
    rw [lb_q_fr x.fr] at o2
    have x' := x.tr (lh_q.openAt g (nI i))
    simp only [LX3_countQuarrels, LX3_countQuarrels_h, lb_cnt]
    rw [o2]
    by_cases c : lb_q h (nI i) = 0
    · rw [if_pos c, if_pos c, c, Int32.add_zero]; exact ih _ _ _ x'
    · have c1 : lb_q h (nI i) = 1 := by
        have z := lb_q01 h (nI i)
        rw [if_neg c] at z
        exact z.symm
      rw [if_neg c, if_neg c, c1]; exact ih _ _ _ x'
theorem lb_q9 {h : lh_HS} (I : lh_I h) (R : lh_RM h) (S : lh_ST h) : ∀ n i a g, i + n ≤ lh_N h 3 → lh_q h g → LX9_quarrels n i a g = lb_cnt (fun i => lb_q h (nI i)) n i a ∧ lh_q h (LX9_quarrels_h n i a g) := by
  have hM := I.1.2.1.2
  intro n
  induction n with
  | zero => intro i a g hi x; exact ⟨rfl, x⟩
  | succ n ih =>
    intro i a g hi x
    obtain ⟨x1, -⟩ := lb_ref I R S x.fm (s := nI i) ⟨i, by omega, rfl⟩
    have is1 : ¬ fX9_is g 1 (nI i) = 0 := by
      show ¬ fX9_in g (nI i) 0 (g 38 1 - 1) = 0
      rw [x.row (q := 38) (by decide), R.1.2.1, lh_is_eq I.1.2.1.1 (by omega)]
      rw [lh_has_iff I.1.2.1.1 (by omega)]
      exact fun z => z ⟨i, by omega, rfl⟩
    have i5 : ¬ fX9_in g 5 0 7 = 0 := by
      show ¬ (if (5 : Int32) < 0 then (0 : Int32) else if (7 : Int32) < 5 then 0 else 1) = 0
      decide
    have eg : gX9_of g (nI i) 5 = gX9_findPast g (nI i) := by
      unfold gX9_of
      rw [if_neg is1, if_neg i5, if_pos (by decide), if_neg (by decide), if_pos rfl]
    have ef : fX9_of g (nI i) 5 = lb_q h (nI i) := by
      unfold fX9_of
      rw [if_neg is1, if_neg i5, if_pos (by decide), if_neg (by decide), if_pos rfl, x1, lb_q01]
    simp only [LX9_quarrels, LX9_quarrels_h, lb_cnt]
    rw [eg, ef]
    exact ih _ _ _ (by omega) (x.tr (lh_q.findPast g (nI i)))
theorem lb_oc {h : lh_HS} (I : lh_I h) : ∀ n i a g, i + n ≤ 100 → lh_q h g → LX3_countOverspent n i a g = lb_cnt (fun i => if 0 ≤ h 9 i - lb_sp h (nI i) 9 1 then 0 else 1) n i a ∧ lh_q h (LX3_countOverspent_h n i a g) := by
  intro n
  induction n with
  | zero => intro i a g hi x; exact ⟨rfl, x⟩
  | succ n ih =>
    intro i a g hi x
    have o2 := (lb_cls (I.fr x.fr) (nI i)).2 0
    rw [if_pos rfl, lb_sp_fr' x.fr, x.row (q := 9) (by decide), nI_clamp (by omega)] at o2
    have x' := x.tr (lh_q.openAt g (nI i))
    simp only [LX3_countOverspent, LX3_countOverspent_h, lb_cnt]
    rw [o2]
    by_cases c : 0 ≤ h 9 i - lb_sp h (nI i) 9 1
    · rw [if_pos c, if_pos c, if_pos c, Int32.add_zero]; exact ih _ _ _ (by omega) x'
    · rw [if_neg c, if_neg c, if_neg c]; exact ih _ _ _ (by omega) x'
theorem lb_o9 {h : lh_HS} (I : lh_I h) (R : lh_RM h) (S : lh_ST h) : ∀ n i a g, i + n ≤ lh_N h 3 → lh_q h g → LX9_overspent n i a g = lb_cnt (fun i => if 0 ≤ h 9 i - lb_sp h (nI i) 9 1 then 0 else 1) n i a ∧ lh_q h (LX9_overspent_h n i a g) := by
  have hM := I.1.2.1.2
  intro n
  induction n with
  | zero => intro i a g hi x; exact ⟨rfl, x⟩
  | succ n ih =>
    intro i a g hi x
    obtain ⟨-, -, -, -, x5, -⟩ := lb_ref I R S x.fm (s := nI i) ⟨i, by omega, rfl⟩
    rw [nI_clamp (by omega)] at x5
    have x' := x.tr (lh_q.leastLeft g (nI i))
    simp only [LX9_overspent, LX9_overspent_h, lb_cnt]
    rw [x5]
    by_cases c : 0 ≤ h 9 i - lb_sp h (nI i) 9 1
    · rw [if_pos c, if_pos c, if_pos c]; exact ih _ _ _ (by omega) x'
    · rw [if_neg c, if_neg c, if_neg c]; exact ih _ _ _ (by omega) x'
theorem op_many {k : Bool} {h : lh_HS} (L : lh_INV k h) (a : Int32) : lh_J (gX8_many h a) ∧ fX8_many h a = fX9_many (gX8_many h a) a ∧ lh_INV k (gX9_many (gX8_many h a) a) := by
  have I := L.1
  have R := L.2.2.2.1
  have hN := I.1.2.1.2
  by_cases d6 : a = 6
  · subst d6
    have eg : gX8_many h 6 = gX3_countQuarrels h := by
      unfold gX8_many
      rw [if_neg (by decide), if_neg (by decide), if_neg (by decide), if_neg (by decide), if_neg (by decide), if_neg (by decide), if_pos rfl]
    have ef : fX8_many h 6 = fX3_countQuarrels h := by
      unfold fX8_many
      rw [if_neg (by decide), if_neg (by decide), if_neg (by decide), if_neg (by decide), if_neg (by decide), if_neg (by decide), if_pos rfl]
    rw [eg, ef]
    unfold gX3_countQuarrels fX3_countQuarrels
    obtain ⟨q1, q2⟩ := lb_qc I (lh_N h 3) 0 0 h (lh_q.rf h)
    rw [q1]
    generalize LX3_countQuarrels_h (lh_N h 3) 0 0 h = h1 at *
    have L1 := q2.INV L
    have e9 : gX9_many h1 6 = gX9_quarrels h1 := by
      unfold gX9_many
      rw [if_neg (by decide), if_neg (by decide), if_neg (by decide), if_neg (by decide), if_neg (by decide), if_neg (by decide), if_pos rfl]
    have f9 : fX9_many h1 6 = fX9_quarrels h1 := by
      unfold fX9_many
      rw [if_neg (by decide), if_neg (by decide), if_neg (by decide), if_neg (by decide), if_neg (by decide), if_neg (by decide), if_pos rfl]
    rw [e9, f9]
    unfold gX9_quarrels fX9_quarrels
    rw [q2.fm.m, R.m.2.1]
    obtain ⟨z1, z2⟩ := lb_q9 I R L.2.2.2.2.1 (lh_N h 3) 0 0 h1 (by omega) q2
    exact ⟨L1.J, z1.symm, z2.INV L⟩
  by_cases d7 : a = 7
  · subst d7
    have eg : gX8_many h 7 = gX3_countOverspent h := by
      unfold gX8_many
      rw [if_neg (by decide), if_neg (by decide), if_neg (by decide), if_neg (by decide), if_neg (by decide), if_neg (by decide), if_neg (by decide), if_pos rfl]
    have ef : fX8_many h 7 = fX3_countOverspent h := by
      unfold fX8_many
      rw [if_neg (by decide), if_neg (by decide), if_neg (by decide), if_neg (by decide), if_neg (by decide), if_neg (by decide), if_neg (by decide), if_pos rfl]
    rw [eg, ef]
    unfold gX3_countOverspent fX3_countOverspent
    obtain ⟨q1, q2⟩ := lb_oc I (lh_N h 3) 0 0 h (by omega) (lh_q.rf h)
    rw [q1]
    generalize LX3_countOverspent_h (lh_N h 3) 0 0 h = h1 at *
    have L1 := q2.INV L
    have e9 : gX9_many h1 7 = gX9_overspent h1 := by
      unfold gX9_many
      rw [if_neg (by decide), if_neg (by decide), if_neg (by decide), if_neg (by decide), if_neg (by decide), if_neg (by decide), if_neg (by decide), if_pos rfl]
    have f9 : fX9_many h1 7 = fX9_overspent h1 := by
      unfold fX9_many
      rw [if_neg (by decide), if_neg (by decide), if_neg (by decide), if_neg (by decide), if_neg (by decide), if_neg (by decide), if_neg (by decide), if_pos rfl]
    rw [e9, f9]
    unfold gX9_overspent fX9_overspent
    rw [q2.fm.m, R.m.2.1]
    obtain ⟨z1, z2⟩ := lb_o9 I R L.2.2.2.2.1 (lh_N h 3) 0 0 h1 (by omega) q2
    exact ⟨L1.J, z1.symm, z2.INV L⟩
  have eg : gX8_many h a = h := by
    unfold gX8_many
    rw [if_neg d6, if_neg d7]
    simp only [ite_self]
  have e9 : gX9_many h a = h := by
    unfold gX9_many
    rw [if_neg d6, if_neg d7]
    simp only [ite_self]
  rw [eg, e9]
  refine ⟨L.J, ?_, L⟩
  unfold fX8_many fX9_many
  rw [if_neg d6, if_neg d7, if_neg d6, if_neg d7, R.1.1, R.1.2.1, R.1.2.2.1, R.1.2.2.2.1, R.1.2.2.2.2]
  have ec : fX9_cancelled h = fX0_countCancelled h := by
    unfold fX9_cancelled fX0_countCancelled
    rw [R.m.2.2.1, lb_cancE I R _ 0 0 (by omega)]
  have er : fX9_readMany h = fX4_countReadings h := by
    unfold fX9_readMany fX4_countReadings
    rw [R.m.1, Nat.mul_comm, lb_readE I R _ 0 0 (by omega)]
  rw [ec, er]
