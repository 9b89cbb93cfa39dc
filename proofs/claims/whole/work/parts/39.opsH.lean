/-! bounds -/
theorem lh_add_i {a b : Int32} {A B : Int} (ha : 0 ≤ a.toInt ∧ a.toInt ≤ A) (hb : 0 ≤ b.toInt ∧ b.toInt ≤ B) (h : A + B < 2 ^ 31) : 0 ≤ (a + b).toInt ∧ (a + b).toInt ≤ A + B := by
  have e : (a + b).toInt = a.toInt + b.toInt := by
    rw [Int32.toInt_add]
    exact Int.bmod_eq_of_le (by omega) (by omega)
  omega
theorem lb_tm_b {h : lh_HS} (I : lh_I h) (s g : Int32) (P : Nat → Bool) {i : Nat} (hi : i < lh_N h 4) : 0 ≤ (lb_tm h s g P i).toInt ∧ (lb_tm h s g P i).toInt ≤ 500 := by
  have z0 : (0 : Int32).toInt = 0 := by decide
  unfold lb_tm
  by_cases c : fX0_standsFor h (nI i) s = 0
  · rw [if_pos c, z0]; omega
  rw [if_neg c]
  by_cases c2 : P (h 18 i).toNatClampNeg = true
  · rw [if_pos c2]
    have hM := I.1.2.2.1.2
    have hN := I.1.1.2
    obtain ⟨b0, b1, ⟨y, hy, ey⟩, b3, b4⟩ := I.2.2.2.1 i hi
    unfold fX2_spendEnd fX0_isLoan
    rw [nI_clamp (by omega)]
    by_cases c3 : h 17 i = -4
    · rw [if_pos c3, if_neg (by decide)]
      exact b3
    · rw [if_neg c3, if_pos rfl]
      rcases b1 with b1 | ⟨r, hr, er⟩
      · exact absurd b1 c3
      · rw [er, ey]
        unfold fX4_lightEnd
        rw [show (nI r * 10 + nI y).toNatClampNeg = r * 10 + y from by rw [lh_ry, nI_clamp (by omega)], nI_clamp (by omega)]
        obtain ⟨w1, w2⟩ := I.2.1 r hr
        have w3 := w2 y hy
        by_cases c4 : h 8 (r * 10 + y) = -1
        · rw [if_pos c4]
          by_cases c5 : g = 0
          · rw [if_pos c5, z0]; omega
          · rw [if_neg c5]; exact ⟨by have := w1.1; omega, by have := w1.2; omega⟩
        · rw [if_neg c4]
          have q : ¬ h 8 (r * 10 + y) < 0 := fun z => c4 ((lh_neg1 w3).mp z)
          rw [Int32.lt_iff_toInt_lt, z0] at q
          exact ⟨by omega, by have := w3.2; have := w1.2; omega⟩
  · rw [if_neg c2, z0]; omega
theorem lb_S_b {h : lh_HS} (I : lh_I h) (s g : Int32) (P : Nat → Bool) : ∀ n i, i + n ≤ lh_N h 4 → 0 ≤ (lb_S h s g P n i).toInt ∧ (lb_S h s g P n i).toInt ≤ 500 * n := by
  have hM := I.1.2.2.1.2
  intro n
  induction n with
  | zero =>
    intro i hi
    show 0 ≤ (0 : Int32).toInt ∧ (0 : Int32).toInt ≤ 500 * ((0 : Nat) : Int)
    exact ⟨by decide, by decide⟩
  | succ n ih =>
    intro i hi
    have z := lh_add_i (lb_tm_b I s g P (i := i) (by omega)) (ih (i + 1) (by omega)) (by omega)
    simp only [lb_S]
    exact ⟨z.1, by have := z.2; push_cast; omega⟩
theorem lb_N_b (h : lh_HS) (s : Int32) : ∀ n i (p : Int32 × Int32), 0 ≤ p.1.toInt → p.2.toInt ≤ 2000 → 0 ≤ (lb_N h s n i p).1.toInt ∧ (lb_N h s n i p).2.toInt ≤ 2000 := by
  intro n
  induction n with
  | zero => intro i p h1 h2; exact ⟨h1, h2⟩
  | succ n ih =>
    intro i p h1 h2
    rw [lb_N_s]
    unfold lb_st
    by_cases c : h 21 i = s
    · rw [if_pos c]
      apply ih
      · dsimp only
        split
        · next q => rw [Int32.lt_iff_toInt_lt] at q; omega
        · exact h1
      · dsimp only
        split
        · next q => rw [Int32.lt_iff_toInt_lt] at q; omega
        · exact h2
    · rw [if_neg c]; exact ih _ _ h1 h2
theorem lb_lg_b {h : lh_HS} (I : lh_I h) {s : Int32} (hs : lh_ix s (lh_N h 3)) : (0 ≤ (lb_le h s).toInt ∧ (lb_le h s).toInt ≤ 2000) ∧ (0 ≤ (lb_gr h s).toInt ∧ (lb_gr h s).toInt ≤ 2000) := by
  obtain ⟨j, hj, rfl⟩ := hs
  have hM := I.1.2.1.2
  obtain ⟨s0, s1, s2, s3, s4, s5, s6⟩ := I.2.2.1 j hj
  have z := lb_N_b h (nI j) (lh_N h 5) 0 (h 14 j, h 15 j) s5.1 s6.2
  unfold lb_le lb_gr lb_P
  rw [nI_clamp (by omega)]
  split
  · next q => rw [Int32.le_iff_toInt_le] at q; omega
  · exact ⟨s5, s6⟩
theorem lb_sp_b {h : lh_HS} (I : lh_I h) {s : Int32} (hs : lh_ix s (lh_N h 3)) (y : Nat) (g : Int32) : 0 ≤ (lb_sp h s y g).toInt ∧ (lb_sp h s y g).toInt ≤ 17000 := by
  have hM := I.1.2.2.1.2
  obtain ⟨l1, l2⟩ := lb_lg_b I hs
  unfold lb_sp
  have q0 := lb_S_b I s 0 (lb_U y) (lh_N h 4) 0 (by omega)
  have q1 := lb_S_b I s 1 (lb_U y) (lh_N h 4) 0 (by omega)
  by_cases c : g = 0
  · rw [if_pos c]
    have z := lh_add_i l1 q0 (by omega)
    omega
  · rw [if_neg c]
    have z := lh_add_i l2 q1 (by omega)
    omega
theorem lb_stepE {h : lh_HS} (S : lh_ST h) (g : lh_HS) (v : Int32) : LX8_stepOfAmount g v 7 = LX9_step v 7 0 h := by
  have e : ∀ i, i < 8 → h 45 (nI i + 1).toNatClampNeg = lh_T (i + 1) := fun i hi => by rw [nI_1, nI_clamp (by omega), S (i + 1) (by omega)]
  have e0 := e 0 (by omega)
  have e1 := e 1 (by omega)
  have e2 := e 2 (by omega)
  have e3 := e 3 (by omega)
  have e4 := e 4 (by omega)
  have e5 := e 5 (by omega)
  have e6 := e 6 (by omega)
  simp only [LX8_stepOfAmount, LX9_step, Nat.zero_add, Nat.reduceAdd]
  rw [e0, e1, e2, e3, e4, e5, e6]
  have t1 : (lh_T 1).toInt = 10 := by decide
  have t2 : (lh_T 2).toInt = 20 := by decide
  have t3 : (lh_T 3).toInt = 40 := by decide
  have t4 : (lh_T 4).toInt = 80 := by decide
  have t5 : (lh_T 5).toInt = 160 := by decide
  have t6 : (lh_T 6).toInt = 320 := by decide
  have t7 : (lh_T 7).toInt = 640 := by decide
  rw [show (nI 7).toNatClampNeg = 7 from rfl, show (nI 6).toNatClampNeg = 6 from rfl, show (nI 5).toNatClampNeg = 5 from rfl, show (nI 4).toNatClampNeg = 4 from rfl, show (nI 3).toNatClampNeg = 3 from rfl, show (nI 2).toNatClampNeg = 2 from rfl, show (nI 1).toNatClampNeg = 1 from rfl]
  simp only [Int32.lt_iff_toInt_lt, Int32.le_iff_toInt_le, t1, t2, t3, t4, t5, t6, t7]
  repeat' split
  all_goals first | rfl | omega
theorem lb_step_h (v : Int32) : ∀ n i h, LX9_step_h v n i h = h := by
  intro n
  induction n with
  | zero => intro i h; rfl
  | succ n ih => intro i h; simp only [LX9_step_h]; rw [ih]; split <;> rfl
theorem op_step {k : Bool} {h : lh_HS} (L : lh_INV k h) (a : Int32) (b : Int32) (g : Int32) : (lh_J (gX8_step h a b g) ∧ (¬ fX9_is (gX8_step h a b g) 1 a = 0 → ¬ fX9_isYear (gX8_step h a b g) b = 0 → fX9_spentOf (gX8_step h a b g) a b g < 100000)) ∧ fX8_step h a b g = fX9_step (gX8_step h a b g) a b g ∧ lh_INV k (gX9_step (gX8_step h a b g) a b g) := by
  unfold gX8_step fX8_step fX9_step gX9_step
  by_cases c1 : fX5_has h a = 0
  · simp only [if_pos c1]
    rw [lh_isS L rfl a, if_pos c1, if_pos c1]
    exact ⟨⟨L.J, fun z => absurd c1 z⟩, rfl, L⟩
  simp only [if_neg c1]
  by_cases c2 : fX8_isYear h b = 0
  · simp only [if_pos c2]
    rw [lh_isS L rfl a, lh_yrE h h b, if_neg c1, if_neg c1, if_pos c2, if_pos c2]
    exact ⟨⟨L.J, fun _ z => absurd c2 z⟩, rfl, L⟩
  simp only [if_neg c2]
  have hx := lh_q.openAt h a
  have L1 := hx.INV L
  rw [lh_isS L (hx.row (by decide)) a, lh_yrE _ h b, if_neg c1, if_neg c1, if_neg c2, if_neg c2]
  have ha := lh_sheets L.1 c1
  obtain ⟨-, -, -, x4, -⟩ := lb_ref L1.1 L1.2.2.2.1 L1.2.2.2.2.1 (lh_fm.rf _) (lh_ixq hx ha)
  rw [(lb_cls L.1 a).1 b g (lh_years c2), x4 b g (lh_years c2), lb_sp_fr' hx.fr, lb_step_h]
  have bb := lb_sp_b L.1 ha b.toNatClampNeg g
  refine ⟨⟨L1.J, fun _ _ => ?_⟩, ?_, (lh_q.spentOf _ a b g).INV L1⟩
  · rw [Int32.lt_iff_toInt_lt, show (100000 : Int32).toInt = 100000 from by decide]
    omega
  · unfold fX8_stepOfAmount
    exact lb_stepE ((lh_q.spentOf _ a b g).INV L1).2.2.2.2.1 _ _
/-- of -/
theorem lb_countE {h : lh_HS} (I : lh_I h) (R : lh_RM h) (s : Int32) : ∀ n i a, i + n ≤ lh_N h 4 → LX9_bookedMany h s n i a = LX0_countOf h s n i a := by
  intro n
  induction n with
  | zero => intro i a hi; rfl
  | succ n ih =>
    intro i a hi
    simp only [LX9_bookedMany, LX0_countOf]
    rw [lh_hereE I R (by omega), ih _ _ (by omega), ih _ _ (by omega), Int32.add_zero]
theorem lb_threadE {h : lh_HS} (I : lh_I h) (R : lh_RM h) (s : Int32) : ∀ n i a, i + n ≤ lh_N h 5 → LX9_threadMany h s n i a = LX6_countOf h s n i a := by
  have hM := I.1.2.2.2.1.2
  intro n
  induction n with
  | zero => intro i a hi; rfl
  | succ n ih =>
    intro i a hi
    have q0 : (3 * nI i).toNatClampNeg = 3 * i := lh_at0 (k := 3) (by omega)
    simp only [LX9_threadMany, LX6_countOf]
    rw [q0, nI_clamp (by omega), (R.2.2.2.2.1 i (by omega)).1, ih _ _ (by omega), ih _ _ (by omega), Int32.add_zero]
theorem lh_eights {x : Int32} (c0 : ¬ x = 0) (c1 : ¬ x = 1) (c2 : ¬ x = 2) (c3 : ¬ x = 3) (c4 : ¬ x = 4) (c5 : ¬ x = 5) (c6 : ¬ x = 6) (c7 : ¬ x = 7) (h : lh_HS) : fX9_in h x 0 7 = 0 := by
  by_cases c : fX9_in h x 0 7 = 0
  · exact c
  · have z := lh_within_iff.mp (show ¬ fX8_within h x 0 7 = 0 from c)
    rw [← Int32.toInt_inj] at c0 c1 c2 c3 c4 c5 c6 c7
    have e0 : (0 : Int32).toInt = 0 := by decide
    have e1 : (1 : Int32).toInt = 1 := by decide
    have e2 : (2 : Int32).toInt = 2 := by decide
    have e3 : (3 : Int32).toInt = 3 := by decide
    have e4 : (4 : Int32).toInt = 4 := by decide
    have e5 : (5 : Int32).toInt = 5 := by decide
    have e6 : (6 : Int32).toInt = 6 := by decide
    have e7 : (7 : Int32).toInt = 7 := by decide
    omega
theorem lb_q01 (h : lh_HS) (s : Int32) : (if lb_q h s = 0 then (0 : Int32) else 1) = lb_q h s := by
  unfold lb_q
  split <;> rfl
theorem op_of {k : Bool} {h : lh_HS} (L : lh_INV k h) (a : Int32) (b : Int32) : lh_J (gX8_of h a b) ∧ fX8_of h a b = fX9_of (gX8_of h a b) a b ∧ lh_INV k (gX9_of (gX8_of h a b) a b) := by
  by_cases c1 : fX5_has h a = 0
  · unfold gX8_of fX8_of fX9_of gX9_of
    simp only [if_pos c1]
    rw [lh_isS L rfl a, if_pos c1, if_pos c1]
    exact ⟨L.J, rfl, L⟩
  have ha := lh_sheets L.1 c1
  have I := L.1
  have R := L.2.2.2.1
  by_cases d5 : b = 5
  · subst d5
    have hx := lh_q.openAt h a
    have L1 := hx.INV L
    have eg : gX8_of h a 5 = gX3_openAt h a := by
      unfold gX8_of
      rw [if_neg c1, if_neg (by decide), if_neg (by decide), if_neg (by decide), if_neg (by decide), if_neg (by decide), if_pos rfl]
    rw [eg]
    have c1' : ¬ fX9_is (gX3_openAt h a) 1 a = 0 := by rw [lh_isS L (hx.row (by decide)) a]; exact c1
    have i5 : ∀ g : lh_HS, ¬ fX9_in g 5 0 7 = 0 := fun g => by
      show ¬ (if (5 : Int32) < 0 then (0 : Int32) else if (7 : Int32) < 5 then 0 else 1) = 0
      decide
    have e9 : gX9_of (gX3_openAt h a) a 5 = gX9_findPast (gX3_openAt h a) a := by
      unfold gX9_of
      rw [if_neg c1', if_neg (i5 _), if_pos (by decide), if_neg (by decide), if_pos rfl]
    rw [e9]
    refine ⟨L1.J, ?_, (lh_q.findPast _ a).INV L1⟩
    obtain ⟨x1, -⟩ := lb_ref L1.1 L1.2.2.2.1 L1.2.2.2.2.1 (lh_fm.rf _) (lh_ixq hx ha)
    obtain ⟨o1, o2, -⟩ := lb_open L.1 a
    rw [lb_q_fr hx.fr] at x1
    have A : fX8_of h a 5 = if gX3_openAt h a 27 2 = 0 then (0 : Int32) else 1 := by
      unfold fX8_of
      rw [if_neg c1, if_neg (by decide), if_neg (by decide), if_neg (by decide), if_neg (by decide), if_neg (by decide), if_pos rfl]
    have B : fX9_of (gX3_openAt h a) a 5 = if gX9_findPast (gX3_openAt h a) a 37 12 = 0 then (0 : Int32) else 1 := by
      unfold fX9_of
      rw [if_neg c1', if_neg (i5 _), if_pos (by decide), if_neg (by decide), if_pos rfl]
    rw [A, B, o2, x1]
  have eg : gX8_of h a b = h := by
    unfold gX8_of
    rw [if_neg d5]
    simp only [ite_self]
  rw [eg]
  have c1' : ¬ fX9_is h 1 a = 0 := by rw [lh_isS L rfl a]; exact c1
  have e9 : gX9_of h a b = h := by
    unfold gX9_of
    rw [if_neg d5]
    simp only [ite_self]
  rw [e9]
  refine ⟨L.J, ?_, L⟩
  obtain ⟨j, hj, rfl⟩ := ha
  obtain ⟨p0, p1, p2, p3, p4, p5, p6, p7⟩ := lh_st I hj
  obtain ⟨s0, s1, s2, s3, s4, s5, s6⟩ := R.2.2.1 j hj
  have hN := I.1.2.1.2
  obtain ⟨m1, m2⟩ := lh_n4_ge (n := lh_N h 3) (by omega) (I.2.2.1 j hj).2.2.2.2.1
  unfold fX8_of fX9_of fX9_sisterOf
  rw [if_neg c1, if_neg c1', p4, p7, s4]
  by_cases d0 : b = 0
  · subst d0
    show h 9 j = h 41 (7 * nI j + 0).toNatClampNeg
    rw [Int32.add_zero, p0, s0]
  by_cases d1 : b = 1
  · subst d1
    show h 10 j = h 41 (7 * nI j + 1).toNatClampNeg
    rw [p1, s1]
  by_cases d2 : b = 2
  · subst d2
    show h 11 j = h 41 (7 * nI j + 2).toNatClampNeg
    rw [p2, s2]
  by_cases d3 : b = 3
  · subst d3
    show h 12 j = h 41 (7 * nI j + 3).toNatClampNeg
    rw [p3, s3]
  by_cases d4 : b = 4
  · subst d4
    show h 13 j = (if (0 : Int32) ≤ lh_n4 (h 13 j) then lh_n4 (h 13 j) else -4)
    by_cases c : h 13 j = -4
    · rw [if_neg (fun z => (m1.mp z) c), c]
    · rw [if_pos (m1.mpr c), m2 c]
  by_cases d6 : b = 6
  · subst d6
    show fX0_countOf h (nI j) = fX9_bookedMany h (nI j)
    unfold fX0_countOf fX9_bookedMany
    rw [R.m.2.2.1, lb_countE I R _ _ 0 0 (by omega)]
  by_cases d7 : b = 7
  · subst d7
    show fX6_countOf h (nI j) = fX9_threadMany h (nI j)
    unfold fX6_countOf fX9_threadMany
    rw [R.m.2.2.2.1, lb_threadE I R _ _ 0 0 (by omega)]
  rw [if_neg d0, if_neg d1, if_neg d2, if_neg d3, if_neg d4, if_neg d5, if_neg d6, if_neg d7, if_pos (lh_eights d0 d1 d2 d3 d4 d5 d6 d7 h)]
