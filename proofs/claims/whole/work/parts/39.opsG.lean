/-! what both ledgers say, as one -/
def lb_sp (h : lh_HS) (s : Int32) (y : Nat) (g : Int32) : Int32 := if g = 0 then lb_le h s + lb_S h s 0 (lb_U y) (lh_N h 4) 0 else lb_gr h s + lb_S h s 1 (lb_U y) (lh_N h 4) 0
theorem lb_sp_fr' {h h' : lh_HS} (f : lh_fr h h') (s : Int32) (y : Nat) (g : Int32) : lb_sp h' s y g = lb_sp h s y g := by
  unfold lb_sp
  rw [lb_le_fr f, lb_gr_fr f, lb_S_fr f, lb_S_fr f, f.N (c := 4) (by decide) (by decide)]
theorem lb_S_g (h : lh_HS) (s g : Int32) (hg : ¬ g = 0) (P : Nat → Bool) : ∀ n i, lb_S h s g P n i = lb_S h s 1 P n i := by
  intro n
  induction n with
  | zero => intro i; rfl
  | succ n ih =>
    intro i
    simp only [lb_S]
    rw [ih]
    have e : fX2_spendEnd h (nI i) g = fX2_spendEnd h (nI i) 1 := by
      unfold fX2_spendEnd fX4_lightEnd
      rw [if_neg hg, if_neg (show ¬ (1 : Int32) = 0 by decide)]
    unfold lb_tm
    rw [e]
theorem lb_cls {h : lh_HS} (I : lh_I h) (s : Int32) : (∀ y g, lh_ix y 10 → fX3_spentEnd (gX3_openAt h s) y g = lb_sp h s y.toNatClampNeg g) ∧ ∀ g, fX3_leftEnd (gX3_openAt h s) g = (if g = 0 then h 9 s.toNatClampNeg - lb_sp h s 9 1 else h 9 s.toNatClampNeg - lb_sp h s 9 0) := by
  obtain ⟨o1, o2, o3, o4, o5⟩ := lb_open I s
  have sp : ∀ y g, lh_ix y 10 → fX3_spentEnd (gX3_openAt h s) y g = lb_sp h s y.toNatClampNeg g := by
    rintro y g ⟨z, hz, rfl⟩
    rw [nI_clamp (by omega)]
    obtain ⟨a, b⟩ := o5 z hz
    unfold fX3_spentEnd lb_sp
    rw [nI_clamp (by omega), o3, o4, a, b]
  refine ⟨sp, fun g => ?_⟩
  unfold fX3_leftEnd
  rw [sp 9 1 ⟨9, by decide, rfl⟩, sp 9 0 ⟨9, by decide, rfl⟩, o1, fr_openAt h s 9 (by decide) (by decide) (by decide)]
  rfl
theorem lb_ref {h g : lh_HS} (I : lh_I h) (R : lh_RM h) (S : lh_ST h) (f : lh_fm h g) {s : Int32} (hs : lh_ix s (lh_N h 3)) : gX9_findPast g s 37 12 = lb_q h s ∧ gX9_findPast g s 37 10 = lb_le h s ∧ gX9_findPast g s 37 11 = lb_gr h s ∧ (∀ y r, lh_ix y 10 → fX9_spentOf g s y r = lb_sp h s y.toNatClampNeg r) ∧ fX9_leastLeft g s = h 9 s.toNatClampNeg - lb_sp h s 9 1 ∧ g 41 (7 * s).toNatClampNeg = h 9 s.toNatClampNeg := by
  obtain ⟨j, hj, rfl⟩ := hs
  obtain ⟨p0, p1, p2, p3, p4, p5, p6, p7⟩ := lh_st I hj
  obtain ⟨s0, s1, s2, s3, s4, s5, s6⟩ := R.2.2.1 j hj
  have e41 := f 41 (by decide) (by decide)
  have z : gX9_findPast g (nI j) 37 12 = lb_q h (nI j) ∧ gX9_findPast g (nI j) 37 10 = lb_le h (nI j) ∧ gX9_findPast g (nI j) 37 11 = lb_gr h (nI j) := by
    unfold gX9_findPast
    rw [e41, p5, p6, s5, s6, f.m, R.m.2.2.2.1]
    have z := lb_fpL I R S hj (lh_N h 5) 0 (lh_up (lh_up g 37 10 (h 14 j)) 37 11 (h 15 j)) (h 14 j, h 15 j) ((f.up (i := 37) (Or.inl (by decide))).up (i := 37) (Or.inl (by decide))) rfl rfl (by omega)
    unfold lb_q lb_le lb_gr lb_P
    rw [p7]
    exact z
  have sp : ∀ y r, lh_ix y 10 → fX9_spentOf g (nI j) y r = lb_sp h (nI j) y.toNatClampNeg r := by
    intro y r hy
    unfold fX9_spentOf lb_sp
    rw [z.2.1, z.2.2, lb_booked_fm (fm_findPast f (nI j)), lb_booked I R _ hy]
    by_cases c : r = 0
    · subst c; rfl
    · rw [if_neg c, if_neg c, lb_S_g h _ r c]
  refine ⟨z.1, z.2.1, z.2.2, sp, ?_, ?_⟩
  · unfold fX9_leastLeft
    rw [sp 9 1 ⟨9, by decide, rfl⟩, e41, p0, s0, p7]
    rfl
  · rw [e41, p0, s0, p7]
theorem lh_ixq {h h1 : lh_HS} (x : lh_q h h1) {a : Int32} (ha : lh_ix a (lh_N h 3)) : lh_ix a (lh_N h1 3) := by rw [x.fr.N (by decide) (by decide)]; exact ha
theorem op_pastOf {k : Bool} {h : lh_HS} (L : lh_INV k h) (a : Int32) (g : Int32) : lh_J (gX8_pastOf h a g) ∧ fX8_pastOf h a g = fX9_pastOf (gX8_pastOf h a g) a g ∧ lh_INV k (gX9_pastOf (gX8_pastOf h a g) a g) := by
  unfold gX8_pastOf fX8_pastOf fX9_pastOf gX9_pastOf
  by_cases c1 : fX5_has h a = 0
  · simp only [if_pos c1]
    rw [lh_isS L rfl a, if_pos c1, if_pos c1]
    exact ⟨L.J, rfl, L⟩
  simp only [if_neg c1]
  have hx := lh_q.openAt h a
  have L1 := hx.INV L
  obtain ⟨o1, o2, o3, o4, o5⟩ := lb_open L.1 a
  rw [lh_isS L (hx.row (by decide)) a, if_neg c1, if_neg c1]
  refine ⟨L1.J, ?_, (lh_q.findPast _ a).INV L1⟩
  obtain ⟨x1, x2, x3, -⟩ := lb_ref L1.1 L1.2.2.2.1 L1.2.2.2.2.1 (lh_fm.rf _) (lh_ixq hx (lh_sheets L.1 c1))
  unfold fX3_pastEnd
  rw [o3, o4, x2, x3, lb_le_fr hx.fr, lb_gr_fr hx.fr]
theorem op_spent {k : Bool} {h : lh_HS} (L : lh_INV k h) (a : Int32) (b : Int32) (g : Int32) : lh_J (gX8_spent h a b g) ∧ fX8_spent h a b g = fX9_spent (gX8_spent h a b g) a b g ∧ lh_INV k (gX9_spent (gX8_spent h a b g) a b g) := by
  unfold gX8_spent fX8_spent fX9_spent gX9_spent
  by_cases c1 : fX5_has h a = 0
  · simp only [if_pos c1]
    rw [lh_isS L rfl a, if_pos c1, if_pos c1]
    exact ⟨L.J, rfl, L⟩
  simp only [if_neg c1]
  by_cases c2 : fX8_isYear h b = 0
  · simp only [if_pos c2]
    rw [lh_isS L rfl a, lh_yrE h h b, if_neg c1, if_neg c1, if_pos c2, if_pos c2]
    exact ⟨L.J, rfl, L⟩
  simp only [if_neg c2]
  have hx := lh_q.openAt h a
  have L1 := hx.INV L
  rw [lh_isS L (hx.row (by decide)) a, lh_yrE _ h b, if_neg c1, if_neg c1, if_neg c2, if_neg c2]
  refine ⟨L1.J, ?_, (lh_q.spentOf _ a b g).INV L1⟩
  obtain ⟨-, -, -, x4, -⟩ := lb_ref L1.1 L1.2.2.2.1 L1.2.2.2.2.1 (lh_fm.rf _) (lh_ixq hx (lh_sheets L.1 c1))
  rw [(lb_cls L.1 a).1 b g (lh_years c2), x4 b g (lh_years c2), lb_sp_fr' hx.fr]
theorem op_left {k : Bool} {h : lh_HS} (L : lh_INV k h) (a : Int32) (g : Int32) : lh_J (gX8_left h a g) ∧ fX8_left h a g = fX9_left (gX8_left h a g) a g ∧ lh_INV k (gX9_left (gX8_left h a g) a g) := by
  unfold gX8_left fX8_left fX9_left gX9_left
  by_cases c1 : fX5_has h a = 0
  · simp only [if_pos c1]
    rw [lh_isS L rfl a, if_pos c1, if_pos c1]
    exact ⟨L.J, rfl, L⟩
  simp only [if_neg c1]
  have hx := lh_q.openAt h a
  have L1 := hx.INV L
  rw [lh_isS L (hx.row (by decide)) a, if_neg c1, if_neg c1]
  obtain ⟨-, -, -, x4, x5, x6⟩ := lb_ref L1.1 L1.2.2.2.1 L1.2.2.2.2.1 (lh_fm.rf _) (lh_ixq hx (lh_sheets L.1 c1))
  rw [(lb_cls L.1 a).2 g, x5, x6, x4 9 0 ⟨9, by decide, rfl⟩, lb_sp_fr' hx.fr, hx.row (q := 9) (by decide), show (9 : Int32).toNatClampNeg = 9 from rfl, lb_sp_fr' hx.fr]
  refine ⟨L1.J, rfl, ?_⟩
  by_cases c : g = 0
  · rw [if_pos c]; exact (lh_q.leastLeft _ a).INV L1
  · rw [if_neg c]; exact (lh_q.spentOf _ a 9 0).INV L1
theorem op_lacks {k : Bool} {h : lh_HS} (L : lh_INV k h) (a : Int32) (b : Int32) : lh_J (gX8_lacks h a b) ∧ fX8_lacks h a b = fX9_lacks (gX8_lacks h a b) a b ∧ lh_INV k (gX9_lacks (gX8_lacks h a b) a b) := by
  unfold gX8_lacks fX8_lacks fX9_lacks gX9_lacks
  by_cases c1 : fX5_has h a = 0
  · simp only [if_pos c1]
    rw [lh_isS L rfl a, if_pos c1, if_pos c1]
    exact ⟨L.J, rfl, L⟩
  simp only [if_neg c1]
  by_cases c2 : fX8_within h b 1 500 = 0
  · simp only [if_pos c2]
    rw [lh_isS L rfl a, lh_inE h h b, if_neg c1, if_neg c1, if_pos c2, if_pos c2]
    exact ⟨L.J, rfl, L⟩
  simp only [if_neg c2]
  have hx := lh_q.openAt h a
  have L1 := hx.INV L
  rw [lh_isS L (hx.row (by decide)) a, lh_inE _ h b, if_neg c1, if_neg c1, if_neg c2, if_neg c2]
  obtain ⟨-, -, -, x4, x5, x6⟩ := lb_ref L1.1 L1.2.2.2.1 L1.2.2.2.2.1 (lh_fm.rf _) (lh_ixq hx (lh_sheets L.1 c1))
  rw [(lb_cls L.1 a).2 0, if_pos rfl, x5, lb_sp_fr' hx.fr, hx.row (q := 9) (by decide)]
  refine ⟨L1.J, ?_, (lh_q.leastLeft _ a).INV L1⟩
  generalize b - (h 9 a.toNatClampNeg - lb_sp h a 9 1) = x
  by_cases c : 0 < x
  · rw [if_pos c, if_neg (by rw [Int32.le_iff_toInt_le]; rw [Int32.lt_iff_toInt_lt] at c; omega)]
  · rw [if_neg c, if_pos (by rw [Int32.le_iff_toInt_le]; rw [Int32.lt_iff_toInt_lt] at c; omega)]
theorem lh_q.up {g g' : lh_HS} (x : lh_q g g') (i j : Nat) (v : Int32) : lh_q (lh_up g i j v) (lh_up g' i j v) := fun q z h1 h2 h3 h4 => by
  by_cases c : q = i ∧ z = j
  · rw [c.1, c.2, lh_up_eq, lh_up_eq]
  · rw [lh_up_ne (by omega), lh_up_ne (by omega)]; exact x q z h1 h2 h3 h4
theorem lh_q.books {g g' : lh_HS} (x : lh_q g g') (a b y z : Int32) : lh_q (gX9_books g a b y z) (gX9_books g' a b y z) ∧ fX9_books g' a b y z = fX9_books g a b y z := by
  have e : g' 38 = g 38 := x.row (by decide)
  have e2 : ∀ v : lh_HS, ∀ v' : lh_HS, v' 38 = v 38 → lh_q v v' → lh_q (gX9_came v 2) (gX9_came v' 2) ∧ fX9_came v' 2 = fX9_came v 2 := fun v v' e x => by
    unfold gX9_came fX9_came
    rw [e]
    refine ⟨x.up _ _ _, ?_⟩
    rw [lh_up_eq, lh_up_eq]
  unfold gX9_books fX9_books
  rw [e]
  exact e2 _ _ e (((((x.up _ _ _).up _ _ _).up _ _ _).up _ _ _).up _ _ _)
theorem op_lend {k : Bool} {h : lh_HS} (L : lh_INV k h) (a : Int32) (b : Int32) (c : Int32) : lh_J (gX8_lend h a b c) ∧ fX8_lend h a b c = fX9_lend (gX8_lend h a b c) a b c ∧ lh_INV k (gX9_lend (gX8_lend h a b c) a b c) := by
  unfold gX8_lend fX8_lend fX9_lend gX9_lend
  by_cases c1 : fX5_has h a = 0
  · simp only [if_pos c1]
    rw [lh_isS L rfl a, if_pos c1, if_pos c1]
    exact ⟨L.J, rfl, L⟩
  simp only [if_neg c1]
  by_cases c2 : fX8_isYear h b = 0
  · simp only [if_pos c2]
    rw [lh_isS L rfl a, lh_yrE h h b, if_neg c1, if_neg c1, if_pos c2, if_pos c2]
    exact ⟨L.J, rfl, L⟩
  simp only [if_neg c2]
  by_cases c3 : fX8_within h c 1 500 = 0
  · simp only [if_pos c3]
    rw [lh_isS L rfl a, lh_yrE h h b, lh_inE h h c, if_neg c1, if_neg c1, if_neg c2, if_neg c2, if_pos c3, if_pos c3]
    exact ⟨L.J, rfl, L⟩
  simp only [if_neg c3]
  have hx := lh_q.openAt h a
  have L1 := hx.INV L
  have ha := lh_sheets L.1 c1
  have lc : fX3_leftEnd (gX3_openAt h a) 0 = gX3_openAt h a 9 a.toNatClampNeg - lb_sp (gX3_openAt h a) a 9 1 := by
    rw [(lb_cls L.1 a).2 0, if_pos rfl, lb_sp_fr' hx.fr, hx.row (q := 9) (by decide)]
  rw [lc]
  have e38' : gX3_openAt h a 38 = h 38 := hx.row (by decide)
  have ha1 := lh_ixq hx ha
  generalize gX3_openAt h a = h1 at *
  have lr : ∀ g, lh_fm h1 g → fX9_leastLeft g a = h1 9 a.toNatClampNeg - lb_sp h1 a 9 1 := fun g f => (lb_ref L1.1 L1.2.2.2.1 L1.2.2.2.2.1 f ha1).2.2.2.2.1
  generalize hl : h1 9 a.toNatClampNeg - lb_sp h1 a 9 1 = lf at *
  by_cases c4 : c ≤ lf
  · simp only [if_pos c4]
    have e5 := L1.1.1.2.2.1.1
    have n5 := L1.1.1.2.2.1.2
    have e38 := L1.2.2.2.1.1.2.2.1
    have fl := lh_full (n := lh_N h1 4) (M := 30) n5 (by omega)
    rw [← e5] at fl
    by_cases c5 : h1 4 0 < 30
    · simp only [if_pos c5]
      have hn2 : lh_N h1 4 < 30 := by
        rw [e5, Int32.lt_iff_toInt_lt, nI_toInt (by omega)] at c5
        have q1 : (30 : Int32).toInt = 30 := by decide
        omega
      have w3 := lh_rngW c3 (A := 1) (B := 500) (by decide) (by decide)
      obtain ⟨A1, A2, A3⟩ := lh_addB L1 rfl hn2 (a := a) (b := -4) (y := b) (z := c) ha1 (Or.inl rfl) (lh_years c2) ⟨by have := w3.1; omega, w3.2⟩ (fX0_addLoan h1 a b c)
      rw [lh_n4_neg] at A2 A3
      unfold gX0_addLoan
      unfold fX0_addLoan at A1 A2 A3 ⊢
      generalize hg1 : gX8_changed (gX0_add h1 a (-4) b c) (fX0_add h1 a (-4) b c) = h2 at *
      have fJ : lh_fm h1 h2 := by
        rw [← hg1]
        intro q h1' h2'
        show lh_up (gX0_add h1 a (-4) b c) 30 2 0 q = h1 q
        rw [lh_up_r, if_neg (by omega), ne_add (by omega) (Or.inr (by omega))]
      have f38 : h2 38 = h 38 := (fJ 38 (by decide) (by decide)).trans e38'
      have hq2 := lh_q.leastLeft h2 a
      have g38 : gX9_leastLeft h2 a 38 2 = h1 4 0 := by rw [hq2.row (q := 38) (by decide), fJ 38 (by decide) (by decide), e38]
      have ng : ¬ h1 4 0 = 30 := fl.mp c5
      rw [lh_isS L f38 a, lh_yrE _ h b, lh_inE _ h c, lr h2 fJ, if_neg c1, if_neg c1, if_neg c2, if_neg c2, if_neg c3, if_neg c3, if_pos c4, if_pos c4, g38, if_neg ng, if_neg ng]
      obtain ⟨B1, B2⟩ := hq2.books a (-1) b c
      exact ⟨A1, A2.trans B2.symm, B1.INV A3⟩
    · simp only [if_neg c5]
      have z : h1 4 0 = 30 := by
        by_cases z : h1 4 0 = 30
        · exact z
        · exact absurd (fl.mpr z) c5
      have hq2 := lh_q.leastLeft h1 a
      have g38 : gX9_leastLeft h1 a 38 2 = h1 4 0 := by rw [hq2.row (q := 38) (by decide), e38]
      rw [lh_isS L e38' a, lh_yrE _ h b, lh_inE _ h c, lr h1 (lh_fm.rf _), if_neg c1, if_neg c1, if_neg c2, if_neg c2, if_neg c3, if_neg c3, if_pos c4, if_pos c4, g38, if_pos z, if_pos z]
      exact ⟨L1.J, rfl, hq2.INV L1⟩
  · simp only [if_neg c4]
    rw [lh_isS L e38' a, lh_yrE _ h b, lh_inE _ h c, lr h1 (lh_fm.rf _), if_neg c1, if_neg c1, if_neg c2, if_neg c2, if_neg c3, if_neg c3, if_neg c4, if_neg c4]
    exact ⟨L1.J, rfl, (lh_q.leastLeft h1 a).INV L1⟩
