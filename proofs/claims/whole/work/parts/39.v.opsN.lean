/-! the calls that ask for THE HANG -/
theorem lc_INV {k : Bool} {h : lh_HS} (L : lh_INV k h) : lh_INV k (gX1_find h) ∧ lh_fr h (gX1_find h) ∧ lh_fm h (gX1_find h) ∧ gX1_find h 30 4 = (lp_SP (gX1_find h)).1 ∧ (∀ w, w < lh_N (gX1_find h) 6 → gX1_find h 31 w = (lp_SP (gX1_find h)).2 w ∧ gX1_find h 34 w = lp_lt (gX1_find h) w) := by
  obtain ⟨d1, d2, d3, d4⟩ := lc_fd L.1 L.2.2.2.2.2.1
  generalize gX1_find h = g at d1 d2 d3 d4 ⊢
  have rw' : ∀ q, q < 27 ∨ 36 < q → g q = h q := fun q hq => funext fun z => d4 q z hq
  have fr : lh_fr h g := fun q h1 h2 => rw' q (by omega)
  have e31 : ∀ w, w < lh_N g 6 → g 31 w = (lp_SP g).2 w ∧ g 34 w = lp_lt g w := fun w hw => by
    rw [fr.N (c := 6) (by decide) (by decide)] at hw
    rw [lp_SP_fr fr, lp_lt_fr fr]
    exact ⟨d2.2 w hw, d3 w hw⟩
  have e4 : g 30 4 = (lp_SP g).1 := by rw [lp_SP_fr fr]; exact d2.1
  refine ⟨lh_INV_of L (L.1.fr fr) ?_ (L.2.2.2.1.fr fr (fun q h1 h2 => rw' q (by omega))) (Or.inr ⟨d1, e4, e31⟩) ⟨fun q hq => rw' q (by omega), rw' 46 (by omega), by rw [rw' 37 (by omega)], rw' 45 (by omega)⟩, fr, fun q h1 h2 => rw' q (by omega), e4, e31⟩
  unfold lh_Zc
  rw [rw' 20 (by omega)]
  exact L.2.1
theorem lr_INV {k : Bool} {g g' : lh_HS} (L : lh_INV k g) (x : lr_f g g') : lh_INV k g' := by
  have rw' : ∀ q, q ≠ 37 → q ≠ 47 → q ≠ 48 → q ≠ 49 → g' q = g q := fun q h1 h2 h3 h4 => funext fun z => x q z (Or.inl h1) h2 h3 h4
  have fr : lh_fr g g' := fun q h1 h2 => rw' q (by omega) (by omega) (by omega) (by omega)
  refine lh_INV_of L (L.1.fr fr) ?_ (L.2.2.2.1.fr fr (fun q h1 h2 => rw' q (by omega) (by omega) (by omega) (by omega))) (L.2.2.2.2.2.1.fr fr (rw' 30 (by decide) (by decide) (by decide) (by decide)) (rw' 31 (by decide) (by decide) (by decide) (by decide)) (rw' 34 (by decide) (by decide) (by decide) (by decide))) ⟨fun q hq => rw' q (by omega) (by omega) (by omega) (by omega), rw' 46 (by decide) (by decide) (by decide) (by decide), x 37 8 (Or.inr (by decide)) (by decide) (by decide) (by decide), rw' 45 (by decide) (by decide) (by decide) (by decide)⟩
  unfold lh_Zc
  rw [rw' 20 (by decide) (by decide) (by decide) (by decide)]
  exact L.2.1
theorem op_worth {k : Bool} {h : lh_HS} (L : lh_INV k h) : lh_J (gX8_worth h) ∧ fX8_worth h = fX9_worth (gX8_worth h) ∧ lh_INV k (gX9_worth (gX8_worth h)) := by
  unfold gX8_worth fX8_worth fX9_worth gX9_worth
  obtain ⟨L1, fr, fm, e4, e31⟩ := lc_INV L
  obtain ⟨p1, p2, p3⟩ := lr_fh L1.1 L1.2.2.2.1 L1.2.2.2.2.1 (lh_fm.rf (gX1_find h))
  exact ⟨L1.J, by rw [e4, p1], lr_INV L1 p3⟩
theorem op_hung {k : Bool} {h : lh_HS} (L : lh_INV k h) (a : Int32) : lh_J (gX8_hung h a) ∧ fX8_hung h a = fX9_hung (gX8_hung h a) a ∧ lh_INV k (gX9_hung (gX8_hung h a) a) := by
  unfold gX8_hung fX8_hung fX9_hung gX9_hung
  by_cases c : fX7_has h a = 0
  · rw [if_pos c, if_pos c, lh_isW L rfl a, if_pos c, if_pos c]
    exact ⟨L.J, rfl, L⟩
  · rw [if_neg c, if_neg c]
    obtain ⟨L1, fr, fm, e4, e31⟩ := lc_INV L
    rw [lh_isW L (fm 38 (by decide) (by decide)) a, if_neg c, if_neg c]
    obtain ⟨w, hw, ew⟩ := lh_walls L.1 c
    have hW := L.1.1.2.2.2.2.2
    rw [← fr.N (c := 6) (by decide) (by decide)] at hw
    generalize gX1_find h = g at L1 fr fm e4 e31 hw ⊢
    obtain ⟨p1, p2, p3⟩ := lr_fh L1.1 L1.2.2.2.1 L1.2.2.2.2.1 (lh_fm.rf g)
    have hS := L1.1.1.2.1.2
    have hW2 := L1.1.1.2.2.2.2.2
    refine ⟨L1.J, ?_, lr_INV L1 p3⟩
    rw [ew, nI_clamp (by omega), (e31 w hw).1, p2 w hw, p3 38 1 (Or.inl (by decide)) (by decide) (by decide) (by decide), lr_e38 L1.1 L1.2.2.2.1 (lh_fm.rf g)]
    rcases (lp_SPv L1.1).2 w with v | ⟨t, ht, et⟩
    · rw [v, lr_n4 L1.1, if_pos rfl]
    · have n4 : ¬ (lp_SP g).2 w = -4 := fun z => lp_ne4 (s := t) (by omega) (z.symm.trans et)
      rw [lr_nn n4, et, if_neg (fun z => by rw [nI_eq (by omega) (by omega)] at z; omega)]
theorem lr_sph (sn : Int32) : ∀ (n i : Nat) (acc : Int32) (h : lh_HS), LX9_spares_h sn n i acc h = h := by
  intro n
  induction n with
  | zero => intro i acc h; rfl
  | succ n ih =>
    intro i acc h
    simp only [LX9_spares_h]
    rw [ih, ih, ite_self]
theorem lr_spL {g g1 g3 : lh_HS} (I : lh_I g) (R : lh_RM g) (f : lh_fm g g3) {s : Nat} (hs : s < lh_N g 3) {B : Nat → Int32} (e1 : ∀ v, v < lh_N g 6 → g1 31 v = B v ∧ g1 34 v = lp_lt g v) (e3 : ∀ v, v < lh_N g 6 → g3 48 v = lr_n g (B v)) (A : Int32) : ∀ (n i : Nat) (acc : Int32), i + n = lh_N g 6 → LX9_spares (nI s) n i (A - acc) g3 = A - LX1_lightOn g1 (nI s) n i acc := by
  have hW := I.1.2.2.2.2.2
  intro n
  induction n with
  | zero => intro i acc hi; rfl
  | succ n ih =>
    intro i acc hi
    obtain ⟨t0, t1, -, t3⟩ := lr_w I (j := i) (by omega)
    obtain ⟨u0, u1, -, u3⟩ := lr_wl I R f (w := i) (by omega)
    simp only [LX9_spares, LX1_lightOn]
    rw [t0, t1, t3, u0, u1, u3, (e1 i (by omega)).1, (e1 i (by omega)).2, e3 i (by omega)]
    by_cases q : B i = nI s
    · rw [if_pos ((lr_n_s I hs).mpr q), if_pos q, Int32.sub_sub]
      exact ih _ _ (by omega)
    · rw [if_neg (fun x => q ((lr_n_s I hs).mp x)), if_neg q, Int32.sub_zero]
      exact ih _ _ (by omega)
theorem op_spares {k : Bool} {h : lh_HS} (L : lh_INV k h) (a : Int32) : lh_J (gX8_spares h a) ∧ fX8_spares h a = fX9_spares (gX8_spares h a) a ∧ lh_INV k (gX9_spares (gX8_spares h a) a) := by
  unfold gX8_spares fX8_spares fX9_spares gX9_spares
  by_cases c : fX5_has h a = 0
  · rw [if_pos c, if_pos c, lh_isS L rfl a, if_pos c, if_pos c]
    exact ⟨L.J, rfl, L⟩
  · rw [if_neg c, if_neg c]
    obtain ⟨L1, fr, fm, e4, e31⟩ := lc_INV L
    obtain ⟨s, hs, es⟩ := lh_sheets L.1 c
    have x1 := lh_q.openAt (gX1_find h) a
    rw [lh_isS L (show gX3_openAt (gX1_find h) a 38 = h 38 by rw [x1.row (by decide), fm 38 (by decide) (by decide)]) a, if_neg c, if_neg c]
    rw [← fr.N (c := 3) (by decide) (by decide)] at hs
    generalize gX1_find h = g at L1 fr fm e4 e31 hs x1 ⊢
    have I := L1.1
    have R := L1.2.2.2.1
    have S := L1.2.2.2.2.1
    have hS := I.1.2.1.2
    rw [es] at x1 ⊢
    have ef : fX3_leftEnd (gX3_openAt g (nI s)) 0 = lp_lf g s := rfl
    rw [ef, lr_sph]
    generalize gX3_openAt g (nI s) = g1 at x1 ⊢
    have L2 := x1.INV L1
    obtain ⟨p1, p2, p3⟩ := lr_fh I R S x1.fm
    have f2 : lh_fm g (gX9_findHang g1) := x1.fm.tr (fm_findHang L2.J)
    have L3 := lr_INV L2 p3
    generalize gX9_findHang g1 = g2 at p1 p2 p3 f2 L3 ⊢
    have e := (lb_ref I R S f2 (s := nI s) ⟨s, hs, rfl⟩).2.2.2.2.1
    rw [nI_clamp (n := s) (by omega), ← lp_lf_e I hs] at e
    rw [e]
    have x3 := lh_q.leastLeft g2 (nI s)
    generalize gX9_leastLeft g2 (nI s) = g3 at x3 ⊢
    refine ⟨L2.J, ?_, x3.INV L3⟩
    have f3 : lh_fm g g3 := f2.tr x3.fm
    rw [f3.m, R.m.2.2.2.2]
    unfold fX1_lightOn
    rw [x1.fr.N (c := 6) (by decide) (by decide)]
    have q := lr_spL I R f3 hs (g1 := g1) (B := (lp_SP g).2) (fun v hv => by rw [x1.row (q := 31) (by decide), x1.row (q := 34) (by decide)]; exact e31 v hv) (fun v hv => by rw [x3.row (q := 48) (by decide)]; exact p2 v hv) (lp_lf g s) (lh_N g 6) 0 0 (by omega)
    rw [Int32.sub_zero] at q
    exact q.symm
