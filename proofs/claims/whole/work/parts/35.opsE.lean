theorem lh_addB {k : Bool} {h : lh_HS} (L : lh_INV k h) {n : Nat} (hn : lh_N h 4 = n) (hn2 : n < 30) {a b y z : Int32} (wa : lh_ix a (lh_N h 3)) (wb : b = -4 ∨ lh_ix b (lh_N h 2)) (wy : lh_ix y 10) (wz : lh_rng z 0 500) (x : Int32) : lh_J (gX8_changed (gX0_add h a b y z) x) ∧ fX0_add h a b y z = fX9_books (gX8_changed (gX0_add h a b y z) x) a (lh_n4 b) y z ∧ lh_INV k (gX9_books (gX8_changed (gX0_add h a b y z) x) a (lh_n4 b) y z) := by
  have I := L.1
  have R := L.2.2.2.1
  have e5 := I.1.2.2.1.1
  have e38 := R.1.2.2.1
  rw [hn] at e5
  have c4 : h 4 0 < 30 := by
    rw [e5, Int32.lt_iff_toInt_lt, nI_toInt (by omega)]
    have q1 : (30 : Int32).toInt = 30 := by decide
    omega
  unfold gX9_books fX9_books gX0_add fX0_add
  simp only [if_pos c4]
  simp only [e5, nI_clamp (show n < 2 ^ 31 by omega)]
  have q0 : (5 * nI n).toNatClampNeg = 5 * n := lh_at0 (k := 5) (by omega)
  have q1 : (5 * nI n + 1).toNatClampNeg = 5 * n + 1 := lh_at (k := 5) (c := 1) (by omega)
  have q2 : (5 * nI n + 2).toNatClampNeg = 5 * n + 2 := lh_at (k := 5) (c := 2) (by omega)
  have q3 : (5 * nI n + 3).toNatClampNeg = 5 * n + 3 := lh_at (k := 5) (c := 3) (by omega)
  have q4 : (5 * nI n + 4).toNatClampNeg = 5 * n + 4 := lh_at (k := 5) (c := 4) (by omega)
  generalize hg1 : gX8_changed (lh_up (lh_up (lh_up (lh_up (lh_up (lh_up h 16 n a) 17 n b) 18 n y) 19 n z) 20 n 0) 4 0 (nI n + 1)) x = h1
  have f38 : h1 38 = h 38 := by rw [← hg1]; rfl
  have fJ : lh_fm h h1 := by rw [← hg1]; exact (((((((lh_fm.rf h).up (i := 16) (Or.inl (by decide))).up (i := 17) (Or.inl (by decide))).up (i := 18) (Or.inl (by decide))).up (i := 19) (Or.inl (by decide))).up (i := 20) (Or.inl (by decide))).up (i := 4) (Or.inl (by decide))).up (i := 30) (Or.inl (by decide))
  have g38 : h1 38 2 = nI n := by rw [f38, e38, e5]
  rw [g38, q0, q1, q2, q3, q4]
  refine ⟨L.J.fm fJ, ?_, ?_⟩
  · show nI n + 1 - 1 = upd (h1 38) 2 (h1 38 2 + 1) 2 - 1
    rw [lh_ue, g38]
  · have hlt : ∀ t, t < lh_N (gX9_came (lh_up (lh_up (lh_up (lh_up (lh_up h1 42 (5 * n) a) 42 (5 * n + 1) (lh_n4 b)) 42 (5 * n + 2) y) 42 (5 * n + 3) z) 42 (5 * n + 4) 0) 2) 4 → t = n ∨ t < n := fun t ht => by
      rw [← hg1] at ht
      have ht2 : t < (nI n + 1).toNatClampNeg := ht
      rw [nI_1, nI_clamp (by omega)] at ht2
      omega
    have I4 := I.2.2.2.1
    have R4 := R.2.2.2.1
    unfold lh_IB at I4
    unfold lh_RMb at R4
    rw [hn] at I4 R4
    subst hg1
    refine lh_INV_of L ⟨⟨I.1.1, I.1.2.1, ⟨?_, ?_⟩, I.1.2.2.2⟩, I.2.1, I.2.2.1, fun t ht => ?_, I.2.2.2.2⟩ (fun i hi => ?_) ⟨⟨R.1.1, R.1.2.1, ?_, R.1.2.2.2⟩, R.2.1, R.2.2.1, fun t ht => ?_, R.2.2.2.2⟩ (Or.inl rfl) (((((((((((((((lh_kp.rf h).up (by omega)).up (by omega)).up (by omega)).up (by omega)).up (by omega)).up (by omega)).up (by omega)).up (by omega)).up (by omega)).up (by omega)).up (by omega)).up (by omega)).up (by omega)))
    · show nI n + 1 = nI (nI n + 1).toNatClampNeg
      rw [nI_1, nI_clamp (by omega)]
    · show (nI n + 1).toNatClampNeg ≤ 30
      rw [nI_1, nI_clamp (by omega)]
      omega
    · show lh_ix (upd (h 16) n a t) (lh_N h 3) ∧ (upd (h 17) n b t = -4 ∨ lh_ix (upd (h 17) n b t) (lh_N h 2)) ∧ lh_ix (upd (h 18) n y t) 10 ∧ lh_rng (upd (h 19) n z t) 0 500 ∧ (upd (h 20) n 0 t = 0 ∨ upd (h 20) n 0 t = 1)
      rcases hlt t ht with e | e
      · rw [e, lh_ue, lh_ue, lh_ue, lh_ue, lh_ue]; exact ⟨wa, wb, wy, wz, Or.inl rfl⟩
      · rw [lh_un (by omega), lh_un (by omega), lh_un (by omega), lh_un (by omega), lh_un (by omega)]
        exact I4 t e
    · exact lh_u01 (f := h 20) (j := n) (fun x => x = 0 ∨ x = 1) (Or.inl rfl) (L.2.1 i hi)
    · show upd (h 38) 2 (h 38 2 + 1) 2 = nI n + 1
      rw [lh_ue, e38, e5]
    · show (upd (upd (upd (upd (upd (h 42) (5 * n) a) (5 * n + 1) (lh_n4 b)) (5 * n + 2) y) (5 * n + 3) z) (5 * n + 4) 0) (5 * t) = upd (h 16) n a t ∧ (upd (upd (upd (upd (upd (h 42) (5 * n) a) (5 * n + 1) (lh_n4 b)) (5 * n + 2) y) (5 * n + 3) z) (5 * n + 4) 0) (5 * t + 1) = lh_n4 (upd (h 17) n b t) ∧ (upd (upd (upd (upd (upd (h 42) (5 * n) a) (5 * n + 1) (lh_n4 b)) (5 * n + 2) y) (5 * n + 3) z) (5 * n + 4) 0) (5 * t + 2) = upd (h 18) n y t ∧ (upd (upd (upd (upd (upd (h 42) (5 * n) a) (5 * n + 1) (lh_n4 b)) (5 * n + 2) y) (5 * n + 3) z) (5 * n + 4) 0) (5 * t + 3) = upd (h 19) n z t ∧ (upd (upd (upd (upd (upd (h 42) (5 * n) a) (5 * n + 1) (lh_n4 b)) (5 * n + 2) y) (5 * n + 3) z) (5 * n + 4) 0) (5 * t + 4) = upd (h 20) n 0 t
      rcases hlt t ht with e | e
      · subst e
        refine ⟨?_, ?_, ?_, ?_, ?_⟩
        · rw [lh_un (by omega), lh_un (by omega), lh_un (by omega), lh_un (by omega), lh_ue, lh_ue]
        · rw [lh_un (by omega), lh_un (by omega), lh_un (by omega), lh_ue, lh_ue]
        · rw [lh_un (by omega), lh_un (by omega), lh_ue, lh_ue]
        · rw [lh_un (by omega), lh_ue, lh_ue]
        · rw [lh_ue, lh_ue]
      · obtain ⟨s0, s1, s2, s3, s4⟩ := R4 t e
        have un : ∀ x, x < 5 * n → (upd (upd (upd (upd (upd (h 42) (5 * n) a) (5 * n + 1) (lh_n4 b)) (5 * n + 2) y) (5 * n + 3) z) (5 * n + 4) 0) x = h 42 x := fun x hx => by
          rw [lh_un (by omega), lh_un (by omega), lh_un (by omega), lh_un (by omega), lh_un (by omega)]
        rw [un _ (by omega), un _ (by omega), un _ (by omega), un _ (by omega), un _ (by omega), lh_un (by omega), lh_un (by omega), lh_un (by omega), lh_un (by omega), lh_un (by omega)]
        exact ⟨s0, s1, s2, s3, s4⟩
/-- shown -/
theorem lh_awE {a b : Int32} (ha : lh_ix a 10) (hb : lh_ix b 10) (h : lh_HS) : (if 0 ≤ a - b then a - b else 0 - (a - b)) = fX9_away h a b ∧ (¬ 0 < fX9_away h a b ↔ a = b) ∧ (fX9_away h a b = 0 ↔ a = b) := by
  obtain ⟨i, hi, rfl⟩ := ha
  obtain ⟨j, hj, rfl⟩ := hb
  exact (by decide +kernel : ∀ i, i < 10 → ∀ j, j < 10 → (if 0 ≤ nI i - nI j then nI i - nI j else 0 - (nI i - nI j)) = (if nI j ≤ nI i then nI i - nI j else nI j - nI i) ∧ (¬ 0 < (if nI j ≤ nI i then nI i - nI j else nI j - nI i) ↔ nI i = nI j) ∧ ((if nI j ≤ nI i then nI i - nI j else nI j - nI i) = 0 ↔ nI i = nI j)) i hi j hj
theorem lh_hereE {h : lh_HS} (I : lh_I h) (R : lh_RM h) {j : Nat} (hj : j < lh_N h 4) (s : Int32) : fX9_isHere h (nI j) s = fX0_standsFor h (nI j) s := by
  obtain ⟨p0, p1, p2, p3, p4, p5⟩ := lh_bk I R hj
  obtain ⟨r0, r1, r2, r3, r4⟩ := R.2.2.2.1 j hj
  unfold fX9_isHere fX0_standsFor
  rw [p0, p4, p5, r0, r4]
theorem lh_ltz (x : Int32) : x < 0 ↔ ¬ 0 ≤ x := by rw [Int32.lt_iff_toInt_lt, Int32.le_iff_toInt_le]; omega
theorem lh_shownL {h : lh_HS} (I : lh_I h) (R : lh_RM h) (s : Int32) {y : Int32} (hy : lh_ix y 10) : ∀ n i, i + n ≤ lh_N h 4 → LX9_isShown h s y n i 1 = 1 ∧ LX9_isShown h s y n i 0 = LX0_shownWithin h s y 0 n i := by
  intro n
  induction n with
  | zero => intro i hi; exact ⟨rfl, rfl⟩
  | succ n ih =>
    intro i hi
    have hj : i < lh_N h 4 := by omega
    obtain ⟨p0, p1, p2, p3, p4, p5⟩ := lh_bk I R hj
    obtain ⟨r0, r1, r2, r3, r4⟩ := R.2.2.2.1 i hj
    obtain ⟨b0, b1, b2, b3, b4⟩ := I.2.2.2.1 i hj
    have hN := I.1.1.2
    obtain ⟨m1, m2⟩ := lh_n4_ge (by omega) b1
    obtain ⟨i1, i0⟩ := ih (i + 1) (by omega)
    simp only [LX9_isShown, LX0_shownWithin]
    refine ⟨by rw [if_neg (by decide)]; exact i1, ?_⟩
    rw [if_pos trivial, lh_hereE I R hj, p1, p2, p5, r1, r2]
    by_cases c1 : fX0_standsFor h (nI i) s = 0
    · rw [if_pos c1, if_pos c1]; exact i0
    rw [if_neg c1, if_neg c1]
    obtain ⟨a1, a2, a3⟩ := lh_awE b2 hy h
    rw [a1]
    unfold fX0_isLoan
    rw [p5]
    by_cases c2 : h 17 i = -4
    · rw [if_pos ((lh_ltz _).mpr (fun z => (m1.mp z) c2)), if_pos c2, if_neg (by decide)]; exact i0
    · rw [if_neg (fun z => (lh_ltz _).mp z (m1.mpr c2)), if_neg c2, if_pos rfl]
      by_cases c3 : h 18 i = y
      · rw [if_pos c3, if_neg (a2.mpr c3)]; exact i1
      · rw [if_neg c3, if_pos (by by_cases q : 0 < fX9_away h (h 18 i) y; exact q; exact absurd (a2.mp q) c3)]; exact i0
theorem lh_shownE {h : lh_HS} (I : lh_I h) (R : lh_RM h) (s : Int32) {y : Int32} (hy : lh_ix y 10) : fX9_isShown h s y = fX0_shownWithin h s y 0 := by
  unfold fX9_isShown fX0_shownWithin
  rw [R.m.2.2.1]
  exact (lh_shownL I R s hy _ 0 (by omega)).2
theorem lh_LisShown_fm {h g : lh_HS} (e : g 42 = h 42) (s y : Int32) : ∀ n i a, LX9_isShown g s y n i a = LX9_isShown h s y n i a := by
  intro n
  induction n with
  | zero => intro i a; rfl
  | succ n ih =>
    intro i a
    have eH : fX9_isHere g (nI i) s = fX9_isHere h (nI i) s := by unfold fX9_isHere; rw [e]
    simp only [LX9_isShown]
    rw [eH, e, ih (i + 1) 0, ih (i + 1) 1]
theorem lh_isShown_fm {h g : lh_HS} (f : lh_fm h g) (s y : Int32) : fX9_isShown g s y = fX9_isShown h s y := by
  unfold fX9_isShown
  rw [f.m, lh_LisShown_fm (f 42 (by decide) (by decide))]
theorem op_show {k : Bool} {h : lh_HS} (L : lh_INV k h) (a : Int32) (b : Int32) (c : Int32) : lh_J (gX8_show h a b c) ∧ fX8_show h a b c = fX9_show (gX8_show h a b c) a b c ∧ lh_INV k (gX9_show (gX8_show h a b c) a b c) := by
  have I := L.1
  have R := L.2.2.2.1
  unfold gX8_show fX8_show fX9_show gX9_show
  by_cases c1 : fX5_has h a = 0
  · simp only [if_pos c1]
    rw [lh_isS L rfl a, if_pos c1, if_pos c1]
    exact ⟨L.J, rfl, L⟩
  simp only [if_neg c1]
  by_cases c2 : fX4_has h b = 0
  · simp only [if_pos c2]
    rw [lh_isS L rfl a, lh_isR L rfl b, if_neg c1, if_neg c1, if_pos c2, if_pos c2]
    exact ⟨L.J, rfl, L⟩
  simp only [if_neg c2]
  by_cases c3 : fX8_isYear h c = 0
  · simp only [if_pos c3]
    rw [lh_isS L rfl a, lh_isR L rfl b, lh_yrE h h c, if_neg c1, if_neg c1, if_neg c2, if_neg c2, if_pos c3, if_pos c3]
    exact ⟨L.J, rfl, L⟩
  simp only [if_neg c3]
  have w1 := lh_sheets I c1
  have w2 := lh_rooms I c2
  have w3 := lh_years c3
  have es := lh_shownE I R a w3
  by_cases c5 : fX0_shownWithin h a c 0 = 0
  · simp only [if_pos c5]
    have e5 := I.1.2.2.1.1
    have n5 := I.1.2.2.1.2
    have e38 := R.1.2.2.1
    have fl := lh_full (n := lh_N h 4) (M := 30) n5 (by omega)
    rw [← e5] at fl
    by_cases c4 : h 4 0 < 30
    · simp only [if_pos c4]
      have hn2 : lh_N h 4 < 30 := by
        rw [e5, Int32.lt_iff_toInt_lt, nI_toInt (by omega)] at c4
        have q1 : (30 : Int32).toInt = 30 := by decide
        omega
      obtain ⟨A1, A2, A3⟩ := lh_addB L rfl hn2 (a := a) (b := b) (y := c) (z := 0) w1 (Or.inr w2) w3 ⟨by decide, by decide⟩ (fX0_addShow h a b c)
      rw [lh_n4_ix (by have := I.1.1.2; omega) w2] at A2 A3
      unfold gX0_addShow
      unfold fX0_addShow at A1 A2 A3 ⊢
      generalize hg1 : gX8_changed (gX0_add h a b c 0) (fX0_add h a b c 0) = h1 at *
      have fJ : lh_fm h h1 := by
        rw [← hg1]
        intro q h1 h2
        show lh_up (gX0_add h a b c 0) 30 2 0 q = h q
        rw [lh_up_r, if_neg (by omega), ne_add (by omega) (Or.inr (by omega))]
      have f38 : h1 38 = h 38 := fJ 38 (by decide) (by decide)
      have c5' : fX9_isShown h1 a c = 0 := by rw [lh_isShown_fm fJ, es]; exact c5
      have c6 : ¬ h1 38 2 = 30 := by rw [f38, e38]; exact fl.mp c4
      rw [lh_isS L f38 a, lh_isR L f38 b, lh_yrE _ h c, if_neg c1, if_neg c1, if_neg c2, if_neg c2, if_neg c3, if_neg c3, if_pos c5', if_pos c5', if_neg c6, if_neg c6]
      exact ⟨A1, A2, A3⟩
    · simp only [if_neg c4]
      have z : h 4 0 = 30 := by
        by_cases z : h 4 0 = 30
        · exact z
        · exact absurd (fl.mpr z) c4
      rw [lh_isS L rfl a, lh_isR L rfl b, lh_yrE _ h c, es, if_neg c1, if_neg c1, if_neg c2, if_neg c2, if_neg c3, if_neg c3, if_pos c5, if_pos c5, e38, if_pos z, if_pos z]
      exact ⟨L.J, rfl, L⟩
  · simp only [if_neg c5]
    rw [lh_isS L rfl a, lh_isR L rfl b, lh_yrE _ h c, es, if_neg c1, if_neg c1, if_neg c2, if_neg c2, if_neg c3, if_neg c3, if_neg c5, if_neg c5]
    exact ⟨L.J, rfl, L⟩
