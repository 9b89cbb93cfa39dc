theorem lh_st {h : lh_HS} (I : lh_I h) {j : Nat} (hj : j < lh_N h 3) : (7 * nI j).toNatClampNeg = 7 * j ∧ (7 * nI j + 1).toNatClampNeg = 7 * j + 1 ∧ (7 * nI j + 2).toNatClampNeg = 7 * j + 2 ∧ (7 * nI j + 3).toNatClampNeg = 7 * j + 3 ∧ (7 * nI j + 4).toNatClampNeg = 7 * j + 4 ∧ (7 * nI j + 5).toNatClampNeg = 7 * j + 5 ∧ (7 * nI j + 6).toNatClampNeg = 7 * j + 6 ∧ (nI j).toNatClampNeg = j := by
  have hN := I.1.2.1.2
  exact ⟨lh_at0 (k := 7) (by omega), lh_at (k := 7) (c := 1) (by omega), lh_at (k := 7) (c := 2) (by omega), lh_at (k := 7) (c := 3) (by omega), lh_at (k := 7) (c := 4) (by omega), lh_at (k := 7) (c := 5) (by omega), lh_at (k := 7) (c := 6) (by omega), nI_clamp (by omega)⟩
theorem op_past {k : Bool} {h : lh_HS} (L : lh_INV k h) (a : Int32) (b : Int32) (c : Int32) : lh_J (gX8_past h a b c) ∧ fX8_past h a b c = fX9_past (gX8_past h a b c) a b c ∧ lh_INV k (gX9_past (gX8_past h a b c) a b c) := by
  have I := L.1
  have R := L.2.2.2.1
  unfold gX8_past fX8_past fX9_past gX9_past
  by_cases c1 : fX5_has h a = 0
  · simp only [if_pos c1]
    rw [lh_isS L rfl a, if_pos c1, if_pos c1]
    exact ⟨L.J, rfl, L⟩
  obtain ⟨j, hj, rfl⟩ := lh_sheets I c1
  obtain ⟨p0, p1, p2, p3, p4, p5, p6, p7⟩ := lh_st I hj
  simp only [if_neg c1, p5, p6, p7]
  by_cases c2 : fX8_within h b 0 2000 = 0
  · simp only [if_pos c2]
    rw [lh_isS L rfl (nI j), lh_inE h h b, if_neg c1, if_neg c1, if_pos c2, if_pos c2]
    exact ⟨L.J, rfl, L⟩
  simp only [if_neg c2]
  by_cases c3 : fX8_within h c b 2000 = 0
  · simp only [if_pos c3]
    rw [lh_isS L rfl (nI j), lh_inE h h b, lh_inE h h c, if_neg c1, if_neg c1, if_neg c2, if_neg c2, if_pos c3, if_pos c3]
    exact ⟨L.J, rfl, L⟩
  simp only [if_neg c3]
  rw [lh_isS (g := gX8_changed (lh_up (lh_up h 14 j b) 15 j c) 1) L rfl (nI j), lh_inE _ h b, lh_inE _ h c, if_neg c1, if_neg c1, if_neg c2, if_neg c2, if_neg c3, if_neg c3]
  refine ⟨L.J.fm ((((lh_fm.rf h).up (i := 14) (Or.inl (by decide))).up (i := 15) (Or.inl (by decide))).up (i := 30) (Or.inl (by decide))), rfl, ?_⟩
  have w2 := lh_rngW c2 (A := 0) (B := 2000) (by decide) (by decide)
  have w3 : lh_rng c 0 2000 := by
    have z := lh_within_iff.mp c3
    have e2 : (2000 : Int32).toInt = 2000 := by decide
    have := w2.1
    exact ⟨by omega, by omega⟩
  refine lh_INV_of L ⟨I.1, I.2.1, fun s hs => ?_, I.2.2.2.1, I.2.2.2.2⟩ L.2.1 ⟨R.1, R.2.1, fun s hs => ?_, R.2.2.2⟩ (Or.inl rfl) (((((((lh_kp.rf h).up (by omega)).up (by omega)).up (by omega)).up (by omega)).up (by omega)))
  · obtain ⟨s0, s1, s2, s3, s4, s5, s6⟩ := I.2.2.1 s hs
    exact ⟨s0, s1, s2, s3, s4, lh_u01 (f := h 14) (j := j) (fun x => lh_rng x 0 2000) w2 s5, lh_u01 (f := h 15) (j := j) (fun x => lh_rng x 0 2000) w3 s6⟩
  · obtain ⟨s0, s1, s2, s3, s4, s5, s6⟩ := R.2.2.1 s hs
    refine ⟨?_, ?_, ?_, ?_, ?_, ?_, ?_⟩
    · show upd (upd (h 41) (7 * j + 5) b) (7 * j + 6) c (7 * s) = h 9 s
      rw [lh_un (by omega), lh_un (by omega), s0]
    · show upd (upd (h 41) (7 * j + 5) b) (7 * j + 6) c (7 * s + 1) = h 10 s
      rw [lh_un (by omega), lh_un (by omega), s1]
    · show upd (upd (h 41) (7 * j + 5) b) (7 * j + 6) c (7 * s + 2) = h 11 s
      rw [lh_un (by omega), lh_un (by omega), s2]
    · show upd (upd (h 41) (7 * j + 5) b) (7 * j + 6) c (7 * s + 3) = h 12 s
      rw [lh_un (by omega), lh_un (by omega), s3]
    · show upd (upd (h 41) (7 * j + 5) b) (7 * j + 6) c (7 * s + 4) = lh_n4 (h 13 s)
      rw [lh_un (by omega), lh_un (by omega), s4]
    · show upd (upd (h 41) (7 * j + 5) b) (7 * j + 6) c (7 * s + 5) = upd (h 14) j b s
      rw [lh_un (by omega)]
      by_cases e : s = j
      · rw [e, lh_ue, lh_ue]
      · rw [lh_un (by omega), lh_un e, s5]
    · show upd (upd (h 41) (7 * j + 5) b) (7 * j + 6) c (7 * s + 6) = upd (h 15) j c s
      by_cases e : s = j
      · rw [e, lh_ue, lh_ue]
      · rw [lh_un (by omega), lh_un (by omega), lh_un e, s6]
theorem op_reading {k : Bool} {h : lh_HS} (L : lh_INV k h) (a : Int32) (b : Int32) (c : Int32) : lh_J (gX8_reading h a b c) ∧ fX8_reading h a b c = fX9_reading (gX8_reading h a b c) a b c ∧ lh_INV k (gX9_reading (gX8_reading h a b c) a b c) := by
  have I := L.1
  have R := L.2.2.2.1
  unfold gX8_reading fX8_reading fX9_reading gX9_reading
  by_cases c1 : fX4_has h a = 0
  · simp only [if_pos c1]
    rw [lh_isR L rfl a, if_pos c1, if_pos c1]
    exact ⟨L.J, rfl, L⟩
  obtain ⟨r, hr, rfl⟩ := lh_rooms I c1
  simp only [if_neg c1]
  by_cases c2 : fX8_isYear h b = 0
  · simp only [if_pos c2]
    rw [lh_isR L rfl (nI r), lh_yrE h h b, if_neg c1, if_neg c1, if_pos c2, if_pos c2]
    exact ⟨L.J, rfl, L⟩
  obtain ⟨y, hy, rfl⟩ := lh_years c2
  have hN := I.1.1.2
  have p1 : (10 * nI r + nI y).toNatClampNeg = 10 * r + y := lh_at (k := 10) (by omega)
  have p2 : (nI r * 10 + nI y).toNatClampNeg = r * 10 + y := by rw [lh_ry, nI_clamp (by omega)]
  have p3 : (nI r).toNatClampNeg = r := nI_clamp (by omega)
  have e7 := (R.2.1 r hr).1
  simp only [if_neg c2, p1, p3]
  by_cases c3 : fX8_within h c (-1) (h 7 r) = 0
  · simp only [if_pos c3]
    rw [lh_isR L rfl (nI r), lh_yrE h h (nI y), lh_inE h h c, e7, if_neg c1, if_neg c1, if_neg c2, if_neg c2, if_pos c3, if_pos c3]
    exact ⟨L.J, rfl, L⟩
  simp only [if_neg c3]
  unfold gX4_read
  rw [p2]
  have e7' : gX8_changed (lh_up h 8 (r * 10 + y) c) 1 39 r = h 7 r := e7
  rw [lh_isR (g := gX8_changed (lh_up h 8 (r * 10 + y) c) 1) L rfl (nI r), lh_yrE _ h (nI y), e7', lh_inE _ h c, if_neg c1, if_neg c1, if_neg c2, if_neg c2, if_neg c3, if_neg c3]
  refine ⟨L.J.fm (((lh_fm.rf h).up (i := 8) (Or.inl (by decide))).up (i := 30) (Or.inl (by decide))), rfl, ?_⟩
  have w3 := lh_rngW c3 (A := -1) (B := (h 7 r).toInt) (by decide) rfl
  refine lh_INV_of L ⟨I.1, fun s hs => ?_, I.2.2⟩ L.2.1 ⟨R.1, fun s hs => ?_, R.2.2⟩ (Or.inl rfl) (((((lh_kp.rf h).up (by omega)).up (by omega)).up (by omega)))
  · obtain ⟨s0, s1⟩ := I.2.1 s hs
    refine ⟨s0, fun z hz => ?_⟩
    show lh_rng (upd (h 8) (r * 10 + y) c (s * 10 + z)) (-1) (h 7 s).toInt
    by_cases e : s * 10 + z = r * 10 + y
    · have : s = r := by omega
      rw [e, lh_ue, this]; exact w3
    · rw [lh_un e]; exact s1 z hz
  · obtain ⟨s0, s1⟩ := R.2.1 s hs
    refine ⟨s0, fun z hz => ?_⟩
    show upd (h 40) (10 * r + y) c (10 * s + z) = upd (h 8) (r * 10 + y) c (s * 10 + z)
    by_cases e : s * 10 + z = r * 10 + y
    · rw [e, show 10 * s + z = 10 * r + y from by omega, lh_ue, lh_ue]
    · rw [lh_un e, lh_un (by omega), s1 z hz]
theorem op_thread {k : Bool} {h : lh_HS} (L : lh_INV k h) (a : Int32) (b : Int32) (c : Int32) : lh_J (gX8_thread h a b c) ∧ fX8_thread h a b c = fX9_thread (gX8_thread h a b c) a b c ∧ lh_INV k (gX9_thread (gX8_thread h a b c) a b c) := by
  have I := L.1
  have R := L.2.2.2.1
  unfold gX8_thread fX8_thread fX9_thread gX9_thread
  by_cases c1 : fX5_has h a = 0
  · simp only [if_pos c1]
    rw [lh_isS L rfl a, if_pos c1, if_pos c1]
    exact ⟨L.J, rfl, L⟩
  simp only [if_neg c1]
  by_cases c2 : fX8_isYear h b = 0
  · simp only [if_pos c2]
    rw [lh_isS L rfl a, lh_yrE h h b, if_neg c1, if_neg c1, if_pos c2, if_pos c2]
    exact ⟨L.J, rfl, L⟩
  simp only [if_neg c2]
  by_cases c3 : fX8_within h c 0 7 = 0
  · simp only [if_pos c3]
    rw [lh_isS L rfl a, lh_yrE h h b, lh_inE h h c, if_neg c1, if_neg c1, if_neg c2, if_neg c2, if_pos c3, if_pos c3]
    exact ⟨L.J, rfl, L⟩
  simp only [if_neg c3]
  have e5 := I.1.2.2.2.1.1
  have n5 := I.1.2.2.2.1.2
  have e38 := R.1.2.2.2.1
  have fl := lh_full (n := lh_N h 5) (M := 12) n5 (by omega)
  rw [← e5] at fl
  by_cases c4 : h 5 0 < 12
  · simp only [if_pos c4]
    have w1 := lh_sheets I c1
    have w2 := lh_years c2
    have w3 : lh_ix c 8 := by
      have z := lh_within_iff.mp c3
      have q0 : (0 : Int32).toInt = 0 := by decide
      have q1 : (7 : Int32).toInt = 7 := by decide
      rw [lh_ix_iff (by omega)]
      omega
    generalize hn : lh_N h 5 = n at *
    have hn2 : n < 12 := by
      rw [e5, Int32.lt_iff_toInt_lt, nI_toInt (by omega)] at c4
      have q1 : (12 : Int32).toInt = 12 := by decide
      omega
    unfold gX6_add fX6_add
    simp only [if_pos c4]
    simp only [e5, nI_clamp (show n < 2 ^ 31 by omega)]
    have q0 : (3 * nI n).toNatClampNeg = 3 * n := lh_at0 (k := 3) (by omega)
    have q1 : (3 * nI n + 1).toNatClampNeg = 3 * n + 1 := lh_at (k := 3) (c := 1) (by omega)
    have q2 : (3 * nI n + 2).toNatClampNeg = 3 * n + 2 := lh_at (k := 3) (c := 2) (by omega)
    generalize hg1 : gX8_changed (lh_up (lh_up (lh_up (lh_up h 21 n a) 22 n b) 23 n c) 5 0 (nI n + 1)) (nI n + 1 - 1) = h1
    have f38 : h1 38 = h 38 := by rw [← hg1]; rfl
    have fJ : lh_fm h h1 := by rw [← hg1]; exact (((((lh_fm.rf h).up (i := 21) (Or.inl (by decide))).up (i := 22) (Or.inl (by decide))).up (i := 23) (Or.inl (by decide))).up (i := 5) (Or.inl (by decide))).up (i := 30) (Or.inl (by decide))
    have g38 : h1 38 3 = nI n := by rw [f38, e38, e5]
    have ng : ¬ nI n = 12 := by rw [← e5]; exact fl.mp c4
    rw [lh_isS L f38 a, lh_yrE _ h b, lh_inE _ h c, if_neg c1, if_neg c1, if_neg c2, if_neg c2, if_neg c3, if_neg c3, g38, if_neg ng, if_neg ng, q0, q1, q2]
    refine ⟨L.J.fm fJ, ?_, ?_⟩
    · show nI n + 1 - 1 = upd (h1 38) 3 (h1 38 3 + 1) 3 - 1
      rw [lh_ue, g38]
    · have hlt : ∀ t, t < lh_N (gX9_came (lh_up (lh_up (lh_up h1 43 (3 * n) a) 43 (3 * n + 1) b) 43 (3 * n + 2) c) 3) 5 → t = n ∨ t < lh_N h 5 := fun t ht => by
        rw [← hg1] at ht
        have ht2 : t < (nI n + 1).toNatClampNeg := ht
        rw [nI_1, nI_clamp (by omega)] at ht2
        omega
      subst hg1
      refine lh_INV_of L ⟨⟨I.1.1, I.1.2.1, I.1.2.2.1, ⟨?_, ?_⟩, I.1.2.2.2.2⟩, I.2.1, I.2.2.1, I.2.2.2.1, fun t ht => ?_, I.2.2.2.2.2⟩ L.2.1 ⟨⟨R.1.1, R.1.2.1, R.1.2.2.1, ?_, R.1.2.2.2.2⟩, R.2.1, R.2.2.1, R.2.2.2.1, fun t ht => ?_, R.2.2.2.2.2⟩ (Or.inl rfl) (((((((((((lh_kp.rf h).up (by omega)).up (by omega)).up (by omega)).up (by omega)).up (by omega)).up (by omega)).up (by omega)).up (by omega)).up (by omega)))
      · show nI n + 1 = nI (nI n + 1).toNatClampNeg
        rw [nI_1, nI_clamp (by omega)]
      · show (nI n + 1).toNatClampNeg ≤ 12
        rw [nI_1, nI_clamp (by omega)]
        omega
      · show lh_ix (upd (h 21) n a t) _ ∧ lh_ix (upd (h 22) n b t) 10 ∧ lh_ix (upd (h 23) n c t) 8
        rcases hlt t ht with e | e
        · rw [e, lh_ue, lh_ue, lh_ue]; exact ⟨w1, w2, w3⟩
        · rw [lh_un (by omega), lh_un (by omega), lh_un (by omega)]; exact I.2.2.2.2.1 t e
      · show upd (h 38) 3 (h 38 3 + 1) 3 = nI n + 1
        rw [lh_ue, e38, e5]
      · show upd (upd (upd (h 43) (3 * n) a) (3 * n + 1) b) (3 * n + 2) c (3 * t) = upd (h 21) n a t ∧ upd (upd (upd (h 43) (3 * n) a) (3 * n + 1) b) (3 * n + 2) c (3 * t + 1) = upd (h 22) n b t ∧ upd (upd (upd (h 43) (3 * n) a) (3 * n + 1) b) (3 * n + 2) c (3 * t + 2) = upd (h 23) n c t
        rcases hlt t ht with e | e
        · subst e
          refine ⟨?_, ?_, ?_⟩
          · rw [lh_un (by omega), lh_un (by omega), lh_ue, lh_ue]
          · rw [lh_un (by omega), lh_ue, lh_ue]
          · rw [lh_ue, lh_ue]
        · obtain ⟨x0, x1, x2⟩ := R.2.2.2.2.1 t e
          rw [lh_un (by omega), lh_un (by omega), lh_un (by omega), lh_un (by omega), lh_un (by omega), lh_un (by omega), lh_un (by omega), lh_un (by omega), lh_un (by omega), lh_un (by omega), lh_un (by omega), lh_un (by omega)]
          exact ⟨x0, x1, x2⟩
  · simp only [if_neg c4]
    have z : h 5 0 = 12 := by
      by_cases z : h 5 0 = 12
      · exact z
      · exact absurd (fl.mpr z) c4
    rw [lh_isS L rfl a, lh_yrE h h b, lh_inE h h c, if_neg c1, if_neg c1, if_neg c2, if_neg c2, if_neg c3, if_neg c3, e38, if_pos z, if_pos z]
    exact ⟨L.J, rfl, L⟩
theorem op_wall {k : Bool} {h : lh_HS} (L : lh_INV k h) (a : Int32) (b : Int32) (c : Int32) : lh_J (gX8_wall h a b c) ∧ fX8_wall h a b c = fX9_wall (gX8_wall h a b c) a b c ∧ lh_INV k (gX9_wall (gX8_wall h a b c) a b c) := by
  have I := L.1
  have R := L.2.2.2.1
  unfold gX8_wall fX8_wall fX9_wall gX9_wall
  by_cases c1 : fX4_has h a = 0
  · simp only [if_pos c1]
    rw [lh_isR L rfl a, if_pos c1, if_pos c1]
    exact ⟨L.J, rfl, L⟩
  simp only [if_neg c1]
  by_cases c2 : fX8_isYear h b = 0
  · simp only [if_pos c2]
    rw [lh_isR L rfl a, lh_yrE h h b, if_neg c1, if_neg c1, if_pos c2, if_pos c2]
    exact ⟨L.J, rfl, L⟩
  simp only [if_neg c2]
  by_cases c3 : fX8_within h c 0 3 = 0
  · simp only [if_pos c3]
    rw [lh_isR L rfl a, lh_yrE h h b, lh_inE h h c, if_neg c1, if_neg c1, if_neg c2, if_neg c2, if_pos c3, if_pos c3]
    exact ⟨L.J, rfl, L⟩
  simp only [if_neg c3]
  have e5 := I.1.2.2.2.2.1
  have n5 := I.1.2.2.2.2.2
  have e38 := R.1.2.2.2.2
  have fl := lh_full (n := lh_N h 6) (M := 5) n5 (by omega)
  rw [← e5] at fl
  by_cases c4 : h 6 0 < 5
  · simp only [if_pos c4]
    have w1 := lh_rooms I c1
    have w2 := lh_years c2
    have w3 : lh_ix c 4 := by
      have z := lh_within_iff.mp c3
      have q0 : (0 : Int32).toInt = 0 := by decide
      have q1 : (3 : Int32).toInt = 3 := by decide
      rw [lh_ix_iff (by omega)]
      omega
    generalize hn : lh_N h 6 = n at *
    have hn2 : n < 5 := by
      rw [e5, Int32.lt_iff_toInt_lt, nI_toInt (by omega)] at c4
      have q1 : (5 : Int32).toInt = 5 := by decide
      omega
    unfold gX7_add fX7_add
    simp only [if_pos c4]
    simp only [e5, nI_clamp (show n < 2 ^ 31 by omega)]
    have q0 : (3 * nI n).toNatClampNeg = 3 * n := lh_at0 (k := 3) (by omega)
    have q1 : (3 * nI n + 1).toNatClampNeg = 3 * n + 1 := lh_at (k := 3) (c := 1) (by omega)
    have q2 : (3 * nI n + 2).toNatClampNeg = 3 * n + 2 := lh_at (k := 3) (c := 2) (by omega)
    generalize hg1 : gX8_changed (lh_up (lh_up (lh_up (lh_up h 24 n a) 25 n b) 26 n c) 6 0 (nI n + 1)) (nI n + 1 - 1) = h1
    have f38 : h1 38 = h 38 := by rw [← hg1]; rfl
    have fJ : lh_fm h h1 := by rw [← hg1]; exact (((((lh_fm.rf h).up (i := 24) (Or.inl (by decide))).up (i := 25) (Or.inl (by decide))).up (i := 26) (Or.inl (by decide))).up (i := 6) (Or.inl (by decide))).up (i := 30) (Or.inl (by decide))
    have g38 : h1 38 4 = nI n := by rw [f38, e38, e5]
    have ng : ¬ nI n = 5 := by rw [← e5]; exact fl.mp c4
    rw [lh_isR L f38 a, lh_yrE _ h b, lh_inE _ h c, if_neg c1, if_neg c1, if_neg c2, if_neg c2, if_neg c3, if_neg c3, g38, if_neg ng, if_neg ng, q0, q1, q2]
    refine ⟨L.J.fm fJ, ?_, ?_⟩
    · show nI n + 1 - 1 = upd (h1 38) 4 (h1 38 4 + 1) 4 - 1
      rw [lh_ue, g38]
    · have hlt : ∀ t, t < lh_N (gX9_came (lh_up (lh_up (lh_up h1 44 (3 * n) a) 44 (3 * n + 1) b) 44 (3 * n + 2) c) 4) 6 → t = n ∨ t < lh_N h 6 := fun t ht => by
        rw [← hg1] at ht
        have ht2 : t < (nI n + 1).toNatClampNeg := ht
        rw [nI_1, nI_clamp (by omega)] at ht2
        omega
      subst hg1
      refine lh_INV_of L ⟨⟨I.1.1, I.1.2.1, I.1.2.2.1, I.1.2.2.2.1, ⟨?_, ?_⟩⟩, I.2.1, I.2.2.1, I.2.2.2.1, I.2.2.2.2.1, fun t ht => ?_⟩ L.2.1 ⟨⟨R.1.1, R.1.2.1, R.1.2.2.1, R.1.2.2.2.1, ?_⟩, R.2.1, R.2.2.1, R.2.2.2.1, R.2.2.2.2.1, fun t ht => ?_⟩ (Or.inl rfl) (((((((((((lh_kp.rf h).up (by omega)).up (by omega)).up (by omega)).up (by omega)).up (by omega)).up (by omega)).up (by omega)).up (by omega)).up (by omega)))
      · show nI n + 1 = nI (nI n + 1).toNatClampNeg
        rw [nI_1, nI_clamp (by omega)]
      · show (nI n + 1).toNatClampNeg ≤ 5
        rw [nI_1, nI_clamp (by omega)]
        omega
      · show lh_ix (upd (h 24) n a t) _ ∧ lh_ix (upd (h 25) n b t) 10 ∧ lh_ix (upd (h 26) n c t) 4
        rcases hlt t ht with e | e
        · rw [e, lh_ue, lh_ue, lh_ue]; exact ⟨w1, w2, w3⟩
        · rw [lh_un (by omega), lh_un (by omega), lh_un (by omega)]; exact I.2.2.2.2.2 t e
      · show upd (h 38) 4 (h 38 4 + 1) 4 = nI n + 1
        rw [lh_ue, e38, e5]
      · show upd (upd (upd (h 44) (3 * n) a) (3 * n + 1) b) (3 * n + 2) c (3 * t) = upd (h 24) n a t ∧ upd (upd (upd (h 44) (3 * n) a) (3 * n + 1) b) (3 * n + 2) c (3 * t + 1) = upd (h 25) n b t ∧ upd (upd (upd (h 44) (3 * n) a) (3 * n + 1) b) (3 * n + 2) c (3 * t + 2) = upd (h 26) n c t
        rcases hlt t ht with e | e
        · subst e
          refine ⟨?_, ?_, ?_⟩
          · rw [lh_un (by omega), lh_un (by omega), lh_ue, lh_ue]
          · rw [lh_un (by omega), lh_ue, lh_ue]
          · rw [lh_ue, lh_ue]
        · obtain ⟨x0, x1, x2⟩ := R.2.2.2.2.2 t e
          rw [lh_un (by omega), lh_un (by omega), lh_un (by omega), lh_un (by omega), lh_un (by omega), lh_un (by omega), lh_un (by omega), lh_un (by omega), lh_un (by omega), lh_un (by omega), lh_un (by omega), lh_un (by omega)]
          exact ⟨x0, x1, x2⟩
  · simp only [if_neg c4]
    have z : h 6 0 = 5 := by
      by_cases z : h 6 0 = 5
      · exact z
      · exact absurd (fl.mpr z) c4
    rw [lh_isR L rfl a, lh_yrE h h b, lh_inE h h c, if_neg c1, if_neg c1, if_neg c2, if_neg c2, if_neg c3, if_neg c3, e38, if_pos z, if_pos z]
    exact ⟨L.J, rfl, L⟩
