theorem op_sisters {k : Bool} {h : lh_HS} (L : lh_INV k h) (a : Int32) (b : Int32) : lh_J (gX8_sisters h a b) ∧ fX8_sisters h a b = fX9_sisters (gX8_sisters h a b) a b ∧ lh_INV k (gX9_sisters (gX8_sisters h a b) a b) := by
  have I := L.1
  have R := L.2.2.2.1
  unfold gX8_sisters fX8_sisters fX9_sisters gX9_sisters
  by_cases c1 : fX5_has h a = 0
  · simp only [if_pos c1]
    rw [lh_isS L rfl a, if_pos c1, if_pos c1]
    exact ⟨L.J, rfl, L⟩
  by_cases c2 : fX5_has h b = 0
  · simp only [if_neg c1, if_pos c2]
    rw [lh_isS L rfl a, lh_isS L rfl b, if_neg c1, if_neg c1, if_pos c2, if_pos c2]
    exact ⟨L.J, rfl, L⟩
  by_cases c3 : a = b
  · simp only [if_neg c1, if_neg c2, if_pos c3]
    rw [lh_isS L rfl a, lh_isS L rfl b, if_neg c1, if_neg c1, if_neg c2, if_neg c2]
    exact ⟨L.J, rfl, L⟩
  obtain ⟨i, hi, rfl⟩ := lh_sheets I c1
  obtain ⟨j, hj, rfl⟩ := lh_sheets I c2
  have hN := I.1.2.1.2
  have hij : i ≠ j := fun e => c3 (by rw [e])
  obtain ⟨p0, p1, p2, p3, p4, p5, p6, p7⟩ := lh_st I hi
  obtain ⟨q0, q1, q2, q3, q4, q5, q6, q7⟩ := lh_st I hj
  have s1 : h 41 (7 * i + 4) = lh_n4 (h 13 i) := (R.2.2.1 i hi).2.2.2.2.1
  have s2 : h 41 (7 * j + 4) = lh_n4 (h 13 j) := (R.2.2.1 j hj).2.2.2.2.1
  obtain ⟨m1, m2⟩ := lh_n4_ge (n := lh_N h 3) (by omega) (I.2.2.1 i hi).2.2.2.2.1
  obtain ⟨m3, m4⟩ := lh_n4_ge (n := lh_N h 3) (by omega) (I.2.2.1 j hj).2.2.2.2.1
  have lt4 : ∀ x : Int32, x < 0 ↔ ¬ 0 ≤ x := fun x => by rw [Int32.lt_iff_toInt_lt, Int32.le_iff_toInt_le]; omega
  simp only [if_neg c1, if_neg c2, if_neg c3, p4, q4, p7, q7, fX9_sisterOf]
  by_cases c4 : h 13 i = -4
  · simp only [if_pos c4]
    by_cases c5 : h 13 j = -4
    · simp only [if_pos c5]
      generalize hg1 : gX8_changed (lh_up (lh_up h 13 i (nI j)) 13 j (nI i)) 1 = h1
      have f38 : h1 38 = h 38 := by rw [← hg1]; rfl
      have f41 : h1 41 = h 41 := by rw [← hg1]; rfl
      have fJ : lh_fm h h1 := by rw [← hg1]; exact (((lh_fm.rf h).up (i := 13) (Or.inl (by decide))).up (i := 13) (Or.inl (by decide))).up (i := 30) (Or.inl (by decide))
      rw [lh_isS L f38 (nI i), lh_isS L f38 (nI j), f41, s1, s2, if_neg c1, if_neg c1, if_neg c2, if_neg c2, if_neg (fun z => (m1.mp z) c4), if_neg (fun z => (m1.mp z) c4), if_pos ((lt4 _).mpr (fun z => (m3.mp z) c5)), if_pos ((lt4 _).mpr (fun z => (m3.mp z) c5))]
      refine ⟨L.J.fm fJ, rfl, ?_⟩
      subst hg1
      refine lh_INV_of L ⟨I.1, I.2.1, fun s hs => ?_, I.2.2.2.1, I.2.2.2.2⟩ L.2.1 ⟨R.1, R.2.1, fun s hs => ?_, R.2.2.2⟩ (Or.inl rfl) (((((((lh_kp.rf h).up (by omega)).up (by omega)).up (by omega)).up (by omega)).up (by omega)))
      · obtain ⟨s0, s1, s2, s3, s4, s5, s6⟩ := I.2.2.1 s hs
        exact ⟨s0, s1, s2, s3, lh_u01 (f := upd (h 13) i (nI j)) (j := j) (fun x => x = -4 ∨ lh_ix x (lh_N h 3)) (Or.inr ⟨i, hi, rfl⟩) (lh_u01 (f := h 13) (j := i) (fun x => x = -4 ∨ lh_ix x (lh_N h 3)) (Or.inr ⟨j, hj, rfl⟩) s4), s5, s6⟩
      · obtain ⟨s0, s1, s2, s3, s4, s5, s6⟩ := R.2.2.1 s hs
        refine ⟨?_, ?_, ?_, ?_, ?_, ?_, ?_⟩
        · show upd (upd (h 41) (7 * i + 4) (nI j)) (7 * j + 4) (nI i) (7 * s) = h 9 s
          rw [lh_un (by omega), lh_un (by omega), s0]
        · show upd (upd (h 41) (7 * i + 4) (nI j)) (7 * j + 4) (nI i) (7 * s + 1) = h 10 s
          rw [lh_un (by omega), lh_un (by omega), s1]
        · show upd (upd (h 41) (7 * i + 4) (nI j)) (7 * j + 4) (nI i) (7 * s + 2) = h 11 s
          rw [lh_un (by omega), lh_un (by omega), s2]
        · show upd (upd (h 41) (7 * i + 4) (nI j)) (7 * j + 4) (nI i) (7 * s + 3) = h 12 s
          rw [lh_un (by omega), lh_un (by omega), s3]
        · show upd (upd (h 41) (7 * i + 4) (nI j)) (7 * j + 4) (nI i) (7 * s + 4) = lh_n4 (upd (upd (h 13) i (nI j)) j (nI i) s)
          by_cases e : s = j
          · rw [e, lh_ue, lh_ue, lh_n4_ix (n := lh_N h 3) (by omega) ⟨i, hi, rfl⟩]
          · rw [lh_un (by omega), lh_un e]
            by_cases e2 : s = i
            · rw [e2, lh_ue, lh_ue, lh_n4_ix (n := lh_N h 3) (by omega) ⟨j, hj, rfl⟩]
            · rw [lh_un (by omega), lh_un e2, s4]
        · show upd (upd (h 41) (7 * i + 4) (nI j)) (7 * j + 4) (nI i) (7 * s + 5) = h 14 s
          rw [lh_un (by omega), lh_un (by omega), s5]
        · show upd (upd (h 41) (7 * i + 4) (nI j)) (7 * j + 4) (nI i) (7 * s + 6) = h 15 s
          rw [lh_un (by omega), lh_un (by omega), s6]
    · simp only [if_neg c5]
      rw [lh_isS L rfl (nI i), lh_isS L rfl (nI j), s1, s2, if_neg c1, if_neg c1, if_neg c2, if_neg c2, if_neg (fun z => (m1.mp z) c4), if_neg (fun z => (m1.mp z) c4), if_neg (fun z => (lt4 _).mp z (m3.mpr c5)), if_neg (fun z => (lt4 _).mp z (m3.mpr c5))]
      exact ⟨L.J, rfl, L⟩
  · simp only [if_neg c4]
    rw [lh_isS L rfl (nI i), lh_isS L rfl (nI j), s1, if_neg c1, if_neg c1, if_neg c2, if_neg c2, if_pos (m1.mpr c4), if_pos (m1.mpr c4)]
    exact ⟨L.J, rfl, L⟩
theorem op_sheet {k : Bool} {h : lh_HS} (L : lh_INV k h) (a : Int32) (b : Int32) (c : Int32) (d : Int32) : lh_J (gX8_sheet h a b c d) ∧ fX8_sheet h a b c d = fX9_sheet (gX8_sheet h a b c d) a b c d ∧ lh_INV k (gX9_sheet (gX8_sheet h a b c d) a b c d) := by
  have I := L.1
  have R := L.2.2.2.1
  unfold gX8_sheet fX8_sheet fX9_sheet gX9_sheet
  by_cases c1 : fX8_within h a 1 2000 = 0
  · simp only [if_pos c1]
    rw [lh_inE h h a, if_pos c1, if_pos c1]
    exact ⟨L.J, rfl, L⟩
  simp only [if_neg c1]
  by_cases c2 : fX8_within h b 1 15 = 0
  · simp only [if_pos c2]
    rw [lh_inE h h a, lh_inE h h b, if_neg c1, if_neg c1, if_pos c2, if_pos c2]
    exact ⟨L.J, rfl, L⟩
  simp only [if_neg c2]
  by_cases c3 : fX8_within h c 1 9 = 0
  · simp only [if_pos c3]
    rw [lh_inE h h a, lh_inE h h b, lh_inE h h c, if_neg c1, if_neg c1, if_neg c2, if_neg c2, if_pos c3, if_pos c3]
    exact ⟨L.J, rfl, L⟩
  simp only [if_neg c3]
  by_cases c4 : fX8_within h d 0 3 = 0
  · simp only [if_pos c4]
    rw [lh_inE h h a, lh_inE h h b, lh_inE h h c, lh_inE h h d, if_neg c1, if_neg c1, if_neg c2, if_neg c2, if_neg c3, if_neg c3, if_pos c4, if_pos c4]
    exact ⟨L.J, rfl, L⟩
  simp only [if_neg c4]
  have e5 := I.1.2.1.1
  have n5 := I.1.2.1.2
  have e38 := R.1.2.1
  have fl := lh_full (n := lh_N h 3) (M := 8) n5 (by omega)
  rw [← e5] at fl
  by_cases c9 : h 3 0 < 8
  · simp only [if_pos c9]
    have w1 := lh_rngW c1 (A := 1) (B := 2000) (by decide) (by decide)
    have w2 := lh_rngW c2 (A := 1) (B := 15) (by decide) (by decide)
    have w3 := lh_rngW c3 (A := 1) (B := 9) (by decide) (by decide)
    have w4 := lh_rngW c4 (A := 0) (B := 3) (by decide) (by decide)
    have w0 : lh_rng 0 0 2000 := ⟨by decide, by decide⟩
    generalize hn : lh_N h 3 = n at *
    have hn2 : n < 8 := by
      rw [e5, Int32.lt_iff_toInt_lt, nI_toInt (by omega)] at c9
      have q1 : (8 : Int32).toInt = 8 := by decide
      omega
    unfold gX5_add fX5_add
    simp only [if_pos c9]
    simp only [e5, nI_clamp (show n < 2 ^ 31 by omega)]
    have q0 : (7 * nI n).toNatClampNeg = 7 * n := lh_at0 (k := 7) (by omega)
    have q1 : (7 * nI n + 1).toNatClampNeg = 7 * n + 1 := lh_at (k := 7) (c := 1) (by omega)
    have q2 : (7 * nI n + 2).toNatClampNeg = 7 * n + 2 := lh_at (k := 7) (c := 2) (by omega)
    have q3 : (7 * nI n + 3).toNatClampNeg = 7 * n + 3 := lh_at (k := 7) (c := 3) (by omega)
    have q4 : (7 * nI n + 4).toNatClampNeg = 7 * n + 4 := lh_at (k := 7) (c := 4) (by omega)
    have q5 : (7 * nI n + 5).toNatClampNeg = 7 * n + 5 := lh_at (k := 7) (c := 5) (by omega)
    have q6 : (7 * nI n + 6).toNatClampNeg = 7 * n + 6 := lh_at (k := 7) (c := 6) (by omega)
    generalize hg1 : gX8_changed (lh_up (lh_up (lh_up (lh_up (lh_up (lh_up (lh_up (lh_up h 9 n a) 10 n b) 11 n c) 12 n d) 13 n (-4)) 14 n 0) 15 n 0) 3 0 (nI n + 1)) (nI n + 1 - 1) = h1
    have f38 : h1 38 = h 38 := by rw [← hg1]; rfl
    have fJ : lh_fm h h1 := by rw [← hg1]; exact (((((((((lh_fm.rf h).up (i := 9) (Or.inl (by decide))).up (i := 10) (Or.inl (by decide))).up (i := 11) (Or.inl (by decide))).up (i := 12) (Or.inl (by decide))).up (i := 13) (Or.inl (by decide))).up (i := 14) (Or.inl (by decide))).up (i := 15) (Or.inl (by decide))).up (i := 3) (Or.inl (by decide))).up (i := 30) (Or.inl (by decide))
    have g38 : h1 38 1 = nI n := by rw [f38, e38, e5]
    have ng : ¬ nI n = 8 := by rw [← e5]; exact fl.mp c9
    rw [lh_inE _ h a, lh_inE _ h b, lh_inE _ h c, lh_inE _ h d, if_neg c1, if_neg c1, if_neg c2, if_neg c2, if_neg c3, if_neg c3, if_neg c4, if_neg c4, g38, if_neg ng, if_neg ng, q0, q1, q2, q3, q4, q5, q6]
    refine ⟨L.J.fm fJ, ?_, ?_⟩
    · show nI n + 1 - 1 = upd (h1 38) 1 (h1 38 1 + 1) 1 - 1
      rw [lh_ue, g38]
    · have hNN : lh_N (gX9_came (lh_up (lh_up (lh_up (lh_up (lh_up (lh_up (lh_up h1 41 (7 * n) a) 41 (7 * n + 1) b) 41 (7 * n + 2) c) 41 (7 * n + 3) d) 41 (7 * n + 4) (-1)) 41 (7 * n + 5) 0) 41 (7 * n + 6) 0) 1) 3 = n + 1 := by
        rw [← hg1]
        show (nI n + 1).toNatClampNeg = n + 1
        rw [nI_1, nI_clamp (by omega)]
      have hlt : ∀ t, t < lh_N (gX9_came (lh_up (lh_up (lh_up (lh_up (lh_up (lh_up (lh_up h1 41 (7 * n) a) 41 (7 * n + 1) b) 41 (7 * n + 2) c) 41 (7 * n + 3) d) 41 (7 * n + 4) (-1)) 41 (7 * n + 5) 0) 41 (7 * n + 6) 0) 1) 3 → t = n ∨ t < n := fun t ht => by
        rw [hNN] at ht
        omega
      have up1 : ∀ x : Int32, lh_ix x n → lh_ix x (lh_N (gX9_came (lh_up (lh_up (lh_up (lh_up (lh_up (lh_up (lh_up h1 41 (7 * n) a) 41 (7 * n + 1) b) 41 (7 * n + 2) c) 41 (7 * n + 3) d) 41 (7 * n + 4) (-1)) 41 (7 * n + 5) 0) 41 (7 * n + 6) 0) 1) 3) := fun x hx => by rw [hNN]; exact hx.mono (by omega)
      have I3 := I.2.2.1
      have I4 := I.2.2.2.1
      have I5 := I.2.2.2.2.1
      have R3 := R.2.2.1
      unfold lh_IS at I3
      unfold lh_IB at I4
      unfold lh_IT at I5
      unfold lh_RMs at R3
      rw [hn] at I3 I4 I5 R3
      subst hg1
      refine lh_INV_of L ⟨⟨I.1.1, ⟨?_, ?_⟩, I.1.2.2⟩, I.2.1, fun t ht => ?_, fun t ht => ⟨up1 _ (I4 t ht).1, (I4 t ht).2⟩, fun t ht => ⟨up1 _ (I5 t ht).1, (I5 t ht).2⟩, I.2.2.2.2.2⟩ L.2.1 ⟨⟨R.1.1, ?_, R.1.2.2⟩, R.2.1, fun t ht => ?_, R.2.2.2⟩ (Or.inl rfl) (((((((((((((((((((lh_kp.rf h).up (by omega)).up (by omega)).up (by omega)).up (by omega)).up (by omega)).up (by omega)).up (by omega)).up (by omega)).up (by omega)).up (by omega)).up (by omega)).up (by omega)).up (by omega)).up (by omega)).up (by omega)).up (by omega)).up (by omega)))
      · show nI n + 1 = nI (nI n + 1).toNatClampNeg
        rw [nI_1, nI_clamp (by omega)]
      · rw [hNN]
        omega
      · show lh_rng (upd (h 9) n a t) 1 2000 ∧ lh_rng (upd (h 10) n b t) 1 15 ∧ lh_rng (upd (h 11) n c t) 1 9 ∧ lh_rng (upd (h 12) n d t) 0 3 ∧ (upd (h 13) n (-4) t = -4 ∨ lh_ix (upd (h 13) n (-4) t) _) ∧ lh_rng (upd (h 14) n 0 t) 0 2000 ∧ lh_rng (upd (h 15) n 0 t) 0 2000
        rcases hlt t ht with e | e
        · rw [e, lh_ue, lh_ue, lh_ue, lh_ue, lh_ue, lh_ue, lh_ue]; exact ⟨w1, w2, w3, w4, Or.inl rfl, w0, w0⟩
        · obtain ⟨s0, s1, s2, s3, s4, s5, s6⟩ := I3 t e
          rw [lh_un (by omega), lh_un (by omega), lh_un (by omega), lh_un (by omega), lh_un (by omega), lh_un (by omega), lh_un (by omega)]
          exact ⟨s0, s1, s2, s3, s4.elim Or.inl (fun z => Or.inr (up1 _ z)), s5, s6⟩
      · show upd (h 38) 1 (h 38 1 + 1) 1 = nI n + 1
        rw [lh_ue, e38, e5]
      · show (upd (upd (upd (upd (upd (upd (upd (h 41) (7 * n) a) (7 * n + 1) b) (7 * n + 2) c) (7 * n + 3) d) (7 * n + 4) (-1)) (7 * n + 5) 0) (7 * n + 6) 0) (7 * t) = upd (h 9) n a t ∧ (upd (upd (upd (upd (upd (upd (upd (h 41) (7 * n) a) (7 * n + 1) b) (7 * n + 2) c) (7 * n + 3) d) (7 * n + 4) (-1)) (7 * n + 5) 0) (7 * n + 6) 0) (7 * t + 1) = upd (h 10) n b t ∧ (upd (upd (upd (upd (upd (upd (upd (h 41) (7 * n) a) (7 * n + 1) b) (7 * n + 2) c) (7 * n + 3) d) (7 * n + 4) (-1)) (7 * n + 5) 0) (7 * n + 6) 0) (7 * t + 2) = upd (h 11) n c t ∧ (upd (upd (upd (upd (upd (upd (upd (h 41) (7 * n) a) (7 * n + 1) b) (7 * n + 2) c) (7 * n + 3) d) (7 * n + 4) (-1)) (7 * n + 5) 0) (7 * n + 6) 0) (7 * t + 3) = upd (h 12) n d t ∧ (upd (upd (upd (upd (upd (upd (upd (h 41) (7 * n) a) (7 * n + 1) b) (7 * n + 2) c) (7 * n + 3) d) (7 * n + 4) (-1)) (7 * n + 5) 0) (7 * n + 6) 0) (7 * t + 4) = lh_n4 (upd (h 13) n (-4) t) ∧ (upd (upd (upd (upd (upd (upd (upd (h 41) (7 * n) a) (7 * n + 1) b) (7 * n + 2) c) (7 * n + 3) d) (7 * n + 4) (-1)) (7 * n + 5) 0) (7 * n + 6) 0) (7 * t + 5) = upd (h 14) n 0 t ∧ (upd (upd (upd (upd (upd (upd (upd (h 41) (7 * n) a) (7 * n + 1) b) (7 * n + 2) c) (7 * n + 3) d) (7 * n + 4) (-1)) (7 * n + 5) 0) (7 * n + 6) 0) (7 * t + 6) = upd (h 15) n 0 t
        rcases hlt t ht with e | e
        · subst e
          refine ⟨?_, ?_, ?_, ?_, ?_, ?_, ?_⟩
          · rw [lh_un (by omega), lh_un (by omega), lh_un (by omega), lh_un (by omega), lh_un (by omega), lh_un (by omega), lh_ue, lh_ue]
          · rw [lh_un (by omega), lh_un (by omega), lh_un (by omega), lh_un (by omega), lh_un (by omega), lh_ue, lh_ue]
          · rw [lh_un (by omega), lh_un (by omega), lh_un (by omega), lh_un (by omega), lh_ue, lh_ue]
          · rw [lh_un (by omega), lh_un (by omega), lh_un (by omega), lh_ue, lh_ue]
          · rw [lh_un (by omega), lh_un (by omega), lh_ue, lh_ue, lh_n4_neg]
          · rw [lh_un (by omega), lh_ue, lh_ue]
          · rw [lh_ue, lh_ue]
        · obtain ⟨s0, s1, s2, s3, s4, s5, s6⟩ := R3 t e
          have un : ∀ x, x < 7 * n → (upd (upd (upd (upd (upd (upd (upd (h 41) (7 * n) a) (7 * n + 1) b) (7 * n + 2) c) (7 * n + 3) d) (7 * n + 4) (-1)) (7 * n + 5) 0) (7 * n + 6) 0) x = h 41 x := fun x hx => by
            rw [lh_un (by omega), lh_un (by omega), lh_un (by omega), lh_un (by omega), lh_un (by omega), lh_un (by omega), lh_un (by omega)]
          rw [un _ (by omega), un _ (by omega), un _ (by omega), un _ (by omega), un _ (by omega), un _ (by omega), un _ (by omega), lh_un (by omega), lh_un (by omega), lh_un (by omega), lh_un (by omega), lh_un (by omega), lh_un (by omega), lh_un (by omega)]
          exact ⟨s0, s1, s2, s3, s4, s5, s6⟩
  · simp only [if_neg c9]
    have z : h 3 0 = 8 := by
      by_cases z : h 3 0 = 8
      · exact z
      · exact absurd (fl.mpr z) c9
    rw [lh_inE _ h a, lh_inE _ h b, lh_inE _ h c, lh_inE _ h d, if_neg c1, if_neg c1, if_neg c2, if_neg c2, if_neg c3, if_neg c3, if_neg c4, if_neg c4, e38, if_pos z, if_pos z]
    exact ⟨L.J, rfl, L⟩
