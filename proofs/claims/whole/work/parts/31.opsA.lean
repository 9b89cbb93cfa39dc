theorem lh_neg1 {x : Int32} {B : Int} (h : lh_rng x (-1) B) : x < 0 ↔ x = -1 := by
  rw [Int32.lt_iff_toInt_lt, ← Int32.toInt_inj]
  have e0 : (0 : Int32).toInt = 0 := by decide
  have e1 : (-1 : Int32).toInt = -1 := by decide
  have := h.1
  omega
theorem lh_lightE {h : lh_HS} (I : lh_I h) (R : lh_RM h) {a b : Int32} (ha : lh_ix a (lh_N h 2)) (hb : lh_ix b 10) (g : Int32) : fX9_lightOf h a b g = fX4_lightEnd h a b g := by
  obtain ⟨r, hr, rfl⟩ := ha
  obtain ⟨y, hy, rfl⟩ := hb
  have hN := I.1.1.2
  unfold fX9_lightOf fX4_lightEnd
  have e1 : (10 * nI r + nI y).toNatClampNeg = 10 * r + y := lh_at (k := 10) (by omega)
  have e2 : (nI r * 10 + nI y).toNatClampNeg = r * 10 + y := by rw [lh_ry, nI_clamp (by omega)]
  obtain ⟨w, q⟩ := R.2.1 r hr
  rw [e1, e2, nI_clamp (by omega), w, q y hy]
  have z := (I.2.1 r hr).2 y hy
  by_cases c : h 8 (r * 10 + y) = -1
  · rw [if_pos ((lh_neg1 z).mpr c), if_pos c]
  · rw [if_neg (fun x => c ((lh_neg1 z).mp x)), if_neg c]
theorem op_light {k : Bool} {h : lh_HS} (L : lh_INV k h) (a : Int32) (b : Int32) (g : Int32) : lh_J h ∧ fX8_light h a b g = fX9_light h a b g ∧ lh_INV k h := by
  refine ⟨L.J, ?_, L⟩
  unfold fX8_light fX9_light
  rw [lh_isR L rfl a, lh_yrE h h b]
  by_cases c1 : fX4_has h a = 0
  · rw [if_pos c1, if_pos c1]
  · rw [if_neg c1, if_neg c1]
    by_cases c2 : fX8_isYear h b = 0
    · rw [if_pos c2, if_pos c2]
    · rw [if_neg c2, if_neg c2]
      exact (lh_lightE L.1 L.2.2.2.1 (lh_rooms L.1 c1) (lh_years c2) g).symm
/-- a booking, in both houses -/
theorem lh_n4_ge {x : Int32} {n : Nat} (hn : n ≤ 100) (h : x = -4 ∨ lh_ix x n) : (0 ≤ lh_n4 x ↔ ¬ x = -4) ∧ (¬ x = -4 → lh_n4 x = x) := by
  rcases h with rfl | h
  · refine ⟨⟨fun z => ?_, fun z => absurd rfl z⟩, fun z => absurd rfl z⟩
    rw [lh_n4_neg] at z
    exact absurd z (by decide)
  · have e := lh_n4_ix (by omega) h
    have z := (lh_ix_iff (by omega)).mp h
    have hne : ¬ x = -4 := by
      intro q
      rw [q] at z
      have : (-4 : Int32).toInt = -4 := by decide
      omega
    refine ⟨⟨fun _ => hne, fun _ => ?_⟩, fun _ => e⟩
    rw [e, Int32.le_iff_toInt_le]
    have : (0 : Int32).toInt = 0 := by decide
    omega
theorem lh_bk {h : lh_HS} (I : lh_I h) (R : lh_RM h) {j : Nat} (hj : j < lh_N h 4) : (5 * nI j).toNatClampNeg = 5 * j ∧ (5 * nI j + 1).toNatClampNeg = 5 * j + 1 ∧ (5 * nI j + 2).toNatClampNeg = 5 * j + 2 ∧ (5 * nI j + 3).toNatClampNeg = 5 * j + 3 ∧ (5 * nI j + 4).toNatClampNeg = 5 * j + 4 ∧ (nI j).toNatClampNeg = j := by
  have hN := I.1.2.2.1.2
  exact ⟨lh_at0 (k := 5) (by omega), lh_at (k := 5) (c := 1) (by omega), lh_at (k := 5) (c := 2) (by omega), lh_at (k := 5) (c := 3) (by omega), lh_at (k := 5) (c := 4) (by omega), nI_clamp (by omega)⟩
theorem lh_spendsE {h : lh_HS} (I : lh_I h) (R : lh_RM h) {j : Nat} (hj : j < lh_N h 4) (g : Int32) : fX9_spends h (nI j) g = fX2_spendEnd h (nI j) g := by
  obtain ⟨p0, p1, p2, p3, p4, p5⟩ := lh_bk I R hj
  obtain ⟨r0, r1, r2, r3, r4⟩ := R.2.2.2.1 j hj
  obtain ⟨b0, b1, b2, b3, b4⟩ := I.2.2.2.1 j hj
  have hN := I.1.1.2
  obtain ⟨m1, m2⟩ := lh_n4_ge (by omega) b1
  unfold fX9_spends fX2_spendEnd fX0_isLoan
  rw [p1, p2, p3, p5, r1, r2, r3]
  by_cases c : h 17 j = -4
  · rw [if_pos c, if_neg (fun z => (m1.mp z) c), if_neg (by decide)]
  · rw [if_neg c, if_pos (m1.mpr c), if_pos rfl, m2 c]
    rcases b1 with b1 | b1
    · exact absurd b1 c
    · exact lh_lightE I R b1 b2 g
theorem lh_sevens {x : Int32} (c0 : ¬ x = 0) (c1 : ¬ x = 1) (c2 : ¬ x = 2) (c3 : ¬ x = 3) (c4 : ¬ x = 4) (c5 : ¬ x = 5) (c6 : ¬ x = 6) (h : lh_HS) : fX9_in h x 0 6 = 0 := by
  by_cases c : fX9_in h x 0 6 = 0
  · exact c
  · have z := lh_within_iff.mp (show ¬ fX8_within h x 0 6 = 0 from c)
    rw [← Int32.toInt_inj] at c0 c1 c2 c3 c4 c5 c6
    have e0 : (0 : Int32).toInt = 0 := by decide
    have e1 : (1 : Int32).toInt = 1 := by decide
    have e2 : (2 : Int32).toInt = 2 := by decide
    have e3 : (3 : Int32).toInt = 3 := by decide
    have e4 : (4 : Int32).toInt = 4 := by decide
    have e5 : (5 : Int32).toInt = 5 := by decide
    have e6 : (6 : Int32).toInt = 6 := by decide
    omega
theorem op_booking {k : Bool} {h : lh_HS} (L : lh_INV k h) (a : Int32) (b : Int32) : lh_J h ∧ fX8_booking h a b = fX9_booking h a b ∧ lh_INV k h := by
  refine ⟨L.J, ?_, L⟩
  unfold fX8_booking fX9_booking
  rw [lh_isB L rfl a]
  by_cases c1 : fX0_has h a = 0
  · rw [if_pos c1, if_pos c1]
  rw [if_neg c1, if_neg c1]
  obtain ⟨j, hj, rfl⟩ := lh_bookings L.1 c1
  have I := L.1
  have R := L.2.2.2.1
  obtain ⟨p0, p1, p2, p3, p4, p5⟩ := lh_bk I R hj
  obtain ⟨r0, r1, r2, r3, r4⟩ := R.2.2.2.1 j hj
  obtain ⟨b0, b1, b2, b3, b4⟩ := I.2.2.2.1 j hj
  have hN := I.1.1.2
  obtain ⟨m1, m2⟩ := lh_n4_ge (by omega) b1
  unfold fX0_isLoan
  rw [lh_spendsE I R hj, lh_spendsE I R hj, p0, p1, p2, p4, p5, r0, r1, r2, r4]
  by_cases d0 : b = 0
  · subst d0
    show (if (if h 17 j = -4 then (1 : Int32) else 0) = 0 then (0 : Int32) else 1) = (if (0 : Int32) ≤ lh_n4 (h 17 j) then 0 else 1)
    by_cases c : h 17 j = -4
    · rw [if_pos c, if_neg (by decide), if_neg (fun z => (m1.mp z) c)]
    · rw [if_neg c, if_pos rfl, if_pos (m1.mpr c)]
  rw [if_neg d0]
  by_cases d1 : b = 1
  · subst d1; rfl
  rw [if_neg d1]
  by_cases d2 : b = 2
  · subst d2
    show h 17 j = (if (0 : Int32) ≤ lh_n4 (h 17 j) then lh_n4 (h 17 j) else -4)
    by_cases c : h 17 j = -4
    · rw [if_neg (fun z => (m1.mp z) c), c]
    · rw [if_pos (m1.mpr c), m2 c]
  rw [if_neg d2]
  by_cases d3 : b = 3
  · subst d3; rfl
  rw [if_neg d3]
  by_cases d4 : b = 4
  · subst d4; rfl
  rw [if_neg d4]
  by_cases d5 : b = 5
  · subst d5; rfl
  rw [if_neg d5]
  by_cases d6 : b = 6
  · subst d6
    show (if h 20 j = 0 then (0 : Int32) else 1) = h 20 j
    rcases b4 with b4 | b4 <;> rw [b4] <;> rfl
  rw [if_neg d6, if_pos (lh_sevens d0 d1 d2 d3 d4 d5 d6 h)]
