theorem op_cut {k : Bool} {h : lh_HS} (L : lh_INV k h) : lh_J (gX8_cut h) ∧ fX8_cut h = fX9_cut (gX8_cut h) ∧ lh_INV k (gX9_cut (gX8_cut h)) := by
  have I := L.1
  have R := L.2.2.2.1
  have e5 := I.1.2.2.2.1.1
  have n5 := I.1.2.2.2.1.2
  have e38 := R.1.2.2.2.1
  unfold gX8_cut fX8_cut
  by_cases c : 0 < h 5 0
  · rw [if_pos c, if_pos c]
    have z : ¬ h 5 0 = 0 := fun z => by rw [z] at c; exact absurd c (by decide)
    obtain ⟨n, hn⟩ : ∃ n, lh_N h 5 = n + 1 := by
      cases e : lh_N h 5 with
      | zero => rw [e] at e5; exact absurd e5 z
      | succ n => exact ⟨n, rfl⟩
    have em : h 5 0 - 1 = nI n := by rw [e5, hn, ← nI_1]; simp
    refine ⟨L.J.fm (((lh_fm.rf h).up (i := 5) (Or.inl (by decide))).up (i := 30) (Or.inl (by decide))), ?_, ?_⟩
    · show h 5 0 - 1 = (if h 38 3 = 0 then (-4) else h 38 3 - 1)
      rw [e38, if_neg z]
    · unfold gX9_cut
      rw [if_neg (show ¬ gX8_changed (lh_up h 5 0 (h 5 0 - 1)) (h 5 0 - 1) 38 3 = 0 from fun q => z (e38.symm.trans q))]
      have hlt : ∀ t, t < (h 5 0 - 1).toNatClampNeg → t < lh_N h 5 := fun t ht => by
        rw [em, nI_clamp (by omega)] at ht
        omega
      refine lh_INV_of L ⟨⟨I.1.1, I.1.2.1, I.1.2.2.1, ⟨?_, ?_⟩, I.1.2.2.2.2⟩, I.2.1, I.2.2.1, I.2.2.2.1, fun t ht => I.2.2.2.2.1 t (hlt t ht), I.2.2.2.2.2⟩ L.2.1 ⟨⟨R.1.1, R.1.2.1, R.1.2.2.1, ?_, R.1.2.2.2.2⟩, R.2.1, R.2.2.1, R.2.2.2.1, fun t ht => R.2.2.2.2.1 t (hlt t ht), R.2.2.2.2.2⟩ (Or.inl rfl) ((((lh_kp.rf h).up (by omega)).up (by omega)).up (by omega))
      · show h 5 0 - 1 = nI (h 5 0 - 1).toNatClampNeg
        rw [em, nI_clamp (by omega)]
      · show (h 5 0 - 1).toNatClampNeg ≤ 12
        rw [em, nI_clamp (by omega)]
        omega
      · show h 38 3 - 1 = h 5 0 - 1
        rw [e38]
  · rw [if_neg c, if_neg c]
    have z : h 5 0 = 0 := by
      by_cases z : h 5 0 = 0
      · exact z
      · exact absurd (by rw [e5, lh_gets0 n5 (by omega), ← e5]; exact z) c
    unfold fX9_cut gX9_cut
    rw [e38, if_pos z, if_pos z]
    exact ⟨L.J, rfl, L⟩
theorem op_strip {k : Bool} {h : lh_HS} (L : lh_INV k h) : lh_J (gX8_strip h) ∧ fX8_strip h = fX9_strip (gX8_strip h) ∧ lh_INV k (gX9_strip (gX8_strip h)) := by
  have I := L.1
  have R := L.2.2.2.1
  have e5 := I.1.2.2.2.2.1
  have n5 := I.1.2.2.2.2.2
  have e38 := R.1.2.2.2.2
  unfold gX8_strip fX8_strip
  by_cases c : 0 < h 6 0
  · rw [if_pos c, if_pos c]
    have z : ¬ h 6 0 = 0 := fun z => by rw [z] at c; exact absurd c (by decide)
    obtain ⟨n, hn⟩ : ∃ n, lh_N h 6 = n + 1 := by
      cases e : lh_N h 6 with
      | zero => rw [e] at e5; exact absurd e5 z
      | succ n => exact ⟨n, rfl⟩
    have em : h 6 0 - 1 = nI n := by rw [e5, hn, ← nI_1]; simp
    refine ⟨L.J.fm (((lh_fm.rf h).up (i := 6) (Or.inl (by decide))).up (i := 30) (Or.inl (by decide))), ?_, ?_⟩
    · show h 6 0 - 1 = (if h 38 4 = 0 then (-4) else h 38 4 - 1)
      rw [e38, if_neg z]
    · unfold gX9_strip
      rw [if_neg (show ¬ gX8_changed (lh_up h 6 0 (h 6 0 - 1)) (h 6 0 - 1) 38 4 = 0 from fun q => z (e38.symm.trans q))]
      have hlt : ∀ t, t < (h 6 0 - 1).toNatClampNeg → t < lh_N h 6 := fun t ht => by
        rw [em, nI_clamp (by omega)] at ht
        omega
      refine lh_INV_of L ⟨⟨I.1.1, I.1.2.1, I.1.2.2.1, I.1.2.2.2.1, ⟨?_, ?_⟩⟩, I.2.1, I.2.2.1, I.2.2.2.1, I.2.2.2.2.1, fun t ht => I.2.2.2.2.2 t (hlt t ht)⟩ L.2.1 ⟨⟨R.1.1, R.1.2.1, R.1.2.2.1, R.1.2.2.2.1, ?_⟩, R.2.1, R.2.2.1, R.2.2.2.1, R.2.2.2.2.1, fun t ht => R.2.2.2.2.2 t (hlt t ht)⟩ (Or.inl rfl) ((((lh_kp.rf h).up (by omega)).up (by omega)).up (by omega))
      · show h 6 0 - 1 = nI (h 6 0 - 1).toNatClampNeg
        rw [em, nI_clamp (by omega)]
      · show (h 6 0 - 1).toNatClampNeg ≤ 5
        rw [em, nI_clamp (by omega)]
        omega
      · show h 38 4 - 1 = h 6 0 - 1
        rw [e38]
  · rw [if_neg c, if_neg c]
    have z : h 6 0 = 0 := by
      by_cases z : h 6 0 = 0
      · exact z
      · exact absurd (by rw [e5, lh_gets0 n5 (by omega), ← e5]; exact z) c
    unfold fX9_strip gX9_strip
    rw [e38, if_pos z, if_pos z]
    exact ⟨L.J, rfl, L⟩
theorem lh_ue (f : Nat → Int32) (j : Nat) (x : Int32) : upd f j x j = x := by simp [upd]
theorem lh_un {f : Nat → Int32} {j a : Nat} {x : Int32} (n : a ≠ j) : upd f j x a = f a := by simp [upd, n]
theorem lh_u01 {f : Nat → Int32} {j b : Nat} {x : Int32} (P : Int32 → Prop) (hx : P x) (hf : P (f b)) : P (upd f j x b) := by
  by_cases e : b = j
  · rw [e, lh_ue]; exact hx
  · rw [lh_un e]; exact hf
theorem op_cancel {k : Bool} {h : lh_HS} (L : lh_INV k h) (a : Int32) : lh_J (gX8_cancel h a) ∧ fX8_cancel h a = fX9_cancel (gX8_cancel h a) a ∧ lh_INV k (gX9_cancel (gX8_cancel h a) a) := by
  have I := L.1
  have R := L.2.2.2.1
  unfold gX8_cancel fX8_cancel fX9_cancel gX9_cancel
  by_cases c1 : fX0_has h a = 0
  · simp only [if_pos c1]
    rw [lh_isB L rfl a, if_pos c1, if_pos c1]
    exact ⟨L.J, rfl, L⟩
  obtain ⟨j, hj, rfl⟩ := lh_bookings I c1
  obtain ⟨p0, p1, p2, p3, p4, p5⟩ := lh_bk I R hj
  obtain ⟨r0, r1, r2, r3, r4⟩ := R.2.2.2.1 j hj
  simp only [if_neg c1, p4, p5]
  by_cases c2 : h 20 j = 0
  · simp only [if_pos c2]
    rw [lh_isB (g := gX8_changed (lh_up h 20 j 1) 1) L rfl (nI j), if_neg c1, if_neg c1]
    have c3 : ¬ gX8_changed (lh_up h 20 j 1) 1 42 (5 * j + 4) = 1 := by
      show ¬ h 42 (5 * j + 4) = 1
      rw [r4, c2]; decide
    rw [if_neg c3, if_neg c3]
    refine ⟨L.J.fm (((lh_fm.rf h).up (i := 20) (Or.inl (by decide))).up (i := 30) (Or.inl (by decide))), rfl, ?_⟩
    refine lh_INV_of L ⟨I.1, I.2.1, I.2.2.1, fun b hb => ?_, I.2.2.2.2⟩ (fun i hi => ?_) ⟨R.1, R.2.1, R.2.2.1, fun b hb => ?_, R.2.2.2.2⟩ (Or.inl rfl) ((((lh_kp.rf h).up (by omega)).up (by omega)).up (by omega))
    · obtain ⟨b0, b1, b2, b3, b4⟩ := I.2.2.2.1 b hb
      exact ⟨b0, b1, b2, b3, lh_u01 (f := h 20) (j := j) (fun x => x = 0 ∨ x = 1) (Or.inr rfl) b4⟩
    · exact lh_u01 (f := h 20) (j := j) (fun x => x = 0 ∨ x = 1) (Or.inr rfl) (L.2.1 i hi)
    · obtain ⟨b0, b1, b2, b3, b4⟩ := R.2.2.2.1 b hb
      refine ⟨?_, ?_, ?_, ?_, ?_⟩
      · show upd (h 42) (5 * j + 4) 1 (5 * b) = h 16 b
        rw [lh_un (by omega), b0]
      · show upd (h 42) (5 * j + 4) 1 (5 * b + 1) = lh_n4 (h 17 b)
        rw [lh_un (by omega), b1]
      · show upd (h 42) (5 * j + 4) 1 (5 * b + 2) = h 18 b
        rw [lh_un (by omega), b2]
      · show upd (h 42) (5 * j + 4) 1 (5 * b + 3) = h 19 b
        rw [lh_un (by omega), b3]
      · show upd (h 42) (5 * j + 4) 1 (5 * b + 4) = upd (h 20) j 1 b
        by_cases e : b = j
        · rw [e, lh_ue, lh_ue]
        · rw [lh_un (by omega), lh_un e, b4]
  · simp only [if_neg c2]
    have c3 : h 42 (5 * j + 4) = 1 := by
      rw [r4]
      rcases (I.2.2.2.1 j hj).2.2.2.2 with q | q
      · exact absurd q c2
      · exact q
    rw [lh_isB L rfl (nI j), if_neg c1, if_neg c1, if_pos c3, if_pos c3]
    exact ⟨L.J, rfl, L⟩
