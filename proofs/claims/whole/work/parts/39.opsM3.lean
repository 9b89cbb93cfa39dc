theorem lk_copyh (h : lh_HS) : (∀ q, 27 ≤ q → gX2_copyFrom_h h q = h q) ∧ (∀ q, 2 ≤ q → q ≤ 6 → gX2_copyFrom_h h q 0 = h (q + 49) 0) ∧ (∀ q z, 7 ≤ q → q ≤ 26 → (z < 30 ∨ (q = 8 ∧ z < 40)) → gX2_copyFrom_h h q z = h (q + 49) z) := by
  unfold gX2_copyFrom_h gX0_copyFrom_h
  generalize ha : gX5_copyFrom_h (gX4_copyFrom_h h) = a
  obtain ⟨c1, -, c2⟩ := lk_ch 30 0 (lh_row (lh_row (lh_row (lh_row (lh_up a 4 0 (a 53 0)) 16 (a 65)) 17 (a 66)) 18 (a 67)) 19 (a 68)) (by omega)
  generalize hC : LX0_copy_h_h 30 0 (lh_row (lh_row (lh_row (lh_row (lh_up a 4 0 (a 53 0)) 16 (a 65)) 17 (a 66)) 18 (a 67)) 19 (a 68)) = C at c1 c2
  have aq : ∀ q, 27 ≤ q → a q = h q := fun q h1 => by
    rw [← ha]
    unfold gX5_copyFrom_h gX4_copyFrom_h
    rw [lh_row_ne (by omega), lh_row_ne (by omega), lh_row_ne (by omega), lh_row_ne (by omega), lh_row_ne (by omega), lh_row_ne (by omega), lh_row_ne (by omega), lh_up_r, if_neg (by omega), lh_row_ne (by omega), lh_row_ne (by omega), lh_up_r, if_neg (by omega)]
  have cq : ∀ q, 27 ≤ q → C q = h q := fun q hq => by
    rw [c1 q (by omega), lh_row_ne (by omega), lh_row_ne (by omega), lh_row_ne (by omega), lh_row_ne (by omega), lh_up_r, if_neg (by omega), aq q (by omega)]
  refine ⟨fun q hq => ?_, fun q h1 h2 => ?_, fun q z h1 h2 h3 => ?_⟩
  · unfold gX7_copyFrom_h gX6_copyFrom_h
    rw [lh_row_ne (by omega), lh_row_ne (by omega), lh_row_ne (by omega), lh_up_r, if_neg (by omega), lh_row_ne (by omega), lh_row_ne (by omega), lh_row_ne (by omega), lh_up_r, if_neg (by omega), cq q hq]
  · rcases (show q = 2 ∨ q = 3 ∨ q = 4 ∨ q = 5 ∨ q = 6 by omega) with rfl | rfl | rfl | rfl | rfl
    · rw [show gX7_copyFrom_h (gX6_copyFrom_h C) 2 = C 2 from by simp [gX7_copyFrom_h, gX6_copyFrom_h, lh_row_r, lh_up_r, upd], c1 2 (by decide), show (lh_row (lh_row (lh_row (lh_row (lh_up a 4 0 (a 53 0)) 16 (a 65)) 17 (a 66)) 18 (a 67)) 19 (a 68)) 2 = a 2 from by simp [lh_row_r, lh_up_r, upd], ← ha]
      simp [gX5_copyFrom_h, gX4_copyFrom_h, lh_row_r, lh_up_r, upd]
    · rw [show gX7_copyFrom_h (gX6_copyFrom_h C) 3 = C 3 from by simp [gX7_copyFrom_h, gX6_copyFrom_h, lh_row_r, lh_up_r, upd], c1 3 (by decide), show (lh_row (lh_row (lh_row (lh_row (lh_up a 4 0 (a 53 0)) 16 (a 65)) 17 (a 66)) 18 (a 67)) 19 (a 68)) 3 = a 3 from by simp [lh_row_r, lh_up_r, upd], ← ha]
      simp [gX5_copyFrom_h, gX4_copyFrom_h, lh_row_r, lh_up_r, upd]
    · rw [show gX7_copyFrom_h (gX6_copyFrom_h C) 4 = C 4 from by simp [gX7_copyFrom_h, gX6_copyFrom_h, lh_row_r, lh_up_r, upd], c1 4 (by decide), show (lh_row (lh_row (lh_row (lh_row (lh_up a 4 0 (a 53 0)) 16 (a 65)) 17 (a 66)) 18 (a 67)) 19 (a 68)) 4 0 = a 53 0 from by simp [lh_row_r, lh_up_r, upd], aq 53 (by decide)]
    · rw [show gX7_copyFrom_h (gX6_copyFrom_h C) 5 0 = C 54 0 from by simp [gX7_copyFrom_h, gX6_copyFrom_h, lh_row_r, lh_up_r, upd], cq 54 (by decide)]
    · rw [show gX7_copyFrom_h (gX6_copyFrom_h C) 6 0 = C 55 0 from by simp [gX7_copyFrom_h, gX6_copyFrom_h, lh_row_r, lh_up_r, upd], cq 55 (by decide)]
  · rcases (show q = 7 ∨ q = 8 ∨ q = 9 ∨ q = 10 ∨ q = 11 ∨ q = 12 ∨ q = 13 ∨ q = 14 ∨ q = 15 ∨ q = 16 ∨ q = 17 ∨ q = 18 ∨ q = 19 ∨ q = 20 ∨ q = 21 ∨ q = 22 ∨ q = 23 ∨ q = 24 ∨ q = 25 ∨ q = 26 by omega) with rfl | rfl | rfl | rfl | rfl | rfl | rfl | rfl | rfl | rfl | rfl | rfl | rfl | rfl | rfl | rfl | rfl | rfl | rfl | rfl
    · rw [show gX7_copyFrom_h (gX6_copyFrom_h C) 7 = C 7 from by simp [gX7_copyFrom_h, gX6_copyFrom_h, lh_row_r, lh_up_r, upd], c1 7 (by decide), show (lh_row (lh_row (lh_row (lh_row (lh_up a 4 0 (a 53 0)) 16 (a 65)) 17 (a 66)) 18 (a 67)) 19 (a 68)) 7 = a 7 from by simp [lh_row_r, lh_up_r, upd], ← ha]
      simp [gX5_copyFrom_h, gX4_copyFrom_h, lh_row_r, lh_up_r, upd]
    · rw [show gX7_copyFrom_h (gX6_copyFrom_h C) 8 = C 8 from by simp [gX7_copyFrom_h, gX6_copyFrom_h, lh_row_r, lh_up_r, upd], c1 8 (by decide), show (lh_row (lh_row (lh_row (lh_row (lh_up a 4 0 (a 53 0)) 16 (a 65)) 17 (a 66)) 18 (a 67)) 19 (a 68)) 8 = a 8 from by simp [lh_row_r, lh_up_r, upd], ← ha]
      simp [gX5_copyFrom_h, gX4_copyFrom_h, lh_row_r, lh_up_r, upd]
    · rw [show gX7_copyFrom_h (gX6_copyFrom_h C) 9 = C 9 from by simp [gX7_copyFrom_h, gX6_copyFrom_h, lh_row_r, lh_up_r, upd], c1 9 (by decide), show (lh_row (lh_row (lh_row (lh_row (lh_up a 4 0 (a 53 0)) 16 (a 65)) 17 (a 66)) 18 (a 67)) 19 (a 68)) 9 = a 9 from by simp [lh_row_r, lh_up_r, upd], ← ha]
      simp [gX5_copyFrom_h, gX4_copyFrom_h, lh_row_r, lh_up_r, upd]
    · rw [show gX7_copyFrom_h (gX6_copyFrom_h C) 10 = C 10 from by simp [gX7_copyFrom_h, gX6_copyFrom_h, lh_row_r, lh_up_r, upd], c1 10 (by decide), show (lh_row (lh_row (lh_row (lh_row (lh_up a 4 0 (a 53 0)) 16 (a 65)) 17 (a 66)) 18 (a 67)) 19 (a 68)) 10 = a 10 from by simp [lh_row_r, lh_up_r, upd], ← ha]
      simp [gX5_copyFrom_h, gX4_copyFrom_h, lh_row_r, lh_up_r, upd]
    · rw [show gX7_copyFrom_h (gX6_copyFrom_h C) 11 = C 11 from by simp [gX7_copyFrom_h, gX6_copyFrom_h, lh_row_r, lh_up_r, upd], c1 11 (by decide), show (lh_row (lh_row (lh_row (lh_row (lh_up a 4 0 (a 53 0)) 16 (a 65)) 17 (a 66)) 18 (a 67)) 19 (a 68)) 11 = a 11 from by simp [lh_row_r, lh_up_r, upd], ← ha]
      simp [gX5_copyFrom_h, gX4_copyFrom_h, lh_row_r, lh_up_r, upd]
    · rw [show gX7_copyFrom_h (gX6_copyFrom_h C) 12 = C 12 from by simp [gX7_copyFrom_h, gX6_copyFrom_h, lh_row_r, lh_up_r, upd], c1 12 (by decide), show (lh_row (lh_row (lh_row (lh_row (lh_up a 4 0 (a 53 0)) 16 (a 65)) 17 (a 66)) 18 (a 67)) 19 (a 68)) 12 = a 12 from by simp [lh_row_r, lh_up_r, upd], ← ha]
      simp [gX5_copyFrom_h, gX4_copyFrom_h, lh_row_r, lh_up_r, upd]
    · rw [show gX7_copyFrom_h (gX6_copyFrom_h C) 13 = C 13 from by simp [gX7_copyFrom_h, gX6_copyFrom_h, lh_row_r, lh_up_r, upd], c1 13 (by decide), show (lh_row (lh_row (lh_row (lh_row (lh_up a 4 0 (a 53 0)) 16 (a 65)) 17 (a 66)) 18 (a 67)) 19 (a 68)) 13 = a 13 from by simp [lh_row_r, lh_up_r, upd], ← ha]
      simp [gX5_copyFrom_h, gX4_copyFrom_h, lh_row_r, lh_up_r, upd]
    · rw [show gX7_copyFrom_h (gX6_copyFrom_h C) 14 = C 14 from by simp [gX7_copyFrom_h, gX6_copyFrom_h, lh_row_r, lh_up_r, upd], c1 14 (by decide), show (lh_row (lh_row (lh_row (lh_row (lh_up a 4 0 (a 53 0)) 16 (a 65)) 17 (a 66)) 18 (a 67)) 19 (a 68)) 14 = a 14 from by simp [lh_row_r, lh_up_r, upd], ← ha]
      simp [gX5_copyFrom_h, gX4_copyFrom_h, lh_row_r, lh_up_r, upd]
    · rw [show gX7_copyFrom_h (gX6_copyFrom_h C) 15 = C 15 from by simp [gX7_copyFrom_h, gX6_copyFrom_h, lh_row_r, lh_up_r, upd], c1 15 (by decide), show (lh_row (lh_row (lh_row (lh_row (lh_up a 4 0 (a 53 0)) 16 (a 65)) 17 (a 66)) 18 (a 67)) 19 (a 68)) 15 = a 15 from by simp [lh_row_r, lh_up_r, upd], ← ha]
      simp [gX5_copyFrom_h, gX4_copyFrom_h, lh_row_r, lh_up_r, upd]
    · rw [show gX7_copyFrom_h (gX6_copyFrom_h C) 16 = C 16 from by simp [gX7_copyFrom_h, gX6_copyFrom_h, lh_row_r, lh_up_r, upd], c1 16 (by decide), show (lh_row (lh_row (lh_row (lh_row (lh_up a 4 0 (a 53 0)) 16 (a 65)) 17 (a 66)) 18 (a 67)) 19 (a 68)) 16 = a 65 from by simp [lh_row_r, lh_up_r, upd], aq 65 (by decide)]
    · rw [show gX7_copyFrom_h (gX6_copyFrom_h C) 17 = C 17 from by simp [gX7_copyFrom_h, gX6_copyFrom_h, lh_row_r, lh_up_r, upd], c1 17 (by decide), show (lh_row (lh_row (lh_row (lh_row (lh_up a 4 0 (a 53 0)) 16 (a 65)) 17 (a 66)) 18 (a 67)) 19 (a 68)) 17 = a 66 from by simp [lh_row_r, lh_up_r, upd], aq 66 (by decide)]
    · rw [show gX7_copyFrom_h (gX6_copyFrom_h C) 18 = C 18 from by simp [gX7_copyFrom_h, gX6_copyFrom_h, lh_row_r, lh_up_r, upd], c1 18 (by decide), show (lh_row (lh_row (lh_row (lh_row (lh_up a 4 0 (a 53 0)) 16 (a 65)) 17 (a 66)) 18 (a 67)) 19 (a 68)) 18 = a 67 from by simp [lh_row_r, lh_up_r, upd], aq 67 (by decide)]
    · rw [show gX7_copyFrom_h (gX6_copyFrom_h C) 19 = C 19 from by simp [gX7_copyFrom_h, gX6_copyFrom_h, lh_row_r, lh_up_r, upd], c1 19 (by decide), show (lh_row (lh_row (lh_row (lh_row (lh_up a 4 0 (a 53 0)) 16 (a 65)) 17 (a 66)) 18 (a 67)) 19 (a 68)) 19 = a 68 from by simp [lh_row_r, lh_up_r, upd], aq 68 (by decide)]
    · rw [show gX7_copyFrom_h (gX6_copyFrom_h C) 20 = C 20 from by simp [gX7_copyFrom_h, gX6_copyFrom_h, lh_row_r, lh_up_r, upd], c2 z (by omega) (by omega), show (lh_row (lh_row (lh_row (lh_row (lh_up a 4 0 (a 53 0)) 16 (a 65)) 17 (a 66)) 18 (a 67)) 19 (a 68)) 69 = a 69 from by simp [lh_row_r, lh_up_r, upd], aq 69 (by decide)]
    · rw [show gX7_copyFrom_h (gX6_copyFrom_h C) 21 = C 70 from by simp [gX7_copyFrom_h, gX6_copyFrom_h, lh_row_r, lh_up_r, upd], cq 70 (by decide)]
    · rw [show gX7_copyFrom_h (gX6_copyFrom_h C) 22 = C 71 from by simp [gX7_copyFrom_h, gX6_copyFrom_h, lh_row_r, lh_up_r, upd], cq 71 (by decide)]
    · rw [show gX7_copyFrom_h (gX6_copyFrom_h C) 23 = C 72 from by simp [gX7_copyFrom_h, gX6_copyFrom_h, lh_row_r, lh_up_r, upd], cq 72 (by decide)]
    · rw [show gX7_copyFrom_h (gX6_copyFrom_h C) 24 = C 73 from by simp [gX7_copyFrom_h, gX6_copyFrom_h, lh_row_r, lh_up_r, upd], cq 73 (by decide)]
    · rw [show gX7_copyFrom_h (gX6_copyFrom_h C) 25 = C 74 from by simp [gX7_copyFrom_h, gX6_copyFrom_h, lh_row_r, lh_up_r, upd], cq 74 (by decide)]
    · rw [show gX7_copyFrom_h (gX6_copyFrom_h C) 26 = C 75 from by simp [gX7_copyFrom_h, gX6_copyFrom_h, lh_row_r, lh_up_r, upd], cq 75 (by decide)]
