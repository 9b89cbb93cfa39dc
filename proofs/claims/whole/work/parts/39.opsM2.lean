theorem lh_row_r (h : lh_HS) (i : Nat) (r : Nat → Int32) (a : Nat) : lh_row h i r a = if a = i then r else h a := rfl
theorem lk_copyk (h : lh_HS) : (∀ q, q < 51 → gX2_copyFrom_k h q = h q) ∧ (∀ q, 2 ≤ q → q ≤ 6 → gX2_copyFrom_k h (q + 49) 0 = h q 0) ∧ (∀ q z, 7 ≤ q → q ≤ 26 → (z < 30 ∨ (q = 8 ∧ z < 40)) → gX2_copyFrom_k h (q + 49) z = h q z) := by
  unfold gX2_copyFrom_k gX0_copyFrom_k
  generalize ha : gX5_copyFrom_k (gX4_copyFrom_k h) = a
  obtain ⟨c1, -, c2⟩ := lk_ck 30 0 (lh_row (lh_row (lh_row (lh_row (lh_up a 53 0 (a 4 0)) 65 (a 16)) 66 (a 17)) 67 (a 18)) 68 (a 19)) (by omega)
  generalize hC : LX0_copy_k_h 30 0 (lh_row (lh_row (lh_row (lh_row (lh_up a 53 0 (a 4 0)) 65 (a 16)) 66 (a 17)) 67 (a 18)) 68 (a 19)) = C at c1 c2
  have aq : ∀ q, q < 52 → q ≠ 51 → a q = h q := fun q h1 h2 => by
    rw [← ha]
    unfold gX5_copyFrom_k gX4_copyFrom_k
    rw [lh_row_ne (by omega), lh_row_ne (by omega), lh_row_ne (by omega), lh_row_ne (by omega), lh_row_ne (by omega), lh_row_ne (by omega), lh_row_ne (by omega), lh_up_r, if_neg (by omega), lh_row_ne (by omega), lh_row_ne (by omega), lh_up_r, if_neg (by omega)]
  have cq : ∀ q, q < 51 → C q = h q := fun q hq => by
    rw [c1 q (by omega), lh_row_ne (by omega), lh_row_ne (by omega), lh_row_ne (by omega), lh_row_ne (by omega), lh_up_r, if_neg (by omega), aq q (by omega) (by omega)]
  refine ⟨fun q hq => ?_, fun q h1 h2 => ?_, fun q z h1 h2 h3 => ?_⟩
  · unfold gX7_copyFrom_k gX6_copyFrom_k
    rw [lh_row_ne (by omega), lh_row_ne (by omega), lh_row_ne (by omega), lh_up_r, if_neg (by omega), lh_row_ne (by omega), lh_row_ne (by omega), lh_row_ne (by omega), lh_up_r, if_neg (by omega), cq q hq]
  · rcases (show q = 2 ∨ q = 3 ∨ q = 4 ∨ q = 5 ∨ q = 6 by omega) with rfl | rfl | rfl | rfl | rfl
    · rw [show gX7_copyFrom_k (gX6_copyFrom_k C) (2 + 49) = C 51 from by simp [gX7_copyFrom_k, gX6_copyFrom_k, lh_row_r, lh_up_r, upd], c1 51 (by decide), show (lh_row (lh_row (lh_row (lh_row (lh_up a 53 0 (a 4 0)) 65 (a 16)) 66 (a 17)) 67 (a 18)) 68 (a 19)) 51 = a 51 from by simp [lh_row_r, lh_up_r, upd], ← ha]
      simp [gX5_copyFrom_k, gX4_copyFrom_k, lh_row_r, lh_up_r, upd]
    · rw [show gX7_copyFrom_k (gX6_copyFrom_k C) (3 + 49) = C 52 from by simp [gX7_copyFrom_k, gX6_copyFrom_k, lh_row_r, lh_up_r, upd], c1 52 (by decide), show (lh_row (lh_row (lh_row (lh_row (lh_up a 53 0 (a 4 0)) 65 (a 16)) 66 (a 17)) 67 (a 18)) 68 (a 19)) 52 = a 52 from by simp [lh_row_r, lh_up_r, upd], ← ha]
      simp [gX5_copyFrom_k, gX4_copyFrom_k, lh_row_r, lh_up_r, upd]
    · rw [show gX7_copyFrom_k (gX6_copyFrom_k C) (4 + 49) = C 53 from by simp [gX7_copyFrom_k, gX6_copyFrom_k, lh_row_r, lh_up_r, upd], c1 53 (by decide), show (lh_row (lh_row (lh_row (lh_row (lh_up a 53 0 (a 4 0)) 65 (a 16)) 66 (a 17)) 67 (a 18)) 68 (a 19)) 53 0 = a 4 0 from by simp [lh_row_r, lh_up_r, upd], aq 4 (by decide) (by decide)]
    · rw [show gX7_copyFrom_k (gX6_copyFrom_k C) (5 + 49) 0 = C 5 0 from by simp [gX7_copyFrom_k, gX6_copyFrom_k, lh_row_r, lh_up_r, upd], cq 5 (by decide)]
    · rw [show gX7_copyFrom_k (gX6_copyFrom_k C) (6 + 49) 0 = C 6 0 from by simp [gX7_copyFrom_k, gX6_copyFrom_k, lh_row_r, lh_up_r, upd], cq 6 (by decide)]
  · rcases (show q = 7 ∨ q = 8 ∨ q = 9 ∨ q = 10 ∨ q = 11 ∨ q = 12 ∨ q = 13 ∨ q = 14 ∨ q = 15 ∨ q = 16 ∨ q = 17 ∨ q = 18 ∨ q = 19 ∨ q = 20 ∨ q = 21 ∨ q = 22 ∨ q = 23 ∨ q = 24 ∨ q = 25 ∨ q = 26 by omega) with rfl | rfl | rfl | rfl | rfl | rfl | rfl | rfl | rfl | rfl | rfl | rfl | rfl | rfl | rfl | rfl | rfl | rfl | rfl | rfl
    · rw [show gX7_copyFrom_k (gX6_copyFrom_k C) (7 + 49) = C 56 from by simp [gX7_copyFrom_k, gX6_copyFrom_k, lh_row_r, lh_up_r, upd], c1 56 (by decide), show (lh_row (lh_row (lh_row (lh_row (lh_up a 53 0 (a 4 0)) 65 (a 16)) 66 (a 17)) 67 (a 18)) 68 (a 19)) 56 = a 56 from by simp [lh_row_r, lh_up_r, upd], ← ha]
      simp [gX5_copyFrom_k, gX4_copyFrom_k, lh_row_r, lh_up_r, upd]
    · rw [show gX7_copyFrom_k (gX6_copyFrom_k C) (8 + 49) = C 57 from by simp [gX7_copyFrom_k, gX6_copyFrom_k, lh_row_r, lh_up_r, upd], c1 57 (by decide), show (lh_row (lh_row (lh_row (lh_row (lh_up a 53 0 (a 4 0)) 65 (a 16)) 66 (a 17)) 67 (a 18)) 68 (a 19)) 57 = a 57 from by simp [lh_row_r, lh_up_r, upd], ← ha]
      simp [gX5_copyFrom_k, gX4_copyFrom_k, lh_row_r, lh_up_r, upd]
    · rw [show gX7_copyFrom_k (gX6_copyFrom_k C) (9 + 49) = C 58 from by simp [gX7_copyFrom_k, gX6_copyFrom_k, lh_row_r, lh_up_r, upd], c1 58 (by decide), show (lh_row (lh_row (lh_row (lh_row (lh_up a 53 0 (a 4 0)) 65 (a 16)) 66 (a 17)) 67 (a 18)) 68 (a 19)) 58 = a 58 from by simp [lh_row_r, lh_up_r, upd], ← ha]
      simp [gX5_copyFrom_k, gX4_copyFrom_k, lh_row_r, lh_up_r, upd]
    · rw [show gX7_copyFrom_k (gX6_copyFrom_k C) (10 + 49) = C 59 from by simp [gX7_copyFrom_k, gX6_copyFrom_k, lh_row_r, lh_up_r, upd], c1 59 (by decide), show (lh_row (lh_row (lh_row (lh_row (lh_up a 53 0 (a 4 0)) 65 (a 16)) 66 (a 17)) 67 (a 18)) 68 (a 19)) 59 = a 59 from by simp [lh_row_r, lh_up_r, upd], ← ha]
      simp [gX5_copyFrom_k, gX4_copyFrom_k, lh_row_r, lh_up_r, upd]
    · rw [show gX7_copyFrom_k (gX6_copyFrom_k C) (11 + 49) = C 60 from by simp [gX7_copyFrom_k, gX6_copyFrom_k, lh_row_r, lh_up_r, upd], c1 60 (by decide), show (lh_row (lh_row (lh_row (lh_row (lh_up a 53 0 (a 4 0)) 65 (a 16)) 66 (a 17)) 67 (a 18)) 68 (a 19)) 60 = a 60 from by simp [lh_row_r, lh_up_r, upd], ← ha]
      simp [gX5_copyFrom_k, gX4_copyFrom_k, lh_row_r, lh_up_r, upd]
    · rw [show gX7_copyFrom_k (gX6_copyFrom_k C) (12 + 49) = C 61 from by simp [gX7_copyFrom_k, gX6_copyFrom_k, lh_row_r, lh_up_r, upd], c1 61 (by decide), show (lh_row (lh_row (lh_row (lh_row (lh_up a 53 0 (a 4 0)) 65 (a 16)) 66 (a 17)) 67 (a 18)) 68 (a 19)) 61 = a 61 from by simp [lh_row_r, lh_up_r, upd], ← ha]
      simp [gX5_copyFrom_k, gX4_copyFrom_k, lh_row_r, lh_up_r, upd]
    · rw [show gX7_copyFrom_k (gX6_copyFrom_k C) (13 + 49) = C 62 from by simp [gX7_copyFrom_k, gX6_copyFrom_k, lh_row_r, lh_up_r, upd], c1 62 (by decide), show (lh_row (lh_row (lh_row (lh_row (lh_up a 53 0 (a 4 0)) 65 (a 16)) 66 (a 17)) 67 (a 18)) 68 (a 19)) 62 = a 62 from by simp [lh_row_r, lh_up_r, upd], ← ha]
      simp [gX5_copyFrom_k, gX4_copyFrom_k, lh_row_r, lh_up_r, upd]
    · rw [show gX7_copyFrom_k (gX6_copyFrom_k C) (14 + 49) = C 63 from by simp [gX7_copyFrom_k, gX6_copyFrom_k, lh_row_r, lh_up_r, upd], c1 63 (by decide), show (lh_row (lh_row (lh_row (lh_row (lh_up a 53 0 (a 4 0)) 65 (a 16)) 66 (a 17)) 67 (a 18)) 68 (a 19)) 63 = a 63 from by simp [lh_row_r, lh_up_r, upd], ← ha]
      simp [gX5_copyFrom_k, gX4_copyFrom_k, lh_row_r, lh_up_r, upd]
    · rw [show gX7_copyFrom_k (gX6_copyFrom_k C) (15 + 49) = C 64 from by simp [gX7_copyFrom_k, gX6_copyFrom_k, lh_row_r, lh_up_r, upd], c1 64 (by decide), show (lh_row (lh_row (lh_row (lh_row (lh_up a 53 0 (a 4 0)) 65 (a 16)) 66 (a 17)) 67 (a 18)) 68 (a 19)) 64 = a 64 from by simp [lh_row_r, lh_up_r, upd], ← ha]
      simp [gX5_copyFrom_k, gX4_copyFrom_k, lh_row_r, lh_up_r, upd]
    · rw [show gX7_copyFrom_k (gX6_copyFrom_k C) (16 + 49) = C 65 from by simp [gX7_copyFrom_k, gX6_copyFrom_k, lh_row_r, lh_up_r, upd], c1 65 (by decide), show (lh_row (lh_row (lh_row (lh_row (lh_up a 53 0 (a 4 0)) 65 (a 16)) 66 (a 17)) 67 (a 18)) 68 (a 19)) 65 = a 16 from by simp [lh_row_r, lh_up_r, upd], aq 16 (by decide) (by decide)]
    · rw [show gX7_copyFrom_k (gX6_copyFrom_k C) (17 + 49) = C 66 from by simp [gX7_copyFrom_k, gX6_copyFrom_k, lh_row_r, lh_up_r, upd], c1 66 (by decide), show (lh_row (lh_row (lh_row (lh_row (lh_up a 53 0 (a 4 0)) 65 (a 16)) 66 (a 17)) 67 (a 18)) 68 (a 19)) 66 = a 17 from by simp [lh_row_r, lh_up_r, upd], aq 17 (by decide) (by decide)]
    · rw [show gX7_copyFrom_k (gX6_copyFrom_k C) (18 + 49) = C 67 from by simp [gX7_copyFrom_k, gX6_copyFrom_k, lh_row_r, lh_up_r, upd], c1 67 (by decide), show (lh_row (lh_row (lh_row (lh_row (lh_up a 53 0 (a 4 0)) 65 (a 16)) 66 (a 17)) 67 (a 18)) 68 (a 19)) 67 = a 18 from by simp [lh_row_r, lh_up_r, upd], aq 18 (by decide) (by decide)]
    · rw [show gX7_copyFrom_k (gX6_copyFrom_k C) (19 + 49) = C 68 from by simp [gX7_copyFrom_k, gX6_copyFrom_k, lh_row_r, lh_up_r, upd], c1 68 (by decide), show (lh_row (lh_row (lh_row (lh_row (lh_up a 53 0 (a 4 0)) 65 (a 16)) 66 (a 17)) 67 (a 18)) 68 (a 19)) 68 = a 19 from by simp [lh_row_r, lh_up_r, upd], aq 19 (by decide) (by decide)]
    · rw [show gX7_copyFrom_k (gX6_copyFrom_k C) (20 + 49) = C 69 from by simp [gX7_copyFrom_k, gX6_copyFrom_k, lh_row_r, lh_up_r, upd], c2 z (by omega) (by omega), show (lh_row (lh_row (lh_row (lh_row (lh_up a 53 0 (a 4 0)) 65 (a 16)) 66 (a 17)) 67 (a 18)) 68 (a 19)) 20 = a 20 from by simp [lh_row_r, lh_up_r, upd], aq 20 (by decide) (by decide)]
    · rw [show gX7_copyFrom_k (gX6_copyFrom_k C) (21 + 49) = C 21 from by simp [gX7_copyFrom_k, gX6_copyFrom_k, lh_row_r, lh_up_r, upd], cq 21 (by decide)]
    · rw [show gX7_copyFrom_k (gX6_copyFrom_k C) (22 + 49) = C 22 from by simp [gX7_copyFrom_k, gX6_copyFrom_k, lh_row_r, lh_up_r, upd], cq 22 (by decide)]
    · rw [show gX7_copyFrom_k (gX6_copyFrom_k C) (23 + 49) = C 23 from by simp [gX7_copyFrom_k, gX6_copyFrom_k, lh_row_r, lh_up_r, upd], cq 23 (by decide)]
    · rw [show gX7_copyFrom_k (gX6_copyFrom_k C) (24 + 49) = C 24 from by simp [gX7_copyFrom_k, gX6_copyFrom_k, lh_row_r, lh_up_r, upd], cq 24 (by decide)]
    · rw [show gX7_copyFrom_k (gX6_copyFrom_k C) (25 + 49) = C 25 from by simp [gX7_copyFrom_k, gX6_copyFrom_k, lh_row_r, lh_up_r, upd], cq 25 (by decide)]
    · rw [show gX7_copyFrom_k (gX6_copyFrom_k C) (26 + 49) = C 26 from by simp [gX7_copyFrom_k, gX6_copyFrom_k, lh_row_r, lh_up_r, upd], cq 26 (by decide)]
