theorem lk_copyk (h : lh_HS) : (∀ q, q < 51 → gX2_copyFrom_k h q = h q) ∧ (∀ q, 2 ≤ q → q ≤ 6 → gX2_copyFrom_k h (q + 49) 0 = h q 0) ∧ (∀ q z, 7 ≤ q → q ≤ 26 → (z < 30 ∨ (q = 8 ∧ z < 40)) → gX2_copyFrom_k h (q + 49) z = h q z) := by
  unfold gX2_copyFrom_k gX0_copyFrom_k
  generalize ha : gX5_copyFrom_k (gX4_copyFrom_k h) = a
  obtain ⟨c1, -, c2⟩ := lk_ck 30 0 (lh_row (lh_row (lh_row (lh_row (lh_up a 53 0 (a 4 0)) 65 (a 16)) 66 (a 17)) 67 (a 18)) 68 (a 19)) (by omega)
  generalize hC : LX0_copy_k_h 30 0 (lh_row (lh_row (lh_row (lh_row (lh_up a 53 0 (a 4 0)) 65 (a 16)) 66 (a 17)) 67 (a 18)) 68 (a 19)) = C at c1 c2
  have aq : ∀ q, q < 52 → q ≠ 51 → a q = h q := fun q h1 h2 => by
    rw [← ha]
    unfold gX5_copyFrom_k gX4_copyFrom_k
    rw [lh_row_ne (by omega), lh_row_ne (by omega), lh_row_ne (by omega), lh_row_ne (by omega), lh_row_ne (by omega), lh_row_ne (by omega), lh_row_ne (by omega), lh_up_r, if_neg (by omega), lh_row_ne (by omega), lh_row_ne (by omega), lh_up_r, if_neg (by omega)]
  have cq : ∀ q, q < 51 → C q = h q := fun q hq => by
    rw [c1 q (by omega), lh_row_ne (by omega), lh_row_ne (by omega), lh_row_ne (by omega), lh_row_ne (by omega), lh_up_r, if_neg (by omega), aq q (by omega) (by omega)]
  refine ⟨fun q hq => ?_, fun q h1 h2 => ?_, fun q z h1 h2 h3 => ?_⟩
  · unfold gX7_copyFrom_k gX6_copyFrom_k
    rw [lh_row_ne (by omega), lh_row_ne (by omega), lh_row_ne (by omega), lh_up_r, if_neg (by omega), lh_row_ne (by omega), lh_row_ne (by omega), lh_row_ne (by omega), lh_up_r, if_neg (by omega), cq q hq]
  · sorry
  · sorry
