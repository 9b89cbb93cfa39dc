theorem lk_ck : ∀ (n i : Nat) (h : lh_HS), i + n ≤ 30 → (∀ q, q ≠ 69 → LX0_copy_k_h n i h q = h q) ∧ (∀ z, z < i → LX0_copy_k_h n i h 69 z = h 69 z) ∧ (∀ z, i ≤ z → z < i + n → LX0_copy_k_h n i h 69 z = h 20 z) := by
  intro n
  induction n with
  | zero => intro i h hi; exact ⟨fun _ _ => rfl, fun _ _ => rfl, fun z h1 h2 => by omega⟩
  | succ n ih =>
    intro i h hi
    simp only [LX0_copy_k_h]
    rw [nI_clamp (by omega)]
    obtain ⟨x1, x2, x3⟩ := ih (i + 1) (lh_up h 69 i (h 20 i)) (by omega)
    refine ⟨fun q hq => by rw [x1 q hq, lh_up_r, if_neg hq], fun z hz => by rw [x2 z (by omega), lh_up_ne (Or.inr (by omega))], fun z h1 h2 => ?_⟩
    by_cases e : z = i
    · rw [e, x2 i (by omega), lh_up_eq]
    · rw [x3 z (by omega) (by omega), lh_up_ne (Or.inl (by decide))]
theorem lk_ch : ∀ (n i : Nat) (h : lh_HS), i + n ≤ 30 → (∀ q, q ≠ 20 → LX0_copy_h_h n i h q = h q) ∧ (∀ z, z < i → LX0_copy_h_h n i h 20 z = h 20 z) ∧ (∀ z, i ≤ z → z < i + n → LX0_copy_h_h n i h 20 z = h 69 z) := by
  intro n
  induction n with
  | zero => intro i h hi; exact ⟨fun _ _ => rfl, fun _ _ => rfl, fun z h1 h2 => by omega⟩
  | succ n ih =>
    intro i h hi
    simp only [LX0_copy_h_h]
    rw [nI_clamp (by omega)]
    obtain ⟨x1, x2, x3⟩ := ih (i + 1) (lh_up h 20 i (h 69 i)) (by omega)
    refine ⟨fun q hq => by rw [x1 q hq, lh_up_r, if_neg hq], fun z hz => by rw [x2 z (by omega), lh_up_ne (Or.inr (by omega))], fun z h1 h2 => ?_⟩
    by_cases e : z = i
    · rw [e, x2 i (by omega), lh_up_eq]
    · rw [x3 z (by omega) (by omega), lh_up_ne (Or.inl (by decide))]
theorem lk_copyk (h : lh_HS) : (∀ q, q < 51 → gX2_copyFrom_k h q = h q) ∧ (∀ q, 2 ≤ q → q ≤ 6 → gX2_copyFrom_k h (q + 49) 0 = h q 0) ∧ (∀ q z, 7 ≤ q → q ≤ 26 → (z < 30 ∨ (q = 8 ∧ z < 40)) → gX2_copyFrom_k h (q + 49) z = h q z) := by
  unfold gX2_copyFrom_k gX0_copyFrom_k
  generalize ha : gX5_copyFrom_k (gX4_copyFrom_k h) = a
  obtain ⟨c1, -, c2⟩ := lk_ck 30 0 (lh_row (lh_row (lh_row (lh_row (lh_up a 53 0 (a 4 0)) 65 (a 16)) 66 (a 17)) 67 (a 18)) 68 (a 19)) (by omega)
  generalize hC : LX0_copy_k_h 30 0 (lh_row (lh_row (lh_row (lh_row (lh_up a 53 0 (a 4 0)) 65 (a 16)) 66 (a 17)) 67 (a 18)) 68 (a 19)) = C at c1 c2
  have aq : ∀ q, q < 52 → q ≠ 51 → a q = h q := fun q h1 h2 => by
    rw [← ha]
    unfold gX5_copyFrom_k gX4_copyFrom_k
    rw [lh_row_ne (by omega), lh_row_ne (by omega), lh_row_ne (by omega), lh_row_ne (by omega), lh_row_ne (by omega), lh_row_ne (by omega), lh_row_ne (by omega), lh_up_r, if_neg (by omega), lh_row_ne (by omega), lh_row_ne (by omega), lh_up_r, if_neg (by omega)]
  have cq : ∀ q, q < 51 → C q = h q := fun q hq => by
    rw [c1 q (by omega), lh_row_ne (by omega), lh_row_ne (by omega), lh_row_ne (by omega), lh_row_ne (by omega), lh_up_r, if_neg (by omega), aq q (by omega) (by omega)]
  refine ⟨fun q hq => ?_, fun q h1 h2 => ?_, fun q z h1 h2 h3 => ?_⟩
  · unfold gX7_copyFrom_k gX6_copyFrom_k
    rw [lh_row_ne (by omega), lh_row_ne (by omega), lh_row_ne (by omega), lh_up_r, if_neg (by omega), lh_row_ne (by omega), lh_row_ne (by omega), lh_row_ne (by omega), lh_up_r, if_neg (by omega), cq q hq]
  · rcases (show q = 2 ∨ q = 3 ∨ q = 4 ∨ q = 5 ∨ q = 6 by omega) with rfl | rfl | rfl | rfl | rfl
    · show C 51 0 = h 2 0
      rw [c1 51 (by decide), ← ha]; rfl
    · show C 52 0 = h 3 0
      rw [c1 52 (by decide), ← ha]; rfl
    · show C 53 0 = h 4 0
      rw [c1 53 (by decide)]
      show a 4 0 = h 4 0
      rw [aq 4 (by decide) (by decide)]
    · show C 5 0 = h 5 0
      rw [cq 5 (by decide)]
    · show C 6 0 = h 6 0
      rw [cq 6 (by decide)]
  · rcases (show q = 7 ∨ q = 8 ∨ q = 9 ∨ q = 10 ∨ q = 11 ∨ q = 12 ∨ q = 13 ∨ q = 14 ∨ q = 15 ∨ q = 16 ∨ q = 17 ∨ q = 18 ∨ q = 19 ∨ q = 20 ∨ q = 21 ∨ q = 22 ∨ q = 23 ∨ q = 24 ∨ q = 25 ∨ q = 26 by omega) with rfl | rfl | rfl | rfl | rfl | rfl | rfl | rfl | rfl | rfl | rfl | rfl | rfl | rfl | rfl | rfl | rfl | rfl | rfl | rfl
    · show C 56 z = h 7 z
      rw [c1 56 (by decide), ← ha]; rfl
    · show C 57 z = h 8 z
      rw [c1 57 (by decide), ← ha]; rfl
    · show C 58 z = h 9 z
      rw [c1 58 (by decide), ← ha]; rfl
    · show C 59 z = h 10 z
      rw [c1 59 (by decide), ← ha]; rfl
    · show C 60 z = h 11 z
      rw [c1 60 (by decide), ← ha]; rfl
    · show C 61 z = h 12 z
      rw [c1 61 (by decide), ← ha]; rfl
    · show C 62 z = h 13 z
      rw [c1 62 (by decide), ← ha]; rfl
    · show C 63 z = h 14 z
      rw [c1 63 (by decide), ← ha]; rfl
    · show C 64 z = h 15 z
      rw [c1 64 (by decide), ← ha]; rfl
    · show C 65 z = h 16 z
      rw [c1 65 (by decide)]
      show a 16 z = h 16 z
      rw [aq 16 (by decide) (by decide)]
    · show C 66 z = h 17 z
      rw [c1 66 (by decide)]
      show a 17 z = h 17 z
      rw [aq 17 (by decide) (by decide)]
    · show C 67 z = h 18 z
      rw [c1 67 (by decide)]
      show a 18 z = h 18 z
      rw [aq 18 (by decide) (by decide)]
    · show C 68 z = h 19 z
      rw [c1 68 (by decide)]
      show a 19 z = h 19 z
      rw [aq 19 (by decide) (by decide)]
    · show C 69 z = h 20 z
      rw [c2 z (by omega) (by omega)]
      show a 20 z = h 20 z
      rw [aq 20 (by decide) (by decide)]
    · show C 21 z = h 21 z
      rw [cq 21 (by decide)]
    · show C 22 z = h 22 z
      rw [cq 22 (by decide)]
    · show C 23 z = h 23 z
      rw [cq 23 (by decide)]
    · show C 24 z = h 24 z
      rw [cq 24 (by decide)]
    · show C 25 z = h 25 z
      rw [cq 25 (by decide)]
    · show C 26 z = h 26 z
      rw [cq 26 (by decide)]

theorem lk_copyh (h : lh_HS) : (∀ q, 27 ≤ q → gX2_copyFrom_h h q = h q) ∧ (∀ q, 2 ≤ q → q ≤ 6 → gX2_copyFrom_h h q 0 = h (q + 49) 0) ∧ (∀ q z, 7 ≤ q → q ≤ 26 → (z < 30 ∨ (q = 8 ∧ z < 40)) → gX2_copyFrom_h h q z = h (q + 49) z) := by
  unfold gX2_copyFrom_h gX0_copyFrom_h
  generalize ha : gX5_copyFrom_h (gX4_copyFrom_h h) = a
  obtain ⟨c1, -, c2⟩ := lk_ch 30 0 (lh_row (lh_row (lh_row (lh_row (lh_up a 4 0 (a 53 0)) 16 (a 65)) 17 (a 66)) 18 (a 67)) 19 (a 68)) (by omega)
  generalize hC : LX0_copy_h_h 30 0 (lh_row (lh_row (lh_row (lh_row (lh_up a 4 0 (a 53 0)) 16 (a 65)) 17 (a 66)) 18 (a 67)) 19 (a 68)) = C at c1 c2
  have aq : ∀ q, 27 ≤ q → a q = h q := fun q h1 => by
    rw [← ha]
    unfold gX5_copyFrom_h gX4_copyFrom_h
    rw [lh_row_ne (by omega), lh_row_ne (by omega), lh_row_ne (by omega), lh_row_ne (by omega), lh_row_ne (by omega), lh_row_ne (by omega), lh_row_ne (by omega), lh_up_r, if_neg (by omega), lh_row_ne (by omega), lh_row_ne (by omega), lh_up_r, if_neg (by omega)]
  have cq : ∀ q, 27 ≤ q → C q = h q := fun q hq => by
    rw [c1 q (by omega), lh_row_ne (by omega), lh_row_ne (by omega), lh_row_ne (by omega), lh_row_ne (by omega), lh_up_r, if_neg (by omega), aq q (by omega)]
  refine ⟨fun q hq => ?_, fun q h1 h2 => ?_, fun q z h1 h2 h3 => ?_⟩
  · unfold gX7_copyFrom_h gX6_copyFrom_h
    rw [lh_row_ne (by omega), lh_row_ne (by omega), lh_row_ne (by omega), lh_up_r, if_neg (by omega), lh_row_ne (by omega), lh_row_ne (by omega), lh_row_ne (by omega), lh_up_r, if_neg (by omega), cq q hq]
  · rcases (show q = 2 ∨ q = 3 ∨ q = 4 ∨ q = 5 ∨ q = 6 by omega) with rfl | rfl | rfl | rfl | rfl
    · show C 2 0 = h 51 0
      rw [c1 2 (by decide), ← ha]; rfl
    · show C 3 0 = h 52 0
      rw [c1 3 (by decide), ← ha]; rfl
    · show C 4 0 = h 53 0
      rw [c1 4 (by decide)]
      show a 53 0 = h 53 0
      rw [aq 53 (by decide)]
    · show C 54 0 = h 54 0
      rw [cq 54 (by decide)]
    · show C 55 0 = h 55 0
      rw [cq 55 (by decide)]
  · rcases (show q = 7 ∨ q = 8 ∨ q = 9 ∨ q = 10 ∨ q = 11 ∨ q = 12 ∨ q = 13 ∨ q = 14 ∨ q = 15 ∨ q = 16 ∨ q = 17 ∨ q = 18 ∨ q = 19 ∨ q = 20 ∨ q = 21 ∨ q = 22 ∨ q = 23 ∨ q = 24 ∨ q = 25 ∨ q = 26 by omega) with rfl | rfl | rfl | rfl | rfl | rfl | rfl | rfl | rfl | rfl | rfl | rfl | rfl | rfl | rfl | rfl | rfl | rfl | rfl | rfl
    · show C 7 z = h 56 z
      rw [c1 7 (by decide), ← ha]; rfl
    · show C 8 z = h 57 z
      rw [c1 8 (by decide), ← ha]; rfl
    · show C 9 z = h 58 z
      rw [c1 9 (by decide), ← ha]; rfl
    · show C 10 z = h 59 z
      rw [c1 10 (by decide), ← ha]; rfl
    · show C 11 z = h 60 z
      rw [c1 11 (by decide), ← ha]; rfl
    · show C 12 z = h 61 z
      rw [c1 12 (by decide), ← ha]; rfl
    · show C 13 z = h 62 z
      rw [c1 13 (by decide), ← ha]; rfl
    · show C 14 z = h 63 z
      rw [c1 14 (by decide), ← ha]; rfl
    · show C 15 z = h 64 z
      rw [c1 15 (by decide), ← ha]; rfl
    · show C 16 z = h 65 z
      rw [c1 16 (by decide)]
      show a 65 z = h 65 z
      rw [aq 65 (by decide)]
    · show C 17 z = h 66 z
      rw [c1 17 (by decide)]
      show a 66 z = h 66 z
      rw [aq 66 (by decide)]
    · show C 18 z = h 67 z
      rw [c1 18 (by decide)]
      show a 67 z = h 67 z
      rw [aq 67 (by decide)]
    · show C 19 z = h 68 z
      rw [c1 19 (by decide)]
      show a 68 z = h 68 z
      rw [aq 68 (by decide)]
    · show C 20 z = h 69 z
      rw [c2 z (by omega) (by omega)]
      show a 69 z = h 69 z
      rw [aq 69 (by decide)]
    · show C 70 z = h 70 z
      rw [cq 70 (by decide)]
    · show C 71 z = h 71 z
      rw [cq 71 (by decide)]
    · show C 72 z = h 72 z
      rw [cq 72 (by decide)]
    · show C 73 z = h 73 z
      rw [cq 73 (by decide)]
    · show C 74 z = h 74 z
      rw [cq 74 (by decide)]
    · show C 75 z = h 75 z
      rw [cq 75 (by decide)]

theorem lk_kv_lo (h : lh_HS) {q : Nat} (hq : q ≤ 26) : lh_kv h q = h (q + 49) := by unfold lh_kv; rw [if_pos hq]
theorem lk_core {h : lh_HS} (I : lh_I h) (Z : lh_Zc h 20) (R : lh_RM h) (S : lh_ST h) (C : lh_CV h) : lh_INV true (gX9_keep (gX2_copyFrom_k h)) := by
  obtain ⟨g1, g2, g3⟩ := lk_copyk h
  generalize gX2_copyFrom_k h = g at *
  obtain ⟨m1, m2, m3, m4, m5, m6, m7, m8, m9⟩ := lm_keep g
  unfold gX9_keep
  generalize gX9_moveAll g 1 = m at *
  generalize hh : lh_up m 37 8 1 = h2
  have e : ∀ q, q ≠ 46 → q ≠ 37 → h2 q = g q := fun q a b => by rw [← hh, lh_up_r, if_neg b, m1 q a b]
  have e' : ∀ q, q < 51 → q ≠ 46 → q ≠ 37 → h2 q = h q := fun q a b c => by rw [e q b c, g1 q a]
  have e46 : h2 46 = m 46 := by rw [← hh, lh_up_r, if_neg (by decide)]
  have f : lh_fr h h2 := fun q a b => e' q (by omega) (by omega) (by omega)
  have hs : lk_hs h (lh_kv h2) := by
    refine ⟨fun q a b => ?_, fun q z a b c => ?_⟩
    · rw [lk_kv_lo h2 (by omega), e (q + 49) (by omega) (by omega), g2 q a b]
    · rw [lk_kv_lo h2 b, e (q + 49) (by omega) (by omega), g3 q z a b c]
  have ms : lk_ms h (lh_kv h2) := by
    refine ⟨fun z hz => ?_, fun z hz => ?_, fun z hz => ?_, fun z hz => ?_, fun z hz => ?_, fun z hz => ?_, fun z hz => ?_⟩
    · show h2 46 z = h 38 z
      rw [e46, m3 z hz, g1 38 (by decide)]
    · show h2 46 (5 + z) = h 39 z
      rw [e46, m4 z hz, g1 39 (by decide)]
    · show h2 46 (9 + z) = h 40 z
      rw [e46, m5 z hz, g1 40 (by decide)]
    · show h2 46 (49 + z) = h 41 z
      rw [e46, m6 z hz, g1 41 (by decide)]
    · show h2 46 (105 + z) = h 42 z
      rw [e46, m7 z hz, g1 42 (by decide)]
    · show h2 46 (255 + z) = h 43 z
      rw [e46, m8 z hz, g1 43 (by decide)]
    · show h2 46 (291 + z) = h 44 z
      rw [e46, m9 z hz, g1 44 (by decide)]
  refine ⟨I.fr f, fun j hj => ?_, fun _ j hj => ?_, R.fr f (fun q a b => e' q (by omega) (by omega) (by omega)), fun j hj => ?_, C.fr f (e' 30 (by decide) (by decide) (by decide)) (e' 31 (by decide) (by decide) (by decide)) (e' 34 (by decide) (by decide) (by decide)), ?_, fun _ => ⟨hs.I I, hs.R ms I R⟩⟩
  · rw [e' 20 (by decide) (by decide) (by decide)]; exact Z j hj
  · rw [e 69 (by decide) (by decide), g3 20 j (by decide) (by decide) (Or.inl hj)]; exact Z j hj
  · rw [e' 45 (by decide) (by decide) (by decide)]; exact S j hj
  · rw [← hh, lh_up_eq]; rfl
theorem op_keep_t {h : lh_HS} (L : lh_INV true h) : lh_INV true (gX9_keep (gX8_keep_t h)) := lk_core L.1 L.2.1 L.2.2.2.1 L.2.2.2.2.1 L.2.2.2.2.2.1
theorem op_keep_f {h : lh_HS} (L : lh_INV false h) : lh_INV true (gX9_keep (gX2_copyFrom_k (lh_hk h))) := by
  have e : ∀ q, q < 50 → lh_hk h q = h q := fun q hq => by unfold lh_hk; rw [if_pos hq]
  have f : lh_fr h (lh_hk h) := fun q a b => e q (by omega)
  refine lk_core (L.1.fr f) (fun j hj => ?_) (L.2.2.2.1.fr f (fun q a b => e q (by omega))) (fun j hj => ?_) (L.2.2.2.2.2.1.fr f (e 30 (by decide)) (e 31 (by decide)) (e 34 (by decide)))
  · rw [e 20 (by decide)]; exact L.2.1 j hj
  · rw [e 45 (by decide)]; exact L.2.2.2.2.1 j hj
theorem op_back_t {h : lh_HS} (L : lh_INV true h) : fX8_back_t h = fX9_back (gX8_back_t h) ∧ lh_INV true (gX9_back (gX8_back_t h)) := by
  obtain ⟨g1, g2, g3⟩ := lk_copyh h
  have h8 : h 37 8 = 1 := L.2.2.2.2.2.2.1
  unfold gX8_back_t fX8_back_t
  generalize gX2_copyFrom_h h = g at *
  generalize hh1 : gX8_changed g 1 = h1
  have e1 : ∀ q, q ≠ 30 → h1 q = g q := fun q a => by rw [← hh1]; show lh_up g 30 2 0 q = g q; rw [lh_up_r, if_neg a]
  have e30 : h1 30 2 = 0 := by rw [← hh1]; exact lh_up_eq g 30 2 0
  have n8 : ¬ h1 37 8 = 0 := by rw [e1 37 (by decide), g1 37 (by decide), h8]; decide
  unfold fX9_back gX9_back
  rw [if_neg n8, if_neg n8]
  refine ⟨rfl, ?_⟩
  obtain ⟨m1, m2, m3, m4, m5, m6, m7, m8, m9⟩ := lm_back h1
  generalize gX9_moveAll h1 0 = h2 at *
  have f46 : h1 46 = h 46 := by rw [e1 46 (by decide), g1 46 (by decide)]
  have hs : lk_hs (lh_kv h) h2 := by
    refine ⟨fun q a b => ?_, fun q z a b c => ?_⟩
    · rw [lk_kv_lo h (by omega), m1 q (by omega) (by omega), e1 q (by omega), g2 q a b]
    · rw [lk_kv_lo h b, m1 q (by omega) (by omega), e1 q (by omega), g3 q z a b c]
  have ms : lk_ms (lh_kv h) h2 := by
    refine ⟨fun z hz => ?_, fun z hz => ?_, fun z hz => ?_, fun z hz => ?_, fun z hz => ?_, fun z hz => ?_, fun z hz => ?_⟩
    · show h2 38 z = h 46 z
      rw [m3 z hz, f46]
    · show h2 39 z = h 46 (5 + z)
      rw [m4 z hz, f46]
    · show h2 40 z = h 46 (9 + z)
      rw [m5 z hz, f46]
    · show h2 41 z = h 46 (49 + z)
      rw [m6 z hz, f46]
    · show h2 42 z = h 46 (105 + z)
      rw [m7 z hz, f46]
    · show h2 43 z = h 46 (255 + z)
      rw [m8 z hz, f46]
    · show h2 44 z = h 46 (291 + z)
      rw [m9 z hz, f46]
  obtain ⟨Ik, Rk⟩ := L.2.2.2.2.2.2.2 rfl
  refine lh_INV_of L (hs.I Ik) (fun j hj => ?_) (hs.R ms Ik Rk) (Or.inl ?_) ⟨fun q hq => ?_, ?_, ?_, ?_⟩
  · rw [m1 20 (by decide) (by decide), e1 20 (by decide), g3 20 j (by decide) (by decide) (Or.inl hj)]; exact L.2.2.1 rfl j hj
  · rw [m1 30 (by decide) (by decide)]; exact e30
  · rw [m1 q (by omega) (by omega), e1 q (by omega), g1 q (by omega)]
  · rw [m1 46 (by decide) (by decide), f46]
  · rw [m2 8 (by decide), e1 37 (by decide), g1 37 (by decide)]
  · rw [m1 45 (by decide) (by decide), e1 45 (by decide), g1 45 (by decide)]
theorem op_back_f {h : lh_HS} (L : lh_INV false h) : fX8_back_f h = fX9_back h ∧ lh_INV false (gX9_back h) := by
  have h8 : h 37 8 = 0 := L.2.2.2.2.2.2.1
  unfold fX8_back_f fX9_back gX9_back
  rw [if_pos h8, if_pos h8]
  exact ⟨rfl, L⟩
