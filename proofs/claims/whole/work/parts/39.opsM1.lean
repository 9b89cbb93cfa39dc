theorem lk_ck : ∀ (n i : Nat) (h : lh_HS), i + n ≤ 30 → (∀ q, q ≠ 69 → LX0_copy_k_h n i h q = h q) ∧ (∀ z, z < i → LX0_copy_k_h n i h 69 z = h 69 z) ∧ (∀ z, i ≤ z → z < i + n → LX0_copy_k_h n i h 69 z = h 20 z) := by
  intro n
  induction n with
  | zero => intro i h hi; exact ⟨fun _ _ => rfl, fun _ _ => rfl, fun z h1 h2 => by omega⟩
  | succ n ih =>
    intro i h hi
    simp only [LX0_copy_k_h]
    rw [nI_clamp (by omega)]
    obtain ⟨x1, x2, x3⟩ := ih (i + 1) (lh_up h 69 i (h 20 i)) (by omega)
    refine ⟨fun q hq => by rw [x1 q hq, lh_up_r, if_neg hq], fun z hz => by rw [x2 z (by omega), lh_up_ne (Or.inr (by omega))], fun z h1 h2 => ?_⟩
    by_cases e : z = i
    · rw [e, x2 i (by omega), lh_up_eq]
    · rw [x3 z (by omega) (by omega), lh_up_ne (Or.inl (by decide))]
theorem lk_ch : ∀ (n i : Nat) (h : lh_HS), i + n ≤ 30 → (∀ q, q ≠ 20 → LX0_copy_h_h n i h q = h q) ∧ (∀ z, z < i → LX0_copy_h_h n i h 20 z = h 20 z) ∧ (∀ z, i ≤ z → z < i + n → LX0_copy_h_h n i h 20 z = h 69 z) := by
  intro n
  induction n with
  | zero => intro i h hi; exact ⟨fun _ _ => rfl, fun _ _ => rfl, fun z h1 h2 => by omega⟩
  | succ n ih =>
    intro i h hi
    simp only [LX0_copy_h_h]
    rw [nI_clamp (by omega)]
    obtain ⟨x1, x2, x3⟩ := ih (i + 1) (lh_up h 20 i (h 69 i)) (by omega)
    refine ⟨fun q hq => by rw [x1 q hq, lh_up_r, if_neg hq], fun z hz => by rw [x2 z (by omega), lh_up_ne (Or.inr (by omega))], fun z h1 h2 => ?_⟩
    by_cases e : z = i
    · rw [e, x2 i (by omega), lh_up_eq]
    · rw [x3 z (by omega) (by omega), lh_up_ne (Or.inl (by decide))]
