theorem lk_kv_lo (h : lh_HS) {q : Nat} (hq : q ≤ 26) : lh_kv h q = h (q + 49) := by unfold lh_kv; rw [if_pos hq]
theorem lk_core {h : lh_HS} (I : lh_I h) (Z : lh_Zc h 20) (R : lh_RM h) (S : lh_ST h) (C : lh_CV h) : lh_INV true (gX9_keep (gX2_copyFrom_k h)) := by
  obtain ⟨g1, g2, g3⟩ := lk_copyk h
  generalize gX2_copyFrom_k h = g at *
  obtain ⟨m1, m2, m3, m4, m5, m6, m7, m8, m9⟩ := lm_keep g
  unfold gX9_keep
  generalize gX9_moveAll g 1 = m at *
  generalize hh : lh_up m 37 8 1 = h2
  have e : ∀ q, q ≠ 46 → q ≠ 37 → h2 q = g q := fun q a b => by rw [← hh, lh_up_r, if_neg b, m1 q a b]
  have e' : ∀ q, q < 51 → q ≠ 46 → q ≠ 37 → h2 q = h q := fun q a b c => by rw [e q b c, g1 q a]
  have e46 : h2 46 = m 46 := by rw [← hh, lh_up_r, if_neg (by decide)]
  have f : lh_fr h h2 := fun q a b => e' q (by omega) (by omega) (by omega)
  have hs : lk_hs h (lh_kv h2) := by
    refine ⟨fun q a b => ?_, fun q z a b c => ?_⟩
    · rw [lk_kv_lo h2 (by omega), e (q + 49) (by omega) (by omega), g2 q a b]
    · rw [lk_kv_lo h2 b, e (q + 49) (by omega) (by omega), g3 q z a b c]
  have ms : lk_ms h (lh_kv h2) := by
    refine ⟨fun z hz => ?_, fun z hz => ?_, fun z hz => ?_, fun z hz => ?_, fun z hz => ?_, fun z hz => ?_, fun z hz => ?_⟩
    · rw [show lh_kv h2 38 z = h2 46 z from by simp [lh_kv], e46, m3 z hz, g1 38 (by decide)]
    · rw [show lh_kv h2 39 z = h2 46 (5 + z) from by simp [lh_kv], e46, m4 z hz, g1 39 (by decide)]
    · rw [show lh_kv h2 40 z = h2 46 (9 + z) from by simp [lh_kv], e46, m5 z hz, g1 40 (by decide)]
    · rw [show lh_kv h2 41 z = h2 46 (49 + z) from by simp [lh_kv], e46, m6 z hz, g1 41 (by decide)]
    · rw [show lh_kv h2 42 z = h2 46 (105 + z) from by simp [lh_kv], e46, m7 z hz, g1 42 (by decide)]
    · rw [show lh_kv h2 43 z = h2 46 (255 + z) from by simp [lh_kv], e46, m8 z hz, g1 43 (by decide)]
    · rw [show lh_kv h2 44 z = h2 46 (291 + z) from by simp [lh_kv], e46, m9 z hz, g1 44 (by decide)]
  refine ⟨I.fr f, fun j hj => ?_, fun _ j hj => ?_, R.fr f (fun q a b => e' q (by omega) (by omega) (by omega)), fun j hj => ?_, C.fr f (e' 30 (by decide) (by decide) (by decide)) (e' 31 (by decide) (by decide) (by decide)) (e' 34 (by decide) (by decide) (by decide)), ?_, fun _ => ⟨hs.I I, hs.R ms I R⟩⟩
  · rw [e' 20 (by decide) (by decide) (by decide)]; exact Z j hj
  · rw [e 69 (by decide) (by decide), g3 20 j (by decide) (by decide) (Or.inl hj)]; exact Z j hj
  · rw [e' 45 (by decide) (by decide) (by decide)]; exact S j hj
  · rw [← hh, lh_up_eq]; rfl
theorem op_keep_t {h : lh_HS} (L : lh_INV true h) : lh_INV true (gX9_keep (gX8_keep_t h)) := by
  unfold gX8_keep_t
  exact lk_core L.1 L.2.1 L.2.2.2.1 L.2.2.2.2.1 L.2.2.2.2.2.1
theorem op_keep_f {h : lh_HS} (L : lh_INV false h) : lh_INV true (gX9_keep (gX2_copyFrom_k (lh_hk h))) := by
  have e : ∀ q, q < 50 → lh_hk h q = h q := fun q hq => by unfold lh_hk; rw [if_pos hq]
  have f : lh_fr h (lh_hk h) := fun q a b => e q (by omega)
  refine lk_core (L.1.fr f) (fun j hj => ?_) (L.2.2.2.1.fr f (fun q a b => e q (by omega))) (fun j hj => ?_) (L.2.2.2.2.2.1.fr f (e 30 (by decide)) (e 31 (by decide)) (e 34 (by decide)))
  · rw [e 20 (by decide)]; exact L.2.1 j hj
  · rw [e 45 (by decide)]; exact L.2.2.2.2.1 j hj
theorem op_back_t {h : lh_HS} (L : lh_INV true h) : fX8_back_t h = fX9_back (gX8_back_t h) ∧ lh_INV true (gX9_back (gX8_back_t h)) := by
  obtain ⟨g1, g2, g3⟩ := lk_copyh h
  have h8 : h 37 8 = 1 := L.2.2.2.2.2.2.1
  unfold gX8_back_t fX8_back_t
  generalize gX2_copyFrom_h h = g at *
  generalize hh1 : gX8_changed g 1 = h1
  have e1 : ∀ q, q ≠ 30 → h1 q = g q := fun q a => by rw [← hh1]; show lh_up g 30 2 0 q = g q; rw [lh_up_r, if_neg a]
  have e30 : h1 30 2 = 0 := by rw [← hh1]; exact lh_up_eq g 30 2 0
  have n8 : ¬ h1 37 8 = 0 := by rw [e1 37 (by decide), g1 37 (by decide), h8]; decide
  unfold fX9_back gX9_back
  rw [if_neg n8, if_neg n8]
  refine ⟨rfl, ?_⟩
  obtain ⟨m1, m2, m3, m4, m5, m6, m7, m8, m9⟩ := lm_back h1
  generalize gX9_moveAll h1 0 = h2 at *
  have f46 : h1 46 = h 46 := by rw [e1 46 (by decide), g1 46 (by decide)]
  have hs : lk_hs (lh_kv h) h2 := by
    refine ⟨fun q a b => ?_, fun q z a b c => ?_⟩
    · rw [lk_kv_lo h (by omega), m1 q (by omega) (by omega), e1 q (by omega), g2 q a b]
    · rw [lk_kv_lo h b, m1 q (by omega) (by omega), e1 q (by omega), g3 q z a b c]
  have ms : lk_ms (lh_kv h) h2 := by
    refine ⟨fun z hz => ?_, fun z hz => ?_, fun z hz => ?_, fun z hz => ?_, fun z hz => ?_, fun z hz => ?_, fun z hz => ?_⟩
    · rw [show lh_kv h 38 z = h 46 z from by simp [lh_kv], m3 z hz, f46]
    · rw [show lh_kv h 39 z = h 46 (5 + z) from by simp [lh_kv], m4 z hz, f46]
    · rw [show lh_kv h 40 z = h 46 (9 + z) from by simp [lh_kv], m5 z hz, f46]
    · rw [show lh_kv h 41 z = h 46 (49 + z) from by simp [lh_kv], m6 z hz, f46]
    · rw [show lh_kv h 42 z = h 46 (105 + z) from by simp [lh_kv], m7 z hz, f46]
    · rw [show lh_kv h 43 z = h 46 (255 + z) from by simp [lh_kv], m8 z hz, f46]
    · rw [show lh_kv h 44 z = h 46 (291 + z) from by simp [lh_kv], m9 z hz, f46]
  obtain ⟨Ik, Rk⟩ := L.2.2.2.2.2.2.2 rfl
  refine lh_INV_of L (hs.I Ik) (fun j hj => ?_) (hs.R ms Ik Rk) (Or.inl ?_) ⟨fun q hq => ?_, ?_, ?_, ?_⟩
  · rw [m1 20 (by decide) (by decide), e1 20 (by decide), g3 20 j (by decide) (by decide) (Or.inl hj)]; exact L.2.2.1 rfl j hj
  · rw [m1 30 (by decide) (by decide)]; exact e30
  · rw [m1 q (by omega) (by omega), e1 q (by omega), g1 q (by omega)]
  · rw [m1 46 (by decide) (by decide), f46]
  · rw [m2 8 (by decide), e1 37 (by decide), g1 37 (by decide)]
  · rw [m1 45 (by decide) (by decide), e1 45 (by decide), g1 45 (by decide)]
theorem op_back_f {h : lh_HS} (L : lh_INV false h) : fX8_back_f h = fX9_back h ∧ lh_INV false (gX9_back h) := by
  have h8 : h 37 8 = 0 := L.2.2.2.2.2.2.1
  unfold fX8_back_f fX9_back gX9_back
  rw [if_pos h8, if_pos h8]
  exact ⟨rfl, L⟩
