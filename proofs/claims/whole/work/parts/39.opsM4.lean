theorem lk_kv_lo (h : lh_HS) {q : Nat} (hq : q ≤ 26) : lh_kv h q = h (q + 49) := by unfold lh_kv; rw [if_pos hq]
theorem lk_core {h : lh_HS} (I : lh_I h) (Z : lh_Zc h 20) (R : lh_RM h) (S : lh_ST h) (C : lh_CV h) : lh_INV true (gX9_keep (gX2_copyFrom_k h)) := by
  obtain ⟨g1, g2, g3⟩ := lk_copyk h
  generalize gX2_copyFrom_k h = g at *
  obtain ⟨m1, m2, m3, m4, m5, m6, m7, m8, m9⟩ := lm_keep g
  unfold gX9_keep
  generalize gX9_moveAll g 1 = m at *
  generalize hh : lh_up m 37 8 1 = h2
  have e : ∀ q, q ≠ 46 → q ≠ 37 → h2 q = g q := fun q a b => by rw [← hh, lh_up_r, if_neg b, m1 q a b]
  have e' : ∀ q, q < 51 → q ≠ 46 → q ≠ 37 → h2 q = h q := fun q a b c => by rw [e q b c, g1 q a]
  have e46 : h2 46 = m 46 := by rw [← hh, lh_up_r, if_neg (by decide)]
  have f : lh_fr h h2 := fun q a b => e' q (by omega) (by omega) (by omega)
  have hs : lk_hs h (lh_kv h2) := by
    refine ⟨fun q a b => ?_, fun q z a b c => ?_⟩
    · rw [lk_kv_lo h2 (by omega), e (q + 49) (by omega) (by omega), g2 q a b]
    · rw [lk_kv_lo h2 b, e (q + 49) (by omega) (by omega), g3 q z a b c]
  have ms : lk_ms h (lh_kv h2) := by
    refine ⟨fun z hz => ?_, fun z hz => ?_, fun z hz => ?_, fun z hz => ?_, fun z hz => ?_, fun z hz => ?_, fun z hz => ?_⟩
    · rw [show lh_kv h2 38 z = h2 46 z from by simp [lh_kv], e46, m3 z hz, g1 38 (by decide)]
    · rw [show lh_kv h2 39 z = h2 46 (5 + z) from by simp [lh_kv], e46, m4 z hz, g1 39 (by decide)]
    · rw [show lh_kv h2 40 z = h2 46 (9 + z) from by simp [lh_kv], e46, m5 z hz, g1 40 (by decide)]
    · rw [show lh_kv h2 41 z = h2 46 (49 + z) from by simp [lh_kv], e46, m6 z hz, g1 41 (by decide)]
    · rw [show lh_kv h2 42 z = h2 46 (105 + z) from by simp [lh_kv], e46, m7 z hz, g1 42 (by decide)]
    · rw [show lh_kv h2 43 z = h2 46 (255 + z) from by simp [lh_kv], e46, m8 z hz, g1 43 (by decide)]
    · rw [show lh_kv h2 44 z = h2 46 (291 + z) from by simp [lh_kv], e46, m9 z hz, g1 44 (by decide)]
  refine ⟨I.fr f, fun j hj => ?_, fun _ j hj => ?_, R.fr f (fun q a b => e' q (by omega) (by omega) (by omega)), fun j hj => ?_, C.fr f (e' 30 (by decide) (by decide) (by decide)) (e' 31 (by decide) (by decide) (by decide)) (e' 34 (by decide) (by decide) (by decide)), ?_, fun _ => ⟨hs.I I, hs.R ms I R⟩⟩
  · rw [e' 20 (by decide) (by decide) (by decide)]; exact Z j hj
  · rw [e 69 (by decide) (by decide), g3 20 j (by decide) (by decide) (Or.inl hj)]; exact Z j hj
  · rw [e' 45 (by decide) (by decide) (by decide)]; exact S j hj
  · rw [← hh, lh_up_eq]; rfl
theorem op_back_f {h : lh_HS} (L : lh_INV false h) : fX8_back_f h = fX9_back h ∧ lh_INV false (gX9_back h) := by
  have h8 : h 37 8 = 0 := L.2.2.2.2.2.2.1
  unfold fX8_back_f fX9_back gX9_back
  rw [if_pos h8, if_pos h8]
  exact ⟨rfl, L⟩
